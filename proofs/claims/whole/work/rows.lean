section
-- ===== PART A: goes FIRST, ahead of the names: the tables' words, and 'selects' of the private methods out of them =====
/-- a private method of a class that the tables say can be made, by its rows of tables_1 -/
def lw_okq (q : MethodName × Nat) : Prop := (q.1.cls ≠ "java/lang/invoke/MethodHandle" ∧ q.1.cls ≠ "java/lang/invoke/VarHandle") ∧ Cond.instantiable q.1.cls q.2 ∈ tables_1 ∧ Cond.privateMethod q.1 ∈ tables_1 ∧ Cond.instanceMethod q.1 ∈ tables_1
theorem lw_p0 : lw_okq (⟨"IceLanes$River", "hasThawed", "()Z"⟩, 6) := ⟨⟨by decide +kernel, by decide +kernel⟩, List.mem_of_getElem? (i := 26) (by decide +kernel), List.mem_of_getElem? (i := 157) (by decide +kernel), List.mem_of_getElem? (i := 158) (by decide +kernel)⟩
theorem lw_p1 : lw_okq (⟨"IceLanes$River", "become", "(LIceLanes$River;)V"⟩, 6) := ⟨⟨by decide +kernel, by decide +kernel⟩, List.mem_of_getElem? (i := 26) (by decide +kernel), List.mem_of_getElem? (i := 161) (by decide +kernel), List.mem_of_getElem? (i := 162) (by decide +kernel)⟩
theorem lw_p2 : lw_okq (⟨"IceLanes$Ice", "become", "(LIceLanes$Ice;)V"⟩, 2) := ⟨⟨by decide +kernel, by decide +kernel⟩, List.mem_of_getElem? (i := 32) (by decide +kernel), List.mem_of_getElem? (i := 168) (by decide +kernel), List.mem_of_getElem? (i := 169) (by decide +kernel)⟩
theorem lw_p3 : lw_okq (⟨"IceLanes$Couriers", "become", "(LIceLanes$Couriers;)V"⟩, 10) := ⟨⟨by decide +kernel, by decide +kernel⟩, List.mem_of_getElem? (i := 48) (by decide +kernel), List.mem_of_getElem? (i := 173) (by decide +kernel), List.mem_of_getElem? (i := 174) (by decide +kernel)⟩
theorem lw_p4 : lw_okq (⟨"IceLanes$River", "dayOfThaw", "()I"⟩, 6) := ⟨⟨by decide +kernel, by decide +kernel⟩, List.mem_of_getElem? (i := 26) (by decide +kernel), List.mem_of_getElem? (i := 178) (by decide +kernel), List.mem_of_getElem? (i := 179) (by decide +kernel)⟩
theorem lw_p5 : lw_okq (⟨"IceLanes$River", "spendHour", "()I"⟩, 6) := ⟨⟨by decide +kernel, by decide +kernel⟩, List.mem_of_getElem? (i := 26) (by decide +kernel), List.mem_of_getElem? (i := 183) (by decide +kernel), List.mem_of_getElem? (i := 184) (by decide +kernel)⟩
theorem lw_p6 : lw_okq (⟨"IceLanes$Ice", "meetDay", "(I)V"⟩, 2) := ⟨⟨by decide +kernel, by decide +kernel⟩, List.mem_of_getElem? (i := 32) (by decide +kernel), List.mem_of_getElem? (i := 190) (by decide +kernel), List.mem_of_getElem? (i := 191) (by decide +kernel)⟩
theorem lw_p7 : lw_okq (⟨"IceLanes$Ice", "isOpenAcross", "()Z"⟩, 2) := ⟨⟨by decide +kernel, by decide +kernel⟩, List.mem_of_getElem? (i := 32) (by decide +kernel), List.mem_of_getElem? (i := 200) (by decide +kernel), List.mem_of_getElem? (i := 201) (by decide +kernel)⟩
theorem lw_p8 : lw_okq (⟨"IceLanes$River", "travels", "(I)Z"⟩, 6) := ⟨⟨by decide +kernel, by decide +kernel⟩, List.mem_of_getElem? (i := 26) (by decide +kernel), List.mem_of_getElem? (i := 207) (by decide +kernel), List.mem_of_getElem? (i := 208) (by decide +kernel)⟩
theorem lw_p9 : lw_okq (⟨"IceLanes$River", "step", "(I)V"⟩, 6) := ⟨⟨by decide +kernel, by decide +kernel⟩, List.mem_of_getElem? (i := 26) (by decide +kernel), List.mem_of_getElem? (i := 211) (by decide +kernel), List.mem_of_getElem? (i := 212) (by decide +kernel)⟩
theorem lw_p10 : lw_okq (⟨"IceLanes$Couriers", "loadOf", "(I)I"⟩, 10) := ⟨⟨by decide +kernel, by decide +kernel⟩, List.mem_of_getElem? (i := 48) (by decide +kernel), List.mem_of_getElem? (i := 215) (by decide +kernel), List.mem_of_getElem? (i := 216) (by decide +kernel)⟩
theorem lw_p11 : lw_okq (⟨"IceLanes$Couriers", "nextSection", "(I)I"⟩, 10) := ⟨⟨by decide +kernel, by decide +kernel⟩, List.mem_of_getElem? (i := 48) (by decide +kernel), List.mem_of_getElem? (i := 219) (by decide +kernel), List.mem_of_getElem? (i := 220) (by decide +kernel)⟩
theorem lw_p12 : lw_okq (⟨"IceLanes$Couriers", "isAtGoal", "(I)Z"⟩, 10) := ⟨⟨by decide +kernel, by decide +kernel⟩, List.mem_of_getElem? (i := 48) (by decide +kernel), List.mem_of_getElem? (i := 223) (by decide +kernel), List.mem_of_getElem? (i := 224) (by decide +kernel)⟩
theorem lw_p13 : lw_okq (⟨"IceLanes$Ice", "laneFor", "(III)I"⟩, 2) := ⟨⟨by decide +kernel, by decide +kernel⟩, List.mem_of_getElem? (i := 32) (by decide +kernel), List.mem_of_getElem? (i := 227) (by decide +kernel), List.mem_of_getElem? (i := 228) (by decide +kernel)⟩
theorem lw_p14 : lw_okq (⟨"IceLanes$Ice", "soundness", "(II)I"⟩, 2) := ⟨⟨by decide +kernel, by decide +kernel⟩, List.mem_of_getElem? (i := 32) (by decide +kernel), List.mem_of_getElem? (i := 231) (by decide +kernel), List.mem_of_getElem? (i := 232) (by decide +kernel)⟩
theorem lw_p15 : lw_okq (⟨"IceLanes$Ice", "withstands", "(III)Z"⟩, 2) := ⟨⟨by decide +kernel, by decide +kernel⟩, List.mem_of_getElem? (i := 32) (by decide +kernel), List.mem_of_getElem? (i := 235) (by decide +kernel), List.mem_of_getElem? (i := 236) (by decide +kernel)⟩
def lw_privs_1 : List (MethodName × Nat) := [(⟨"IceLanes$River", "hasThawed", "()Z"⟩, 6), (⟨"IceLanes$River", "become", "(LIceLanes$River;)V"⟩, 6), (⟨"IceLanes$Ice", "become", "(LIceLanes$Ice;)V"⟩, 2), (⟨"IceLanes$Couriers", "become", "(LIceLanes$Couriers;)V"⟩, 10), (⟨"IceLanes$River", "dayOfThaw", "()I"⟩, 6), (⟨"IceLanes$River", "spendHour", "()I"⟩, 6), (⟨"IceLanes$Ice", "meetDay", "(I)V"⟩, 2), (⟨"IceLanes$Ice", "isOpenAcross", "()Z"⟩, 2), (⟨"IceLanes$River", "travels", "(I)Z"⟩, 6), (⟨"IceLanes$River", "step", "(I)V"⟩, 6), (⟨"IceLanes$Couriers", "loadOf", "(I)I"⟩, 10), (⟨"IceLanes$Couriers", "nextSection", "(I)I"⟩, 10), (⟨"IceLanes$Couriers", "isAtGoal", "(I)Z"⟩, 10), (⟨"IceLanes$Ice", "laneFor", "(III)I"⟩, 2), (⟨"IceLanes$Ice", "soundness", "(II)I"⟩, 2), (⟨"IceLanes$Ice", "withstands", "(III)Z"⟩, 2)]
theorem lw_r1 : ∀ q ∈ lw_privs_1, lw_okq q := List.forall_mem_cons.mpr ⟨lw_p0, List.forall_mem_cons.mpr ⟨lw_p1, List.forall_mem_cons.mpr ⟨lw_p2, List.forall_mem_cons.mpr ⟨lw_p3, List.forall_mem_cons.mpr ⟨lw_p4, List.forall_mem_cons.mpr ⟨lw_p5, List.forall_mem_cons.mpr ⟨lw_p6, List.forall_mem_cons.mpr ⟨lw_p7, List.forall_mem_cons.mpr ⟨lw_p8, List.forall_mem_cons.mpr ⟨lw_p9, List.forall_mem_cons.mpr ⟨lw_p10, List.forall_mem_cons.mpr ⟨lw_p11, List.forall_mem_cons.mpr ⟨lw_p12, List.forall_mem_cons.mpr ⟨lw_p13, List.forall_mem_cons.mpr ⟨lw_p14, List.forall_mem_cons.mpr ⟨lw_p15, fun _ h => absurd h List.not_mem_nil⟩⟩⟩⟩⟩⟩⟩⟩⟩⟩⟩⟩⟩⟩⟩⟩
theorem lw_p16 : lw_okq (⟨"IceLanes$River", "rest", "(I)V"⟩, 6) := ⟨⟨by decide +kernel, by decide +kernel⟩, List.mem_of_getElem? (i := 26) (by decide +kernel), List.mem_of_getElem? (i := 240) (by decide +kernel), List.mem_of_getElem? (i := 241) (by decide +kernel)⟩
theorem lw_p17 : lw_okq (⟨"IceLanes$Ice", "inAll", "()I"⟩, 2) := ⟨⟨by decide +kernel, by decide +kernel⟩, List.mem_of_getElem? (i := 32) (by decide +kernel), List.mem_of_getElem? (i := 249) (by decide +kernel), List.mem_of_getElem? (i := 250) (by decide +kernel)⟩
theorem lw_p18 : lw_okq (⟨"IceLanes", "counted", "(I)I"⟩, 3) := ⟨⟨by decide +kernel, by decide +kernel⟩, List.mem_of_getElem? (i := 18) (by decide +kernel), List.mem_of_getElem? (i := 259) (by decide +kernel), List.mem_of_getElem? (i := 260) (by decide +kernel)⟩
theorem lw_p19 : lw_okq (⟨"IceLanes$Couriers", "numberWhose", "(I)I"⟩, 10) := ⟨⟨by decide +kernel, by decide +kernel⟩, List.mem_of_getElem? (i := 48) (by decide +kernel), List.mem_of_getElem? (i := 263) (by decide +kernel), List.mem_of_getElem? (i := 264) (by decide +kernel)⟩
theorem lw_p20 : lw_okq (⟨"IceLanes$Ice", "cracksInAll", "()I"⟩, 2) := ⟨⟨by decide +kernel, by decide +kernel⟩, List.mem_of_getElem? (i := 32) (by decide +kernel), List.mem_of_getElem? (i := 267) (by decide +kernel), List.mem_of_getElem? (i := 268) (by decide +kernel)⟩
theorem lw_p21 : lw_okq (⟨"IceLanes$Ice", "placesOfOpenWater", "()I"⟩, 2) := ⟨⟨by decide +kernel, by decide +kernel⟩, List.mem_of_getElem? (i := 32) (by decide +kernel), List.mem_of_getElem? (i := 271) (by decide +kernel), List.mem_of_getElem? (i := 272) (by decide +kernel)⟩
theorem lw_p22 : lw_okq (⟨"IceLanes$River", "huts", "()I"⟩, 6) := ⟨⟨by decide +kernel, by decide +kernel⟩, List.mem_of_getElem? (i := 26) (by decide +kernel), List.mem_of_getElem? (i := 275) (by decide +kernel), List.mem_of_getElem? (i := 276) (by decide +kernel)⟩
theorem lw_p23 : lw_okq (⟨"IceLanes$Wagers", "allStakes", "()I"⟩, 3) := ⟨⟨by decide +kernel, by decide +kernel⟩, List.mem_of_getElem? (i := 124) (by decide +kernel), List.mem_of_getElem? (i := 279) (by decide +kernel), List.mem_of_getElem? (i := 280) (by decide +kernel)⟩
theorem lw_p24 : lw_okq (⟨"IceLanes", "mixedWithRiver", "(J)J"⟩, 3) := ⟨⟨by decide +kernel, by decide +kernel⟩, List.mem_of_getElem? (i := 18) (by decide +kernel), List.mem_of_getElem? (i := 287) (by decide +kernel), List.mem_of_getElem? (i := 288) (by decide +kernel)⟩
theorem lw_p25 : lw_okq (⟨"IceLanes", "mixedWithCouriers", "(J)J"⟩, 3) := ⟨⟨by decide +kernel, by decide +kernel⟩, List.mem_of_getElem? (i := 18) (by decide +kernel), List.mem_of_getElem? (i := 291) (by decide +kernel), List.mem_of_getElem? (i := 292) (by decide +kernel)⟩
theorem lw_p26 : lw_okq (⟨"IceLanes$Couriers", "tell", "(II)I"⟩, 10) := ⟨⟨by decide +kernel, by decide +kernel⟩, List.mem_of_getElem? (i := 48) (by decide +kernel), List.mem_of_getElem? (i := 295) (by decide +kernel), List.mem_of_getElem? (i := 296) (by decide +kernel)⟩
theorem lw_p27 : lw_okq (⟨"IceLanes", "mixedWithWagers", "(J)J"⟩, 3) := ⟨⟨by decide +kernel, by decide +kernel⟩, List.mem_of_getElem? (i := 18) (by decide +kernel), List.mem_of_getElem? (i := 299) (by decide +kernel), List.mem_of_getElem? (i := 300) (by decide +kernel)⟩
theorem lw_p28 : lw_okq (⟨"IceLanes", "winOf", "(I)I"⟩, 3) := ⟨⟨by decide +kernel, by decide +kernel⟩, List.mem_of_getElem? (i := 18) (by decide +kernel), List.mem_of_getElem? (i := 303) (by decide +kernel), List.mem_of_getElem? (i := 304) (by decide +kernel)⟩
theorem lw_p29 : lw_okq (⟨"IceLanes$Wagers", "winOn", "(II)I"⟩, 3) := ⟨⟨by decide +kernel, by decide +kernel⟩, List.mem_of_getElem? (i := 124) (by decide +kernel), List.mem_of_getElem? (i := 307) (by decide +kernel), List.mem_of_getElem? (i := 308) (by decide +kernel)⟩
theorem lw_p30 : lw_okq (⟨"IceLanes$Wagers", "daysBeside", "(II)I"⟩, 3) := ⟨⟨by decide +kernel, by decide +kernel⟩, List.mem_of_getElem? (i := 124) (by decide +kernel), List.mem_of_getElem? (i := 311) (by decide +kernel), List.mem_of_getElem? (i := 312) (by decide +kernel)⟩
theorem lw_p31 : lw_okq (⟨"java/lang/Throwable", "fillInStackTrace", "(I)Ljava/lang/Throwable;"⟩, 6) := ⟨⟨by decide +kernel, by decide +kernel⟩, List.mem_of_getElem? (i := 369) (by decide +kernel), List.mem_of_getElem? (i := 367) (by decide +kernel), List.mem_of_getElem? (i := 368) (by decide +kernel)⟩
def lw_privs_2 : List (MethodName × Nat) := [(⟨"IceLanes$River", "rest", "(I)V"⟩, 6), (⟨"IceLanes$Ice", "inAll", "()I"⟩, 2), (⟨"IceLanes", "counted", "(I)I"⟩, 3), (⟨"IceLanes$Couriers", "numberWhose", "(I)I"⟩, 10), (⟨"IceLanes$Ice", "cracksInAll", "()I"⟩, 2), (⟨"IceLanes$Ice", "placesOfOpenWater", "()I"⟩, 2), (⟨"IceLanes$River", "huts", "()I"⟩, 6), (⟨"IceLanes$Wagers", "allStakes", "()I"⟩, 3), (⟨"IceLanes", "mixedWithRiver", "(J)J"⟩, 3), (⟨"IceLanes", "mixedWithCouriers", "(J)J"⟩, 3), (⟨"IceLanes$Couriers", "tell", "(II)I"⟩, 10), (⟨"IceLanes", "mixedWithWagers", "(J)J"⟩, 3), (⟨"IceLanes", "winOf", "(I)I"⟩, 3), (⟨"IceLanes$Wagers", "winOn", "(II)I"⟩, 3), (⟨"IceLanes$Wagers", "daysBeside", "(II)I"⟩, 3), (⟨"java/lang/Throwable", "fillInStackTrace", "(I)Ljava/lang/Throwable;"⟩, 6)]
theorem lw_r2 : ∀ q ∈ lw_privs_2, lw_okq q := List.forall_mem_cons.mpr ⟨lw_p16, List.forall_mem_cons.mpr ⟨lw_p17, List.forall_mem_cons.mpr ⟨lw_p18, List.forall_mem_cons.mpr ⟨lw_p19, List.forall_mem_cons.mpr ⟨lw_p20, List.forall_mem_cons.mpr ⟨lw_p21, List.forall_mem_cons.mpr ⟨lw_p22, List.forall_mem_cons.mpr ⟨lw_p23, List.forall_mem_cons.mpr ⟨lw_p24, List.forall_mem_cons.mpr ⟨lw_p25, List.forall_mem_cons.mpr ⟨lw_p26, List.forall_mem_cons.mpr ⟨lw_p27, List.forall_mem_cons.mpr ⟨lw_p28, List.forall_mem_cons.mpr ⟨lw_p29, List.forall_mem_cons.mpr ⟨lw_p30, List.forall_mem_cons.mpr ⟨lw_p31, fun _ h => absurd h List.not_mem_nil⟩⟩⟩⟩⟩⟩⟩⟩⟩⟩⟩⟩⟩⟩⟩⟩
theorem lw_p32 : lw_okq (⟨"IceLanes$Ice", "mostBorneAt", "(II)I"⟩, 2) := ⟨⟨by decide +kernel, by decide +kernel⟩, List.mem_of_getElem? (i := 32) (by decide +kernel), List.mem_of_getElem? (i := 447) (by decide +kernel), List.mem_of_getElem? (i := 448) (by decide +kernel)⟩
theorem lw_p33 : lw_okq (⟨"IceLanes$Couriers", "notOutAt", "(II)I"⟩, 10) := ⟨⟨by decide +kernel, by decide +kernel⟩, List.mem_of_getElem? (i := 48) (by decide +kernel), List.mem_of_getElem? (i := 451) (by decide +kernel), List.mem_of_getElem? (i := 452) (by decide +kernel)⟩
theorem lw_p34 : lw_okq (⟨"IceLanes$Ice", "holds", "(III)Z"⟩, 2) := ⟨⟨by decide +kernel, by decide +kernel⟩, List.mem_of_getElem? (i := 32) (by decide +kernel), List.mem_of_getElem? (i := 480) (by decide +kernel), List.mem_of_getElem? (i := 481) (by decide +kernel)⟩
theorem lw_p35 : lw_okq (⟨"IceLanes$Couriers", "add", "(IIIII)I"⟩, 10) := ⟨⟨by decide +kernel, by decide +kernel⟩, List.mem_of_getElem? (i := 48) (by decide +kernel), List.mem_of_getElem? (i := 485) (by decide +kernel), List.mem_of_getElem? (i := 486) (by decide +kernel)⟩
theorem lw_p36 : lw_okq (⟨"IceLanes$Couriers", "has", "(I)Z"⟩, 10) := ⟨⟨by decide +kernel, by decide +kernel⟩, List.mem_of_getElem? (i := 48) (by decide +kernel), List.mem_of_getElem? (i := 496) (by decide +kernel), List.mem_of_getElem? (i := 497) (by decide +kernel)⟩
theorem lw_p37 : lw_okq (⟨"IceLanes$River", "holdsCourierWith", "(II)Z"⟩, 6) := ⟨⟨by decide +kernel, by decide +kernel⟩, List.mem_of_getElem? (i := 26) (by decide +kernel), List.mem_of_getElem? (i := 514) (by decide +kernel), List.mem_of_getElem? (i := 515) (by decide +kernel)⟩
theorem lw_p38 : lw_okq (⟨"IceLanes$Wagers", "add", "(II)I"⟩, 3) := ⟨⟨by decide +kernel, by decide +kernel⟩, List.mem_of_getElem? (i := 124) (by decide +kernel), List.mem_of_getElem? (i := 538) (by decide +kernel), List.mem_of_getElem? (i := 539) (by decide +kernel)⟩
theorem lw_p39 : lw_okq (⟨"IceLanes$Wagers", "has", "(I)Z"⟩, 3) := ⟨⟨by decide +kernel, by decide +kernel⟩, List.mem_of_getElem? (i := 124) (by decide +kernel), List.mem_of_getElem? (i := 549) (by decide +kernel), List.mem_of_getElem? (i := 550) (by decide +kernel)⟩
theorem lw_p40 : lw_okq (⟨"IceLanes$Ice", "mostBorneBetween", "(II)I"⟩, 2) := ⟨⟨by decide +kernel, by decide +kernel⟩, List.mem_of_getElem? (i := 32) (by decide +kernel), List.mem_of_getElem? (i := 581) (by decide +kernel), List.mem_of_getElem? (i := 582) (by decide +kernel)⟩
theorem lw_p41 : lw_okq (⟨"IceLanes$River", "hoursTillArrival", "(I)I"⟩, 6) := ⟨⟨by decide +kernel, by decide +kernel⟩, List.mem_of_getElem? (i := 26) (by decide +kernel), List.mem_of_getElem? (i := 593) (by decide +kernel), List.mem_of_getElem? (i := 594) (by decide +kernel)⟩
theorem lw_p42 : lw_okq (⟨"IceLanesModel", "no", "(I)I"⟩, 8) := ⟨⟨by decide +kernel, by decide +kernel⟩, List.mem_of_getElem? (i := 604) (by decide +kernel), List.mem_of_getElem? (i := 689) (by decide +kernel), List.mem_of_getElem? (i := 690) (by decide +kernel)⟩
theorem lw_p43 : lw_okq (⟨"IceLanesModel", "huts", "()I"⟩, 8) := ⟨⟨by decide +kernel, by decide +kernel⟩, List.mem_of_getElem? (i := 604) (by decide +kernel), List.mem_of_getElem? (i := 704) (by decide +kernel), List.mem_of_getElem? (i := 705) (by decide +kernel)⟩
theorem lw_p44 : lw_okq (⟨"IceLanesModel", "placeTold", "(II)I"⟩, 8) := ⟨⟨by decide +kernel, by decide +kernel⟩, List.mem_of_getElem? (i := 604) (by decide +kernel), List.mem_of_getElem? (i := 712) (by decide +kernel), List.mem_of_getElem? (i := 713) (by decide +kernel)⟩
theorem lw_p45 : lw_okq (⟨"IceLanesModel", "borne", "(I)I"⟩, 8) := ⟨⟨by decide +kernel, by decide +kernel⟩, List.mem_of_getElem? (i := 604) (by decide +kernel), List.mem_of_getElem? (i := 720) (by decide +kernel), List.mem_of_getElem? (i := 721) (by decide +kernel)⟩
theorem lw_p46 : lw_okq (⟨"IceLanesModel", "isCourier", "(I)Z"⟩, 8) := ⟨⟨by decide +kernel, by decide +kernel⟩, List.mem_of_getElem? (i := 604) (by decide +kernel), List.mem_of_getElem? (i := 738) (by decide +kernel), List.mem_of_getElem? (i := 739) (by decide +kernel)⟩
theorem lw_p47 : lw_okq (⟨"IceLanesModel", "won", "(I)I"⟩, 8) := ⟨⟨by decide +kernel, by decide +kernel⟩, List.mem_of_getElem? (i := 604) (by decide +kernel), List.mem_of_getElem? (i := 763) (by decide +kernel), List.mem_of_getElem? (i := 764) (by decide +kernel)⟩
def lw_privs_3 : List (MethodName × Nat) := [(⟨"IceLanes$Ice", "mostBorneAt", "(II)I"⟩, 2), (⟨"IceLanes$Couriers", "notOutAt", "(II)I"⟩, 10), (⟨"IceLanes$Ice", "holds", "(III)Z"⟩, 2), (⟨"IceLanes$Couriers", "add", "(IIIII)I"⟩, 10), (⟨"IceLanes$Couriers", "has", "(I)Z"⟩, 10), (⟨"IceLanes$River", "holdsCourierWith", "(II)Z"⟩, 6), (⟨"IceLanes$Wagers", "add", "(II)I"⟩, 3), (⟨"IceLanes$Wagers", "has", "(I)Z"⟩, 3), (⟨"IceLanes$Ice", "mostBorneBetween", "(II)I"⟩, 2), (⟨"IceLanes$River", "hoursTillArrival", "(I)I"⟩, 6), (⟨"IceLanesModel", "no", "(I)I"⟩, 8), (⟨"IceLanesModel", "huts", "()I"⟩, 8), (⟨"IceLanesModel", "placeTold", "(II)I"⟩, 8), (⟨"IceLanesModel", "borne", "(I)I"⟩, 8), (⟨"IceLanesModel", "isCourier", "(I)Z"⟩, 8), (⟨"IceLanesModel", "won", "(I)I"⟩, 8)]
theorem lw_r3 : ∀ q ∈ lw_privs_3, lw_okq q := List.forall_mem_cons.mpr ⟨lw_p32, List.forall_mem_cons.mpr ⟨lw_p33, List.forall_mem_cons.mpr ⟨lw_p34, List.forall_mem_cons.mpr ⟨lw_p35, List.forall_mem_cons.mpr ⟨lw_p36, List.forall_mem_cons.mpr ⟨lw_p37, List.forall_mem_cons.mpr ⟨lw_p38, List.forall_mem_cons.mpr ⟨lw_p39, List.forall_mem_cons.mpr ⟨lw_p40, List.forall_mem_cons.mpr ⟨lw_p41, List.forall_mem_cons.mpr ⟨lw_p42, List.forall_mem_cons.mpr ⟨lw_p43, List.forall_mem_cons.mpr ⟨lw_p44, List.forall_mem_cons.mpr ⟨lw_p45, List.forall_mem_cons.mpr ⟨lw_p46, List.forall_mem_cons.mpr ⟨lw_p47, fun _ h => absurd h List.not_mem_nil⟩⟩⟩⟩⟩⟩⟩⟩⟩⟩⟩⟩⟩⟩⟩⟩
theorem lw_p48 : lw_okq (⟨"IceLanesModel", "stakes", "()I"⟩, 8) := ⟨⟨by decide +kernel, by decide +kernel⟩, List.mem_of_getElem? (i := 604) (by decide +kernel), List.mem_of_getElem? (i := 767) (by decide +kernel), List.mem_of_getElem? (i := 768) (by decide +kernel)⟩
theorem lw_p49 : lw_okq (⟨"IceLanesModel$State", "weather", "()V"⟩, 8) := ⟨⟨by decide +kernel, by decide +kernel⟩, List.mem_of_getElem? (i := 610) (by decide +kernel), List.mem_of_getElem? (i := 779) (by decide +kernel), List.mem_of_getElem? (i := 780) (by decide +kernel)⟩
theorem lw_p50 : lw_okq (⟨"IceLanesModel$State", "listen", "()V"⟩, 8) := ⟨⟨by decide +kernel, by decide +kernel⟩, List.mem_of_getElem? (i := 610) (by decide +kernel), List.mem_of_getElem? (i := 785) (by decide +kernel), List.mem_of_getElem? (i := 786) (by decide +kernel)⟩
theorem lw_p51 : lw_okq (⟨"IceLanesModel$State", "step", "(I)V"⟩, 8) := ⟨⟨by decide +kernel, by decide +kernel⟩, List.mem_of_getElem? (i := 610) (by decide +kernel), List.mem_of_getElem? (i := 790) (by decide +kernel), List.mem_of_getElem? (i := 791) (by decide +kernel)⟩
theorem lw_p52 : lw_okq (⟨"IceLanesModel$State", "next", "(I)I"⟩, 8) := ⟨⟨by decide +kernel, by decide +kernel⟩, List.mem_of_getElem? (i := 610) (by decide +kernel), List.mem_of_getElem? (i := 794) (by decide +kernel), List.mem_of_getElem? (i := 795) (by decide +kernel)⟩
theorem lw_p53 : lw_okq (⟨"IceLanesModel", "counted", "(I)I"⟩, 8) := ⟨⟨by decide +kernel, by decide +kernel⟩, List.mem_of_getElem? (i := 604) (by decide +kernel), List.mem_of_getElem? (i := 808) (by decide +kernel), List.mem_of_getElem? (i := 809) (by decide +kernel)⟩
theorem lw_p54 : lw_okq (⟨"IceLanesModel$State", "copy", "([I[I)V"⟩, 8) := ⟨⟨by decide +kernel, by decide +kernel⟩, List.mem_of_getElem? (i := 610) (by decide +kernel), List.mem_of_getElem? (i := 825) (by decide +kernel), List.mem_of_getElem? (i := 826) (by decide +kernel)⟩
theorem lw_p55 : lw_okq (⟨"IceLanesModel", "arrivesAhead", "(I)I"⟩, 8) := ⟨⟨by decide +kernel, by decide +kernel⟩, List.mem_of_getElem? (i := 604) (by decide +kernel), List.mem_of_getElem? (i := 830) (by decide +kernel), List.mem_of_getElem? (i := 831) (by decide +kernel)⟩
def lw_privs_4 : List (MethodName × Nat) := [(⟨"IceLanesModel", "stakes", "()I"⟩, 8), (⟨"IceLanesModel$State", "weather", "()V"⟩, 8), (⟨"IceLanesModel$State", "listen", "()V"⟩, 8), (⟨"IceLanesModel$State", "step", "(I)V"⟩, 8), (⟨"IceLanesModel$State", "next", "(I)I"⟩, 8), (⟨"IceLanesModel", "counted", "(I)I"⟩, 8), (⟨"IceLanesModel$State", "copy", "([I[I)V"⟩, 8), (⟨"IceLanesModel", "arrivesAhead", "(I)I"⟩, 8)]
theorem lw_r4 : ∀ q ∈ lw_privs_4, lw_okq q := List.forall_mem_cons.mpr ⟨lw_p48, List.forall_mem_cons.mpr ⟨lw_p49, List.forall_mem_cons.mpr ⟨lw_p50, List.forall_mem_cons.mpr ⟨lw_p51, List.forall_mem_cons.mpr ⟨lw_p52, List.forall_mem_cons.mpr ⟨lw_p53, List.forall_mem_cons.mpr ⟨lw_p54, List.forall_mem_cons.mpr ⟨lw_p55, fun _ h => absurd h List.not_mem_nil⟩⟩⟩⟩⟩⟩⟩⟩
def lw_privs : List (MethodName × Nat) := lw_privs_1 ++ (lw_privs_2 ++ (lw_privs_3 ++ (lw_privs_4)))
def lw_tbl : List Cond := k2_sels lw_privs ++ tables_1
theorem lw_privs_ok : ∀ q ∈ lw_privs, lw_okq q := by
  show ∀ q ∈ lw_privs_1 ++ (lw_privs_2 ++ (lw_privs_3 ++ (lw_privs_4))), lw_okq q
  exact List.forall_mem_append.mpr ⟨lw_r1, List.forall_mem_append.mpr ⟨lw_r2, List.forall_mem_append.mpr ⟨lw_r3, lw_r4⟩⟩⟩
/-- the streams that the claim lets the run draw from -/
abbrev lw_cs : List Choice := [Jvm.Choice.named "NaN.bits"]
theorem lw_bits : nanBits ∈ lw_cs := by first | decide | exact List.mem_cons_self | simp [lw_cs, nanBits]
-- ===== end of PART A; then your names; then what follows =====
end
section
/-! ===== BEGIN words of one list among another's, by their places ===== -/
theorem goodIn_r {big : List Cond} (ws : List Cond) (ps : List Nat) (hp : ws = ps.filterMap (fun i => big[i]?)) (h : ws.all goodWord = true) : GoodIn big ws := by
  intro w hw
  have h1 := List.all_eq_true.mp h w hw
  rw [hp] at hw
  obtain ⟨i, -, hi⟩ := List.mem_filterMap.mp hw
  have hm : w ∈ big := by first | exact List.mem_of_getElem? hi | exact List.getElem?_mem hi
  exact ⟨hm, good_of_word h1⟩
theorem goodIn_app {big a b : List Cond} (ha : GoodIn big a) (hb : GoodIn big b) : GoodIn big (a ++ b) := fun w h => (List.mem_append.mp h).elim (ha w) (hb w)
theorem goodIn_ca {big a b : List Cond} {c : Cond} (ha : GoodIn big (c :: a)) (hb : GoodIn big b) : GoodIn big (c :: (a ++ b)) := fun w h => (List.mem_cons.mp h).elim (fun e => ha w (List.mem_cons.mpr (Or.inl e))) (fun h => (List.mem_append.mp h).elim (fun h => ha w (List.mem_cons.mpr (Or.inr h))) (hb w))
theorem goodIn_sub {big ws : List Cond} (hm : ∀ w ∈ ws, w ∈ big) (h : ws.all goodWord = true) : GoodIn big ws := fun w hw => ⟨hm w hw, good_of_word (List.all_eq_true.mp h w hw)⟩
/-! ===== END ===== -/

/-! ===== BEGIN exceptions that leave a method, and their catching by the caller (launches without stack traces) ===== -/
section VXA
/-! The laws vx_back, vx_callV, vx_callS, vx_callSW, vx_throw0, vx_throwS follow proofs of the library, with one case more: JvmDerived/Free/Laws.lean (Back.of_free), Shelf42/LK1.lean (callV, callS), Shelf/KitTraced.lean (throwNew0V, throwNewS). -/
/-- where a method has thrown q: the class by its name, the cell, what was written, the world -/
def vx_T (XC : String → State → State → Prop) (st : State) (q : Addr) (t : State) (mc ms : Nat) (free : Addr → Prop) : Prop :=
  ∃ (E : String) (ce : Cell) (L : List Loc), XC E st t ∧ t.heap[q]? = some ce ∧ ce.vm = .none ∧ st.vm.findClass E = some ce.cls ∧ st.WarmedH t.vm ∧ st.sameButNew ({ t with vm := st.vm } : State) L mc ms ∧ ∀ z ∈ L, free z.base
def vx_Q (Qc : Array Value → State → Outcome → State → Prop) (XC : String → State → State → Prop) (mc ms : Nat) (free : Addr → Prop) : Array Value → State → Outcome → State → Prop := fun a st o t =>
  (Qc a st o t ∧ ∃ L, FrameEnd st o t L mc ms ∧ ∀ q ∈ L, free q.base) ∨ ∃ q, o = .threw q ∧ vx_T XC st q t mc ms free
/-- a callee that returns or throws -/
def vx_Met (l : Launch) (y : MethodName) (ws : List Cond) (rm : Room) (Pc : Array Value → State → Prop) (Qc : Array Value → State → Outcome → State → Prop) (XC : String → State → State → Prop) (mc ms : Nat) (free : Addr → Prop) : Prop :=
  MetFree l y (headSpec ws rm) Pc (fun _ _ _ _ _ => True) (vx_Q Qc XC mc ms free)
def vx_Post (XC : String → State → State → Prop) (mc ms : Nat) (free : Addr → Prop) : Pt → Array Value → Addr → Pt → Prop := fun A a q B =>
  ∃ (g : JFrame) (mk : MethodId) (t : State) (L : List Loc) (E : String) (ce : Cell), B.U.heap = t.heap ∧ B.U.vm = t.vm ∧ XC E (A.U.calling g mk a) t ∧ t.heap[q]? = some ce ∧ ce.vm = .none ∧ A.U.vm.findClass E = some ce.cls ∧ B.locs = A.locs ++ L ∧ (∀ z ∈ L, free z.base) ∧ B.cells = A.cells + mc ∧ B.slots = A.slots + ms
def vx_Back (l : Launch) (R : Room) (p : Program) (e : Env) (below : List Frame) (s : State) (sargs : Array Value) (y : MethodName) (len W9 : Nat)
    (Pre : Pt → Array Value → Prop) (Post : Pt → Array Value → Option Value → Pt → Prop) (PostX : Pt → Array Value → Addr → Pt → Prop) : Prop :=
  ∀ (m : MethodId) (meth : Method) (c : Code) (A : Pt) (g : JFrame) (ig : Instr) (mk : MethodId) (a : Array Value),
    Stand p l e R s m sargs below meth c A.U A.locs A.cells A.slots → g.method = m → g.locals.size = c.maxLocals → decode c.code g.pc = .ok (ig, len) →
    2 * g.monitorRoom + (g.stack.map fun v => v.category).sum ≤ W9 → A.U.methodNamed? y = some mk → Pre A a →
    (∃ (v : Option Value) (B : Pt), Stand p l e R s m sargs below meth c B.U B.locs B.cells B.slots ∧ Post A a v B ∧
      Steps p.tables e below (doInvoke e (A.U.setTop g) [] mk a).1 (B.U.setTop { g with pc := g.pc + len, stack := v.toList ++ g.stack })) ∨
    (∃ (q : Addr) (B : Pt), Stand p l e R s m sargs below meth c B.U B.locs B.cells B.slots ∧ PostX A a q B ∧
      Steps p.tables e below (doInvoke e (A.U.setTop g) [] mk a).1 ((B.U.setTop g).pushFrame (.throwing q)))
section Payer
variable {l : Launch} {R : Room} {p : Program} {e : Env} {below : List Frame} {s : State} {sargs : Array Value} {y : MethodName} {len W9 : Nat}
theorem vx_back {ws : List Cond} {rm : Room} {Pc : Array Value → State → Prop} {Qc : Array Value → State → Outcome → State → Prop} {XC : String → State → State → Prop} {mc ms : Nat} {free : Addr → Prop} {bytes : ByteArray} {maxL : Nat} {ret : Option FieldType}
    (hM : vx_Met l y ws rm Pc Qc XC mc ms free) (hblind : FrameBlind Pc) (hrc : rm.cells = mc) (hrs : rm.slots = ms)
    (hframes : rm.frames + 1 ≤ R.frames) (hlocals : W9 + (maxL + 11) + rm.locals ≤ R.locals)
    (hws : ∀ w ∈ ws, ∀ a' U, s.WarmedH U.vm → w.before a' U = true) (hcode : Cond.code y bytes maxL ret ∈ ws) (hinit : ∀ a' U, s.WarmedH U.vm → (Cond.initialized y.cls).before a' U = true) :
    vx_Back l R p e below s sargs y len W9 (PreOf R mc ms Pc) (PostOf Qc mc ms free) (vx_Post XC mc ms free) := by
  intro m meth c A g ig mk a X hg hsize hdg hW hn hp
  have h1 : (headSpec ws rm).pre.before a A.U = true := atoms_intro fun w hw => hws w hw _ _ X.warmed
  have h2 : (Cond.code y bytes maxL ret).before a A.U = true := hws _ hcode _ _ X.warmed
  have h3 : (Cond.initialized y.cls).before a A.U = true := hinit _ _ X.warmed
  have h4 : A.cells + (headSpec ws rm).room.cells ≤ R.cells := by rw [show (headSpec ws rm).room.cells = mc from hrc]; exact hp.1
  have h5 : A.slots + (headSpec ws rm).room.slots ≤ R.slots := by rw [show (headSpec ws rm).room.slots = ms from hrs]; exact hp.2.1
  have hPc : Pc a (A.U.calling g mk a) := hblind _ _ _ _ hp.2.2
  obtain ⟨U, Ls, c0, s0⟩ := A
  dsimp only [Pt.U, Pt.locs, Pt.cells, Pt.slots] at h1 h2 h3 h4 h5 X hn hPc ⊢
  obtain ⟨methY, cY, hmY, hcY, -, hlY, -, -, -, -⟩ := Cond.code_spec hn h2
  obtain ⟨kY, hkY, -⟩ := className_of_methodNamed hn
  have hinitY : kY.init = .initialized := Cond.initialized_spec (findClass_of_methodNamed hn) hkY h3
  have h : At U g.method c below := by rw [hg]; exact X.here
  have hlocals9 : W9 + (maxL + 11) + (headSpec ws rm).room.locals ≤ R.locals := hlocals
  have happ : (headSpec ws rm).appliesLoose y e.platform (U.calling g mk a) = true :=
    Spec.appliesLoose_calling (g := g) h hdg hn hkY hinitY
      (X.room_calling (g := g) (R' := (headSpec ws rm).room) hsize hmY hcY hframes (by rw [hlY]; omega) h4 h5) h1
  obtain ⟨mid, hmid⟩ := h.above
  have hfr : (U.setTop g).frames = (.java g :: mid) ++ below := by rw [State.frames_setTop' g h.top, hmid]; rfl
  obtain ⟨o, s₂, hsteps, -, hend, hq⟩ := Steps.callFree hM p X.admits X.cas X.clock (acts := []) hfr happ hPc trivial
  have hq' : vx_Q Qc XC mc ms free a (U.calling g mk a) o s₂ := hq
  rw [State.frames_setTop' g h.top] at hend
  obtain ⟨g₀, hg0⟩ := Option.isSome_iff_exists.mp h.top
  obtain ⟨r, hr⟩ := State.topJava?_eq_some.mp hg0
  have hr' : (({ U with heap := s₂.heap, slotsUsed := s₂.slotsUsed } : State).setVm s₂.vm).frames = .java g₀ :: r := hr
  rcases hq' with ⟨hqc, L, hfe, hL⟩ | ⟨q, rfl, E, ce, L, hx, hce, hcv, hcl, hW₂, hsm, hL⟩
  · obtain ⟨⟨v, rfl⟩, hW₂, e2, q2, q3, q4, q5, q6⟩ := id hfe
    have e3 : s₂ = ({ (U.calling g mk a).setFrames s₂.frames with heap := s₂.heap, slotsUsed := s₂.slotsUsed } : State).setVm s₂.vm := by
      have : s₂ = ({ s₂ with vm := (U.calling g mk a).vm } : State).setVm s₂.vm := rfl
      rw [e2] at this
      exact this
    obtain ⟨c₂, i₂, len₂, hc₂, hd₂, hf₂⟩ := hend
    have hW' : U.WarmedH s₂.vm := hW₂
    have hcc : c₂ = c := by
      have h1 : s₂.code? g.method = U.code? g.method := by
        rw [State.code?_eq, State.code?_eq, hW'.alike.method?]
      exact Option.some.inj (hc₂.symm.trans (h1.trans h.code))
    subst hcc
    have hlen : len₂ = len := by rw [hdg] at hd₂; cases hd₂; rfl
    subst hlen
    have hs₂ : s₂ = (({ U with heap := s₂.heap, slotsUsed := s₂.slotsUsed } : State).setVm s₂.vm).setTop { g with pc := g.pc + len₂, stack := v.toList ++ g.stack } := by
      refine e3.trans ?_
      rw [hf₂, State.calling_eq h.top, State.setFrames_setFrames, State.setTop_of_frames _ hr', hr]
      rfl
    have hsame : U.sameButNew ({ U with heap := s₂.heap, slotsUsed := s₂.slotsUsed } : State) L mc ms := by
      refine ⟨?_, q2, q3, q4, q5, q6⟩
      obtain ⟨t, ht, -⟩ := State.frames_cons hr
      show ({ U with heap := s₂.heap, slotsUsed := s₂.slotsUsed } : State) = { U.setFrames U.frames with heap := s₂.heap, slotsUsed := s₂.slotsUsed }
      rw [State.setFrames_self ht]
    subst hg
    refine Or.inl ⟨v, ⟨(({ U with heap := s₂.heap, slotsUsed := s₂.slotsUsed } : State).setVm s₂.vm), Ls ++ L, c0 + mc, s0 + ms⟩,
      ⟨X.admits, X.cas, X.clock, X.frames, X.room, X.hears, X.method, X.code, (X.here.setHeapUsed s₂.heap s₂.slotsUsed).setVm hW'.alike, X.tail, State.WarmedH.trans X.warmed hW', X.limits, X.bytes, X.same.trans (hsame.setVm s.vm)⟩,
      ⟨g, mk, s₂, L, rfl, rfl, hqc, rfl, hL, rfl, rfl⟩, ?_⟩
    show Steps p.tables e below _ ((({ U with heap := s₂.heap, slotsUsed := s₂.slotsUsed } : State).setVm s₂.vm).setTop { g with pc := g.pc + len₂, stack := v.toList ++ g.stack })
    rw [← hs₂]
    exact hsteps
  · obtain ⟨e2, q2, q3, q4, q5, q6⟩ := id hsm
    have e3 : s₂ = ({ (U.calling g mk a).setFrames s₂.frames with heap := s₂.heap, slotsUsed := s₂.slotsUsed } : State).setVm s₂.vm := by
      have : s₂ = ({ s₂ with vm := (U.calling g mk a).vm } : State).setVm s₂.vm := rfl
      rw [e2] at this
      exact this
    have hf₂ : s₂.frames = .throwing q :: .java g :: U.frames.tail := hend
    have hW' : U.WarmedH s₂.vm := hW₂
    have hs₂ : s₂ = ((({ U with heap := s₂.heap, slotsUsed := s₂.slotsUsed } : State).setVm s₂.vm).setTop g).pushFrame (.throwing q) := by
      refine e3.trans ?_
      rw [hf₂, State.calling_eq h.top, State.setFrames_setFrames, State.pushFrame, State.frames_setTop _ hr', State.setTop_of_frames _ hr', State.setFrames_setFrames, hr]
      rfl
    have hsame : U.sameButNew ({ U with heap := s₂.heap, slotsUsed := s₂.slotsUsed } : State) L mc ms := by
      refine ⟨?_, q2, q3, q4, q5, q6⟩
      obtain ⟨t, ht, -⟩ := State.frames_cons hr
      show ({ U with heap := s₂.heap, slotsUsed := s₂.slotsUsed } : State) = { U.setFrames U.frames with heap := s₂.heap, slotsUsed := s₂.slotsUsed }
      rw [State.setFrames_self ht]
    subst hg
    refine Or.inr ⟨q, ⟨(({ U with heap := s₂.heap, slotsUsed := s₂.slotsUsed } : State).setVm s₂.vm), Ls ++ L, c0 + mc, s0 + ms⟩,
      ⟨X.admits, X.cas, X.clock, X.frames, X.room, X.hears, X.method, X.code, (X.here.setHeapUsed s₂.heap s₂.slotsUsed).setVm hW'.alike, X.tail, State.WarmedH.trans X.warmed hW', X.limits, X.bytes, X.same.trans (hsame.setVm s.vm)⟩,
      ⟨g, mk, s₂, L, E, ce, rfl, rfl, hx, hce, hcv, hcl, rfl, hL, rfl, rfl⟩, ?_⟩
    show Steps p.tables e below _ (((({ U with heap := s₂.heap, slotsUsed := s₂.slotsUsed } : State).setVm s₂.vm).setTop g).pushFrame (.throwing q))
    rw [← hs₂]
    exact hsteps
end Payer
section Calls
variable {p : Program} {l : Launch} {e : Env} {R : Room} {s : State} {m : MethodId} {args : Array Value} {below : List Frame} {meth : Method} {c : Code} {T : State} {locs : List Loc} {cells slots : Nat}
theorem vx_callV (X : Stand p l e R s m args below meth c T locs cells slots) (hexec : p.tables.exec = Jvm.exec) {own C : String} {index : Nat} {y : MethodName} {bytes : ByteArray} {maxL : Nat} {ret : Option FieldType}
    (hown : s.vm.findClass own = some m.cls) (hlink : (Cond.methodLink own index y).before args s = true) (hinst : (Cond.instanceMethod y).before args s = true) (hsel : (Cond.selects C y y).before args s = true)
    (hcode : (Cond.code y bytes maxL ret).before args s = true) (hy : y.cls ≠ "java/lang/invoke/MethodHandle" ∧ y.cls ≠ "java/lang/invoke/VarHandle")
    {W9 : Nat} {Pre : Pt → Array Value → Prop} {Post : Pt → Array Value → Option Value → Pt → Prop} {PostX : Pt → Array Value → Addr → Pt → Prop} (hK : vx_Back l R p e below s args y 3 W9 Pre Post PostX)
    {b : Addr} {cellB : Cell} (hcell : T.heap[b]? = some cellB) (hobj : cellB.vm.isStatics = false) (hcls : s.vm.findClass C = some cellB.cls)
    {g : JFrame} (hg : g.method = m) (hsize : g.locals.size = c.maxLocals) {argsL rest : List Value} (hlen : ∀ sig, parseMethodDescriptor y.desc = some sig → argsL.length = sig.parameters.length)
    (hstack : g.stack = argsL.reverse ++ .ref b :: rest) (hW : 2 * g.monitorRoom + (rest.map fun v => v.category).sum ≤ W9) (hdg : decode c.code g.pc = .ok (.invokevirtual index, 3))
    (hpre : ∀ vm₁, s.WarmedH vm₁ → Pre ⟨T.setVm vm₁, locs, cells, slots⟩ (Value.ref b :: argsL).toArray) :
    (∃ (v : Option Value) (vm₁ : Vm) (B : Pt), s.WarmedH vm₁ ∧ Stand p l e R s m args below meth c B.U B.locs B.cells B.slots ∧ Post ⟨T.setVm vm₁, locs, cells, slots⟩ (Value.ref b :: argsL).toArray v B ∧
      ∀ target, Steps p.tables e below (B.U.setTop { g with pc := g.pc + 3, stack := v.toList ++ rest }) target → Steps p.tables e below (T.setTop g) target) ∨
    (∃ (q : Addr) (vm₁ : Vm) (B : Pt), s.WarmedH vm₁ ∧ Stand p l e R s m args below meth c B.U B.locs B.cells B.slots ∧ PostX ⟨T.setVm vm₁, locs, cells, slots⟩ (Value.ref b :: argsL).toArray q B ∧
      Steps p.tables e below (T.setTop g) ((B.U.setTop { g with stack := rest }).pushFrame (.throwing q))) := by
  obtain ⟨mk, methM, hnamed, hmethM, hstM, habM⟩ := Cond.instanceMethod_spec hinst
  obtain ⟨methM', cM, hmethM', -, -, -, -, -, -, hsigM⟩ := Cond.code_spec hnamed hcode
  cases hmethM.symm.trans hmethM'
  obtain ⟨c2, r2, m2, q1, q2, q3, q4, kP, hkP, hkPi⟩ := Cond.selects_spec hsel
  cases hcls.symm.trans q1
  cases (State.methodFound?_of_named hnamed hy).symm.trans q2
  cases hnamed.symm.trans q3
  have hselP : selectMethod e.platform s.vm cellB.cls mk = .method mk := by rw [Launch.admits_selectMethod X.admits]; exact q4
  obtain ⟨vm₁, X₁, hstep₁⟩ := X.invokevirtual hexec hown hlink hnamed hmethM hstM hkP hkPi hy (a := b) (cell := cellB) hcell
    (fun z h => by rw [h] at hobj; cases hobj) hselP hmethM habM hkP hkPi (g := g) hg (argsL := argsL) (rest := rest) (hlen _ hsigM) hstack hdg
  rcases hK m meth c ⟨T.setVm vm₁, locs, cells, slots⟩ { g with stack := rest } (.invokevirtual index) mk (Value.ref b :: argsL).toArray X₁ hg hsize hdg hW (X₁.named hnamed) (hpre vm₁ X₁.warmed) with ⟨v, B, X', hpost, hsteps⟩ | ⟨q, B, X', hpost, hsteps⟩
  · exact Or.inl ⟨v, vm₁, B, X₁.warmed, X', hpost, fun target h => hstep₁ _ fun acts => by rw [doInvoke_state]; exact hsteps.trans h⟩
  · exact Or.inr ⟨q, vm₁, B, X₁.warmed, X', hpost, hstep₁ _ fun acts => by rw [doInvoke_state]; exact hsteps⟩
theorem vx_callS (X : Stand p l e R s m args below meth c T locs cells slots) (hexec : p.tables.exec = Jvm.exec) {own : String} {index : Nat} {y : MethodName} {bytes : ByteArray} {maxL : Nat} {ret : Option FieldType}
    (hown : s.vm.findClass own = some m.cls) (hlink : (Cond.methodLink own index y).before args s = true) (hstat : (Cond.static y).before args s = true) (hinit : (Cond.initialized y.cls).before args s = true)
    (hcode : (Cond.code y bytes maxL ret).before args s = true) (hy : y.cls ≠ "java/lang/invoke/MethodHandle" ∧ y.cls ≠ "java/lang/invoke/VarHandle")
    {W9 : Nat} {Pre : Pt → Array Value → Prop} {Post : Pt → Array Value → Option Value → Pt → Prop} {PostX : Pt → Array Value → Addr → Pt → Prop} (hK : vx_Back l R p e below s args y 3 W9 Pre Post PostX)
    {g : JFrame} (hg : g.method = m) (hsize : g.locals.size = c.maxLocals) {argsL rest : List Value} (hlen : ∀ sig, parseMethodDescriptor y.desc = some sig → argsL.length = sig.parameters.length)
    (hstack : g.stack = argsL.reverse ++ rest) (hW : 2 * g.monitorRoom + (rest.map fun v => v.category).sum ≤ W9) (hdg : decode c.code g.pc = .ok (.invokestatic index, 3))
    (hpre : ∀ vm₁, s.WarmedH vm₁ → Pre ⟨T.setVm vm₁, locs, cells, slots⟩ argsL.toArray) :
    (∃ (v : Option Value) (vm₁ : Vm) (B : Pt), s.WarmedH vm₁ ∧ Stand p l e R s m args below meth c B.U B.locs B.cells B.slots ∧ Post ⟨T.setVm vm₁, locs, cells, slots⟩ argsL.toArray v B ∧
      ∀ target, Steps p.tables e below (B.U.setTop { g with pc := g.pc + 3, stack := v.toList ++ rest }) target → Steps p.tables e below (T.setTop g) target) ∨
    (∃ (q : Addr) (vm₁ : Vm) (B : Pt), s.WarmedH vm₁ ∧ Stand p l e R s m args below meth c B.U B.locs B.cells B.slots ∧ PostX ⟨T.setVm vm₁, locs, cells, slots⟩ argsL.toArray q B ∧
      Steps p.tables e below (T.setTop g) ((B.U.setTop { g with stack := rest }).pushFrame (.throwing q))) := by
  obtain ⟨mk, hnamed⟩ := Cond.code_named hcode
  obtain ⟨methM, cM, hmethM, -, -, -, -, -, -, hsigM⟩ := Cond.code_spec hnamed hcode
  have hstatic : methM.isStatic = true := Cond.static_spec hnamed hmethM hstat
  obtain ⟨kP, hkP, -⟩ := className_of_methodNamed hnamed
  have hinitP : kP.init = .initialized := Cond.initialized_spec (findClass_of_methodNamed hnamed) hkP hinit
  obtain ⟨vm₁, X₁, hstep₁⟩ := X.invokestatic hexec hown hlink hnamed hmethM hstatic hkP hinitP hy (g := g) hg (argsL := argsL) (rest := rest) (hlen _ hsigM) hstack hdg
  rcases hK m meth c ⟨T.setVm vm₁, locs, cells, slots⟩ { g with stack := rest } (.invokestatic index) mk argsL.toArray X₁ hg hsize hdg hW (X₁.named hnamed) (hpre vm₁ X₁.warmed) with ⟨v, B, X', hpost, hsteps⟩ | ⟨q, B, X', hpost, hsteps⟩
  · exact Or.inl ⟨v, vm₁, B, X₁.warmed, X', hpost, fun target h => hstep₁ _ fun acts => by rw [doInvoke_state]; exact hsteps.trans h⟩
  · exact Or.inr ⟨q, vm₁, B, X₁.warmed, X', hpost, hstep₁ _ fun acts => by rw [doInvoke_state]; exact hsteps⟩
end Calls
theorem vx_cls {s : State} {T : State} {vm₁ : Vm} {E : String} {k : ClassId} (hW : s.WarmedH vm₁) (h : (T.setVm vm₁).vm.findClass E = some k) : s.vm.findClass E = some k := by
  have h1 : vm₁.findClass E = some k := h
  rw [hW.alike.findClass] at h1
  exact h1
/-- the method's frame g, with q thrown over it -/
def vx_W (p : Program) (l : Launch) (e : Env) (R : Room) (s : State) (m : MethodId) (args : Array Value) (below : List Frame) (meth : Method) (c : Code) (H : Heap) (locs : List Loc) (cells slots : Nat) (Q : State → Prop) (g : JFrame) (q : Addr) : Prop :=
  ∀ T : State, T.heap = H → Stand p l e R s m args below meth c T locs cells slots → ∃ t, Steps p.tables e below ((T.setTop g).pushFrame (.throwing q)) t ∧ Q t
def vx_Run (p : Program) (l : Launch) (e : Env) (R : Room) (s : State) (m : MethodId) (args : Array Value) (below : List Frame) (meth : Method) (c : Code) (H : Heap) (locs : List Loc) (cells slots mc ms : Nat) (g : JFrame) (rest : List Value) (Qa : State → Outcome → State → Prop) (XC : String → State → State → Prop) (free : Addr → Prop) : Prop :=
  ∀ T : State, T.heap = H → Stand p l e R s m args below meth c T locs cells slots →
    (∃ (v : Option Value) (st₀ t T' : State) (L : List Loc), st₀.heap = H ∧ Stand p l e R s m args below meth c T' (locs ++ L) (cells + mc) (slots + ms) ∧ (∀ q ∈ L, free q.base) ∧ T'.heap = t.heap ∧ T'.vm = t.vm ∧ Qa st₀ (.returned v) t ∧
      Goes p e below T g T' { g with pc := g.pc + 3, stack := v.toList ++ rest }) ∨
    (∃ (q : Addr) (st₀ t T' : State) (L : List Loc) (E : String) (ce : Cell), st₀.heap = H ∧ Stand p l e R s m args below meth c T' (locs ++ L) (cells + mc) (slots + ms) ∧ (∀ z ∈ L, free z.base) ∧ T'.heap = t.heap ∧ T'.vm = t.vm ∧ XC E st₀ t ∧ t.heap[q]? = some ce ∧ ce.vm = .none ∧ s.vm.findClass E = some ce.cls ∧
      Steps p.tables e below (T.setTop g) ((T'.setTop { g with stack := rest }).pushFrame (.throwing q)))
def vx_X {S : Type} (px : S → Prop) (B : String → S → State → Prop) (A : Nat → Prop) : String → State → State → Prop := fun E st t => ∃ u : S, px u ∧ B E u t ∧ va_F A st t
section Runs
variable {p : Program} {l : Launch} {e : Env} {R : Room} {s : State} {m : MethodId} {args : Array Value} {below : List Frame} {meth : Method} {c : Code} {H : Heap} {locs : List Loc} {cells slots : Nat}
variable {y : MethodName} {bytes cc : ByteArray} {maxL nL mc ms n index : Nat} {ret : Option FieldType} {ws : List Cond} {rm : Room} {Pc : Array Value → State → Prop} {Qc : Array Value → State → Outcome → State → Prop} {XC : String → State → State → Prop} {free : Addr → Prop} {Ts : List Cond} {own C : String} {b : Addr} {As rest : List Value} {g : JFrame}
theorem vx_callBack (cb : CallB R s args own index y bytes maxL ret ws rm mc ms n) (hM : vx_Met l y ws rm Pc Qc XC mc ms free) (hbl : FrameBlind Pc) : vx_Back l R p e below s args y 3 8 (PreOf R mc ms Pc) (PostOf Qc mc ms free) (vx_Post XC mc ms free) := by
  obtain ⟨hrc, hrs, hfr, hlo, hws, hcw, -, hini, -⟩ := cb
  exact vx_back (bytes := bytes) (maxL := maxL) (ret := ret) hM hbl hrc hrs hfr hlo hws hcw (fun a' U hW => word_at hW (Or.inl (by first | rfl | simp [Cond.onTables, Cond.keeps, Cond.steady])) hini)
theorem vx_runV (S : CallFix p m c cc nL s args Ts own) (hM : vx_Met l y ws rm Pc Qc XC mc ms free) (cw : CallW R s args own C index y bytes maxL ret ws rm mc ms n) (hp : PreV s H C b Pc As)
    (hg : g.method = m) (hn : As.length = n) (hsize : g.locals.size = nL) (hstack : g.stack = As.reverse ++ .ref b :: rest) (hW : 2 * g.monitorRoom + (rest.map fun v => v.category).sum ≤ 8) (hdg : decode cc g.pc = .ok (.invokevirtual index, 3)) (hf : cells + mc ≤ R.cells ∧ slots + ms ≤ R.slots) :
    vx_Run p l e R s m args below meth c H locs cells slots mc ms g rest (Qc (Value.ref b :: As).toArray) XC free := by
  have hK : vx_Back l R p e below s args y 3 8 (PreOf R mc ms Pc) (PostOf Qc mc ms free) (vx_Post XC mc ms free) := vx_callBack cw.1 hM hp.1
  obtain ⟨⟨-, -, -, -, -, -, hcode, -, hy, hlen, hl⟩, hin, hse⟩ := cw
  obtain ⟨hx, hb, hml, ho, -⟩ := S
  obtain ⟨-, ⟨cellB, hcB, hoB, hclB⟩, hPc⟩ := hp
  intro T hT X
  rcases vx_callV X hx (C := C) (bytes := bytes) (maxL := maxL) (ret := ret) ho hl hin hse hcode hy hK (by rw [hT]; exact hcB) hoB hclB hg (hsize.trans hml.symm) (argsL := As) (rest := rest) (fun sig h => hn.trans (hlen sig h)) hstack hW (by rw [hb]; exact hdg)
    (fun vm₁ hW₁ => ⟨hf.1, hf.2, hPc (T.setVm vm₁) hT hW₁⟩) with ⟨v, vm₁, ⟨U', l2, c2, s2⟩, hW₁, X', ⟨g', mk, t, L, e1, e2, hq, h1, hL, h2, h3⟩, st⟩ | ⟨q, vm₁, ⟨U', l2, c2, s2⟩, hW₁, X', ⟨g', mk, t, L, E, ce, e1, e2, hq, hce, hcv, hcl, h1, hL, h2, h3⟩, st⟩
  · dsimp only [Pt.U, Pt.locs, Pt.cells, Pt.slots] at X' e1 e2 h1 h2 h3 st
    subst h1; subst h2; subst h3
    exact Or.inl ⟨v, (T.setVm vm₁).calling g' mk (Value.ref b :: As).toArray, t, U', L, hT, X', hL, e1, e2, hq, st⟩
  · dsimp only [Pt.U, Pt.locs, Pt.cells, Pt.slots] at X' e1 e2 h1 h2 h3 st hcl
    subst h1; subst h2; subst h3
    exact Or.inr ⟨q, (T.setVm vm₁).calling g' mk (Value.ref b :: As).toArray, t, U', L, E, ce, hT, X', hL, e1, e2, hq, hce, hcv, vx_cls hW₁ hcl, st⟩
theorem vx_runS (S : CallFix p m c cc nL s args Ts own) (hM : vx_Met l y ws rm Pc Qc XC mc ms free) (cw : CallB R s args own index y bytes maxL ret ws rm mc ms n ∧ (Cond.static y).before args s = true) (hp : PreS s H Pc As)
    (hg : g.method = m) (hn : As.length = n) (hsize : g.locals.size = nL) (hstack : g.stack = As.reverse ++ rest) (hW : 2 * g.monitorRoom + (rest.map fun v => v.category).sum ≤ 8) (hdg : decode cc g.pc = .ok (.invokestatic index, 3)) (hf : cells + mc ≤ R.cells ∧ slots + ms ≤ R.slots) :
    vx_Run p l e R s m args below meth c H locs cells slots mc ms g rest (Qc As.toArray) XC free := by
  have hK : vx_Back l R p e below s args y 3 8 (PreOf R mc ms Pc) (PostOf Qc mc ms free) (vx_Post XC mc ms free) := vx_callBack cw.1 hM hp.1
  obtain ⟨⟨-, -, -, -, -, -, hcode, hini, hy, hlen, hl⟩, hstt⟩ := cw
  obtain ⟨hx, hb, hml, ho, -⟩ := S
  intro T hT X
  rcases vx_callS X hx (bytes := bytes) (maxL := maxL) (ret := ret) ho hl hstt hini hcode hy hK hg (hsize.trans hml.symm) (argsL := As) (rest := rest) (fun sig h => hn.trans (hlen sig h)) hstack hW (by rw [hb]; exact hdg)
    (fun vm₁ hW₁ => ⟨hf.1, hf.2, hp.2 (T.setVm vm₁) hT hW₁⟩) with ⟨v, vm₁, ⟨U', l2, c2, s2⟩, hW₁, X', ⟨g', mk, t, L, e1, e2, hq, h1, hL, h2, h3⟩, st⟩ | ⟨q, vm₁, ⟨U', l2, c2, s2⟩, hW₁, X', ⟨g', mk, t, L, E, ce, e1, e2, hq, hce, hcv, hcl, h1, hL, h2, h3⟩, st⟩
  · dsimp only [Pt.U, Pt.locs, Pt.cells, Pt.slots] at X' e1 e2 h1 h2 h3 st
    subst h1; subst h2; subst h3
    exact Or.inl ⟨v, (T.setVm vm₁).calling g' mk As.toArray, t, U', L, hT, X', hL, e1, e2, hq, st⟩
  · dsimp only [Pt.U, Pt.locs, Pt.cells, Pt.slots] at X' e1 e2 h1 h2 h3 st hcl
    subst h1; subst h2; subst h3
    exact Or.inr ⟨q, (T.setVm vm₁).calling g' mk As.toArray, t, U', L, E, ce, hT, X', hL, e1, e2, hq, hce, hcv, vx_cls hW₁ hcl, st⟩
end Runs
section Rows
variable {p : Program} {l : Launch} {e : Env} {R : Room} {s : State} {m : MethodId} {args : Array Value} {below : List Frame} {meth : Method} {c : Code} {H : Heap} {locs : List Loc} {cells slots : Nat} {Q : State → Prop}
variable {mc ms : Nat} {free : Addr → Prop} {A0 A1 : Nat → Prop} {H0 : Heap} {a : Array Value} {pc : Nat} {ls : Array Slot} {st0 rest : List Value}
theorem vx_keep {st₀ t T' : State} {L : List Loc} (h0 : st₀.heap = H) (e1 : T'.heap = t.heap) (hS : va_S A0 H0 H locs) (hA : ∀ q, q < H.size → A1 q → A0 q) (hf : ∀ q, free q → A0 q) (hL : ∀ q ∈ L, free q.base) (hF : va_F A1 st₀ t) :
    H.size ≤ T'.heap.size ∧ (∀ q : Nat, q < H.size → ¬ A1 q → T'.heap[q]? = H[q]?) ∧ va_S A0 H0 T'.heap (locs ++ L) := by
  obtain ⟨hz, hk⟩ := hF
  rw [h0] at hz hk
  exact ⟨by rw [e1]; exact hz, fun q h1 h2 => by rw [e1]; exact hk q h1 h2,
    ⟨Nat.le_trans hS.1 (by rw [e1]; exact hz), fun q h1 h2 => by rw [e1, hk q (Nat.lt_of_lt_of_le h1 hS.1) (fun z => h2 (hA q (Nat.lt_of_lt_of_le h1 hS.1) z))]; exact hS.2.1 q h1 h2, fun q hq => by
      rcases List.mem_append.mp hq with h | h
      · exact hS.2.2 q h
      · exact hf _ (hL q h)⟩⟩
theorem vx_calli {S SX : Type} {post : Int32 → S → Prop} {px : SX → Prop} {B : S → State → Prop} {BX : String → SX → State → Prop} {AX : Nat → Prop} (hr : vx_Run p l e R s m args below meth c H locs cells slots mc ms (F0 m pc ls st0) rest (va_Qi post B A1 a) (vx_X px BX AX) free) (hS : va_S A0 H0 H locs) (hA : ∀ q, q < H.size → A1 q → A0 q) (hf : ∀ q, free q → A0 q) (hAX : ∀ q, q < H.size → AX q → A0 q)
    (kx : ∀ (E : String) (ce : Cell) (q9 : Addr) (u : SX) (t : State) (H1 : Heap) (locs1 : List Loc), t.heap = H1 → s.vm.Alike t.vm → px u → BX E u t → H.size ≤ H1.size → (∀ q : Nat, q < H.size → ¬ AX q → H1[q]? = H[q]?) → va_S A0 H0 H1 locs1 → H1[q9]? = some ce → ce.vm = .none → s.vm.findClass E = some ce.cls → vx_W p l e R s m args below meth c H1 locs1 (cells + mc) (slots + ms) Q (F0 m pc ls rest) q9)
    (kk : ∀ (r : Int32) (u : S) (t : State) (H1 : Heap) (locs1 : List Loc), t.heap = H1 → s.vm.Alike t.vm → post r u → B u t → H.size ≤ H1.size → (∀ q : Nat, q < H.size → ¬ A1 q → H1[q]? = H[q]?) → va_S A0 H0 H1 locs1 → W p l e R s m args below meth c H1 locs1 (cells + mc) (slots + ms) Q (F0 m (pc + 3) ls (.int r :: rest))) : W p l e R s m args below meth c H locs cells slots Q (F0 m pc ls st0) := by
  intro T hT X
  rcases hr T hT X with ⟨v, st₀, t, T', L, h0, X', hL, e1, e2, ⟨⟨r, u, hv, hp, hb⟩, hF⟩, st⟩ | ⟨q, st₀, t, T', L, E, ce, h0, X', hL, e1, e2, ⟨u, hp, hb, hF⟩, hce, hcv, hcl, st⟩
  · cases hv
    obtain ⟨k1, k2, k3⟩ := vx_keep h0 e1 hS hA hf hL hF
    obtain ⟨t2, a1, b1⟩ := kk r u t T'.heap (locs ++ L) e1.symm (by rw [← e2]; exact X'.warmed.alike) hp hb k1 k2 k3 T' rfl X'
    exact ⟨t2, st t2 a1, b1⟩
  · obtain ⟨k1, k2, k3⟩ := vx_keep h0 e1 hS hAX hf hL hF
    obtain ⟨t2, a1, b1⟩ := kx E ce q u t T'.heap (locs ++ L) e1.symm (by rw [← e2]; exact X'.warmed.alike) hp hb k1 k2 k3 (by rw [e1]; exact hce) hcv hcl T' rfl X'
    exact ⟨t2, st.trans a1, b1⟩
theorem vx_calll {S SX : Type} {post : Int64 → S → Prop} {px : SX → Prop} {B : S → State → Prop} {BX : String → SX → State → Prop} {AX : Nat → Prop} (hr : vx_Run p l e R s m args below meth c H locs cells slots mc ms (F0 m pc ls st0) rest (va_Ql post B A1 a) (vx_X px BX AX) free) (hS : va_S A0 H0 H locs) (hA : ∀ q, q < H.size → A1 q → A0 q) (hf : ∀ q, free q → A0 q) (hAX : ∀ q, q < H.size → AX q → A0 q)
    (kx : ∀ (E : String) (ce : Cell) (q9 : Addr) (u : SX) (t : State) (H1 : Heap) (locs1 : List Loc), t.heap = H1 → s.vm.Alike t.vm → px u → BX E u t → H.size ≤ H1.size → (∀ q : Nat, q < H.size → ¬ AX q → H1[q]? = H[q]?) → va_S A0 H0 H1 locs1 → H1[q9]? = some ce → ce.vm = .none → s.vm.findClass E = some ce.cls → vx_W p l e R s m args below meth c H1 locs1 (cells + mc) (slots + ms) Q (F0 m pc ls rest) q9)
    (kk : ∀ (r : Int64) (u : S) (t : State) (H1 : Heap) (locs1 : List Loc), t.heap = H1 → s.vm.Alike t.vm → post r u → B u t → H.size ≤ H1.size → (∀ q : Nat, q < H.size → ¬ A1 q → H1[q]? = H[q]?) → va_S A0 H0 H1 locs1 → W p l e R s m args below meth c H1 locs1 (cells + mc) (slots + ms) Q (F0 m (pc + 3) ls (.long r :: rest))) : W p l e R s m args below meth c H locs cells slots Q (F0 m pc ls st0) := by
  intro T hT X
  rcases hr T hT X with ⟨v, st₀, t, T', L, h0, X', hL, e1, e2, ⟨⟨r, u, hv, hp, hb⟩, hF⟩, st⟩ | ⟨q, st₀, t, T', L, E, ce, h0, X', hL, e1, e2, ⟨u, hp, hb, hF⟩, hce, hcv, hcl, st⟩
  · cases hv
    obtain ⟨k1, k2, k3⟩ := vx_keep h0 e1 hS hA hf hL hF
    obtain ⟨t2, a1, b1⟩ := kk r u t T'.heap (locs ++ L) e1.symm (by rw [← e2]; exact X'.warmed.alike) hp hb k1 k2 k3 T' rfl X'
    exact ⟨t2, st t2 a1, b1⟩
  · obtain ⟨k1, k2, k3⟩ := vx_keep h0 e1 hS hAX hf hL hF
    obtain ⟨t2, a1, b1⟩ := kx E ce q u t T'.heap (locs ++ L) e1.symm (by rw [← e2]; exact X'.warmed.alike) hp hb k1 k2 k3 (by rw [e1]; exact hce) hcv hcl T' rfl X'
    exact ⟨t2, st.trans a1, b1⟩
theorem vx_callf {S SX : Type} {post : UInt32 → S → Prop} {px : SX → Prop} {B : S → State → Prop} {BX : String → SX → State → Prop} {AX : Nat → Prop} (hr : vx_Run p l e R s m args below meth c H locs cells slots mc ms (F0 m pc ls st0) rest (va_Qf post B A1 a) (vx_X px BX AX) free) (hS : va_S A0 H0 H locs) (hA : ∀ q, q < H.size → A1 q → A0 q) (hf : ∀ q, free q → A0 q) (hAX : ∀ q, q < H.size → AX q → A0 q)
    (kx : ∀ (E : String) (ce : Cell) (q9 : Addr) (u : SX) (t : State) (H1 : Heap) (locs1 : List Loc), t.heap = H1 → s.vm.Alike t.vm → px u → BX E u t → H.size ≤ H1.size → (∀ q : Nat, q < H.size → ¬ AX q → H1[q]? = H[q]?) → va_S A0 H0 H1 locs1 → H1[q9]? = some ce → ce.vm = .none → s.vm.findClass E = some ce.cls → vx_W p l e R s m args below meth c H1 locs1 (cells + mc) (slots + ms) Q (F0 m pc ls rest) q9)
    (kk : ∀ (r : UInt32) (u : S) (t : State) (H1 : Heap) (locs1 : List Loc), t.heap = H1 → s.vm.Alike t.vm → post r u → B u t → H.size ≤ H1.size → (∀ q : Nat, q < H.size → ¬ A1 q → H1[q]? = H[q]?) → va_S A0 H0 H1 locs1 → W p l e R s m args below meth c H1 locs1 (cells + mc) (slots + ms) Q (F0 m (pc + 3) ls (.float r :: rest))) : W p l e R s m args below meth c H locs cells slots Q (F0 m pc ls st0) := by
  intro T hT X
  rcases hr T hT X with ⟨v, st₀, t, T', L, h0, X', hL, e1, e2, ⟨⟨r, u, hv, hp, hb⟩, hF⟩, st⟩ | ⟨q, st₀, t, T', L, E, ce, h0, X', hL, e1, e2, ⟨u, hp, hb, hF⟩, hce, hcv, hcl, st⟩
  · cases hv
    obtain ⟨k1, k2, k3⟩ := vx_keep h0 e1 hS hA hf hL hF
    obtain ⟨t2, a1, b1⟩ := kk r u t T'.heap (locs ++ L) e1.symm (by rw [← e2]; exact X'.warmed.alike) hp hb k1 k2 k3 T' rfl X'
    exact ⟨t2, st t2 a1, b1⟩
  · obtain ⟨k1, k2, k3⟩ := vx_keep h0 e1 hS hAX hf hL hF
    obtain ⟨t2, a1, b1⟩ := kx E ce q u t T'.heap (locs ++ L) e1.symm (by rw [← e2]; exact X'.warmed.alike) hp hb k1 k2 k3 (by rw [e1]; exact hce) hcv hcl T' rfl X'
    exact ⟨t2, st.trans a1, b1⟩
theorem vx_calld {S SX : Type} {post : UInt64 → S → Prop} {px : SX → Prop} {B : S → State → Prop} {BX : String → SX → State → Prop} {AX : Nat → Prop} (hr : vx_Run p l e R s m args below meth c H locs cells slots mc ms (F0 m pc ls st0) rest (va_Qd post B A1 a) (vx_X px BX AX) free) (hS : va_S A0 H0 H locs) (hA : ∀ q, q < H.size → A1 q → A0 q) (hf : ∀ q, free q → A0 q) (hAX : ∀ q, q < H.size → AX q → A0 q)
    (kx : ∀ (E : String) (ce : Cell) (q9 : Addr) (u : SX) (t : State) (H1 : Heap) (locs1 : List Loc), t.heap = H1 → s.vm.Alike t.vm → px u → BX E u t → H.size ≤ H1.size → (∀ q : Nat, q < H.size → ¬ AX q → H1[q]? = H[q]?) → va_S A0 H0 H1 locs1 → H1[q9]? = some ce → ce.vm = .none → s.vm.findClass E = some ce.cls → vx_W p l e R s m args below meth c H1 locs1 (cells + mc) (slots + ms) Q (F0 m pc ls rest) q9)
    (kk : ∀ (r : UInt64) (u : S) (t : State) (H1 : Heap) (locs1 : List Loc), t.heap = H1 → s.vm.Alike t.vm → post r u → B u t → H.size ≤ H1.size → (∀ q : Nat, q < H.size → ¬ A1 q → H1[q]? = H[q]?) → va_S A0 H0 H1 locs1 → W p l e R s m args below meth c H1 locs1 (cells + mc) (slots + ms) Q (F0 m (pc + 3) ls (.double r :: rest))) : W p l e R s m args below meth c H locs cells slots Q (F0 m pc ls st0) := by
  intro T hT X
  rcases hr T hT X with ⟨v, st₀, t, T', L, h0, X', hL, e1, e2, ⟨⟨r, u, hv, hp, hb⟩, hF⟩, st⟩ | ⟨q, st₀, t, T', L, E, ce, h0, X', hL, e1, e2, ⟨u, hp, hb, hF⟩, hce, hcv, hcl, st⟩
  · cases hv
    obtain ⟨k1, k2, k3⟩ := vx_keep h0 e1 hS hA hf hL hF
    obtain ⟨t2, a1, b1⟩ := kk r u t T'.heap (locs ++ L) e1.symm (by rw [← e2]; exact X'.warmed.alike) hp hb k1 k2 k3 T' rfl X'
    exact ⟨t2, st t2 a1, b1⟩
  · obtain ⟨k1, k2, k3⟩ := vx_keep h0 e1 hS hAX hf hL hF
    obtain ⟨t2, a1, b1⟩ := kx E ce q u t T'.heap (locs ++ L) e1.symm (by rw [← e2]; exact X'.warmed.alike) hp hb k1 k2 k3 (by rw [e1]; exact hce) hcv hcl T' rfl X'
    exact ⟨t2, st.trans a1, b1⟩
theorem vx_callv {S SX : Type} {post : S → Prop} {px : SX → Prop} {B : S → State → Prop} {BX : String → SX → State → Prop} {AX : Nat → Prop} (hr : vx_Run p l e R s m args below meth c H locs cells slots mc ms (F0 m pc ls st0) rest (va_Qv post B A1 a) (vx_X px BX AX) free) (hS : va_S A0 H0 H locs) (hA : ∀ q, q < H.size → A1 q → A0 q) (hf : ∀ q, free q → A0 q) (hAX : ∀ q, q < H.size → AX q → A0 q)
    (kx : ∀ (E : String) (ce : Cell) (q9 : Addr) (u : SX) (t : State) (H1 : Heap) (locs1 : List Loc), t.heap = H1 → s.vm.Alike t.vm → px u → BX E u t → H.size ≤ H1.size → (∀ q : Nat, q < H.size → ¬ AX q → H1[q]? = H[q]?) → va_S A0 H0 H1 locs1 → H1[q9]? = some ce → ce.vm = .none → s.vm.findClass E = some ce.cls → vx_W p l e R s m args below meth c H1 locs1 (cells + mc) (slots + ms) Q (F0 m pc ls rest) q9)
    (kk : ∀ (u : S) (t : State) (H1 : Heap) (locs1 : List Loc), t.heap = H1 → s.vm.Alike t.vm → post u → B u t → H.size ≤ H1.size → (∀ q : Nat, q < H.size → ¬ A1 q → H1[q]? = H[q]?) → va_S A0 H0 H1 locs1 → W p l e R s m args below meth c H1 locs1 (cells + mc) (slots + ms) Q (F0 m (pc + 3) ls (rest))) : W p l e R s m args below meth c H locs cells slots Q (F0 m pc ls st0) := by
  intro T hT X
  rcases hr T hT X with ⟨v, st₀, t, T', L, h0, X', hL, e1, e2, ⟨⟨u, hv, hp, hb⟩, hF⟩, st⟩ | ⟨q, st₀, t, T', L, E, ce, h0, X', hL, e1, e2, ⟨u, hp, hb, hF⟩, hce, hcv, hcl, st⟩
  · cases hv
    obtain ⟨k1, k2, k3⟩ := vx_keep h0 e1 hS hA hf hL hF
    obtain ⟨t2, a1, b1⟩ := kk u t T'.heap (locs ++ L) e1.symm (by rw [← e2]; exact X'.warmed.alike) hp hb k1 k2 k3 T' rfl X'
    exact ⟨t2, st t2 a1, b1⟩
  · obtain ⟨k1, k2, k3⟩ := vx_keep h0 e1 hS hAX hf hL hF
    obtain ⟨t2, a1, b1⟩ := kx E ce q u t T'.heap (locs ++ L) e1.symm (by rw [← e2]; exact X'.warmed.alike) hp hb k1 k2 k3 (by rw [e1]; exact hce) hcv hcl T' rfl X'
    exact ⟨t2, st.trans a1, b1⟩
/-- caught by the row x of this method's table; the rows ahead don't take it -/
theorem vx_catch {own name : String} {E : String} {ce : Cell} {q : Addr} (hown : s.vm.findClass own = some m.cls) (pre : List ExceptionTableEntry) (x : ExceptionTableEntry) (suf : List ExceptionTableEntry) (hsplit : c.exceptionTable.toList = pre ++ x :: suf)
    (hpass : ∀ z ∈ pre, covers z pc = false ∨ (z.catchType ≠ 0 ∧ ∃ nm : String, (Cond.classLink own z.catchType nm).before args s = true ∧ va_Nc E nm s)) (hx : covers x pc = true) (h0 : x.catchType ≠ 0)
    (hlink : (Cond.classLink own x.catchType name).before args s = true) (hcast : (Cond.castable E name).before args s = true) (hcell : H[q]? = some ce) (hv : ce.vm = .none) (hcl : s.vm.findClass E = some ce.cls)
    (kk : W p l e R s m args below meth c H locs cells slots Q (F0 m x.handlerPc ls [.ref q])) : vx_W p l e R s m args below meth c H locs cells slots Q (F0 m pc ls rest) q := by
  intro T hT X
  have hpl : e.platform.magicAccessors = ({} : Platform).magicAccessors := by rw [X.admits.platform]
  obtain ⟨c3, c4, hc3, hc4, hasg⟩ := Cond.castable_spec hcast
  cases Option.some.inj (hc3.symm.trans hcl)
  obtain ⟨c5, hc5, hcl5⟩ := Cond.classLink_spec hown hlink e.platform hpl
  cases Option.some.inj (hc4.symm.trans hc5)
  obtain ⟨vm', X', st⟩ := X.thenCaughtThrough q (g := F0 m pc ls rest) rfl (Steps.refl _) (by rw [hT]; exact hcell) (by rw [hv]; rfl) (by obtain ⟨k9, h9, -⟩ := Vm.findClass_spec hcl; exact ⟨k9, h9⟩) pre x suf hsplit
    (fun z hz => by
      rcases hpass z hz with h | ⟨hz0, nm, hl1, hn1⟩
      · exact Or.inl h
      · obtain ⟨c6, hc6, hcl6⟩ := Cond.classLink_spec hown hl1 e.platform hpl
        obtain ⟨a8, b8, h1, h2, h3⟩ := hn1
        cases Option.some.inj (h1.symm.trans hcl)
        cases Option.some.inj (h2.symm.trans hc6)
        exact Or.inr ⟨hz0, _, hcl6, h3⟩) hx (Or.inr ⟨h0, c4, hcl5, hasg⟩)
  obtain ⟨t, a1, b1⟩ := kk (T.setVm vm') hT X'
  exact ⟨t, st.trans a1, b1⟩
end Rows
section Ends
variable {p : Program} {l : Launch} {e : Env} {R : Room} {s : State} {m : MethodId} {args : Array Value} {below : List Frame} {meth : Method} {c : Code} {H : Heap} {locs : List Loc} {cells slots : Nat} {Q : State → Prop}
variable {mc ms : Nat} {free : Addr → Prop} {A0 A1 : Nat → Prop} {H0 : Heap} {a : Array Value} {ls : Array Slot} {st0 rest : List Value}
variable {Qc : Array Value → State → Outcome → State → Prop} {XC : String → State → State → Prop}
/-- what a body that may throw owes at its end -/
def vx_MQ (below : List Frame) (Qc : Array Value → State → Outcome → State → Prop) (XC : String → State → State → Prop) (a : Array Value) (s : State) (mc ms : Nat) (free : Addr → Prop) : State → Prop := fun t =>
  ∃ o, t.status = .running ∧ Ended t below o ∧ vx_Q Qc XC mc ms free a s o t
theorem vx_ret {g : JFrame} {mc ms : Nat} (k : W p l e R s m args below meth c H locs cells slots (MQ below Qc args s mc ms free) g) : W p l e R s m args below meth c H locs cells slots (vx_MQ below Qc XC args s mc ms free) g := by
  intro T hT X
  obtain ⟨t, a1, o, b1, b2, b3, b4⟩ := k T hT X
  exact ⟨t, a1, o, b1, b2, Or.inl ⟨b3, b4⟩⟩
/-- not caught here: it goes on to the caller -/
theorem vx_widen {g : JFrame} {q : Addr} {k n : Nat} (h1 : cells ≤ k) (h2 : slots ≤ n) (kk : vx_W p l e R s m args below meth c H locs k n Q g q) : vx_W p l e R s m args below meth c H locs cells slots Q g q := fun T hT X => kk T hT (stand_widen X h1 h2)
theorem vx_out {pc : Nat} {E : String} {ce : Cell} {q : Addr} {mc ms : Nat} (hout : ∀ x ∈ c.exceptionTable.toList, covers x pc = false) (hlocks : meth.locks = false) (hcell : H[q]? = some ce) (hv : ce.vm = .none) (hcl : s.vm.findClass E = some ce.cls)
    (hx : ∀ t : State, t.heap = H → s.vm.Alike t.vm → XC E s t) (hf : ∀ z ∈ locs, free z.base) (hc : cells ≤ mc) (hs : slots ≤ ms) :
    vx_W p l e R s m args below meth c H locs cells slots (vx_MQ below Qc XC args s mc ms free) (F0 m pc ls rest) q := by
  intro T hT X
  obtain ⟨st1, hrun, hend, hW, hsm⟩ := X.leaveThrown q (g := F0 m pc ls rest) rfl rfl rfl hout hlocks
  have hcell9 : (T.setFrames (.throwing q :: below)).heap[q]? = some ce := by
    show T.heap[q]? = some ce
    rw [hT]; exact hcell
  exact ⟨_, st1, .threw q, hrun, hend, Or.inr ⟨q, rfl, E, ce, locs, hx _ hT hW.alike, hcell9, hv, hcl, hW, hsm.mono hc hs, hf⟩⟩
theorem vx_frame {U : State} {k n : Nat} (h : s.sameButNew ({ U with vm := s.vm } : State) locs k n) : s.heap.size ≤ U.heap.size ∧ ∀ q : Nat, q < s.heap.size → (∀ z ∈ locs, z.base ≠ q) → U.heap[q]? = s.heap[q]? := by
  obtain ⟨-, h2, -, -, -, h6⟩ := h
  refine ⟨h2, fun q hq hz => ?_⟩
  obtain ⟨c9, e1, e2, e3, e4⟩ := h6 q _ (Array.getElem?_eq_getElem hq)
  have hs : c9.slots = (s.heap[q]).slots := Array.ext_getElem? fun i => e4 i fun hm => hz _ hm rfl
  have h9 : c9 = s.heap[q] := by
    rw [hs] at e2
    exact e2
  have e5 : U.heap[q]? = some c9 := e1
  rw [e5, h9, Array.getElem?_eq_getElem hq]
/-- the words of a throw but the four that speak of the heap -/
def vx_no (w : Cond) : Bool := decide (w ≠ .isRef (.static Bundle.tN "UNASSIGNED_STACK" Bundle.steD)) && decide (w ≠ .isRef (.static Bundle.tN "SUPPRESSED_SENTINEL" Bundle.listD)) && decide (w ≠ .laysStatic Bundle.tN "UNASSIGNED_STACK" Bundle.steD) && decide (w ≠ .laysStatic Bundle.tN "SUPPRESSED_SENTINEL" Bundle.listD)
def vx_at0 (own : String) (ic : Nat) (X : String) (names : List String) : List Cond := (Bundle.ownAtoms0 own ic X names).filter vx_no
def vx_atS (own : String) (ic : Nat) (X : String) (names : List String) : List Cond := (Bundle.ownAtoms own ic X names).filter vx_no
/-- a word that the tables alone decide, or a good one -/
def vx_ot (w : Cond) : Bool := w.onTables || goodWord w
theorem vx_ot_at {args a' : Array Value} {s U : State} {w : Cond} (hW : s.WarmedH U.vm) (hvm : s.vm = U.vm) (hg : vx_ot w = true) (h : w.before args s = true) : w.before a' U = true := by
  simp only [vx_ot, Bool.or_eq_true] at hg
  rcases hg with hg | hg
  · exact va_tabs hg hvm h
  · exact word_at hW (good_of_word hg) h
/-- a list's words: the good ones out of the method's own list, the others by premises of their own -/
theorem vx_hat {args : Array Value} {s : State} {L B : List Cond} (h1 : ∀ w ∈ L.filter goodWord, w.before args s = true) (h2 : ∀ w ∈ L.filter (fun w => !goodWord w), w ∈ B) (h3 : ∀ w ∈ B, w.before args s = true) : ∀ w ∈ L, w.before args s = true := by
  intro w hw
  by_cases g : goodWord w = true
  · exact h1 w (List.mem_filter.mpr ⟨hw, g⟩)
  · refine h3 w (h2 w (List.mem_filter.mpr ⟨hw, ?_⟩))
    show (!goodWord w) = true
    cases hgw : goodWord w
    · rfl
    · exact absurd hgw g
theorem vx_c {args : Array Value} {s : State} {w : Cond} {B : List Cond} (h : w.before args s = true) (t : ∀ w ∈ B, w.before args s = true) : ∀ w' ∈ w :: B, w'.before args s = true := fun w' h' => (List.mem_cons.mp h').elim (fun e => by rw [e]; exact h) (t w')
theorem vx_n {args : Array Value} {s : State} : ∀ w ∈ ([] : List Cond), w.before args s = true := fun _ h => nomatch h
theorem vx_own {args : Array Value} {s : State} {L : List Cond} (h1 : ∀ w ∈ L.filter vx_no, w.before args s = true)
    (hU : (Cond.isRef (.static Bundle.tN "UNASSIGNED_STACK" Bundle.steD)).before args s = true) (hN : (Cond.isRef (.static Bundle.tN "SUPPRESSED_SENTINEL" Bundle.listD)).before args s = true)
    (lU : (Cond.laysStatic Bundle.tN "UNASSIGNED_STACK" Bundle.steD).before args s = true) (lN : (Cond.laysStatic Bundle.tN "SUPPRESSED_SENTINEL" Bundle.listD).before args s = true) : ∀ w ∈ L, w.before args s = true := by
  intro w hw
  by_cases e1 : w = .isRef (.static Bundle.tN "UNASSIGNED_STACK" Bundle.steD)
  · rw [e1]; exact hU
  · by_cases e2 : w = .isRef (.static Bundle.tN "SUPPRESSED_SENTINEL" Bundle.listD)
    · rw [e2]; exact hN
    · by_cases e3 : w = .laysStatic Bundle.tN "UNASSIGNED_STACK" Bundle.steD
      · rw [e3]; exact lU
      · by_cases e4 : w = .laysStatic Bundle.tN "SUPPRESSED_SENTINEL" Bundle.listD
        · rw [e4]; exact lN
        · exact h1 w (List.mem_filter.mpr ⟨hw, by unfold vx_no; rw [decide_eq_true e1, decide_eq_true e2, decide_eq_true e3, decide_eq_true e4]; rfl⟩)
/-- where a static field lies, its class's statics cell in H -/
def vx_L (C n d : String) (A : Nat → Prop) (U : State) (H : Heap) : Prop := ∃ (c : ClassId) (k : Class) (i : Nat) (f : Field) (a : Nat) (cell : Cell), U.vm.findClass C = some c ∧ U.fieldFound? C n d = some (c, k, i, f) ∧ f.isStatic = true ∧ k.statics = some a ∧ H[a]? = some cell ∧ cell.vm.isStatics = true ∧ cell.cls = c ∧ f.slot < cell.slots.size ∧ k.staticTypes[f.slot]? = some f.type ∧ ¬ A a
theorem vx_L.moved {C n d : String} {A : Nat → Prop} {u U : State} {H : Heap} (hvm : u.vm.Alike U.vm) (h : vx_L C n d A u H) : vx_L C n d A U H := by
  obtain ⟨c, k, i, f, a, cell, h1, h2, h3, h4, h5, h6, h7, h8, h9, h10⟩ := h
  obtain ⟨k', hi', he⟩ := State.fieldFound?_setVm hvm h2
  exact ⟨c, k', i, f, a, cell, by rw [hvm.findClass]; exact h1, hi', h3, by rw [he]; exact h4, h5, h6, h7, h8, by rw [he]; exact h9, h10⟩
theorem vx_L.kept {C n d : String} {A : Nat → Prop} {U : State} {H H1 : Heap} (h : vx_L C n d A U H) (hq : ∀ a : Nat, a < H.size → ¬ A a → H1[a]? = H[a]?) : vx_L C n d A U H1 := by
  obtain ⟨c, k, i, f, a, cell, h1, h2, h3, h4, h5, h6, h7, h8, h9, h10⟩ := h
  exact ⟨c, k, i, f, a, cell, h1, h2, h3, h4, by rw [hq a (Array.getElem?_eq_some_iff.mp h5).1 h10]; exact h5, h6, h7, h8, h9, h10⟩
theorem vx_L.narrow {C n d : String} {A B : Nat → Prop} {U : State} {H : Heap} (h : vx_L C n d A U H) (hAB : ∀ q, B q → A q) : vx_L C n d B U H := by
  obtain ⟨c, k, i, f, a, cell, h1, h2, h3, h4, h5, h6, h7, h8, h9, h10⟩ := h
  exact ⟨c, k, i, f, a, cell, h1, h2, h3, h4, h5, h6, h7, h8, h9, fun z => h10 (hAB _ z)⟩
theorem vx_L.word {C n d : String} {A : Nat → Prop} {s : State} {args : Array Value} (h : vx_L C n d A s s.heap) : (Cond.laysStatic C n d).before args s = true := by
  obtain ⟨c, k, i, f, a, cell, h1, h2, h3, h4, h5, h6, h7, h8, h9, -⟩ := h
  show (Cond.laysStatic C n d).holds args s none s [] = true
  exact Cond.laysStatic_of h1 h2 h3 h4 h5 h6 h7 h8 h9
/-- .. and what it holds: null or some reference -/
def vx_Zq (C n d : String) (A : Nat → Prop) (U : State) (H : Heap) : Prop := va_Zq C n d A U H ∧ vx_L C n d A U H
theorem vx_Zq.moved {C n d : String} {A : Nat → Prop} {u U : State} {H : Heap} (hvm : u.vm.Alike U.vm) (h : vx_Zq C n d A u H) : vx_Zq C n d A U H := ⟨va_Zq.moved hvm h.1, vx_L.moved hvm h.2⟩
theorem vx_Zq.kept {C n d : String} {A : Nat → Prop} {U : State} {H H1 : Heap} (h : vx_Zq C n d A U H) (hq : ∀ a : Nat, a < H.size → ¬ A a → H1[a]? = H[a]?) : vx_Zq C n d A U H1 := ⟨va_Zq.kept h.1 hq, vx_L.kept h.2 hq⟩
theorem vx_Zq.narrow {C n d : String} {A B : Nat → Prop} {U : State} {H : Heap} (h : vx_Zq C n d A U H) (hAB : ∀ q, B q → A q) : vx_Zq C n d B U H := ⟨va_Zq.narrow h.1 hAB, vx_L.narrow h.2 hAB⟩
theorem vx_Zqof {args : Array Value} {s : State} {C n d : String} {A : Nat → Prop} (hl : (Cond.laysStatic C n d).before args s = true) (hini : (Cond.initialized C).before args s = true) (h : (Cond.isRef (.static C n d)).before args s = true) (hA : ∀ a : Nat, a < s.heap.size → ¬ A a) : vx_Zq C n d A s s.heap := by
  refine ⟨va_Zqof hl hini h hA, ?_⟩
  obtain ⟨c, k, i, f, a, cell, h1, h2, h3, h4, h5, h6, h7, h8, h9⟩ := Cond.laysStatic_spec hl
  exact ⟨c, k, i, f, a, cell, h1, h2, h3, h4, h5, h6, h7, h8, h9, hA a (Array.getElem?_eq_some_iff.mp h5).1⟩
theorem vx_isRef {C n d : String} {v : Value} {A : Nat → Prop} {s : State} {args : Array Value} (h : va_Z C n d v A s s.heap) (hv : v.isRef = true) : (Cond.isRef (.static C n d)).before args s = true := by
  obtain ⟨cf, kf, fi, f, a, cell, h1, h2, h3, h4, h5, h6, h7, -⟩ := h
  have he : (Term.static C n d).eval args s none [] s = some v := by
    simp [Term.eval, State.fieldNamed?, h1, h2, h4, h5, h6, h7]
  simp only [Cond.before, Cond.holds, Cond.value, he]
  cases v <;> simp_all [Value.isRef]
theorem vx_isRefq {C n d : String} {A : Nat → Prop} {s : State} {args : Array Value} (h : va_Zq C n d A s s.heap) : (Cond.isRef (.static C n d)).before args s = true := by
  rcases h with h | ⟨t, h⟩
  · exact vx_isRef h rfl
  · exact vx_isRef h rfl
/-- the same frame, seen from here: as if the method were called anew in this heap -/
theorem vx_rebase {T : State} (X : Stand p l e R s m args below meth c T locs cells slots) {R' : Room} (hf : R'.frames ≤ R.frames) (hl : R'.locals ≤ R.locals) (hc : cells + R'.cells ≤ R.cells) (hs : slots + R'.slots ≤ R.slots) :
    Stand p l e R' ((T.setVm s.vm).setFrames (.invoking m args :: below)) m args below meth c T [] 0 0 := by
  have htop : (T.setVm s.vm).topJava?.isSome := X.here.top
  have hF : ((T.setVm s.vm).setFrames (.invoking m args :: below)).frames = .invoking m args :: below := State.frames_setFrames _ (State.cur_lt_of_top htop)
  obtain ⟨g₀, hg0⟩ := Option.isSome_iff_exists.mp htop
  obtain ⟨r, hr⟩ := State.topJava?_eq_some.mp hg0
  have hl9 : e.platform.stackLimits (T.setVm s.vm).me = e.platform.stackLimits s.me := X.limits
  have hb9 : (T.setVm s.vm).me.stackBytes = s.me.stackBytes := X.bytes
  refine ⟨X.admits, X.cas, X.clock, hF, ?_, X.hears, X.method, X.code, X.here, X.tail, X.warmed, ?_, ?_, ?_⟩
  · have h := X.room
    have hU : ((T.setVm s.vm).setFrames (.invoking m args :: below)).localsInUse = s.localsInUse := by
      rw [State.localsInUse_invoking hF (meth := meth) (c := c) X.method X.code, State.localsInUse_invoking X.frames X.method X.code]
    simp only [State.hasRoom, Bool.and_eq_true, decide_eq_true_eq] at h ⊢
    obtain ⟨⟨⟨⟨h1, h2, h3, h4, h5, h6⟩, h7⟩, h8⟩, h9⟩ := h
    rw [X.frames, List.length_cons] at h2 h3
    have q1 := X.heapSize
    have q2 := X.used
    simp only [hF, hU, List.length_cons, State.stackLimits_setFrames, State.stackBytes_setFrames, hl9, hb9]
    refine ⟨⟨⟨⟨by omega, by omega, by omega, by omega, by omega, h6⟩, ?_⟩, ?_⟩, X.book⟩
    · show T.heap.size + R'.cells ≤ e.platform.maxCells
      omega
    · show T.slotsUsed + R'.slots ≤ e.platform.maxSlots
      omega
  · rw [State.stackLimits_setFrames]; rfl
  · rw [State.stackBytes_setFrames]; rfl
  · refine ⟨?_, Nat.le_refl _, Nat.le_refl _, ?_, ?_, fun a c9 h9 => ⟨c9, h9, rfl, rfl, fun _ _ => rfl⟩⟩
    · obtain ⟨t, ht, -⟩ := State.frames_cons hr
      show T.setVm s.vm = { ((T.setVm s.vm).setFrames (.invoking m args :: below)).setFrames (T.setVm s.vm).frames with heap := T.heap, slotsUsed := T.slotsUsed }
      rw [State.setFrames_setFrames, State.setFrames_self ht]
      rfl
    · show T.slotsUsed = T.slotsUsed + ((T.heap.toList.drop T.heap.size).map (·.slots.size)).sum
      rw [List.drop_eq_nil_of_le (Nat.le_of_eq Array.length_toList)]
      rfl
    · show ((T.heap.toList.drop T.heap.size).map (·.slots.size)).sum ≤ 0
      rw [List.drop_eq_nil_of_le (Nat.le_of_eq Array.length_toList)]
      exact Nat.le_refl _
/-- 'throw new E()': new; dup; invokespecial; athrow -/
theorem vx_throw0 {cc : ByteArray} {pc : Nat} (hexec : p.tables.exec = Jvm.exec) (hb : c.code = cc) (hl : l.stackTraces = false) {own cls : String} {names : List String} {ik ic mc ms : Nat} {A : Nat → Prop}
    (hown : s.vm.findClass own = some m.cls) (hcls : Bundle.fit cls = true) (hnames : ∀ n ∈ names, Bundle.fit n = true)
    (hk : (Cond.classLink own ik cls).before args s = true) (hini : (Cond.initialized cls).before args s = true) (hat : ∀ w ∈ vx_at0 own ic cls names, w.before args s = true)
    (hgood : ∀ w ∈ Cond.classLink own ik cls :: Cond.initialized cls :: vx_at0 own ic cls names, vx_ot w = true)
    (hU : vx_Zq Bundle.tN "UNASSIGNED_STACK" Bundle.steD A s s.heap) (hN : vx_Zq Bundle.tN "SUPPRESSED_SENTINEL" Bundle.listD A s s.heap) (hS : va_S A s.heap H locs) (hsize : ls.size = c.maxLocals)
    (d0 : decode cc pc = .ok (.new ik, 3)) (d3 : decode cc (pc + 3) = .ok (.dup, 1)) (d4 : decode cc (pc + 4) = .ok (.invokespecial ic, 3)) (d7 : decode cc (pc + 7) = .ok (.athrow, 1))
    (hout : ∀ x ∈ c.exceptionTable.toList, covers x (pc + 7) = false)
    (hRframes : names.length + 3 < R.frames) (hRlocals : (rest.map fun v => v.category).sum + (13 * (names.length + 1) + 42) ≤ R.locals) (hRcells : cells + 1 ≤ R.cells) (hRslots : slots + 6 ≤ R.slots) (hlocks : meth.locks = false)
    (hx : ∀ t : State, s.vm.Alike t.vm → H.size ≤ t.heap.size → (∀ q : Nat, q < H.size → t.heap[q]? = H[q]?) → XC cls s t)
    (hf : ∀ z ∈ locs, free z.base) (hc : cells + 1 ≤ mc) (hs : slots + 6 ≤ ms) :
    W p l e R s m args below meth c H locs cells slots (vx_MQ below Qc XC args s mc ms free) (F0 m pc ls rest) := by
  intro T hT X
  have htr : e.platform.stackTraces = false := (show e.platform.stackTraces = l.stackTraces by rw [X.admits.platform]).trans hl
  have Y := vx_rebase X (R' := { frames := R.frames, locals := R.locals, cells := 1, slots := 6 }) (Nat.le_refl _) (Nat.le_refl _) hRcells hRslots
  obtain ⟨s', hA⟩ : ∃ z, z = (T.setVm s.vm).setFrames (.invoking m args :: below) := ⟨_, rfl⟩
  rw [← hA] at Y
  have hvm : s'.vm = s.vm := by rw [hA]; rfl
  have hhp : s'.heap = H := by rw [hA]; exact hT
  have hW0 : s.WarmedH s'.vm := by rw [hvm]; exact State.WarmedH.refl s
  have hat' : ∀ w ∈ vx_at0 own ic cls names, w.before args s' = true := fun w hw => vx_ot_at hW0 hvm.symm (hgood w (List.mem_cons_of_mem _ (List.mem_cons_of_mem _ hw))) (hat w hw)
  have hk' : (Cond.classLink own ik cls).before args s' = true := vx_ot_at hW0 hvm.symm (hgood _ List.mem_cons_self) hk
  have hini' : (Cond.initialized cls).before args s' = true := vx_ot_at hW0 hvm.symm (hgood _ (List.mem_cons_of_mem _ List.mem_cons_self)) hini
  have hU' : vx_Zq Bundle.tN "UNASSIGNED_STACK" Bundle.steD A s' s'.heap := by rw [hhp]; exact vx_Zq.moved hW0.alike (hU.kept hS.2.1)
  have hN' : vx_Zq Bundle.tN "SUPPRESSED_SENTINEL" Bundle.listD A s' s'.heap := by rw [hhp]; exact vx_Zq.moved hW0.alike (hN.kept hS.2.1)
  have h : ∀ w ∈ Bundle.ownAtoms0 own ic cls names, w.before args s' = true := vx_own hat' (vx_isRefq hU'.1) (vx_isRefq hN'.1) hU'.2.word hN'.2.word
  have hown' : s'.vm.findClass own = some m.cls := by rw [hvm]; exact hown
  have hins : (Cond.instantiable cls 6).before args s' = true := h _ (by simp [Bundle.ownAtoms0])
  obtain ⟨vm₁, cX, kX, hfX, hkX, -, -, X₁, st1⟩ := Y.newCold hexec (own := own) (C := cls) (index := ik) (n := 6) hown' hk' hins hini'
    (g := F0 m pc ls rest) rfl (by rw [hb]; exact d0) (Nat.le_refl _) (Nat.le_refl _)
  generalize hT1 : (T.setVm vm₁).pushCell { cls := cX, slots := kX.instanceTypes.map defaultValue, vm := .none } = T1 at X₁ st1
  have hcat : (Value.ref T.heap.size).category = 1 := rfl
  have hcellA : T1.heap[T.heap.size]? = some (freshCell cX kX) := by rw [← hT1]; exact State.heap_pushCell_size _ _
  have d3' : decode c.code (pc + 3) = .ok (.dup, 1) := by rw [hb]; exact d3
  obtain ⟨U, hsteps, hrun, hend, hW, hsame, ce, hce, hO⟩ := X₁.ctorThrow0 hexec htr (own := own) (cls := cls) (names := names) (ic := ic) hown' hcls hnames h (fun x hx => nomatch hx) hfX hkX hcellA (by rw [hhp, hT]; exact Nat.le_refl _)
    (g := { method := m, pc := pc + 4, locals := ls, stack := .ref T.heap.size :: .ref T.heap.size :: rest, locked := none }) rfl hsize rfl rfl (rest := rest) rfl
    (by rw [hb]; exact d4) (by rw [hb]; exact d7) hout hRframes (by simp only [List.map_cons, List.sum_cons, hcat]; omega) hlocks
  obtain ⟨f1, f2⟩ := vx_frame hsame
  rw [hhp] at f1 f2
  have hWs : s.WarmedH U.vm := State.WarmedH.trans hW0 hW
  have hcl : s.vm.findClass cls = some ce.cls := by
    have h9 := hO.cls
    rw [hvm] at h9
    exact h9
  have hall : s.sameButNew ({ U with vm := s.vm } : State) locs mc ms := by
    subst hA
    obtain ⟨e1, e2⟩ := hsame
    rw [State.setFrames_setFrames] at e1
    have h2 : (T.setVm s.vm).sameButNew ({ U with vm := s.vm } : State) [] (0 + 1) (0 + 6) := ⟨e1, e2⟩
    have h3 := X.same.trans h2
    rw [List.append_nil] at h3
    exact h3.mono hc hs
  refine ⟨U, ?_, .threw T.heap.size, hrun, hend, Or.inr ⟨T.heap.size, rfl, cls, ce, locs, hx U hWs.alike f1 (fun q hq => f2 q hq (fun z hz => nomatch hz)), hce, hO.vm, hcl, hWs, hall, hf⟩⟩
  refine st1 _ ?_
  show Steps p.tables e below (T1.setTop { method := m, pc := pc + 3, locals := ls, stack := .ref T.heap.size :: rest, locked := none }) _
  jvm_step X₁.here [X₁.here.top, hexec, d3', Value.category]
  exact hsteps
/-- 'throw new E("text")': new; dup; ldc; invokespecial; athrow -/
theorem vx_throwS {cc : ByteArray} {pc : Nat} (hexec : p.tables.exec = Jvm.exec) (hb : c.code = cc) (hl : l.stackTraces = false) {own cls text : String} {names : List String} {ik is ic mc ms sa : Nat} {A : Nat → Prop}
    (hown : s.vm.findClass own = some m.cls) (hcls : Bundle.fit cls = true) (hnames : ∀ n ∈ names, Bundle.fit n = true)
    (hk : (Cond.classLink own ik cls).before args s = true) (hini : (Cond.initialized cls).before args s = true) (hstr : vk_R own is text sa s) (hat : ∀ w ∈ vx_atS own ic cls names, w.before args s = true)
    (hgood : ∀ w ∈ Cond.classLink own ik cls :: Cond.initialized cls :: vx_atS own ic cls names, vx_ot w = true)
    (hU : vx_Zq Bundle.tN "UNASSIGNED_STACK" Bundle.steD A s s.heap) (hN : vx_Zq Bundle.tN "SUPPRESSED_SENTINEL" Bundle.listD A s s.heap) (hS : va_S A s.heap H locs) (hsize : ls.size = c.maxLocals)
    (d0 : decode cc pc = .ok (.new ik, 3)) (d3 : decode cc (pc + 3) = .ok (.dup, 1)) (d4 : decode cc (pc + 4) = .ok (.ldc is, 2)) (d6 : decode cc (pc + 6) = .ok (.invokespecial ic, 3)) (d9 : decode cc (pc + 9) = .ok (.athrow, 1))
    (hout : ∀ x ∈ c.exceptionTable.toList, covers x (pc + 9) = false)
    (hRframes : names.length + 3 < R.frames) (hRlocals : (rest.map fun v => v.category).sum + (13 * (names.length + 1) + 43) ≤ R.locals) (hRcells : cells + 1 ≤ R.cells) (hRslots : slots + 6 ≤ R.slots) (hlocks : meth.locks = false)
    (hx : ∀ t : State, s.vm.Alike t.vm → H.size ≤ t.heap.size → (∀ q : Nat, q < H.size → t.heap[q]? = H[q]?) → XC cls s t)
    (hf : ∀ z ∈ locs, free z.base) (hc : cells + 1 ≤ mc) (hs : slots + 6 ≤ ms) :
    W p l e R s m args below meth c H locs cells slots (vx_MQ below Qc XC args s mc ms free) (F0 m pc ls rest) := by
  intro T hT X
  have htr : e.platform.stackTraces = false := (show e.platform.stackTraces = l.stackTraces by rw [X.admits.platform]).trans hl
  have Y := vx_rebase X (R' := { frames := R.frames, locals := R.locals, cells := 1, slots := 6 }) (Nat.le_refl _) (Nat.le_refl _) hRcells hRslots
  obtain ⟨s', hA⟩ : ∃ z, z = (T.setVm s.vm).setFrames (.invoking m args :: below) := ⟨_, rfl⟩
  rw [← hA] at Y
  have hvm : s'.vm = s.vm := by rw [hA]; rfl
  have hhp : s'.heap = H := by rw [hA]; exact hT
  have hW0 : s.WarmedH s'.vm := by rw [hvm]; exact State.WarmedH.refl s
  have hat' : ∀ w ∈ vx_atS own ic cls names, w.before args s' = true := fun w hw => vx_ot_at hW0 hvm.symm (hgood w (List.mem_cons_of_mem _ (List.mem_cons_of_mem _ hw))) (hat w hw)
  have hk' : (Cond.classLink own ik cls).before args s' = true := vx_ot_at hW0 hvm.symm (hgood _ List.mem_cons_self) hk
  have hini' : (Cond.initialized cls).before args s' = true := vx_ot_at hW0 hvm.symm (hgood _ (List.mem_cons_of_mem _ List.mem_cons_self)) hini
  have hU' : vx_Zq Bundle.tN "UNASSIGNED_STACK" Bundle.steD A s' s'.heap := by rw [hhp]; exact vx_Zq.moved hW0.alike (hU.kept hS.2.1)
  have hN' : vx_Zq Bundle.tN "SUPPRESSED_SENTINEL" Bundle.listD A s' s'.heap := by rw [hhp]; exact vx_Zq.moved hW0.alike (hN.kept hS.2.1)
  have h : ∀ w ∈ Bundle.ownAtoms own ic cls names, w.before args s' = true := vx_own hat' (vx_isRefq hU'.1) (vx_isRefq hN'.1) hU'.2.word hN'.2.word
  have hown' : s'.vm.findClass own = some m.cls := by rw [hvm]; exact hown
  have hins : (Cond.instantiable cls 6).before args s' = true := h _ (by simp [Bundle.ownAtoms])
  obtain ⟨vm₁, cX, kX, hfX, hkX, -, -, X₁, st1⟩ := Y.newCold hexec (own := own) (C := cls) (index := ik) (n := 6) hown' hk' hins hini'
    (g := F0 m pc ls rest) rfl (by rw [hb]; exact d0) (Nat.le_refl _) (Nat.le_refl _)
  generalize hT1 : (T.setVm vm₁).pushCell { cls := cX, slots := kX.instanceTypes.map defaultValue, vm := .none } = T1 at X₁ st1
  have hcat : (Value.ref T.heap.size).category = 1 := rfl
  have hcellA : T1.heap[T.heap.size]? = some (freshCell cX kX) := by rw [← hT1]; exact State.heap_pushCell_size _ _
  have d3' : decode c.code (pc + 3) = .ok (.dup, 1) := by rw [hb]; exact d3
  have d4' : decode c.code (pc + 4) = .ok (.ldc is, 2) := by rw [hb]; exact d4
  have hstr' : vk_R own is text sa s' := vk_R.warm hW0 hstr
  obtain ⟨U, hsteps, hrun, hend, hW, hsame, ce, hce, hO⟩ := X₁.ctorThrowS hexec htr (own := own) (cls := cls) (names := names) (ic := ic) hown' hcls hnames h (fun x hx => nomatch hx) hfX hkX hcellA (by rw [hhp, hT]; exact Nat.le_refl _) (msg := .ref sa) rfl
    (g := { method := m, pc := pc + 6, locals := ls, stack := .ref sa :: .ref T.heap.size :: .ref T.heap.size :: rest, locked := none }) rfl hsize rfl rfl (rest := rest) rfl
    (by rw [hb]; exact d6) (by rw [hb]; exact d9) hout hRframes (by simp only [List.map_cons, List.sum_cons, hcat]; omega) hlocks
  obtain ⟨f1, f2⟩ := vx_frame hsame
  rw [hhp] at f1 f2
  have hWs : s.WarmedH U.vm := State.WarmedH.trans hW0 hW
  have hcl : s.vm.findClass cls = some ce.cls := by
    have h9 := hO.cls
    rw [hvm] at h9
    exact h9
  have hall : s.sameButNew ({ U with vm := s.vm } : State) locs mc ms := by
    subst hA
    obtain ⟨e1, e2⟩ := hsame
    rw [State.setFrames_setFrames] at e1
    have h2 : (T.setVm s.vm).sameButNew ({ U with vm := s.vm } : State) [] (0 + 1) (0 + 6) := ⟨e1, e2⟩
    have h3 := X.same.trans h2
    rw [List.append_nil] at h3
    exact h3.mono hc hs
  refine ⟨U, ?_, .threw T.heap.size, hrun, hend, Or.inr ⟨T.heap.size, rfl, cls, ce, locs, hx U hWs.alike f1 (fun q hq => f2 q hq (fun z hz => nomatch hz)), hce, hO.vm, hcl, hWs, hall, hf⟩⟩
  refine st1 _ ?_
  show Steps p.tables e below (T1.setTop { method := m, pc := pc + 3, locals := ls, stack := .ref T.heap.size :: rest, locked := none }) _
  jvm_step X₁.here [X₁.here.top, hexec, d3', Value.category]
  exact X₁.ldcString hexec (own := own) (text := text) (index := is) (a := sa) hown' hstr'.1 hstr'.2
    (g := { method := m, pc := pc + 4, locals := ls, stack := .ref T.heap.size :: .ref T.heap.size :: rest, locked := none }) rfl d4' _ hsteps
/-- 'throw new E("text")', the text by a wide index -/
theorem vx_throwSW {cc : ByteArray} {pc : Nat} (hexec : p.tables.exec = Jvm.exec) (hb : c.code = cc) (hl : l.stackTraces = false) {own cls text : String} {names : List String} {ik is ic mc ms sa : Nat} {A : Nat → Prop}
    (hown : s.vm.findClass own = some m.cls) (hcls : Bundle.fit cls = true) (hnames : ∀ n ∈ names, Bundle.fit n = true)
    (hk : (Cond.classLink own ik cls).before args s = true) (hini : (Cond.initialized cls).before args s = true) (hstr : vk_R own is text sa s) (hat : ∀ w ∈ vx_atS own ic cls names, w.before args s = true)
    (hgood : ∀ w ∈ Cond.classLink own ik cls :: Cond.initialized cls :: vx_atS own ic cls names, vx_ot w = true)
    (hU : vx_Zq Bundle.tN "UNASSIGNED_STACK" Bundle.steD A s s.heap) (hN : vx_Zq Bundle.tN "SUPPRESSED_SENTINEL" Bundle.listD A s s.heap) (hS : va_S A s.heap H locs) (hsize : ls.size = c.maxLocals)
    (d0 : decode cc pc = .ok (.new ik, 3)) (d3 : decode cc (pc + 3) = .ok (.dup, 1)) (d4 : decode cc (pc + 4) = .ok (.ldc_w is, 3)) (d7 : decode cc (pc + 7) = .ok (.invokespecial ic, 3)) (d10 : decode cc (pc + 10) = .ok (.athrow, 1))
    (hout : ∀ x ∈ c.exceptionTable.toList, covers x (pc + 10) = false)
    (hRframes : names.length + 3 < R.frames) (hRlocals : (rest.map fun v => v.category).sum + (13 * (names.length + 1) + 43) ≤ R.locals) (hRcells : cells + 1 ≤ R.cells) (hRslots : slots + 6 ≤ R.slots) (hlocks : meth.locks = false)
    (hx : ∀ t : State, s.vm.Alike t.vm → H.size ≤ t.heap.size → (∀ q : Nat, q < H.size → t.heap[q]? = H[q]?) → XC cls s t)
    (hf : ∀ z ∈ locs, free z.base) (hc : cells + 1 ≤ mc) (hs : slots + 6 ≤ ms) :
    W p l e R s m args below meth c H locs cells slots (vx_MQ below Qc XC args s mc ms free) (F0 m pc ls rest) := by
  intro T hT X
  have htr : e.platform.stackTraces = false := (show e.platform.stackTraces = l.stackTraces by rw [X.admits.platform]).trans hl
  have Y := vx_rebase X (R' := { frames := R.frames, locals := R.locals, cells := 1, slots := 6 }) (Nat.le_refl _) (Nat.le_refl _) hRcells hRslots
  obtain ⟨s', hA⟩ : ∃ z, z = (T.setVm s.vm).setFrames (.invoking m args :: below) := ⟨_, rfl⟩
  rw [← hA] at Y
  have hvm : s'.vm = s.vm := by rw [hA]; rfl
  have hhp : s'.heap = H := by rw [hA]; exact hT
  have hW0 : s.WarmedH s'.vm := by rw [hvm]; exact State.WarmedH.refl s
  have hat' : ∀ w ∈ vx_atS own ic cls names, w.before args s' = true := fun w hw => vx_ot_at hW0 hvm.symm (hgood w (List.mem_cons_of_mem _ (List.mem_cons_of_mem _ hw))) (hat w hw)
  have hk' : (Cond.classLink own ik cls).before args s' = true := vx_ot_at hW0 hvm.symm (hgood _ List.mem_cons_self) hk
  have hini' : (Cond.initialized cls).before args s' = true := vx_ot_at hW0 hvm.symm (hgood _ (List.mem_cons_of_mem _ List.mem_cons_self)) hini
  have hU' : vx_Zq Bundle.tN "UNASSIGNED_STACK" Bundle.steD A s' s'.heap := by rw [hhp]; exact vx_Zq.moved hW0.alike (hU.kept hS.2.1)
  have hN' : vx_Zq Bundle.tN "SUPPRESSED_SENTINEL" Bundle.listD A s' s'.heap := by rw [hhp]; exact vx_Zq.moved hW0.alike (hN.kept hS.2.1)
  have h : ∀ w ∈ Bundle.ownAtoms own ic cls names, w.before args s' = true := vx_own hat' (vx_isRefq hU'.1) (vx_isRefq hN'.1) hU'.2.word hN'.2.word
  have hown' : s'.vm.findClass own = some m.cls := by rw [hvm]; exact hown
  have hins : (Cond.instantiable cls 6).before args s' = true := h _ (by simp [Bundle.ownAtoms])
  obtain ⟨vm₁, cX, kX, hfX, hkX, -, -, X₁, st1⟩ := Y.newCold hexec (own := own) (C := cls) (index := ik) (n := 6) hown' hk' hins hini'
    (g := F0 m pc ls rest) rfl (by rw [hb]; exact d0) (Nat.le_refl _) (Nat.le_refl _)
  generalize hT1 : (T.setVm vm₁).pushCell { cls := cX, slots := kX.instanceTypes.map defaultValue, vm := .none } = T1 at X₁ st1
  have hcat : (Value.ref T.heap.size).category = 1 := rfl
  have hcellA : T1.heap[T.heap.size]? = some (freshCell cX kX) := by rw [← hT1]; exact State.heap_pushCell_size _ _
  have d3' : decode c.code (pc + 3) = .ok (.dup, 1) := by rw [hb]; exact d3
  have d4' : decode c.code (pc + 4) = .ok (.ldc_w is, 3) := by rw [hb]; exact d4
  have hstr' : vk_R own is text sa s' := vk_R.warm hW0 hstr
  obtain ⟨U, hsteps, hrun, hend, hW, hsame, ce, hce, hO⟩ := X₁.ctorThrowS hexec htr (own := own) (cls := cls) (names := names) (ic := ic) hown' hcls hnames h (fun x hx => nomatch hx) hfX hkX hcellA (by rw [hhp, hT]; exact Nat.le_refl _) (msg := .ref sa) rfl
    (g := { method := m, pc := pc + 7, locals := ls, stack := .ref sa :: .ref T.heap.size :: .ref T.heap.size :: rest, locked := none }) rfl hsize rfl rfl (rest := rest) rfl
    (by rw [hb]; exact d7) (by rw [hb]; exact d10) hout hRframes (by simp only [List.map_cons, List.sum_cons, hcat]; omega) hlocks
  obtain ⟨f1, f2⟩ := vx_frame hsame
  rw [hhp] at f1 f2
  have hWs : s.WarmedH U.vm := State.WarmedH.trans hW0 hW
  have hcl : s.vm.findClass cls = some ce.cls := by
    have h9 := hO.cls
    rw [hvm] at h9
    exact h9
  have hall : s.sameButNew ({ U with vm := s.vm } : State) locs mc ms := by
    subst hA
    obtain ⟨e1, e2⟩ := hsame
    rw [State.setFrames_setFrames] at e1
    have h2 : (T.setVm s.vm).sameButNew ({ U with vm := s.vm } : State) [] (0 + 1) (0 + 6) := ⟨e1, e2⟩
    have h3 := X.same.trans h2
    rw [List.append_nil] at h3
    exact h3.mono hc hs
  refine ⟨U, ?_, .threw T.heap.size, hrun, hend, Or.inr ⟨T.heap.size, rfl, cls, ce, locs, hx U hWs.alike f1 (fun q hq => f2 q hq (fun z hz => nomatch hz)), hce, hO.vm, hcl, hWs, hall, hf⟩⟩
  refine st1 _ ?_
  show Steps p.tables e below (T1.setTop { method := m, pc := pc + 3, locals := ls, stack := .ref T.heap.size :: rest, locked := none }) _
  jvm_step X₁.here [X₁.here.top, hexec, d3', Value.category]
  exact X₁.ldcStringW hexec (own := own) (text := text) (index := is) (a := sa) hown' hstr'.1 hstr'.2
    (g := { method := m, pc := pc + 4, locals := ls, stack := .ref T.heap.size :: .ref T.heap.size :: rest, locked := none }) rfl d4' _ hsteps
end Ends
section Bodies
variable {l : Launch}
theorem vx_ofW {y : MethodName} {ws ws' : List Cond} {rm : Room} {Pc : Array Value → State → Prop} {Qc : Array Value → State → Outcome → State → Prop} {XC : String → State → State → Prop} {mc ms : Nat} {free : Addr → Prop} {cc : ByteArray} {maxL : Nat} {ret : Option FieldType}
    (hy : plainName y.cls = true) (hw : ws = Cond.code y cc maxL ret :: ws')
    (body : ∀ p e s m args below meth c s₁, BodyLoose p l y (headSpec ws rm) cc maxL ret e s m args below meth c s₁ → c.maxLocals = maxL → (∀ x ∈ c.exceptionTable.toList, False) → Pc args s →
      W p l e (headSpec ws rm).room s m args below meth c s.heap [] 0 0 (vx_MQ below Qc XC args s mc ms free) (entryFrame m args maxL)) : vx_Met l y ws rm Pc Qc XC mc ms free := by
  refine MetFree.of_bodyS (code := cc) (maxLocals := maxL) (ret := ret) hy ?_ ?_
  · intro args s m h hn
    obtain ⟨meth, c, h1, h2, h3, h4, h5, h6, -, -⟩ := Cond.code_spec hn (atoms_spec (ws := ws) h _ (by rw [hw]; exact List.mem_cons_self))
    exact ⟨meth, c, h1, h2, h3, h4, h5, h6⟩
  · intro p e s m args below meth c s₁ B hml hP _
    have hh0 : s₁.heap = s.heap := by rw [B.state]; rfl
    have ht : ∀ x ∈ c.exceptionTable.toList, False := by
      obtain ⟨meth9, c9, h1, h2, -, -, -, -, h7, -⟩ := Cond.code_spec B.named (atoms_spec (ws := ws) B.pre _ (by rw [hw]; exact List.mem_cons_self))
      cases Option.some.inj (h1.symm.trans B.method)
      cases Option.some.inj (h2.symm.trans (Stand.of_body B).code)
      intro x hx
      rw [Array.isEmpty_iff.mp h7] at hx
      cases hx
    obtain ⟨t, a1, o, b1, b2, b3⟩ := body p e s m args below meth c s₁ B hml ht hP s₁ hh0 (Stand.of_body B)
    exact ⟨t, o, a1, b1, b2, b3⟩
/-- the table of a body with handlers -/
theorem vx_table {p : Program} {x y : MethodName} {S : Spec} {cc bytes : ByteArray} {maxL maxL' : Nat} {ret ret' : Option FieldType} {e : Env} {s s₁ : State} {m : MethodId} {args : Array Value} {below : List Frame} {meth : Method} {c : Code} {hh : List (Nat × Nat × Nat × Nat)}
    (B : BodyLoose p l y S cc maxL ret e s m args below meth c s₁) (h : (Cond.codeWith y bytes maxL' ret' hh).before args s = true) : c.exceptionTable.toList = tableOf hh := by
  obtain ⟨m9, meth9, c9, hn9, h1, h2, -, -, h6, -⟩ := Cond.codeWith_spec h
  cases Option.some.inj (hn9.symm.trans B.named)
  cases Option.some.inj (h1.symm.trans B.method)
  cases Option.some.inj (h2.symm.trans (Stand.of_body B).code)
  rw [← h6, table_eq]
end Bodies
end VXA
/-! ===== END ===== -/
/-! ===== BEGIN a static call of a method with an exception table ===== -/
section VXS
variable {p : Program} {l : Launch} {e : Env} {R : Room} {s : State} {m : MethodId} {args : Array Value} {below : List Frame} {meth : Method} {c : Code} {T : State} {H : Heap} {locs : List Loc} {cells slots : Nat}
abbrev vx_CSW (R : Room) (s : State) (args : Array Value) (own : String) (index : Nat) (y : MethodName) (bytes : ByteArray) (maxL : Nat) (ret : Option FieldType) (hh : List (Nat × Nat × Nat × Nat)) (ws : List Cond) (rm : Room) (mc ms n : Nat) : Prop :=
  (rm.cells = mc ∧ rm.slots = ms ∧ rm.frames + 1 ≤ R.frames ∧ 8 + (maxL + 11) + rm.locals ≤ R.locals ∧ (∀ w ∈ ws, ∀ (a' : Array Value) (U : State), s.WarmedH U.vm → w.before a' U = true) ∧ Cond.codeWith y bytes maxL ret hh ∈ ws) ∧
  (Cond.codeWith y bytes maxL ret hh).before args s = true ∧ (Cond.initialized y.cls).before args s = true ∧ (y.cls ≠ "java/lang/invoke/MethodHandle" ∧ y.cls ≠ "java/lang/invoke/VarHandle") ∧
  (∀ sig, parseMethodDescriptor y.desc = some sig → n = sig.parameters.length) ∧ (Cond.methodLink own index y).before args s = true ∧ (Cond.static y).before args s = true
theorem vx_cwSW {own : String} {index maxL mc ms : Nat} {y : MethodName} {bytes : ByteArray} {ret : Option FieldType} {hh : List (Nat × Nat × Nat × Nat)} {Ts ws ws' : List Cond} {rm : Room} (n : Nat) (ht : ∀ w ∈ Ts, w.before args s = true) (hT : GoodIn Ts (va_wsS own index y ws)) (hw : ws = Cond.codeWith y bytes maxL ret hh :: ws') (hrc : rm.cells = mc) (hrs : rm.slots = ms)
    (hd : y.cls ≠ "java/lang/invoke/MethodHandle" ∧ y.cls ≠ "java/lang/invoke/VarHandle" ∧ (parseMethodDescriptor y.desc).map (fun d => d.parameters.length) = some n) (hR : rm.frames + 1 ≤ R.frames ∧ 8 + (maxL + 11) + rm.locals ≤ R.locals) :
    vx_CSW R s args own index y bytes maxL ret hh ws rm mc ms n := by
  have ok : ∀ w ∈ va_wsS own index y ws, w.before args s = true := fun w h => ht w (hT w h).1
  have hG : GoodIn Ts ws := fun w h => hT w (by unfold va_wsS; exact List.mem_append_right _ h)
  have hc : Cond.codeWith y bytes maxL ret hh ∈ ws := by rw [hw]; exact List.mem_cons_self
  refine ⟨⟨hrc, hrs, hR.1, hR.2, pay_in ht hG, hc⟩, ht _ (hG _ hc).1, ok _ (by simp [va_wsS]), ⟨hd.1, hd.2.1⟩, fun sig h => ?_, ok _ (by simp [va_wsS]), ok _ (by simp [va_wsS])⟩
  have h2 := hd.2.2
  rw [h] at h2
  exact (Option.some.inj h2).symm
theorem vx_callSW (X : Stand p l e R s m args below meth c T locs cells slots) (hexec : p.tables.exec = Jvm.exec) {own : String} {index : Nat} {y : MethodName} {bytes : ByteArray} {maxL : Nat} {ret : Option FieldType} {hh : List (Nat × Nat × Nat × Nat)}
    (hown : s.vm.findClass own = some m.cls) (hlink : (Cond.methodLink own index y).before args s = true) (hstat : (Cond.static y).before args s = true) (hinit : (Cond.initialized y.cls).before args s = true)
    (hcode : (Cond.codeWith y bytes maxL ret hh).before args s = true) (hy : y.cls ≠ "java/lang/invoke/MethodHandle" ∧ y.cls ≠ "java/lang/invoke/VarHandle")
    {W9 : Nat} {Pre : Pt → Array Value → Prop} {Post : Pt → Array Value → Option Value → Pt → Prop} (hK : Back l R p e below s args y 3 W9 Pre Post)
    {g : JFrame} (hg : g.method = m) (hsize : g.locals.size = c.maxLocals) {argsL rest : List Value} (hlen : ∀ sig, parseMethodDescriptor y.desc = some sig → argsL.length = sig.parameters.length)
    (hstack : g.stack = argsL.reverse ++ rest) (hW : 2 * g.monitorRoom + (rest.map fun v => v.category).sum ≤ W9) (hdg : decode c.code g.pc = .ok (.invokestatic index, 3))
    (hpre : ∀ vm₁, s.WarmedH vm₁ → Pre ⟨T.setVm vm₁, locs, cells, slots⟩ argsL.toArray) :
    ∃ (v : Option Value) (vm₁ : Vm) (B : Pt), s.WarmedH vm₁ ∧ Stand p l e R s m args below meth c B.U B.locs B.cells B.slots ∧ Post ⟨T.setVm vm₁, locs, cells, slots⟩ argsL.toArray v B ∧
      ∀ target, Steps p.tables e below (B.U.setTop { g with pc := g.pc + 3, stack := v.toList ++ rest }) target → Steps p.tables e below (T.setTop g) target := by
  obtain ⟨mk, methM, cM, hnamed, hmethM, -, -, -, -, -, -, hsigM⟩ := Cond.codeWith_spec hcode
  have hstatic : methM.isStatic = true := Cond.static_spec hnamed hmethM hstat
  obtain ⟨kP, hkP, -⟩ := className_of_methodNamed hnamed
  have hinitP : kP.init = .initialized := Cond.initialized_spec (findClass_of_methodNamed hnamed) hkP hinit
  obtain ⟨vm₁, X₁, hstep₁⟩ := X.invokestatic hexec hown hlink hnamed hmethM hstatic hkP hinitP hy (g := g) hg (argsL := argsL) (rest := rest) (hlen _ hsigM) hstack hdg
  obtain ⟨v, B, X', hpost, hsteps⟩ := hK m meth c ⟨T.setVm vm₁, locs, cells, slots⟩ { g with stack := rest } (.invokestatic index) mk argsL.toArray X₁ hg hsize hdg hW (X₁.named hnamed) (hpre vm₁ X₁.warmed)
  exact ⟨v, vm₁, B, X₁.warmed, X', hpost, fun target h => hstep₁ _ fun acts => by rw [doInvoke_state]; exact hsteps.trans h⟩
theorem vx_runSW {y : MethodName} {bytes cc : ByteArray} {maxL nL mc ms n index : Nat} {ret : Option FieldType} {hh : List (Nat × Nat × Nat × Nat)} {ws : List Cond} {rm : Room} {Pc : Array Value → State → Prop} {Qc : Array Value → State → Outcome → State → Prop} {free : Addr → Prop} {Ts : List Cond} {own : String} {As rest : List Value} {g : JFrame}
    (S : CallFix p m c cc nL s args Ts own) (hM : Met l y ws rm Pc Qc mc ms free) (cw : vx_CSW R s args own index y bytes maxL ret hh ws rm mc ms n) (hp : PreS s H Pc As)
    (hg : g.method = m) (hn : As.length = n) (hsize : g.locals.size = nL) (hstack : g.stack = As.reverse ++ rest) (hW : 2 * g.monitorRoom + (rest.map fun v => v.category).sum ≤ 8) (hdg : decode cc g.pc = .ok (.invokestatic index, 3)) (hf : cells + mc ≤ R.cells ∧ slots + ms ≤ R.slots) :
    va_Run p l e R s m args below meth c H locs cells slots mc ms g rest (Qc As.toArray) (free) := by
  obtain ⟨⟨hrc, hrs, hfr, hlo, hws, hcw⟩, hcode, hini, hy, hlen, hl, hstt⟩ := cw
  have hK : Back l R p e below s args y 3 8 (PreOf R mc ms Pc) (PostOf Qc mc ms free) := va_backW (hh := hh) (bytes := bytes) (maxL := maxL) (ret := ret) hM hp.1 hrc hrs hfr hlo hws hcw (fun a' U hW => word_at hW (Or.inl (by first | rfl | simp [Cond.onTables, Cond.keeps, Cond.steady])) hini)
  obtain ⟨hx, hb, hml, ho, -⟩ := S
  intro T hT X
  obtain ⟨v, vm₁, ⟨U', l2, c2, s2⟩, hW₁, X', ⟨g', mk, t, L, e1, e2, hq, h1, hL, h2, h3⟩, st⟩ := vx_callSW X hx (hh := hh) (bytes := bytes) (maxL := maxL) (ret := ret) ho hl hstt hini hcode hy hK hg (hsize.trans hml.symm) (argsL := As) (rest := rest) (fun sig h => hn.trans (hlen sig h)) hstack hW (by rw [hb]; exact hdg)
    (fun vm₁ hW₁ => ⟨hf.1, hf.2, hp.2 (T.setVm vm₁) hT hW₁⟩)
  dsimp only [Pt.U, Pt.locs, Pt.cells, Pt.slots] at X' e1 e2 h1 h2 h3 st
  subst h1; subst h2; subst h3
  exact ⟨v, (T.setVm vm₁).calling g' mk As.toArray, t, U', L, hT, X', hL, e1, e2, hq, st⟩
/-- not caught here, past rows that name other classes: it goes on to the caller -/
theorem vx_outP {p : Program} {l : Launch} {e : Env} {R : Room} {s : State} {m : MethodId} {args : Array Value} {below : List Frame} {meth : Method} {c : Code} {H : Heap} {locs : List Loc} {cells slots : Nat} {free : Addr → Prop} {ls : Array Slot} {rest : List Value} {Qc : Array Value → State → Outcome → State → Prop} {XC : String → State → State → Prop}
    {pc : Nat} {own E : String} {ce : Cell} {q : Addr} {mc ms : Nat} (hown : s.vm.findClass own = some m.cls) (hlocks : meth.locks = false)
    (hpass : ∀ z ∈ c.exceptionTable.toList, covers z pc = false ∨ (z.catchType ≠ 0 ∧ ∃ nm : String, (Cond.classLink own z.catchType nm).before args s = true ∧ va_Nc E nm s)) (hcell : H[q]? = some ce) (hv : ce.vm = .none) (hcl : s.vm.findClass E = some ce.cls)
    (hx : ∀ t : State, t.heap = H → s.vm.Alike t.vm → XC E s t) (hf : ∀ z ∈ locs, free z.base) (hc : cells ≤ mc) (hs : slots ≤ ms) :
    vx_W p l e R s m args below meth c H locs cells slots (vx_MQ below Qc XC args s mc ms free) (F0 m pc ls rest) q := by
  intro T hT X
  have hpl : e.platform.magicAccessors = ({} : Platform).magicAccessors := by rw [X.admits.platform]
  obtain ⟨vm', hW', X', st⟩ := X.outThrough hlocks q (g := F0 m pc ls rest) rfl rfl rfl (cell := ce) (by rw [hT]; exact hcell) (by rw [hv]; rfl)
    (by obtain ⟨k9, h9, -⟩ := Vm.findClass_spec hcl; exact ⟨k9, h9⟩) (fun z hz => by
      rcases hpass z hz with h | ⟨hz0, nm, hl1, hn1⟩
      · exact Or.inl h
      · obtain ⟨c6, hc6, hcl6⟩ := Cond.classLink_spec hown hl1 e.platform hpl
        obtain ⟨a8, b8, h1, h2, h3⟩ := hn1
        cases Option.some.inj (h1.symm.trans hcl)
        cases Option.some.inj (h2.symm.trans hc6)
        exact Or.inr ⟨hz0, _, hcl6, h3⟩)
  obtain ⟨g₀, hfr⟩ := X'.frames_eq
  have hcell9 : ((T.setVm vm').setFrames (.throwing q :: below)).heap[q]? = some ce := by
    show T.heap[q]? = some ce
    rw [hT]; exact hcell
  have hend : Ended ((T.setVm vm').setFrames (.throwing q :: below)) below (.threw q) := State.frames_setFrames _ (State.cur_lt_of_frames hfr)
  refine ⟨(T.setVm vm').setFrames (.throwing q :: below), ?_, .threw q, X'.here.running, hend, Or.inr ⟨q, rfl, E, ce, locs, hx _ hT (X'.ends _).1.alike, hcell9, hv, hcl, (X'.ends _).1, (X'.ends _).2.mono hc hs, hf⟩⟩
  rw [X.pushThrowing_eq]
  exact st
/-- a thing of a world lies in the heap -/
theorem vx_lt {D : va_G} {cl : List vw_C} {ws : va_W} {H1 : Heap} (h : va_P D cl ws H1) {k : Nat} {q : Nat × va_E} (hk : ws[k]? = some q) : q.1 < H1.size := (h k q hk).lt
end VXS
/-! ===== END ===== -/
/-! ===== BEGIN methods with a table of their own: called by a name, returning or throwing ===== -/
section VXH
/-! vx_backW, vx_callVX, vx_callSX, vx_callVW, vx_runVW, vx_runVX, vx_runSX, vx_ofWH follow the same proofs as their sisters above (Free/Laws.lean, Shelf42/LK1.lean); vx_outP calls Shelf42/NT130.lean (outThrough). -/
section
variable {l : Launch} {R : Room} {p : Program} {e : Env} {below : List Frame} {s : State} {sargs : Array Value} {y : MethodName} {len W9 : Nat}
theorem vx_backW {ws : List Cond} {rm : Room} {Pc : Array Value → State → Prop} {Qc : Array Value → State → Outcome → State → Prop} {XC : String → State → State → Prop} {mc ms : Nat} {free : Addr → Prop} {bytes : ByteArray} {maxL : Nat} {ret : Option FieldType} {hh : List (Nat × Nat × Nat × Nat)}
    (hM : vx_Met l y ws rm Pc Qc XC mc ms free) (hblind : FrameBlind Pc) (hrc : rm.cells = mc) (hrs : rm.slots = ms)
    (hframes : rm.frames + 1 ≤ R.frames) (hlocals : W9 + (maxL + 11) + rm.locals ≤ R.locals)
    (hws : ∀ w ∈ ws, ∀ a' U, s.WarmedH U.vm → w.before a' U = true) (hcode : Cond.codeWith y bytes maxL ret hh ∈ ws) (hinit : ∀ a' U, s.WarmedH U.vm → (Cond.initialized y.cls).before a' U = true) :
    vx_Back l R p e below s sargs y len W9 (PreOf R mc ms Pc) (PostOf Qc mc ms free) (vx_Post XC mc ms free) := by
  intro m meth c A g ig mk a X hg hsize hdg hW hn hp
  have h1 : (headSpec ws rm).pre.before a A.U = true := atoms_intro fun w hw => hws w hw _ _ X.warmed
  have h2 : (Cond.codeWith y bytes maxL ret hh).before a A.U = true := hws _ hcode _ _ X.warmed
  have h3 : (Cond.initialized y.cls).before a A.U = true := hinit _ _ X.warmed
  have h4 : A.cells + (headSpec ws rm).room.cells ≤ R.cells := by rw [show (headSpec ws rm).room.cells = mc from hrc]; exact hp.1
  have h5 : A.slots + (headSpec ws rm).room.slots ≤ R.slots := by rw [show (headSpec ws rm).room.slots = ms from hrs]; exact hp.2.1
  have hPc : Pc a (A.U.calling g mk a) := hblind _ _ _ _ hp.2.2
  obtain ⟨U, Ls, c0, s0⟩ := A
  dsimp only [Pt.U, Pt.locs, Pt.cells, Pt.slots] at h1 h2 h3 h4 h5 X hn hPc ⊢
  obtain ⟨m9, methY, cY, hn9, hmY, hcY, -, hlY, -⟩ := Cond.codeWith_spec h2
  cases Option.some.inj (hn9.symm.trans hn)
  obtain ⟨kY, hkY, -⟩ := className_of_methodNamed hn
  have hinitY : kY.init = .initialized := Cond.initialized_spec (findClass_of_methodNamed hn) hkY h3
  have h : At U g.method c below := by rw [hg]; exact X.here
  have hlocals9 : W9 + (maxL + 11) + (headSpec ws rm).room.locals ≤ R.locals := hlocals
  have happ : (headSpec ws rm).appliesLoose y e.platform (U.calling g mk a) = true :=
    Spec.appliesLoose_calling (g := g) h hdg hn hkY hinitY
      (X.room_calling (g := g) (R' := (headSpec ws rm).room) hsize hmY hcY hframes (by rw [hlY]; omega) h4 h5) h1
  obtain ⟨mid, hmid⟩ := h.above
  have hfr : (U.setTop g).frames = (.java g :: mid) ++ below := by rw [State.frames_setTop' g h.top, hmid]; rfl
  obtain ⟨o, s₂, hsteps, -, hend, hq⟩ := Steps.callFree hM p X.admits X.cas X.clock (acts := []) hfr happ hPc trivial
  have hq' : vx_Q Qc XC mc ms free a (U.calling g mk a) o s₂ := hq
  rw [State.frames_setTop' g h.top] at hend
  obtain ⟨g₀, hg0⟩ := Option.isSome_iff_exists.mp h.top
  obtain ⟨r, hr⟩ := State.topJava?_eq_some.mp hg0
  have hr' : (({ U with heap := s₂.heap, slotsUsed := s₂.slotsUsed } : State).setVm s₂.vm).frames = .java g₀ :: r := hr
  rcases hq' with ⟨hqc, L, hfe, hL⟩ | ⟨q, rfl, E, ce, L, hx, hce, hcv, hcl, hW₂, hsm, hL⟩
  · obtain ⟨⟨v, rfl⟩, hW₂, e2, q2, q3, q4, q5, q6⟩ := id hfe
    have e3 : s₂ = ({ (U.calling g mk a).setFrames s₂.frames with heap := s₂.heap, slotsUsed := s₂.slotsUsed } : State).setVm s₂.vm := by
      have : s₂ = ({ s₂ with vm := (U.calling g mk a).vm } : State).setVm s₂.vm := rfl
      rw [e2] at this
      exact this
    obtain ⟨c₂, i₂, len₂, hc₂, hd₂, hf₂⟩ := hend
    have hW' : U.WarmedH s₂.vm := hW₂
    have hcc : c₂ = c := by
      have h1 : s₂.code? g.method = U.code? g.method := by
        rw [State.code?_eq, State.code?_eq, hW'.alike.method?]
      exact Option.some.inj (hc₂.symm.trans (h1.trans h.code))
    subst hcc
    have hlen : len₂ = len := by rw [hdg] at hd₂; cases hd₂; rfl
    subst hlen
    have hs₂ : s₂ = (({ U with heap := s₂.heap, slotsUsed := s₂.slotsUsed } : State).setVm s₂.vm).setTop { g with pc := g.pc + len₂, stack := v.toList ++ g.stack } := by
      refine e3.trans ?_
      rw [hf₂, State.calling_eq h.top, State.setFrames_setFrames, State.setTop_of_frames _ hr', hr]
      rfl
    have hsame : U.sameButNew ({ U with heap := s₂.heap, slotsUsed := s₂.slotsUsed } : State) L mc ms := by
      refine ⟨?_, q2, q3, q4, q5, q6⟩
      obtain ⟨t, ht, -⟩ := State.frames_cons hr
      show ({ U with heap := s₂.heap, slotsUsed := s₂.slotsUsed } : State) = { U.setFrames U.frames with heap := s₂.heap, slotsUsed := s₂.slotsUsed }
      rw [State.setFrames_self ht]
    subst hg
    refine Or.inl ⟨v, ⟨(({ U with heap := s₂.heap, slotsUsed := s₂.slotsUsed } : State).setVm s₂.vm), Ls ++ L, c0 + mc, s0 + ms⟩,
      ⟨X.admits, X.cas, X.clock, X.frames, X.room, X.hears, X.method, X.code, (X.here.setHeapUsed s₂.heap s₂.slotsUsed).setVm hW'.alike, X.tail, State.WarmedH.trans X.warmed hW', X.limits, X.bytes, X.same.trans (hsame.setVm s.vm)⟩,
      ⟨g, mk, s₂, L, rfl, rfl, hqc, rfl, hL, rfl, rfl⟩, ?_⟩
    show Steps p.tables e below _ ((({ U with heap := s₂.heap, slotsUsed := s₂.slotsUsed } : State).setVm s₂.vm).setTop { g with pc := g.pc + len₂, stack := v.toList ++ g.stack })
    rw [← hs₂]
    exact hsteps
  · obtain ⟨e2, q2, q3, q4, q5, q6⟩ := id hsm
    have e3 : s₂ = ({ (U.calling g mk a).setFrames s₂.frames with heap := s₂.heap, slotsUsed := s₂.slotsUsed } : State).setVm s₂.vm := by
      have : s₂ = ({ s₂ with vm := (U.calling g mk a).vm } : State).setVm s₂.vm := rfl
      rw [e2] at this
      exact this
    have hf₂ : s₂.frames = .throwing q :: .java g :: U.frames.tail := hend
    have hW' : U.WarmedH s₂.vm := hW₂
    have hs₂ : s₂ = ((({ U with heap := s₂.heap, slotsUsed := s₂.slotsUsed } : State).setVm s₂.vm).setTop g).pushFrame (.throwing q) := by
      refine e3.trans ?_
      rw [hf₂, State.calling_eq h.top, State.setFrames_setFrames, State.pushFrame, State.frames_setTop _ hr', State.setTop_of_frames _ hr', State.setFrames_setFrames, hr]
      rfl
    have hsame : U.sameButNew ({ U with heap := s₂.heap, slotsUsed := s₂.slotsUsed } : State) L mc ms := by
      refine ⟨?_, q2, q3, q4, q5, q6⟩
      obtain ⟨t, ht, -⟩ := State.frames_cons hr
      show ({ U with heap := s₂.heap, slotsUsed := s₂.slotsUsed } : State) = { U.setFrames U.frames with heap := s₂.heap, slotsUsed := s₂.slotsUsed }
      rw [State.setFrames_self ht]
    subst hg
    refine Or.inr ⟨q, ⟨(({ U with heap := s₂.heap, slotsUsed := s₂.slotsUsed } : State).setVm s₂.vm), Ls ++ L, c0 + mc, s0 + ms⟩,
      ⟨X.admits, X.cas, X.clock, X.frames, X.room, X.hears, X.method, X.code, (X.here.setHeapUsed s₂.heap s₂.slotsUsed).setVm hW'.alike, X.tail, State.WarmedH.trans X.warmed hW', X.limits, X.bytes, X.same.trans (hsame.setVm s.vm)⟩,
      ⟨g, mk, s₂, L, E, ce, rfl, rfl, hx, hce, hcv, hcl, rfl, hL, rfl, rfl⟩, ?_⟩
    show Steps p.tables e below _ (((({ U with heap := s₂.heap, slotsUsed := s₂.slotsUsed } : State).setVm s₂.vm).setTop g).pushFrame (.throwing q))
    rw [← hs₂]
    exact hsteps
end
variable {p : Program} {l : Launch} {e : Env} {R : Room} {s : State} {m : MethodId} {args : Array Value} {below : List Frame} {meth : Method} {c : Code} {T : State} {H : Heap} {locs : List Loc} {cells slots : Nat}
theorem vx_callVX (X : Stand p l e R s m args below meth c T locs cells slots) (hexec : p.tables.exec = Jvm.exec) {own C : String} {index : Nat} {y : MethodName} {bytes : ByteArray} {maxL : Nat} {ret : Option FieldType} {hh : List (Nat × Nat × Nat × Nat)}
    (hown : s.vm.findClass own = some m.cls) (hlink : (Cond.methodLink own index y).before args s = true) (hinst : (Cond.instanceMethod y).before args s = true) (hsel : (Cond.selects C y y).before args s = true)
    (hcode : (Cond.codeWith y bytes maxL ret hh).before args s = true) (hy : y.cls ≠ "java/lang/invoke/MethodHandle" ∧ y.cls ≠ "java/lang/invoke/VarHandle")
    {W9 : Nat} {Pre : Pt → Array Value → Prop} {Post : Pt → Array Value → Option Value → Pt → Prop} {PostX : Pt → Array Value → Addr → Pt → Prop} (hK : vx_Back l R p e below s args y 3 W9 Pre Post PostX)
    {b : Addr} {cellB : Cell} (hcell : T.heap[b]? = some cellB) (hobj : cellB.vm.isStatics = false) (hcls : s.vm.findClass C = some cellB.cls)
    {g : JFrame} (hg : g.method = m) (hsize : g.locals.size = c.maxLocals) {argsL rest : List Value} (hlen : ∀ sig, parseMethodDescriptor y.desc = some sig → argsL.length = sig.parameters.length)
    (hstack : g.stack = argsL.reverse ++ .ref b :: rest) (hW : 2 * g.monitorRoom + (rest.map fun v => v.category).sum ≤ W9) (hdg : decode c.code g.pc = .ok (.invokevirtual index, 3))
    (hpre : ∀ vm₁, s.WarmedH vm₁ → Pre ⟨T.setVm vm₁, locs, cells, slots⟩ (Value.ref b :: argsL).toArray) :
    (∃ (v : Option Value) (vm₁ : Vm) (B : Pt), s.WarmedH vm₁ ∧ Stand p l e R s m args below meth c B.U B.locs B.cells B.slots ∧ Post ⟨T.setVm vm₁, locs, cells, slots⟩ (Value.ref b :: argsL).toArray v B ∧
      ∀ target, Steps p.tables e below (B.U.setTop { g with pc := g.pc + 3, stack := v.toList ++ rest }) target → Steps p.tables e below (T.setTop g) target) ∨
    (∃ (q : Addr) (vm₁ : Vm) (B : Pt), s.WarmedH vm₁ ∧ Stand p l e R s m args below meth c B.U B.locs B.cells B.slots ∧ PostX ⟨T.setVm vm₁, locs, cells, slots⟩ (Value.ref b :: argsL).toArray q B ∧
      Steps p.tables e below (T.setTop g) ((B.U.setTop { g with stack := rest }).pushFrame (.throwing q))) := by
  obtain ⟨mk, methM, hnamed, hmethM, hstM, habM⟩ := Cond.instanceMethod_spec hinst
  obtain ⟨m8, methM', cM, hn8, hmethM', -, -, -, -, -, -, hsigM⟩ := Cond.codeWith_spec hcode
  cases Option.some.inj (hn8.symm.trans hnamed)
  cases hmethM.symm.trans hmethM'
  obtain ⟨c2, r2, m2, q1, q2, q3, q4, kP, hkP, hkPi⟩ := Cond.selects_spec hsel
  cases hcls.symm.trans q1
  cases (State.methodFound?_of_named hnamed hy).symm.trans q2
  cases hnamed.symm.trans q3
  have hselP : selectMethod e.platform s.vm cellB.cls mk = .method mk := by rw [Launch.admits_selectMethod X.admits]; exact q4
  obtain ⟨vm₁, X₁, hstep₁⟩ := X.invokevirtual hexec hown hlink hnamed hmethM hstM hkP hkPi hy (a := b) (cell := cellB) hcell
    (fun z h => by rw [h] at hobj; cases hobj) hselP hmethM habM hkP hkPi (g := g) hg (argsL := argsL) (rest := rest) (hlen _ hsigM) hstack hdg
  rcases hK m meth c ⟨T.setVm vm₁, locs, cells, slots⟩ { g with stack := rest } (.invokevirtual index) mk (Value.ref b :: argsL).toArray X₁ hg hsize hdg hW (X₁.named hnamed) (hpre vm₁ X₁.warmed) with ⟨v, B, X', hpost, hsteps⟩ | ⟨q, B, X', hpost, hsteps⟩
  · exact Or.inl ⟨v, vm₁, B, X₁.warmed, X', hpost, fun target h => hstep₁ _ fun acts => by rw [doInvoke_state]; exact hsteps.trans h⟩
  · exact Or.inr ⟨q, vm₁, B, X₁.warmed, X', hpost, hstep₁ _ fun acts => by rw [doInvoke_state]; exact hsteps⟩
theorem vx_callSX (X : Stand p l e R s m args below meth c T locs cells slots) (hexec : p.tables.exec = Jvm.exec) {own : String} {index : Nat} {y : MethodName} {bytes : ByteArray} {maxL : Nat} {ret : Option FieldType} {hh : List (Nat × Nat × Nat × Nat)}
    (hown : s.vm.findClass own = some m.cls) (hlink : (Cond.methodLink own index y).before args s = true) (hstat : (Cond.static y).before args s = true) (hinit : (Cond.initialized y.cls).before args s = true)
    (hcode : (Cond.codeWith y bytes maxL ret hh).before args s = true) (hy : y.cls ≠ "java/lang/invoke/MethodHandle" ∧ y.cls ≠ "java/lang/invoke/VarHandle")
    {W9 : Nat} {Pre : Pt → Array Value → Prop} {Post : Pt → Array Value → Option Value → Pt → Prop} {PostX : Pt → Array Value → Addr → Pt → Prop} (hK : vx_Back l R p e below s args y 3 W9 Pre Post PostX)
    {g : JFrame} (hg : g.method = m) (hsize : g.locals.size = c.maxLocals) {argsL rest : List Value} (hlen : ∀ sig, parseMethodDescriptor y.desc = some sig → argsL.length = sig.parameters.length)
    (hstack : g.stack = argsL.reverse ++ rest) (hW : 2 * g.monitorRoom + (rest.map fun v => v.category).sum ≤ W9) (hdg : decode c.code g.pc = .ok (.invokestatic index, 3))
    (hpre : ∀ vm₁, s.WarmedH vm₁ → Pre ⟨T.setVm vm₁, locs, cells, slots⟩ argsL.toArray) :
    (∃ (v : Option Value) (vm₁ : Vm) (B : Pt), s.WarmedH vm₁ ∧ Stand p l e R s m args below meth c B.U B.locs B.cells B.slots ∧ Post ⟨T.setVm vm₁, locs, cells, slots⟩ argsL.toArray v B ∧
      ∀ target, Steps p.tables e below (B.U.setTop { g with pc := g.pc + 3, stack := v.toList ++ rest }) target → Steps p.tables e below (T.setTop g) target) ∨
    (∃ (q : Addr) (vm₁ : Vm) (B : Pt), s.WarmedH vm₁ ∧ Stand p l e R s m args below meth c B.U B.locs B.cells B.slots ∧ PostX ⟨T.setVm vm₁, locs, cells, slots⟩ argsL.toArray q B ∧
      Steps p.tables e below (T.setTop g) ((B.U.setTop { g with stack := rest }).pushFrame (.throwing q))) := by
  obtain ⟨mk, methM, cM, hnamed, hmethM, -, -, -, -, -, -, hsigM⟩ := Cond.codeWith_spec hcode
  have hstatic : methM.isStatic = true := Cond.static_spec hnamed hmethM hstat
  obtain ⟨kP, hkP, -⟩ := className_of_methodNamed hnamed
  have hinitP : kP.init = .initialized := Cond.initialized_spec (findClass_of_methodNamed hnamed) hkP hinit
  obtain ⟨vm₁, X₁, hstep₁⟩ := X.invokestatic hexec hown hlink hnamed hmethM hstatic hkP hinitP hy (g := g) hg (argsL := argsL) (rest := rest) (hlen _ hsigM) hstack hdg
  rcases hK m meth c ⟨T.setVm vm₁, locs, cells, slots⟩ { g with stack := rest } (.invokestatic index) mk argsL.toArray X₁ hg hsize hdg hW (X₁.named hnamed) (hpre vm₁ X₁.warmed) with ⟨v, B, X', hpost, hsteps⟩ | ⟨q, B, X', hpost, hsteps⟩
  · exact Or.inl ⟨v, vm₁, B, X₁.warmed, X', hpost, fun target h => hstep₁ _ fun acts => by rw [doInvoke_state]; exact hsteps.trans h⟩
  · exact Or.inr ⟨q, vm₁, B, X₁.warmed, X', hpost, hstep₁ _ fun acts => by rw [doInvoke_state]; exact hsteps⟩
theorem vx_callVW (X : Stand p l e R s m args below meth c T locs cells slots) (hexec : p.tables.exec = Jvm.exec) {own C : String} {index : Nat} {y : MethodName} {bytes : ByteArray} {maxL : Nat} {ret : Option FieldType} {hh : List (Nat × Nat × Nat × Nat)}
    (hown : s.vm.findClass own = some m.cls) (hlink : (Cond.methodLink own index y).before args s = true) (hinst : (Cond.instanceMethod y).before args s = true) (hsel : (Cond.selects C y y).before args s = true)
    (hcode : (Cond.codeWith y bytes maxL ret hh).before args s = true) (hy : y.cls ≠ "java/lang/invoke/MethodHandle" ∧ y.cls ≠ "java/lang/invoke/VarHandle")
    {W9 : Nat} {Pre : Pt → Array Value → Prop} {Post : Pt → Array Value → Option Value → Pt → Prop} (hK : Back l R p e below s args y 3 W9 Pre Post)
    {b : Addr} {cellB : Cell} (hcell : T.heap[b]? = some cellB) (hobj : cellB.vm.isStatics = false) (hcls : s.vm.findClass C = some cellB.cls)
    {g : JFrame} (hg : g.method = m) (hsize : g.locals.size = c.maxLocals) {argsL rest : List Value} (hlen : ∀ sig, parseMethodDescriptor y.desc = some sig → argsL.length = sig.parameters.length)
    (hstack : g.stack = argsL.reverse ++ .ref b :: rest) (hW : 2 * g.monitorRoom + (rest.map fun v => v.category).sum ≤ W9) (hdg : decode c.code g.pc = .ok (.invokevirtual index, 3))
    (hpre : ∀ vm₁, s.WarmedH vm₁ → Pre ⟨T.setVm vm₁, locs, cells, slots⟩ (Value.ref b :: argsL).toArray) :
    ∃ (v : Option Value) (vm₁ : Vm) (B : Pt), s.WarmedH vm₁ ∧ Stand p l e R s m args below meth c B.U B.locs B.cells B.slots ∧ Post ⟨T.setVm vm₁, locs, cells, slots⟩ (Value.ref b :: argsL).toArray v B ∧
      ∀ target, Steps p.tables e below (B.U.setTop { g with pc := g.pc + 3, stack := v.toList ++ rest }) target → Steps p.tables e below (T.setTop g) target := by
  obtain ⟨mk, methM, hnamed, hmethM, hstM, habM⟩ := Cond.instanceMethod_spec hinst
  obtain ⟨m8, methM', cM, hn8, hmethM', -, -, -, -, -, -, hsigM⟩ := Cond.codeWith_spec hcode
  cases Option.some.inj (hn8.symm.trans hnamed)
  cases hmethM.symm.trans hmethM'
  obtain ⟨c2, r2, m2, q1, q2, q3, q4, kP, hkP, hkPi⟩ := Cond.selects_spec hsel
  cases hcls.symm.trans q1
  cases (State.methodFound?_of_named hnamed hy).symm.trans q2
  cases hnamed.symm.trans q3
  have hselP : selectMethod e.platform s.vm cellB.cls mk = .method mk := by rw [Launch.admits_selectMethod X.admits]; exact q4
  obtain ⟨vm₁, X₁, hstep₁⟩ := X.invokevirtual hexec hown hlink hnamed hmethM hstM hkP hkPi hy (a := b) (cell := cellB) hcell
    (fun z h => by rw [h] at hobj; cases hobj) hselP hmethM habM hkP hkPi (g := g) hg (argsL := argsL) (rest := rest) (hlen _ hsigM) hstack hdg
  obtain ⟨v, B, X', hpost, hsteps⟩ := hK m meth c ⟨T.setVm vm₁, locs, cells, slots⟩ { g with stack := rest } (.invokevirtual index) mk (Value.ref b :: argsL).toArray X₁ hg hsize hdg hW (X₁.named hnamed) (hpre vm₁ X₁.warmed)
  exact ⟨v, vm₁, B, X₁.warmed, X', hpost, fun target h => hstep₁ _ fun acts => by rw [doInvoke_state]; exact hsteps.trans h⟩
abbrev vx_CVW (R : Room) (s : State) (args : Array Value) (own C : String) (index : Nat) (y : MethodName) (bytes : ByteArray) (maxL : Nat) (ret : Option FieldType) (hh : List (Nat × Nat × Nat × Nat)) (ws : List Cond) (rm : Room) (mc ms n : Nat) : Prop :=
  (rm.cells = mc ∧ rm.slots = ms ∧ rm.frames + 1 ≤ R.frames ∧ 8 + (maxL + 11) + rm.locals ≤ R.locals ∧ (∀ w ∈ ws, ∀ (a' : Array Value) (U : State), s.WarmedH U.vm → w.before a' U = true) ∧ Cond.codeWith y bytes maxL ret hh ∈ ws) ∧
  (Cond.codeWith y bytes maxL ret hh).before args s = true ∧ (Cond.initialized y.cls).before args s = true ∧ (y.cls ≠ "java/lang/invoke/MethodHandle" ∧ y.cls ≠ "java/lang/invoke/VarHandle") ∧
  (∀ sig, parseMethodDescriptor y.desc = some sig → n = sig.parameters.length) ∧ (Cond.methodLink own index y).before args s = true ∧ (Cond.instanceMethod y).before args s = true ∧ (Cond.selects C y y).before args s = true
theorem vx_cwVW {own C : String} {index maxL mc ms : Nat} {y : MethodName} {bytes : ByteArray} {ret : Option FieldType} {hh : List (Nat × Nat × Nat × Nat)} {Ts ws ws' : List Cond} {rm : Room} (n : Nat) (ht : ∀ w ∈ Ts, w.before args s = true) (hT : GoodIn Ts (wsV own index C y ws)) (hw : ws = Cond.codeWith y bytes maxL ret hh :: ws') (hrc : rm.cells = mc) (hrs : rm.slots = ms)
    (hd : y.cls = C ∧ y.cls ≠ "java/lang/invoke/MethodHandle" ∧ y.cls ≠ "java/lang/invoke/VarHandle" ∧ (parseMethodDescriptor y.desc).map (fun d => d.parameters.length) = some n) (hR : rm.frames + 1 ≤ R.frames ∧ 8 + (maxL + 11) + rm.locals ≤ R.locals) :
    vx_CVW R s args own C index y bytes maxL ret hh ws rm mc ms n := by
  obtain ⟨hC, hd⟩ := hd
  subst hC
  have ok : ∀ w ∈ wsV own index y.cls y ws, w.before args s = true := fun w h => ht w (hT w h).1
  have hG : GoodIn Ts ws := fun w h => hT w (by unfold wsV; exact List.mem_append_right _ h)
  have hc : Cond.codeWith y bytes maxL ret hh ∈ ws := by rw [hw]; exact List.mem_cons_self
  refine ⟨⟨hrc, hrs, hR.1, hR.2, pay_in ht hG, hc⟩, ht _ (hG _ hc).1, ok _ (by simp [wsV]), ⟨hd.1, hd.2.1⟩, fun sig h => ?_, ok _ (by simp [wsV]), ok _ (by simp [wsV]), ok _ (by simp [wsV])⟩
  have h2 := hd.2.2
  rw [h] at h2
  exact (Option.some.inj h2).symm
theorem vx_runVW {y : MethodName} {bytes cc : ByteArray} {maxL nL mc ms n index : Nat} {ret : Option FieldType} {hh : List (Nat × Nat × Nat × Nat)} {ws : List Cond} {rm : Room} {Pc : Array Value → State → Prop} {Qc : Array Value → State → Outcome → State → Prop} {free : Addr → Prop} {Ts : List Cond} {own C : String} {b : Addr} {As rest : List Value} {g : JFrame}
    (S : CallFix p m c cc nL s args Ts own) (hM : Met l y ws rm Pc Qc mc ms free) (cw : vx_CVW R s args own C index y bytes maxL ret hh ws rm mc ms n) (hp : PreV s H C b Pc As)
    (hg : g.method = m) (hn : As.length = n) (hsize : g.locals.size = nL) (hstack : g.stack = As.reverse ++ .ref b :: rest) (hW : 2 * g.monitorRoom + (rest.map fun v => v.category).sum ≤ 8) (hdg : decode cc g.pc = .ok (.invokevirtual index, 3)) (hf : cells + mc ≤ R.cells ∧ slots + ms ≤ R.slots) :
    va_Run p l e R s m args below meth c H locs cells slots mc ms g rest (Qc (Value.ref b :: As).toArray) free := by
  obtain ⟨⟨hrc, hrs, hfr, hlo, hws, hcw⟩, hcode, hini, hy, hlen, hl, hin, hse⟩ := cw
  have hK : Back l R p e below s args y 3 8 (PreOf R mc ms Pc) (PostOf Qc mc ms free) := va_backW (hh := hh) (bytes := bytes) (maxL := maxL) (ret := ret) hM hp.1 hrc hrs hfr hlo hws hcw (fun a' U hW => word_at hW (Or.inl (by first | rfl | simp [Cond.onTables, Cond.keeps, Cond.steady])) hini)
  obtain ⟨hx, hb, hml, ho, -⟩ := S
  obtain ⟨-, ⟨cellB, hcB, hoB, hclB⟩, hPc⟩ := hp
  intro T hT X
  obtain ⟨v, vm₁, ⟨U', l2, c2, s2⟩, hW₁, X', ⟨g', mk, t, L, e1, e2, hq, h1, hL, h2, h3⟩, st⟩ := vx_callVW X hx (C := C) (hh := hh) (bytes := bytes) (maxL := maxL) (ret := ret) ho hl hin hse hcode hy hK (by rw [hT]; exact hcB) hoB hclB hg (hsize.trans hml.symm) (argsL := As) (rest := rest) (fun sig h => hn.trans (hlen sig h)) hstack hW (by rw [hb]; exact hdg)
    (fun vm₁ hW₁ => ⟨hf.1, hf.2, hPc (T.setVm vm₁) hT hW₁⟩)
  dsimp only [Pt.U, Pt.locs, Pt.cells, Pt.slots] at X' e1 e2 h1 h2 h3 st
  subst h1; subst h2; subst h3
  exact ⟨v, (T.setVm vm₁).calling g' mk (Value.ref b :: As).toArray, t, U', L, hT, X', hL, e1, e2, hq, st⟩
section
variable {y : MethodName} {bytes cc : ByteArray} {maxL nL mc ms n index : Nat} {ret : Option FieldType} {ws : List Cond} {rm : Room} {Pc : Array Value → State → Prop} {Qc : Array Value → State → Outcome → State → Prop} {XC : String → State → State → Prop} {free : Addr → Prop} {Ts : List Cond} {own C : String} {b : Addr} {As rest : List Value} {g : JFrame}
theorem vx_runVX {hh : List (Nat × Nat × Nat × Nat)} (S : CallFix p m c cc nL s args Ts own) (hM : vx_Met l y ws rm Pc Qc XC mc ms free) (cw : vx_CVW R s args own C index y bytes maxL ret hh ws rm mc ms n) (hp : PreV s H C b Pc As)
    (hg : g.method = m) (hn : As.length = n) (hsize : g.locals.size = nL) (hstack : g.stack = As.reverse ++ .ref b :: rest) (hW : 2 * g.monitorRoom + (rest.map fun v => v.category).sum ≤ 8) (hdg : decode cc g.pc = .ok (.invokevirtual index, 3)) (hf : cells + mc ≤ R.cells ∧ slots + ms ≤ R.slots) :
    vx_Run p l e R s m args below meth c H locs cells slots mc ms g rest (Qc (Value.ref b :: As).toArray) XC free := by
  obtain ⟨⟨hrc, hrs, hfr, hlo, hws, hcw⟩, hcode, hini, hy, hlen, hl, hin, hse⟩ := cw
  have hK : vx_Back l R p e below s args y 3 8 (PreOf R mc ms Pc) (PostOf Qc mc ms free) (vx_Post XC mc ms free) := vx_backW (hh := hh) (bytes := bytes) (maxL := maxL) (ret := ret) hM hp.1 hrc hrs hfr hlo hws hcw (fun a' U hW => word_at hW (Or.inl (by first | rfl | simp [Cond.onTables, Cond.keeps, Cond.steady])) hini)
  obtain ⟨hx, hb, hml, ho, -⟩ := S
  obtain ⟨-, ⟨cellB, hcB, hoB, hclB⟩, hPc⟩ := hp
  intro T hT X
  rcases vx_callVX X hx (C := C) (hh := hh) (bytes := bytes) (maxL := maxL) (ret := ret) ho hl hin hse hcode hy hK (by rw [hT]; exact hcB) hoB hclB hg (hsize.trans hml.symm) (argsL := As) (rest := rest) (fun sig h => hn.trans (hlen sig h)) hstack hW (by rw [hb]; exact hdg)
    (fun vm₁ hW₁ => ⟨hf.1, hf.2, hPc (T.setVm vm₁) hT hW₁⟩) with ⟨v, vm₁, ⟨U', l2, c2, s2⟩, hW₁, X', ⟨g', mk, t, L, e1, e2, hq, h1, hL, h2, h3⟩, st⟩ | ⟨q, vm₁, ⟨U', l2, c2, s2⟩, hW₁, X', ⟨g', mk, t, L, E, ce, e1, e2, hq, hce, hcv, hcl, h1, hL, h2, h3⟩, st⟩
  · dsimp only [Pt.U, Pt.locs, Pt.cells, Pt.slots] at X' e1 e2 h1 h2 h3 st
    subst h1; subst h2; subst h3
    exact Or.inl ⟨v, (T.setVm vm₁).calling g' mk (Value.ref b :: As).toArray, t, U', L, hT, X', hL, e1, e2, hq, st⟩
  · dsimp only [Pt.U, Pt.locs, Pt.cells, Pt.slots] at X' e1 e2 h1 h2 h3 st hcl
    subst h1; subst h2; subst h3
    exact Or.inr ⟨q, (T.setVm vm₁).calling g' mk (Value.ref b :: As).toArray, t, U', L, E, ce, hT, X', hL, e1, e2, hq, hce, hcv, vx_cls hW₁ hcl, st⟩
theorem vx_runSX {hh : List (Nat × Nat × Nat × Nat)} (S : CallFix p m c cc nL s args Ts own) (hM : vx_Met l y ws rm Pc Qc XC mc ms free) (cw : vx_CSW R s args own index y bytes maxL ret hh ws rm mc ms n) (hp : PreS s H Pc As)
    (hg : g.method = m) (hn : As.length = n) (hsize : g.locals.size = nL) (hstack : g.stack = As.reverse ++ rest) (hW : 2 * g.monitorRoom + (rest.map fun v => v.category).sum ≤ 8) (hdg : decode cc g.pc = .ok (.invokestatic index, 3)) (hf : cells + mc ≤ R.cells ∧ slots + ms ≤ R.slots) :
    vx_Run p l e R s m args below meth c H locs cells slots mc ms g rest (Qc As.toArray) XC free := by
  obtain ⟨⟨hrc, hrs, hfr, hlo, hws, hcw⟩, hcode, hini, hy, hlen, hl, hstt⟩ := cw
  have hK : vx_Back l R p e below s args y 3 8 (PreOf R mc ms Pc) (PostOf Qc mc ms free) (vx_Post XC mc ms free) := vx_backW (hh := hh) (bytes := bytes) (maxL := maxL) (ret := ret) hM hp.1 hrc hrs hfr hlo hws hcw (fun a' U hW => word_at hW (Or.inl (by first | rfl | simp [Cond.onTables, Cond.keeps, Cond.steady])) hini)
  obtain ⟨hx, hb, hml, ho, -⟩ := S
  intro T hT X
  rcases vx_callSX X hx (hh := hh) (bytes := bytes) (maxL := maxL) (ret := ret) ho hl hstt hini hcode hy hK hg (hsize.trans hml.symm) (argsL := As) (rest := rest) (fun sig h => hn.trans (hlen sig h)) hstack hW (by rw [hb]; exact hdg)
    (fun vm₁ hW₁ => ⟨hf.1, hf.2, hp.2 (T.setVm vm₁) hT hW₁⟩) with ⟨v, vm₁, ⟨U', l2, c2, s2⟩, hW₁, X', ⟨g', mk, t, L, e1, e2, hq, h1, hL, h2, h3⟩, st⟩ | ⟨q, vm₁, ⟨U', l2, c2, s2⟩, hW₁, X', ⟨g', mk, t, L, E, ce, e1, e2, hq, hce, hcv, hcl, h1, hL, h2, h3⟩, st⟩
  · dsimp only [Pt.U, Pt.locs, Pt.cells, Pt.slots] at X' e1 e2 h1 h2 h3 st
    subst h1; subst h2; subst h3
    exact Or.inl ⟨v, (T.setVm vm₁).calling g' mk As.toArray, t, U', L, hT, X', hL, e1, e2, hq, st⟩
  · dsimp only [Pt.U, Pt.locs, Pt.cells, Pt.slots] at X' e1 e2 h1 h2 h3 st hcl
    subst h1; subst h2; subst h3
    exact Or.inr ⟨q, (T.setVm vm₁).calling g' mk As.toArray, t, U', L, E, ce, hT, X', hL, e1, e2, hq, hce, hcv, vx_cls hW₁ hcl, st⟩
end
end VXH
theorem vx_ofWH {l : Launch} {y : MethodName} {ws ws' : List Cond} {rm : Room} {Pc : Array Value → State → Prop} {Qc : Array Value → State → Outcome → State → Prop} {XC : String → State → State → Prop} {mc ms : Nat} {free : Addr → Prop} {cc : ByteArray} {maxL : Nat} {ret : Option FieldType} {hh : List (Nat × Nat × Nat × Nat)}
    (hy : plainName y.cls = true) (hw : ws = Cond.codeWith y cc maxL ret hh :: ws')
    (body : ∀ p e s m args below meth c s₁, BodyLoose p l y (headSpec ws rm) cc maxL ret e s m args below meth c s₁ → c.maxLocals = maxL → Pc args s →
      W p l e (headSpec ws rm).room s m args below meth c s.heap [] 0 0 (vx_MQ below Qc XC args s mc ms free) (entryFrame m args maxL)) : vx_Met l y ws rm Pc Qc XC mc ms free := by
  refine MetFree.of_bodyS (code := cc) (maxLocals := maxL) (ret := ret) hy ?_ ?_
  · intro args s m h hn
    obtain ⟨m9, meth, c, hn9, h1, h2, h3, h4, -, h5, h6, -⟩ := Cond.codeWith_spec (atoms_spec (ws := ws) h _ (by rw [hw]; exact List.mem_cons_self))
    cases hn.symm.trans hn9
    exact ⟨meth, c, h1, h2, h3, h4, h5, h6⟩
  · intro p e s m args below meth c s₁ B hml hP _
    have hh0 : s₁.heap = s.heap := by rw [B.state]; rfl
    obtain ⟨t, a1, o, b1, b2, b3⟩ := body p e s m args below meth c s₁ B hml hP s₁ hh0 (Stand.of_body B)
    exact ⟨t, o, a1, b1, b2, b3⟩
/-! ===== END ===== -/
end
section
/-! ===== BEGIN printed: names, fields, word lists, decode rows ===== -/
def RX0 : String := "IceLanes$Couriers"
def TX0 : u_T := fun k => match k with
  | 0 => ("IceLanes$Couriers", "number", "I", false)
  | 1 => ("IceLanes$Couriers", "weight", "[I", true)
  | 2 => ("IceLanes$Couriers", "letters", "[I", true)
  | 3 => ("IceLanes$Couriers", "strength", "[I", true)
  | 4 => ("IceLanes$Couriers", "section", "[I", true)
  | 5 => ("IceLanes$Couriers", "lane", "[I", true)
  | 6 => ("IceLanes$Couriers", "goal", "[I", true)
  | 7 => ("IceLanes$Couriers", "state", "[I", true)
  | 8 => ("IceLanes$Couriers", "steps", "[I", true)
  | _ => ("IceLanes$Couriers", "pace", "[I", true)
def tyX0 : Nat → FieldType := fun k => match k with
  | 0 => .int
  | 1 => .array .int
  | 2 => .array .int
  | 3 => .array .int
  | 4 => .array .int
  | 5 => .array .int
  | 6 => .array .int
  | 7 => .array .int
  | 8 => .array .int
  | _ => .array .int
abbrev wsX00 : List Cond := u_ws RX0 TX0 10
theorem nmX0 : ∀ a, a < 10 → ∀ b, b < 10 → a ≠ b → (TX0 a).2.1 ≠ (TX0 b).2.1 := by decide +kernel
theorem tyX0_ok : ∀ k, k < 10 → parseFieldDescriptor (TX0 k).2.2.1 = some (tyX0 k) := by decide +kernel
abbrev cX0_init : ByteArray := prog_2_method_1_code
def yX0_init : MethodName := ⟨RX0, "<init>", "()V"⟩
abbrev cX0_become : ByteArray := prog_2_method_2_code
def yX0_become : MethodName := ⟨RX0, "become", "(LIceLanes$Couriers;)V"⟩
abbrev cX0_has : ByteArray := prog_2_method_3_code
def yX0_has : MethodName := ⟨RX0, "has", "(I)Z"⟩
abbrev cX0_add : ByteArray := prog_2_method_4_code
def yX0_add : MethodName := ⟨RX0, "add", "(IIIII)I"⟩
abbrev cX0_tell : ByteArray := prog_2_method_5_code
def yX0_tell : MethodName := ⟨RX0, "tell", "(II)I"⟩
abbrev cX0_loadOf : ByteArray := prog_2_method_6_code
def yX0_loadOf : MethodName := ⟨RX0, "loadOf", "(I)I"⟩
abbrev cX0_isAtGoal : ByteArray := prog_2_method_7_code
def yX0_isAtGoal : MethodName := ⟨RX0, "isAtGoal", "(I)Z"⟩
abbrev cX0_nextSection : ByteArray := prog_2_method_8_code
def yX0_nextSection : MethodName := ⟨RX0, "nextSection", "(I)I"⟩
abbrev cX0_numberWhose : ByteArray := prog_2_method_9_code
def yX0_numberWhose : MethodName := ⟨RX0, "numberWhose", "(I)I"⟩
abbrev cX0_notOutAt : ByteArray := prog_2_method_10_code
def yX0_notOutAt : MethodName := ⟨RX0, "notOutAt", "(II)I"⟩
def RX1 : String := "IceLanes$Ice"
def TX1 : u_T := fun k => match k with
  | 0 => ("IceLanes$Ice", "thickness", "[I", true)
  | _ => ("IceLanes$Ice", "cracks", "[I", true)
def tyX1 : Nat → FieldType := fun k => match k with
  | 0 => .array .int
  | _ => .array .int
abbrev wsX10 : List Cond := u_ws RX1 TX1 2
theorem nmX1 : ∀ a, a < 2 → ∀ b, b < 2 → a ≠ b → (TX1 a).2.1 ≠ (TX1 b).2.1 := by decide +kernel
theorem tyX1_ok : ∀ k, k < 2 → parseFieldDescriptor (TX1 k).2.2.1 = some (tyX1 k) := by decide +kernel
abbrev cX1_init : ByteArray := prog_3_method_1_code
def yX1_init : MethodName := ⟨RX1, "<init>", "()V"⟩
abbrev cX1_become : ByteArray := prog_3_method_2_code
def yX1_become : MethodName := ⟨RX1, "become", "(LIceLanes$Ice;)V"⟩
abbrev cX1_soundness : ByteArray := prog_3_method_3_code
def yX1_soundness : MethodName := ⟨RX1, "soundness", "(II)I"⟩
abbrev cX1_holds : ByteArray := prog_3_method_4_code
def yX1_holds : MethodName := ⟨RX1, "holds", "(III)Z"⟩
abbrev cX1_mostBorneAt : ByteArray := prog_3_method_5_code
def yX1_mostBorneAt : MethodName := ⟨RX1, "mostBorneAt", "(II)I"⟩
abbrev cX1_mostBorneBetween : ByteArray := prog_3_method_6_code
def yX1_mostBorneBetween : MethodName := ⟨RX1, "mostBorneBetween", "(II)I"⟩
abbrev cX1_meetDay : ByteArray := prog_3_method_7_code
def yX1_meetDay : MethodName := ⟨RX1, "meetDay", "(I)V"⟩
abbrev cX1_withstands : ByteArray := prog_3_method_8_code
def yX1_withstands : MethodName := ⟨RX1, "withstands", "(III)Z"⟩
abbrev cX1_laneFor : ByteArray := prog_3_method_9_code
def yX1_laneFor : MethodName := ⟨RX1, "laneFor", "(III)I"⟩
abbrev cX1_isOpenAcross : ByteArray := prog_3_method_10_code
def yX1_isOpenAcross : MethodName := ⟨RX1, "isOpenAcross", "()Z"⟩
abbrev cX1_placesOfOpenWater : ByteArray := prog_3_method_11_code
def yX1_placesOfOpenWater : MethodName := ⟨RX1, "placesOfOpenWater", "()I"⟩
abbrev cX1_inAll : ByteArray := prog_3_method_12_code
def yX1_inAll : MethodName := ⟨RX1, "inAll", "()I"⟩
abbrev cX1_cracksInAll : ByteArray := prog_3_method_13_code
def yX1_cracksInAll : MethodName := ⟨RX1, "cracksInAll", "()I"⟩
def RX2 : String := "IceLanes$River"
def TX2 : u_T := fun k => match k with
  | 0 => ("IceLanes$River", "hour", "I", false)
  | 1 => ("IceLanes$River", "thawDay", "I", false)
  | 2 => ("IceLanes$River", "warm", "[I", true)
  | 3 => ("IceLanes$River", "hut", "[I", true)
  | 4 => ("IceLanes$River", "ice", "LIceLanes$Ice;", true)
  | _ => ("IceLanes$River", "couriers", "LIceLanes$Couriers;", true)
def tyX2 : Nat → FieldType := fun k => match k with
  | 0 => .int
  | 1 => .int
  | 2 => .array .int
  | 3 => .array .int
  | 4 => .object "IceLanes$Ice"
  | _ => .object "IceLanes$Couriers"
abbrev wsX20 : List Cond := u_ws RX2 TX2 6
theorem nmX2 : ∀ a, a < 6 → ∀ b, b < 6 → a ≠ b → (TX2 a).2.1 ≠ (TX2 b).2.1 := by decide +kernel
theorem tyX2_ok : ∀ k, k < 6 → parseFieldDescriptor (TX2 k).2.2.1 = some (tyX2 k) := by decide +kernel
abbrev cX2_init : ByteArray := prog_4_method_1_code
def yX2_init : MethodName := ⟨RX2, "<init>", "()V"⟩
abbrev cX2_become : ByteArray := prog_4_method_2_code
def yX2_become : MethodName := ⟨RX2, "become", "(LIceLanes$River;)V"⟩
abbrev cX2_huts : ByteArray := prog_4_method_3_code
def yX2_huts : MethodName := ⟨RX2, "huts", "()I"⟩
abbrev cX2_hasThawed : ByteArray := prog_4_method_4_code
def yX2_hasThawed : MethodName := ⟨RX2, "hasThawed", "()Z"⟩
abbrev cX2_holdsCourierWith : ByteArray := prog_4_method_5_code
def yX2_holdsCourierWith : MethodName := ⟨RX2, "holdsCourierWith", "(II)Z"⟩
abbrev cX2_spendHour : ByteArray := prog_4_method_6_code
def yX2_spendHour : MethodName := ⟨RX2, "spendHour", "()I"⟩
abbrev cX2_travels : ByteArray := prog_4_method_7_code
def yX2_travels : MethodName := ⟨RX2, "travels", "(I)Z"⟩
abbrev cX2_step : ByteArray := prog_4_method_8_code
def yX2_step : MethodName := ⟨RX2, "step", "(I)V"⟩
abbrev cX2_rest : ByteArray := prog_4_method_9_code
def yX2_rest : MethodName := ⟨RX2, "rest", "(I)V"⟩
abbrev cX2_hoursTillArrival : ByteArray := prog_4_method_10_code
def yX2_hoursTillArrival : MethodName := ⟨RX2, "hoursTillArrival", "(I)I"⟩
abbrev cX2_dayOfThaw : ByteArray := prog_4_method_11_code
def yX2_dayOfThaw : MethodName := ⟨RX2, "dayOfThaw", "()I"⟩
def RX3 : String := "IceLanes$Wagers"
def TX3 : u_T := fun k => match k with
  | 0 => ("IceLanes$Wagers", "number", "I", false)
  | 1 => ("IceLanes$Wagers", "day", "[I", true)
  | _ => ("IceLanes$Wagers", "stake", "[I", true)
def tyX3 : Nat → FieldType := fun k => match k with
  | 0 => .int
  | 1 => .array .int
  | _ => .array .int
abbrev wsX30 : List Cond := u_ws RX3 TX3 3
theorem nmX3 : ∀ a, a < 3 → ∀ b, b < 3 → a ≠ b → (TX3 a).2.1 ≠ (TX3 b).2.1 := by decide +kernel
theorem tyX3_ok : ∀ k, k < 3 → parseFieldDescriptor (TX3 k).2.2.1 = some (tyX3 k) := by decide +kernel
abbrev cX3_init : ByteArray := prog_5_method_1_code
def yX3_init : MethodName := ⟨RX3, "<init>", "()V"⟩
abbrev cX3_has : ByteArray := prog_5_method_2_code
def yX3_has : MethodName := ⟨RX3, "has", "(I)Z"⟩
abbrev cX3_add : ByteArray := prog_5_method_3_code
def yX3_add : MethodName := ⟨RX3, "add", "(II)I"⟩
abbrev cX3_allStakes : ByteArray := prog_5_method_4_code
def yX3_allStakes : MethodName := ⟨RX3, "allStakes", "()I"⟩
abbrev cX3_daysBeside : ByteArray := prog_5_method_5_code
def yX3_daysBeside : MethodName := ⟨RX3, "daysBeside", "(II)I"⟩
abbrev cX3_winOn : ByteArray := prog_5_method_6_code
def yX3_winOn : MethodName := ⟨RX3, "winOn", "(II)I"⟩
def RX4 : String := "IceLanes"
def TX4 : u_T := fun k => match k with
  | 0 => ("IceLanes", "river", "LIceLanes$River;", true)
  | 1 => ("IceLanes", "ahead", "LIceLanes$River;", true)
  | _ => ("IceLanes", "wagers", "LIceLanes$Wagers;", true)
def tyX4 : Nat → FieldType := fun k => match k with
  | 0 => .object "IceLanes$River"
  | 1 => .object "IceLanes$River"
  | _ => .object "IceLanes$Wagers"
abbrev wsX40 : List Cond := u_ws RX4 TX4 3
theorem nmX4 : ∀ a, a < 3 → ∀ b, b < 3 → a ≠ b → (TX4 a).2.1 ≠ (TX4 b).2.1 := by decide +kernel
theorem tyX4_ok : ∀ k, k < 3 → parseFieldDescriptor (TX4 k).2.2.1 = some (tyX4 k) := by decide +kernel
abbrev cX4_init : ByteArray := prog_1_method_1_code
def yX4_init : MethodName := ⟨RX4, "<init>", "()V"⟩
abbrev cX4_setWarm : ByteArray := prog_1_method_2_code
def yX4_setWarm : MethodName := ⟨RX4, "setWarm", "(II)I"⟩
abbrev cX4_setIce : ByteArray := prog_1_method_3_code
def yX4_setIce : MethodName := ⟨RX4, "setIce", "(III)I"⟩
abbrev cX4_build : ByteArray := prog_1_method_4_code
def yX4_build : MethodName := ⟨RX4, "build", "(I)I"⟩
abbrev cX4_place : ByteArray := prog_1_method_5_code
def yX4_place : MethodName := ⟨RX4, "place", "(III)I"⟩
abbrev cX4_come : ByteArray := prog_1_method_6_code
def yX4_come : MethodName := ⟨RX4, "come", "(IIIIZ)I"⟩
abbrev cX4_send : ByteArray := prog_1_method_7_code
def yX4_send : MethodName := ⟨RX4, "send", "(II)I"⟩
abbrev cX4_load : ByteArray := prog_1_method_8_code
def yX4_load : MethodName := ⟨RX4, "load", "(II)I"⟩
abbrev cX4_courier : ByteArray := prog_1_method_9_code
def yX4_courier : MethodName := ⟨RX4, "courier", "(II)I"⟩
abbrev cX4_wager : ByteArray := prog_1_method_10_code
def yX4_wager : MethodName := ⟨RX4, "wager", "(II)I"⟩
abbrev cX4_wins : ByteArray := prog_1_method_11_code
def yX4_wins : MethodName := ⟨RX4, "wins", "(I)I"⟩
abbrev cX4_pass : ByteArray := prog_1_method_12_code
def yX4_pass : MethodName := ⟨RX4, "pass", "(I)I"⟩
abbrev cX4_count : ByteArray := prog_1_method_13_code
def yX4_count : MethodName := ⟨RX4, "count", "(I)I"⟩
abbrev cX4_bears : ByteArray := prog_1_method_14_code
def yX4_bears : MethodName := ⟨RX4, "bears", "(II)I"⟩
abbrev cX4_arrives : ByteArray := prog_1_method_15_code
def yX4_arrives : MethodName := ⟨RX4, "arrives", "(I)I"⟩
abbrev cX4_best : ByteArray := prog_1_method_16_code
def yX4_best : MethodName := ⟨RX4, "best", "(I)I"⟩
abbrev cX4_thaw : ByteArray := prog_1_method_17_code
def yX4_thaw : MethodName := ⟨RX4, "thaw", "()I"⟩
abbrev cX4_mean : ByteArray := prog_1_method_18_code
def yX4_mean : MethodName := ⟨RX4, "mean", "()D"⟩
abbrev cX4_digest : ByteArray := prog_1_method_19_code
def yX4_digest : MethodName := ⟨RX4, "digest", "()J"⟩
abbrev cX4_counted : ByteArray := prog_1_method_20_code
def yX4_counted : MethodName := ⟨RX4, "counted", "(I)I"⟩
abbrev cX4_winOf : ByteArray := prog_1_method_21_code
def yX4_winOf : MethodName := ⟨RX4, "winOf", "(I)I"⟩
abbrev cX4_mixedWithRiver : ByteArray := prog_1_method_22_code
def yX4_mixedWithRiver : MethodName := ⟨RX4, "mixedWithRiver", "(J)J"⟩
abbrev cX4_mixedWithCouriers : ByteArray := prog_1_method_23_code
def yX4_mixedWithCouriers : MethodName := ⟨RX4, "mixedWithCouriers", "(J)J"⟩
abbrev cX4_mixedWithWagers : ByteArray := prog_1_method_24_code
def yX4_mixedWithWagers : MethodName := ⟨RX4, "mixedWithWagers", "(J)J"⟩
abbrev cX4_mixed : ByteArray := prog_1_method_25_code
def yX4_mixed : MethodName := ⟨RX4, "mixed", "(JI)J"⟩
abbrev cX4_isWithin : ByteArray := prog_1_method_26_code
def yX4_isWithin : MethodName := ⟨RX4, "isWithin", "(III)Z"⟩
abbrev cX4_isSection : ByteArray := prog_1_method_27_code
def yX4_isSection : MethodName := ⟨RX4, "isSection", "(I)Z"⟩
abbrev cX4_isPlace : ByteArray := prog_1_method_28_code
def yX4_isPlace : MethodName := ⟨RX4, "isPlace", "(II)Z"⟩
abbrev cX4_placeOf : ByteArray := prog_1_method_29_code
def yX4_placeOf : MethodName := ⟨RX4, "placeOf", "(II)I"⟩
def RX5 : String := "IceLanesModel$State"
def TX5 : u_T := fun k => match k with
  | 0 => ("IceLanesModel$State", "hour", "I", false)
  | 1 => ("IceLanesModel$State", "couriers", "I", false)
  | 2 => ("IceLanesModel$State", "thawed", "I", false)
  | 3 => ("IceLanesModel$State", "came", "I", false)
  | 4 => ("IceLanesModel$State", "ice", "[I", true)
  | 5 => ("IceLanesModel$State", "cracks", "[I", true)
  | 6 => ("IceLanesModel$State", "of", "[I", true)
  | _ => ("IceLanesModel$State", "this$0", "LIceLanesModel;", true)
def tyX5 : Nat → FieldType := fun k => match k with
  | 0 => .int
  | 1 => .int
  | 2 => .int
  | 3 => .int
  | 4 => .array .int
  | 5 => .array .int
  | 6 => .array .int
  | _ => .object "IceLanesModel"
abbrev wsX50 : List Cond := u_ws RX5 TX5 8
theorem nmX5 : ∀ a, a < 8 → ∀ b, b < 8 → a ≠ b → (TX5 a).2.1 ≠ (TX5 b).2.1 := by decide +kernel
theorem tyX5_ok : ∀ k, k < 8 → parseFieldDescriptor (TX5 k).2.2.1 = some (tyX5 k) := by decide +kernel
abbrev cX5_init : ByteArray := prog_8_method_1_code
def yX5_init : MethodName := ⟨RX5, "<init>", "(LIceLanesModel;)V"⟩
abbrev cX5_copy : ByteArray := prog_8_method_2_code
def yX5_copy : MethodName := ⟨RX5, "copy", "([I[I)V"⟩
abbrev cX5_become : ByteArray := prog_8_method_3_code
def yX5_become : MethodName := ⟨RX5, "become", "(LIceLanesModel$State;)V"⟩
abbrev cX5_get : ByteArray := prog_8_method_4_code
def yX5_get : MethodName := ⟨RX5, "get", "(II)I"⟩
abbrev cX5_set : ByteArray := prog_8_method_5_code
def yX5_set : MethodName := ⟨RX5, "set", "(III)V"⟩
abbrev cX5_holds : ByteArray := prog_8_method_6_code
def yX5_holds : MethodName := ⟨RX5, "holds", "(I)I"⟩
abbrev cX5_load : ByteArray := prog_8_method_7_code
def yX5_load : MethodName := ⟨RX5, "load", "(I)I"⟩
abbrev cX5_weather : ByteArray := prog_8_method_8_code
def yX5_weather : MethodName := ⟨RX5, "weather", "()V"⟩
abbrev cX5_listen : ByteArray := prog_8_method_9_code
def yX5_listen : MethodName := ⟨RX5, "listen", "()V"⟩
abbrev cX5_next : ByteArray := prog_8_method_10_code
def yX5_next : MethodName := ⟨RX5, "next", "(I)I"⟩
abbrev cX5_step : ByteArray := prog_8_method_11_code
def yX5_step : MethodName := ⟨RX5, "step", "(I)V"⟩
abbrev cX5_pass : ByteArray := prog_8_method_12_code
def yX5_pass : MethodName := ⟨RX5, "pass", "()V"⟩
def RX6 : String := "IceLanesModel"
def TX6 : u_T := fun k => match k with
  | 0 => ("IceLanesModel", "thrown", "I", false)
  | 1 => ("IceLanesModel", "warm", "[I", true)
  | 2 => ("IceLanesModel", "hut", "[I", true)
  | 3 => ("IceLanesModel", "wagers", "I", false)
  | 4 => ("IceLanesModel", "day", "[I", true)
  | 5 => ("IceLanesModel", "stake", "[I", true)
  | 6 => ("IceLanesModel", "s", "LIceLanesModel$State;", true)
  | _ => ("IceLanesModel", "ahead", "LIceLanesModel$State;", true)
def tyX6 : Nat → FieldType := fun k => match k with
  | 0 => .int
  | 1 => .array .int
  | 2 => .array .int
  | 3 => .int
  | 4 => .array .int
  | 5 => .array .int
  | 6 => .object "IceLanesModel$State"
  | _ => .object "IceLanesModel$State"
abbrev wsX60 : List Cond := u_ws RX6 TX6 8
theorem nmX6 : ∀ a, a < 8 → ∀ b, b < 8 → a ≠ b → (TX6 a).2.1 ≠ (TX6 b).2.1 := by decide +kernel
theorem tyX6_ok : ∀ k, k < 8 → parseFieldDescriptor (TX6 k).2.2.1 = some (tyX6 k) := by decide +kernel
abbrev cX6_init : ByteArray := prog_7_method_1_code
def yX6_init : MethodName := ⟨RX6, "<init>", "()V"⟩
abbrev cX6_thrown : ByteArray := prog_7_method_2_code
def yX6_thrown : MethodName := ⟨RX6, "thrown", "()I"⟩
abbrev cX6_no : ByteArray := prog_7_method_3_code
def yX6_no : MethodName := ⟨RX6, "no", "(I)I"⟩
abbrev cX6_isIn : ByteArray := prog_7_method_4_code
def yX6_isIn : MethodName := ⟨RX6, "isIn", "(III)Z"⟩
abbrev cX6_isPlace : ByteArray := prog_7_method_5_code
def yX6_isPlace : MethodName := ⟨RX6, "isPlace", "(II)Z"⟩
abbrev cX6_isCourier : ByteArray := prog_7_method_6_code
def yX6_isCourier : MethodName := ⟨RX6, "isCourier", "(I)Z"⟩
abbrev cX6_setWarm : ByteArray := prog_7_method_7_code
def yX6_setWarm : MethodName := ⟨RX6, "setWarm", "(II)I"⟩
abbrev cX6_setIce : ByteArray := prog_7_method_8_code
def yX6_setIce : MethodName := ⟨RX6, "setIce", "(III)I"⟩
abbrev cX6_huts : ByteArray := prog_7_method_9_code
def yX6_huts : MethodName := ⟨RX6, "huts", "()I"⟩
abbrev cX6_build : ByteArray := prog_7_method_10_code
def yX6_build : MethodName := ⟨RX6, "build", "(I)I"⟩
abbrev cX6_borne : ByteArray := prog_7_method_11_code
def yX6_borne : MethodName := ⟨RX6, "borne", "(I)I"⟩
abbrev cX6_placeTold : ByteArray := prog_7_method_12_code
def yX6_placeTold : MethodName := ⟨RX6, "placeTold", "(II)I"⟩
abbrev cX6_place : ByteArray := prog_7_method_13_code
def yX6_place : MethodName := ⟨RX6, "place", "(III)I"⟩
abbrev cX6_come : ByteArray := prog_7_method_14_code
def yX6_come : MethodName := ⟨RX6, "come", "(IIIIZ)I"⟩
abbrev cX6_send : ByteArray := prog_7_method_15_code
def yX6_send : MethodName := ⟨RX6, "send", "(II)I"⟩
abbrev cX6_load : ByteArray := prog_7_method_16_code
def yX6_load : MethodName := ⟨RX6, "load", "(II)I"⟩
abbrev cX6_courier : ByteArray := prog_7_method_17_code
def yX6_courier : MethodName := ⟨RX6, "courier", "(II)I"⟩
abbrev cX6_wager : ByteArray := prog_7_method_18_code
def yX6_wager : MethodName := ⟨RX6, "wager", "(II)I"⟩
abbrev cX6_stakes : ByteArray := prog_7_method_19_code
def yX6_stakes : MethodName := ⟨RX6, "stakes", "()I"⟩
abbrev cX6_won : ByteArray := prog_7_method_20_code
def yX6_won : MethodName := ⟨RX6, "won", "(I)I"⟩
abbrev cX6_wins : ByteArray := prog_7_method_21_code
def yX6_wins : MethodName := ⟨RX6, "wins", "(I)I"⟩
abbrev cX6_pass : ByteArray := prog_7_method_22_code
def yX6_pass : MethodName := ⟨RX6, "pass", "(I)I"⟩
abbrev cX6_counted : ByteArray := prog_7_method_23_code
def yX6_counted : MethodName := ⟨RX6, "counted", "(I)I"⟩
abbrev cX6_count : ByteArray := prog_7_method_24_code
def yX6_count : MethodName := ⟨RX6, "count", "(I)I"⟩
abbrev cX6_bears : ByteArray := prog_7_method_25_code
def yX6_bears : MethodName := ⟨RX6, "bears", "(II)I"⟩
abbrev cX6_arrivesAhead : ByteArray := prog_7_method_26_code
def yX6_arrivesAhead : MethodName := ⟨RX6, "arrivesAhead", "(I)I"⟩
abbrev cX6_arrives : ByteArray := prog_7_method_27_code
def yX6_arrives : MethodName := ⟨RX6, "arrives", "(I)I"⟩
abbrev cX6_best : ByteArray := prog_7_method_28_code
def yX6_best : MethodName := ⟨RX6, "best", "(I)I"⟩
abbrev cX6_thaw : ByteArray := prog_7_method_29_code
def yX6_thaw : MethodName := ⟨RX6, "thaw", "()I"⟩
abbrev cX6_mean : ByteArray := prog_7_method_30_code
def yX6_mean : MethodName := ⟨RX6, "mean", "()D"⟩
abbrev cX6_digest : ByteArray := prog_7_method_31_code
def yX6_digest : MethodName := ⟨RX6, "digest", "()J"⟩
def RJx145de : String := "java/io/Serializable"
def TJx145de : u_T := fun k => match k with
  | _ => ("", "", "", false)
def tyJx145de : Nat → FieldType := fun k => match k with
  | _ => .int
abbrev wsJx145de0 : List Cond := u_ws RJx145de TJx145de 0
theorem nmJx145de : ∀ a, a < 0 → ∀ b, b < 0 → a ≠ b → (TJx145de a).2.1 ≠ (TJx145de b).2.1 := by decide +kernel
theorem tyJx145de_ok : ∀ k, k < 0 → parseFieldDescriptor (TJx145de k).2.2.1 = some (tyJx145de k) := by decide +kernel
def RJ9 : String := "java/lang/Math"
def TJ9 : u_T := fun k => match k with
  | _ => ("", "", "", false)
def tyJ9 : Nat → FieldType := fun k => match k with
  | _ => .int
abbrev wsJ90 : List Cond := u_ws RJ9 TJ9 0
theorem nmJ9 : ∀ a, a < 0 → ∀ b, b < 0 → a ≠ b → (TJ9 a).2.1 ≠ (TJ9 b).2.1 := by decide +kernel
theorem tyJ9_ok : ∀ k, k < 0 → parseFieldDescriptor (TJ9 k).2.2.1 = some (tyJ9 k) := by decide +kernel
abbrev cJ9_floorMod_7cf53 : ByteArray := prog_13_method_50_code
def yJ9_floorMod_7cf53 : MethodName := ⟨RJ9, "floorMod", "(II)I"⟩
abbrev cJ9_abs_0f7a4 : ByteArray := prog_13_method_59_code
def yJ9_abs_0f7a4 : MethodName := ⟨RJ9, "abs", "(I)I"⟩
abbrev cJ9_max_7cf53 : ByteArray := prog_13_method_65_code
def yJ9_max_7cf53 : MethodName := ⟨RJ9, "max", "(II)I"⟩
abbrev cJ9_min_7cf53 : ByteArray := prog_13_method_69_code
def yJ9_min_7cf53 : MethodName := ⟨RJ9, "min", "(II)I"⟩
def RJ0 : String := "java/lang/String"
def TJ0 : u_T := fun k => match k with
  | _ => ("", "", "", false)
def tyJ0 : Nat → FieldType := fun k => match k with
  | _ => .int
abbrev wsJ00 : List Cond := u_ws RJ0 TJ0 0
theorem nmJ0 : ∀ a, a < 0 → ∀ b, b < 0 → a ≠ b → (TJ0 a).2.1 ≠ (TJ0 b).2.1 := by decide +kernel
theorem tyJ0_ok : ∀ k, k < 0 → parseFieldDescriptor (TJ0 k).2.2.1 = some (tyJ0 k) := by decide +kernel
def RJ10 : String := "java/lang/System"
def TJ10 : u_T := fun k => match k with
  | _ => ("", "", "", false)
def tyJ10 : Nat → FieldType := fun k => match k with
  | _ => .int
abbrev wsJ100 : List Cond := u_ws RJ10 TJ10 0
theorem nmJ10 : ∀ a, a < 0 → ∀ b, b < 0 → a ≠ b → (TJ10 a).2.1 ≠ (TJ10 b).2.1 := by decide +kernel
theorem tyJ10_ok : ∀ k, k < 0 → parseFieldDescriptor (TJ10 k).2.2.1 = some (tyJ10 k) := by decide +kernel
def RJ7 : String := "java/util/Arrays"
def TJ7 : u_T := fun k => match k with
  | _ => ("", "", "", false)
def tyJ7 : Nat → FieldType := fun k => match k with
  | _ => .int
abbrev wsJ70 : List Cond := u_ws RJ7 TJ7 0
theorem nmJ7 : ∀ a, a < 0 → ∀ b, b < 0 → a ≠ b → (TJ7 a).2.1 ≠ (TJ7 b).2.1 := by decide +kernel
theorem tyJ7_ok : ∀ k, k < 0 → parseFieldDescriptor (TJ7 k).2.2.1 = some (tyJ7 k) := by decide +kernel
abbrev cJ7_fill_53178 : ByteArray := prog_18_method_103_code
def yJ7_fill_53178 : MethodName := ⟨RJ7, "fill", "([II)V"⟩
def RL : String := "IceLanesLaw"
abbrev cL_setWarm : ByteArray := method_3_code
def yL_setWarm : MethodName := ⟨RL, "setWarm", "(LIceLanes;II[J)I"⟩
abbrev cL_setIce : ByteArray := method_4_code
def yL_setIce : MethodName := ⟨RL, "setIce", "(LIceLanes;III[J)I"⟩
abbrev cL_build : ByteArray := method_5_code
def yL_build : MethodName := ⟨RL, "build", "(LIceLanes;I[J)I"⟩
abbrev cL_place : ByteArray := method_6_code
def yL_place : MethodName := ⟨RL, "place", "(LIceLanes;III[J)I"⟩
abbrev cL_come : ByteArray := method_7_code
def yL_come : MethodName := ⟨RL, "come", "(LIceLanes;IIIIZ[J)I"⟩
abbrev cL_send : ByteArray := method_8_code
def yL_send : MethodName := ⟨RL, "send", "(LIceLanes;II[J)I"⟩
abbrev cL_load : ByteArray := method_9_code
def yL_load : MethodName := ⟨RL, "load", "(LIceLanes;II[J)I"⟩
abbrev cL_courier : ByteArray := method_10_code
def yL_courier : MethodName := ⟨RL, "courier", "(LIceLanes;II[J)I"⟩
abbrev cL_wager : ByteArray := method_11_code
def yL_wager : MethodName := ⟨RL, "wager", "(LIceLanes;II[J)I"⟩
abbrev cL_wins : ByteArray := method_12_code
def yL_wins : MethodName := ⟨RL, "wins", "(LIceLanes;I[J)I"⟩
abbrev cL_pass : ByteArray := method_13_code
def yL_pass : MethodName := ⟨RL, "pass", "(LIceLanes;I[J)I"⟩
abbrev cL_count : ByteArray := method_14_code
def yL_count : MethodName := ⟨RL, "count", "(LIceLanes;I[J)I"⟩
abbrev cL_bears : ByteArray := method_15_code
def yL_bears : MethodName := ⟨RL, "bears", "(LIceLanes;II[J)I"⟩
abbrev cL_arrives : ByteArray := method_16_code
def yL_arrives : MethodName := ⟨RL, "arrives", "(LIceLanes;I[J)I"⟩
abbrev cL_best : ByteArray := method_17_code
def yL_best : MethodName := ⟨RL, "best", "(LIceLanes;I[J)I"⟩
abbrev cL_law : ByteArray := code
def yL_law : MethodName := ⟨RL, "law", "([I)Z"⟩
def wsX0_init : List Cond := .code yX0_init cX0_init 1 none :: ([.methodLink RX0 3 objectInit, .instanceMethod objectInit, .code objectInit ⟨#[0xb1]⟩ 1 none, .arrayClass .int, .fieldLink RX0 9 "IceLanes$Couriers" "weight" "[I", .fieldLink RX0 15 "IceLanes$Couriers" "letters" "[I", .fieldLink RX0 18 "IceLanes$Couriers" "strength" "[I", .fieldLink RX0 21 "IceLanes$Couriers" "section" "[I", .fieldLink RX0 24 "IceLanes$Couriers" "lane" "[I", .fieldLink RX0 27 "IceLanes$Couriers" "goal" "[I", .fieldLink RX0 30 "IceLanes$Couriers" "state" "[I", .fieldLink RX0 33 "IceLanes$Couriers" "steps" "[I", .fieldLink RX0 36 "IceLanes$Couriers" "pace" "[I"] ++ wsX00)
def wsX0_become : List Cond := .code yX0_become cX0_become 2 none :: ([.fieldLink RX0 39 "IceLanes$Couriers" "number" "I", .fieldLink RX0 9 "IceLanes$Couriers" "weight" "[I", .methodLink RX0 43 arraycopyName, .native arraycopyName, .static arraycopyName, .initialized "java/lang/System", .fieldLink RX0 15 "IceLanes$Couriers" "letters" "[I", .fieldLink RX0 18 "IceLanes$Couriers" "strength" "[I", .fieldLink RX0 21 "IceLanes$Couriers" "section" "[I", .fieldLink RX0 24 "IceLanes$Couriers" "lane" "[I", .fieldLink RX0 27 "IceLanes$Couriers" "goal" "[I", .fieldLink RX0 30 "IceLanes$Couriers" "state" "[I", .fieldLink RX0 33 "IceLanes$Couriers" "steps" "[I", .fieldLink RX0 36 "IceLanes$Couriers" "pace" "[I"] ++ wsX00)
def wsX4_isWithin : List Cond := .code yX4_isWithin cX4_isWithin 3 (some .boolean) :: ([])
def wsX0_has : List Cond := .code yX0_has cX0_has 2 (some .boolean) :: ([.fieldLink RX0 39 "IceLanes$Couriers" "number" "I", .static yX4_isWithin, .initialized RX4, .code yX4_isWithin cX4_isWithin 3 (some .boolean)] ++ wsX00)
def wsX0_add : List Cond := .code yX0_add cX0_add 7 (some .int) :: ([.fieldLink RX0 39 "IceLanes$Couriers" "number" "I", .fieldLink RX0 9 "IceLanes$Couriers" "weight" "[I", .fieldLink RX0 15 "IceLanes$Couriers" "letters" "[I", .fieldLink RX0 18 "IceLanes$Couriers" "strength" "[I", .fieldLink RX0 21 "IceLanes$Couriers" "section" "[I", .fieldLink RX0 24 "IceLanes$Couriers" "lane" "[I", .fieldLink RX0 27 "IceLanes$Couriers" "goal" "[I", .fieldLink RX0 30 "IceLanes$Couriers" "state" "[I", .fieldLink RX0 33 "IceLanes$Couriers" "steps" "[I", .fieldLink RX0 36 "IceLanes$Couriers" "pace" "[I"] ++ wsX00)
def wsX0_tell : List Cond := .code yX0_tell cX0_tell 3 (some .int) :: ([.fieldLink RX0 9 "IceLanes$Couriers" "weight" "[I", .fieldLink RX0 15 "IceLanes$Couriers" "letters" "[I", .fieldLink RX0 18 "IceLanes$Couriers" "strength" "[I", .fieldLink RX0 21 "IceLanes$Couriers" "section" "[I", .fieldLink RX0 24 "IceLanes$Couriers" "lane" "[I", .fieldLink RX0 27 "IceLanes$Couriers" "goal" "[I", .fieldLink RX0 30 "IceLanes$Couriers" "state" "[I", .fieldLink RX0 33 "IceLanes$Couriers" "steps" "[I", .fieldLink RX0 36 "IceLanes$Couriers" "pace" "[I"] ++ wsX00)
def wsX0_loadOf : List Cond := .code yX0_loadOf cX0_loadOf 2 (some .int) :: ([.fieldLink RX0 9 "IceLanes$Couriers" "weight" "[I", .fieldLink RX0 15 "IceLanes$Couriers" "letters" "[I"] ++ wsX00)
def wsX0_isAtGoal : List Cond := .code yX0_isAtGoal cX0_isAtGoal 2 (some .boolean) :: ([.fieldLink RX0 21 "IceLanes$Couriers" "section" "[I", .fieldLink RX0 27 "IceLanes$Couriers" "goal" "[I"] ++ wsX00)
def wsX0_nextSection : List Cond := .code yX0_nextSection cX0_nextSection 2 (some .int) :: ([.fieldLink RX0 21 "IceLanes$Couriers" "section" "[I", .fieldLink RX0 27 "IceLanes$Couriers" "goal" "[I", .methodLink RX0 53 yX0_isAtGoal, .instanceMethod yX0_isAtGoal, .selects RX0 yX0_isAtGoal yX0_isAtGoal, .initialized RX0, .code yX0_isAtGoal cX0_isAtGoal 2 (some .boolean)] ++ wsX00)
def wsX0_numberWhose : List Cond := .code yX0_numberWhose cX0_numberWhose 4 (some .int) :: ([.fieldLink RX0 39 "IceLanes$Couriers" "number" "I", .fieldLink RX0 30 "IceLanes$Couriers" "state" "[I"] ++ wsX00)
def wsX0_notOutAt : List Cond := .code yX0_notOutAt cX0_notOutAt 6 (some .int) :: ([.fieldLink RX0 39 "IceLanes$Couriers" "number" "I", .fieldLink RX0 21 "IceLanes$Couriers" "section" "[I", .fieldLink RX0 24 "IceLanes$Couriers" "lane" "[I", .fieldLink RX0 30 "IceLanes$Couriers" "state" "[I"] ++ wsX00)
def wsX1_init : List Cond := .code yX1_init cX1_init 2 none :: ([.methodLink RX1 3 objectInit, .instanceMethod objectInit, .code objectInit ⟨#[0xb1]⟩ 1 none, .arrayClass .int, .fieldLink RX1 9 "IceLanes$Ice" "thickness" "[I", .fieldLink RX1 15 "IceLanes$Ice" "cracks" "[I"] ++ wsX10)
def wsX1_become : List Cond := .code yX1_become cX1_become 2 none :: ([.fieldLink RX1 9 "IceLanes$Ice" "thickness" "[I", .methodLink RX1 18 arraycopyName, .native arraycopyName, .static arraycopyName, .initialized "java/lang/System", .fieldLink RX1 15 "IceLanes$Ice" "cracks" "[I"] ++ wsX10)
def wsX4_placeOf : List Cond := .code yX4_placeOf cX4_placeOf 2 (some .int) :: ([])
def wsX1_soundness : List Cond := .code yX1_soundness cX1_soundness 4 (some .int) :: ([.fieldLink RX1 9 "IceLanes$Ice" "thickness" "[I", .fieldLink RX1 15 "IceLanes$Ice" "cracks" "[I", .static yX4_placeOf, .initialized RX4, .code yX4_placeOf cX4_placeOf 2 (some .int)] ++ wsX10)
def wsX1_holds : List Cond := .code yX1_holds cX1_holds 4 (some .boolean) :: ([.methodLink RX1 28 yX1_soundness, .instanceMethod yX1_soundness, .selects RX1 yX1_soundness yX1_soundness, .initialized RX1, .code yX1_soundness cX1_soundness 4 (some .int), .fieldLink RX1 9 "IceLanes$Ice" "thickness" "[I", .fieldLink RX1 15 "IceLanes$Ice" "cracks" "[I", .static yX4_placeOf, .initialized RX4, .code yX4_placeOf cX4_placeOf 2 (some .int)] ++ wsX10)
def wsX1_mostBorneAt : List Cond := .code yX1_mostBorneAt cX1_mostBorneAt 3 (some .int) :: ([.methodLink RX1 31 Lib.Math.max.name, .static Lib.Math.max.name, .initialized "java/lang/Math", .code Lib.Math.max.name Lib.Math.max.code 2 (some .int), .methodLink RX1 28 yX1_soundness, .instanceMethod yX1_soundness, .selects RX1 yX1_soundness yX1_soundness, .initialized RX1, .code yX1_soundness cX1_soundness 4 (some .int), .fieldLink RX1 9 "IceLanes$Ice" "thickness" "[I", .fieldLink RX1 15 "IceLanes$Ice" "cracks" "[I", .static yX4_placeOf, .initialized RX4, .code yX4_placeOf cX4_placeOf 2 (some .int)] ++ wsX10)
def wsX1_mostBorneBetween : List Cond := .code yX1_mostBorneBetween cX1_mostBorneBetween 9 (some .int) :: ([.methodLink RX1 31 Lib.Math.max.name, .static Lib.Math.max.name, .initialized "java/lang/Math", .code Lib.Math.max.name Lib.Math.max.code 2 (some .int), .methodLink RX1 39 Lib.Math.min.name, .static Lib.Math.min.name, .code Lib.Math.min.name Lib.Math.min.code 2 (some .int), .methodLink RX1 36 yX1_mostBorneAt, .instanceMethod yX1_mostBorneAt, .selects RX1 yX1_mostBorneAt yX1_mostBorneAt, .initialized RX1, .code yX1_mostBorneAt cX1_mostBorneAt 3 (some .int), .methodLink RX1 28 yX1_soundness, .instanceMethod yX1_soundness, .selects RX1 yX1_soundness yX1_soundness, .code yX1_soundness cX1_soundness 4 (some .int), .fieldLink RX1 9 "IceLanes$Ice" "thickness" "[I", .fieldLink RX1 15 "IceLanes$Ice" "cracks" "[I", .static yX4_placeOf, .initialized RX4, .code yX4_placeOf cX4_placeOf 2 (some .int)] ++ wsX10)
def wsX1_meetDay : List Cond := .code yX1_meetDay cX1_meetDay 4 none :: ([.fieldLink RX1 9 "IceLanes$Ice" "thickness" "[I", .methodLink RX1 39 Lib.Math.min.name, .static Lib.Math.min.name, .initialized "java/lang/Math", .code Lib.Math.min.name Lib.Math.min.code 2 (some .int), .methodLink RX1 31 Lib.Math.max.name, .static Lib.Math.max.name, .code Lib.Math.max.name Lib.Math.max.code 2 (some .int), .fieldLink RX1 15 "IceLanes$Ice" "cracks" "[I"] ++ wsX10)
def wsX1_withstands : List Cond := .code yX1_withstands cX1_withstands 5 (some .boolean) :: ([.fieldLink RX1 15 "IceLanes$Ice" "cracks" "[I", .methodLink RX1 39 Lib.Math.min.name, .static Lib.Math.min.name, .initialized "java/lang/Math", .code Lib.Math.min.name Lib.Math.min.code 2 (some .int), .fieldLink RX1 9 "IceLanes$Ice" "thickness" "[I", .static yX4_placeOf, .initialized RX4, .code yX4_placeOf cX4_placeOf 2 (some .int), .methodLink RX1 28 yX1_soundness, .instanceMethod yX1_soundness, .selects RX1 yX1_soundness yX1_soundness, .initialized RX1, .code yX1_soundness cX1_soundness 4 (some .int)] ++ wsX10)
def wsX1_laneFor : List Cond := .code yX1_laneFor cX1_laneFor 9 (some .int) :: ([.methodLink RX1 39 Lib.Math.min.name, .static Lib.Math.min.name, .initialized "java/lang/Math", .code Lib.Math.min.name Lib.Math.min.code 2 (some .int), .methodLink RX1 31 Lib.Math.max.name, .static Lib.Math.max.name, .code Lib.Math.max.name Lib.Math.max.code 2 (some .int), .methodLink RX1 28 yX1_soundness, .instanceMethod yX1_soundness, .selects RX1 yX1_soundness yX1_soundness, .initialized RX1, .code yX1_soundness cX1_soundness 4 (some .int), .fieldLink RX1 9 "IceLanes$Ice" "thickness" "[I", .fieldLink RX1 15 "IceLanes$Ice" "cracks" "[I", .static yX4_placeOf, .initialized RX4, .code yX4_placeOf cX4_placeOf 2 (some .int)] ++ wsX10)
def wsX1_isOpenAcross : List Cond := .code yX1_isOpenAcross cX1_isOpenAcross 4 (some .boolean) :: ([.fieldLink RX1 9 "IceLanes$Ice" "thickness" "[I", .static yX4_placeOf, .initialized RX4, .code yX4_placeOf cX4_placeOf 2 (some .int)] ++ wsX10)
def wsX1_placesOfOpenWater : List Cond := .code yX1_placesOfOpenWater cX1_placesOfOpenWater 3 (some .int) :: ([.fieldLink RX1 9 "IceLanes$Ice" "thickness" "[I"] ++ wsX10)
def wsX1_inAll : List Cond := .code yX1_inAll cX1_inAll 3 (some .int) :: ([.fieldLink RX1 9 "IceLanes$Ice" "thickness" "[I"] ++ wsX10)
def wsX1_cracksInAll : List Cond := .code yX1_cracksInAll cX1_cracksInAll 3 (some .int) :: ([.fieldLink RX1 15 "IceLanes$Ice" "cracks" "[I"] ++ wsX10)
def wsX2_init_r1 : List Cond := [Cond.methodLink RX2 3 objectInit, Cond.instanceMethod objectInit, Cond.code objectInit ⟨#[0xb1]⟩ 1 none, Cond.fieldLink RX2 9 "IceLanes$River" "thawDay" "I", Cond.arrayClass .int, Cond.fieldLink RX2 15 "IceLanes$River" "warm" "[I", Cond.fieldLink RX2 19 "IceLanes$River" "hut" "[I", Cond.classLink RX2 22 RX1, Cond.instantiable RX1 2, Cond.initialized RX1, Cond.fieldLink RX2 25 "IceLanes$River" "ice" "LIceLanes$Ice;", Cond.classLink RX2 29 RX0, Cond.instantiable RX0 10, Cond.initialized RX0, Cond.fieldLink RX2 32 "IceLanes$River" "couriers" "LIceLanes$Couriers;", Cond.instanceMethod yX1_init, Cond.code yX1_init cX1_init 2 none, Cond.methodLink RX1 3 objectInit, Cond.fieldLink RX1 9 "IceLanes$Ice" "thickness" "[I", Cond.fieldLink RX1 15 "IceLanes$Ice" "cracks" "[I", Cond.instanceMethod yX0_init, Cond.code yX0_init cX0_init 1 none, Cond.methodLink RX0 3 objectInit, Cond.fieldLink RX0 9 "IceLanes$Couriers" "weight" "[I"]
def wsX2_init_r2 : List Cond := [Cond.fieldLink RX0 15 "IceLanes$Couriers" "letters" "[I", Cond.fieldLink RX0 18 "IceLanes$Couriers" "strength" "[I", Cond.fieldLink RX0 21 "IceLanes$Couriers" "section" "[I", Cond.fieldLink RX0 24 "IceLanes$Couriers" "lane" "[I", Cond.fieldLink RX0 27 "IceLanes$Couriers" "goal" "[I", Cond.fieldLink RX0 30 "IceLanes$Couriers" "state" "[I", Cond.fieldLink RX0 33 "IceLanes$Couriers" "steps" "[I", Cond.fieldLink RX0 36 "IceLanes$Couriers" "pace" "[I"]
def wsX2_init : List Cond := .code yX2_init cX2_init 2 none :: ((wsX2_init_r1 ++ wsX2_init_r2) ++ wsX20 ++ wsX10 ++ wsX00)
def wsX2_become_r1 : List Cond := [Cond.fieldLink RX2 36 "IceLanes$River" "hour" "I", Cond.fieldLink RX2 9 "IceLanes$River" "thawDay" "I", Cond.fieldLink RX2 15 "IceLanes$River" "warm" "[I", Cond.methodLink RX2 39 arraycopyName, Cond.native arraycopyName, Cond.static arraycopyName, Cond.initialized "java/lang/System", Cond.fieldLink RX2 19 "IceLanes$River" "hut" "[I", Cond.fieldLink RX2 25 "IceLanes$River" "ice" "LIceLanes$Ice;", Cond.fieldLink RX2 32 "IceLanes$River" "couriers" "LIceLanes$Couriers;", Cond.instanceMethod yX1_become, Cond.initialized RX1, Cond.selects RX1 yX1_become yX1_become, Cond.code yX1_become cX1_become 2 none, Cond.fieldLink RX1 9 "IceLanes$Ice" "thickness" "[I", Cond.methodLink RX1 18 arraycopyName, Cond.fieldLink RX1 15 "IceLanes$Ice" "cracks" "[I", Cond.instanceMethod yX0_become, Cond.initialized RX0, Cond.selects RX0 yX0_become yX0_become, Cond.code yX0_become cX0_become 2 none, Cond.fieldLink RX0 39 "IceLanes$Couriers" "number" "I", Cond.fieldLink RX0 9 "IceLanes$Couriers" "weight" "[I", Cond.methodLink RX0 43 arraycopyName]
def wsX2_become_r2 : List Cond := [Cond.fieldLink RX0 15 "IceLanes$Couriers" "letters" "[I", Cond.fieldLink RX0 18 "IceLanes$Couriers" "strength" "[I", Cond.fieldLink RX0 21 "IceLanes$Couriers" "section" "[I", Cond.fieldLink RX0 24 "IceLanes$Couriers" "lane" "[I", Cond.fieldLink RX0 27 "IceLanes$Couriers" "goal" "[I", Cond.fieldLink RX0 30 "IceLanes$Couriers" "state" "[I", Cond.fieldLink RX0 33 "IceLanes$Couriers" "steps" "[I", Cond.fieldLink RX0 36 "IceLanes$Couriers" "pace" "[I"]
def wsX2_become : List Cond := .code yX2_become cX2_become 2 none :: ((wsX2_become_r1 ++ wsX2_become_r2) ++ wsX20 ++ wsX10 ++ wsX00)
def wsX2_huts : List Cond := .code yX2_huts cX2_huts 3 (some .int) :: ([.fieldLink RX2 19 "IceLanes$River" "hut" "[I"] ++ wsX20)
def wsX2_hasThawed : List Cond := .code yX2_hasThawed cX2_hasThawed 1 (some .boolean) :: ([.fieldLink RX2 9 "IceLanes$River" "thawDay" "I"] ++ wsX20)
def wsX2_holdsCourierWith : List Cond := .code yX2_holdsCourierWith cX2_holdsCourierWith 4 (some .boolean) :: ([.fieldLink RX2 32 "IceLanes$River" "couriers" "LIceLanes$Couriers;", .fieldLink RX2 25 "IceLanes$River" "ice" "LIceLanes$Ice;", .instanceMethod yX1_holds, .initialized RX1, .selects RX1 yX1_holds yX1_holds, .code yX1_holds cX1_holds 4 (some .boolean), .methodLink RX1 28 yX1_soundness, .instanceMethod yX1_soundness, .selects RX1 yX1_soundness yX1_soundness, .code yX1_soundness cX1_soundness 4 (some .int), .fieldLink RX1 9 "IceLanes$Ice" "thickness" "[I", .fieldLink RX1 15 "IceLanes$Ice" "cracks" "[I", .static yX4_placeOf, .initialized RX4, .code yX4_placeOf cX4_placeOf 2 (some .int)] ++ wsX20 ++ wsX00 ++ wsX10)
def wsJ9_floorMod_7cf53 : List Cond := .code yJ9_floorMod_7cf53 cJ9_floorMod_7cf53 3 (some .int) :: ([])
def wsX2_step_r1 : List Cond := [Cond.fieldLink RX2 32 "IceLanes$River" "couriers" "LIceLanes$Couriers;", Cond.fieldLink RX2 25 "IceLanes$River" "ice" "LIceLanes$Ice;", Cond.instanceMethod yX0_loadOf, Cond.initialized RX0, Cond.selects RX0 yX0_loadOf yX0_loadOf, Cond.code yX0_loadOf cX0_loadOf 2 (some .int), Cond.fieldLink RX0 9 "IceLanes$Couriers" "weight" "[I", Cond.fieldLink RX0 15 "IceLanes$Couriers" "letters" "[I", Cond.instanceMethod yX0_nextSection, Cond.selects RX0 yX0_nextSection yX0_nextSection, Cond.code yX0_nextSection cX0_nextSection 2 (some .int), Cond.fieldLink RX0 21 "IceLanes$Couriers" "section" "[I", Cond.fieldLink RX0 27 "IceLanes$Couriers" "goal" "[I", Cond.methodLink RX0 53 yX0_isAtGoal, Cond.instanceMethod yX0_isAtGoal, Cond.selects RX0 yX0_isAtGoal yX0_isAtGoal, Cond.code yX0_isAtGoal cX0_isAtGoal 2 (some .boolean), Cond.instanceMethod yX1_laneFor, Cond.initialized RX1, Cond.selects RX1 yX1_laneFor yX1_laneFor, Cond.code yX1_laneFor cX1_laneFor 9 (some .int), Cond.methodLink RX1 39 Lib.Math.min.name, Cond.static Lib.Math.min.name, Cond.initialized "java/lang/Math"]
def wsX2_step_r2 : List Cond := [Cond.code Lib.Math.min.name Lib.Math.min.code 2 (some .int), Cond.methodLink RX1 31 Lib.Math.max.name, Cond.static Lib.Math.max.name, Cond.code Lib.Math.max.name Lib.Math.max.code 2 (some .int), Cond.methodLink RX1 28 yX1_soundness, Cond.instanceMethod yX1_soundness, Cond.selects RX1 yX1_soundness yX1_soundness, Cond.code yX1_soundness cX1_soundness 4 (some .int), Cond.fieldLink RX1 9 "IceLanes$Ice" "thickness" "[I", Cond.fieldLink RX1 15 "IceLanes$Ice" "cracks" "[I", Cond.static yX4_placeOf, Cond.initialized RX4, Cond.code yX4_placeOf cX4_placeOf 2 (some .int), Cond.instanceMethod yX1_withstands, Cond.selects RX1 yX1_withstands yX1_withstands, Cond.code yX1_withstands cX1_withstands 5 (some .boolean)]
def wsX2_step : List Cond := .code yX2_step cX2_step 5 none :: ((wsX2_step_r1 ++ wsX2_step_r2) ++ wsX20 ++ wsX00 ++ wsX10)
def wsX2_travels_r1 : List Cond := [Cond.fieldLink RX2 32 "IceLanes$River" "couriers" "LIceLanes$Couriers;", Cond.methodLink RX2 98 yX2_step, Cond.instanceMethod yX2_step, Cond.selects RX2 yX2_step yX2_step, Cond.initialized RX2, Cond.code yX2_step cX2_step 5 none, Cond.fieldLink RX2 25 "IceLanes$River" "ice" "LIceLanes$Ice;", Cond.instanceMethod yX0_loadOf, Cond.initialized RX0, Cond.selects RX0 yX0_loadOf yX0_loadOf, Cond.code yX0_loadOf cX0_loadOf 2 (some .int), Cond.fieldLink RX0 9 "IceLanes$Couriers" "weight" "[I", Cond.fieldLink RX0 15 "IceLanes$Couriers" "letters" "[I", Cond.instanceMethod yX0_nextSection, Cond.selects RX0 yX0_nextSection yX0_nextSection, Cond.code yX0_nextSection cX0_nextSection 2 (some .int), Cond.fieldLink RX0 21 "IceLanes$Couriers" "section" "[I", Cond.fieldLink RX0 27 "IceLanes$Couriers" "goal" "[I", Cond.methodLink RX0 53 yX0_isAtGoal, Cond.instanceMethod yX0_isAtGoal, Cond.selects RX0 yX0_isAtGoal yX0_isAtGoal, Cond.code yX0_isAtGoal cX0_isAtGoal 2 (some .boolean), Cond.instanceMethod yX1_laneFor, Cond.initialized RX1]
def wsX2_travels_r2 : List Cond := [Cond.selects RX1 yX1_laneFor yX1_laneFor, Cond.code yX1_laneFor cX1_laneFor 9 (some .int), Cond.methodLink RX1 39 Lib.Math.min.name, Cond.static Lib.Math.min.name, Cond.initialized "java/lang/Math", Cond.code Lib.Math.min.name Lib.Math.min.code 2 (some .int), Cond.methodLink RX1 31 Lib.Math.max.name, Cond.static Lib.Math.max.name, Cond.code Lib.Math.max.name Lib.Math.max.code 2 (some .int), Cond.methodLink RX1 28 yX1_soundness, Cond.instanceMethod yX1_soundness, Cond.selects RX1 yX1_soundness yX1_soundness, Cond.code yX1_soundness cX1_soundness 4 (some .int), Cond.fieldLink RX1 9 "IceLanes$Ice" "thickness" "[I", Cond.fieldLink RX1 15 "IceLanes$Ice" "cracks" "[I", Cond.static yX4_placeOf, Cond.initialized RX4, Cond.code yX4_placeOf cX4_placeOf 2 (some .int), Cond.instanceMethod yX1_withstands, Cond.selects RX1 yX1_withstands yX1_withstands, Cond.code yX1_withstands cX1_withstands 5 (some .boolean)]
def wsX2_travels : List Cond := .code yX2_travels cX2_travels 3 (some .boolean) :: ((wsX2_travels_r1 ++ wsX2_travels_r2) ++ wsX20 ++ wsX00 ++ wsX10)
def wsX2_rest : List Cond := .code yX2_rest cX2_rest 4 none :: ([.fieldLink RX2 32 "IceLanes$River" "couriers" "LIceLanes$Couriers;", .fieldLink RX2 19 "IceLanes$River" "hut" "[I", .methodLink RX2 127 Lib.Math.min.name, .static Lib.Math.min.name, .initialized "java/lang/Math", .code Lib.Math.min.name Lib.Math.min.code 2 (some .int), .instanceMethod yX0_isAtGoal, .initialized RX0, .selects RX0 yX0_isAtGoal yX0_isAtGoal, .code yX0_isAtGoal cX0_isAtGoal 2 (some .boolean), .fieldLink RX0 21 "IceLanes$Couriers" "section" "[I", .fieldLink RX0 27 "IceLanes$Couriers" "goal" "[I"] ++ wsX20 ++ wsX00)
def wsX2_spendHour_r1 : List Cond := [Cond.fieldLink RX2 36 "IceLanes$River" "hour" "I", Cond.fieldLink RX2 25 "IceLanes$River" "ice" "LIceLanes$Ice;", Cond.fieldLink RX2 15 "IceLanes$River" "warm" "[I", Cond.fieldLink RX2 9 "IceLanes$River" "thawDay" "I", Cond.fieldLink RX2 32 "IceLanes$River" "couriers" "LIceLanes$Couriers;", Cond.methodLink RX2 65 yJ9_floorMod_7cf53, Cond.static yJ9_floorMod_7cf53, Cond.initialized RJ9, Cond.code yJ9_floorMod_7cf53 cJ9_floorMod_7cf53 3 (some .int), Cond.instanceMethod yX1_meetDay, Cond.initialized RX1, Cond.selects RX1 yX1_meetDay yX1_meetDay, Cond.code yX1_meetDay cX1_meetDay 4 none, Cond.fieldLink RX1 9 "IceLanes$Ice" "thickness" "[I", Cond.methodLink RX1 39 Lib.Math.min.name, Cond.static Lib.Math.min.name, Cond.initialized "java/lang/Math", Cond.code Lib.Math.min.name Lib.Math.min.code 2 (some .int), Cond.methodLink RX1 31 Lib.Math.max.name, Cond.static Lib.Math.max.name, Cond.code Lib.Math.max.name Lib.Math.max.code 2 (some .int), Cond.fieldLink RX1 15 "IceLanes$Ice" "cracks" "[I", Cond.methodLink RX2 75 yX2_hasThawed, Cond.instanceMethod yX2_hasThawed]
def wsX2_spendHour_r2 : List Cond := [Cond.selects RX2 yX2_hasThawed yX2_hasThawed, Cond.initialized RX2, Cond.code yX2_hasThawed cX2_hasThawed 1 (some .boolean), Cond.instanceMethod yX1_isOpenAcross, Cond.selects RX1 yX1_isOpenAcross yX1_isOpenAcross, Cond.code yX1_isOpenAcross cX1_isOpenAcross 4 (some .boolean), Cond.static yX4_placeOf, Cond.initialized RX4, Cond.code yX4_placeOf cX4_placeOf 2 (some .int), Cond.methodLink RX2 85 yX2_travels, Cond.instanceMethod yX2_travels, Cond.selects RX2 yX2_travels yX2_travels, Cond.code yX2_travels cX2_travels 3 (some .boolean), Cond.methodLink RX2 98 yX2_step, Cond.instanceMethod yX2_step, Cond.selects RX2 yX2_step yX2_step, Cond.code yX2_step cX2_step 5 none, Cond.instanceMethod yX0_loadOf, Cond.initialized RX0, Cond.selects RX0 yX0_loadOf yX0_loadOf, Cond.code yX0_loadOf cX0_loadOf 2 (some .int), Cond.fieldLink RX0 9 "IceLanes$Couriers" "weight" "[I", Cond.fieldLink RX0 15 "IceLanes$Couriers" "letters" "[I", Cond.instanceMethod yX0_nextSection]
def wsX2_spendHour_r3 : List Cond := [Cond.selects RX0 yX0_nextSection yX0_nextSection, Cond.code yX0_nextSection cX0_nextSection 2 (some .int), Cond.fieldLink RX0 21 "IceLanes$Couriers" "section" "[I", Cond.fieldLink RX0 27 "IceLanes$Couriers" "goal" "[I", Cond.methodLink RX0 53 yX0_isAtGoal, Cond.instanceMethod yX0_isAtGoal, Cond.selects RX0 yX0_isAtGoal yX0_isAtGoal, Cond.code yX0_isAtGoal cX0_isAtGoal 2 (some .boolean), Cond.instanceMethod yX1_laneFor, Cond.selects RX1 yX1_laneFor yX1_laneFor, Cond.code yX1_laneFor cX1_laneFor 9 (some .int), Cond.methodLink RX1 28 yX1_soundness, Cond.instanceMethod yX1_soundness, Cond.selects RX1 yX1_soundness yX1_soundness, Cond.code yX1_soundness cX1_soundness 4 (some .int), Cond.instanceMethod yX1_withstands, Cond.selects RX1 yX1_withstands yX1_withstands, Cond.code yX1_withstands cX1_withstands 5 (some .boolean), Cond.methodLink RX2 89 yX2_rest, Cond.instanceMethod yX2_rest, Cond.selects RX2 yX2_rest yX2_rest, Cond.code yX2_rest cX2_rest 4 none, Cond.fieldLink RX2 19 "IceLanes$River" "hut" "[I", Cond.methodLink RX2 127 Lib.Math.min.name]
def wsX2_spendHour : List Cond := .code yX2_spendHour cX2_spendHour 4 (some .int) :: ((wsX2_spendHour_r1 ++ (wsX2_spendHour_r2 ++ wsX2_spendHour_r3)) ++ wsX20 ++ wsX00 ++ wsX10)
def wsX2_hoursTillArrival_r1 : List Cond := [Cond.fieldLink RX2 32 "IceLanes$River" "couriers" "LIceLanes$Couriers;", Cond.instanceMethod yX0_isAtGoal, Cond.initialized RX0, Cond.selects RX0 yX0_isAtGoal yX0_isAtGoal, Cond.code yX0_isAtGoal cX0_isAtGoal 2 (some .boolean), Cond.fieldLink RX0 21 "IceLanes$Couriers" "section" "[I", Cond.fieldLink RX0 27 "IceLanes$Couriers" "goal" "[I", Cond.methodLink RX2 130 yX2_spendHour, Cond.instanceMethod yX2_spendHour, Cond.selects RX2 yX2_spendHour yX2_spendHour, Cond.initialized RX2, Cond.code yX2_spendHour cX2_spendHour 4 (some .int), Cond.fieldLink RX2 36 "IceLanes$River" "hour" "I", Cond.fieldLink RX2 25 "IceLanes$River" "ice" "LIceLanes$Ice;", Cond.fieldLink RX2 15 "IceLanes$River" "warm" "[I", Cond.fieldLink RX2 9 "IceLanes$River" "thawDay" "I", Cond.methodLink RX2 65 yJ9_floorMod_7cf53, Cond.static yJ9_floorMod_7cf53, Cond.initialized RJ9, Cond.code yJ9_floorMod_7cf53 cJ9_floorMod_7cf53 3 (some .int), Cond.instanceMethod yX1_meetDay, Cond.initialized RX1, Cond.selects RX1 yX1_meetDay yX1_meetDay, Cond.code yX1_meetDay cX1_meetDay 4 none]
def wsX2_hoursTillArrival_r2 : List Cond := [Cond.fieldLink RX1 9 "IceLanes$Ice" "thickness" "[I", Cond.methodLink RX1 39 Lib.Math.min.name, Cond.static Lib.Math.min.name, Cond.initialized "java/lang/Math", Cond.code Lib.Math.min.name Lib.Math.min.code 2 (some .int), Cond.methodLink RX1 31 Lib.Math.max.name, Cond.static Lib.Math.max.name, Cond.code Lib.Math.max.name Lib.Math.max.code 2 (some .int), Cond.fieldLink RX1 15 "IceLanes$Ice" "cracks" "[I", Cond.methodLink RX2 75 yX2_hasThawed, Cond.instanceMethod yX2_hasThawed, Cond.selects RX2 yX2_hasThawed yX2_hasThawed, Cond.code yX2_hasThawed cX2_hasThawed 1 (some .boolean), Cond.instanceMethod yX1_isOpenAcross, Cond.selects RX1 yX1_isOpenAcross yX1_isOpenAcross, Cond.code yX1_isOpenAcross cX1_isOpenAcross 4 (some .boolean), Cond.static yX4_placeOf, Cond.initialized RX4, Cond.code yX4_placeOf cX4_placeOf 2 (some .int), Cond.methodLink RX2 85 yX2_travels, Cond.instanceMethod yX2_travels, Cond.selects RX2 yX2_travels yX2_travels, Cond.code yX2_travels cX2_travels 3 (some .boolean), Cond.methodLink RX2 98 yX2_step]
def wsX2_hoursTillArrival_r3 : List Cond := [Cond.instanceMethod yX2_step, Cond.selects RX2 yX2_step yX2_step, Cond.code yX2_step cX2_step 5 none, Cond.instanceMethod yX0_loadOf, Cond.selects RX0 yX0_loadOf yX0_loadOf, Cond.code yX0_loadOf cX0_loadOf 2 (some .int), Cond.fieldLink RX0 9 "IceLanes$Couriers" "weight" "[I", Cond.fieldLink RX0 15 "IceLanes$Couriers" "letters" "[I", Cond.instanceMethod yX0_nextSection, Cond.selects RX0 yX0_nextSection yX0_nextSection, Cond.code yX0_nextSection cX0_nextSection 2 (some .int), Cond.methodLink RX0 53 yX0_isAtGoal, Cond.instanceMethod yX1_laneFor, Cond.selects RX1 yX1_laneFor yX1_laneFor, Cond.code yX1_laneFor cX1_laneFor 9 (some .int), Cond.methodLink RX1 28 yX1_soundness, Cond.instanceMethod yX1_soundness, Cond.selects RX1 yX1_soundness yX1_soundness, Cond.code yX1_soundness cX1_soundness 4 (some .int), Cond.instanceMethod yX1_withstands, Cond.selects RX1 yX1_withstands yX1_withstands, Cond.code yX1_withstands cX1_withstands 5 (some .boolean), Cond.methodLink RX2 89 yX2_rest, Cond.instanceMethod yX2_rest]
def wsX2_hoursTillArrival_r4 : List Cond := [Cond.selects RX2 yX2_rest yX2_rest, Cond.code yX2_rest cX2_rest 4 none, Cond.fieldLink RX2 19 "IceLanes$River" "hut" "[I", Cond.methodLink RX2 127 Lib.Math.min.name]
def wsX2_hoursTillArrival : List Cond := .code yX2_hoursTillArrival cX2_hoursTillArrival 3 (some .int) :: ((wsX2_hoursTillArrival_r1 ++ (wsX2_hoursTillArrival_r2 ++ (wsX2_hoursTillArrival_r3 ++ wsX2_hoursTillArrival_r4))) ++ wsX20 ++ wsX00 ++ wsX10)
def wsX2_dayOfThaw_r1 : List Cond := [Cond.fieldLink RX2 9 "IceLanes$River" "thawDay" "I", Cond.methodLink RX2 75 yX2_hasThawed, Cond.instanceMethod yX2_hasThawed, Cond.selects RX2 yX2_hasThawed yX2_hasThawed, Cond.initialized RX2, Cond.code yX2_hasThawed cX2_hasThawed 1 (some .boolean), Cond.methodLink RX2 130 yX2_spendHour, Cond.instanceMethod yX2_spendHour, Cond.selects RX2 yX2_spendHour yX2_spendHour, Cond.code yX2_spendHour cX2_spendHour 4 (some .int), Cond.fieldLink RX2 36 "IceLanes$River" "hour" "I", Cond.fieldLink RX2 25 "IceLanes$River" "ice" "LIceLanes$Ice;", Cond.fieldLink RX2 15 "IceLanes$River" "warm" "[I", Cond.fieldLink RX2 32 "IceLanes$River" "couriers" "LIceLanes$Couriers;", Cond.methodLink RX2 65 yJ9_floorMod_7cf53, Cond.static yJ9_floorMod_7cf53, Cond.initialized RJ9, Cond.code yJ9_floorMod_7cf53 cJ9_floorMod_7cf53 3 (some .int), Cond.instanceMethod yX1_meetDay, Cond.initialized RX1, Cond.selects RX1 yX1_meetDay yX1_meetDay, Cond.code yX1_meetDay cX1_meetDay 4 none, Cond.fieldLink RX1 9 "IceLanes$Ice" "thickness" "[I", Cond.methodLink RX1 39 Lib.Math.min.name]
def wsX2_dayOfThaw_r2 : List Cond := [Cond.static Lib.Math.min.name, Cond.initialized "java/lang/Math", Cond.code Lib.Math.min.name Lib.Math.min.code 2 (some .int), Cond.methodLink RX1 31 Lib.Math.max.name, Cond.static Lib.Math.max.name, Cond.code Lib.Math.max.name Lib.Math.max.code 2 (some .int), Cond.fieldLink RX1 15 "IceLanes$Ice" "cracks" "[I", Cond.instanceMethod yX1_isOpenAcross, Cond.selects RX1 yX1_isOpenAcross yX1_isOpenAcross, Cond.code yX1_isOpenAcross cX1_isOpenAcross 4 (some .boolean), Cond.static yX4_placeOf, Cond.initialized RX4, Cond.code yX4_placeOf cX4_placeOf 2 (some .int), Cond.methodLink RX2 85 yX2_travels, Cond.instanceMethod yX2_travels, Cond.selects RX2 yX2_travels yX2_travels, Cond.code yX2_travels cX2_travels 3 (some .boolean), Cond.methodLink RX2 98 yX2_step, Cond.instanceMethod yX2_step, Cond.selects RX2 yX2_step yX2_step, Cond.code yX2_step cX2_step 5 none, Cond.instanceMethod yX0_loadOf, Cond.initialized RX0, Cond.selects RX0 yX0_loadOf yX0_loadOf]
def wsX2_dayOfThaw_r3 : List Cond := [Cond.code yX0_loadOf cX0_loadOf 2 (some .int), Cond.fieldLink RX0 9 "IceLanes$Couriers" "weight" "[I", Cond.fieldLink RX0 15 "IceLanes$Couriers" "letters" "[I", Cond.instanceMethod yX0_nextSection, Cond.selects RX0 yX0_nextSection yX0_nextSection, Cond.code yX0_nextSection cX0_nextSection 2 (some .int), Cond.fieldLink RX0 21 "IceLanes$Couriers" "section" "[I", Cond.fieldLink RX0 27 "IceLanes$Couriers" "goal" "[I", Cond.methodLink RX0 53 yX0_isAtGoal, Cond.instanceMethod yX0_isAtGoal, Cond.selects RX0 yX0_isAtGoal yX0_isAtGoal, Cond.code yX0_isAtGoal cX0_isAtGoal 2 (some .boolean), Cond.instanceMethod yX1_laneFor, Cond.selects RX1 yX1_laneFor yX1_laneFor, Cond.code yX1_laneFor cX1_laneFor 9 (some .int), Cond.methodLink RX1 28 yX1_soundness, Cond.instanceMethod yX1_soundness, Cond.selects RX1 yX1_soundness yX1_soundness, Cond.code yX1_soundness cX1_soundness 4 (some .int), Cond.instanceMethod yX1_withstands, Cond.selects RX1 yX1_withstands yX1_withstands, Cond.code yX1_withstands cX1_withstands 5 (some .boolean), Cond.methodLink RX2 89 yX2_rest, Cond.instanceMethod yX2_rest]
def wsX2_dayOfThaw_r4 : List Cond := [Cond.selects RX2 yX2_rest yX2_rest, Cond.code yX2_rest cX2_rest 4 none, Cond.fieldLink RX2 19 "IceLanes$River" "hut" "[I", Cond.methodLink RX2 127 Lib.Math.min.name]
def wsX2_dayOfThaw : List Cond := .code yX2_dayOfThaw cX2_dayOfThaw 2 (some .int) :: ((wsX2_dayOfThaw_r1 ++ (wsX2_dayOfThaw_r2 ++ (wsX2_dayOfThaw_r3 ++ wsX2_dayOfThaw_r4))) ++ wsX20 ++ wsX00 ++ wsX10)
def wsX3_init : List Cond := .code yX3_init cX3_init 1 none :: ([.methodLink RX3 3 objectInit, .instanceMethod objectInit, .code objectInit ⟨#[0xb1]⟩ 1 none, .arrayClass .int, .fieldLink RX3 9 "IceLanes$Wagers" "day" "[I", .fieldLink RX3 15 "IceLanes$Wagers" "stake" "[I"] ++ wsX30)
def wsX3_has : List Cond := .code yX3_has cX3_has 2 (some .boolean) :: ([.fieldLink RX3 18 "IceLanes$Wagers" "number" "I", .static yX4_isWithin, .initialized RX4, .code yX4_isWithin cX4_isWithin 3 (some .boolean)] ++ wsX30)
def wsX3_add : List Cond := .code yX3_add cX3_add 4 (some .int) :: ([.fieldLink RX3 18 "IceLanes$Wagers" "number" "I", .fieldLink RX3 9 "IceLanes$Wagers" "day" "[I", .fieldLink RX3 15 "IceLanes$Wagers" "stake" "[I"] ++ wsX30)
def wsX3_allStakes : List Cond := .code yX3_allStakes cX3_allStakes 3 (some .int) :: ([.fieldLink RX3 18 "IceLanes$Wagers" "number" "I", .fieldLink RX3 15 "IceLanes$Wagers" "stake" "[I"] ++ wsX30)
def wsX3_daysBeside : List Cond := .code yX3_daysBeside cX3_daysBeside 3 (some .int) :: ([.fieldLink RX3 9 "IceLanes$Wagers" "day" "[I", .methodLink RX3 26 Lib.Math.abs.name, .static Lib.Math.abs.name, .initialized "java/lang/Math", .code Lib.Math.abs.name Lib.Math.abs.code 1 (some .int)] ++ wsX30)
def wsX3_winOn : List Cond := .code yX3_winOn cX3_winOn 7 (some .int) :: ([.fieldLink RX3 18 "IceLanes$Wagers" "number" "I", .methodLink RX3 32 yX3_daysBeside, .instanceMethod yX3_daysBeside, .selects RX3 yX3_daysBeside yX3_daysBeside, .initialized RX3, .code yX3_daysBeside cX3_daysBeside 3 (some .int), .fieldLink RX3 9 "IceLanes$Wagers" "day" "[I", .methodLink RX3 26 Lib.Math.abs.name, .static Lib.Math.abs.name, .initialized "java/lang/Math", .code Lib.Math.abs.name Lib.Math.abs.code 1 (some .int), .methodLink RX3 36 yX3_allStakes, .instanceMethod yX3_allStakes, .selects RX3 yX3_allStakes yX3_allStakes, .code yX3_allStakes cX3_allStakes 3 (some .int), .fieldLink RX3 15 "IceLanes$Wagers" "stake" "[I"] ++ wsX30)
def wsX4_init_r1 : List Cond := [Cond.methodLink RX4 3 objectInit, Cond.instanceMethod objectInit, Cond.code objectInit ⟨#[0xb1]⟩ 1 none, Cond.classLink RX4 9 RX2, Cond.instantiable RX2 6, Cond.initialized RX2, Cond.fieldLink RX4 12 "IceLanes" "river" "LIceLanes$River;", Cond.fieldLink RX4 16 "IceLanes" "ahead" "LIceLanes$River;", Cond.classLink RX4 19 RX3, Cond.instantiable RX3 3, Cond.initialized RX3, Cond.fieldLink RX4 22 "IceLanes" "wagers" "LIceLanes$Wagers;", Cond.instanceMethod yX2_init, Cond.code yX2_init cX2_init 2 none, Cond.methodLink RX2 3 objectInit, Cond.fieldLink RX2 9 "IceLanes$River" "thawDay" "I", Cond.arrayClass .int, Cond.fieldLink RX2 15 "IceLanes$River" "warm" "[I", Cond.fieldLink RX2 19 "IceLanes$River" "hut" "[I", Cond.classLink RX2 22 RX1, Cond.instantiable RX1 2, Cond.initialized RX1, Cond.fieldLink RX2 25 "IceLanes$River" "ice" "LIceLanes$Ice;", Cond.classLink RX2 29 RX0]
def wsX4_init_r2 : List Cond := [Cond.instantiable RX0 10, Cond.initialized RX0, Cond.fieldLink RX2 32 "IceLanes$River" "couriers" "LIceLanes$Couriers;", Cond.instanceMethod yX1_init, Cond.code yX1_init cX1_init 2 none, Cond.methodLink RX1 3 objectInit, Cond.fieldLink RX1 9 "IceLanes$Ice" "thickness" "[I", Cond.fieldLink RX1 15 "IceLanes$Ice" "cracks" "[I", Cond.instanceMethod yX0_init, Cond.code yX0_init cX0_init 1 none, Cond.methodLink RX0 3 objectInit, Cond.fieldLink RX0 9 "IceLanes$Couriers" "weight" "[I", Cond.fieldLink RX0 15 "IceLanes$Couriers" "letters" "[I", Cond.fieldLink RX0 18 "IceLanes$Couriers" "strength" "[I", Cond.fieldLink RX0 21 "IceLanes$Couriers" "section" "[I", Cond.fieldLink RX0 24 "IceLanes$Couriers" "lane" "[I", Cond.fieldLink RX0 27 "IceLanes$Couriers" "goal" "[I", Cond.fieldLink RX0 30 "IceLanes$Couriers" "state" "[I", Cond.fieldLink RX0 33 "IceLanes$Couriers" "steps" "[I", Cond.fieldLink RX0 36 "IceLanes$Couriers" "pace" "[I", Cond.instanceMethod yX3_init, Cond.code yX3_init cX3_init 1 none, Cond.methodLink RX3 3 objectInit, Cond.fieldLink RX3 9 "IceLanes$Wagers" "day" "[I"]
def wsX4_init_r3 : List Cond := [Cond.fieldLink RX3 15 "IceLanes$Wagers" "stake" "[I"]
def wsX4_init : List Cond := .code yX4_init cX4_init 1 none :: ((wsX4_init_r1 ++ (wsX4_init_r2 ++ wsX4_init_r3)) ++ wsX20 ++ wsX40 ++ wsX30 ++ wsX10 ++ wsX00)
def wsX4_setWarm : List Cond := .code yX4_setWarm cX4_setWarm 4 (some .int) :: ([.classLink RX4 30 "java/lang/IndexOutOfBoundsException", .initialized "java/lang/IndexOutOfBoundsException", .classLink RX4 37 "java/lang/IllegalArgumentException", .initialized "java/lang/IllegalArgumentException", .fieldLink RX4 12 "IceLanes" "river" "LIceLanes$River;", .methodLink RX4 26 yX4_isWithin, .static yX4_isWithin, .initialized RX4, .code yX4_isWithin cX4_isWithin 3 (some .boolean)] ++ wsX40 ++ wsX20 ++ (vx_atS RX4 34 "java/lang/IndexOutOfBoundsException" ["java/lang/RuntimeException", "java/lang/Exception"]).filter goodWord ++ (vx_atS RX4 41 "java/lang/IllegalArgumentException" ["java/lang/RuntimeException", "java/lang/Exception"]).filter goodWord)
def wsX4_isSection : List Cond := .code yX4_isSection cX4_isSection 1 (some .boolean) :: ([.methodLink RX4 26 yX4_isWithin, .static yX4_isWithin, .initialized RX4, .code yX4_isWithin cX4_isWithin 3 (some .boolean)])
def wsX4_isPlace : List Cond := .code yX4_isPlace cX4_isPlace 2 (some .boolean) :: ([.methodLink RX4 67 yX4_isSection, .static yX4_isSection, .initialized RX4, .code yX4_isSection cX4_isSection 1 (some .boolean), .methodLink RX4 26 yX4_isWithin, .static yX4_isWithin, .code yX4_isWithin cX4_isWithin 3 (some .boolean)])
def wsX4_setIce : List Cond := .code yX4_setIce cX4_setIce 6 (some .int) :: ([.classLink RX4 30 "java/lang/IndexOutOfBoundsException", .initialized "java/lang/IndexOutOfBoundsException", .classLink RX4 37 "java/lang/IllegalArgumentException", .initialized "java/lang/IllegalArgumentException", .fieldLink RX4 12 "IceLanes" "river" "LIceLanes$River;", .methodLink RX4 46 yX4_isPlace, .static yX4_isPlace, .initialized RX4, .code yX4_isPlace cX4_isPlace 2 (some .boolean), .methodLink RX4 67 yX4_isSection, .static yX4_isSection, .code yX4_isSection cX4_isSection 1 (some .boolean), .methodLink RX4 26 yX4_isWithin, .static yX4_isWithin, .code yX4_isWithin cX4_isWithin 3 (some .boolean), .methodLink RX4 54 yX4_placeOf, .static yX4_placeOf, .code yX4_placeOf cX4_placeOf 2 (some .int)] ++ wsX40 ++ wsX20 ++ wsX10 ++ (vx_atS RX4 34 "java/lang/IndexOutOfBoundsException" ["java/lang/RuntimeException", "java/lang/Exception"]).filter goodWord ++ (vx_atS RX4 41 "java/lang/IllegalArgumentException" ["java/lang/RuntimeException", "java/lang/Exception"]).filter goodWord)
def wsX4_build : List Cond := .code yX4_build cX4_build 2 (some .int) :: ([.classLink RX4 30 "java/lang/IndexOutOfBoundsException", .initialized "java/lang/IndexOutOfBoundsException", .fieldLink RX4 12 "IceLanes" "river" "LIceLanes$River;", .methodLink RX4 67 yX4_isSection, .static yX4_isSection, .initialized RX4, .code yX4_isSection cX4_isSection 1 (some .boolean), .methodLink RX4 26 yX4_isWithin, .static yX4_isWithin, .code yX4_isWithin cX4_isWithin 3 (some .boolean), .instanceMethod yX2_huts, .initialized RX2, .selects RX2 yX2_huts yX2_huts, .code yX2_huts cX2_huts 3 (some .int), .fieldLink RX2 19 "IceLanes$River" "hut" "[I"] ++ wsX40 ++ wsX20 ++ (vx_atS RX4 34 "java/lang/IndexOutOfBoundsException" ["java/lang/RuntimeException", "java/lang/Exception"]).filter goodWord)
def wsX4_place_r1 : List Cond := [Cond.classLink RX4 30 "java/lang/IndexOutOfBoundsException", Cond.initialized "java/lang/IndexOutOfBoundsException", Cond.fieldLink RX4 12 "IceLanes" "river" "LIceLanes$River;", Cond.methodLink RX4 46 yX4_isPlace, Cond.static yX4_isPlace, Cond.initialized RX4, Cond.code yX4_isPlace cX4_isPlace 2 (some .boolean), Cond.methodLink RX4 67 yX4_isSection, Cond.static yX4_isSection, Cond.code yX4_isSection cX4_isSection 1 (some .boolean), Cond.methodLink RX4 26 yX4_isWithin, Cond.static yX4_isWithin, Cond.code yX4_isWithin cX4_isWithin 3 (some .boolean), Cond.methodLink RX4 54 yX4_placeOf, Cond.static yX4_placeOf, Cond.code yX4_placeOf cX4_placeOf 2 (some .int), Cond.instanceMethod yX1_mostBorneAt, Cond.initialized RX1, Cond.selects RX1 yX1_mostBorneAt yX1_mostBorneAt, Cond.code yX1_mostBorneAt cX1_mostBorneAt 3 (some .int), Cond.methodLink RX1 31 Lib.Math.max.name, Cond.static Lib.Math.max.name, Cond.initialized "java/lang/Math", Cond.code Lib.Math.max.name Lib.Math.max.code 2 (some .int)]
def wsX4_place_r2 : List Cond := [Cond.methodLink RX1 28 yX1_soundness, Cond.instanceMethod yX1_soundness, Cond.selects RX1 yX1_soundness yX1_soundness, Cond.code yX1_soundness cX1_soundness 4 (some .int), Cond.fieldLink RX1 9 "IceLanes$Ice" "thickness" "[I", Cond.fieldLink RX1 15 "IceLanes$Ice" "cracks" "[I", Cond.instanceMethod yX0_notOutAt, Cond.initialized RX0, Cond.selects RX0 yX0_notOutAt yX0_notOutAt, Cond.code yX0_notOutAt cX0_notOutAt 6 (some .int), Cond.fieldLink RX0 39 "IceLanes$Couriers" "number" "I", Cond.fieldLink RX0 21 "IceLanes$Couriers" "section" "[I", Cond.fieldLink RX0 24 "IceLanes$Couriers" "lane" "[I", Cond.fieldLink RX0 30 "IceLanes$Couriers" "state" "[I"]
def wsX4_place : List Cond := .code yX4_place cX4_place 4 (some .int) :: ((wsX4_place_r1 ++ wsX4_place_r2) ++ wsX40 ++ wsX20 ++ wsX10 ++ wsX00 ++ (vx_atS RX4 34 "java/lang/IndexOutOfBoundsException" ["java/lang/RuntimeException", "java/lang/Exception"]).filter goodWord)
def wsX4_come_r1 : List Cond := [Cond.classLink RX4 30 "java/lang/IndexOutOfBoundsException", Cond.initialized "java/lang/IndexOutOfBoundsException", Cond.classLink RX4 37 "java/lang/IllegalArgumentException", Cond.initialized "java/lang/IllegalArgumentException", Cond.classLink RX4 103 "java/lang/IllegalStateException", Cond.initialized "java/lang/IllegalStateException", Cond.fieldLink RX4 12 "IceLanes" "river" "LIceLanes$River;", Cond.methodLink RX4 46 yX4_isPlace, Cond.static yX4_isPlace, Cond.initialized RX4, Cond.code yX4_isPlace cX4_isPlace 2 (some .boolean), Cond.methodLink RX4 67 yX4_isSection, Cond.static yX4_isSection, Cond.code yX4_isSection cX4_isSection 1 (some .boolean), Cond.methodLink RX4 26 yX4_isWithin, Cond.static yX4_isWithin, Cond.code yX4_isWithin cX4_isWithin 3 (some .boolean), Cond.instanceMethod yX1_holds, Cond.initialized RX1, Cond.selects RX1 yX1_holds yX1_holds, Cond.code yX1_holds cX1_holds 4 (some .boolean), Cond.methodLink RX1 28 yX1_soundness, Cond.instanceMethod yX1_soundness, Cond.selects RX1 yX1_soundness yX1_soundness]
def wsX4_come_r2 : List Cond := [Cond.code yX1_soundness cX1_soundness 4 (some .int), Cond.fieldLink RX1 9 "IceLanes$Ice" "thickness" "[I", Cond.fieldLink RX1 15 "IceLanes$Ice" "cracks" "[I", Cond.static yX4_placeOf, Cond.code yX4_placeOf cX4_placeOf 2 (some .int), Cond.instanceMethod yX0_add, Cond.initialized RX0, Cond.selects RX0 yX0_add yX0_add, Cond.code yX0_add cX0_add 7 (some .int), Cond.fieldLink RX0 39 "IceLanes$Couriers" "number" "I", Cond.fieldLink RX0 9 "IceLanes$Couriers" "weight" "[I", Cond.fieldLink RX0 15 "IceLanes$Couriers" "letters" "[I", Cond.fieldLink RX0 18 "IceLanes$Couriers" "strength" "[I", Cond.fieldLink RX0 21 "IceLanes$Couriers" "section" "[I", Cond.fieldLink RX0 24 "IceLanes$Couriers" "lane" "[I", Cond.fieldLink RX0 27 "IceLanes$Couriers" "goal" "[I", Cond.fieldLink RX0 30 "IceLanes$Couriers" "state" "[I", Cond.fieldLink RX0 33 "IceLanes$Couriers" "steps" "[I", Cond.fieldLink RX0 36 "IceLanes$Couriers" "pace" "[I"]
def wsX4_come : List Cond := .code yX4_come cX4_come 6 (some .int) :: ((wsX4_come_r1 ++ wsX4_come_r2) ++ wsX40 ++ wsX20 ++ wsX00 ++ wsX10 ++ (vx_atS RX4 34 "java/lang/IndexOutOfBoundsException" ["java/lang/RuntimeException", "java/lang/Exception"]).filter goodWord ++ (vx_atS RX4 41 "java/lang/IllegalArgumentException" ["java/lang/RuntimeException", "java/lang/Exception"]).filter goodWord ++ (vx_atS RX4 107 "java/lang/IllegalStateException" ["java/lang/RuntimeException", "java/lang/Exception"]).filter goodWord)
def wsX4_send : List Cond := .code yX4_send cX4_send 3 (some .int) :: ([.classLink RX4 30 "java/lang/IndexOutOfBoundsException", .initialized "java/lang/IndexOutOfBoundsException", .classLink RX4 103 "java/lang/IllegalStateException", .initialized "java/lang/IllegalStateException", .fieldLink RX4 12 "IceLanes" "river" "LIceLanes$River;", .methodLink RX4 133 Lib.Math.abs.name, .static Lib.Math.abs.name, .initialized "java/lang/Math", .code Lib.Math.abs.name Lib.Math.abs.code 1 (some .int), .instanceMethod yX0_has, .initialized RX0, .selects RX0 yX0_has yX0_has, .code yX0_has cX0_has 2 (some .boolean), .fieldLink RX0 39 "IceLanes$Couriers" "number" "I", .static yX4_isWithin, .initialized RX4, .code yX4_isWithin cX4_isWithin 3 (some .boolean), .methodLink RX4 67 yX4_isSection, .static yX4_isSection, .code yX4_isSection cX4_isSection 1 (some .boolean), .methodLink RX4 26 yX4_isWithin] ++ wsX40 ++ wsX20 ++ wsX00 ++ (vx_atS RX4 34 "java/lang/IndexOutOfBoundsException" ["java/lang/RuntimeException", "java/lang/Exception"]).filter goodWord ++ (vx_atS RX4 107 "java/lang/IllegalStateException" ["java/lang/RuntimeException", "java/lang/Exception"]).filter goodWord)
def wsX4_load_r1 : List Cond := [Cond.classLink RX4 30 "java/lang/IndexOutOfBoundsException", Cond.initialized "java/lang/IndexOutOfBoundsException", Cond.classLink RX4 37 "java/lang/IllegalArgumentException", Cond.initialized "java/lang/IllegalArgumentException", Cond.classLink RX4 103 "java/lang/IllegalStateException", Cond.initialized "java/lang/IllegalStateException", Cond.fieldLink RX4 12 "IceLanes" "river" "LIceLanes$River;", Cond.instanceMethod yX0_has, Cond.initialized RX0, Cond.selects RX0 yX0_has yX0_has, Cond.code yX0_has cX0_has 2 (some .boolean), Cond.fieldLink RX0 39 "IceLanes$Couriers" "number" "I", Cond.static yX4_isWithin, Cond.initialized RX4, Cond.code yX4_isWithin cX4_isWithin 3 (some .boolean), Cond.methodLink RX4 26 yX4_isWithin, Cond.instanceMethod yX2_holdsCourierWith, Cond.initialized RX2, Cond.selects RX2 yX2_holdsCourierWith yX2_holdsCourierWith, Cond.code yX2_holdsCourierWith cX2_holdsCourierWith 4 (some .boolean), Cond.fieldLink RX2 32 "IceLanes$River" "couriers" "LIceLanes$Couriers;", Cond.fieldLink RX2 25 "IceLanes$River" "ice" "LIceLanes$Ice;", Cond.instanceMethod yX1_holds, Cond.initialized RX1]
def wsX4_load_r2 : List Cond := [Cond.selects RX1 yX1_holds yX1_holds, Cond.code yX1_holds cX1_holds 4 (some .boolean), Cond.methodLink RX1 28 yX1_soundness, Cond.instanceMethod yX1_soundness, Cond.selects RX1 yX1_soundness yX1_soundness, Cond.code yX1_soundness cX1_soundness 4 (some .int), Cond.fieldLink RX1 9 "IceLanes$Ice" "thickness" "[I", Cond.fieldLink RX1 15 "IceLanes$Ice" "cracks" "[I", Cond.static yX4_placeOf, Cond.code yX4_placeOf cX4_placeOf 2 (some .int)]
def wsX4_load : List Cond := .code yX4_load cX4_load 4 (some .int) :: ((wsX4_load_r1 ++ wsX4_load_r2) ++ wsX40 ++ wsX20 ++ wsX00 ++ wsX10 ++ (vx_atS RX4 34 "java/lang/IndexOutOfBoundsException" ["java/lang/RuntimeException", "java/lang/Exception"]).filter goodWord ++ (vx_atS RX4 41 "java/lang/IllegalArgumentException" ["java/lang/RuntimeException", "java/lang/Exception"]).filter goodWord ++ (vx_atS RX4 107 "java/lang/IllegalStateException" ["java/lang/RuntimeException", "java/lang/Exception"]).filter goodWord)
def wsX4_courier : List Cond := .code yX4_courier cX4_courier 3 (some .int) :: ([.classLink RX4 30 "java/lang/IndexOutOfBoundsException", .initialized "java/lang/IndexOutOfBoundsException", .fieldLink RX4 12 "IceLanes" "river" "LIceLanes$River;", .instanceMethod yX0_has, .initialized RX0, .selects RX0 yX0_has yX0_has, .code yX0_has cX0_has 2 (some .boolean), .fieldLink RX0 39 "IceLanes$Couriers" "number" "I", .static yX4_isWithin, .initialized RX4, .code yX4_isWithin cX4_isWithin 3 (some .boolean), .methodLink RX4 26 yX4_isWithin, .instanceMethod yX0_tell, .selects RX0 yX0_tell yX0_tell, .code yX0_tell cX0_tell 3 (some .int), .fieldLink RX0 9 "IceLanes$Couriers" "weight" "[I", .fieldLink RX0 15 "IceLanes$Couriers" "letters" "[I", .fieldLink RX0 18 "IceLanes$Couriers" "strength" "[I", .fieldLink RX0 21 "IceLanes$Couriers" "section" "[I", .fieldLink RX0 24 "IceLanes$Couriers" "lane" "[I", .fieldLink RX0 27 "IceLanes$Couriers" "goal" "[I", .fieldLink RX0 30 "IceLanes$Couriers" "state" "[I", .fieldLink RX0 33 "IceLanes$Couriers" "steps" "[I", .fieldLink RX0 36 "IceLanes$Couriers" "pace" "[I"] ++ wsX40 ++ wsX20 ++ wsX00 ++ (vx_atS RX4 34 "java/lang/IndexOutOfBoundsException" ["java/lang/RuntimeException", "java/lang/Exception"]).filter goodWord)
def wsX4_wager : List Cond := .code yX4_wager cX4_wager 3 (some .int) :: ([.classLink RX4 37 "java/lang/IllegalArgumentException", .initialized "java/lang/IllegalArgumentException", .classLink RX4 103 "java/lang/IllegalStateException", .initialized "java/lang/IllegalStateException", .fieldLink RX4 22 "IceLanes" "wagers" "LIceLanes$Wagers;", .fieldLink RX4 12 "IceLanes" "river" "LIceLanes$River;", .methodLink RX4 26 yX4_isWithin, .static yX4_isWithin, .initialized RX4, .code yX4_isWithin cX4_isWithin 3 (some .boolean), .instanceMethod yX2_hasThawed, .initialized RX2, .selects RX2 yX2_hasThawed yX2_hasThawed, .code yX2_hasThawed cX2_hasThawed 1 (some .boolean), .fieldLink RX2 9 "IceLanes$River" "thawDay" "I", .instanceMethod yX3_add, .initialized RX3, .selects RX3 yX3_add yX3_add, .code yX3_add cX3_add 4 (some .int), .fieldLink RX3 18 "IceLanes$Wagers" "number" "I", .fieldLink RX3 9 "IceLanes$Wagers" "day" "[I", .fieldLink RX3 15 "IceLanes$Wagers" "stake" "[I"] ++ wsX40 ++ wsX30 ++ wsX20 ++ (vx_atS RX4 41 "java/lang/IllegalArgumentException" ["java/lang/RuntimeException", "java/lang/Exception"]).filter goodWord ++ (vx_atS RX4 107 "java/lang/IllegalStateException" ["java/lang/RuntimeException", "java/lang/Exception"]).filter goodWord)
def wsX4_winOf_r1 : List Cond := [Cond.fieldLink RX4 12 "IceLanes" "river" "LIceLanes$River;", Cond.fieldLink RX4 22 "IceLanes" "wagers" "LIceLanes$Wagers;", Cond.instanceMethod yX2_hasThawed, Cond.initialized RX2, Cond.selects RX2 yX2_hasThawed yX2_hasThawed, Cond.code yX2_hasThawed cX2_hasThawed 1 (some .boolean), Cond.fieldLink RX2 9 "IceLanes$River" "thawDay" "I", Cond.instanceMethod yX3_winOn, Cond.initialized RX3, Cond.selects RX3 yX3_winOn yX3_winOn, Cond.code yX3_winOn cX3_winOn 7 (some .int), Cond.fieldLink RX3 18 "IceLanes$Wagers" "number" "I", Cond.methodLink RX3 32 yX3_daysBeside, Cond.instanceMethod yX3_daysBeside, Cond.selects RX3 yX3_daysBeside yX3_daysBeside, Cond.code yX3_daysBeside cX3_daysBeside 3 (some .int), Cond.fieldLink RX3 9 "IceLanes$Wagers" "day" "[I", Cond.methodLink RX3 26 Lib.Math.abs.name, Cond.static Lib.Math.abs.name, Cond.initialized "java/lang/Math", Cond.code Lib.Math.abs.name Lib.Math.abs.code 1 (some .int), Cond.methodLink RX3 36 yX3_allStakes, Cond.instanceMethod yX3_allStakes, Cond.selects RX3 yX3_allStakes yX3_allStakes]
def wsX4_winOf_r2 : List Cond := [Cond.code yX3_allStakes cX3_allStakes 3 (some .int), Cond.fieldLink RX3 15 "IceLanes$Wagers" "stake" "[I"]
def wsX4_winOf : List Cond := .code yX4_winOf cX4_winOf 2 (some .int) :: ((wsX4_winOf_r1 ++ wsX4_winOf_r2) ++ wsX40 ++ wsX20 ++ wsX30)
def wsX4_wins_r1 : List Cond := [Cond.classLink RX4 30 "java/lang/IndexOutOfBoundsException", Cond.initialized "java/lang/IndexOutOfBoundsException", Cond.fieldLink RX4 22 "IceLanes" "wagers" "LIceLanes$Wagers;", Cond.instanceMethod yX3_has, Cond.initialized RX3, Cond.selects RX3 yX3_has yX3_has, Cond.code yX3_has cX3_has 2 (some .boolean), Cond.fieldLink RX3 18 "IceLanes$Wagers" "number" "I", Cond.static yX4_isWithin, Cond.initialized RX4, Cond.code yX4_isWithin cX4_isWithin 3 (some .boolean), Cond.methodLink RX4 174 yX4_winOf, Cond.instanceMethod yX4_winOf, Cond.selects RX4 yX4_winOf yX4_winOf, Cond.code yX4_winOf cX4_winOf 2 (some .int), Cond.fieldLink RX4 12 "IceLanes" "river" "LIceLanes$River;", Cond.instanceMethod yX2_hasThawed, Cond.initialized RX2, Cond.selects RX2 yX2_hasThawed yX2_hasThawed, Cond.code yX2_hasThawed cX2_hasThawed 1 (some .boolean), Cond.fieldLink RX2 9 "IceLanes$River" "thawDay" "I", Cond.instanceMethod yX3_winOn, Cond.selects RX3 yX3_winOn yX3_winOn, Cond.code yX3_winOn cX3_winOn 7 (some .int)]
def wsX4_wins_r2 : List Cond := [Cond.methodLink RX3 32 yX3_daysBeside, Cond.instanceMethod yX3_daysBeside, Cond.selects RX3 yX3_daysBeside yX3_daysBeside, Cond.code yX3_daysBeside cX3_daysBeside 3 (some .int), Cond.fieldLink RX3 9 "IceLanes$Wagers" "day" "[I", Cond.methodLink RX3 26 Lib.Math.abs.name, Cond.static Lib.Math.abs.name, Cond.initialized "java/lang/Math", Cond.code Lib.Math.abs.name Lib.Math.abs.code 1 (some .int), Cond.methodLink RX3 36 yX3_allStakes, Cond.instanceMethod yX3_allStakes, Cond.selects RX3 yX3_allStakes yX3_allStakes, Cond.code yX3_allStakes cX3_allStakes 3 (some .int), Cond.fieldLink RX3 15 "IceLanes$Wagers" "stake" "[I"]
def wsX4_wins : List Cond := .code yX4_wins cX4_wins 2 (some .int) :: ((wsX4_wins_r1 ++ wsX4_wins_r2) ++ wsX40 ++ wsX30 ++ wsX20 ++ (vx_atS RX4 34 "java/lang/IndexOutOfBoundsException" ["java/lang/RuntimeException", "java/lang/Exception"]).filter goodWord)
def wsX4_pass_r1 : List Cond := [Cond.classLink RX4 37 "java/lang/IllegalArgumentException", Cond.initialized "java/lang/IllegalArgumentException", Cond.fieldLink RX4 12 "IceLanes" "river" "LIceLanes$River;", Cond.methodLink RX4 26 yX4_isWithin, Cond.static yX4_isWithin, Cond.initialized RX4, Cond.code yX4_isWithin cX4_isWithin 3 (some .boolean), Cond.instanceMethod yX2_spendHour, Cond.initialized RX2, Cond.selects RX2 yX2_spendHour yX2_spendHour, Cond.code yX2_spendHour cX2_spendHour 4 (some .int), Cond.fieldLink RX2 36 "IceLanes$River" "hour" "I", Cond.fieldLink RX2 25 "IceLanes$River" "ice" "LIceLanes$Ice;", Cond.fieldLink RX2 15 "IceLanes$River" "warm" "[I", Cond.fieldLink RX2 9 "IceLanes$River" "thawDay" "I", Cond.fieldLink RX2 32 "IceLanes$River" "couriers" "LIceLanes$Couriers;", Cond.methodLink RX2 65 yJ9_floorMod_7cf53, Cond.static yJ9_floorMod_7cf53, Cond.initialized RJ9, Cond.code yJ9_floorMod_7cf53 cJ9_floorMod_7cf53 3 (some .int), Cond.instanceMethod yX1_meetDay, Cond.initialized RX1, Cond.selects RX1 yX1_meetDay yX1_meetDay, Cond.code yX1_meetDay cX1_meetDay 4 none]
def wsX4_pass_r2 : List Cond := [Cond.fieldLink RX1 9 "IceLanes$Ice" "thickness" "[I", Cond.methodLink RX1 39 Lib.Math.min.name, Cond.static Lib.Math.min.name, Cond.initialized "java/lang/Math", Cond.code Lib.Math.min.name Lib.Math.min.code 2 (some .int), Cond.methodLink RX1 31 Lib.Math.max.name, Cond.static Lib.Math.max.name, Cond.code Lib.Math.max.name Lib.Math.max.code 2 (some .int), Cond.fieldLink RX1 15 "IceLanes$Ice" "cracks" "[I", Cond.methodLink RX2 75 yX2_hasThawed, Cond.instanceMethod yX2_hasThawed, Cond.selects RX2 yX2_hasThawed yX2_hasThawed, Cond.code yX2_hasThawed cX2_hasThawed 1 (some .boolean), Cond.instanceMethod yX1_isOpenAcross, Cond.selects RX1 yX1_isOpenAcross yX1_isOpenAcross, Cond.code yX1_isOpenAcross cX1_isOpenAcross 4 (some .boolean), Cond.static yX4_placeOf, Cond.code yX4_placeOf cX4_placeOf 2 (some .int), Cond.methodLink RX2 85 yX2_travels, Cond.instanceMethod yX2_travels, Cond.selects RX2 yX2_travels yX2_travels, Cond.code yX2_travels cX2_travels 3 (some .boolean), Cond.methodLink RX2 98 yX2_step, Cond.instanceMethod yX2_step]
def wsX4_pass_r3 : List Cond := [Cond.selects RX2 yX2_step yX2_step, Cond.code yX2_step cX2_step 5 none, Cond.instanceMethod yX0_loadOf, Cond.initialized RX0, Cond.selects RX0 yX0_loadOf yX0_loadOf, Cond.code yX0_loadOf cX0_loadOf 2 (some .int), Cond.fieldLink RX0 9 "IceLanes$Couriers" "weight" "[I", Cond.fieldLink RX0 15 "IceLanes$Couriers" "letters" "[I", Cond.instanceMethod yX0_nextSection, Cond.selects RX0 yX0_nextSection yX0_nextSection, Cond.code yX0_nextSection cX0_nextSection 2 (some .int), Cond.fieldLink RX0 21 "IceLanes$Couriers" "section" "[I", Cond.fieldLink RX0 27 "IceLanes$Couriers" "goal" "[I", Cond.methodLink RX0 53 yX0_isAtGoal, Cond.instanceMethod yX0_isAtGoal, Cond.selects RX0 yX0_isAtGoal yX0_isAtGoal, Cond.code yX0_isAtGoal cX0_isAtGoal 2 (some .boolean), Cond.instanceMethod yX1_laneFor, Cond.selects RX1 yX1_laneFor yX1_laneFor, Cond.code yX1_laneFor cX1_laneFor 9 (some .int), Cond.methodLink RX1 28 yX1_soundness, Cond.instanceMethod yX1_soundness, Cond.selects RX1 yX1_soundness yX1_soundness, Cond.code yX1_soundness cX1_soundness 4 (some .int)]
def wsX4_pass_r4 : List Cond := [Cond.instanceMethod yX1_withstands, Cond.selects RX1 yX1_withstands yX1_withstands, Cond.code yX1_withstands cX1_withstands 5 (some .boolean), Cond.methodLink RX2 89 yX2_rest, Cond.instanceMethod yX2_rest, Cond.selects RX2 yX2_rest yX2_rest, Cond.code yX2_rest cX2_rest 4 none, Cond.fieldLink RX2 19 "IceLanes$River" "hut" "[I", Cond.methodLink RX2 127 Lib.Math.min.name]
def wsX4_pass : List Cond := .code yX4_pass cX4_pass 4 (some .int) :: ((wsX4_pass_r1 ++ (wsX4_pass_r2 ++ (wsX4_pass_r3 ++ wsX4_pass_r4))) ++ wsX40 ++ wsX20 ++ wsX00 ++ wsX10 ++ (vx_atS RX4 41 "java/lang/IllegalArgumentException" ["java/lang/RuntimeException", "java/lang/Exception"]).filter goodWord)
def wsX4_counted_r1 : List Cond := [Cond.fieldLink RX4 12 "IceLanes" "river" "LIceLanes$River;", Cond.fieldLink RX4 22 "IceLanes" "wagers" "LIceLanes$Wagers;", Cond.instanceMethod yX0_numberWhose, Cond.initialized RX0, Cond.selects RX0 yX0_numberWhose yX0_numberWhose, Cond.code yX0_numberWhose cX0_numberWhose 4 (some .int), Cond.fieldLink RX0 39 "IceLanes$Couriers" "number" "I", Cond.fieldLink RX0 30 "IceLanes$Couriers" "state" "[I", Cond.instanceMethod yX1_cracksInAll, Cond.initialized RX1, Cond.selects RX1 yX1_cracksInAll yX1_cracksInAll, Cond.code yX1_cracksInAll cX1_cracksInAll 3 (some .int), Cond.fieldLink RX1 15 "IceLanes$Ice" "cracks" "[I", Cond.instanceMethod yX1_placesOfOpenWater, Cond.selects RX1 yX1_placesOfOpenWater yX1_placesOfOpenWater, Cond.code yX1_placesOfOpenWater cX1_placesOfOpenWater 3 (some .int), Cond.fieldLink RX1 9 "IceLanes$Ice" "thickness" "[I", Cond.instanceMethod yX2_huts, Cond.initialized RX2, Cond.selects RX2 yX2_huts yX2_huts, Cond.code yX2_huts cX2_huts 3 (some .int), Cond.fieldLink RX2 19 "IceLanes$River" "hut" "[I", Cond.instanceMethod yX3_allStakes, Cond.initialized RX3]
def wsX4_counted_r2 : List Cond := [Cond.selects RX3 yX3_allStakes yX3_allStakes, Cond.code yX3_allStakes cX3_allStakes 3 (some .int), Cond.fieldLink RX3 18 "IceLanes$Wagers" "number" "I", Cond.fieldLink RX3 15 "IceLanes$Wagers" "stake" "[I"]
def wsX4_counted : List Cond := .code yX4_counted cX4_counted 2 (some .int) :: ((wsX4_counted_r1 ++ wsX4_counted_r2) ++ wsX40 ++ wsX20 ++ wsX00 ++ wsX30 ++ wsX10)
def wsX4_count_r1 : List Cond := [Cond.classLink RX4 30 "java/lang/IndexOutOfBoundsException", Cond.initialized "java/lang/IndexOutOfBoundsException", Cond.methodLink RX4 26 yX4_isWithin, Cond.static yX4_isWithin, Cond.initialized RX4, Cond.code yX4_isWithin cX4_isWithin 3 (some .boolean), Cond.methodLink RX4 184 yX4_counted, Cond.instanceMethod yX4_counted, Cond.selects RX4 yX4_counted yX4_counted, Cond.code yX4_counted cX4_counted 2 (some .int), Cond.fieldLink RX4 12 "IceLanes" "river" "LIceLanes$River;", Cond.fieldLink RX4 22 "IceLanes" "wagers" "LIceLanes$Wagers;", Cond.instanceMethod yX0_numberWhose, Cond.initialized RX0, Cond.selects RX0 yX0_numberWhose yX0_numberWhose, Cond.code yX0_numberWhose cX0_numberWhose 4 (some .int), Cond.fieldLink RX0 39 "IceLanes$Couriers" "number" "I", Cond.fieldLink RX0 30 "IceLanes$Couriers" "state" "[I", Cond.instanceMethod yX1_cracksInAll, Cond.initialized RX1, Cond.selects RX1 yX1_cracksInAll yX1_cracksInAll, Cond.code yX1_cracksInAll cX1_cracksInAll 3 (some .int), Cond.fieldLink RX1 15 "IceLanes$Ice" "cracks" "[I", Cond.instanceMethod yX1_placesOfOpenWater]
def wsX4_count_r2 : List Cond := [Cond.selects RX1 yX1_placesOfOpenWater yX1_placesOfOpenWater, Cond.code yX1_placesOfOpenWater cX1_placesOfOpenWater 3 (some .int), Cond.fieldLink RX1 9 "IceLanes$Ice" "thickness" "[I", Cond.instanceMethod yX2_huts, Cond.initialized RX2, Cond.selects RX2 yX2_huts yX2_huts, Cond.code yX2_huts cX2_huts 3 (some .int), Cond.fieldLink RX2 19 "IceLanes$River" "hut" "[I", Cond.instanceMethod yX3_allStakes, Cond.initialized RX3, Cond.selects RX3 yX3_allStakes yX3_allStakes, Cond.code yX3_allStakes cX3_allStakes 3 (some .int), Cond.fieldLink RX3 18 "IceLanes$Wagers" "number" "I", Cond.fieldLink RX3 15 "IceLanes$Wagers" "stake" "[I"]
def wsX4_count : List Cond := .code yX4_count cX4_count 2 (some .int) :: ((wsX4_count_r1 ++ wsX4_count_r2) ++ wsX40 ++ wsX20 ++ wsX00 ++ wsX30 ++ wsX10 ++ (vx_atS RX4 34 "java/lang/IndexOutOfBoundsException" ["java/lang/RuntimeException", "java/lang/Exception"]).filter goodWord)
def wsX4_bears_r1 : List Cond := [Cond.classLink RX4 30 "java/lang/IndexOutOfBoundsException", Cond.initialized "java/lang/IndexOutOfBoundsException", Cond.fieldLink RX4 12 "IceLanes" "river" "LIceLanes$River;", Cond.methodLink RX4 187 Lib.Math.min.name, Cond.static Lib.Math.min.name, Cond.initialized "java/lang/Math", Cond.code Lib.Math.min.name Lib.Math.min.code 2 (some .int), Cond.methodLink RX4 190 Lib.Math.max.name, Cond.static Lib.Math.max.name, Cond.code Lib.Math.max.name Lib.Math.max.code 2 (some .int), Cond.methodLink RX4 67 yX4_isSection, Cond.static yX4_isSection, Cond.initialized RX4, Cond.code yX4_isSection cX4_isSection 1 (some .boolean), Cond.methodLink RX4 26 yX4_isWithin, Cond.static yX4_isWithin, Cond.code yX4_isWithin cX4_isWithin 3 (some .boolean), Cond.instanceMethod yX1_mostBorneBetween, Cond.initialized RX1, Cond.selects RX1 yX1_mostBorneBetween yX1_mostBorneBetween, Cond.code yX1_mostBorneBetween cX1_mostBorneBetween 9 (some .int), Cond.methodLink RX1 31 Lib.Math.max.name, Cond.methodLink RX1 39 Lib.Math.min.name, Cond.methodLink RX1 36 yX1_mostBorneAt]
def wsX4_bears_r2 : List Cond := [Cond.instanceMethod yX1_mostBorneAt, Cond.selects RX1 yX1_mostBorneAt yX1_mostBorneAt, Cond.code yX1_mostBorneAt cX1_mostBorneAt 3 (some .int), Cond.methodLink RX1 28 yX1_soundness, Cond.instanceMethod yX1_soundness, Cond.selects RX1 yX1_soundness yX1_soundness, Cond.code yX1_soundness cX1_soundness 4 (some .int), Cond.fieldLink RX1 9 "IceLanes$Ice" "thickness" "[I", Cond.fieldLink RX1 15 "IceLanes$Ice" "cracks" "[I", Cond.static yX4_placeOf, Cond.code yX4_placeOf cX4_placeOf 2 (some .int)]
def wsX4_bears : List Cond := .code yX4_bears cX4_bears 3 (some .int) :: ((wsX4_bears_r1 ++ wsX4_bears_r2) ++ wsX40 ++ wsX20 ++ wsX10 ++ (vx_atS RX4 34 "java/lang/IndexOutOfBoundsException" ["java/lang/RuntimeException", "java/lang/Exception"]).filter goodWord)
def wsX4_arrives_r1 : List Cond := [Cond.classLink RX4 30 "java/lang/IndexOutOfBoundsException", Cond.initialized "java/lang/IndexOutOfBoundsException", Cond.fieldLink RX4 12 "IceLanes" "river" "LIceLanes$River;", Cond.fieldLink RX4 16 "IceLanes" "ahead" "LIceLanes$River;", Cond.instanceMethod yX0_has, Cond.initialized RX0, Cond.selects RX0 yX0_has yX0_has, Cond.code yX0_has cX0_has 2 (some .boolean), Cond.fieldLink RX0 39 "IceLanes$Couriers" "number" "I", Cond.static yX4_isWithin, Cond.initialized RX4, Cond.code yX4_isWithin cX4_isWithin 3 (some .boolean), Cond.instanceMethod yX2_become, Cond.initialized RX2, Cond.selects RX2 yX2_become yX2_become, Cond.code yX2_become cX2_become 2 none, Cond.fieldLink RX2 36 "IceLanes$River" "hour" "I", Cond.fieldLink RX2 9 "IceLanes$River" "thawDay" "I", Cond.fieldLink RX2 15 "IceLanes$River" "warm" "[I", Cond.methodLink RX2 39 arraycopyName, Cond.native arraycopyName, Cond.static arraycopyName, Cond.initialized "java/lang/System", Cond.fieldLink RX2 19 "IceLanes$River" "hut" "[I"]
def wsX4_arrives_r2 : List Cond := [Cond.fieldLink RX2 25 "IceLanes$River" "ice" "LIceLanes$Ice;", Cond.fieldLink RX2 32 "IceLanes$River" "couriers" "LIceLanes$Couriers;", Cond.instanceMethod yX1_become, Cond.initialized RX1, Cond.selects RX1 yX1_become yX1_become, Cond.code yX1_become cX1_become 2 none, Cond.fieldLink RX1 9 "IceLanes$Ice" "thickness" "[I", Cond.methodLink RX1 18 arraycopyName, Cond.fieldLink RX1 15 "IceLanes$Ice" "cracks" "[I", Cond.instanceMethod yX0_become, Cond.selects RX0 yX0_become yX0_become, Cond.code yX0_become cX0_become 2 none, Cond.fieldLink RX0 9 "IceLanes$Couriers" "weight" "[I", Cond.methodLink RX0 43 arraycopyName, Cond.fieldLink RX0 15 "IceLanes$Couriers" "letters" "[I", Cond.fieldLink RX0 18 "IceLanes$Couriers" "strength" "[I", Cond.fieldLink RX0 21 "IceLanes$Couriers" "section" "[I", Cond.fieldLink RX0 24 "IceLanes$Couriers" "lane" "[I", Cond.fieldLink RX0 27 "IceLanes$Couriers" "goal" "[I", Cond.fieldLink RX0 30 "IceLanes$Couriers" "state" "[I", Cond.fieldLink RX0 33 "IceLanes$Couriers" "steps" "[I", Cond.fieldLink RX0 36 "IceLanes$Couriers" "pace" "[I", Cond.instanceMethod yX2_hoursTillArrival, Cond.selects RX2 yX2_hoursTillArrival yX2_hoursTillArrival]
def wsX4_arrives_r3 : List Cond := [Cond.code yX2_hoursTillArrival cX2_hoursTillArrival 3 (some .int), Cond.instanceMethod yX0_isAtGoal, Cond.selects RX0 yX0_isAtGoal yX0_isAtGoal, Cond.code yX0_isAtGoal cX0_isAtGoal 2 (some .boolean), Cond.methodLink RX2 130 yX2_spendHour, Cond.instanceMethod yX2_spendHour, Cond.selects RX2 yX2_spendHour yX2_spendHour, Cond.code yX2_spendHour cX2_spendHour 4 (some .int), Cond.methodLink RX2 65 yJ9_floorMod_7cf53, Cond.static yJ9_floorMod_7cf53, Cond.initialized RJ9, Cond.code yJ9_floorMod_7cf53 cJ9_floorMod_7cf53 3 (some .int), Cond.instanceMethod yX1_meetDay, Cond.selects RX1 yX1_meetDay yX1_meetDay, Cond.code yX1_meetDay cX1_meetDay 4 none, Cond.methodLink RX1 39 Lib.Math.min.name, Cond.static Lib.Math.min.name, Cond.initialized "java/lang/Math", Cond.code Lib.Math.min.name Lib.Math.min.code 2 (some .int), Cond.methodLink RX1 31 Lib.Math.max.name, Cond.static Lib.Math.max.name, Cond.code Lib.Math.max.name Lib.Math.max.code 2 (some .int), Cond.methodLink RX2 75 yX2_hasThawed, Cond.instanceMethod yX2_hasThawed]
def wsX4_arrives_r4 : List Cond := [Cond.selects RX2 yX2_hasThawed yX2_hasThawed, Cond.code yX2_hasThawed cX2_hasThawed 1 (some .boolean), Cond.instanceMethod yX1_isOpenAcross, Cond.selects RX1 yX1_isOpenAcross yX1_isOpenAcross, Cond.code yX1_isOpenAcross cX1_isOpenAcross 4 (some .boolean), Cond.static yX4_placeOf, Cond.code yX4_placeOf cX4_placeOf 2 (some .int), Cond.methodLink RX2 85 yX2_travels, Cond.instanceMethod yX2_travels, Cond.selects RX2 yX2_travels yX2_travels, Cond.code yX2_travels cX2_travels 3 (some .boolean), Cond.methodLink RX2 98 yX2_step, Cond.instanceMethod yX2_step, Cond.selects RX2 yX2_step yX2_step, Cond.code yX2_step cX2_step 5 none, Cond.instanceMethod yX0_loadOf, Cond.selects RX0 yX0_loadOf yX0_loadOf, Cond.code yX0_loadOf cX0_loadOf 2 (some .int), Cond.instanceMethod yX0_nextSection, Cond.selects RX0 yX0_nextSection yX0_nextSection, Cond.code yX0_nextSection cX0_nextSection 2 (some .int), Cond.methodLink RX0 53 yX0_isAtGoal, Cond.instanceMethod yX1_laneFor, Cond.selects RX1 yX1_laneFor yX1_laneFor]
def wsX4_arrives_r5 : List Cond := [Cond.code yX1_laneFor cX1_laneFor 9 (some .int), Cond.methodLink RX1 28 yX1_soundness, Cond.instanceMethod yX1_soundness, Cond.selects RX1 yX1_soundness yX1_soundness, Cond.code yX1_soundness cX1_soundness 4 (some .int), Cond.instanceMethod yX1_withstands, Cond.selects RX1 yX1_withstands yX1_withstands, Cond.code yX1_withstands cX1_withstands 5 (some .boolean), Cond.methodLink RX2 89 yX2_rest, Cond.instanceMethod yX2_rest, Cond.selects RX2 yX2_rest yX2_rest, Cond.code yX2_rest cX2_rest 4 none, Cond.methodLink RX2 127 Lib.Math.min.name]
def wsX4_arrives : List Cond := .code yX4_arrives cX4_arrives 2 (some .int) :: ((wsX4_arrives_r1 ++ (wsX4_arrives_r2 ++ (wsX4_arrives_r3 ++ (wsX4_arrives_r4 ++ wsX4_arrives_r5)))) ++ wsX40 ++ wsX20 ++ wsX00 ++ wsX10 ++ (vx_atS RX4 34 "java/lang/IndexOutOfBoundsException" ["java/lang/RuntimeException", "java/lang/Exception"]).filter goodWord)
def wsX4_best_r1 : List Cond := [Cond.classLink RX4 30 "java/lang/IndexOutOfBoundsException", Cond.initialized "java/lang/IndexOutOfBoundsException", Cond.fieldLink RX4 12 "IceLanes" "river" "LIceLanes$River;", Cond.fieldLink RX4 16 "IceLanes" "ahead" "LIceLanes$River;", Cond.instanceMethod yX0_has, Cond.initialized RX0, Cond.selects RX0 yX0_has yX0_has, Cond.code yX0_has cX0_has 2 (some .boolean), Cond.fieldLink RX0 39 "IceLanes$Couriers" "number" "I", Cond.static yX4_isWithin, Cond.initialized RX4, Cond.code yX4_isWithin cX4_isWithin 3 (some .boolean), Cond.instanceMethod yX2_become, Cond.initialized RX2, Cond.selects RX2 yX2_become yX2_become, Cond.code yX2_become cX2_become 2 none, Cond.fieldLink RX2 36 "IceLanes$River" "hour" "I", Cond.fieldLink RX2 9 "IceLanes$River" "thawDay" "I", Cond.fieldLink RX2 15 "IceLanes$River" "warm" "[I", Cond.methodLink RX2 39 arraycopyName, Cond.native arraycopyName, Cond.static arraycopyName, Cond.initialized "java/lang/System", Cond.fieldLink RX2 19 "IceLanes$River" "hut" "[I"]
def wsX4_best_r2 : List Cond := [Cond.fieldLink RX2 25 "IceLanes$River" "ice" "LIceLanes$Ice;", Cond.fieldLink RX2 32 "IceLanes$River" "couriers" "LIceLanes$Couriers;", Cond.instanceMethod yX1_become, Cond.initialized RX1, Cond.selects RX1 yX1_become yX1_become, Cond.code yX1_become cX1_become 2 none, Cond.fieldLink RX1 9 "IceLanes$Ice" "thickness" "[I", Cond.methodLink RX1 18 arraycopyName, Cond.fieldLink RX1 15 "IceLanes$Ice" "cracks" "[I", Cond.instanceMethod yX0_become, Cond.selects RX0 yX0_become yX0_become, Cond.code yX0_become cX0_become 2 none, Cond.fieldLink RX0 9 "IceLanes$Couriers" "weight" "[I", Cond.methodLink RX0 43 arraycopyName, Cond.fieldLink RX0 15 "IceLanes$Couriers" "letters" "[I", Cond.fieldLink RX0 18 "IceLanes$Couriers" "strength" "[I", Cond.fieldLink RX0 21 "IceLanes$Couriers" "section" "[I", Cond.fieldLink RX0 24 "IceLanes$Couriers" "lane" "[I", Cond.fieldLink RX0 27 "IceLanes$Couriers" "goal" "[I", Cond.fieldLink RX0 30 "IceLanes$Couriers" "state" "[I", Cond.fieldLink RX0 33 "IceLanes$Couriers" "steps" "[I", Cond.fieldLink RX0 36 "IceLanes$Couriers" "pace" "[I", Cond.instanceMethod yX2_hoursTillArrival, Cond.selects RX2 yX2_hoursTillArrival yX2_hoursTillArrival]
def wsX4_best_r3 : List Cond := [Cond.code yX2_hoursTillArrival cX2_hoursTillArrival 3 (some .int), Cond.instanceMethod yX0_isAtGoal, Cond.selects RX0 yX0_isAtGoal yX0_isAtGoal, Cond.code yX0_isAtGoal cX0_isAtGoal 2 (some .boolean), Cond.methodLink RX2 130 yX2_spendHour, Cond.instanceMethod yX2_spendHour, Cond.selects RX2 yX2_spendHour yX2_spendHour, Cond.code yX2_spendHour cX2_spendHour 4 (some .int), Cond.methodLink RX2 65 yJ9_floorMod_7cf53, Cond.static yJ9_floorMod_7cf53, Cond.initialized RJ9, Cond.code yJ9_floorMod_7cf53 cJ9_floorMod_7cf53 3 (some .int), Cond.instanceMethod yX1_meetDay, Cond.selects RX1 yX1_meetDay yX1_meetDay, Cond.code yX1_meetDay cX1_meetDay 4 none, Cond.methodLink RX1 39 Lib.Math.min.name, Cond.static Lib.Math.min.name, Cond.initialized "java/lang/Math", Cond.code Lib.Math.min.name Lib.Math.min.code 2 (some .int), Cond.methodLink RX1 31 Lib.Math.max.name, Cond.static Lib.Math.max.name, Cond.code Lib.Math.max.name Lib.Math.max.code 2 (some .int), Cond.methodLink RX2 75 yX2_hasThawed, Cond.instanceMethod yX2_hasThawed]
def wsX4_best_r4 : List Cond := [Cond.selects RX2 yX2_hasThawed yX2_hasThawed, Cond.code yX2_hasThawed cX2_hasThawed 1 (some .boolean), Cond.instanceMethod yX1_isOpenAcross, Cond.selects RX1 yX1_isOpenAcross yX1_isOpenAcross, Cond.code yX1_isOpenAcross cX1_isOpenAcross 4 (some .boolean), Cond.static yX4_placeOf, Cond.code yX4_placeOf cX4_placeOf 2 (some .int), Cond.methodLink RX2 85 yX2_travels, Cond.instanceMethod yX2_travels, Cond.selects RX2 yX2_travels yX2_travels, Cond.code yX2_travels cX2_travels 3 (some .boolean), Cond.methodLink RX2 98 yX2_step, Cond.instanceMethod yX2_step, Cond.selects RX2 yX2_step yX2_step, Cond.code yX2_step cX2_step 5 none, Cond.instanceMethod yX0_loadOf, Cond.selects RX0 yX0_loadOf yX0_loadOf, Cond.code yX0_loadOf cX0_loadOf 2 (some .int), Cond.instanceMethod yX0_nextSection, Cond.selects RX0 yX0_nextSection yX0_nextSection, Cond.code yX0_nextSection cX0_nextSection 2 (some .int), Cond.methodLink RX0 53 yX0_isAtGoal, Cond.instanceMethod yX1_laneFor, Cond.selects RX1 yX1_laneFor yX1_laneFor]
def wsX4_best_r5 : List Cond := [Cond.code yX1_laneFor cX1_laneFor 9 (some .int), Cond.methodLink RX1 28 yX1_soundness, Cond.instanceMethod yX1_soundness, Cond.selects RX1 yX1_soundness yX1_soundness, Cond.code yX1_soundness cX1_soundness 4 (some .int), Cond.instanceMethod yX1_withstands, Cond.selects RX1 yX1_withstands yX1_withstands, Cond.code yX1_withstands cX1_withstands 5 (some .boolean), Cond.methodLink RX2 89 yX2_rest, Cond.instanceMethod yX2_rest, Cond.selects RX2 yX2_rest yX2_rest, Cond.code yX2_rest cX2_rest 4 none, Cond.methodLink RX2 127 Lib.Math.min.name]
def wsX4_best : List Cond := .code yX4_best cX4_best 3 (some .int) :: ((wsX4_best_r1 ++ (wsX4_best_r2 ++ (wsX4_best_r3 ++ (wsX4_best_r4 ++ wsX4_best_r5)))) ++ wsX40 ++ wsX20 ++ wsX00 ++ wsX10 ++ (vx_atS RX4 34 "java/lang/IndexOutOfBoundsException" ["java/lang/RuntimeException", "java/lang/Exception"]).filter goodWord)
def wsX4_thaw_r1 : List Cond := [Cond.fieldLink RX4 12 "IceLanes" "river" "LIceLanes$River;", Cond.fieldLink RX4 16 "IceLanes" "ahead" "LIceLanes$River;", Cond.instanceMethod yX2_hasThawed, Cond.initialized RX2, Cond.selects RX2 yX2_hasThawed yX2_hasThawed, Cond.code yX2_hasThawed cX2_hasThawed 1 (some .boolean), Cond.fieldLink RX2 9 "IceLanes$River" "thawDay" "I", Cond.instanceMethod yX2_become, Cond.selects RX2 yX2_become yX2_become, Cond.code yX2_become cX2_become 2 none, Cond.fieldLink RX2 36 "IceLanes$River" "hour" "I", Cond.fieldLink RX2 15 "IceLanes$River" "warm" "[I", Cond.methodLink RX2 39 arraycopyName, Cond.native arraycopyName, Cond.static arraycopyName, Cond.initialized "java/lang/System", Cond.fieldLink RX2 19 "IceLanes$River" "hut" "[I", Cond.fieldLink RX2 25 "IceLanes$River" "ice" "LIceLanes$Ice;", Cond.fieldLink RX2 32 "IceLanes$River" "couriers" "LIceLanes$Couriers;", Cond.instanceMethod yX1_become, Cond.initialized RX1, Cond.selects RX1 yX1_become yX1_become, Cond.code yX1_become cX1_become 2 none, Cond.fieldLink RX1 9 "IceLanes$Ice" "thickness" "[I"]
def wsX4_thaw_r2 : List Cond := [Cond.methodLink RX1 18 arraycopyName, Cond.fieldLink RX1 15 "IceLanes$Ice" "cracks" "[I", Cond.instanceMethod yX0_become, Cond.initialized RX0, Cond.selects RX0 yX0_become yX0_become, Cond.code yX0_become cX0_become 2 none, Cond.fieldLink RX0 39 "IceLanes$Couriers" "number" "I", Cond.fieldLink RX0 9 "IceLanes$Couriers" "weight" "[I", Cond.methodLink RX0 43 arraycopyName, Cond.fieldLink RX0 15 "IceLanes$Couriers" "letters" "[I", Cond.fieldLink RX0 18 "IceLanes$Couriers" "strength" "[I", Cond.fieldLink RX0 21 "IceLanes$Couriers" "section" "[I", Cond.fieldLink RX0 24 "IceLanes$Couriers" "lane" "[I", Cond.fieldLink RX0 27 "IceLanes$Couriers" "goal" "[I", Cond.fieldLink RX0 30 "IceLanes$Couriers" "state" "[I", Cond.fieldLink RX0 33 "IceLanes$Couriers" "steps" "[I", Cond.fieldLink RX0 36 "IceLanes$Couriers" "pace" "[I", Cond.instanceMethod yX2_dayOfThaw, Cond.selects RX2 yX2_dayOfThaw yX2_dayOfThaw, Cond.code yX2_dayOfThaw cX2_dayOfThaw 2 (some .int), Cond.methodLink RX2 75 yX2_hasThawed, Cond.methodLink RX2 130 yX2_spendHour, Cond.instanceMethod yX2_spendHour, Cond.selects RX2 yX2_spendHour yX2_spendHour]
def wsX4_thaw_r3 : List Cond := [Cond.code yX2_spendHour cX2_spendHour 4 (some .int), Cond.methodLink RX2 65 yJ9_floorMod_7cf53, Cond.static yJ9_floorMod_7cf53, Cond.initialized RJ9, Cond.code yJ9_floorMod_7cf53 cJ9_floorMod_7cf53 3 (some .int), Cond.instanceMethod yX1_meetDay, Cond.selects RX1 yX1_meetDay yX1_meetDay, Cond.code yX1_meetDay cX1_meetDay 4 none, Cond.methodLink RX1 39 Lib.Math.min.name, Cond.static Lib.Math.min.name, Cond.initialized "java/lang/Math", Cond.code Lib.Math.min.name Lib.Math.min.code 2 (some .int), Cond.methodLink RX1 31 Lib.Math.max.name, Cond.static Lib.Math.max.name, Cond.code Lib.Math.max.name Lib.Math.max.code 2 (some .int), Cond.instanceMethod yX1_isOpenAcross, Cond.selects RX1 yX1_isOpenAcross yX1_isOpenAcross, Cond.code yX1_isOpenAcross cX1_isOpenAcross 4 (some .boolean), Cond.static yX4_placeOf, Cond.initialized RX4, Cond.code yX4_placeOf cX4_placeOf 2 (some .int), Cond.methodLink RX2 85 yX2_travels, Cond.instanceMethod yX2_travels, Cond.selects RX2 yX2_travels yX2_travels]
def wsX4_thaw_r4 : List Cond := [Cond.code yX2_travels cX2_travels 3 (some .boolean), Cond.methodLink RX2 98 yX2_step, Cond.instanceMethod yX2_step, Cond.selects RX2 yX2_step yX2_step, Cond.code yX2_step cX2_step 5 none, Cond.instanceMethod yX0_loadOf, Cond.selects RX0 yX0_loadOf yX0_loadOf, Cond.code yX0_loadOf cX0_loadOf 2 (some .int), Cond.instanceMethod yX0_nextSection, Cond.selects RX0 yX0_nextSection yX0_nextSection, Cond.code yX0_nextSection cX0_nextSection 2 (some .int), Cond.methodLink RX0 53 yX0_isAtGoal, Cond.instanceMethod yX0_isAtGoal, Cond.selects RX0 yX0_isAtGoal yX0_isAtGoal, Cond.code yX0_isAtGoal cX0_isAtGoal 2 (some .boolean), Cond.instanceMethod yX1_laneFor, Cond.selects RX1 yX1_laneFor yX1_laneFor, Cond.code yX1_laneFor cX1_laneFor 9 (some .int), Cond.methodLink RX1 28 yX1_soundness, Cond.instanceMethod yX1_soundness, Cond.selects RX1 yX1_soundness yX1_soundness, Cond.code yX1_soundness cX1_soundness 4 (some .int), Cond.instanceMethod yX1_withstands, Cond.selects RX1 yX1_withstands yX1_withstands]
def wsX4_thaw_r5 : List Cond := [Cond.code yX1_withstands cX1_withstands 5 (some .boolean), Cond.methodLink RX2 89 yX2_rest, Cond.instanceMethod yX2_rest, Cond.selects RX2 yX2_rest yX2_rest, Cond.code yX2_rest cX2_rest 4 none, Cond.methodLink RX2 127 Lib.Math.min.name]
def wsX4_thaw : List Cond := .code yX4_thaw cX4_thaw 1 (some .int) :: ((wsX4_thaw_r1 ++ (wsX4_thaw_r2 ++ (wsX4_thaw_r3 ++ (wsX4_thaw_r4 ++ wsX4_thaw_r5)))) ++ wsX40 ++ wsX20 ++ wsX10 ++ wsX00)
def wsX4_mean : List Cond := .code yX4_mean cX4_mean 1 (some .double) :: ([.fieldLink RX4 12 "IceLanes" "river" "LIceLanes$River;", .constantDouble RX4 212 (4630263366890291200), .instanceMethod yX1_inAll, .initialized RX1, .selects RX1 yX1_inAll yX1_inAll, .code yX1_inAll cX1_inAll 3 (some .int), .fieldLink RX1 9 "IceLanes$Ice" "thickness" "[I"] ++ wsX40 ++ wsX20 ++ wsX10)
def wsX4_mixed : List Cond := .code yX4_mixed cX4_mixed 3 (some .long) :: ([.constantLong RX4 254 (31)])
def wsX4_mixedWithRiver : List Cond := .code yX4_mixedWithRiver cX4_mixedWithRiver 6 (some .long) :: ([.fieldLink RX4 12 "IceLanes" "river" "LIceLanes$River;", .methodLink RX4 216 yX4_mixed, .static yX4_mixed, .initialized RX4, .code yX4_mixed cX4_mixed 3 (some .long), .constantLong RX4 254 (31)] ++ wsX40 ++ wsX20 ++ wsX10)
def wsX4_mixedWithCouriers : List Cond := .code yX4_mixedWithCouriers cX4_mixedWithCouriers 7 (some .long) :: ([.fieldLink RX4 12 "IceLanes" "river" "LIceLanes$River;", .instanceMethod yX0_tell, .initialized RX0, .selects RX0 yX0_tell yX0_tell, .code yX0_tell cX0_tell 3 (some .int), .fieldLink RX0 9 "IceLanes$Couriers" "weight" "[I", .fieldLink RX0 15 "IceLanes$Couriers" "letters" "[I", .fieldLink RX0 18 "IceLanes$Couriers" "strength" "[I", .fieldLink RX0 21 "IceLanes$Couriers" "section" "[I", .fieldLink RX0 24 "IceLanes$Couriers" "lane" "[I", .fieldLink RX0 27 "IceLanes$Couriers" "goal" "[I", .fieldLink RX0 30 "IceLanes$Couriers" "state" "[I", .fieldLink RX0 33 "IceLanes$Couriers" "steps" "[I", .fieldLink RX0 36 "IceLanes$Couriers" "pace" "[I", .methodLink RX4 216 yX4_mixed, .static yX4_mixed, .initialized RX4, .code yX4_mixed cX4_mixed 3 (some .long), .constantLong RX4 254 (31)] ++ wsX40 ++ wsX20 ++ wsX00)
def wsX4_mixedWithWagers_r1 : List Cond := [Cond.fieldLink RX4 22 "IceLanes" "wagers" "LIceLanes$Wagers;", Cond.methodLink RX4 216 yX4_mixed, Cond.static yX4_mixed, Cond.initialized RX4, Cond.code yX4_mixed cX4_mixed 3 (some .long), Cond.constantLong RX4 254 (31), Cond.methodLink RX4 174 yX4_winOf, Cond.instanceMethod yX4_winOf, Cond.selects RX4 yX4_winOf yX4_winOf, Cond.code yX4_winOf cX4_winOf 2 (some .int), Cond.fieldLink RX4 12 "IceLanes" "river" "LIceLanes$River;", Cond.instanceMethod yX2_hasThawed, Cond.initialized RX2, Cond.selects RX2 yX2_hasThawed yX2_hasThawed, Cond.code yX2_hasThawed cX2_hasThawed 1 (some .boolean), Cond.fieldLink RX2 9 "IceLanes$River" "thawDay" "I", Cond.instanceMethod yX3_winOn, Cond.initialized RX3, Cond.selects RX3 yX3_winOn yX3_winOn, Cond.code yX3_winOn cX3_winOn 7 (some .int), Cond.fieldLink RX3 18 "IceLanes$Wagers" "number" "I", Cond.methodLink RX3 32 yX3_daysBeside, Cond.instanceMethod yX3_daysBeside, Cond.selects RX3 yX3_daysBeside yX3_daysBeside]
def wsX4_mixedWithWagers_r2 : List Cond := [Cond.code yX3_daysBeside cX3_daysBeside 3 (some .int), Cond.fieldLink RX3 9 "IceLanes$Wagers" "day" "[I", Cond.methodLink RX3 26 Lib.Math.abs.name, Cond.static Lib.Math.abs.name, Cond.initialized "java/lang/Math", Cond.code Lib.Math.abs.name Lib.Math.abs.code 1 (some .int), Cond.methodLink RX3 36 yX3_allStakes, Cond.instanceMethod yX3_allStakes, Cond.selects RX3 yX3_allStakes yX3_allStakes, Cond.code yX3_allStakes cX3_allStakes 3 (some .int), Cond.fieldLink RX3 15 "IceLanes$Wagers" "stake" "[I"]
def wsX4_mixedWithWagers : List Cond := .code yX4_mixedWithWagers cX4_mixedWithWagers 6 (some .long) :: ((wsX4_mixedWithWagers_r1 ++ wsX4_mixedWithWagers_r2) ++ wsX40 ++ wsX30 ++ wsX20)
def wsX4_digest_r1 : List Cond := [Cond.constantLong RX4 214 (757), Cond.methodLink RX4 184 yX4_counted, Cond.instanceMethod yX4_counted, Cond.selects RX4 yX4_counted yX4_counted, Cond.initialized RX4, Cond.code yX4_counted cX4_counted 2 (some .int), Cond.fieldLink RX4 12 "IceLanes" "river" "LIceLanes$River;", Cond.fieldLink RX4 22 "IceLanes" "wagers" "LIceLanes$Wagers;", Cond.instanceMethod yX0_numberWhose, Cond.initialized RX0, Cond.selects RX0 yX0_numberWhose yX0_numberWhose, Cond.code yX0_numberWhose cX0_numberWhose 4 (some .int), Cond.fieldLink RX0 39 "IceLanes$Couriers" "number" "I", Cond.fieldLink RX0 30 "IceLanes$Couriers" "state" "[I", Cond.instanceMethod yX1_cracksInAll, Cond.initialized RX1, Cond.selects RX1 yX1_cracksInAll yX1_cracksInAll, Cond.code yX1_cracksInAll cX1_cracksInAll 3 (some .int), Cond.fieldLink RX1 15 "IceLanes$Ice" "cracks" "[I", Cond.instanceMethod yX1_placesOfOpenWater, Cond.selects RX1 yX1_placesOfOpenWater yX1_placesOfOpenWater, Cond.code yX1_placesOfOpenWater cX1_placesOfOpenWater 3 (some .int), Cond.fieldLink RX1 9 "IceLanes$Ice" "thickness" "[I", Cond.instanceMethod yX2_huts]
def wsX4_digest_r2 : List Cond := [Cond.initialized RX2, Cond.selects RX2 yX2_huts yX2_huts, Cond.code yX2_huts cX2_huts 3 (some .int), Cond.fieldLink RX2 19 "IceLanes$River" "hut" "[I", Cond.instanceMethod yX3_allStakes, Cond.initialized RX3, Cond.selects RX3 yX3_allStakes yX3_allStakes, Cond.code yX3_allStakes cX3_allStakes 3 (some .int), Cond.fieldLink RX3 18 "IceLanes$Wagers" "number" "I", Cond.fieldLink RX3 15 "IceLanes$Wagers" "stake" "[I", Cond.methodLink RX4 216 yX4_mixed, Cond.static yX4_mixed, Cond.code yX4_mixed cX4_mixed 3 (some .long), Cond.constantLong RX4 254 (31), Cond.methodLink RX4 220 yX4_mixedWithRiver, Cond.instanceMethod yX4_mixedWithRiver, Cond.selects RX4 yX4_mixedWithRiver yX4_mixedWithRiver, Cond.code yX4_mixedWithRiver cX4_mixedWithRiver 6 (some .long), Cond.methodLink RX4 224 yX4_mixedWithCouriers, Cond.instanceMethod yX4_mixedWithCouriers, Cond.selects RX4 yX4_mixedWithCouriers yX4_mixedWithCouriers, Cond.code yX4_mixedWithCouriers cX4_mixedWithCouriers 7 (some .long), Cond.instanceMethod yX0_tell, Cond.selects RX0 yX0_tell yX0_tell]
def wsX4_digest_r3 : List Cond := [Cond.code yX0_tell cX0_tell 3 (some .int), Cond.fieldLink RX0 9 "IceLanes$Couriers" "weight" "[I", Cond.fieldLink RX0 15 "IceLanes$Couriers" "letters" "[I", Cond.fieldLink RX0 18 "IceLanes$Couriers" "strength" "[I", Cond.fieldLink RX0 21 "IceLanes$Couriers" "section" "[I", Cond.fieldLink RX0 24 "IceLanes$Couriers" "lane" "[I", Cond.fieldLink RX0 27 "IceLanes$Couriers" "goal" "[I", Cond.fieldLink RX0 33 "IceLanes$Couriers" "steps" "[I", Cond.fieldLink RX0 36 "IceLanes$Couriers" "pace" "[I", Cond.methodLink RX4 227 yX4_mixedWithWagers, Cond.instanceMethod yX4_mixedWithWagers, Cond.selects RX4 yX4_mixedWithWagers yX4_mixedWithWagers, Cond.code yX4_mixedWithWagers cX4_mixedWithWagers 6 (some .long), Cond.methodLink RX4 174 yX4_winOf, Cond.instanceMethod yX4_winOf, Cond.selects RX4 yX4_winOf yX4_winOf, Cond.code yX4_winOf cX4_winOf 2 (some .int), Cond.instanceMethod yX2_hasThawed, Cond.selects RX2 yX2_hasThawed yX2_hasThawed, Cond.code yX2_hasThawed cX2_hasThawed 1 (some .boolean), Cond.fieldLink RX2 9 "IceLanes$River" "thawDay" "I", Cond.instanceMethod yX3_winOn, Cond.selects RX3 yX3_winOn yX3_winOn, Cond.code yX3_winOn cX3_winOn 7 (some .int)]
def wsX4_digest_r4 : List Cond := [Cond.methodLink RX3 32 yX3_daysBeside, Cond.instanceMethod yX3_daysBeside, Cond.selects RX3 yX3_daysBeside yX3_daysBeside, Cond.code yX3_daysBeside cX3_daysBeside 3 (some .int), Cond.fieldLink RX3 9 "IceLanes$Wagers" "day" "[I", Cond.methodLink RX3 26 Lib.Math.abs.name, Cond.static Lib.Math.abs.name, Cond.initialized "java/lang/Math", Cond.code Lib.Math.abs.name Lib.Math.abs.code 1 (some .int), Cond.methodLink RX3 36 yX3_allStakes]
def wsX4_digest : List Cond := .code yX4_digest cX4_digest 4 (some .long) :: ((wsX4_digest_r1 ++ (wsX4_digest_r2 ++ (wsX4_digest_r3 ++ wsX4_digest_r4))) ++ wsX40 ++ wsX20 ++ wsX00 ++ wsX30 ++ wsX10)
def wsX5_init : List Cond := .code yX5_init cX5_init 2 none :: ([.fieldLink RX5 3 "IceLanesModel$State" "this$0" "LIceLanesModel;", .methodLink RX5 9 objectInit, .instanceMethod objectInit, .code objectInit ⟨#[0xb1]⟩ 1 none, .fieldLink RX5 15 "IceLanesModel$State" "thawed" "I", .arrayClass .int, .fieldLink RX5 19 "IceLanesModel$State" "ice" "[I", .fieldLink RX5 23 "IceLanesModel$State" "cracks" "[I", .fieldLink RX5 26 "IceLanesModel$State" "of" "[I"] ++ wsX50)
def wsX5_copy : List Cond := .code yX5_copy cX5_copy 3 none :: ([.methodLink RX5 29 arraycopyName, .native arraycopyName, .static arraycopyName, .initialized "java/lang/System"])
def wsX5_become : List Cond := .code yX5_become cX5_become 2 none :: ([.fieldLink RX5 35 "IceLanesModel$State" "hour" "I", .fieldLink RX5 38 "IceLanesModel$State" "couriers" "I", .fieldLink RX5 15 "IceLanesModel$State" "thawed" "I", .fieldLink RX5 41 "IceLanesModel$State" "came" "I", .fieldLink RX5 19 "IceLanesModel$State" "ice" "[I", .fieldLink RX5 23 "IceLanesModel$State" "cracks" "[I", .fieldLink RX5 26 "IceLanesModel$State" "of" "[I", .methodLink RX5 44 yX5_copy, .instanceMethod yX5_copy, .selects RX5 yX5_copy yX5_copy, .initialized RX5, .code yX5_copy cX5_copy 3 none, .methodLink RX5 29 arraycopyName, .native arraycopyName, .static arraycopyName, .initialized "java/lang/System"] ++ wsX50)
def wsX5_get : List Cond := .code yX5_get cX5_get 3 (some .int) :: ([.fieldLink RX5 26 "IceLanesModel$State" "of" "[I"] ++ wsX50)
def wsX5_set : List Cond := .code yX5_set cX5_set 4 none :: ([.fieldLink RX5 26 "IceLanesModel$State" "of" "[I"] ++ wsX50)
def wsX5_holds : List Cond := .code yX5_holds cX5_holds 2 (some .int) :: ([.fieldLink RX5 19 "IceLanesModel$State" "ice" "[I", .fieldLink RX5 23 "IceLanesModel$State" "cracks" "[I"] ++ wsX50)
def wsX5_load : List Cond := .code yX5_load cX5_load 2 (some .int) :: ([.methodLink RX5 48 yX5_get, .instanceMethod yX5_get, .selects RX5 yX5_get yX5_get, .initialized RX5, .code yX5_get cX5_get 3 (some .int), .fieldLink RX5 26 "IceLanesModel$State" "of" "[I"] ++ wsX50)
def wsX5_weather : List Cond := .code yX5_weather cX5_weather 3 none :: ([.fieldLink RX5 3 "IceLanesModel$State" "this$0" "LIceLanesModel;", .fieldLink RX5 35 "IceLanesModel$State" "hour" "I", .fieldLink RX5 19 "IceLanesModel$State" "ice" "[I", .methodLink RX5 55 Lib.Math.min.name, .static Lib.Math.min.name, .initialized "java/lang/Math", .code Lib.Math.min.name Lib.Math.min.code 2 (some .int), .methodLink RX5 60 Lib.Math.max.name, .static Lib.Math.max.name, .code Lib.Math.max.name Lib.Math.max.code 2 (some .int), .fieldLink RX5 23 "IceLanesModel$State" "cracks" "[I"] ++ wsX50 ++ wsX60)
def wsX5_listen : List Cond := .code yX5_listen cX5_listen 2 none :: ([.fieldLink RX5 15 "IceLanesModel$State" "thawed" "I", .fieldLink RX5 19 "IceLanesModel$State" "ice" "[I", .fieldLink RX5 35 "IceLanesModel$State" "hour" "I"] ++ wsX50)
def wsX5_next : List Cond := .code yX5_next cX5_next 7 (some .int) :: ([.methodLink RX5 60 Lib.Math.max.name, .static Lib.Math.max.name, .initialized "java/lang/Math", .code Lib.Math.max.name Lib.Math.max.code 2 (some .int), .methodLink RX5 55 Lib.Math.min.name, .static Lib.Math.min.name, .code Lib.Math.min.name Lib.Math.min.code 2 (some .int), .methodLink RX5 48 yX5_get, .instanceMethod yX5_get, .selects RX5 yX5_get yX5_get, .initialized RX5, .code yX5_get cX5_get 3 (some .int), .fieldLink RX5 26 "IceLanesModel$State" "of" "[I", .methodLink RX5 63 yX5_holds, .instanceMethod yX5_holds, .selects RX5 yX5_holds yX5_holds, .code yX5_holds cX5_holds 2 (some .int), .fieldLink RX5 19 "IceLanesModel$State" "ice" "[I", .fieldLink RX5 23 "IceLanesModel$State" "cracks" "[I", .methodLink RX5 67 yX5_load, .instanceMethod yX5_load, .selects RX5 yX5_load yX5_load, .code yX5_load cX5_load 2 (some .int)] ++ wsX50)
def wsX5_step_r1 : List Cond := [Cond.fieldLink RX5 23 "IceLanesModel$State" "cracks" "[I", Cond.methodLink RX5 55 Lib.Math.min.name, Cond.static Lib.Math.min.name, Cond.initialized "java/lang/Math", Cond.code Lib.Math.min.name Lib.Math.min.code 2 (some .int), Cond.fieldLink RX5 19 "IceLanesModel$State" "ice" "[I", Cond.fieldLink RX5 41 "IceLanesModel$State" "came" "I", Cond.methodLink RX5 48 yX5_get, Cond.instanceMethod yX5_get, Cond.selects RX5 yX5_get yX5_get, Cond.initialized RX5, Cond.code yX5_get cX5_get 3 (some .int), Cond.fieldLink RX5 26 "IceLanesModel$State" "of" "[I", Cond.methodLink RX5 70 yX5_next, Cond.instanceMethod yX5_next, Cond.selects RX5 yX5_next yX5_next, Cond.code yX5_next cX5_next 7 (some .int), Cond.methodLink RX5 60 Lib.Math.max.name, Cond.static Lib.Math.max.name, Cond.code Lib.Math.max.name Lib.Math.max.code 2 (some .int), Cond.methodLink RX5 63 yX5_holds, Cond.instanceMethod yX5_holds, Cond.selects RX5 yX5_holds yX5_holds, Cond.code yX5_holds cX5_holds 2 (some .int)]
def wsX5_step_r2 : List Cond := [Cond.methodLink RX5 67 yX5_load, Cond.instanceMethod yX5_load, Cond.selects RX5 yX5_load yX5_load, Cond.code yX5_load cX5_load 2 (some .int), Cond.methodLink RX5 73 yX5_set, Cond.instanceMethod yX5_set, Cond.selects RX5 yX5_set yX5_set, Cond.code yX5_set cX5_set 4 none]
def wsX5_step : List Cond := .code yX5_step cX5_step 3 none :: ((wsX5_step_r1 ++ wsX5_step_r2) ++ wsX50)
def wsX5_pass_r1 : List Cond := [Cond.fieldLink RX5 35 "IceLanesModel$State" "hour" "I", Cond.fieldLink RX5 38 "IceLanesModel$State" "couriers" "I", Cond.fieldLink RX5 3 "IceLanesModel$State" "this$0" "LIceLanesModel;", Cond.methodLink RX5 55 Lib.Math.min.name, Cond.static Lib.Math.min.name, Cond.initialized "java/lang/Math", Cond.code Lib.Math.min.name Lib.Math.min.code 2 (some .int), Cond.methodLink RX5 77 yX5_weather, Cond.instanceMethod yX5_weather, Cond.selects RX5 yX5_weather yX5_weather, Cond.initialized RX5, Cond.code yX5_weather cX5_weather 3 none, Cond.fieldLink RX5 19 "IceLanesModel$State" "ice" "[I", Cond.methodLink RX5 60 Lib.Math.max.name, Cond.static Lib.Math.max.name, Cond.code Lib.Math.max.name Lib.Math.max.code 2 (some .int), Cond.fieldLink RX5 23 "IceLanesModel$State" "cracks" "[I", Cond.methodLink RX5 80 yX5_listen, Cond.instanceMethod yX5_listen, Cond.selects RX5 yX5_listen yX5_listen, Cond.code yX5_listen cX5_listen 2 none, Cond.fieldLink RX5 15 "IceLanesModel$State" "thawed" "I", Cond.methodLink RX5 48 yX5_get, Cond.instanceMethod yX5_get]
def wsX5_pass_r2 : List Cond := [Cond.selects RX5 yX5_get yX5_get, Cond.code yX5_get cX5_get 3 (some .int), Cond.fieldLink RX5 26 "IceLanesModel$State" "of" "[I", Cond.methodLink RX5 83 yX5_step, Cond.instanceMethod yX5_step, Cond.selects RX5 yX5_step yX5_step, Cond.code yX5_step cX5_step 3 none, Cond.fieldLink RX5 41 "IceLanesModel$State" "came" "I", Cond.methodLink RX5 70 yX5_next, Cond.instanceMethod yX5_next, Cond.selects RX5 yX5_next yX5_next, Cond.code yX5_next cX5_next 7 (some .int), Cond.methodLink RX5 63 yX5_holds, Cond.instanceMethod yX5_holds, Cond.selects RX5 yX5_holds yX5_holds, Cond.code yX5_holds cX5_holds 2 (some .int), Cond.methodLink RX5 67 yX5_load, Cond.instanceMethod yX5_load, Cond.selects RX5 yX5_load yX5_load, Cond.code yX5_load cX5_load 2 (some .int), Cond.methodLink RX5 73 yX5_set, Cond.instanceMethod yX5_set, Cond.selects RX5 yX5_set yX5_set, Cond.code yX5_set cX5_set 4 none]
def wsX5_pass : List Cond := .code yX5_pass cX5_pass 3 none :: ((wsX5_pass_r1 ++ wsX5_pass_r2) ++ wsX50 ++ wsX60)
def wsJ7_fill_53178 : List Cond := .code yJ7_fill_53178 cJ7_fill_53178 4 none :: ([])
def wsX6_init_r1 : List Cond := [Cond.methodLink RX6 1 objectInit, Cond.instanceMethod objectInit, Cond.code objectInit ⟨#[0xb1]⟩ 1 none, Cond.arrayClass .int, Cond.fieldLink RX6 9 "IceLanesModel" "warm" "[I", Cond.fieldLink RX6 13 "IceLanesModel" "hut" "[I", Cond.fieldLink RX6 16 "IceLanesModel" "day" "[I", Cond.fieldLink RX6 19 "IceLanesModel" "stake" "[I", Cond.classLink RX6 22 RX5, Cond.instantiable RX5 8, Cond.initialized RX5, Cond.fieldLink RX6 27 "IceLanesModel" "s" "LIceLanesModel$State;", Cond.fieldLink RX6 31 "IceLanesModel" "ahead" "LIceLanesModel$State;", Cond.instanceMethod yX5_init, Cond.code yX5_init cX5_init 2 none, Cond.fieldLink RX5 3 "IceLanesModel$State" "this$0" "LIceLanesModel;", Cond.methodLink RX5 9 objectInit, Cond.fieldLink RX5 15 "IceLanesModel$State" "thawed" "I", Cond.fieldLink RX5 19 "IceLanesModel$State" "ice" "[I", Cond.fieldLink RX5 23 "IceLanesModel$State" "cracks" "[I", Cond.fieldLink RX5 26 "IceLanesModel$State" "of" "[I", Cond.methodLink RX6 34 yJ7_fill_53178, Cond.static yJ7_fill_53178, Cond.initialized RJ7]
def wsX6_init_r2 : List Cond := [Cond.code yJ7_fill_53178 cJ7_fill_53178 4 none]
def wsX6_init : List Cond := .code yX6_init cX6_init 1 none :: ((wsX6_init_r1 ++ wsX6_init_r2) ++ wsX60 ++ wsX50)
def wsX6_thrown : List Cond := .code yX6_thrown cX6_thrown 1 (some .int) :: ([.fieldLink RX6 43 "IceLanesModel" "thrown" "I"] ++ wsX60)
def wsX6_no : List Cond := .code yX6_no cX6_no 2 (some .int) :: ([.fieldLink RX6 43 "IceLanesModel" "thrown" "I"] ++ wsX60)
def wsX6_isIn : List Cond := .code yX6_isIn cX6_isIn 3 (some .boolean) :: ([])
def wsX6_isPlace : List Cond := .code yX6_isPlace cX6_isPlace 2 (some .boolean) :: ([.methodLink RX6 47 yX6_isIn, .static yX6_isIn, .initialized RX6, .code yX6_isIn cX6_isIn 3 (some .boolean)])
def wsX6_isCourier : List Cond := .code yX6_isCourier cX6_isCourier 2 (some .boolean) :: ([.fieldLink RX6 27 "IceLanesModel" "s" "LIceLanesModel$State;", .methodLink RX6 47 yX6_isIn, .static yX6_isIn, .initialized RX6, .code yX6_isIn cX6_isIn 3 (some .boolean)] ++ wsX60 ++ wsX50)
def wsX6_setWarm : List Cond := .code yX6_setWarm cX6_setWarm 4 (some .int) :: ([.fieldLink RX6 43 "IceLanesModel" "thrown" "I", .fieldLink RX6 9 "IceLanesModel" "warm" "[I", .methodLink RX6 47 yX6_isIn, .static yX6_isIn, .initialized RX6, .code yX6_isIn cX6_isIn 3 (some .boolean), .methodLink RX6 54 yX6_no, .instanceMethod yX6_no, .selects RX6 yX6_no yX6_no, .code yX6_no cX6_no 2 (some .int)] ++ wsX60)
def wsX6_setIce : List Cond := .code yX6_setIce cX6_setIce 5 (some .int) :: ([.fieldLink RX6 43 "IceLanesModel" "thrown" "I", .fieldLink RX6 27 "IceLanesModel" "s" "LIceLanesModel$State;", .methodLink RX6 58 yX6_isPlace, .static yX6_isPlace, .initialized RX6, .code yX6_isPlace cX6_isPlace 2 (some .boolean), .methodLink RX6 47 yX6_isIn, .static yX6_isIn, .code yX6_isIn cX6_isIn 3 (some .boolean), .methodLink RX6 54 yX6_no, .instanceMethod yX6_no, .selects RX6 yX6_no yX6_no, .code yX6_no cX6_no 2 (some .int)] ++ wsX60 ++ wsX50)
def wsX6_huts : List Cond := .code yX6_huts cX6_huts 3 (some .int) :: ([.fieldLink RX6 13 "IceLanesModel" "hut" "[I"] ++ wsX60)
def wsX6_build : List Cond := .code yX6_build cX6_build 2 (some .int) :: ([.fieldLink RX6 43 "IceLanesModel" "thrown" "I", .fieldLink RX6 13 "IceLanesModel" "hut" "[I", .methodLink RX6 47 yX6_isIn, .static yX6_isIn, .initialized RX6, .code yX6_isIn cX6_isIn 3 (some .boolean), .methodLink RX6 54 yX6_no, .instanceMethod yX6_no, .selects RX6 yX6_no yX6_no, .code yX6_no cX6_no 2 (some .int), .methodLink RX6 62 yX6_huts, .instanceMethod yX6_huts, .selects RX6 yX6_huts yX6_huts, .code yX6_huts cX6_huts 3 (some .int)] ++ wsX60)
def wsX6_borne : List Cond := .code yX6_borne cX6_borne 2 (some .int) :: ([.fieldLink RX6 27 "IceLanesModel" "s" "LIceLanesModel$State;", .methodLink RX6 69 Lib.Math.max.name, .static Lib.Math.max.name, .initialized "java/lang/Math", .code Lib.Math.max.name Lib.Math.max.code 2 (some .int), .methodLink RX6 66 yX5_holds, .instanceMethod yX5_holds, .selects RX5 yX5_holds yX5_holds, .initialized RX5, .code yX5_holds cX5_holds 2 (some .int), .fieldLink RX5 19 "IceLanesModel$State" "ice" "[I", .fieldLink RX5 23 "IceLanesModel$State" "cracks" "[I"] ++ wsX60 ++ wsX50)
def wsX6_placeTold : List Cond := .code yX6_placeTold cX6_placeTold 5 (some .int) :: ([.fieldLink RX6 27 "IceLanesModel" "s" "LIceLanesModel$State;", .arrayClass .int, .methodLink RX6 75 yX5_get, .instanceMethod yX5_get, .selects RX5 yX5_get yX5_get, .initialized RX5, .code yX5_get cX5_get 3 (some .int), .fieldLink RX5 26 "IceLanesModel$State" "of" "[I", .methodLink RX6 81 yX6_borne, .instanceMethod yX6_borne, .selects RX6 yX6_borne yX6_borne, .initialized RX6, .code yX6_borne cX6_borne 2 (some .int), .methodLink RX6 69 Lib.Math.max.name, .static Lib.Math.max.name, .initialized "java/lang/Math", .code Lib.Math.max.name Lib.Math.max.code 2 (some .int), .methodLink RX6 66 yX5_holds, .instanceMethod yX5_holds, .selects RX5 yX5_holds yX5_holds, .code yX5_holds cX5_holds 2 (some .int), .fieldLink RX5 19 "IceLanesModel$State" "ice" "[I", .fieldLink RX5 23 "IceLanesModel$State" "cracks" "[I"] ++ wsX60 ++ wsX50)
def wsX6_place_r1 : List Cond := [Cond.fieldLink RX6 43 "IceLanesModel" "thrown" "I", Cond.methodLink RX6 58 yX6_isPlace, Cond.static yX6_isPlace, Cond.initialized RX6, Cond.code yX6_isPlace cX6_isPlace 2 (some .boolean), Cond.methodLink RX6 47 yX6_isIn, Cond.static yX6_isIn, Cond.code yX6_isIn cX6_isIn 3 (some .boolean), Cond.methodLink RX6 84 yX6_placeTold, Cond.instanceMethod yX6_placeTold, Cond.selects RX6 yX6_placeTold yX6_placeTold, Cond.code yX6_placeTold cX6_placeTold 5 (some .int), Cond.fieldLink RX6 27 "IceLanesModel" "s" "LIceLanesModel$State;", Cond.arrayClass .int, Cond.methodLink RX6 75 yX5_get, Cond.instanceMethod yX5_get, Cond.selects RX5 yX5_get yX5_get, Cond.initialized RX5, Cond.code yX5_get cX5_get 3 (some .int), Cond.fieldLink RX5 26 "IceLanesModel$State" "of" "[I", Cond.methodLink RX6 81 yX6_borne, Cond.instanceMethod yX6_borne, Cond.selects RX6 yX6_borne yX6_borne, Cond.code yX6_borne cX6_borne 2 (some .int)]
def wsX6_place_r2 : List Cond := [Cond.methodLink RX6 69 Lib.Math.max.name, Cond.static Lib.Math.max.name, Cond.initialized "java/lang/Math", Cond.code Lib.Math.max.name Lib.Math.max.code 2 (some .int), Cond.methodLink RX6 66 yX5_holds, Cond.instanceMethod yX5_holds, Cond.selects RX5 yX5_holds yX5_holds, Cond.code yX5_holds cX5_holds 2 (some .int), Cond.fieldLink RX5 19 "IceLanesModel$State" "ice" "[I", Cond.fieldLink RX5 23 "IceLanesModel$State" "cracks" "[I", Cond.methodLink RX6 54 yX6_no, Cond.instanceMethod yX6_no, Cond.selects RX6 yX6_no yX6_no, Cond.code yX6_no cX6_no 2 (some .int)]
def wsX6_place : List Cond := .code yX6_place cX6_place 4 (some .int) :: ((wsX6_place_r1 ++ wsX6_place_r2) ++ wsX60 ++ wsX50)
def wsX6_come_r1 : List Cond := [Cond.fieldLink RX6 43 "IceLanesModel" "thrown" "I", Cond.fieldLink RX6 27 "IceLanesModel" "s" "LIceLanesModel$State;", Cond.arrayClass .int, Cond.methodLink RX6 90 arraycopyName, Cond.native arraycopyName, Cond.static arraycopyName, Cond.initialized "java/lang/System", Cond.methodLink RX6 58 yX6_isPlace, Cond.static yX6_isPlace, Cond.initialized RX6, Cond.code yX6_isPlace cX6_isPlace 2 (some .boolean), Cond.methodLink RX6 47 yX6_isIn, Cond.static yX6_isIn, Cond.code yX6_isIn cX6_isIn 3 (some .boolean), Cond.methodLink RX6 54 yX6_no, Cond.instanceMethod yX6_no, Cond.selects RX6 yX6_no yX6_no, Cond.code yX6_no cX6_no 2 (some .int), Cond.methodLink RX6 66 yX5_holds, Cond.instanceMethod yX5_holds, Cond.selects RX5 yX5_holds yX5_holds, Cond.initialized RX5, Cond.code yX5_holds cX5_holds 2 (some .int), Cond.fieldLink RX5 19 "IceLanesModel$State" "ice" "[I"]
def wsX6_come_r2 : List Cond := [Cond.fieldLink RX5 23 "IceLanesModel$State" "cracks" "[I"]
def wsX6_come : List Cond := .code yX6_come cX6_come 7 (some .int) :: ((wsX6_come_r1 ++ wsX6_come_r2) ++ wsX60 ++ wsX50)
def wsX6_send_r1 : List Cond := [Cond.fieldLink RX6 43 "IceLanesModel" "thrown" "I", Cond.fieldLink RX6 27 "IceLanesModel" "s" "LIceLanesModel$State;", Cond.methodLink RX6 104 Lib.Math.abs.name, Cond.static Lib.Math.abs.name, Cond.initialized "java/lang/Math", Cond.code Lib.Math.abs.name Lib.Math.abs.code 1 (some .int), Cond.methodLink RX6 96 yX6_isCourier, Cond.instanceMethod yX6_isCourier, Cond.selects RX6 yX6_isCourier yX6_isCourier, Cond.initialized RX6, Cond.code yX6_isCourier cX6_isCourier 2 (some .boolean), Cond.methodLink RX6 47 yX6_isIn, Cond.static yX6_isIn, Cond.code yX6_isIn cX6_isIn 3 (some .boolean), Cond.methodLink RX6 54 yX6_no, Cond.instanceMethod yX6_no, Cond.selects RX6 yX6_no yX6_no, Cond.code yX6_no cX6_no 2 (some .int), Cond.methodLink RX6 75 yX5_get, Cond.instanceMethod yX5_get, Cond.selects RX5 yX5_get yX5_get, Cond.initialized RX5, Cond.code yX5_get cX5_get 3 (some .int), Cond.fieldLink RX5 26 "IceLanesModel$State" "of" "[I"]
def wsX6_send_r2 : List Cond := [Cond.methodLink RX6 100 yX5_set, Cond.instanceMethod yX5_set, Cond.selects RX5 yX5_set yX5_set, Cond.code yX5_set cX5_set 4 none]
def wsX6_send : List Cond := .code yX6_send cX6_send 3 (some .int) :: ((wsX6_send_r1 ++ wsX6_send_r2) ++ wsX60 ++ wsX50)
def wsX6_load_r1 : List Cond := [Cond.fieldLink RX6 43 "IceLanesModel" "thrown" "I", Cond.fieldLink RX6 27 "IceLanesModel" "s" "LIceLanesModel$State;", Cond.methodLink RX6 96 yX6_isCourier, Cond.instanceMethod yX6_isCourier, Cond.selects RX6 yX6_isCourier yX6_isCourier, Cond.initialized RX6, Cond.code yX6_isCourier cX6_isCourier 2 (some .boolean), Cond.methodLink RX6 47 yX6_isIn, Cond.static yX6_isIn, Cond.code yX6_isIn cX6_isIn 3 (some .boolean), Cond.methodLink RX6 54 yX6_no, Cond.instanceMethod yX6_no, Cond.selects RX6 yX6_no yX6_no, Cond.code yX6_no cX6_no 2 (some .int), Cond.methodLink RX6 75 yX5_get, Cond.instanceMethod yX5_get, Cond.selects RX5 yX5_get yX5_get, Cond.initialized RX5, Cond.code yX5_get cX5_get 3 (some .int), Cond.fieldLink RX5 26 "IceLanesModel$State" "of" "[I", Cond.methodLink RX6 66 yX5_holds, Cond.instanceMethod yX5_holds, Cond.selects RX5 yX5_holds yX5_holds, Cond.code yX5_holds cX5_holds 2 (some .int)]
def wsX6_load_r2 : List Cond := [Cond.fieldLink RX5 19 "IceLanesModel$State" "ice" "[I", Cond.fieldLink RX5 23 "IceLanesModel$State" "cracks" "[I", Cond.methodLink RX6 100 yX5_set, Cond.instanceMethod yX5_set, Cond.selects RX5 yX5_set yX5_set, Cond.code yX5_set cX5_set 4 none]
def wsX6_load : List Cond := .code yX6_load cX6_load 5 (some .int) :: ((wsX6_load_r1 ++ wsX6_load_r2) ++ wsX60 ++ wsX50)
def wsX6_courier : List Cond := .code yX6_courier cX6_courier 3 (some .int) :: ([.fieldLink RX6 43 "IceLanesModel" "thrown" "I", .fieldLink RX6 27 "IceLanesModel" "s" "LIceLanesModel$State;", .methodLink RX6 96 yX6_isCourier, .instanceMethod yX6_isCourier, .selects RX6 yX6_isCourier yX6_isCourier, .initialized RX6, .code yX6_isCourier cX6_isCourier 2 (some .boolean), .methodLink RX6 47 yX6_isIn, .static yX6_isIn, .code yX6_isIn cX6_isIn 3 (some .boolean), .methodLink RX6 75 yX5_get, .instanceMethod yX5_get, .selects RX5 yX5_get yX5_get, .initialized RX5, .code yX5_get cX5_get 3 (some .int), .fieldLink RX5 26 "IceLanesModel$State" "of" "[I", .methodLink RX6 54 yX6_no, .instanceMethod yX6_no, .selects RX6 yX6_no yX6_no, .code yX6_no cX6_no 2 (some .int)] ++ wsX60 ++ wsX50)
def wsX6_wager : List Cond := .code yX6_wager cX6_wager 3 (some .int) :: ([.fieldLink RX6 43 "IceLanesModel" "thrown" "I", .fieldLink RX6 107 "IceLanesModel" "wagers" "I", .fieldLink RX6 27 "IceLanesModel" "s" "LIceLanesModel$State;", .fieldLink RX6 16 "IceLanesModel" "day" "[I", .fieldLink RX6 19 "IceLanesModel" "stake" "[I", .methodLink RX6 47 yX6_isIn, .static yX6_isIn, .initialized RX6, .code yX6_isIn cX6_isIn 3 (some .boolean), .methodLink RX6 54 yX6_no, .instanceMethod yX6_no, .selects RX6 yX6_no yX6_no, .code yX6_no cX6_no 2 (some .int)] ++ wsX60 ++ wsX50)
def wsX6_stakes : List Cond := .code yX6_stakes cX6_stakes 3 (some .int) :: ([.fieldLink RX6 107 "IceLanesModel" "wagers" "I", .fieldLink RX6 19 "IceLanesModel" "stake" "[I"] ++ wsX60)
def wsX6_won : List Cond := .code yX6_won cX6_won 6 (some .int) :: ([.fieldLink RX6 27 "IceLanesModel" "s" "LIceLanesModel$State;", .fieldLink RX6 16 "IceLanesModel" "day" "[I", .methodLink RX6 104 Lib.Math.abs.name, .static Lib.Math.abs.name, .initialized "java/lang/Math", .code Lib.Math.abs.name Lib.Math.abs.code 1 (some .int), .fieldLink RX6 107 "IceLanesModel" "wagers" "I", .methodLink RX6 113 yX6_stakes, .instanceMethod yX6_stakes, .selects RX6 yX6_stakes yX6_stakes, .initialized RX6, .code yX6_stakes cX6_stakes 3 (some .int), .fieldLink RX6 19 "IceLanesModel" "stake" "[I"] ++ wsX60 ++ wsX50)
def wsX6_wins_r1 : List Cond := [Cond.fieldLink RX6 43 "IceLanesModel" "thrown" "I", Cond.fieldLink RX6 107 "IceLanesModel" "wagers" "I", Cond.methodLink RX6 47 yX6_isIn, Cond.static yX6_isIn, Cond.initialized RX6, Cond.code yX6_isIn cX6_isIn 3 (some .boolean), Cond.methodLink RX6 116 yX6_won, Cond.instanceMethod yX6_won, Cond.selects RX6 yX6_won yX6_won, Cond.code yX6_won cX6_won 6 (some .int), Cond.fieldLink RX6 27 "IceLanesModel" "s" "LIceLanesModel$State;", Cond.fieldLink RX6 16 "IceLanesModel" "day" "[I", Cond.methodLink RX6 104 Lib.Math.abs.name, Cond.static Lib.Math.abs.name, Cond.initialized "java/lang/Math", Cond.code Lib.Math.abs.name Lib.Math.abs.code 1 (some .int), Cond.methodLink RX6 113 yX6_stakes, Cond.instanceMethod yX6_stakes, Cond.selects RX6 yX6_stakes yX6_stakes, Cond.code yX6_stakes cX6_stakes 3 (some .int), Cond.fieldLink RX6 19 "IceLanesModel" "stake" "[I", Cond.methodLink RX6 54 yX6_no, Cond.instanceMethod yX6_no, Cond.selects RX6 yX6_no yX6_no]
def wsX6_wins_r2 : List Cond := [Cond.code yX6_no cX6_no 2 (some .int)]
def wsX6_wins : List Cond := .code yX6_wins cX6_wins 2 (some .int) :: ((wsX6_wins_r1 ++ wsX6_wins_r2) ++ wsX60 ++ wsX50)
def wsX6_pass_r1 : List Cond := [Cond.fieldLink RX6 43 "IceLanesModel" "thrown" "I", Cond.fieldLink RX6 27 "IceLanesModel" "s" "LIceLanesModel$State;", Cond.methodLink RX6 47 yX6_isIn, Cond.static yX6_isIn, Cond.initialized RX6, Cond.code yX6_isIn cX6_isIn 3 (some .boolean), Cond.methodLink RX6 54 yX6_no, Cond.instanceMethod yX6_no, Cond.selects RX6 yX6_no yX6_no, Cond.code yX6_no cX6_no 2 (some .int), Cond.methodLink RX6 122 yX5_pass, Cond.instanceMethod yX5_pass, Cond.selects RX5 yX5_pass yX5_pass, Cond.initialized RX5, Cond.code yX5_pass cX5_pass 3 none, Cond.fieldLink RX5 35 "IceLanesModel$State" "hour" "I", Cond.fieldLink RX5 38 "IceLanesModel$State" "couriers" "I", Cond.fieldLink RX5 3 "IceLanesModel$State" "this$0" "LIceLanesModel;", Cond.methodLink RX5 55 Lib.Math.min.name, Cond.static Lib.Math.min.name, Cond.initialized "java/lang/Math", Cond.code Lib.Math.min.name Lib.Math.min.code 2 (some .int), Cond.methodLink RX5 77 yX5_weather, Cond.instanceMethod yX5_weather]
def wsX6_pass_r2 : List Cond := [Cond.selects RX5 yX5_weather yX5_weather, Cond.code yX5_weather cX5_weather 3 none, Cond.fieldLink RX5 19 "IceLanesModel$State" "ice" "[I", Cond.methodLink RX5 60 Lib.Math.max.name, Cond.static Lib.Math.max.name, Cond.code Lib.Math.max.name Lib.Math.max.code 2 (some .int), Cond.fieldLink RX5 23 "IceLanesModel$State" "cracks" "[I", Cond.methodLink RX5 80 yX5_listen, Cond.instanceMethod yX5_listen, Cond.selects RX5 yX5_listen yX5_listen, Cond.code yX5_listen cX5_listen 2 none, Cond.fieldLink RX5 15 "IceLanesModel$State" "thawed" "I", Cond.methodLink RX5 48 yX5_get, Cond.instanceMethod yX5_get, Cond.selects RX5 yX5_get yX5_get, Cond.code yX5_get cX5_get 3 (some .int), Cond.fieldLink RX5 26 "IceLanesModel$State" "of" "[I", Cond.methodLink RX5 83 yX5_step, Cond.instanceMethod yX5_step, Cond.selects RX5 yX5_step yX5_step, Cond.code yX5_step cX5_step 3 none, Cond.fieldLink RX5 41 "IceLanesModel$State" "came" "I", Cond.methodLink RX5 70 yX5_next, Cond.instanceMethod yX5_next]
def wsX6_pass_r3 : List Cond := [Cond.selects RX5 yX5_next yX5_next, Cond.code yX5_next cX5_next 7 (some .int), Cond.methodLink RX5 63 yX5_holds, Cond.instanceMethod yX5_holds, Cond.selects RX5 yX5_holds yX5_holds, Cond.code yX5_holds cX5_holds 2 (some .int), Cond.methodLink RX5 67 yX5_load, Cond.instanceMethod yX5_load, Cond.selects RX5 yX5_load yX5_load, Cond.code yX5_load cX5_load 2 (some .int), Cond.methodLink RX5 73 yX5_set, Cond.instanceMethod yX5_set, Cond.selects RX5 yX5_set yX5_set, Cond.code yX5_set cX5_set 4 none]
def wsX6_pass : List Cond := .code yX6_pass cX6_pass 4 (some .int) :: ((wsX6_pass_r1 ++ (wsX6_pass_r2 ++ wsX6_pass_r3)) ++ wsX60 ++ wsX50)
def wsX6_counted : List Cond := .code yX6_counted cX6_counted 6 (some .int) :: ([.arrayClass .int, .fieldLink RX6 27 "IceLanesModel" "s" "LIceLanesModel$State;", .fieldLink RX6 107 "IceLanesModel" "wagers" "I", .methodLink RX6 75 yX5_get, .instanceMethod yX5_get, .selects RX5 yX5_get yX5_get, .initialized RX5, .code yX5_get cX5_get 3 (some .int), .fieldLink RX5 26 "IceLanesModel$State" "of" "[I", .methodLink RX6 62 yX6_huts, .instanceMethod yX6_huts, .selects RX6 yX6_huts yX6_huts, .initialized RX6, .code yX6_huts cX6_huts 3 (some .int), .fieldLink RX6 13 "IceLanesModel" "hut" "[I", .methodLink RX6 113 yX6_stakes, .instanceMethod yX6_stakes, .selects RX6 yX6_stakes yX6_stakes, .code yX6_stakes cX6_stakes 3 (some .int), .fieldLink RX6 19 "IceLanesModel" "stake" "[I"] ++ wsX60 ++ wsX50)
def wsX6_count_r1 : List Cond := [Cond.fieldLink RX6 43 "IceLanesModel" "thrown" "I", Cond.methodLink RX6 47 yX6_isIn, Cond.static yX6_isIn, Cond.initialized RX6, Cond.code yX6_isIn cX6_isIn 3 (some .boolean), Cond.methodLink RX6 128 yX6_counted, Cond.instanceMethod yX6_counted, Cond.selects RX6 yX6_counted yX6_counted, Cond.code yX6_counted cX6_counted 6 (some .int), Cond.arrayClass .int, Cond.fieldLink RX6 27 "IceLanesModel" "s" "LIceLanesModel$State;", Cond.fieldLink RX6 107 "IceLanesModel" "wagers" "I", Cond.methodLink RX6 75 yX5_get, Cond.instanceMethod yX5_get, Cond.selects RX5 yX5_get yX5_get, Cond.initialized RX5, Cond.code yX5_get cX5_get 3 (some .int), Cond.fieldLink RX5 26 "IceLanesModel$State" "of" "[I", Cond.methodLink RX6 62 yX6_huts, Cond.instanceMethod yX6_huts, Cond.selects RX6 yX6_huts yX6_huts, Cond.code yX6_huts cX6_huts 3 (some .int), Cond.fieldLink RX6 13 "IceLanesModel" "hut" "[I", Cond.methodLink RX6 113 yX6_stakes]
def wsX6_count_r2 : List Cond := [Cond.instanceMethod yX6_stakes, Cond.selects RX6 yX6_stakes yX6_stakes, Cond.code yX6_stakes cX6_stakes 3 (some .int), Cond.fieldLink RX6 19 "IceLanesModel" "stake" "[I", Cond.methodLink RX6 54 yX6_no, Cond.instanceMethod yX6_no, Cond.selects RX6 yX6_no yX6_no, Cond.code yX6_no cX6_no 2 (some .int)]
def wsX6_count : List Cond := .code yX6_count cX6_count 2 (some .int) :: ((wsX6_count_r1 ++ wsX6_count_r2) ++ wsX60 ++ wsX50)
def wsX6_bears_r1 : List Cond := [Cond.fieldLink RX6 43 "IceLanesModel" "thrown" "I", Cond.arrayClass .int, Cond.methodLink RX6 69 Lib.Math.max.name, Cond.static Lib.Math.max.name, Cond.initialized "java/lang/Math", Cond.code Lib.Math.max.name Lib.Math.max.code 2 (some .int), Cond.methodLink RX6 131 Lib.Math.min.name, Cond.static Lib.Math.min.name, Cond.code Lib.Math.min.name Lib.Math.min.code 2 (some .int), Cond.methodLink RX6 47 yX6_isIn, Cond.static yX6_isIn, Cond.initialized RX6, Cond.code yX6_isIn cX6_isIn 3 (some .boolean), Cond.methodLink RX6 54 yX6_no, Cond.instanceMethod yX6_no, Cond.selects RX6 yX6_no yX6_no, Cond.code yX6_no cX6_no 2 (some .int), Cond.methodLink RX6 81 yX6_borne, Cond.instanceMethod yX6_borne, Cond.selects RX6 yX6_borne yX6_borne, Cond.code yX6_borne cX6_borne 2 (some .int), Cond.fieldLink RX6 27 "IceLanesModel" "s" "LIceLanesModel$State;", Cond.methodLink RX6 66 yX5_holds, Cond.instanceMethod yX5_holds]
def wsX6_bears_r2 : List Cond := [Cond.selects RX5 yX5_holds yX5_holds, Cond.initialized RX5, Cond.code yX5_holds cX5_holds 2 (some .int), Cond.fieldLink RX5 19 "IceLanesModel$State" "ice" "[I", Cond.fieldLink RX5 23 "IceLanesModel$State" "cracks" "[I"]
def wsX6_bears : List Cond := .code yX6_bears cX6_bears 9 (some .int) :: ((wsX6_bears_r1 ++ wsX6_bears_r2) ++ wsX60 ++ wsX50)
def wsX6_arrivesAhead_r1 : List Cond := [Cond.fieldLink RX6 31 "IceLanesModel" "ahead" "LIceLanesModel$State;", Cond.methodLink RX6 75 yX5_get, Cond.instanceMethod yX5_get, Cond.selects RX5 yX5_get yX5_get, Cond.initialized RX5, Cond.code yX5_get cX5_get 3 (some .int), Cond.fieldLink RX5 26 "IceLanesModel$State" "of" "[I", Cond.methodLink RX6 122 yX5_pass, Cond.instanceMethod yX5_pass, Cond.selects RX5 yX5_pass yX5_pass, Cond.code yX5_pass cX5_pass 3 none, Cond.fieldLink RX5 35 "IceLanesModel$State" "hour" "I", Cond.fieldLink RX5 38 "IceLanesModel$State" "couriers" "I", Cond.fieldLink RX5 3 "IceLanesModel$State" "this$0" "LIceLanesModel;", Cond.methodLink RX5 55 Lib.Math.min.name, Cond.static Lib.Math.min.name, Cond.initialized "java/lang/Math", Cond.code Lib.Math.min.name Lib.Math.min.code 2 (some .int), Cond.methodLink RX5 77 yX5_weather, Cond.instanceMethod yX5_weather, Cond.selects RX5 yX5_weather yX5_weather, Cond.code yX5_weather cX5_weather 3 none, Cond.fieldLink RX5 19 "IceLanesModel$State" "ice" "[I", Cond.methodLink RX5 60 Lib.Math.max.name]
def wsX6_arrivesAhead_r2 : List Cond := [Cond.static Lib.Math.max.name, Cond.code Lib.Math.max.name Lib.Math.max.code 2 (some .int), Cond.fieldLink RX5 23 "IceLanesModel$State" "cracks" "[I", Cond.methodLink RX5 80 yX5_listen, Cond.instanceMethod yX5_listen, Cond.selects RX5 yX5_listen yX5_listen, Cond.code yX5_listen cX5_listen 2 none, Cond.fieldLink RX5 15 "IceLanesModel$State" "thawed" "I", Cond.methodLink RX5 48 yX5_get, Cond.methodLink RX5 83 yX5_step, Cond.instanceMethod yX5_step, Cond.selects RX5 yX5_step yX5_step, Cond.code yX5_step cX5_step 3 none, Cond.fieldLink RX5 41 "IceLanesModel$State" "came" "I", Cond.methodLink RX5 70 yX5_next, Cond.instanceMethod yX5_next, Cond.selects RX5 yX5_next yX5_next, Cond.code yX5_next cX5_next 7 (some .int), Cond.methodLink RX5 63 yX5_holds, Cond.instanceMethod yX5_holds, Cond.selects RX5 yX5_holds yX5_holds, Cond.code yX5_holds cX5_holds 2 (some .int), Cond.methodLink RX5 67 yX5_load, Cond.instanceMethod yX5_load]
def wsX6_arrivesAhead_r3 : List Cond := [Cond.selects RX5 yX5_load yX5_load, Cond.code yX5_load cX5_load 2 (some .int), Cond.methodLink RX5 73 yX5_set, Cond.instanceMethod yX5_set, Cond.selects RX5 yX5_set yX5_set, Cond.code yX5_set cX5_set 4 none]
def wsX6_arrivesAhead : List Cond := .code yX6_arrivesAhead cX6_arrivesAhead 3 (some .int) :: ((wsX6_arrivesAhead_r1 ++ (wsX6_arrivesAhead_r2 ++ wsX6_arrivesAhead_r3)) ++ wsX60 ++ wsX50)
def wsX6_arrives_r1 : List Cond := [Cond.fieldLink RX6 43 "IceLanesModel" "thrown" "I", Cond.fieldLink RX6 31 "IceLanesModel" "ahead" "LIceLanesModel$State;", Cond.fieldLink RX6 27 "IceLanesModel" "s" "LIceLanesModel$State;", Cond.methodLink RX6 96 yX6_isCourier, Cond.instanceMethod yX6_isCourier, Cond.selects RX6 yX6_isCourier yX6_isCourier, Cond.initialized RX6, Cond.code yX6_isCourier cX6_isCourier 2 (some .boolean), Cond.methodLink RX6 47 yX6_isIn, Cond.static yX6_isIn, Cond.code yX6_isIn cX6_isIn 3 (some .boolean), Cond.methodLink RX6 54 yX6_no, Cond.instanceMethod yX6_no, Cond.selects RX6 yX6_no yX6_no, Cond.code yX6_no cX6_no 2 (some .int), Cond.methodLink RX6 134 yX5_become, Cond.instanceMethod yX5_become, Cond.selects RX5 yX5_become yX5_become, Cond.initialized RX5, Cond.code yX5_become cX5_become 2 none, Cond.fieldLink RX5 35 "IceLanesModel$State" "hour" "I", Cond.fieldLink RX5 38 "IceLanesModel$State" "couriers" "I", Cond.fieldLink RX5 15 "IceLanesModel$State" "thawed" "I", Cond.fieldLink RX5 41 "IceLanesModel$State" "came" "I"]
def wsX6_arrives_r2 : List Cond := [Cond.fieldLink RX5 19 "IceLanesModel$State" "ice" "[I", Cond.fieldLink RX5 23 "IceLanesModel$State" "cracks" "[I", Cond.fieldLink RX5 26 "IceLanesModel$State" "of" "[I", Cond.methodLink RX5 44 yX5_copy, Cond.instanceMethod yX5_copy, Cond.selects RX5 yX5_copy yX5_copy, Cond.code yX5_copy cX5_copy 3 none, Cond.methodLink RX5 29 arraycopyName, Cond.native arraycopyName, Cond.static arraycopyName, Cond.initialized "java/lang/System", Cond.methodLink RX6 138 yX6_arrivesAhead, Cond.instanceMethod yX6_arrivesAhead, Cond.selects RX6 yX6_arrivesAhead yX6_arrivesAhead, Cond.code yX6_arrivesAhead cX6_arrivesAhead 3 (some .int), Cond.methodLink RX6 75 yX5_get, Cond.instanceMethod yX5_get, Cond.selects RX5 yX5_get yX5_get, Cond.code yX5_get cX5_get 3 (some .int), Cond.methodLink RX6 122 yX5_pass, Cond.instanceMethod yX5_pass, Cond.selects RX5 yX5_pass yX5_pass, Cond.code yX5_pass cX5_pass 3 none, Cond.fieldLink RX5 3 "IceLanesModel$State" "this$0" "LIceLanesModel;"]
def wsX6_arrives_r3 : List Cond := [Cond.methodLink RX5 55 Lib.Math.min.name, Cond.static Lib.Math.min.name, Cond.initialized "java/lang/Math", Cond.code Lib.Math.min.name Lib.Math.min.code 2 (some .int), Cond.methodLink RX5 77 yX5_weather, Cond.instanceMethod yX5_weather, Cond.selects RX5 yX5_weather yX5_weather, Cond.code yX5_weather cX5_weather 3 none, Cond.methodLink RX5 60 Lib.Math.max.name, Cond.static Lib.Math.max.name, Cond.code Lib.Math.max.name Lib.Math.max.code 2 (some .int), Cond.methodLink RX5 80 yX5_listen, Cond.instanceMethod yX5_listen, Cond.selects RX5 yX5_listen yX5_listen, Cond.code yX5_listen cX5_listen 2 none, Cond.methodLink RX5 48 yX5_get, Cond.methodLink RX5 83 yX5_step, Cond.instanceMethod yX5_step, Cond.selects RX5 yX5_step yX5_step, Cond.code yX5_step cX5_step 3 none, Cond.methodLink RX5 70 yX5_next, Cond.instanceMethod yX5_next, Cond.selects RX5 yX5_next yX5_next, Cond.code yX5_next cX5_next 7 (some .int)]
def wsX6_arrives_r4 : List Cond := [Cond.methodLink RX5 63 yX5_holds, Cond.instanceMethod yX5_holds, Cond.selects RX5 yX5_holds yX5_holds, Cond.code yX5_holds cX5_holds 2 (some .int), Cond.methodLink RX5 67 yX5_load, Cond.instanceMethod yX5_load, Cond.selects RX5 yX5_load yX5_load, Cond.code yX5_load cX5_load 2 (some .int), Cond.methodLink RX5 73 yX5_set, Cond.instanceMethod yX5_set, Cond.selects RX5 yX5_set yX5_set, Cond.code yX5_set cX5_set 4 none]
def wsX6_arrives : List Cond := .code yX6_arrives cX6_arrives 2 (some .int) :: ((wsX6_arrives_r1 ++ (wsX6_arrives_r2 ++ (wsX6_arrives_r3 ++ wsX6_arrives_r4))) ++ wsX60 ++ wsX50)
def wsX6_best_r1 : List Cond := [Cond.fieldLink RX6 43 "IceLanesModel" "thrown" "I", Cond.fieldLink RX6 31 "IceLanesModel" "ahead" "LIceLanesModel$State;", Cond.fieldLink RX6 27 "IceLanesModel" "s" "LIceLanesModel$State;", Cond.methodLink RX6 96 yX6_isCourier, Cond.instanceMethod yX6_isCourier, Cond.selects RX6 yX6_isCourier yX6_isCourier, Cond.initialized RX6, Cond.code yX6_isCourier cX6_isCourier 2 (some .boolean), Cond.methodLink RX6 47 yX6_isIn, Cond.static yX6_isIn, Cond.code yX6_isIn cX6_isIn 3 (some .boolean), Cond.methodLink RX6 54 yX6_no, Cond.instanceMethod yX6_no, Cond.selects RX6 yX6_no yX6_no, Cond.code yX6_no cX6_no 2 (some .int), Cond.methodLink RX6 134 yX5_become, Cond.instanceMethod yX5_become, Cond.selects RX5 yX5_become yX5_become, Cond.initialized RX5, Cond.code yX5_become cX5_become 2 none, Cond.fieldLink RX5 35 "IceLanesModel$State" "hour" "I", Cond.fieldLink RX5 38 "IceLanesModel$State" "couriers" "I", Cond.fieldLink RX5 15 "IceLanesModel$State" "thawed" "I", Cond.fieldLink RX5 41 "IceLanesModel$State" "came" "I"]
def wsX6_best_r2 : List Cond := [Cond.fieldLink RX5 19 "IceLanesModel$State" "ice" "[I", Cond.fieldLink RX5 23 "IceLanesModel$State" "cracks" "[I", Cond.fieldLink RX5 26 "IceLanesModel$State" "of" "[I", Cond.methodLink RX5 44 yX5_copy, Cond.instanceMethod yX5_copy, Cond.selects RX5 yX5_copy yX5_copy, Cond.code yX5_copy cX5_copy 3 none, Cond.methodLink RX5 29 arraycopyName, Cond.native arraycopyName, Cond.static arraycopyName, Cond.initialized "java/lang/System", Cond.methodLink RX6 100 yX5_set, Cond.instanceMethod yX5_set, Cond.selects RX5 yX5_set yX5_set, Cond.code yX5_set cX5_set 4 none, Cond.methodLink RX6 138 yX6_arrivesAhead, Cond.instanceMethod yX6_arrivesAhead, Cond.selects RX6 yX6_arrivesAhead yX6_arrivesAhead, Cond.code yX6_arrivesAhead cX6_arrivesAhead 3 (some .int), Cond.methodLink RX6 75 yX5_get, Cond.instanceMethod yX5_get, Cond.selects RX5 yX5_get yX5_get, Cond.code yX5_get cX5_get 3 (some .int), Cond.methodLink RX6 122 yX5_pass]
def wsX6_best_r3 : List Cond := [Cond.instanceMethod yX5_pass, Cond.selects RX5 yX5_pass yX5_pass, Cond.code yX5_pass cX5_pass 3 none, Cond.fieldLink RX5 3 "IceLanesModel$State" "this$0" "LIceLanesModel;", Cond.methodLink RX5 55 Lib.Math.min.name, Cond.static Lib.Math.min.name, Cond.initialized "java/lang/Math", Cond.code Lib.Math.min.name Lib.Math.min.code 2 (some .int), Cond.methodLink RX5 77 yX5_weather, Cond.instanceMethod yX5_weather, Cond.selects RX5 yX5_weather yX5_weather, Cond.code yX5_weather cX5_weather 3 none, Cond.methodLink RX5 60 Lib.Math.max.name, Cond.static Lib.Math.max.name, Cond.code Lib.Math.max.name Lib.Math.max.code 2 (some .int), Cond.methodLink RX5 80 yX5_listen, Cond.instanceMethod yX5_listen, Cond.selects RX5 yX5_listen yX5_listen, Cond.code yX5_listen cX5_listen 2 none, Cond.methodLink RX5 48 yX5_get, Cond.methodLink RX5 83 yX5_step, Cond.instanceMethod yX5_step, Cond.selects RX5 yX5_step yX5_step, Cond.code yX5_step cX5_step 3 none]
def wsX6_best_r4 : List Cond := [Cond.methodLink RX5 70 yX5_next, Cond.instanceMethod yX5_next, Cond.selects RX5 yX5_next yX5_next, Cond.code yX5_next cX5_next 7 (some .int), Cond.methodLink RX5 63 yX5_holds, Cond.instanceMethod yX5_holds, Cond.selects RX5 yX5_holds yX5_holds, Cond.code yX5_holds cX5_holds 2 (some .int), Cond.methodLink RX5 67 yX5_load, Cond.instanceMethod yX5_load, Cond.selects RX5 yX5_load yX5_load, Cond.code yX5_load cX5_load 2 (some .int), Cond.methodLink RX5 73 yX5_set]
def wsX6_best : List Cond := .code yX6_best cX6_best 3 (some .int) :: ((wsX6_best_r1 ++ (wsX6_best_r2 ++ (wsX6_best_r3 ++ wsX6_best_r4))) ++ wsX60 ++ wsX50)
def wsX6_thaw_r1 : List Cond := [Cond.fieldLink RX6 43 "IceLanesModel" "thrown" "I", Cond.fieldLink RX6 31 "IceLanesModel" "ahead" "LIceLanesModel$State;", Cond.fieldLink RX6 27 "IceLanesModel" "s" "LIceLanesModel$State;", Cond.methodLink RX6 134 yX5_become, Cond.instanceMethod yX5_become, Cond.selects RX5 yX5_become yX5_become, Cond.initialized RX5, Cond.code yX5_become cX5_become 2 none, Cond.fieldLink RX5 35 "IceLanesModel$State" "hour" "I", Cond.fieldLink RX5 38 "IceLanesModel$State" "couriers" "I", Cond.fieldLink RX5 15 "IceLanesModel$State" "thawed" "I", Cond.fieldLink RX5 41 "IceLanesModel$State" "came" "I", Cond.fieldLink RX5 19 "IceLanesModel$State" "ice" "[I", Cond.fieldLink RX5 23 "IceLanesModel$State" "cracks" "[I", Cond.fieldLink RX5 26 "IceLanesModel$State" "of" "[I", Cond.methodLink RX5 44 yX5_copy, Cond.instanceMethod yX5_copy, Cond.selects RX5 yX5_copy yX5_copy, Cond.code yX5_copy cX5_copy 3 none, Cond.methodLink RX5 29 arraycopyName, Cond.native arraycopyName, Cond.static arraycopyName, Cond.initialized "java/lang/System", Cond.methodLink RX6 122 yX5_pass]
def wsX6_thaw_r2 : List Cond := [Cond.instanceMethod yX5_pass, Cond.selects RX5 yX5_pass yX5_pass, Cond.code yX5_pass cX5_pass 3 none, Cond.fieldLink RX5 3 "IceLanesModel$State" "this$0" "LIceLanesModel;", Cond.methodLink RX5 55 Lib.Math.min.name, Cond.static Lib.Math.min.name, Cond.initialized "java/lang/Math", Cond.code Lib.Math.min.name Lib.Math.min.code 2 (some .int), Cond.methodLink RX5 77 yX5_weather, Cond.instanceMethod yX5_weather, Cond.selects RX5 yX5_weather yX5_weather, Cond.code yX5_weather cX5_weather 3 none, Cond.methodLink RX5 60 Lib.Math.max.name, Cond.static Lib.Math.max.name, Cond.code Lib.Math.max.name Lib.Math.max.code 2 (some .int), Cond.methodLink RX5 80 yX5_listen, Cond.instanceMethod yX5_listen, Cond.selects RX5 yX5_listen yX5_listen, Cond.code yX5_listen cX5_listen 2 none, Cond.methodLink RX5 48 yX5_get, Cond.instanceMethod yX5_get, Cond.selects RX5 yX5_get yX5_get, Cond.code yX5_get cX5_get 3 (some .int), Cond.methodLink RX5 83 yX5_step]
def wsX6_thaw_r3 : List Cond := [Cond.instanceMethod yX5_step, Cond.selects RX5 yX5_step yX5_step, Cond.code yX5_step cX5_step 3 none, Cond.methodLink RX5 70 yX5_next, Cond.instanceMethod yX5_next, Cond.selects RX5 yX5_next yX5_next, Cond.code yX5_next cX5_next 7 (some .int), Cond.methodLink RX5 63 yX5_holds, Cond.instanceMethod yX5_holds, Cond.selects RX5 yX5_holds yX5_holds, Cond.code yX5_holds cX5_holds 2 (some .int), Cond.methodLink RX5 67 yX5_load, Cond.instanceMethod yX5_load, Cond.selects RX5 yX5_load yX5_load, Cond.code yX5_load cX5_load 2 (some .int), Cond.methodLink RX5 73 yX5_set, Cond.instanceMethod yX5_set, Cond.selects RX5 yX5_set yX5_set, Cond.code yX5_set cX5_set 4 none]
def wsX6_thaw : List Cond := .code yX6_thaw cX6_thaw 2 (some .int) :: ((wsX6_thaw_r1 ++ (wsX6_thaw_r2 ++ wsX6_thaw_r3)) ++ wsX60 ++ wsX50)
def wsX6_mean : List Cond := .code yX6_mean cX6_mean 3 (some .double) :: ([.fieldLink RX6 43 "IceLanesModel" "thrown" "I", .fieldLink RX6 27 "IceLanesModel" "s" "LIceLanesModel$State;", .constantDouble RX6 141 (4630263366890291200)] ++ wsX60 ++ wsX50)
def wsX6_digest_r1 : List Cond := [Cond.fieldLink RX6 43 "IceLanesModel" "thrown" "I", Cond.constantLong RX6 143 (757), Cond.constantLong RX6 145 (31), Cond.fieldLink RX6 9 "IceLanesModel" "warm" "[I", Cond.fieldLink RX6 27 "IceLanesModel" "s" "LIceLanesModel$State;", Cond.fieldLink RX6 13 "IceLanesModel" "hut" "[I", Cond.fieldLink RX6 107 "IceLanesModel" "wagers" "I", Cond.fieldLink RX6 16 "IceLanesModel" "day" "[I", Cond.fieldLink RX6 19 "IceLanesModel" "stake" "[I", Cond.methodLink RX6 128 yX6_counted, Cond.instanceMethod yX6_counted, Cond.selects RX6 yX6_counted yX6_counted, Cond.initialized RX6, Cond.code yX6_counted cX6_counted 6 (some .int), Cond.arrayClass .int, Cond.methodLink RX6 75 yX5_get, Cond.instanceMethod yX5_get, Cond.selects RX5 yX5_get yX5_get, Cond.initialized RX5, Cond.code yX5_get cX5_get 3 (some .int), Cond.fieldLink RX5 26 "IceLanesModel$State" "of" "[I", Cond.methodLink RX6 62 yX6_huts, Cond.instanceMethod yX6_huts, Cond.selects RX6 yX6_huts yX6_huts]
def wsX6_digest_r2 : List Cond := [Cond.code yX6_huts cX6_huts 3 (some .int), Cond.methodLink RX6 113 yX6_stakes, Cond.instanceMethod yX6_stakes, Cond.selects RX6 yX6_stakes yX6_stakes, Cond.code yX6_stakes cX6_stakes 3 (some .int), Cond.methodLink RX6 116 yX6_won, Cond.instanceMethod yX6_won, Cond.selects RX6 yX6_won yX6_won, Cond.code yX6_won cX6_won 6 (some .int), Cond.methodLink RX6 104 Lib.Math.abs.name, Cond.static Lib.Math.abs.name, Cond.initialized "java/lang/Math", Cond.code Lib.Math.abs.name Lib.Math.abs.code 1 (some .int)]
def wsX6_digest : List Cond := .code yX6_digest cX6_digest 4 (some .long) :: ((wsX6_digest_r1 ++ wsX6_digest_r2) ++ wsX60 ++ wsX50)
def wsJ9_abs_0f7a4 : List Cond := .code yJ9_abs_0f7a4 cJ9_abs_0f7a4 1 (some .int) :: ([])
def wsJ9_max_7cf53 : List Cond := .code yJ9_max_7cf53 cJ9_max_7cf53 2 (some .int) :: ([])
def wsJ9_min_7cf53 : List Cond := .code yJ9_min_7cf53 cJ9_min_7cf53 2 (some .int) :: ([])
def wsL_setWarm : List Cond := .codeWith yL_setWarm cL_setWarm 5 (some .int) [(0, 10, 13, 13), (0, 10, 17, 15)] :: ([.classLink RL 13 "java/lang/IndexOutOfBoundsException", .classLink RL 15 "java/lang/IllegalArgumentException", .methodLink RL 7 yX4_setWarm, .instanceMethod yX4_setWarm, .selects RX4 yX4_setWarm yX4_setWarm, .initialized RX4, .code yX4_setWarm cX4_setWarm 4 (some .int), .classLink RX4 30 "java/lang/IndexOutOfBoundsException", .initialized "java/lang/IndexOutOfBoundsException", .classLink RX4 37 "java/lang/IllegalArgumentException", .initialized "java/lang/IllegalArgumentException", .fieldLink RX4 12 "IceLanes" "river" "LIceLanes$River;", .methodLink RX4 26 yX4_isWithin, .static yX4_isWithin, .code yX4_isWithin cX4_isWithin 3 (some .boolean)] ++ wsX40 ++ wsX20 ++ (vx_atS RX4 34 "java/lang/IndexOutOfBoundsException" ["java/lang/RuntimeException", "java/lang/Exception"]).filter goodWord ++ (vx_atS RX4 41 "java/lang/IllegalArgumentException" ["java/lang/RuntimeException", "java/lang/Exception"]).filter goodWord)
def wsL_setIce : List Cond := .codeWith yL_setIce cL_setIce 6 (some .int) [(0, 12, 15, 13), (0, 12, 19, 15)] :: ([.classLink RL 13 "java/lang/IndexOutOfBoundsException", .classLink RL 15 "java/lang/IllegalArgumentException", .methodLink RL 17 yX4_setIce, .instanceMethod yX4_setIce, .selects RX4 yX4_setIce yX4_setIce, .initialized RX4, .code yX4_setIce cX4_setIce 6 (some .int), .classLink RX4 30 "java/lang/IndexOutOfBoundsException", .initialized "java/lang/IndexOutOfBoundsException", .classLink RX4 37 "java/lang/IllegalArgumentException", .initialized "java/lang/IllegalArgumentException", .fieldLink RX4 12 "IceLanes" "river" "LIceLanes$River;", .methodLink RX4 46 yX4_isPlace, .static yX4_isPlace, .code yX4_isPlace cX4_isPlace 2 (some .boolean), .methodLink RX4 67 yX4_isSection, .static yX4_isSection, .code yX4_isSection cX4_isSection 1 (some .boolean), .methodLink RX4 26 yX4_isWithin, .static yX4_isWithin, .code yX4_isWithin cX4_isWithin 3 (some .boolean), .methodLink RX4 54 yX4_placeOf, .static yX4_placeOf, .code yX4_placeOf cX4_placeOf 2 (some .int)] ++ wsX40 ++ wsX20 ++ wsX10 ++ (vx_atS RX4 34 "java/lang/IndexOutOfBoundsException" ["java/lang/RuntimeException", "java/lang/Exception"]).filter goodWord ++ (vx_atS RX4 41 "java/lang/IllegalArgumentException" ["java/lang/RuntimeException", "java/lang/Exception"]).filter goodWord)
def wsL_build : List Cond := .codeWith yL_build cL_build 4 (some .int) [(0, 9, 12, 13)] :: ([.classLink RL 13 "java/lang/IndexOutOfBoundsException", .methodLink RL 21 yX4_build, .instanceMethod yX4_build, .selects RX4 yX4_build yX4_build, .initialized RX4, .code yX4_build cX4_build 2 (some .int), .classLink RX4 30 "java/lang/IndexOutOfBoundsException", .initialized "java/lang/IndexOutOfBoundsException", .fieldLink RX4 12 "IceLanes" "river" "LIceLanes$River;", .methodLink RX4 67 yX4_isSection, .static yX4_isSection, .code yX4_isSection cX4_isSection 1 (some .boolean), .methodLink RX4 26 yX4_isWithin, .static yX4_isWithin, .code yX4_isWithin cX4_isWithin 3 (some .boolean), .instanceMethod yX2_huts, .initialized RX2, .selects RX2 yX2_huts yX2_huts, .code yX2_huts cX2_huts 3 (some .int), .fieldLink RX2 19 "IceLanes$River" "hut" "[I"] ++ wsX40 ++ wsX20 ++ (vx_atS RX4 34 "java/lang/IndexOutOfBoundsException" ["java/lang/RuntimeException", "java/lang/Exception"]).filter goodWord)
def wsL_place_r1 : List Cond := [Cond.classLink RL 13 "java/lang/IndexOutOfBoundsException", Cond.methodLink RL 25 yX4_place, Cond.instanceMethod yX4_place, Cond.selects RX4 yX4_place yX4_place, Cond.initialized RX4, Cond.code yX4_place cX4_place 4 (some .int), Cond.classLink RX4 30 "java/lang/IndexOutOfBoundsException", Cond.initialized "java/lang/IndexOutOfBoundsException", Cond.fieldLink RX4 12 "IceLanes" "river" "LIceLanes$River;", Cond.methodLink RX4 46 yX4_isPlace, Cond.static yX4_isPlace, Cond.code yX4_isPlace cX4_isPlace 2 (some .boolean), Cond.methodLink RX4 67 yX4_isSection, Cond.static yX4_isSection, Cond.code yX4_isSection cX4_isSection 1 (some .boolean), Cond.methodLink RX4 26 yX4_isWithin, Cond.static yX4_isWithin, Cond.code yX4_isWithin cX4_isWithin 3 (some .boolean), Cond.methodLink RX4 54 yX4_placeOf, Cond.static yX4_placeOf, Cond.code yX4_placeOf cX4_placeOf 2 (some .int), Cond.instanceMethod yX1_mostBorneAt, Cond.initialized RX1, Cond.selects RX1 yX1_mostBorneAt yX1_mostBorneAt]
def wsL_place_r2 : List Cond := [Cond.code yX1_mostBorneAt cX1_mostBorneAt 3 (some .int), Cond.methodLink RX1 31 Lib.Math.max.name, Cond.static Lib.Math.max.name, Cond.initialized "java/lang/Math", Cond.code Lib.Math.max.name Lib.Math.max.code 2 (some .int), Cond.methodLink RX1 28 yX1_soundness, Cond.instanceMethod yX1_soundness, Cond.selects RX1 yX1_soundness yX1_soundness, Cond.code yX1_soundness cX1_soundness 4 (some .int), Cond.fieldLink RX1 9 "IceLanes$Ice" "thickness" "[I", Cond.fieldLink RX1 15 "IceLanes$Ice" "cracks" "[I", Cond.instanceMethod yX0_notOutAt, Cond.initialized RX0, Cond.selects RX0 yX0_notOutAt yX0_notOutAt, Cond.code yX0_notOutAt cX0_notOutAt 6 (some .int), Cond.fieldLink RX0 39 "IceLanes$Couriers" "number" "I", Cond.fieldLink RX0 21 "IceLanes$Couriers" "section" "[I", Cond.fieldLink RX0 24 "IceLanes$Couriers" "lane" "[I", Cond.fieldLink RX0 30 "IceLanes$Couriers" "state" "[I"]
def wsL_place : List Cond := .codeWith yL_place cL_place 6 (some .int) [(0, 12, 15, 13)] :: ((wsL_place_r1 ++ wsL_place_r2) ++ wsX40 ++ wsX20 ++ wsX10 ++ wsX00 ++ (vx_atS RX4 34 "java/lang/IndexOutOfBoundsException" ["java/lang/RuntimeException", "java/lang/Exception"]).filter goodWord)
def wsL_come_r1 : List Cond := [Cond.classLink RL 13 "java/lang/IndexOutOfBoundsException", Cond.classLink RL 15 "java/lang/IllegalArgumentException", Cond.classLink RL 32 "java/lang/IllegalStateException", Cond.methodLink RL 28 yX4_come, Cond.instanceMethod yX4_come, Cond.selects RX4 yX4_come yX4_come, Cond.initialized RX4, Cond.code yX4_come cX4_come 6 (some .int), Cond.classLink RX4 30 "java/lang/IndexOutOfBoundsException", Cond.initialized "java/lang/IndexOutOfBoundsException", Cond.classLink RX4 37 "java/lang/IllegalArgumentException", Cond.initialized "java/lang/IllegalArgumentException", Cond.classLink RX4 103 "java/lang/IllegalStateException", Cond.initialized "java/lang/IllegalStateException", Cond.fieldLink RX4 12 "IceLanes" "river" "LIceLanes$River;", Cond.methodLink RX4 46 yX4_isPlace, Cond.static yX4_isPlace, Cond.code yX4_isPlace cX4_isPlace 2 (some .boolean), Cond.methodLink RX4 67 yX4_isSection, Cond.static yX4_isSection, Cond.code yX4_isSection cX4_isSection 1 (some .boolean), Cond.methodLink RX4 26 yX4_isWithin, Cond.static yX4_isWithin, Cond.code yX4_isWithin cX4_isWithin 3 (some .boolean)]
def wsL_come_r2 : List Cond := [Cond.instanceMethod yX1_holds, Cond.initialized RX1, Cond.selects RX1 yX1_holds yX1_holds, Cond.code yX1_holds cX1_holds 4 (some .boolean), Cond.methodLink RX1 28 yX1_soundness, Cond.instanceMethod yX1_soundness, Cond.selects RX1 yX1_soundness yX1_soundness, Cond.code yX1_soundness cX1_soundness 4 (some .int), Cond.fieldLink RX1 9 "IceLanes$Ice" "thickness" "[I", Cond.fieldLink RX1 15 "IceLanes$Ice" "cracks" "[I", Cond.static yX4_placeOf, Cond.code yX4_placeOf cX4_placeOf 2 (some .int), Cond.instanceMethod yX0_add, Cond.initialized RX0, Cond.selects RX0 yX0_add yX0_add, Cond.code yX0_add cX0_add 7 (some .int), Cond.fieldLink RX0 39 "IceLanes$Couriers" "number" "I", Cond.fieldLink RX0 9 "IceLanes$Couriers" "weight" "[I", Cond.fieldLink RX0 15 "IceLanes$Couriers" "letters" "[I", Cond.fieldLink RX0 18 "IceLanes$Couriers" "strength" "[I", Cond.fieldLink RX0 21 "IceLanes$Couriers" "section" "[I", Cond.fieldLink RX0 24 "IceLanes$Couriers" "lane" "[I", Cond.fieldLink RX0 27 "IceLanes$Couriers" "goal" "[I", Cond.fieldLink RX0 30 "IceLanes$Couriers" "state" "[I"]
def wsL_come_r3 : List Cond := [Cond.fieldLink RX0 33 "IceLanes$Couriers" "steps" "[I", Cond.fieldLink RX0 36 "IceLanes$Couriers" "pace" "[I"]
def wsL_come : List Cond := .codeWith yL_come cL_come 8 (some .int) [(0, 16, 19, 13), (0, 16, 23, 15), (0, 16, 27, 32)] :: ((wsL_come_r1 ++ (wsL_come_r2 ++ wsL_come_r3)) ++ wsX40 ++ wsX20 ++ wsX00 ++ wsX10 ++ (vx_atS RX4 34 "java/lang/IndexOutOfBoundsException" ["java/lang/RuntimeException", "java/lang/Exception"]).filter goodWord ++ (vx_atS RX4 41 "java/lang/IllegalArgumentException" ["java/lang/RuntimeException", "java/lang/Exception"]).filter goodWord ++ (vx_atS RX4 107 "java/lang/IllegalStateException" ["java/lang/RuntimeException", "java/lang/Exception"]).filter goodWord)
def wsL_send_r1 : List Cond := [Cond.classLink RL 13 "java/lang/IndexOutOfBoundsException", Cond.classLink RL 32 "java/lang/IllegalStateException", Cond.methodLink RL 34 yX4_send, Cond.instanceMethod yX4_send, Cond.selects RX4 yX4_send yX4_send, Cond.initialized RX4, Cond.code yX4_send cX4_send 3 (some .int), Cond.classLink RX4 30 "java/lang/IndexOutOfBoundsException", Cond.initialized "java/lang/IndexOutOfBoundsException", Cond.classLink RX4 103 "java/lang/IllegalStateException", Cond.initialized "java/lang/IllegalStateException", Cond.fieldLink RX4 12 "IceLanes" "river" "LIceLanes$River;", Cond.methodLink RX4 133 Lib.Math.abs.name, Cond.static Lib.Math.abs.name, Cond.initialized "java/lang/Math", Cond.code Lib.Math.abs.name Lib.Math.abs.code 1 (some .int), Cond.instanceMethod yX0_has, Cond.initialized RX0, Cond.selects RX0 yX0_has yX0_has, Cond.code yX0_has cX0_has 2 (some .boolean), Cond.fieldLink RX0 39 "IceLanes$Couriers" "number" "I", Cond.static yX4_isWithin, Cond.code yX4_isWithin cX4_isWithin 3 (some .boolean), Cond.methodLink RX4 67 yX4_isSection]
def wsL_send_r2 : List Cond := [Cond.static yX4_isSection, Cond.code yX4_isSection cX4_isSection 1 (some .boolean), Cond.methodLink RX4 26 yX4_isWithin]
def wsL_send : List Cond := .codeWith yL_send cL_send 5 (some .int) [(0, 10, 13, 13), (0, 10, 17, 32)] :: ((wsL_send_r1 ++ wsL_send_r2) ++ wsX40 ++ wsX20 ++ wsX00 ++ (vx_atS RX4 34 "java/lang/IndexOutOfBoundsException" ["java/lang/RuntimeException", "java/lang/Exception"]).filter goodWord ++ (vx_atS RX4 107 "java/lang/IllegalStateException" ["java/lang/RuntimeException", "java/lang/Exception"]).filter goodWord)
def wsL_load_r1 : List Cond := [Cond.classLink RL 13 "java/lang/IndexOutOfBoundsException", Cond.classLink RL 15 "java/lang/IllegalArgumentException", Cond.classLink RL 32 "java/lang/IllegalStateException", Cond.methodLink RL 37 yX4_load, Cond.instanceMethod yX4_load, Cond.selects RX4 yX4_load yX4_load, Cond.initialized RX4, Cond.code yX4_load cX4_load 4 (some .int), Cond.classLink RX4 30 "java/lang/IndexOutOfBoundsException", Cond.initialized "java/lang/IndexOutOfBoundsException", Cond.classLink RX4 37 "java/lang/IllegalArgumentException", Cond.initialized "java/lang/IllegalArgumentException", Cond.classLink RX4 103 "java/lang/IllegalStateException", Cond.initialized "java/lang/IllegalStateException", Cond.fieldLink RX4 12 "IceLanes" "river" "LIceLanes$River;", Cond.instanceMethod yX0_has, Cond.initialized RX0, Cond.selects RX0 yX0_has yX0_has, Cond.code yX0_has cX0_has 2 (some .boolean), Cond.fieldLink RX0 39 "IceLanes$Couriers" "number" "I", Cond.static yX4_isWithin, Cond.code yX4_isWithin cX4_isWithin 3 (some .boolean), Cond.methodLink RX4 26 yX4_isWithin, Cond.instanceMethod yX2_holdsCourierWith]
def wsL_load_r2 : List Cond := [Cond.initialized RX2, Cond.selects RX2 yX2_holdsCourierWith yX2_holdsCourierWith, Cond.code yX2_holdsCourierWith cX2_holdsCourierWith 4 (some .boolean), Cond.fieldLink RX2 32 "IceLanes$River" "couriers" "LIceLanes$Couriers;", Cond.fieldLink RX2 25 "IceLanes$River" "ice" "LIceLanes$Ice;", Cond.instanceMethod yX1_holds, Cond.initialized RX1, Cond.selects RX1 yX1_holds yX1_holds, Cond.code yX1_holds cX1_holds 4 (some .boolean), Cond.methodLink RX1 28 yX1_soundness, Cond.instanceMethod yX1_soundness, Cond.selects RX1 yX1_soundness yX1_soundness, Cond.code yX1_soundness cX1_soundness 4 (some .int), Cond.fieldLink RX1 9 "IceLanes$Ice" "thickness" "[I", Cond.fieldLink RX1 15 "IceLanes$Ice" "cracks" "[I", Cond.static yX4_placeOf, Cond.code yX4_placeOf cX4_placeOf 2 (some .int)]
def wsL_load : List Cond := .codeWith yL_load cL_load 5 (some .int) [(0, 10, 13, 13), (0, 10, 17, 15), (0, 10, 21, 32)] :: ((wsL_load_r1 ++ wsL_load_r2) ++ wsX40 ++ wsX20 ++ wsX00 ++ wsX10 ++ (vx_atS RX4 34 "java/lang/IndexOutOfBoundsException" ["java/lang/RuntimeException", "java/lang/Exception"]).filter goodWord ++ (vx_atS RX4 41 "java/lang/IllegalArgumentException" ["java/lang/RuntimeException", "java/lang/Exception"]).filter goodWord ++ (vx_atS RX4 107 "java/lang/IllegalStateException" ["java/lang/RuntimeException", "java/lang/Exception"]).filter goodWord)
def wsL_courier_r1 : List Cond := [Cond.classLink RL 13 "java/lang/IndexOutOfBoundsException", Cond.methodLink RL 40 yX4_courier, Cond.instanceMethod yX4_courier, Cond.selects RX4 yX4_courier yX4_courier, Cond.initialized RX4, Cond.code yX4_courier cX4_courier 3 (some .int), Cond.classLink RX4 30 "java/lang/IndexOutOfBoundsException", Cond.initialized "java/lang/IndexOutOfBoundsException", Cond.fieldLink RX4 12 "IceLanes" "river" "LIceLanes$River;", Cond.instanceMethod yX0_has, Cond.initialized RX0, Cond.selects RX0 yX0_has yX0_has, Cond.code yX0_has cX0_has 2 (some .boolean), Cond.fieldLink RX0 39 "IceLanes$Couriers" "number" "I", Cond.static yX4_isWithin, Cond.code yX4_isWithin cX4_isWithin 3 (some .boolean), Cond.methodLink RX4 26 yX4_isWithin, Cond.instanceMethod yX0_tell, Cond.selects RX0 yX0_tell yX0_tell, Cond.code yX0_tell cX0_tell 3 (some .int), Cond.fieldLink RX0 9 "IceLanes$Couriers" "weight" "[I", Cond.fieldLink RX0 15 "IceLanes$Couriers" "letters" "[I", Cond.fieldLink RX0 18 "IceLanes$Couriers" "strength" "[I", Cond.fieldLink RX0 21 "IceLanes$Couriers" "section" "[I"]
def wsL_courier_r2 : List Cond := [Cond.fieldLink RX0 24 "IceLanes$Couriers" "lane" "[I", Cond.fieldLink RX0 27 "IceLanes$Couriers" "goal" "[I", Cond.fieldLink RX0 30 "IceLanes$Couriers" "state" "[I", Cond.fieldLink RX0 33 "IceLanes$Couriers" "steps" "[I", Cond.fieldLink RX0 36 "IceLanes$Couriers" "pace" "[I"]
def wsL_courier : List Cond := .codeWith yL_courier cL_courier 5 (some .int) [(0, 10, 13, 13)] :: ((wsL_courier_r1 ++ wsL_courier_r2) ++ wsX40 ++ wsX20 ++ wsX00 ++ (vx_atS RX4 34 "java/lang/IndexOutOfBoundsException" ["java/lang/RuntimeException", "java/lang/Exception"]).filter goodWord)
def wsL_wager_r1 : List Cond := [Cond.classLink RL 15 "java/lang/IllegalArgumentException", Cond.classLink RL 32 "java/lang/IllegalStateException", Cond.methodLink RL 43 yX4_wager, Cond.instanceMethod yX4_wager, Cond.selects RX4 yX4_wager yX4_wager, Cond.initialized RX4, Cond.code yX4_wager cX4_wager 3 (some .int), Cond.classLink RX4 37 "java/lang/IllegalArgumentException", Cond.initialized "java/lang/IllegalArgumentException", Cond.classLink RX4 103 "java/lang/IllegalStateException", Cond.initialized "java/lang/IllegalStateException", Cond.fieldLink RX4 22 "IceLanes" "wagers" "LIceLanes$Wagers;", Cond.fieldLink RX4 12 "IceLanes" "river" "LIceLanes$River;", Cond.methodLink RX4 26 yX4_isWithin, Cond.static yX4_isWithin, Cond.code yX4_isWithin cX4_isWithin 3 (some .boolean), Cond.instanceMethod yX2_hasThawed, Cond.initialized RX2, Cond.selects RX2 yX2_hasThawed yX2_hasThawed, Cond.code yX2_hasThawed cX2_hasThawed 1 (some .boolean), Cond.fieldLink RX2 9 "IceLanes$River" "thawDay" "I", Cond.instanceMethod yX3_add, Cond.initialized RX3, Cond.selects RX3 yX3_add yX3_add]
def wsL_wager_r2 : List Cond := [Cond.code yX3_add cX3_add 4 (some .int), Cond.fieldLink RX3 18 "IceLanes$Wagers" "number" "I", Cond.fieldLink RX3 9 "IceLanes$Wagers" "day" "[I", Cond.fieldLink RX3 15 "IceLanes$Wagers" "stake" "[I"]
def wsL_wager : List Cond := .codeWith yL_wager cL_wager 5 (some .int) [(0, 10, 13, 15), (0, 10, 17, 32)] :: ((wsL_wager_r1 ++ wsL_wager_r2) ++ wsX40 ++ wsX30 ++ wsX20 ++ (vx_atS RX4 41 "java/lang/IllegalArgumentException" ["java/lang/RuntimeException", "java/lang/Exception"]).filter goodWord ++ (vx_atS RX4 107 "java/lang/IllegalStateException" ["java/lang/RuntimeException", "java/lang/Exception"]).filter goodWord)
def wsL_wins_r1 : List Cond := [Cond.classLink RL 13 "java/lang/IndexOutOfBoundsException", Cond.methodLink RL 46 yX4_wins, Cond.instanceMethod yX4_wins, Cond.selects RX4 yX4_wins yX4_wins, Cond.initialized RX4, Cond.code yX4_wins cX4_wins 2 (some .int), Cond.classLink RX4 30 "java/lang/IndexOutOfBoundsException", Cond.initialized "java/lang/IndexOutOfBoundsException", Cond.fieldLink RX4 22 "IceLanes" "wagers" "LIceLanes$Wagers;", Cond.instanceMethod yX3_has, Cond.initialized RX3, Cond.selects RX3 yX3_has yX3_has, Cond.code yX3_has cX3_has 2 (some .boolean), Cond.fieldLink RX3 18 "IceLanes$Wagers" "number" "I", Cond.static yX4_isWithin, Cond.code yX4_isWithin cX4_isWithin 3 (some .boolean), Cond.methodLink RX4 174 yX4_winOf, Cond.instanceMethod yX4_winOf, Cond.selects RX4 yX4_winOf yX4_winOf, Cond.code yX4_winOf cX4_winOf 2 (some .int), Cond.fieldLink RX4 12 "IceLanes" "river" "LIceLanes$River;", Cond.instanceMethod yX2_hasThawed, Cond.initialized RX2, Cond.selects RX2 yX2_hasThawed yX2_hasThawed]
def wsL_wins_r2 : List Cond := [Cond.code yX2_hasThawed cX2_hasThawed 1 (some .boolean), Cond.fieldLink RX2 9 "IceLanes$River" "thawDay" "I", Cond.instanceMethod yX3_winOn, Cond.selects RX3 yX3_winOn yX3_winOn, Cond.code yX3_winOn cX3_winOn 7 (some .int), Cond.methodLink RX3 32 yX3_daysBeside, Cond.instanceMethod yX3_daysBeside, Cond.selects RX3 yX3_daysBeside yX3_daysBeside, Cond.code yX3_daysBeside cX3_daysBeside 3 (some .int), Cond.fieldLink RX3 9 "IceLanes$Wagers" "day" "[I", Cond.methodLink RX3 26 Lib.Math.abs.name, Cond.static Lib.Math.abs.name, Cond.initialized "java/lang/Math", Cond.code Lib.Math.abs.name Lib.Math.abs.code 1 (some .int), Cond.methodLink RX3 36 yX3_allStakes, Cond.instanceMethod yX3_allStakes, Cond.selects RX3 yX3_allStakes yX3_allStakes, Cond.code yX3_allStakes cX3_allStakes 3 (some .int), Cond.fieldLink RX3 15 "IceLanes$Wagers" "stake" "[I"]
def wsL_wins : List Cond := .codeWith yL_wins cL_wins 4 (some .int) [(0, 9, 12, 13)] :: ((wsL_wins_r1 ++ wsL_wins_r2) ++ wsX40 ++ wsX30 ++ wsX20 ++ (vx_atS RX4 34 "java/lang/IndexOutOfBoundsException" ["java/lang/RuntimeException", "java/lang/Exception"]).filter goodWord)
def wsL_pass_r1 : List Cond := [Cond.classLink RL 15 "java/lang/IllegalArgumentException", Cond.methodLink RL 49 yX4_pass, Cond.instanceMethod yX4_pass, Cond.selects RX4 yX4_pass yX4_pass, Cond.initialized RX4, Cond.code yX4_pass cX4_pass 4 (some .int), Cond.classLink RX4 37 "java/lang/IllegalArgumentException", Cond.initialized "java/lang/IllegalArgumentException", Cond.fieldLink RX4 12 "IceLanes" "river" "LIceLanes$River;", Cond.methodLink RX4 26 yX4_isWithin, Cond.static yX4_isWithin, Cond.code yX4_isWithin cX4_isWithin 3 (some .boolean), Cond.instanceMethod yX2_spendHour, Cond.initialized RX2, Cond.selects RX2 yX2_spendHour yX2_spendHour, Cond.code yX2_spendHour cX2_spendHour 4 (some .int), Cond.fieldLink RX2 36 "IceLanes$River" "hour" "I", Cond.fieldLink RX2 25 "IceLanes$River" "ice" "LIceLanes$Ice;", Cond.fieldLink RX2 15 "IceLanes$River" "warm" "[I", Cond.fieldLink RX2 9 "IceLanes$River" "thawDay" "I", Cond.fieldLink RX2 32 "IceLanes$River" "couriers" "LIceLanes$Couriers;", Cond.methodLink RX2 65 yJ9_floorMod_7cf53, Cond.static yJ9_floorMod_7cf53, Cond.initialized RJ9]
def wsL_pass_r2 : List Cond := [Cond.code yJ9_floorMod_7cf53 cJ9_floorMod_7cf53 3 (some .int), Cond.instanceMethod yX1_meetDay, Cond.initialized RX1, Cond.selects RX1 yX1_meetDay yX1_meetDay, Cond.code yX1_meetDay cX1_meetDay 4 none, Cond.fieldLink RX1 9 "IceLanes$Ice" "thickness" "[I", Cond.methodLink RX1 39 Lib.Math.min.name, Cond.static Lib.Math.min.name, Cond.initialized "java/lang/Math", Cond.code Lib.Math.min.name Lib.Math.min.code 2 (some .int), Cond.methodLink RX1 31 Lib.Math.max.name, Cond.static Lib.Math.max.name, Cond.code Lib.Math.max.name Lib.Math.max.code 2 (some .int), Cond.fieldLink RX1 15 "IceLanes$Ice" "cracks" "[I", Cond.methodLink RX2 75 yX2_hasThawed, Cond.instanceMethod yX2_hasThawed, Cond.selects RX2 yX2_hasThawed yX2_hasThawed, Cond.code yX2_hasThawed cX2_hasThawed 1 (some .boolean), Cond.instanceMethod yX1_isOpenAcross, Cond.selects RX1 yX1_isOpenAcross yX1_isOpenAcross, Cond.code yX1_isOpenAcross cX1_isOpenAcross 4 (some .boolean), Cond.static yX4_placeOf, Cond.code yX4_placeOf cX4_placeOf 2 (some .int), Cond.methodLink RX2 85 yX2_travels]
def wsL_pass_r3 : List Cond := [Cond.instanceMethod yX2_travels, Cond.selects RX2 yX2_travels yX2_travels, Cond.code yX2_travels cX2_travels 3 (some .boolean), Cond.methodLink RX2 98 yX2_step, Cond.instanceMethod yX2_step, Cond.selects RX2 yX2_step yX2_step, Cond.code yX2_step cX2_step 5 none, Cond.instanceMethod yX0_loadOf, Cond.initialized RX0, Cond.selects RX0 yX0_loadOf yX0_loadOf, Cond.code yX0_loadOf cX0_loadOf 2 (some .int), Cond.fieldLink RX0 9 "IceLanes$Couriers" "weight" "[I", Cond.fieldLink RX0 15 "IceLanes$Couriers" "letters" "[I", Cond.instanceMethod yX0_nextSection, Cond.selects RX0 yX0_nextSection yX0_nextSection, Cond.code yX0_nextSection cX0_nextSection 2 (some .int), Cond.fieldLink RX0 21 "IceLanes$Couriers" "section" "[I", Cond.fieldLink RX0 27 "IceLanes$Couriers" "goal" "[I", Cond.methodLink RX0 53 yX0_isAtGoal, Cond.instanceMethod yX0_isAtGoal, Cond.selects RX0 yX0_isAtGoal yX0_isAtGoal, Cond.code yX0_isAtGoal cX0_isAtGoal 2 (some .boolean), Cond.instanceMethod yX1_laneFor, Cond.selects RX1 yX1_laneFor yX1_laneFor]
def wsL_pass_r4 : List Cond := [Cond.code yX1_laneFor cX1_laneFor 9 (some .int), Cond.methodLink RX1 28 yX1_soundness, Cond.instanceMethod yX1_soundness, Cond.selects RX1 yX1_soundness yX1_soundness, Cond.code yX1_soundness cX1_soundness 4 (some .int), Cond.instanceMethod yX1_withstands, Cond.selects RX1 yX1_withstands yX1_withstands, Cond.code yX1_withstands cX1_withstands 5 (some .boolean), Cond.methodLink RX2 89 yX2_rest, Cond.instanceMethod yX2_rest, Cond.selects RX2 yX2_rest yX2_rest, Cond.code yX2_rest cX2_rest 4 none, Cond.fieldLink RX2 19 "IceLanes$River" "hut" "[I", Cond.methodLink RX2 127 Lib.Math.min.name]
def wsL_pass : List Cond := .codeWith yL_pass cL_pass 4 (some .int) [(0, 9, 12, 15)] :: ((wsL_pass_r1 ++ (wsL_pass_r2 ++ (wsL_pass_r3 ++ wsL_pass_r4))) ++ wsX40 ++ wsX20 ++ wsX00 ++ wsX10 ++ (vx_atS RX4 41 "java/lang/IllegalArgumentException" ["java/lang/RuntimeException", "java/lang/Exception"]).filter goodWord)
def wsL_count_r1 : List Cond := [Cond.classLink RL 13 "java/lang/IndexOutOfBoundsException", Cond.methodLink RL 52 yX4_count, Cond.instanceMethod yX4_count, Cond.selects RX4 yX4_count yX4_count, Cond.initialized RX4, Cond.code yX4_count cX4_count 2 (some .int), Cond.classLink RX4 30 "java/lang/IndexOutOfBoundsException", Cond.initialized "java/lang/IndexOutOfBoundsException", Cond.methodLink RX4 26 yX4_isWithin, Cond.static yX4_isWithin, Cond.code yX4_isWithin cX4_isWithin 3 (some .boolean), Cond.methodLink RX4 184 yX4_counted, Cond.instanceMethod yX4_counted, Cond.selects RX4 yX4_counted yX4_counted, Cond.code yX4_counted cX4_counted 2 (some .int), Cond.fieldLink RX4 12 "IceLanes" "river" "LIceLanes$River;", Cond.fieldLink RX4 22 "IceLanes" "wagers" "LIceLanes$Wagers;", Cond.instanceMethod yX0_numberWhose, Cond.initialized RX0, Cond.selects RX0 yX0_numberWhose yX0_numberWhose, Cond.code yX0_numberWhose cX0_numberWhose 4 (some .int), Cond.fieldLink RX0 39 "IceLanes$Couriers" "number" "I", Cond.fieldLink RX0 30 "IceLanes$Couriers" "state" "[I", Cond.instanceMethod yX1_cracksInAll]
def wsL_count_r2 : List Cond := [Cond.initialized RX1, Cond.selects RX1 yX1_cracksInAll yX1_cracksInAll, Cond.code yX1_cracksInAll cX1_cracksInAll 3 (some .int), Cond.fieldLink RX1 15 "IceLanes$Ice" "cracks" "[I", Cond.instanceMethod yX1_placesOfOpenWater, Cond.selects RX1 yX1_placesOfOpenWater yX1_placesOfOpenWater, Cond.code yX1_placesOfOpenWater cX1_placesOfOpenWater 3 (some .int), Cond.fieldLink RX1 9 "IceLanes$Ice" "thickness" "[I", Cond.instanceMethod yX2_huts, Cond.initialized RX2, Cond.selects RX2 yX2_huts yX2_huts, Cond.code yX2_huts cX2_huts 3 (some .int), Cond.fieldLink RX2 19 "IceLanes$River" "hut" "[I", Cond.instanceMethod yX3_allStakes, Cond.initialized RX3, Cond.selects RX3 yX3_allStakes yX3_allStakes, Cond.code yX3_allStakes cX3_allStakes 3 (some .int), Cond.fieldLink RX3 18 "IceLanes$Wagers" "number" "I", Cond.fieldLink RX3 15 "IceLanes$Wagers" "stake" "[I"]
def wsL_count : List Cond := .codeWith yL_count cL_count 4 (some .int) [(0, 9, 12, 13)] :: ((wsL_count_r1 ++ wsL_count_r2) ++ wsX40 ++ wsX20 ++ wsX00 ++ wsX30 ++ wsX10 ++ (vx_atS RX4 34 "java/lang/IndexOutOfBoundsException" ["java/lang/RuntimeException", "java/lang/Exception"]).filter goodWord)
def wsL_bears_r1 : List Cond := [Cond.classLink RL 13 "java/lang/IndexOutOfBoundsException", Cond.methodLink RL 55 yX4_bears, Cond.instanceMethod yX4_bears, Cond.selects RX4 yX4_bears yX4_bears, Cond.initialized RX4, Cond.code yX4_bears cX4_bears 3 (some .int), Cond.classLink RX4 30 "java/lang/IndexOutOfBoundsException", Cond.initialized "java/lang/IndexOutOfBoundsException", Cond.fieldLink RX4 12 "IceLanes" "river" "LIceLanes$River;", Cond.methodLink RX4 187 Lib.Math.min.name, Cond.static Lib.Math.min.name, Cond.initialized "java/lang/Math", Cond.code Lib.Math.min.name Lib.Math.min.code 2 (some .int), Cond.methodLink RX4 190 Lib.Math.max.name, Cond.static Lib.Math.max.name, Cond.code Lib.Math.max.name Lib.Math.max.code 2 (some .int), Cond.methodLink RX4 67 yX4_isSection, Cond.static yX4_isSection, Cond.code yX4_isSection cX4_isSection 1 (some .boolean), Cond.methodLink RX4 26 yX4_isWithin, Cond.static yX4_isWithin, Cond.code yX4_isWithin cX4_isWithin 3 (some .boolean), Cond.instanceMethod yX1_mostBorneBetween, Cond.initialized RX1]
def wsL_bears_r2 : List Cond := [Cond.selects RX1 yX1_mostBorneBetween yX1_mostBorneBetween, Cond.code yX1_mostBorneBetween cX1_mostBorneBetween 9 (some .int), Cond.methodLink RX1 31 Lib.Math.max.name, Cond.methodLink RX1 39 Lib.Math.min.name, Cond.methodLink RX1 36 yX1_mostBorneAt, Cond.instanceMethod yX1_mostBorneAt, Cond.selects RX1 yX1_mostBorneAt yX1_mostBorneAt, Cond.code yX1_mostBorneAt cX1_mostBorneAt 3 (some .int), Cond.methodLink RX1 28 yX1_soundness, Cond.instanceMethod yX1_soundness, Cond.selects RX1 yX1_soundness yX1_soundness, Cond.code yX1_soundness cX1_soundness 4 (some .int), Cond.fieldLink RX1 9 "IceLanes$Ice" "thickness" "[I", Cond.fieldLink RX1 15 "IceLanes$Ice" "cracks" "[I", Cond.static yX4_placeOf, Cond.code yX4_placeOf cX4_placeOf 2 (some .int)]
def wsL_bears : List Cond := .codeWith yL_bears cL_bears 5 (some .int) [(0, 10, 13, 13)] :: ((wsL_bears_r1 ++ wsL_bears_r2) ++ wsX40 ++ wsX20 ++ wsX10 ++ (vx_atS RX4 34 "java/lang/IndexOutOfBoundsException" ["java/lang/RuntimeException", "java/lang/Exception"]).filter goodWord)
def wsL_arrives_r1 : List Cond := [Cond.classLink RL 13 "java/lang/IndexOutOfBoundsException", Cond.methodLink RL 58 yX4_arrives, Cond.instanceMethod yX4_arrives, Cond.selects RX4 yX4_arrives yX4_arrives, Cond.initialized RX4, Cond.code yX4_arrives cX4_arrives 2 (some .int), Cond.classLink RX4 30 "java/lang/IndexOutOfBoundsException", Cond.initialized "java/lang/IndexOutOfBoundsException", Cond.fieldLink RX4 12 "IceLanes" "river" "LIceLanes$River;", Cond.fieldLink RX4 16 "IceLanes" "ahead" "LIceLanes$River;", Cond.instanceMethod yX0_has, Cond.initialized RX0, Cond.selects RX0 yX0_has yX0_has, Cond.code yX0_has cX0_has 2 (some .boolean), Cond.fieldLink RX0 39 "IceLanes$Couriers" "number" "I", Cond.static yX4_isWithin, Cond.code yX4_isWithin cX4_isWithin 3 (some .boolean), Cond.instanceMethod yX2_become, Cond.initialized RX2, Cond.selects RX2 yX2_become yX2_become, Cond.code yX2_become cX2_become 2 none, Cond.fieldLink RX2 36 "IceLanes$River" "hour" "I", Cond.fieldLink RX2 9 "IceLanes$River" "thawDay" "I", Cond.fieldLink RX2 15 "IceLanes$River" "warm" "[I"]
def wsL_arrives_r2 : List Cond := [Cond.methodLink RX2 39 arraycopyName, Cond.native arraycopyName, Cond.static arraycopyName, Cond.initialized "java/lang/System", Cond.fieldLink RX2 19 "IceLanes$River" "hut" "[I", Cond.fieldLink RX2 25 "IceLanes$River" "ice" "LIceLanes$Ice;", Cond.fieldLink RX2 32 "IceLanes$River" "couriers" "LIceLanes$Couriers;", Cond.instanceMethod yX1_become, Cond.initialized RX1, Cond.selects RX1 yX1_become yX1_become, Cond.code yX1_become cX1_become 2 none, Cond.fieldLink RX1 9 "IceLanes$Ice" "thickness" "[I", Cond.methodLink RX1 18 arraycopyName, Cond.fieldLink RX1 15 "IceLanes$Ice" "cracks" "[I", Cond.instanceMethod yX0_become, Cond.selects RX0 yX0_become yX0_become, Cond.code yX0_become cX0_become 2 none, Cond.fieldLink RX0 9 "IceLanes$Couriers" "weight" "[I", Cond.methodLink RX0 43 arraycopyName, Cond.fieldLink RX0 15 "IceLanes$Couriers" "letters" "[I", Cond.fieldLink RX0 18 "IceLanes$Couriers" "strength" "[I", Cond.fieldLink RX0 21 "IceLanes$Couriers" "section" "[I", Cond.fieldLink RX0 24 "IceLanes$Couriers" "lane" "[I", Cond.fieldLink RX0 27 "IceLanes$Couriers" "goal" "[I"]
def wsL_arrives_r3 : List Cond := [Cond.fieldLink RX0 30 "IceLanes$Couriers" "state" "[I", Cond.fieldLink RX0 33 "IceLanes$Couriers" "steps" "[I", Cond.fieldLink RX0 36 "IceLanes$Couriers" "pace" "[I", Cond.instanceMethod yX2_hoursTillArrival, Cond.selects RX2 yX2_hoursTillArrival yX2_hoursTillArrival, Cond.code yX2_hoursTillArrival cX2_hoursTillArrival 3 (some .int), Cond.instanceMethod yX0_isAtGoal, Cond.selects RX0 yX0_isAtGoal yX0_isAtGoal, Cond.code yX0_isAtGoal cX0_isAtGoal 2 (some .boolean), Cond.methodLink RX2 130 yX2_spendHour, Cond.instanceMethod yX2_spendHour, Cond.selects RX2 yX2_spendHour yX2_spendHour, Cond.code yX2_spendHour cX2_spendHour 4 (some .int), Cond.methodLink RX2 65 yJ9_floorMod_7cf53, Cond.static yJ9_floorMod_7cf53, Cond.initialized RJ9, Cond.code yJ9_floorMod_7cf53 cJ9_floorMod_7cf53 3 (some .int), Cond.instanceMethod yX1_meetDay, Cond.selects RX1 yX1_meetDay yX1_meetDay, Cond.code yX1_meetDay cX1_meetDay 4 none, Cond.methodLink RX1 39 Lib.Math.min.name, Cond.static Lib.Math.min.name, Cond.initialized "java/lang/Math", Cond.code Lib.Math.min.name Lib.Math.min.code 2 (some .int)]
def wsL_arrives_r4 : List Cond := [Cond.methodLink RX1 31 Lib.Math.max.name, Cond.static Lib.Math.max.name, Cond.code Lib.Math.max.name Lib.Math.max.code 2 (some .int), Cond.methodLink RX2 75 yX2_hasThawed, Cond.instanceMethod yX2_hasThawed, Cond.selects RX2 yX2_hasThawed yX2_hasThawed, Cond.code yX2_hasThawed cX2_hasThawed 1 (some .boolean), Cond.instanceMethod yX1_isOpenAcross, Cond.selects RX1 yX1_isOpenAcross yX1_isOpenAcross, Cond.code yX1_isOpenAcross cX1_isOpenAcross 4 (some .boolean), Cond.static yX4_placeOf, Cond.code yX4_placeOf cX4_placeOf 2 (some .int), Cond.methodLink RX2 85 yX2_travels, Cond.instanceMethod yX2_travels, Cond.selects RX2 yX2_travels yX2_travels, Cond.code yX2_travels cX2_travels 3 (some .boolean), Cond.methodLink RX2 98 yX2_step, Cond.instanceMethod yX2_step, Cond.selects RX2 yX2_step yX2_step, Cond.code yX2_step cX2_step 5 none, Cond.instanceMethod yX0_loadOf, Cond.selects RX0 yX0_loadOf yX0_loadOf, Cond.code yX0_loadOf cX0_loadOf 2 (some .int), Cond.instanceMethod yX0_nextSection]
def wsL_arrives_r5 : List Cond := [Cond.selects RX0 yX0_nextSection yX0_nextSection, Cond.code yX0_nextSection cX0_nextSection 2 (some .int), Cond.methodLink RX0 53 yX0_isAtGoal, Cond.instanceMethod yX1_laneFor, Cond.selects RX1 yX1_laneFor yX1_laneFor, Cond.code yX1_laneFor cX1_laneFor 9 (some .int), Cond.methodLink RX1 28 yX1_soundness, Cond.instanceMethod yX1_soundness, Cond.selects RX1 yX1_soundness yX1_soundness, Cond.code yX1_soundness cX1_soundness 4 (some .int), Cond.instanceMethod yX1_withstands, Cond.selects RX1 yX1_withstands yX1_withstands, Cond.code yX1_withstands cX1_withstands 5 (some .boolean), Cond.methodLink RX2 89 yX2_rest, Cond.instanceMethod yX2_rest, Cond.selects RX2 yX2_rest yX2_rest, Cond.code yX2_rest cX2_rest 4 none, Cond.methodLink RX2 127 Lib.Math.min.name]
def wsL_arrives : List Cond := .codeWith yL_arrives cL_arrives 4 (some .int) [(0, 9, 12, 13)] :: ((wsL_arrives_r1 ++ (wsL_arrives_r2 ++ (wsL_arrives_r3 ++ (wsL_arrives_r4 ++ wsL_arrives_r5)))) ++ wsX40 ++ wsX20 ++ wsX00 ++ wsX10 ++ (vx_atS RX4 34 "java/lang/IndexOutOfBoundsException" ["java/lang/RuntimeException", "java/lang/Exception"]).filter goodWord)
def wsL_best_r1 : List Cond := [Cond.classLink RL 13 "java/lang/IndexOutOfBoundsException", Cond.methodLink RL 61 yX4_best, Cond.instanceMethod yX4_best, Cond.selects RX4 yX4_best yX4_best, Cond.initialized RX4, Cond.code yX4_best cX4_best 3 (some .int), Cond.classLink RX4 30 "java/lang/IndexOutOfBoundsException", Cond.initialized "java/lang/IndexOutOfBoundsException", Cond.fieldLink RX4 12 "IceLanes" "river" "LIceLanes$River;", Cond.fieldLink RX4 16 "IceLanes" "ahead" "LIceLanes$River;", Cond.instanceMethod yX0_has, Cond.initialized RX0, Cond.selects RX0 yX0_has yX0_has, Cond.code yX0_has cX0_has 2 (some .boolean), Cond.fieldLink RX0 39 "IceLanes$Couriers" "number" "I", Cond.static yX4_isWithin, Cond.code yX4_isWithin cX4_isWithin 3 (some .boolean), Cond.instanceMethod yX2_become, Cond.initialized RX2, Cond.selects RX2 yX2_become yX2_become, Cond.code yX2_become cX2_become 2 none, Cond.fieldLink RX2 36 "IceLanes$River" "hour" "I", Cond.fieldLink RX2 9 "IceLanes$River" "thawDay" "I", Cond.fieldLink RX2 15 "IceLanes$River" "warm" "[I"]
def wsL_best_r2 : List Cond := [Cond.methodLink RX2 39 arraycopyName, Cond.native arraycopyName, Cond.static arraycopyName, Cond.initialized "java/lang/System", Cond.fieldLink RX2 19 "IceLanes$River" "hut" "[I", Cond.fieldLink RX2 25 "IceLanes$River" "ice" "LIceLanes$Ice;", Cond.fieldLink RX2 32 "IceLanes$River" "couriers" "LIceLanes$Couriers;", Cond.instanceMethod yX1_become, Cond.initialized RX1, Cond.selects RX1 yX1_become yX1_become, Cond.code yX1_become cX1_become 2 none, Cond.fieldLink RX1 9 "IceLanes$Ice" "thickness" "[I", Cond.methodLink RX1 18 arraycopyName, Cond.fieldLink RX1 15 "IceLanes$Ice" "cracks" "[I", Cond.instanceMethod yX0_become, Cond.selects RX0 yX0_become yX0_become, Cond.code yX0_become cX0_become 2 none, Cond.fieldLink RX0 9 "IceLanes$Couriers" "weight" "[I", Cond.methodLink RX0 43 arraycopyName, Cond.fieldLink RX0 15 "IceLanes$Couriers" "letters" "[I", Cond.fieldLink RX0 18 "IceLanes$Couriers" "strength" "[I", Cond.fieldLink RX0 21 "IceLanes$Couriers" "section" "[I", Cond.fieldLink RX0 24 "IceLanes$Couriers" "lane" "[I", Cond.fieldLink RX0 27 "IceLanes$Couriers" "goal" "[I"]
def wsL_best_r3 : List Cond := [Cond.fieldLink RX0 30 "IceLanes$Couriers" "state" "[I", Cond.fieldLink RX0 33 "IceLanes$Couriers" "steps" "[I", Cond.fieldLink RX0 36 "IceLanes$Couriers" "pace" "[I", Cond.instanceMethod yX2_hoursTillArrival, Cond.selects RX2 yX2_hoursTillArrival yX2_hoursTillArrival, Cond.code yX2_hoursTillArrival cX2_hoursTillArrival 3 (some .int), Cond.instanceMethod yX0_isAtGoal, Cond.selects RX0 yX0_isAtGoal yX0_isAtGoal, Cond.code yX0_isAtGoal cX0_isAtGoal 2 (some .boolean), Cond.methodLink RX2 130 yX2_spendHour, Cond.instanceMethod yX2_spendHour, Cond.selects RX2 yX2_spendHour yX2_spendHour, Cond.code yX2_spendHour cX2_spendHour 4 (some .int), Cond.methodLink RX2 65 yJ9_floorMod_7cf53, Cond.static yJ9_floorMod_7cf53, Cond.initialized RJ9, Cond.code yJ9_floorMod_7cf53 cJ9_floorMod_7cf53 3 (some .int), Cond.instanceMethod yX1_meetDay, Cond.selects RX1 yX1_meetDay yX1_meetDay, Cond.code yX1_meetDay cX1_meetDay 4 none, Cond.methodLink RX1 39 Lib.Math.min.name, Cond.static Lib.Math.min.name, Cond.initialized "java/lang/Math", Cond.code Lib.Math.min.name Lib.Math.min.code 2 (some .int)]
def wsL_best_r4 : List Cond := [Cond.methodLink RX1 31 Lib.Math.max.name, Cond.static Lib.Math.max.name, Cond.code Lib.Math.max.name Lib.Math.max.code 2 (some .int), Cond.methodLink RX2 75 yX2_hasThawed, Cond.instanceMethod yX2_hasThawed, Cond.selects RX2 yX2_hasThawed yX2_hasThawed, Cond.code yX2_hasThawed cX2_hasThawed 1 (some .boolean), Cond.instanceMethod yX1_isOpenAcross, Cond.selects RX1 yX1_isOpenAcross yX1_isOpenAcross, Cond.code yX1_isOpenAcross cX1_isOpenAcross 4 (some .boolean), Cond.static yX4_placeOf, Cond.code yX4_placeOf cX4_placeOf 2 (some .int), Cond.methodLink RX2 85 yX2_travels, Cond.instanceMethod yX2_travels, Cond.selects RX2 yX2_travels yX2_travels, Cond.code yX2_travels cX2_travels 3 (some .boolean), Cond.methodLink RX2 98 yX2_step, Cond.instanceMethod yX2_step, Cond.selects RX2 yX2_step yX2_step, Cond.code yX2_step cX2_step 5 none, Cond.instanceMethod yX0_loadOf, Cond.selects RX0 yX0_loadOf yX0_loadOf, Cond.code yX0_loadOf cX0_loadOf 2 (some .int), Cond.instanceMethod yX0_nextSection]
def wsL_best_r5 : List Cond := [Cond.selects RX0 yX0_nextSection yX0_nextSection, Cond.code yX0_nextSection cX0_nextSection 2 (some .int), Cond.methodLink RX0 53 yX0_isAtGoal, Cond.instanceMethod yX1_laneFor, Cond.selects RX1 yX1_laneFor yX1_laneFor, Cond.code yX1_laneFor cX1_laneFor 9 (some .int), Cond.methodLink RX1 28 yX1_soundness, Cond.instanceMethod yX1_soundness, Cond.selects RX1 yX1_soundness yX1_soundness, Cond.code yX1_soundness cX1_soundness 4 (some .int), Cond.instanceMethod yX1_withstands, Cond.selects RX1 yX1_withstands yX1_withstands, Cond.code yX1_withstands cX1_withstands 5 (some .boolean), Cond.methodLink RX2 89 yX2_rest, Cond.instanceMethod yX2_rest, Cond.selects RX2 yX2_rest yX2_rest, Cond.code yX2_rest cX2_rest 4 none, Cond.methodLink RX2 127 Lib.Math.min.name]
def wsL_best : List Cond := .codeWith yL_best cL_best 4 (some .int) [(0, 9, 12, 13)] :: ((wsL_best_r1 ++ (wsL_best_r2 ++ (wsL_best_r3 ++ (wsL_best_r4 ++ wsL_best_r5)))) ++ wsX40 ++ wsX20 ++ wsX00 ++ wsX10 ++ (vx_atS RX4 34 "java/lang/IndexOutOfBoundsException" ["java/lang/RuntimeException", "java/lang/Exception"]).filter goodWord)
def wsL_law0_r1 : List Cond := [Cond.classLink RL 8 RX4, Cond.instantiable RX4 3, Cond.initialized RX4, Cond.classLink RL 65 RX6, Cond.instantiable RX6 8, Cond.initialized RX6, Cond.arrayClass .long, Cond.methodLink RL 64 yX4_init, Cond.instanceMethod yX4_init, Cond.code yX4_init cX4_init 1 none, Cond.methodLink RX4 3 objectInit, Cond.instanceMethod objectInit, Cond.code objectInit ⟨#[0xb1]⟩ 1 none, Cond.classLink RX4 9 RX2, Cond.instantiable RX2 6, Cond.initialized RX2, Cond.fieldLink RX4 12 "IceLanes" "river" "LIceLanes$River;", Cond.fieldLink RX4 16 "IceLanes" "ahead" "LIceLanes$River;", Cond.classLink RX4 19 RX3, Cond.instantiable RX3 3, Cond.initialized RX3, Cond.fieldLink RX4 22 "IceLanes" "wagers" "LIceLanes$Wagers;", Cond.instanceMethod yX2_init, Cond.code yX2_init cX2_init 2 none]
def wsL_law0_r2 : List Cond := [Cond.methodLink RX2 3 objectInit, Cond.fieldLink RX2 9 "IceLanes$River" "thawDay" "I", Cond.arrayClass .int, Cond.fieldLink RX2 15 "IceLanes$River" "warm" "[I", Cond.fieldLink RX2 19 "IceLanes$River" "hut" "[I", Cond.classLink RX2 22 RX1, Cond.instantiable RX1 2, Cond.initialized RX1, Cond.fieldLink RX2 25 "IceLanes$River" "ice" "LIceLanes$Ice;", Cond.classLink RX2 29 RX0, Cond.instantiable RX0 10, Cond.initialized RX0, Cond.fieldLink RX2 32 "IceLanes$River" "couriers" "LIceLanes$Couriers;", Cond.instanceMethod yX1_init, Cond.code yX1_init cX1_init 2 none, Cond.methodLink RX1 3 objectInit, Cond.fieldLink RX1 9 "IceLanes$Ice" "thickness" "[I", Cond.fieldLink RX1 15 "IceLanes$Ice" "cracks" "[I", Cond.instanceMethod yX0_init, Cond.code yX0_init cX0_init 1 none, Cond.methodLink RX0 3 objectInit, Cond.fieldLink RX0 9 "IceLanes$Couriers" "weight" "[I", Cond.fieldLink RX0 15 "IceLanes$Couriers" "letters" "[I", Cond.fieldLink RX0 18 "IceLanes$Couriers" "strength" "[I"]
def wsL_law0_r3 : List Cond := [Cond.fieldLink RX0 21 "IceLanes$Couriers" "section" "[I", Cond.fieldLink RX0 24 "IceLanes$Couriers" "lane" "[I", Cond.fieldLink RX0 27 "IceLanes$Couriers" "goal" "[I", Cond.fieldLink RX0 30 "IceLanes$Couriers" "state" "[I", Cond.fieldLink RX0 33 "IceLanes$Couriers" "steps" "[I", Cond.fieldLink RX0 36 "IceLanes$Couriers" "pace" "[I", Cond.instanceMethod yX3_init, Cond.code yX3_init cX3_init 1 none, Cond.methodLink RX3 3 objectInit, Cond.fieldLink RX3 9 "IceLanes$Wagers" "day" "[I", Cond.fieldLink RX3 15 "IceLanes$Wagers" "stake" "[I", Cond.methodLink RL 67 yX6_init, Cond.instanceMethod yX6_init, Cond.code yX6_init cX6_init 1 none, Cond.methodLink RX6 1 objectInit, Cond.fieldLink RX6 9 "IceLanesModel" "warm" "[I", Cond.fieldLink RX6 13 "IceLanesModel" "hut" "[I", Cond.fieldLink RX6 16 "IceLanesModel" "day" "[I", Cond.fieldLink RX6 19 "IceLanesModel" "stake" "[I", Cond.classLink RX6 22 RX5, Cond.instantiable RX5 8, Cond.initialized RX5, Cond.fieldLink RX6 27 "IceLanesModel" "s" "LIceLanesModel$State;", Cond.fieldLink RX6 31 "IceLanesModel" "ahead" "LIceLanesModel$State;"]
def wsL_law0_r4 : List Cond := [Cond.instanceMethod yX5_init, Cond.code yX5_init cX5_init 2 none, Cond.fieldLink RX5 3 "IceLanesModel$State" "this$0" "LIceLanesModel;", Cond.methodLink RX5 9 objectInit, Cond.fieldLink RX5 15 "IceLanesModel$State" "thawed" "I", Cond.fieldLink RX5 19 "IceLanesModel$State" "ice" "[I", Cond.fieldLink RX5 23 "IceLanesModel$State" "cracks" "[I", Cond.fieldLink RX5 26 "IceLanesModel$State" "of" "[I", Cond.methodLink RX6 34 yJ7_fill_53178, Cond.static yJ7_fill_53178, Cond.initialized RJ7, Cond.code yJ7_fill_53178 cJ7_fill_53178 4 none, Cond.methodLink RL 68 yL_setWarm, Cond.static yL_setWarm, Cond.initialized RL, Cond.codeWith yL_setWarm cL_setWarm 5 (some .int) [(0, 10, 13, 13), (0, 10, 17, 15)], Cond.classLink RL 13 "java/lang/IndexOutOfBoundsException", Cond.classLink RL 15 "java/lang/IllegalArgumentException", Cond.methodLink RL 7 yX4_setWarm, Cond.instanceMethod yX4_setWarm, Cond.selects RX4 yX4_setWarm yX4_setWarm, Cond.code yX4_setWarm cX4_setWarm 4 (some .int), Cond.classLink RX4 30 "java/lang/IndexOutOfBoundsException", Cond.initialized "java/lang/IndexOutOfBoundsException"]
def wsL_law0_r5 : List Cond := [Cond.classLink RX4 37 "java/lang/IllegalArgumentException", Cond.initialized "java/lang/IllegalArgumentException", Cond.methodLink RX4 26 yX4_isWithin, Cond.static yX4_isWithin, Cond.code yX4_isWithin cX4_isWithin 3 (some .boolean), Cond.methodLink RL 73 yX6_setWarm, Cond.instanceMethod yX6_setWarm, Cond.selects RX6 yX6_setWarm yX6_setWarm, Cond.code yX6_setWarm cX6_setWarm 4 (some .int), Cond.fieldLink RX6 43 "IceLanesModel" "thrown" "I", Cond.methodLink RX6 47 yX6_isIn, Cond.static yX6_isIn, Cond.code yX6_isIn cX6_isIn 3 (some .boolean), Cond.methodLink RX6 54 yX6_no, Cond.instanceMethod yX6_no, Cond.selects RX6 yX6_no yX6_no, Cond.code yX6_no cX6_no 2 (some .int), Cond.methodLink RL 74 yX6_thrown, Cond.instanceMethod yX6_thrown, Cond.selects RX6 yX6_thrown yX6_thrown, Cond.code yX6_thrown cX6_thrown 1 (some .int), Cond.methodLink RL 78 yL_setIce, Cond.static yL_setIce, Cond.codeWith yL_setIce cL_setIce 6 (some .int) [(0, 12, 15, 13), (0, 12, 19, 15)]]
def wsL_law0_r6 : List Cond := [Cond.methodLink RL 17 yX4_setIce, Cond.instanceMethod yX4_setIce, Cond.selects RX4 yX4_setIce yX4_setIce, Cond.code yX4_setIce cX4_setIce 6 (some .int), Cond.methodLink RX4 46 yX4_isPlace, Cond.static yX4_isPlace, Cond.code yX4_isPlace cX4_isPlace 2 (some .boolean), Cond.methodLink RX4 67 yX4_isSection, Cond.static yX4_isSection, Cond.code yX4_isSection cX4_isSection 1 (some .boolean), Cond.methodLink RX4 54 yX4_placeOf, Cond.static yX4_placeOf, Cond.code yX4_placeOf cX4_placeOf 2 (some .int), Cond.methodLink RL 81 yX6_setIce, Cond.instanceMethod yX6_setIce, Cond.selects RX6 yX6_setIce yX6_setIce, Cond.code yX6_setIce cX6_setIce 5 (some .int), Cond.methodLink RX6 58 yX6_isPlace, Cond.static yX6_isPlace, Cond.code yX6_isPlace cX6_isPlace 2 (some .boolean), Cond.methodLink RL 82 yL_build, Cond.static yL_build, Cond.codeWith yL_build cL_build 4 (some .int) [(0, 9, 12, 13)], Cond.methodLink RL 21 yX4_build]
def wsL_law0_r7 : List Cond := [Cond.instanceMethod yX4_build, Cond.selects RX4 yX4_build yX4_build, Cond.code yX4_build cX4_build 2 (some .int), Cond.instanceMethod yX2_huts, Cond.selects RX2 yX2_huts yX2_huts, Cond.code yX2_huts cX2_huts 3 (some .int), Cond.methodLink RL 85 yX6_build, Cond.instanceMethod yX6_build, Cond.selects RX6 yX6_build yX6_build, Cond.code yX6_build cX6_build 2 (some .int), Cond.methodLink RX6 62 yX6_huts, Cond.instanceMethod yX6_huts, Cond.selects RX6 yX6_huts yX6_huts, Cond.code yX6_huts cX6_huts 3 (some .int), Cond.methodLink RL 86 yL_place, Cond.static yL_place, Cond.codeWith yL_place cL_place 6 (some .int) [(0, 12, 15, 13)], Cond.methodLink RL 25 yX4_place, Cond.instanceMethod yX4_place, Cond.selects RX4 yX4_place yX4_place, Cond.code yX4_place cX4_place 4 (some .int), Cond.instanceMethod yX1_mostBorneAt, Cond.selects RX1 yX1_mostBorneAt yX1_mostBorneAt, Cond.code yX1_mostBorneAt cX1_mostBorneAt 3 (some .int)]
def wsL_law0_r8 : List Cond := [Cond.methodLink RX1 31 Lib.Math.max.name, Cond.static Lib.Math.max.name, Cond.initialized "java/lang/Math", Cond.code Lib.Math.max.name Lib.Math.max.code 2 (some .int), Cond.methodLink RX1 28 yX1_soundness, Cond.instanceMethod yX1_soundness, Cond.selects RX1 yX1_soundness yX1_soundness, Cond.code yX1_soundness cX1_soundness 4 (some .int), Cond.instanceMethod yX0_notOutAt, Cond.selects RX0 yX0_notOutAt yX0_notOutAt, Cond.code yX0_notOutAt cX0_notOutAt 6 (some .int), Cond.fieldLink RX0 39 "IceLanes$Couriers" "number" "I", Cond.methodLink RL 88 yX6_place, Cond.instanceMethod yX6_place, Cond.selects RX6 yX6_place yX6_place, Cond.code yX6_place cX6_place 4 (some .int), Cond.methodLink RX6 84 yX6_placeTold, Cond.instanceMethod yX6_placeTold, Cond.selects RX6 yX6_placeTold yX6_placeTold, Cond.code yX6_placeTold cX6_placeTold 5 (some .int), Cond.methodLink RX6 75 yX5_get, Cond.instanceMethod yX5_get, Cond.selects RX5 yX5_get yX5_get, Cond.code yX5_get cX5_get 3 (some .int)]
def wsL_law0_r9 : List Cond := [Cond.methodLink RX6 81 yX6_borne, Cond.instanceMethod yX6_borne, Cond.selects RX6 yX6_borne yX6_borne, Cond.code yX6_borne cX6_borne 2 (some .int), Cond.methodLink RX6 69 Lib.Math.max.name, Cond.methodLink RX6 66 yX5_holds, Cond.instanceMethod yX5_holds, Cond.selects RX5 yX5_holds yX5_holds, Cond.code yX5_holds cX5_holds 2 (some .int), Cond.methodLink RL 89 yL_come, Cond.static yL_come, Cond.codeWith yL_come cL_come 8 (some .int) [(0, 16, 19, 13), (0, 16, 23, 15), (0, 16, 27, 32)], Cond.classLink RL 32 "java/lang/IllegalStateException", Cond.methodLink RL 28 yX4_come, Cond.instanceMethod yX4_come, Cond.selects RX4 yX4_come yX4_come, Cond.code yX4_come cX4_come 6 (some .int), Cond.classLink RX4 103 "java/lang/IllegalStateException", Cond.initialized "java/lang/IllegalStateException", Cond.instanceMethod yX1_holds, Cond.selects RX1 yX1_holds yX1_holds, Cond.code yX1_holds cX1_holds 4 (some .boolean), Cond.instanceMethod yX0_add, Cond.selects RX0 yX0_add yX0_add]
def wsL_law0_r10 : List Cond := [Cond.code yX0_add cX0_add 7 (some .int), Cond.methodLink RL 92 yX6_come, Cond.instanceMethod yX6_come, Cond.selects RX6 yX6_come yX6_come, Cond.code yX6_come cX6_come 7 (some .int), Cond.methodLink RX6 90 arraycopyName, Cond.native arraycopyName, Cond.static arraycopyName, Cond.initialized "java/lang/System", Cond.methodLink RL 93 yL_send, Cond.static yL_send, Cond.codeWith yL_send cL_send 5 (some .int) [(0, 10, 13, 13), (0, 10, 17, 32)], Cond.methodLink RL 34 yX4_send, Cond.instanceMethod yX4_send, Cond.selects RX4 yX4_send yX4_send, Cond.code yX4_send cX4_send 3 (some .int), Cond.methodLink RX4 133 Lib.Math.abs.name, Cond.static Lib.Math.abs.name, Cond.code Lib.Math.abs.name Lib.Math.abs.code 1 (some .int), Cond.instanceMethod yX0_has, Cond.selects RX0 yX0_has yX0_has, Cond.code yX0_has cX0_has 2 (some .boolean), Cond.methodLink RL 95 yX6_send, Cond.instanceMethod yX6_send]
def wsL_law0_r11 : List Cond := [Cond.selects RX6 yX6_send yX6_send, Cond.code yX6_send cX6_send 3 (some .int), Cond.methodLink RX6 104 Lib.Math.abs.name, Cond.methodLink RX6 96 yX6_isCourier, Cond.instanceMethod yX6_isCourier, Cond.selects RX6 yX6_isCourier yX6_isCourier, Cond.code yX6_isCourier cX6_isCourier 2 (some .boolean), Cond.methodLink RX6 100 yX5_set, Cond.instanceMethod yX5_set, Cond.selects RX5 yX5_set yX5_set, Cond.code yX5_set cX5_set 4 none, Cond.methodLink RL 96 yL_load, Cond.static yL_load, Cond.codeWith yL_load cL_load 5 (some .int) [(0, 10, 13, 13), (0, 10, 17, 15), (0, 10, 21, 32)], Cond.methodLink RL 37 yX4_load, Cond.instanceMethod yX4_load, Cond.selects RX4 yX4_load yX4_load, Cond.code yX4_load cX4_load 4 (some .int), Cond.instanceMethod yX2_holdsCourierWith, Cond.selects RX2 yX2_holdsCourierWith yX2_holdsCourierWith, Cond.code yX2_holdsCourierWith cX2_holdsCourierWith 4 (some .boolean), Cond.methodLink RL 98 yX6_load, Cond.instanceMethod yX6_load, Cond.selects RX6 yX6_load yX6_load]
def wsL_law0_r12 : List Cond := [Cond.code yX6_load cX6_load 5 (some .int), Cond.methodLink RL 99 yL_courier, Cond.static yL_courier, Cond.codeWith yL_courier cL_courier 5 (some .int) [(0, 10, 13, 13)], Cond.methodLink RL 40 yX4_courier, Cond.instanceMethod yX4_courier, Cond.selects RX4 yX4_courier yX4_courier, Cond.code yX4_courier cX4_courier 3 (some .int), Cond.instanceMethod yX0_tell, Cond.selects RX0 yX0_tell yX0_tell, Cond.code yX0_tell cX0_tell 3 (some .int), Cond.methodLink RL 101 yX6_courier, Cond.instanceMethod yX6_courier, Cond.selects RX6 yX6_courier yX6_courier, Cond.code yX6_courier cX6_courier 3 (some .int), Cond.methodLink RL 102 yL_wager, Cond.static yL_wager, Cond.codeWith yL_wager cL_wager 5 (some .int) [(0, 10, 13, 15), (0, 10, 17, 32)], Cond.methodLink RL 43 yX4_wager, Cond.instanceMethod yX4_wager, Cond.selects RX4 yX4_wager yX4_wager, Cond.code yX4_wager cX4_wager 3 (some .int), Cond.instanceMethod yX2_hasThawed, Cond.selects RX2 yX2_hasThawed yX2_hasThawed]
def wsL_law0_r13 : List Cond := [Cond.code yX2_hasThawed cX2_hasThawed 1 (some .boolean), Cond.instanceMethod yX3_add, Cond.selects RX3 yX3_add yX3_add, Cond.code yX3_add cX3_add 4 (some .int), Cond.fieldLink RX3 18 "IceLanes$Wagers" "number" "I", Cond.methodLink RL 104 yX6_wager, Cond.instanceMethod yX6_wager, Cond.selects RX6 yX6_wager yX6_wager, Cond.code yX6_wager cX6_wager 3 (some .int), Cond.fieldLink RX6 107 "IceLanesModel" "wagers" "I", Cond.methodLink RL 105 yL_wins, Cond.static yL_wins, Cond.codeWith yL_wins cL_wins 4 (some .int) [(0, 9, 12, 13)], Cond.methodLink RL 46 yX4_wins, Cond.instanceMethod yX4_wins, Cond.selects RX4 yX4_wins yX4_wins, Cond.code yX4_wins cX4_wins 2 (some .int), Cond.instanceMethod yX3_has, Cond.selects RX3 yX3_has yX3_has, Cond.code yX3_has cX3_has 2 (some .boolean), Cond.methodLink RX4 174 yX4_winOf, Cond.instanceMethod yX4_winOf, Cond.selects RX4 yX4_winOf yX4_winOf, Cond.code yX4_winOf cX4_winOf 2 (some .int)]
def wsL_law0_r14 : List Cond := [Cond.instanceMethod yX3_winOn, Cond.selects RX3 yX3_winOn yX3_winOn, Cond.code yX3_winOn cX3_winOn 7 (some .int), Cond.methodLink RX3 32 yX3_daysBeside, Cond.instanceMethod yX3_daysBeside, Cond.selects RX3 yX3_daysBeside yX3_daysBeside, Cond.code yX3_daysBeside cX3_daysBeside 3 (some .int), Cond.methodLink RX3 26 Lib.Math.abs.name, Cond.methodLink RX3 36 yX3_allStakes, Cond.instanceMethod yX3_allStakes, Cond.selects RX3 yX3_allStakes yX3_allStakes, Cond.code yX3_allStakes cX3_allStakes 3 (some .int), Cond.methodLink RL 107 yX6_wins, Cond.instanceMethod yX6_wins, Cond.selects RX6 yX6_wins yX6_wins, Cond.code yX6_wins cX6_wins 2 (some .int), Cond.methodLink RX6 116 yX6_won, Cond.instanceMethod yX6_won, Cond.selects RX6 yX6_won yX6_won, Cond.code yX6_won cX6_won 6 (some .int), Cond.methodLink RX6 113 yX6_stakes, Cond.instanceMethod yX6_stakes, Cond.selects RX6 yX6_stakes yX6_stakes, Cond.code yX6_stakes cX6_stakes 3 (some .int)]
def wsL_law0_r15 : List Cond := [Cond.methodLink RL 108 yL_pass, Cond.static yL_pass, Cond.codeWith yL_pass cL_pass 4 (some .int) [(0, 9, 12, 15)], Cond.methodLink RL 49 yX4_pass, Cond.instanceMethod yX4_pass, Cond.selects RX4 yX4_pass yX4_pass, Cond.code yX4_pass cX4_pass 4 (some .int), Cond.instanceMethod yX2_spendHour, Cond.selects RX2 yX2_spendHour yX2_spendHour, Cond.code yX2_spendHour cX2_spendHour 4 (some .int), Cond.fieldLink RX2 36 "IceLanes$River" "hour" "I", Cond.methodLink RX2 65 yJ9_floorMod_7cf53, Cond.static yJ9_floorMod_7cf53, Cond.initialized RJ9, Cond.code yJ9_floorMod_7cf53 cJ9_floorMod_7cf53 3 (some .int), Cond.instanceMethod yX1_meetDay, Cond.selects RX1 yX1_meetDay yX1_meetDay, Cond.code yX1_meetDay cX1_meetDay 4 none, Cond.methodLink RX1 39 Lib.Math.min.name, Cond.static Lib.Math.min.name, Cond.code Lib.Math.min.name Lib.Math.min.code 2 (some .int), Cond.methodLink RX2 75 yX2_hasThawed, Cond.instanceMethod yX1_isOpenAcross, Cond.selects RX1 yX1_isOpenAcross yX1_isOpenAcross]
def wsL_law0_r16 : List Cond := [Cond.code yX1_isOpenAcross cX1_isOpenAcross 4 (some .boolean), Cond.methodLink RX2 85 yX2_travels, Cond.instanceMethod yX2_travels, Cond.selects RX2 yX2_travels yX2_travels, Cond.code yX2_travels cX2_travels 3 (some .boolean), Cond.methodLink RX2 98 yX2_step, Cond.instanceMethod yX2_step, Cond.selects RX2 yX2_step yX2_step, Cond.code yX2_step cX2_step 5 none, Cond.instanceMethod yX0_loadOf, Cond.selects RX0 yX0_loadOf yX0_loadOf, Cond.code yX0_loadOf cX0_loadOf 2 (some .int), Cond.instanceMethod yX0_nextSection, Cond.selects RX0 yX0_nextSection yX0_nextSection, Cond.code yX0_nextSection cX0_nextSection 2 (some .int), Cond.methodLink RX0 53 yX0_isAtGoal, Cond.instanceMethod yX0_isAtGoal, Cond.selects RX0 yX0_isAtGoal yX0_isAtGoal, Cond.code yX0_isAtGoal cX0_isAtGoal 2 (some .boolean), Cond.instanceMethod yX1_laneFor, Cond.selects RX1 yX1_laneFor yX1_laneFor, Cond.code yX1_laneFor cX1_laneFor 9 (some .int), Cond.instanceMethod yX1_withstands, Cond.selects RX1 yX1_withstands yX1_withstands]
def wsL_law0_r17 : List Cond := [Cond.code yX1_withstands cX1_withstands 5 (some .boolean), Cond.methodLink RX2 89 yX2_rest, Cond.instanceMethod yX2_rest, Cond.selects RX2 yX2_rest yX2_rest, Cond.code yX2_rest cX2_rest 4 none, Cond.methodLink RX2 127 Lib.Math.min.name, Cond.methodLink RL 110 yX6_pass, Cond.instanceMethod yX6_pass, Cond.selects RX6 yX6_pass yX6_pass, Cond.code yX6_pass cX6_pass 4 (some .int), Cond.methodLink RX6 122 yX5_pass, Cond.instanceMethod yX5_pass, Cond.selects RX5 yX5_pass yX5_pass, Cond.code yX5_pass cX5_pass 3 none, Cond.fieldLink RX5 35 "IceLanesModel$State" "hour" "I", Cond.fieldLink RX5 38 "IceLanesModel$State" "couriers" "I", Cond.methodLink RX5 55 Lib.Math.min.name, Cond.methodLink RX5 77 yX5_weather, Cond.instanceMethod yX5_weather, Cond.selects RX5 yX5_weather yX5_weather, Cond.code yX5_weather cX5_weather 3 none, Cond.methodLink RX5 60 Lib.Math.max.name, Cond.methodLink RX5 80 yX5_listen, Cond.instanceMethod yX5_listen]
def wsL_law0_r18 : List Cond := [Cond.selects RX5 yX5_listen yX5_listen, Cond.code yX5_listen cX5_listen 2 none, Cond.methodLink RX5 48 yX5_get, Cond.methodLink RX5 83 yX5_step, Cond.instanceMethod yX5_step, Cond.selects RX5 yX5_step yX5_step, Cond.code yX5_step cX5_step 3 none, Cond.fieldLink RX5 41 "IceLanesModel$State" "came" "I", Cond.methodLink RX5 70 yX5_next, Cond.instanceMethod yX5_next, Cond.selects RX5 yX5_next yX5_next, Cond.code yX5_next cX5_next 7 (some .int), Cond.methodLink RX5 63 yX5_holds, Cond.methodLink RX5 67 yX5_load, Cond.instanceMethod yX5_load, Cond.selects RX5 yX5_load yX5_load, Cond.code yX5_load cX5_load 2 (some .int), Cond.methodLink RX5 73 yX5_set, Cond.methodLink RL 111 yL_count, Cond.static yL_count, Cond.codeWith yL_count cL_count 4 (some .int) [(0, 9, 12, 13)], Cond.methodLink RL 52 yX4_count, Cond.instanceMethod yX4_count, Cond.selects RX4 yX4_count yX4_count]
def wsL_law0_r19 : List Cond := [Cond.code yX4_count cX4_count 2 (some .int), Cond.methodLink RX4 184 yX4_counted, Cond.instanceMethod yX4_counted, Cond.selects RX4 yX4_counted yX4_counted, Cond.code yX4_counted cX4_counted 2 (some .int), Cond.instanceMethod yX0_numberWhose, Cond.selects RX0 yX0_numberWhose yX0_numberWhose, Cond.code yX0_numberWhose cX0_numberWhose 4 (some .int), Cond.instanceMethod yX1_cracksInAll, Cond.selects RX1 yX1_cracksInAll yX1_cracksInAll, Cond.code yX1_cracksInAll cX1_cracksInAll 3 (some .int), Cond.instanceMethod yX1_placesOfOpenWater, Cond.selects RX1 yX1_placesOfOpenWater yX1_placesOfOpenWater, Cond.code yX1_placesOfOpenWater cX1_placesOfOpenWater 3 (some .int), Cond.methodLink RL 113 yX6_count, Cond.instanceMethod yX6_count, Cond.selects RX6 yX6_count yX6_count, Cond.code yX6_count cX6_count 2 (some .int), Cond.methodLink RX6 128 yX6_counted, Cond.instanceMethod yX6_counted, Cond.selects RX6 yX6_counted yX6_counted, Cond.code yX6_counted cX6_counted 6 (some .int), Cond.methodLink RL 114 yL_bears, Cond.static yL_bears]
def wsL_law0_r20 : List Cond := [Cond.codeWith yL_bears cL_bears 5 (some .int) [(0, 10, 13, 13)], Cond.methodLink RL 55 yX4_bears, Cond.instanceMethod yX4_bears, Cond.selects RX4 yX4_bears yX4_bears, Cond.code yX4_bears cX4_bears 3 (some .int), Cond.methodLink RX4 187 Lib.Math.min.name, Cond.methodLink RX4 190 Lib.Math.max.name, Cond.instanceMethod yX1_mostBorneBetween, Cond.selects RX1 yX1_mostBorneBetween yX1_mostBorneBetween, Cond.code yX1_mostBorneBetween cX1_mostBorneBetween 9 (some .int), Cond.methodLink RX1 36 yX1_mostBorneAt, Cond.methodLink RL 116 yX6_bears, Cond.instanceMethod yX6_bears, Cond.selects RX6 yX6_bears yX6_bears, Cond.code yX6_bears cX6_bears 9 (some .int), Cond.methodLink RX6 131 Lib.Math.min.name, Cond.methodLink RL 117 yL_arrives, Cond.static yL_arrives, Cond.codeWith yL_arrives cL_arrives 4 (some .int) [(0, 9, 12, 13)], Cond.methodLink RL 58 yX4_arrives, Cond.instanceMethod yX4_arrives, Cond.selects RX4 yX4_arrives yX4_arrives, Cond.code yX4_arrives cX4_arrives 2 (some .int), Cond.instanceMethod yX2_become]
def wsL_law0_r21 : List Cond := [Cond.selects RX2 yX2_become yX2_become, Cond.code yX2_become cX2_become 2 none, Cond.methodLink RX2 39 arraycopyName, Cond.instanceMethod yX1_become, Cond.selects RX1 yX1_become yX1_become, Cond.code yX1_become cX1_become 2 none, Cond.methodLink RX1 18 arraycopyName, Cond.instanceMethod yX0_become, Cond.selects RX0 yX0_become yX0_become, Cond.code yX0_become cX0_become 2 none, Cond.methodLink RX0 43 arraycopyName, Cond.instanceMethod yX2_hoursTillArrival, Cond.selects RX2 yX2_hoursTillArrival yX2_hoursTillArrival, Cond.code yX2_hoursTillArrival cX2_hoursTillArrival 3 (some .int), Cond.methodLink RX2 130 yX2_spendHour, Cond.methodLink RL 119 yX6_arrives, Cond.instanceMethod yX6_arrives, Cond.selects RX6 yX6_arrives yX6_arrives, Cond.code yX6_arrives cX6_arrives 2 (some .int), Cond.methodLink RX6 134 yX5_become, Cond.instanceMethod yX5_become, Cond.selects RX5 yX5_become yX5_become, Cond.code yX5_become cX5_become 2 none, Cond.methodLink RX5 44 yX5_copy]
def wsL_law0_r22 : List Cond := [Cond.instanceMethod yX5_copy, Cond.selects RX5 yX5_copy yX5_copy, Cond.code yX5_copy cX5_copy 3 none, Cond.methodLink RX5 29 arraycopyName, Cond.methodLink RX6 138 yX6_arrivesAhead, Cond.instanceMethod yX6_arrivesAhead, Cond.selects RX6 yX6_arrivesAhead yX6_arrivesAhead, Cond.code yX6_arrivesAhead cX6_arrivesAhead 3 (some .int), Cond.methodLink RL 120 yL_best, Cond.static yL_best, Cond.codeWith yL_best cL_best 4 (some .int) [(0, 9, 12, 13)], Cond.methodLink RL 61 yX4_best, Cond.instanceMethod yX4_best, Cond.selects RX4 yX4_best yX4_best, Cond.code yX4_best cX4_best 3 (some .int), Cond.methodLink RL 122 yX6_best, Cond.instanceMethod yX6_best, Cond.selects RX6 yX6_best yX6_best, Cond.code yX6_best cX6_best 3 (some .int), Cond.methodLink RL 123 yX4_thaw, Cond.instanceMethod yX4_thaw, Cond.selects RX4 yX4_thaw yX4_thaw, Cond.code yX4_thaw cX4_thaw 1 (some .int), Cond.instanceMethod yX2_dayOfThaw]
def wsL_law0_r23 : List Cond := [Cond.selects RX2 yX2_dayOfThaw yX2_dayOfThaw, Cond.code yX2_dayOfThaw cX2_dayOfThaw 2 (some .int), Cond.methodLink RL 126 yX6_thaw, Cond.instanceMethod yX6_thaw, Cond.selects RX6 yX6_thaw yX6_thaw, Cond.code yX6_thaw cX6_thaw 2 (some .int), Cond.methodLink RL 127 yX4_mean, Cond.instanceMethod yX4_mean, Cond.selects RX4 yX4_mean yX4_mean, Cond.code yX4_mean cX4_mean 1 (some .double), Cond.constantDouble RX4 212 (4630263366890291200), Cond.instanceMethod yX1_inAll, Cond.selects RX1 yX1_inAll yX1_inAll, Cond.code yX1_inAll cX1_inAll 3 (some .int), Cond.methodLink RL 131 yX6_mean, Cond.instanceMethod yX6_mean, Cond.selects RX6 yX6_mean yX6_mean, Cond.code yX6_mean cX6_mean 3 (some .double), Cond.constantDouble RX6 141 (4630263366890291200), Cond.methodLink RL 132 yX4_digest, Cond.instanceMethod yX4_digest, Cond.selects RX4 yX4_digest yX4_digest, Cond.code yX4_digest cX4_digest 4 (some .long), Cond.constantLong RX4 214 (757)]
def wsL_law0_r24 : List Cond := [Cond.methodLink RX4 216 yX4_mixed, Cond.static yX4_mixed, Cond.code yX4_mixed cX4_mixed 3 (some .long), Cond.constantLong RX4 254 (31), Cond.methodLink RX4 220 yX4_mixedWithRiver, Cond.instanceMethod yX4_mixedWithRiver, Cond.selects RX4 yX4_mixedWithRiver yX4_mixedWithRiver, Cond.code yX4_mixedWithRiver cX4_mixedWithRiver 6 (some .long), Cond.methodLink RX4 224 yX4_mixedWithCouriers, Cond.instanceMethod yX4_mixedWithCouriers, Cond.selects RX4 yX4_mixedWithCouriers yX4_mixedWithCouriers, Cond.code yX4_mixedWithCouriers cX4_mixedWithCouriers 7 (some .long), Cond.methodLink RX4 227 yX4_mixedWithWagers, Cond.instanceMethod yX4_mixedWithWagers, Cond.selects RX4 yX4_mixedWithWagers yX4_mixedWithWagers, Cond.code yX4_mixedWithWagers cX4_mixedWithWagers 6 (some .long), Cond.methodLink RL 136 yX6_digest, Cond.instanceMethod yX6_digest, Cond.selects RX6 yX6_digest yX6_digest, Cond.code yX6_digest cX6_digest 4 (some .long), Cond.constantLong RX6 143 (757), Cond.constantLong RX6 145 (31)]
def wsL_law0 : List Cond := (wsL_law0_r1 ++ (wsL_law0_r2 ++ (wsL_law0_r3 ++ (wsL_law0_r4 ++ (wsL_law0_r5 ++ (wsL_law0_r6 ++ (wsL_law0_r7 ++ (wsL_law0_r8 ++ (wsL_law0_r9 ++ (wsL_law0_r10 ++ (wsL_law0_r11 ++ (wsL_law0_r12 ++ (wsL_law0_r13 ++ (wsL_law0_r14 ++ (wsL_law0_r15 ++ (wsL_law0_r16 ++ (wsL_law0_r17 ++ (wsL_law0_r18 ++ (wsL_law0_r19 ++ (wsL_law0_r20 ++ (wsL_law0_r21 ++ (wsL_law0_r22 ++ (wsL_law0_r23 ++ wsL_law0_r24))))))))))))))))))))))) ++ wsX40 ++ wsX60 ++ wsX20 ++ wsX30 ++ wsX10 ++ wsX00 ++ wsX50 ++ ([] : List Cond)
def wsL_law : List Cond := wsL_law0 ++ (vx_atS RX4 34 "java/lang/IndexOutOfBoundsException" ["java/lang/RuntimeException", "java/lang/Exception"]).filter goodWord ++ (vx_atS RX4 41 "java/lang/IllegalArgumentException" ["java/lang/RuntimeException", "java/lang/Exception"]).filter goodWord ++ (vx_atS RX4 107 "java/lang/IllegalStateException" ["java/lang/RuntimeException", "java/lang/Exception"]).filter goodWord
set_option maxRecDepth 20000 in
theorem lawin_r1 : ∀ w ∈ wsL_law0_r1, w ∈ lw_tbl := by decide +kernel
set_option maxRecDepth 20000 in
theorem lawin_r2 : ∀ w ∈ wsL_law0_r2, w ∈ lw_tbl := by decide +kernel
set_option maxRecDepth 20000 in
theorem lawin_r3 : ∀ w ∈ wsL_law0_r3, w ∈ lw_tbl := by decide +kernel
set_option maxRecDepth 20000 in
theorem lawin_r4 : ∀ w ∈ wsL_law0_r4, w ∈ lw_tbl := by decide +kernel
set_option maxRecDepth 20000 in
theorem lawin_r5 : ∀ w ∈ wsL_law0_r5, w ∈ lw_tbl := by decide +kernel
set_option maxRecDepth 20000 in
theorem lawin_r6 : ∀ w ∈ wsL_law0_r6, w ∈ lw_tbl := by decide +kernel
set_option maxRecDepth 20000 in
theorem lawin_r7 : ∀ w ∈ wsL_law0_r7, w ∈ lw_tbl := by decide +kernel
set_option maxRecDepth 20000 in
theorem lawin_r8 : ∀ w ∈ wsL_law0_r8, w ∈ lw_tbl := by decide +kernel
set_option maxRecDepth 20000 in
theorem lawin_r9 : ∀ w ∈ wsL_law0_r9, w ∈ lw_tbl := by decide +kernel
set_option maxRecDepth 20000 in
theorem lawin_r10 : ∀ w ∈ wsL_law0_r10, w ∈ lw_tbl := by decide +kernel
set_option maxRecDepth 20000 in
theorem lawin_r11 : ∀ w ∈ wsL_law0_r11, w ∈ lw_tbl := by decide +kernel
set_option maxRecDepth 20000 in
theorem lawin_r12 : ∀ w ∈ wsL_law0_r12, w ∈ lw_tbl := by decide +kernel
set_option maxRecDepth 20000 in
theorem lawin_r13 : ∀ w ∈ wsL_law0_r13, w ∈ lw_tbl := by decide +kernel
set_option maxRecDepth 20000 in
theorem lawin_r14 : ∀ w ∈ wsL_law0_r14, w ∈ lw_tbl := by decide +kernel
set_option maxRecDepth 20000 in
theorem lawin_r15 : ∀ w ∈ wsL_law0_r15, w ∈ lw_tbl := by decide +kernel
set_option maxRecDepth 20000 in
theorem lawin_r16 : ∀ w ∈ wsL_law0_r16, w ∈ lw_tbl := by decide +kernel
set_option maxRecDepth 20000 in
theorem lawin_r17 : ∀ w ∈ wsL_law0_r17, w ∈ lw_tbl := by decide +kernel
set_option maxRecDepth 20000 in
theorem lawin_r18 : ∀ w ∈ wsL_law0_r18, w ∈ lw_tbl := by decide +kernel
set_option maxRecDepth 20000 in
theorem lawin_r19 : ∀ w ∈ wsL_law0_r19, w ∈ lw_tbl := by decide +kernel
set_option maxRecDepth 20000 in
theorem lawin_r20 : ∀ w ∈ wsL_law0_r20, w ∈ lw_tbl := by decide +kernel
set_option maxRecDepth 20000 in
theorem lawin_r21 : ∀ w ∈ wsL_law0_r21, w ∈ lw_tbl := by decide +kernel
set_option maxRecDepth 20000 in
theorem lawin_r22 : ∀ w ∈ wsL_law0_r22, w ∈ lw_tbl := by decide +kernel
set_option maxRecDepth 20000 in
theorem lawin_r23 : ∀ w ∈ wsL_law0_r23, w ∈ lw_tbl := by decide +kernel
set_option maxRecDepth 20000 in
theorem lawin_r24 : ∀ w ∈ wsL_law0_r24, w ∈ lw_tbl := by decide +kernel
set_option maxRecDepth 20000 in
theorem lawin_w4 : ∀ w ∈ wsX40, w ∈ lw_tbl := by decide +kernel
set_option maxRecDepth 20000 in
theorem lawin_w6 : ∀ w ∈ wsX60, w ∈ lw_tbl := by decide +kernel
set_option maxRecDepth 20000 in
theorem lawin_w2 : ∀ w ∈ wsX20, w ∈ lw_tbl := by decide +kernel
set_option maxRecDepth 20000 in
theorem lawin_w3 : ∀ w ∈ wsX30, w ∈ lw_tbl := by decide +kernel
set_option maxRecDepth 20000 in
theorem lawin_w1 : ∀ w ∈ wsX10, w ∈ lw_tbl := by decide +kernel
set_option maxRecDepth 20000 in
theorem lawin_w0 : ∀ w ∈ wsX00, w ∈ lw_tbl := by decide +kernel
set_option maxRecDepth 20000 in
theorem lawin_w5 : ∀ w ∈ wsX50, w ∈ lw_tbl := by decide +kernel
set_option maxRecDepth 20000 in
theorem wsL_law_in0 : ∀ w ∈ wsL_law0, w ∈ lw_tbl := List.forall_mem_append.mpr ⟨List.forall_mem_append.mpr ⟨List.forall_mem_append.mpr ⟨List.forall_mem_append.mpr ⟨List.forall_mem_append.mpr ⟨List.forall_mem_append.mpr ⟨List.forall_mem_append.mpr ⟨List.forall_mem_append.mpr ⟨List.forall_mem_append.mpr ⟨lawin_r1, List.forall_mem_append.mpr ⟨lawin_r2, List.forall_mem_append.mpr ⟨lawin_r3, List.forall_mem_append.mpr ⟨lawin_r4, List.forall_mem_append.mpr ⟨lawin_r5, List.forall_mem_append.mpr ⟨lawin_r6, List.forall_mem_append.mpr ⟨lawin_r7, List.forall_mem_append.mpr ⟨lawin_r8, List.forall_mem_append.mpr ⟨lawin_r9, List.forall_mem_append.mpr ⟨lawin_r10, List.forall_mem_append.mpr ⟨lawin_r11, List.forall_mem_append.mpr ⟨lawin_r12, List.forall_mem_append.mpr ⟨lawin_r13, List.forall_mem_append.mpr ⟨lawin_r14, List.forall_mem_append.mpr ⟨lawin_r15, List.forall_mem_append.mpr ⟨lawin_r16, List.forall_mem_append.mpr ⟨lawin_r17, List.forall_mem_append.mpr ⟨lawin_r18, List.forall_mem_append.mpr ⟨lawin_r19, List.forall_mem_append.mpr ⟨lawin_r20, List.forall_mem_append.mpr ⟨lawin_r21, List.forall_mem_append.mpr ⟨lawin_r22, List.forall_mem_append.mpr ⟨lawin_r23, lawin_r24⟩⟩⟩⟩⟩⟩⟩⟩⟩⟩⟩⟩⟩⟩⟩⟩⟩⟩⟩⟩⟩⟩⟩, lawin_w4⟩, lawin_w6⟩, lawin_w2⟩, lawin_w3⟩, lawin_w1⟩, lawin_w0⟩, lawin_w5⟩, fun _ h => absurd h List.not_mem_nil⟩
theorem wsL_law_x0 : ∀ w ∈ (vx_atS RX4 34 "java/lang/IndexOutOfBoundsException" ["java/lang/RuntimeException", "java/lang/Exception"]).filter goodWord, w ∈ lw_tbl := by decide +kernel
theorem wsL_law_x1 : ∀ w ∈ (vx_atS RX4 41 "java/lang/IllegalArgumentException" ["java/lang/RuntimeException", "java/lang/Exception"]).filter goodWord, w ∈ lw_tbl := by decide +kernel
theorem wsL_law_x2 : ∀ w ∈ (vx_atS RX4 107 "java/lang/IllegalStateException" ["java/lang/RuntimeException", "java/lang/Exception"]).filter goodWord, w ∈ lw_tbl := by decide +kernel
theorem wsL_law_in : ∀ w ∈ wsL_law, w ∈ lw_tbl := fun w h => (List.mem_append.mp h).elim (fun h => (List.mem_append.mp h).elim (fun h => (List.mem_append.mp h).elim (fun h => wsL_law_in0 w h) (fun h => wsL_law_x0 w h)) (fun h => wsL_law_x1 w h)) (fun h => wsL_law_x2 w h)
theorem inlX0 : ∀ w ∈ wsX00, w ∈ wsL_law := fun _ h => List.mem_append_left _ (List.mem_append_left _ (List.mem_append_left _ (List.mem_append_left _ (List.mem_append_left _ (List.mem_append_right _ h)))))
theorem inX0 : ∀ w ∈ wsX00, w ∈ lw_tbl := fun w h => wsL_law_in w (inlX0 w h)
theorem inlX1 : ∀ w ∈ wsX10, w ∈ wsL_law := fun _ h => List.mem_append_left _ (List.mem_append_left _ (List.mem_append_left _ (List.mem_append_left _ (List.mem_append_left _ (List.mem_append_left _ (List.mem_append_right _ h))))))
theorem inX1 : ∀ w ∈ wsX10, w ∈ lw_tbl := fun w h => wsL_law_in w (inlX1 w h)
theorem inlX2 : ∀ w ∈ wsX20, w ∈ wsL_law := fun _ h => List.mem_append_left _ (List.mem_append_left _ (List.mem_append_left _ (List.mem_append_left _ (List.mem_append_left _ (List.mem_append_left _ (List.mem_append_left _ (List.mem_append_left _ (List.mem_append_right _ h))))))))
theorem inX2 : ∀ w ∈ wsX20, w ∈ lw_tbl := fun w h => wsL_law_in w (inlX2 w h)
theorem inlX3 : ∀ w ∈ wsX30, w ∈ wsL_law := fun _ h => List.mem_append_left _ (List.mem_append_left _ (List.mem_append_left _ (List.mem_append_left _ (List.mem_append_left _ (List.mem_append_left _ (List.mem_append_left _ (List.mem_append_right _ h)))))))
theorem inX3 : ∀ w ∈ wsX30, w ∈ lw_tbl := fun w h => wsL_law_in w (inlX3 w h)
theorem inlX4 : ∀ w ∈ wsX40, w ∈ wsL_law := fun _ h => List.mem_append_left _ (List.mem_append_left _ (List.mem_append_left _ (List.mem_append_left _ (List.mem_append_left _ (List.mem_append_left _ (List.mem_append_left _ (List.mem_append_left _ (List.mem_append_left _ (List.mem_append_left _ (List.mem_append_right _ h))))))))))
end
section
theorem inX4 : ∀ w ∈ wsX40, w ∈ lw_tbl := fun w h => wsL_law_in w (inlX4 w h)
theorem inlX5 : ∀ w ∈ wsX50, w ∈ wsL_law := fun _ h => List.mem_append_left _ (List.mem_append_left _ (List.mem_append_left _ (List.mem_append_left _ (List.mem_append_right _ h))))
theorem inX5 : ∀ w ∈ wsX50, w ∈ lw_tbl := fun w h => wsL_law_in w (inlX5 w h)
theorem inlX6 : ∀ w ∈ wsX60, w ∈ wsL_law := fun _ h => List.mem_append_left _ (List.mem_append_left _ (List.mem_append_left _ (List.mem_append_left _ (List.mem_append_left _ (List.mem_append_left _ (List.mem_append_left _ (List.mem_append_left _ (List.mem_append_left _ (List.mem_append_right _ h)))))))))
theorem inX6 : ∀ w ∈ wsX60, w ∈ lw_tbl := fun w h => wsL_law_in w (inlX6 w h)
theorem inJx145de : ∀ w ∈ wsJx145de0, w ∈ lw_tbl := by decide +kernel
theorem inJ9 : ∀ w ∈ wsJ90, w ∈ lw_tbl := by decide +kernel
theorem inJ0 : ∀ w ∈ wsJ00, w ∈ lw_tbl := by decide +kernel
theorem inJ10 : ∀ w ∈ wsJ100, w ∈ lw_tbl := by decide +kernel
theorem inJ7 : ∀ w ∈ wsJ70, w ∈ lw_tbl := by decide +kernel
theorem dX0_init_0 : decode cX0_init 0 = .ok (.aload_n 0, 1) := by decide +kernel
theorem dX0_init_1 : decode cX0_init 1 = .ok (.invokespecial 3, 3) := by decide +kernel
theorem dX0_init_4 : decode cX0_init 4 = .ok (.aload_n 0, 1) := by decide +kernel
theorem dX0_init_5 : decode cX0_init 5 = .ok (.bipush 8, 2) := by decide +kernel
theorem dX0_init_7 : decode cX0_init 7 = .ok (.newarray .int, 2) := by decide +kernel
theorem dX0_init_9 : decode cX0_init 9 = .ok (.putfield 9, 3) := by decide +kernel
theorem dX0_init_12 : decode cX0_init 12 = .ok (.aload_n 0, 1) := by decide +kernel
theorem dX0_init_13 : decode cX0_init 13 = .ok (.bipush 8, 2) := by decide +kernel
theorem dX0_init_15 : decode cX0_init 15 = .ok (.newarray .int, 2) := by decide +kernel
theorem dX0_init_17 : decode cX0_init 17 = .ok (.putfield 15, 3) := by decide +kernel
theorem dX0_init_20 : decode cX0_init 20 = .ok (.aload_n 0, 1) := by decide +kernel
theorem dX0_init_21 : decode cX0_init 21 = .ok (.bipush 8, 2) := by decide +kernel
theorem dX0_init_23 : decode cX0_init 23 = .ok (.newarray .int, 2) := by decide +kernel
theorem dX0_init_25 : decode cX0_init 25 = .ok (.putfield 18, 3) := by decide +kernel
theorem dX0_init_28 : decode cX0_init 28 = .ok (.aload_n 0, 1) := by decide +kernel
theorem dX0_init_29 : decode cX0_init 29 = .ok (.bipush 8, 2) := by decide +kernel
theorem dX0_init_31 : decode cX0_init 31 = .ok (.newarray .int, 2) := by decide +kernel
theorem dX0_init_33 : decode cX0_init 33 = .ok (.putfield 21, 3) := by decide +kernel
theorem dX0_init_36 : decode cX0_init 36 = .ok (.aload_n 0, 1) := by decide +kernel
theorem dX0_init_37 : decode cX0_init 37 = .ok (.bipush 8, 2) := by decide +kernel
theorem dX0_init_39 : decode cX0_init 39 = .ok (.newarray .int, 2) := by decide +kernel
theorem dX0_init_41 : decode cX0_init 41 = .ok (.putfield 24, 3) := by decide +kernel
theorem dX0_init_44 : decode cX0_init 44 = .ok (.aload_n 0, 1) := by decide +kernel
theorem dX0_init_45 : decode cX0_init 45 = .ok (.bipush 8, 2) := by decide +kernel
theorem dX0_init_47 : decode cX0_init 47 = .ok (.newarray .int, 2) := by decide +kernel
theorem dX0_init_49 : decode cX0_init 49 = .ok (.putfield 27, 3) := by decide +kernel
theorem dX0_init_52 : decode cX0_init 52 = .ok (.aload_n 0, 1) := by decide +kernel
theorem dX0_init_53 : decode cX0_init 53 = .ok (.bipush 8, 2) := by decide +kernel
theorem dX0_init_55 : decode cX0_init 55 = .ok (.newarray .int, 2) := by decide +kernel
theorem dX0_init_57 : decode cX0_init 57 = .ok (.putfield 30, 3) := by decide +kernel
theorem dX0_init_60 : decode cX0_init 60 = .ok (.aload_n 0, 1) := by decide +kernel
theorem dX0_init_61 : decode cX0_init 61 = .ok (.bipush 8, 2) := by decide +kernel
theorem dX0_init_63 : decode cX0_init 63 = .ok (.newarray .int, 2) := by decide +kernel
theorem dX0_init_65 : decode cX0_init 65 = .ok (.putfield 33, 3) := by decide +kernel
theorem dX0_init_68 : decode cX0_init 68 = .ok (.aload_n 0, 1) := by decide +kernel
theorem dX0_init_69 : decode cX0_init 69 = .ok (.bipush 8, 2) := by decide +kernel
theorem dX0_init_71 : decode cX0_init 71 = .ok (.newarray .int, 2) := by decide +kernel
theorem dX0_init_73 : decode cX0_init 73 = .ok (.putfield 36, 3) := by decide +kernel
theorem dX0_init_76 : decode cX0_init 76 = .ok (.return_, 1) := by decide +kernel
theorem dX0_become_0 : decode cX0_become 0 = .ok (.aload_n 0, 1) := by decide +kernel
theorem dX0_become_1 : decode cX0_become 1 = .ok (.aload_n 1, 1) := by decide +kernel
theorem dX0_become_2 : decode cX0_become 2 = .ok (.getfield 39, 3) := by decide +kernel
theorem dX0_become_5 : decode cX0_become 5 = .ok (.putfield 39, 3) := by decide +kernel
theorem dX0_become_8 : decode cX0_become 8 = .ok (.aload_n 1, 1) := by decide +kernel
theorem dX0_become_9 : decode cX0_become 9 = .ok (.getfield 9, 3) := by decide +kernel
theorem dX0_become_12 : decode cX0_become 12 = .ok (.iconst 0, 1) := by decide +kernel
theorem dX0_become_13 : decode cX0_become 13 = .ok (.aload_n 0, 1) := by decide +kernel
theorem dX0_become_14 : decode cX0_become 14 = .ok (.getfield 9, 3) := by decide +kernel
theorem dX0_become_17 : decode cX0_become 17 = .ok (.iconst 0, 1) := by decide +kernel
theorem dX0_become_18 : decode cX0_become 18 = .ok (.bipush 8, 2) := by decide +kernel
theorem dX0_become_20 : decode cX0_become 20 = .ok (.invokestatic 43, 3) := by decide +kernel
theorem dX0_become_23 : decode cX0_become 23 = .ok (.aload_n 1, 1) := by decide +kernel
theorem dX0_become_24 : decode cX0_become 24 = .ok (.getfield 15, 3) := by decide +kernel
theorem dX0_become_27 : decode cX0_become 27 = .ok (.iconst 0, 1) := by decide +kernel
theorem dX0_become_28 : decode cX0_become 28 = .ok (.aload_n 0, 1) := by decide +kernel
theorem dX0_become_29 : decode cX0_become 29 = .ok (.getfield 15, 3) := by decide +kernel
theorem dX0_become_32 : decode cX0_become 32 = .ok (.iconst 0, 1) := by decide +kernel
theorem dX0_become_33 : decode cX0_become 33 = .ok (.bipush 8, 2) := by decide +kernel
theorem dX0_become_35 : decode cX0_become 35 = .ok (.invokestatic 43, 3) := by decide +kernel
theorem dX0_become_38 : decode cX0_become 38 = .ok (.aload_n 1, 1) := by decide +kernel
theorem dX0_become_39 : decode cX0_become 39 = .ok (.getfield 18, 3) := by decide +kernel
theorem dX0_become_42 : decode cX0_become 42 = .ok (.iconst 0, 1) := by decide +kernel
theorem dX0_become_43 : decode cX0_become 43 = .ok (.aload_n 0, 1) := by decide +kernel
theorem dX0_become_44 : decode cX0_become 44 = .ok (.getfield 18, 3) := by decide +kernel
theorem dX0_become_47 : decode cX0_become 47 = .ok (.iconst 0, 1) := by decide +kernel
theorem dX0_become_48 : decode cX0_become 48 = .ok (.bipush 8, 2) := by decide +kernel
theorem dX0_become_50 : decode cX0_become 50 = .ok (.invokestatic 43, 3) := by decide +kernel
theorem dX0_become_53 : decode cX0_become 53 = .ok (.aload_n 1, 1) := by decide +kernel
theorem dX0_become_54 : decode cX0_become 54 = .ok (.getfield 21, 3) := by decide +kernel
theorem dX0_become_57 : decode cX0_become 57 = .ok (.iconst 0, 1) := by decide +kernel
theorem dX0_become_58 : decode cX0_become 58 = .ok (.aload_n 0, 1) := by decide +kernel
theorem dX0_become_59 : decode cX0_become 59 = .ok (.getfield 21, 3) := by decide +kernel
theorem dX0_become_62 : decode cX0_become 62 = .ok (.iconst 0, 1) := by decide +kernel
theorem dX0_become_63 : decode cX0_become 63 = .ok (.bipush 8, 2) := by decide +kernel
theorem dX0_become_65 : decode cX0_become 65 = .ok (.invokestatic 43, 3) := by decide +kernel
theorem dX0_become_68 : decode cX0_become 68 = .ok (.aload_n 1, 1) := by decide +kernel
theorem dX0_become_69 : decode cX0_become 69 = .ok (.getfield 24, 3) := by decide +kernel
theorem dX0_become_72 : decode cX0_become 72 = .ok (.iconst 0, 1) := by decide +kernel
theorem dX0_become_73 : decode cX0_become 73 = .ok (.aload_n 0, 1) := by decide +kernel
theorem dX0_become_74 : decode cX0_become 74 = .ok (.getfield 24, 3) := by decide +kernel
theorem dX0_become_77 : decode cX0_become 77 = .ok (.iconst 0, 1) := by decide +kernel
theorem dX0_become_78 : decode cX0_become 78 = .ok (.bipush 8, 2) := by decide +kernel
theorem dX0_become_80 : decode cX0_become 80 = .ok (.invokestatic 43, 3) := by decide +kernel
theorem dX0_become_83 : decode cX0_become 83 = .ok (.aload_n 1, 1) := by decide +kernel
theorem dX0_become_84 : decode cX0_become 84 = .ok (.getfield 27, 3) := by decide +kernel
theorem dX0_become_87 : decode cX0_become 87 = .ok (.iconst 0, 1) := by decide +kernel
theorem dX0_become_88 : decode cX0_become 88 = .ok (.aload_n 0, 1) := by decide +kernel
theorem dX0_become_89 : decode cX0_become 89 = .ok (.getfield 27, 3) := by decide +kernel
theorem dX0_become_92 : decode cX0_become 92 = .ok (.iconst 0, 1) := by decide +kernel
theorem dX0_become_93 : decode cX0_become 93 = .ok (.bipush 8, 2) := by decide +kernel
theorem dX0_become_95 : decode cX0_become 95 = .ok (.invokestatic 43, 3) := by decide +kernel
theorem dX0_become_98 : decode cX0_become 98 = .ok (.aload_n 1, 1) := by decide +kernel
theorem dX0_become_99 : decode cX0_become 99 = .ok (.getfield 30, 3) := by decide +kernel
theorem dX0_become_102 : decode cX0_become 102 = .ok (.iconst 0, 1) := by decide +kernel
theorem dX0_become_103 : decode cX0_become 103 = .ok (.aload_n 0, 1) := by decide +kernel
theorem dX0_become_104 : decode cX0_become 104 = .ok (.getfield 30, 3) := by decide +kernel
theorem dX0_become_107 : decode cX0_become 107 = .ok (.iconst 0, 1) := by decide +kernel
theorem dX0_become_108 : decode cX0_become 108 = .ok (.bipush 8, 2) := by decide +kernel
theorem dX0_become_110 : decode cX0_become 110 = .ok (.invokestatic 43, 3) := by decide +kernel
theorem dX0_become_113 : decode cX0_become 113 = .ok (.aload_n 1, 1) := by decide +kernel
theorem dX0_become_114 : decode cX0_become 114 = .ok (.getfield 33, 3) := by decide +kernel
theorem dX0_become_117 : decode cX0_become 117 = .ok (.iconst 0, 1) := by decide +kernel
theorem dX0_become_118 : decode cX0_become 118 = .ok (.aload_n 0, 1) := by decide +kernel
theorem dX0_become_119 : decode cX0_become 119 = .ok (.getfield 33, 3) := by decide +kernel
theorem dX0_become_122 : decode cX0_become 122 = .ok (.iconst 0, 1) := by decide +kernel
theorem dX0_become_123 : decode cX0_become 123 = .ok (.bipush 8, 2) := by decide +kernel
theorem dX0_become_125 : decode cX0_become 125 = .ok (.invokestatic 43, 3) := by decide +kernel
theorem dX0_become_128 : decode cX0_become 128 = .ok (.aload_n 1, 1) := by decide +kernel
theorem dX0_become_129 : decode cX0_become 129 = .ok (.getfield 36, 3) := by decide +kernel
theorem dX0_become_132 : decode cX0_become 132 = .ok (.iconst 0, 1) := by decide +kernel
theorem dX0_become_133 : decode cX0_become 133 = .ok (.aload_n 0, 1) := by decide +kernel
theorem dX0_become_134 : decode cX0_become 134 = .ok (.getfield 36, 3) := by decide +kernel
theorem dX0_become_137 : decode cX0_become 137 = .ok (.iconst 0, 1) := by decide +kernel
theorem dX0_become_138 : decode cX0_become 138 = .ok (.bipush 8, 2) := by decide +kernel
theorem dX0_become_140 : decode cX0_become 140 = .ok (.invokestatic 43, 3) := by decide +kernel
theorem dX0_become_143 : decode cX0_become 143 = .ok (.return_, 1) := by decide +kernel
set_option maxRecDepth 20000 in
theorem ggX0_has_X4_isWithin : GoodIn wsX0_has wsX4_isWithin := goodIn_r _ [4] (by decide +kernel) (by decide +kernel)
set_option maxRecDepth 20000 in
theorem gX0_has_X4_isWithin_n49 : GoodIn wsX0_has (wsX4_isWithin) := ggX0_has_X4_isWithin
theorem dX0_has_0 : decode cX0_has 0 = .ok (.iload_n 1, 1) := by decide +kernel
theorem dX0_has_1 : decode cX0_has 1 = .ok (.iconst 0, 1) := by decide +kernel
theorem dX0_has_2 : decode cX0_has 2 = .ok (.aload_n 0, 1) := by decide +kernel
theorem dX0_has_3 : decode cX0_has 3 = .ok (.getfield 39, 3) := by decide +kernel
theorem dX0_has_6 : decode cX0_has 6 = .ok (.iconst 1, 1) := by decide +kernel
theorem dX0_has_7 : decode cX0_has 7 = .ok (.isub, 1) := by decide +kernel
theorem dX0_has_8 : decode cX0_has 8 = .ok (.invokestatic 49, 3) := by decide +kernel
theorem dX0_has_11 : decode cX0_has 11 = .ok (.ireturn, 1) := by decide +kernel
theorem dX0_add_0 : decode cX0_add 0 = .ok (.aload_n 0, 1) := by decide +kernel
theorem dX0_add_1 : decode cX0_add 1 = .ok (.getfield 39, 3) := by decide +kernel
theorem dX0_add_4 : decode cX0_add 4 = .ok (.bipush 8, 2) := by decide +kernel
theorem dX0_add_6 : decode cX0_add 6 = .ok (.if_icmp .lt 5, 3) := by decide +kernel
theorem dX0_add_9 : decode cX0_add 9 = .ok (.iconst (-1), 1) := by decide +kernel
theorem dX0_add_10 : decode cX0_add 10 = .ok (.ireturn, 1) := by decide +kernel
theorem dX0_add_11 : decode cX0_add 11 = .ok (.aload_n 0, 1) := by decide +kernel
theorem dX0_add_12 : decode cX0_add 12 = .ok (.getfield 39, 3) := by decide +kernel
theorem dX0_add_15 : decode cX0_add 15 = .ok (.istore 6, 2) := by decide +kernel
theorem dX0_add_17 : decode cX0_add 17 = .ok (.aload_n 0, 1) := by decide +kernel
theorem dX0_add_18 : decode cX0_add 18 = .ok (.getfield 9, 3) := by decide +kernel
theorem dX0_add_21 : decode cX0_add 21 = .ok (.iload 6, 2) := by decide +kernel
theorem dX0_add_23 : decode cX0_add 23 = .ok (.iload_n 3, 1) := by decide +kernel
theorem dX0_add_24 : decode cX0_add 24 = .ok (.iastore, 1) := by decide +kernel
theorem dX0_add_25 : decode cX0_add 25 = .ok (.aload_n 0, 1) := by decide +kernel
theorem dX0_add_26 : decode cX0_add 26 = .ok (.getfield 15, 3) := by decide +kernel
theorem dX0_add_29 : decode cX0_add 29 = .ok (.iload 6, 2) := by decide +kernel
theorem dX0_add_31 : decode cX0_add 31 = .ok (.iload 4, 2) := by decide +kernel
theorem dX0_add_33 : decode cX0_add 33 = .ok (.iastore, 1) := by decide +kernel
theorem dX0_add_34 : decode cX0_add 34 = .ok (.aload_n 0, 1) := by decide +kernel
theorem dX0_add_35 : decode cX0_add 35 = .ok (.getfield 18, 3) := by decide +kernel
theorem dX0_add_38 : decode cX0_add 38 = .ok (.iload 6, 2) := by decide +kernel
theorem dX0_add_40 : decode cX0_add 40 = .ok (.bipush 20, 2) := by decide +kernel
theorem dX0_add_42 : decode cX0_add 42 = .ok (.iastore, 1) := by decide +kernel
theorem dX0_add_43 : decode cX0_add 43 = .ok (.aload_n 0, 1) := by decide +kernel
theorem dX0_add_44 : decode cX0_add 44 = .ok (.getfield 21, 3) := by decide +kernel
theorem dX0_add_47 : decode cX0_add 47 = .ok (.iload 6, 2) := by decide +kernel
theorem dX0_add_49 : decode cX0_add 49 = .ok (.iload_n 1, 1) := by decide +kernel
theorem dX0_add_50 : decode cX0_add 50 = .ok (.iastore, 1) := by decide +kernel
theorem dX0_add_51 : decode cX0_add 51 = .ok (.aload_n 0, 1) := by decide +kernel
theorem dX0_add_52 : decode cX0_add 52 = .ok (.getfield 24, 3) := by decide +kernel
theorem dX0_add_55 : decode cX0_add 55 = .ok (.iload 6, 2) := by decide +kernel
theorem dX0_add_57 : decode cX0_add 57 = .ok (.iload_n 2, 1) := by decide +kernel
theorem dX0_add_58 : decode cX0_add 58 = .ok (.iastore, 1) := by decide +kernel
theorem dX0_add_59 : decode cX0_add 59 = .ok (.aload_n 0, 1) := by decide +kernel
theorem dX0_add_60 : decode cX0_add 60 = .ok (.getfield 27, 3) := by decide +kernel
theorem dX0_add_63 : decode cX0_add 63 = .ok (.iload 6, 2) := by decide +kernel
theorem dX0_add_65 : decode cX0_add 65 = .ok (.iload_n 1, 1) := by decide +kernel
theorem dX0_add_66 : decode cX0_add 66 = .ok (.iastore, 1) := by decide +kernel
theorem dX0_add_67 : decode cX0_add 67 = .ok (.aload_n 0, 1) := by decide +kernel
theorem dX0_add_68 : decode cX0_add 68 = .ok (.getfield 30, 3) := by decide +kernel
theorem dX0_add_71 : decode cX0_add 71 = .ok (.iload 6, 2) := by decide +kernel
theorem dX0_add_73 : decode cX0_add 73 = .ok (.iconst 0, 1) := by decide +kernel
theorem dX0_add_74 : decode cX0_add 74 = .ok (.iastore, 1) := by decide +kernel
theorem dX0_add_75 : decode cX0_add 75 = .ok (.aload_n 0, 1) := by decide +kernel
theorem dX0_add_76 : decode cX0_add 76 = .ok (.getfield 33, 3) := by decide +kernel
theorem dX0_add_79 : decode cX0_add 79 = .ok (.iload 6, 2) := by decide +kernel
theorem dX0_add_81 : decode cX0_add 81 = .ok (.iconst 0, 1) := by decide +kernel
theorem dX0_add_82 : decode cX0_add 82 = .ok (.iastore, 1) := by decide +kernel
theorem dX0_add_83 : decode cX0_add 83 = .ok (.aload_n 0, 1) := by decide +kernel
theorem dX0_add_84 : decode cX0_add 84 = .ok (.getfield 36, 3) := by decide +kernel
theorem dX0_add_87 : decode cX0_add 87 = .ok (.iload 6, 2) := by decide +kernel
theorem dX0_add_89 : decode cX0_add 89 = .ok (.iload 5, 2) := by decide +kernel
theorem dX0_add_91 : decode cX0_add 91 = .ok (.iastore, 1) := by decide +kernel
theorem dX0_add_92 : decode cX0_add 92 = .ok (.aload_n 0, 1) := by decide +kernel
theorem dX0_add_93 : decode cX0_add 93 = .ok (.dup, 1) := by decide +kernel
theorem dX0_add_94 : decode cX0_add 94 = .ok (.getfield 39, 3) := by decide +kernel
theorem dX0_add_97 : decode cX0_add 97 = .ok (.iconst 1, 1) := by decide +kernel
theorem dX0_add_98 : decode cX0_add 98 = .ok (.iadd, 1) := by decide +kernel
theorem dX0_add_99 : decode cX0_add 99 = .ok (.putfield 39, 3) := by decide +kernel
theorem dX0_add_102 : decode cX0_add 102 = .ok (.iload 6, 2) := by decide +kernel
theorem dX0_add_104 : decode cX0_add 104 = .ok (.ireturn, 1) := by decide +kernel
theorem dX0_tell_0 : decode cX0_tell 0 = .ok (.iload_n 2, 1) := by decide +kernel
theorem dX0_tell_1 : decode cX0_tell 1 = .ok (.tableswitch 103 0 7 #[47, 54, 61, 68, 75, 82, 89, 96], 47) := by decide +kernel
theorem dX0_tell_48 : decode cX0_tell 48 = .ok (.aload_n 0, 1) := by decide +kernel
theorem dX0_tell_49 : decode cX0_tell 49 = .ok (.getfield 9, 3) := by decide +kernel
theorem dX0_tell_52 : decode cX0_tell 52 = .ok (.iload_n 1, 1) := by decide +kernel
theorem dX0_tell_53 : decode cX0_tell 53 = .ok (.iaload, 1) := by decide +kernel
theorem dX0_tell_54 : decode cX0_tell 54 = .ok (.ireturn, 1) := by decide +kernel
theorem dX0_tell_55 : decode cX0_tell 55 = .ok (.aload_n 0, 1) := by decide +kernel
theorem dX0_tell_56 : decode cX0_tell 56 = .ok (.getfield 15, 3) := by decide +kernel
theorem dX0_tell_59 : decode cX0_tell 59 = .ok (.iload_n 1, 1) := by decide +kernel
theorem dX0_tell_60 : decode cX0_tell 60 = .ok (.iaload, 1) := by decide +kernel
theorem dX0_tell_61 : decode cX0_tell 61 = .ok (.ireturn, 1) := by decide +kernel
theorem dX0_tell_62 : decode cX0_tell 62 = .ok (.aload_n 0, 1) := by decide +kernel
theorem dX0_tell_63 : decode cX0_tell 63 = .ok (.getfield 18, 3) := by decide +kernel
theorem dX0_tell_66 : decode cX0_tell 66 = .ok (.iload_n 1, 1) := by decide +kernel
theorem dX0_tell_67 : decode cX0_tell 67 = .ok (.iaload, 1) := by decide +kernel
theorem dX0_tell_68 : decode cX0_tell 68 = .ok (.ireturn, 1) := by decide +kernel
theorem dX0_tell_69 : decode cX0_tell 69 = .ok (.aload_n 0, 1) := by decide +kernel
theorem dX0_tell_70 : decode cX0_tell 70 = .ok (.getfield 21, 3) := by decide +kernel
theorem dX0_tell_73 : decode cX0_tell 73 = .ok (.iload_n 1, 1) := by decide +kernel
theorem dX0_tell_74 : decode cX0_tell 74 = .ok (.iaload, 1) := by decide +kernel
theorem dX0_tell_75 : decode cX0_tell 75 = .ok (.ireturn, 1) := by decide +kernel
theorem dX0_tell_76 : decode cX0_tell 76 = .ok (.aload_n 0, 1) := by decide +kernel
theorem dX0_tell_77 : decode cX0_tell 77 = .ok (.getfield 24, 3) := by decide +kernel
theorem dX0_tell_80 : decode cX0_tell 80 = .ok (.iload_n 1, 1) := by decide +kernel
theorem dX0_tell_81 : decode cX0_tell 81 = .ok (.iaload, 1) := by decide +kernel
theorem dX0_tell_82 : decode cX0_tell 82 = .ok (.ireturn, 1) := by decide +kernel
theorem dX0_tell_83 : decode cX0_tell 83 = .ok (.aload_n 0, 1) := by decide +kernel
theorem dX0_tell_84 : decode cX0_tell 84 = .ok (.getfield 27, 3) := by decide +kernel
theorem dX0_tell_87 : decode cX0_tell 87 = .ok (.iload_n 1, 1) := by decide +kernel
theorem dX0_tell_88 : decode cX0_tell 88 = .ok (.iaload, 1) := by decide +kernel
theorem dX0_tell_89 : decode cX0_tell 89 = .ok (.ireturn, 1) := by decide +kernel
theorem dX0_tell_90 : decode cX0_tell 90 = .ok (.aload_n 0, 1) := by decide +kernel
theorem dX0_tell_91 : decode cX0_tell 91 = .ok (.getfield 30, 3) := by decide +kernel
theorem dX0_tell_94 : decode cX0_tell 94 = .ok (.iload_n 1, 1) := by decide +kernel
theorem dX0_tell_95 : decode cX0_tell 95 = .ok (.iaload, 1) := by decide +kernel
theorem dX0_tell_96 : decode cX0_tell 96 = .ok (.ireturn, 1) := by decide +kernel
theorem dX0_tell_97 : decode cX0_tell 97 = .ok (.aload_n 0, 1) := by decide +kernel
theorem dX0_tell_98 : decode cX0_tell 98 = .ok (.getfield 33, 3) := by decide +kernel
theorem dX0_tell_101 : decode cX0_tell 101 = .ok (.iload_n 1, 1) := by decide +kernel
theorem dX0_tell_102 : decode cX0_tell 102 = .ok (.iaload, 1) := by decide +kernel
theorem dX0_tell_103 : decode cX0_tell 103 = .ok (.ireturn, 1) := by decide +kernel
theorem dX0_tell_104 : decode cX0_tell 104 = .ok (.aload_n 0, 1) := by decide +kernel
theorem dX0_tell_105 : decode cX0_tell 105 = .ok (.getfield 36, 3) := by decide +kernel
theorem dX0_tell_108 : decode cX0_tell 108 = .ok (.iload_n 1, 1) := by decide +kernel
theorem dX0_tell_109 : decode cX0_tell 109 = .ok (.iaload, 1) := by decide +kernel
theorem dX0_tell_110 : decode cX0_tell 110 = .ok (.iconst 2, 1) := by decide +kernel
theorem dX0_tell_111 : decode cX0_tell 111 = .ok (.if_icmp .ne 7, 3) := by decide +kernel
theorem dX0_tell_114 : decode cX0_tell 114 = .ok (.iconst 1, 1) := by decide +kernel
theorem dX0_tell_115 : decode cX0_tell 115 = .ok (.goto 4, 3) := by decide +kernel
theorem dX0_tell_118 : decode cX0_tell 118 = .ok (.iconst 0, 1) := by decide +kernel
theorem dX0_tell_119 : decode cX0_tell 119 = .ok (.ireturn, 1) := by decide +kernel
theorem dX0_loadOf_0 : decode cX0_loadOf 0 = .ok (.aload_n 0, 1) := by decide +kernel
theorem dX0_loadOf_1 : decode cX0_loadOf 1 = .ok (.getfield 9, 3) := by decide +kernel
theorem dX0_loadOf_4 : decode cX0_loadOf 4 = .ok (.iload_n 1, 1) := by decide +kernel
theorem dX0_loadOf_5 : decode cX0_loadOf 5 = .ok (.iaload, 1) := by decide +kernel
theorem dX0_loadOf_6 : decode cX0_loadOf 6 = .ok (.aload_n 0, 1) := by decide +kernel
theorem dX0_loadOf_7 : decode cX0_loadOf 7 = .ok (.getfield 15, 3) := by decide +kernel
theorem dX0_loadOf_10 : decode cX0_loadOf 10 = .ok (.iload_n 1, 1) := by decide +kernel
theorem dX0_loadOf_11 : decode cX0_loadOf 11 = .ok (.iaload, 1) := by decide +kernel
theorem dX0_loadOf_12 : decode cX0_loadOf 12 = .ok (.iadd, 1) := by decide +kernel
theorem dX0_loadOf_13 : decode cX0_loadOf 13 = .ok (.ireturn, 1) := by decide +kernel
theorem dX0_isAtGoal_0 : decode cX0_isAtGoal 0 = .ok (.aload_n 0, 1) := by decide +kernel
theorem dX0_isAtGoal_1 : decode cX0_isAtGoal 1 = .ok (.getfield 21, 3) := by decide +kernel
theorem dX0_isAtGoal_4 : decode cX0_isAtGoal 4 = .ok (.iload_n 1, 1) := by decide +kernel
theorem dX0_isAtGoal_5 : decode cX0_isAtGoal 5 = .ok (.iaload, 1) := by decide +kernel
theorem dX0_isAtGoal_6 : decode cX0_isAtGoal 6 = .ok (.aload_n 0, 1) := by decide +kernel
theorem dX0_isAtGoal_7 : decode cX0_isAtGoal 7 = .ok (.getfield 27, 3) := by decide +kernel
theorem dX0_isAtGoal_10 : decode cX0_isAtGoal 10 = .ok (.iload_n 1, 1) := by decide +kernel
theorem dX0_isAtGoal_11 : decode cX0_isAtGoal 11 = .ok (.iaload, 1) := by decide +kernel
theorem dX0_isAtGoal_12 : decode cX0_isAtGoal 12 = .ok (.if_icmp .ne 7, 3) := by decide +kernel
theorem dX0_isAtGoal_15 : decode cX0_isAtGoal 15 = .ok (.iconst 1, 1) := by decide +kernel
theorem dX0_isAtGoal_16 : decode cX0_isAtGoal 16 = .ok (.goto 4, 3) := by decide +kernel
theorem dX0_isAtGoal_19 : decode cX0_isAtGoal 19 = .ok (.iconst 0, 1) := by decide +kernel
theorem dX0_isAtGoal_20 : decode cX0_isAtGoal 20 = .ok (.ireturn, 1) := by decide +kernel
set_option maxRecDepth 20000 in
theorem ggX0_nextSection_X0_isAtGoal : GoodIn wsX0_nextSection wsX0_isAtGoal := goodIn_r _ [7, 1, 2, 8, 9, 10, 11, 12, 13, 14, 15, 16, 17] (by decide +kernel) (by decide +kernel)
set_option maxRecDepth 20000 in
theorem gX0_nextSection_X0_isAtGoal : GoodIn wsX0_nextSection (wsV RX0 53 RX0 yX0_isAtGoal wsX0_isAtGoal) := goodIn_app (goodIn_of _ (by decide +kernel)) ggX0_nextSection_X0_isAtGoal
theorem dX0_nextSection_0 : decode cX0_nextSection 0 = .ok (.aload_n 0, 1) := by decide +kernel
theorem dX0_nextSection_1 : decode cX0_nextSection 1 = .ok (.getfield 21, 3) := by decide +kernel
theorem dX0_nextSection_4 : decode cX0_nextSection 4 = .ok (.iload_n 1, 1) := by decide +kernel
theorem dX0_nextSection_5 : decode cX0_nextSection 5 = .ok (.iaload, 1) := by decide +kernel
theorem dX0_nextSection_6 : decode cX0_nextSection 6 = .ok (.aload_n 0, 1) := by decide +kernel
theorem dX0_nextSection_7 : decode cX0_nextSection 7 = .ok (.getfield 27, 3) := by decide +kernel
theorem dX0_nextSection_10 : decode cX0_nextSection 10 = .ok (.iload_n 1, 1) := by decide +kernel
theorem dX0_nextSection_11 : decode cX0_nextSection 11 = .ok (.iaload, 1) := by decide +kernel
theorem dX0_nextSection_12 : decode cX0_nextSection 12 = .ok (.if_icmp .ge 12, 3) := by decide +kernel
theorem dX0_nextSection_15 : decode cX0_nextSection 15 = .ok (.aload_n 0, 1) := by decide +kernel
theorem dX0_nextSection_16 : decode cX0_nextSection 16 = .ok (.getfield 21, 3) := by decide +kernel
theorem dX0_nextSection_19 : decode cX0_nextSection 19 = .ok (.iload_n 1, 1) := by decide +kernel
theorem dX0_nextSection_20 : decode cX0_nextSection 20 = .ok (.iaload, 1) := by decide +kernel
theorem dX0_nextSection_21 : decode cX0_nextSection 21 = .ok (.iconst 1, 1) := by decide +kernel
theorem dX0_nextSection_22 : decode cX0_nextSection 22 = .ok (.iadd, 1) := by decide +kernel
theorem dX0_nextSection_23 : decode cX0_nextSection 23 = .ok (.ireturn, 1) := by decide +kernel
theorem dX0_nextSection_24 : decode cX0_nextSection 24 = .ok (.aload_n 0, 1) := by decide +kernel
theorem dX0_nextSection_25 : decode cX0_nextSection 25 = .ok (.iload_n 1, 1) := by decide +kernel
theorem dX0_nextSection_26 : decode cX0_nextSection 26 = .ok (.invokevirtual 53, 3) := by decide +kernel
theorem dX0_nextSection_29 : decode cX0_nextSection 29 = .ok (.ifCond .eq 12, 3) := by decide +kernel
theorem dX0_nextSection_32 : decode cX0_nextSection 32 = .ok (.aload_n 0, 1) := by decide +kernel
theorem dX0_nextSection_33 : decode cX0_nextSection 33 = .ok (.getfield 27, 3) := by decide +kernel
theorem dX0_nextSection_36 : decode cX0_nextSection 36 = .ok (.iload_n 1, 1) := by decide +kernel
theorem dX0_nextSection_37 : decode cX0_nextSection 37 = .ok (.iaload, 1) := by decide +kernel
theorem dX0_nextSection_38 : decode cX0_nextSection 38 = .ok (.goto 11, 3) := by decide +kernel
theorem dX0_nextSection_41 : decode cX0_nextSection 41 = .ok (.aload_n 0, 1) := by decide +kernel
theorem dX0_nextSection_42 : decode cX0_nextSection 42 = .ok (.getfield 21, 3) := by decide +kernel
theorem dX0_nextSection_45 : decode cX0_nextSection 45 = .ok (.iload_n 1, 1) := by decide +kernel
theorem dX0_nextSection_46 : decode cX0_nextSection 46 = .ok (.iaload, 1) := by decide +kernel
theorem dX0_nextSection_47 : decode cX0_nextSection 47 = .ok (.iconst 1, 1) := by decide +kernel
theorem dX0_nextSection_48 : decode cX0_nextSection 48 = .ok (.isub, 1) := by decide +kernel
theorem dX0_nextSection_49 : decode cX0_nextSection 49 = .ok (.ireturn, 1) := by decide +kernel
theorem dX0_numberWhose_0 : decode cX0_numberWhose 0 = .ok (.iconst 0, 1) := by decide +kernel
theorem dX0_numberWhose_1 : decode cX0_numberWhose 1 = .ok (.istore_n 2, 1) := by decide +kernel
theorem dX0_numberWhose_2 : decode cX0_numberWhose 2 = .ok (.iconst 0, 1) := by decide +kernel
theorem dX0_numberWhose_3 : decode cX0_numberWhose 3 = .ok (.istore_n 3, 1) := by decide +kernel
theorem dX0_numberWhose_4 : decode cX0_numberWhose 4 = .ok (.iload_n 3, 1) := by decide +kernel
theorem dX0_numberWhose_5 : decode cX0_numberWhose 5 = .ok (.aload_n 0, 1) := by decide +kernel
theorem dX0_numberWhose_6 : decode cX0_numberWhose 6 = .ok (.getfield 39, 3) := by decide +kernel
theorem dX0_numberWhose_9 : decode cX0_numberWhose 9 = .ok (.if_icmp .ge 22, 3) := by decide +kernel
theorem dX0_numberWhose_12 : decode cX0_numberWhose 12 = .ok (.aload_n 0, 1) := by decide +kernel
theorem dX0_numberWhose_13 : decode cX0_numberWhose 13 = .ok (.getfield 30, 3) := by decide +kernel
theorem dX0_numberWhose_16 : decode cX0_numberWhose 16 = .ok (.iload_n 3, 1) := by decide +kernel
theorem dX0_numberWhose_17 : decode cX0_numberWhose 17 = .ok (.iaload, 1) := by decide +kernel
theorem dX0_numberWhose_18 : decode cX0_numberWhose 18 = .ok (.iload_n 1, 1) := by decide +kernel
theorem dX0_numberWhose_19 : decode cX0_numberWhose 19 = .ok (.if_icmp .ne 6, 3) := by decide +kernel
theorem dX0_numberWhose_22 : decode cX0_numberWhose 22 = .ok (.iinc 2 1, 3) := by decide +kernel
theorem dX0_numberWhose_25 : decode cX0_numberWhose 25 = .ok (.iinc 3 1, 3) := by decide +kernel
theorem dX0_numberWhose_28 : decode cX0_numberWhose 28 = .ok (.goto (-24), 3) := by decide +kernel
theorem dX0_numberWhose_31 : decode cX0_numberWhose 31 = .ok (.iload_n 2, 1) := by decide +kernel
theorem dX0_numberWhose_32 : decode cX0_numberWhose 32 = .ok (.ireturn, 1) := by decide +kernel
theorem dX0_notOutAt_0 : decode cX0_notOutAt 0 = .ok (.iconst 0, 1) := by decide +kernel
theorem dX0_notOutAt_1 : decode cX0_notOutAt 1 = .ok (.istore_n 3, 1) := by decide +kernel
theorem dX0_notOutAt_2 : decode cX0_notOutAt 2 = .ok (.iconst 0, 1) := by decide +kernel
theorem dX0_notOutAt_3 : decode cX0_notOutAt 3 = .ok (.istore 4, 2) := by decide +kernel
theorem dX0_notOutAt_5 : decode cX0_notOutAt 5 = .ok (.iload 4, 2) := by decide +kernel
theorem dX0_notOutAt_7 : decode cX0_notOutAt 7 = .ok (.aload_n 0, 1) := by decide +kernel
theorem dX0_notOutAt_8 : decode cX0_notOutAt 8 = .ok (.getfield 39, 3) := by decide +kernel
theorem dX0_notOutAt_11 : decode cX0_notOutAt 11 = .ok (.if_icmp .ge 57, 3) := by decide +kernel
theorem dX0_notOutAt_14 : decode cX0_notOutAt 14 = .ok (.aload_n 0, 1) := by decide +kernel
theorem dX0_notOutAt_15 : decode cX0_notOutAt 15 = .ok (.getfield 21, 3) := by decide +kernel
theorem dX0_notOutAt_18 : decode cX0_notOutAt 18 = .ok (.iload 4, 2) := by decide +kernel
theorem dX0_notOutAt_20 : decode cX0_notOutAt 20 = .ok (.iaload, 1) := by decide +kernel
theorem dX0_notOutAt_21 : decode cX0_notOutAt 21 = .ok (.iload_n 1, 1) := by decide +kernel
theorem dX0_notOutAt_22 : decode cX0_notOutAt 22 = .ok (.if_icmp .ne 18, 3) := by decide +kernel
theorem dX0_notOutAt_25 : decode cX0_notOutAt 25 = .ok (.aload_n 0, 1) := by decide +kernel
theorem dX0_notOutAt_26 : decode cX0_notOutAt 26 = .ok (.getfield 24, 3) := by decide +kernel
theorem dX0_notOutAt_29 : decode cX0_notOutAt 29 = .ok (.iload 4, 2) := by decide +kernel
theorem dX0_notOutAt_31 : decode cX0_notOutAt 31 = .ok (.iaload, 1) := by decide +kernel
theorem dX0_notOutAt_32 : decode cX0_notOutAt 32 = .ok (.iload_n 2, 1) := by decide +kernel
theorem dX0_notOutAt_33 : decode cX0_notOutAt 33 = .ok (.if_icmp .ne 7, 3) := by decide +kernel
theorem dX0_notOutAt_36 : decode cX0_notOutAt 36 = .ok (.iconst 1, 1) := by decide +kernel
theorem dX0_notOutAt_37 : decode cX0_notOutAt 37 = .ok (.goto 4, 3) := by decide +kernel
theorem dX0_notOutAt_40 : decode cX0_notOutAt 40 = .ok (.iconst 0, 1) := by decide +kernel
theorem dX0_notOutAt_41 : decode cX0_notOutAt 41 = .ok (.istore 5, 2) := by decide +kernel
theorem dX0_notOutAt_43 : decode cX0_notOutAt 43 = .ok (.iload 5, 2) := by decide +kernel
theorem dX0_notOutAt_45 : decode cX0_notOutAt 45 = .ok (.ifCond .eq 17, 3) := by decide +kernel
theorem dX0_notOutAt_48 : decode cX0_notOutAt 48 = .ok (.aload_n 0, 1) := by decide +kernel
theorem dX0_notOutAt_49 : decode cX0_notOutAt 49 = .ok (.getfield 30, 3) := by decide +kernel
theorem dX0_notOutAt_52 : decode cX0_notOutAt 52 = .ok (.iload 4, 2) := by decide +kernel
theorem dX0_notOutAt_54 : decode cX0_notOutAt 54 = .ok (.iaload, 1) := by decide +kernel
theorem dX0_notOutAt_55 : decode cX0_notOutAt 55 = .ok (.iconst 3, 1) := by decide +kernel
theorem dX0_notOutAt_56 : decode cX0_notOutAt 56 = .ok (.if_icmp .eq 6, 3) := by decide +kernel
theorem dX0_notOutAt_59 : decode cX0_notOutAt 59 = .ok (.iinc 3 1, 3) := by decide +kernel
theorem dX0_notOutAt_62 : decode cX0_notOutAt 62 = .ok (.iinc 4 1, 3) := by decide +kernel
theorem dX0_notOutAt_65 : decode cX0_notOutAt 65 = .ok (.goto (-60), 3) := by decide +kernel
theorem dX0_notOutAt_68 : decode cX0_notOutAt 68 = .ok (.iload_n 3, 1) := by decide +kernel
theorem dX0_notOutAt_69 : decode cX0_notOutAt 69 = .ok (.ireturn, 1) := by decide +kernel
theorem dX1_init_0 : decode cX1_init 0 = .ok (.aload_n 0, 1) := by decide +kernel
theorem dX1_init_1 : decode cX1_init 1 = .ok (.invokespecial 3, 3) := by decide +kernel
theorem dX1_init_4 : decode cX1_init 4 = .ok (.aload_n 0, 1) := by decide +kernel
theorem dX1_init_5 : decode cX1_init 5 = .ok (.bipush 36, 2) := by decide +kernel
theorem dX1_init_7 : decode cX1_init 7 = .ok (.newarray .int, 2) := by decide +kernel
theorem dX1_init_9 : decode cX1_init 9 = .ok (.putfield 9, 3) := by decide +kernel
theorem dX1_init_12 : decode cX1_init 12 = .ok (.aload_n 0, 1) := by decide +kernel
theorem dX1_init_13 : decode cX1_init 13 = .ok (.bipush 36, 2) := by decide +kernel
theorem dX1_init_15 : decode cX1_init 15 = .ok (.newarray .int, 2) := by decide +kernel
theorem dX1_init_17 : decode cX1_init 17 = .ok (.putfield 15, 3) := by decide +kernel
theorem dX1_init_20 : decode cX1_init 20 = .ok (.iconst 0, 1) := by decide +kernel
theorem dX1_init_21 : decode cX1_init 21 = .ok (.istore_n 1, 1) := by decide +kernel
theorem dX1_init_22 : decode cX1_init 22 = .ok (.iload_n 1, 1) := by decide +kernel
theorem dX1_init_23 : decode cX1_init 23 = .ok (.bipush 36, 2) := by decide +kernel
theorem dX1_init_25 : decode cX1_init 25 = .ok (.if_icmp .ge 17, 3) := by decide +kernel
theorem dX1_init_28 : decode cX1_init 28 = .ok (.aload_n 0, 1) := by decide +kernel
theorem dX1_init_29 : decode cX1_init 29 = .ok (.getfield 9, 3) := by decide +kernel
theorem dX1_init_32 : decode cX1_init 32 = .ok (.iload_n 1, 1) := by decide +kernel
theorem dX1_init_33 : decode cX1_init 33 = .ok (.bipush 30, 2) := by decide +kernel
theorem dX1_init_35 : decode cX1_init 35 = .ok (.iastore, 1) := by decide +kernel
theorem dX1_init_36 : decode cX1_init 36 = .ok (.iinc 1 1, 3) := by decide +kernel
theorem dX1_init_39 : decode cX1_init 39 = .ok (.goto (-17), 3) := by decide +kernel
theorem dX1_init_42 : decode cX1_init 42 = .ok (.return_, 1) := by decide +kernel
theorem dX1_become_0 : decode cX1_become 0 = .ok (.aload_n 1, 1) := by decide +kernel
theorem dX1_become_1 : decode cX1_become 1 = .ok (.getfield 9, 3) := by decide +kernel
theorem dX1_become_4 : decode cX1_become 4 = .ok (.iconst 0, 1) := by decide +kernel
theorem dX1_become_5 : decode cX1_become 5 = .ok (.aload_n 0, 1) := by decide +kernel
theorem dX1_become_6 : decode cX1_become 6 = .ok (.getfield 9, 3) := by decide +kernel
theorem dX1_become_9 : decode cX1_become 9 = .ok (.iconst 0, 1) := by decide +kernel
theorem dX1_become_10 : decode cX1_become 10 = .ok (.bipush 36, 2) := by decide +kernel
theorem dX1_become_12 : decode cX1_become 12 = .ok (.invokestatic 18, 3) := by decide +kernel
theorem dX1_become_15 : decode cX1_become 15 = .ok (.aload_n 1, 1) := by decide +kernel
theorem dX1_become_16 : decode cX1_become 16 = .ok (.getfield 15, 3) := by decide +kernel
theorem dX1_become_19 : decode cX1_become 19 = .ok (.iconst 0, 1) := by decide +kernel
theorem dX1_become_20 : decode cX1_become 20 = .ok (.aload_n 0, 1) := by decide +kernel
theorem dX1_become_21 : decode cX1_become 21 = .ok (.getfield 15, 3) := by decide +kernel
theorem dX1_become_24 : decode cX1_become 24 = .ok (.iconst 0, 1) := by decide +kernel
theorem dX1_become_25 : decode cX1_become 25 = .ok (.bipush 36, 2) := by decide +kernel
theorem dX1_become_27 : decode cX1_become 27 = .ok (.invokestatic 18, 3) := by decide +kernel
theorem dX1_become_30 : decode cX1_become 30 = .ok (.return_, 1) := by decide +kernel
set_option maxRecDepth 20000 in
theorem ggX1_soundness_X4_placeOf : GoodIn wsX1_soundness wsX4_placeOf := goodIn_r _ [5] (by decide +kernel) (by decide +kernel)
set_option maxRecDepth 20000 in
theorem gX1_soundness_X4_placeOf_n24 : GoodIn wsX1_soundness (wsX4_placeOf) := ggX1_soundness_X4_placeOf
theorem dX1_soundness_0 : decode cX1_soundness 0 = .ok (.iload_n 1, 1) := by decide +kernel
theorem dX1_soundness_1 : decode cX1_soundness 1 = .ok (.iload_n 2, 1) := by decide +kernel
theorem dX1_soundness_2 : decode cX1_soundness 2 = .ok (.invokestatic 24, 3) := by decide +kernel
theorem dX1_soundness_5 : decode cX1_soundness 5 = .ok (.istore_n 3, 1) := by decide +kernel
theorem dX1_soundness_6 : decode cX1_soundness 6 = .ok (.aload_n 0, 1) := by decide +kernel
theorem dX1_soundness_7 : decode cX1_soundness 7 = .ok (.getfield 9, 3) := by decide +kernel
theorem dX1_soundness_10 : decode cX1_soundness 10 = .ok (.iload_n 3, 1) := by decide +kernel
theorem dX1_soundness_11 : decode cX1_soundness 11 = .ok (.iaload, 1) := by decide +kernel
theorem dX1_soundness_12 : decode cX1_soundness 12 = .ok (.iconst 3, 1) := by decide +kernel
theorem dX1_soundness_13 : decode cX1_soundness 13 = .ok (.aload_n 0, 1) := by decide +kernel
theorem dX1_soundness_14 : decode cX1_soundness 14 = .ok (.getfield 15, 3) := by decide +kernel
theorem dX1_soundness_17 : decode cX1_soundness 17 = .ok (.iload_n 3, 1) := by decide +kernel
theorem dX1_soundness_18 : decode cX1_soundness 18 = .ok (.iaload, 1) := by decide +kernel
theorem dX1_soundness_19 : decode cX1_soundness 19 = .ok (.imul, 1) := by decide +kernel
theorem dX1_soundness_20 : decode cX1_soundness 20 = .ok (.isub, 1) := by decide +kernel
theorem dX1_soundness_21 : decode cX1_soundness 21 = .ok (.ireturn, 1) := by decide +kernel
set_option maxRecDepth 20000 in
theorem ggX1_holds_X1_soundness : GoodIn wsX1_holds wsX1_soundness := goodIn_r _ [5, 6, 7, 8, 9, 10, 11, 12] (by decide +kernel) (by decide +kernel)
set_option maxRecDepth 20000 in
theorem gX1_holds_X1_soundness : GoodIn wsX1_holds (wsV RX1 28 RX1 yX1_soundness wsX1_soundness) := goodIn_app (goodIn_of _ (by decide +kernel)) ggX1_holds_X1_soundness
theorem dX1_holds_0 : decode cX1_holds 0 = .ok (.aload_n 0, 1) := by decide +kernel
theorem dX1_holds_1 : decode cX1_holds 1 = .ok (.iload_n 1, 1) := by decide +kernel
theorem dX1_holds_2 : decode cX1_holds 2 = .ok (.iload_n 2, 1) := by decide +kernel
theorem dX1_holds_3 : decode cX1_holds 3 = .ok (.invokevirtual 28, 3) := by decide +kernel
theorem dX1_holds_6 : decode cX1_holds 6 = .ok (.iload_n 3, 1) := by decide +kernel
theorem dX1_holds_7 : decode cX1_holds 7 = .ok (.if_icmp .lt 7, 3) := by decide +kernel
theorem dX1_holds_10 : decode cX1_holds 10 = .ok (.iconst 1, 1) := by decide +kernel
theorem dX1_holds_11 : decode cX1_holds 11 = .ok (.goto 4, 3) := by decide +kernel
theorem dX1_holds_14 : decode cX1_holds 14 = .ok (.iconst 0, 1) := by decide +kernel
theorem dX1_holds_15 : decode cX1_holds 15 = .ok (.ireturn, 1) := by decide +kernel
set_option maxRecDepth 20000 in
theorem ggX1_mostBorneAt_X1_soundness : GoodIn wsX1_mostBorneAt wsX1_soundness := goodIn_r _ [9, 10, 11, 12, 13, 14, 15, 16] (by decide +kernel) (by decide +kernel)
set_option maxRecDepth 20000 in
theorem gX1_mostBorneAt_X1_soundness : GoodIn wsX1_mostBorneAt (wsV RX1 28 RX1 yX1_soundness wsX1_soundness) := goodIn_app (goodIn_of _ (by decide +kernel)) ggX1_mostBorneAt_X1_soundness
theorem dX1_mostBorneAt_0 : decode cX1_mostBorneAt 0 = .ok (.iconst 0, 1) := by decide +kernel
theorem dX1_mostBorneAt_1 : decode cX1_mostBorneAt 1 = .ok (.aload_n 0, 1) := by decide +kernel
theorem dX1_mostBorneAt_2 : decode cX1_mostBorneAt 2 = .ok (.iload_n 1, 1) := by decide +kernel
theorem dX1_mostBorneAt_3 : decode cX1_mostBorneAt 3 = .ok (.iload_n 2, 1) := by decide +kernel
theorem dX1_mostBorneAt_4 : decode cX1_mostBorneAt 4 = .ok (.invokevirtual 28, 3) := by decide +kernel
theorem dX1_mostBorneAt_7 : decode cX1_mostBorneAt 7 = .ok (.invokestatic 31, 3) := by decide +kernel
theorem dX1_mostBorneAt_10 : decode cX1_mostBorneAt 10 = .ok (.ireturn, 1) := by decide +kernel
set_option maxRecDepth 20000 in
theorem ggX1_mostBorneBetween_X1_mostBorneAt : GoodIn wsX1_mostBorneBetween wsX1_mostBorneAt := goodIn_r _ [12, 1, 2, 3, 4, 13, 14, 15, 11, 16, 17, 18, 19, 20, 21, 22, 23] (by decide +kernel) (by decide +kernel)
set_option maxRecDepth 20000 in
theorem gX1_mostBorneBetween_X1_mostBorneAt : GoodIn wsX1_mostBorneBetween (wsV RX1 36 RX1 yX1_mostBorneAt wsX1_mostBorneAt) := goodIn_app (goodIn_of _ (by decide +kernel)) ggX1_mostBorneBetween_X1_mostBorneAt
theorem dX1_mostBorneBetween_0 : decode cX1_mostBorneBetween 0 = .ok (.aload_n 0, 1) := by decide +kernel
theorem dX1_mostBorneBetween_1 : decode cX1_mostBorneBetween 1 = .ok (.iload_n 1, 1) := by decide +kernel
theorem dX1_mostBorneBetween_2 : decode cX1_mostBorneBetween 2 = .ok (.iconst 0, 1) := by decide +kernel
theorem dX1_mostBorneBetween_3 : decode cX1_mostBorneBetween 3 = .ok (.invokevirtual 36, 3) := by decide +kernel
theorem dX1_mostBorneBetween_6 : decode cX1_mostBorneBetween 6 = .ok (.istore_n 3, 1) := by decide +kernel
theorem dX1_mostBorneBetween_7 : decode cX1_mostBorneBetween 7 = .ok (.aload_n 0, 1) := by decide +kernel
theorem dX1_mostBorneBetween_8 : decode cX1_mostBorneBetween 8 = .ok (.iload_n 1, 1) := by decide +kernel
theorem dX1_mostBorneBetween_9 : decode cX1_mostBorneBetween 9 = .ok (.iconst 1, 1) := by decide +kernel
theorem dX1_mostBorneBetween_10 : decode cX1_mostBorneBetween 10 = .ok (.invokevirtual 36, 3) := by decide +kernel
theorem dX1_mostBorneBetween_13 : decode cX1_mostBorneBetween 13 = .ok (.istore 4, 2) := by decide +kernel
theorem dX1_mostBorneBetween_15 : decode cX1_mostBorneBetween 15 = .ok (.aload_n 0, 1) := by decide +kernel
theorem dX1_mostBorneBetween_16 : decode cX1_mostBorneBetween 16 = .ok (.iload_n 1, 1) := by decide +kernel
theorem dX1_mostBorneBetween_17 : decode cX1_mostBorneBetween 17 = .ok (.iconst 2, 1) := by decide +kernel
theorem dX1_mostBorneBetween_18 : decode cX1_mostBorneBetween 18 = .ok (.invokevirtual 36, 3) := by decide +kernel
theorem dX1_mostBorneBetween_21 : decode cX1_mostBorneBetween 21 = .ok (.istore 5, 2) := by decide +kernel
theorem dX1_mostBorneBetween_23 : decode cX1_mostBorneBetween 23 = .ok (.iload_n 1, 1) := by decide +kernel
theorem dX1_mostBorneBetween_24 : decode cX1_mostBorneBetween 24 = .ok (.iconst 1, 1) := by decide +kernel
theorem dX1_mostBorneBetween_25 : decode cX1_mostBorneBetween 25 = .ok (.iadd, 1) := by decide +kernel
theorem dX1_mostBorneBetween_26 : decode cX1_mostBorneBetween 26 = .ok (.istore 6, 2) := by decide +kernel
theorem dX1_mostBorneBetween_28 : decode cX1_mostBorneBetween 28 = .ok (.iload 6, 2) := by decide +kernel
theorem dX1_mostBorneBetween_30 : decode cX1_mostBorneBetween 30 = .ok (.iload_n 2, 1) := by decide +kernel
theorem dX1_mostBorneBetween_31 : decode cX1_mostBorneBetween 31 = .ok (.if_icmp .gt 72, 3) := by decide +kernel
theorem dX1_mostBorneBetween_34 : decode cX1_mostBorneBetween 34 = .ok (.iload_n 3, 1) := by decide +kernel
theorem dX1_mostBorneBetween_35 : decode cX1_mostBorneBetween 35 = .ok (.iload 4, 2) := by decide +kernel
theorem dX1_mostBorneBetween_37 : decode cX1_mostBorneBetween 37 = .ok (.invokestatic 31, 3) := by decide +kernel
theorem dX1_mostBorneBetween_40 : decode cX1_mostBorneBetween 40 = .ok (.istore 7, 2) := by decide +kernel
theorem dX1_mostBorneBetween_42 : decode cX1_mostBorneBetween 42 = .ok (.iload 4, 2) := by decide +kernel
theorem dX1_mostBorneBetween_44 : decode cX1_mostBorneBetween 44 = .ok (.iload 5, 2) := by decide +kernel
theorem dX1_mostBorneBetween_46 : decode cX1_mostBorneBetween 46 = .ok (.invokestatic 31, 3) := by decide +kernel
theorem dX1_mostBorneBetween_49 : decode cX1_mostBorneBetween 49 = .ok (.istore 8, 2) := by decide +kernel
theorem dX1_mostBorneBetween_51 : decode cX1_mostBorneBetween 51 = .ok (.iload 7, 2) := by decide +kernel
theorem dX1_mostBorneBetween_53 : decode cX1_mostBorneBetween 53 = .ok (.aload_n 0, 1) := by decide +kernel
theorem dX1_mostBorneBetween_54 : decode cX1_mostBorneBetween 54 = .ok (.iload 6, 2) := by decide +kernel
theorem dX1_mostBorneBetween_56 : decode cX1_mostBorneBetween 56 = .ok (.iconst 0, 1) := by decide +kernel
theorem dX1_mostBorneBetween_57 : decode cX1_mostBorneBetween 57 = .ok (.invokevirtual 36, 3) := by decide +kernel
theorem dX1_mostBorneBetween_60 : decode cX1_mostBorneBetween 60 = .ok (.invokestatic 39, 3) := by decide +kernel
theorem dX1_mostBorneBetween_63 : decode cX1_mostBorneBetween 63 = .ok (.istore_n 3, 1) := by decide +kernel
theorem dX1_mostBorneBetween_64 : decode cX1_mostBorneBetween 64 = .ok (.iload 7, 2) := by decide +kernel
theorem dX1_mostBorneBetween_66 : decode cX1_mostBorneBetween 66 = .ok (.iload 8, 2) := by decide +kernel
theorem dX1_mostBorneBetween_68 : decode cX1_mostBorneBetween 68 = .ok (.invokestatic 31, 3) := by decide +kernel
theorem dX1_mostBorneBetween_71 : decode cX1_mostBorneBetween 71 = .ok (.aload_n 0, 1) := by decide +kernel
theorem dX1_mostBorneBetween_72 : decode cX1_mostBorneBetween 72 = .ok (.iload 6, 2) := by decide +kernel
theorem dX1_mostBorneBetween_74 : decode cX1_mostBorneBetween 74 = .ok (.iconst 1, 1) := by decide +kernel
theorem dX1_mostBorneBetween_75 : decode cX1_mostBorneBetween 75 = .ok (.invokevirtual 36, 3) := by decide +kernel
theorem dX1_mostBorneBetween_78 : decode cX1_mostBorneBetween 78 = .ok (.invokestatic 39, 3) := by decide +kernel
theorem dX1_mostBorneBetween_81 : decode cX1_mostBorneBetween 81 = .ok (.istore 4, 2) := by decide +kernel
theorem dX1_mostBorneBetween_83 : decode cX1_mostBorneBetween 83 = .ok (.iload 8, 2) := by decide +kernel
theorem dX1_mostBorneBetween_85 : decode cX1_mostBorneBetween 85 = .ok (.aload_n 0, 1) := by decide +kernel
theorem dX1_mostBorneBetween_86 : decode cX1_mostBorneBetween 86 = .ok (.iload 6, 2) := by decide +kernel
theorem dX1_mostBorneBetween_88 : decode cX1_mostBorneBetween 88 = .ok (.iconst 2, 1) := by decide +kernel
theorem dX1_mostBorneBetween_89 : decode cX1_mostBorneBetween 89 = .ok (.invokevirtual 36, 3) := by decide +kernel
theorem dX1_mostBorneBetween_92 : decode cX1_mostBorneBetween 92 = .ok (.invokestatic 39, 3) := by decide +kernel
theorem dX1_mostBorneBetween_95 : decode cX1_mostBorneBetween 95 = .ok (.istore 5, 2) := by decide +kernel
theorem dX1_mostBorneBetween_97 : decode cX1_mostBorneBetween 97 = .ok (.iinc 6 1, 3) := by decide +kernel
theorem dX1_mostBorneBetween_100 : decode cX1_mostBorneBetween 100 = .ok (.goto (-72), 3) := by decide +kernel
theorem dX1_mostBorneBetween_103 : decode cX1_mostBorneBetween 103 = .ok (.iload_n 3, 1) := by decide +kernel
theorem dX1_mostBorneBetween_104 : decode cX1_mostBorneBetween 104 = .ok (.iload 4, 2) := by decide +kernel
theorem dX1_mostBorneBetween_106 : decode cX1_mostBorneBetween 106 = .ok (.invokestatic 31, 3) := by decide +kernel
theorem dX1_mostBorneBetween_109 : decode cX1_mostBorneBetween 109 = .ok (.iload 5, 2) := by decide +kernel
theorem dX1_mostBorneBetween_111 : decode cX1_mostBorneBetween 111 = .ok (.invokestatic 31, 3) := by decide +kernel
theorem dX1_mostBorneBetween_114 : decode cX1_mostBorneBetween 114 = .ok (.ireturn, 1) := by decide +kernel
theorem dX1_meetDay_0 : decode cX1_meetDay 0 = .ok (.iload_n 1, 1) := by decide +kernel
theorem dX1_meetDay_1 : decode cX1_meetDay 1 = .ok (.ifCond .ge 8, 3) := by decide +kernel
theorem dX1_meetDay_4 : decode cX1_meetDay 4 = .ok (.iload_n 1, 1) := by decide +kernel
theorem dX1_meetDay_5 : decode cX1_meetDay 5 = .ok (.ineg, 1) := by decide +kernel
theorem dX1_meetDay_6 : decode cX1_meetDay 6 = .ok (.goto 7, 3) := by decide +kernel
theorem dX1_meetDay_9 : decode cX1_meetDay 9 = .ok (.bipush (-2), 2) := by decide +kernel
theorem dX1_meetDay_11 : decode cX1_meetDay 11 = .ok (.iload_n 1, 1) := by decide +kernel
theorem dX1_meetDay_12 : decode cX1_meetDay 12 = .ok (.imul, 1) := by decide +kernel
theorem dX1_meetDay_13 : decode cX1_meetDay 13 = .ok (.istore_n 2, 1) := by decide +kernel
theorem dX1_meetDay_14 : decode cX1_meetDay 14 = .ok (.iconst 0, 1) := by decide +kernel
theorem dX1_meetDay_15 : decode cX1_meetDay 15 = .ok (.istore_n 3, 1) := by decide +kernel
theorem dX1_meetDay_16 : decode cX1_meetDay 16 = .ok (.iload_n 3, 1) := by decide +kernel
theorem dX1_meetDay_17 : decode cX1_meetDay 17 = .ok (.bipush 36, 2) := by decide +kernel
theorem dX1_meetDay_19 : decode cX1_meetDay 19 = .ok (.if_icmp .ge 56, 3) := by decide +kernel
theorem dX1_meetDay_22 : decode cX1_meetDay 22 = .ok (.aload_n 0, 1) := by decide +kernel
theorem dX1_meetDay_23 : decode cX1_meetDay 23 = .ok (.getfield 9, 3) := by decide +kernel
theorem dX1_meetDay_26 : decode cX1_meetDay 26 = .ok (.iload_n 3, 1) := by decide +kernel
theorem dX1_meetDay_27 : decode cX1_meetDay 27 = .ok (.iconst 0, 1) := by decide +kernel
theorem dX1_meetDay_28 : decode cX1_meetDay 28 = .ok (.bipush 60, 2) := by decide +kernel
theorem dX1_meetDay_30 : decode cX1_meetDay 30 = .ok (.aload_n 0, 1) := by decide +kernel
theorem dX1_meetDay_31 : decode cX1_meetDay 31 = .ok (.getfield 9, 3) := by decide +kernel
theorem dX1_meetDay_34 : decode cX1_meetDay 34 = .ok (.iload_n 3, 1) := by decide +kernel
theorem dX1_meetDay_35 : decode cX1_meetDay 35 = .ok (.iaload, 1) := by decide +kernel
theorem dX1_meetDay_36 : decode cX1_meetDay 36 = .ok (.iload_n 2, 1) := by decide +kernel
theorem dX1_meetDay_37 : decode cX1_meetDay 37 = .ok (.iadd, 1) := by decide +kernel
theorem dX1_meetDay_38 : decode cX1_meetDay 38 = .ok (.invokestatic 39, 3) := by decide +kernel
theorem dX1_meetDay_41 : decode cX1_meetDay 41 = .ok (.invokestatic 31, 3) := by decide +kernel
theorem dX1_meetDay_44 : decode cX1_meetDay 44 = .ok (.iastore, 1) := by decide +kernel
theorem dX1_meetDay_45 : decode cX1_meetDay 45 = .ok (.iload_n 1, 1) := by decide +kernel
theorem dX1_meetDay_46 : decode cX1_meetDay 46 = .ok (.bipush (-3), 2) := by decide +kernel
theorem dX1_meetDay_48 : decode cX1_meetDay 48 = .ok (.if_icmp .gt 21, 3) := by decide +kernel
theorem dX1_meetDay_51 : decode cX1_meetDay 51 = .ok (.aload_n 0, 1) := by decide +kernel
theorem dX1_meetDay_52 : decode cX1_meetDay 52 = .ok (.getfield 15, 3) := by decide +kernel
theorem dX1_meetDay_55 : decode cX1_meetDay 55 = .ok (.iload_n 3, 1) := by decide +kernel
theorem dX1_meetDay_56 : decode cX1_meetDay 56 = .ok (.iconst 0, 1) := by decide +kernel
theorem dX1_meetDay_57 : decode cX1_meetDay 57 = .ok (.aload_n 0, 1) := by decide +kernel
theorem dX1_meetDay_58 : decode cX1_meetDay 58 = .ok (.getfield 15, 3) := by decide +kernel
theorem dX1_meetDay_61 : decode cX1_meetDay 61 = .ok (.iload_n 3, 1) := by decide +kernel
theorem dX1_meetDay_62 : decode cX1_meetDay 62 = .ok (.iaload, 1) := by decide +kernel
theorem dX1_meetDay_63 : decode cX1_meetDay 63 = .ok (.iconst 1, 1) := by decide +kernel
theorem dX1_meetDay_64 : decode cX1_meetDay 64 = .ok (.isub, 1) := by decide +kernel
theorem dX1_meetDay_65 : decode cX1_meetDay 65 = .ok (.invokestatic 31, 3) := by decide +kernel
theorem dX1_meetDay_68 : decode cX1_meetDay 68 = .ok (.iastore, 1) := by decide +kernel
theorem dX1_meetDay_69 : decode cX1_meetDay 69 = .ok (.iinc 3 1, 3) := by decide +kernel
theorem dX1_meetDay_72 : decode cX1_meetDay 72 = .ok (.goto (-56), 3) := by decide +kernel
theorem dX1_meetDay_75 : decode cX1_meetDay 75 = .ok (.return_, 1) := by decide +kernel
set_option maxRecDepth 20000 in
theorem ggX1_withstands_X4_placeOf : GoodIn wsX1_withstands wsX4_placeOf := goodIn_r _ [9] (by decide +kernel) (by decide +kernel)
set_option maxRecDepth 20000 in
theorem gX1_withstands_X4_placeOf_n24 : GoodIn wsX1_withstands (wsX4_placeOf) := ggX1_withstands_X4_placeOf
set_option maxRecDepth 20000 in
theorem ggX1_withstands_X1_soundness : GoodIn wsX1_withstands wsX1_soundness := goodIn_r _ [14, 6, 1, 7, 8, 9, 15, 16] (by decide +kernel) (by decide +kernel)
set_option maxRecDepth 20000 in
theorem gX1_withstands_X1_soundness : GoodIn wsX1_withstands (wsV RX1 28 RX1 yX1_soundness wsX1_soundness) := goodIn_app (goodIn_of _ (by decide +kernel)) ggX1_withstands_X1_soundness
theorem dX1_withstands_0 : decode cX1_withstands 0 = .ok (.iload_n 1, 1) := by decide +kernel
theorem dX1_withstands_1 : decode cX1_withstands 1 = .ok (.iload_n 2, 1) := by decide +kernel
theorem dX1_withstands_2 : decode cX1_withstands 2 = .ok (.invokestatic 24, 3) := by decide +kernel
theorem dX1_withstands_5 : decode cX1_withstands 5 = .ok (.istore 4, 2) := by decide +kernel
theorem dX1_withstands_7 : decode cX1_withstands 7 = .ok (.aload_n 0, 1) := by decide +kernel
theorem dX1_withstands_8 : decode cX1_withstands 8 = .ok (.iload_n 1, 1) := by decide +kernel
theorem dX1_withstands_9 : decode cX1_withstands 9 = .ok (.iload_n 2, 1) := by decide +kernel
theorem dX1_withstands_10 : decode cX1_withstands 10 = .ok (.invokevirtual 28, 3) := by decide +kernel
theorem dX1_withstands_13 : decode cX1_withstands 13 = .ok (.iconst 2, 1) := by decide +kernel
theorem dX1_withstands_14 : decode cX1_withstands 14 = .ok (.iload_n 3, 1) := by decide +kernel
theorem dX1_withstands_15 : decode cX1_withstands 15 = .ok (.imul, 1) := by decide +kernel
theorem dX1_withstands_16 : decode cX1_withstands 16 = .ok (.if_icmp .ge 24, 3) := by decide +kernel
theorem dX1_withstands_19 : decode cX1_withstands 19 = .ok (.aload_n 0, 1) := by decide +kernel
theorem dX1_withstands_20 : decode cX1_withstands 20 = .ok (.getfield 15, 3) := by decide +kernel
theorem dX1_withstands_23 : decode cX1_withstands 23 = .ok (.iload 4, 2) := by decide +kernel
theorem dX1_withstands_25 : decode cX1_withstands 25 = .ok (.bipush 9, 2) := by decide +kernel
theorem dX1_withstands_27 : decode cX1_withstands 27 = .ok (.aload_n 0, 1) := by decide +kernel
theorem dX1_withstands_28 : decode cX1_withstands 28 = .ok (.getfield 15, 3) := by decide +kernel
theorem dX1_withstands_31 : decode cX1_withstands 31 = .ok (.iload 4, 2) := by decide +kernel
theorem dX1_withstands_33 : decode cX1_withstands 33 = .ok (.iaload, 1) := by decide +kernel
theorem dX1_withstands_34 : decode cX1_withstands 34 = .ok (.iconst 1, 1) := by decide +kernel
theorem dX1_withstands_35 : decode cX1_withstands 35 = .ok (.iadd, 1) := by decide +kernel
theorem dX1_withstands_36 : decode cX1_withstands 36 = .ok (.invokestatic 39, 3) := by decide +kernel
theorem dX1_withstands_39 : decode cX1_withstands 39 = .ok (.iastore, 1) := by decide +kernel
theorem dX1_withstands_40 : decode cX1_withstands 40 = .ok (.aload_n 0, 1) := by decide +kernel
theorem dX1_withstands_41 : decode cX1_withstands 41 = .ok (.iload_n 1, 1) := by decide +kernel
theorem dX1_withstands_42 : decode cX1_withstands 42 = .ok (.iload_n 2, 1) := by decide +kernel
theorem dX1_withstands_43 : decode cX1_withstands 43 = .ok (.invokevirtual 28, 3) := by decide +kernel
theorem dX1_withstands_46 : decode cX1_withstands 46 = .ok (.iload_n 3, 1) := by decide +kernel
theorem dX1_withstands_47 : decode cX1_withstands 47 = .ok (.if_icmp .lt 5, 3) := by decide +kernel
theorem dX1_withstands_50 : decode cX1_withstands 50 = .ok (.iconst 1, 1) := by decide +kernel
theorem dX1_withstands_51 : decode cX1_withstands 51 = .ok (.ireturn, 1) := by decide +kernel
theorem dX1_withstands_52 : decode cX1_withstands 52 = .ok (.aload_n 0, 1) := by decide +kernel
theorem dX1_withstands_53 : decode cX1_withstands 53 = .ok (.getfield 9, 3) := by decide +kernel
theorem dX1_withstands_56 : decode cX1_withstands 56 = .ok (.iload 4, 2) := by decide +kernel
theorem dX1_withstands_58 : decode cX1_withstands 58 = .ok (.iconst 0, 1) := by decide +kernel
theorem dX1_withstands_59 : decode cX1_withstands 59 = .ok (.iastore, 1) := by decide +kernel
theorem dX1_withstands_60 : decode cX1_withstands 60 = .ok (.iconst 0, 1) := by decide +kernel
theorem dX1_withstands_61 : decode cX1_withstands 61 = .ok (.ireturn, 1) := by decide +kernel
set_option maxRecDepth 20000 in
theorem ggX1_laneFor_X1_soundness : GoodIn wsX1_laneFor wsX1_soundness := goodIn_r _ [12, 13, 14, 15, 16, 17, 18, 19] (by decide +kernel) (by decide +kernel)
set_option maxRecDepth 20000 in
theorem gX1_laneFor_X1_soundness : GoodIn wsX1_laneFor (wsV RX1 28 RX1 yX1_soundness wsX1_soundness) := goodIn_app (goodIn_of _ (by decide +kernel)) ggX1_laneFor_X1_soundness
theorem dX1_laneFor_0 : decode cX1_laneFor 0 = .ok (.iconst (-1), 1) := by decide +kernel
theorem dX1_laneFor_1 : decode cX1_laneFor 1 = .ok (.istore 4, 2) := by decide +kernel
theorem dX1_laneFor_3 : decode cX1_laneFor 3 = .ok (.iconst 0, 1) := by decide +kernel
theorem dX1_laneFor_4 : decode cX1_laneFor 4 = .ok (.istore 5, 2) := by decide +kernel
theorem dX1_laneFor_6 : decode cX1_laneFor 6 = .ok (.iconst 2, 1) := by decide +kernel
theorem dX1_laneFor_7 : decode cX1_laneFor 7 = .ok (.iload_n 2, 1) := by decide +kernel
theorem dX1_laneFor_8 : decode cX1_laneFor 8 = .ok (.iconst 1, 1) := by decide +kernel
theorem dX1_laneFor_9 : decode cX1_laneFor 9 = .ok (.iadd, 1) := by decide +kernel
theorem dX1_laneFor_10 : decode cX1_laneFor 10 = .ok (.invokestatic 39, 3) := by decide +kernel
theorem dX1_laneFor_13 : decode cX1_laneFor 13 = .ok (.istore 6, 2) := by decide +kernel
theorem dX1_laneFor_15 : decode cX1_laneFor 15 = .ok (.iconst 0, 1) := by decide +kernel
theorem dX1_laneFor_16 : decode cX1_laneFor 16 = .ok (.iload_n 2, 1) := by decide +kernel
theorem dX1_laneFor_17 : decode cX1_laneFor 17 = .ok (.iconst 1, 1) := by decide +kernel
theorem dX1_laneFor_18 : decode cX1_laneFor 18 = .ok (.isub, 1) := by decide +kernel
theorem dX1_laneFor_19 : decode cX1_laneFor 19 = .ok (.invokestatic 31, 3) := by decide +kernel
theorem dX1_laneFor_22 : decode cX1_laneFor 22 = .ok (.istore 7, 2) := by decide +kernel
theorem dX1_laneFor_24 : decode cX1_laneFor 24 = .ok (.iload 7, 2) := by decide +kernel
theorem dX1_laneFor_26 : decode cX1_laneFor 26 = .ok (.iload 6, 2) := by decide +kernel
theorem dX1_laneFor_28 : decode cX1_laneFor 28 = .ok (.if_icmp .gt 45, 3) := by decide +kernel
theorem dX1_laneFor_31 : decode cX1_laneFor 31 = .ok (.aload_n 0, 1) := by decide +kernel
theorem dX1_laneFor_32 : decode cX1_laneFor 32 = .ok (.iload_n 1, 1) := by decide +kernel
theorem dX1_laneFor_33 : decode cX1_laneFor 33 = .ok (.iload 7, 2) := by decide +kernel
theorem dX1_laneFor_35 : decode cX1_laneFor 35 = .ok (.invokevirtual 28, 3) := by decide +kernel
theorem dX1_laneFor_38 : decode cX1_laneFor 38 = .ok (.istore 8, 2) := by decide +kernel
theorem dX1_laneFor_40 : decode cX1_laneFor 40 = .ok (.iload 8, 2) := by decide +kernel
theorem dX1_laneFor_42 : decode cX1_laneFor 42 = .ok (.iload_n 3, 1) := by decide +kernel
theorem dX1_laneFor_43 : decode cX1_laneFor 43 = .ok (.if_icmp .lt 24, 3) := by decide +kernel
theorem dX1_laneFor_46 : decode cX1_laneFor 46 = .ok (.iload 4, 2) := by decide +kernel
theorem dX1_laneFor_48 : decode cX1_laneFor 48 = .ok (.iconst (-1), 1) := by decide +kernel
theorem dX1_laneFor_49 : decode cX1_laneFor 49 = .ok (.if_icmp .eq 10, 3) := by decide +kernel
theorem dX1_laneFor_52 : decode cX1_laneFor 52 = .ok (.iload 8, 2) := by decide +kernel
theorem dX1_laneFor_54 : decode cX1_laneFor 54 = .ok (.iload 5, 2) := by decide +kernel
theorem dX1_laneFor_56 : decode cX1_laneFor 56 = .ok (.if_icmp .le 11, 3) := by decide +kernel
theorem dX1_laneFor_59 : decode cX1_laneFor 59 = .ok (.iload 7, 2) := by decide +kernel
theorem dX1_laneFor_61 : decode cX1_laneFor 61 = .ok (.istore 4, 2) := by decide +kernel
theorem dX1_laneFor_63 : decode cX1_laneFor 63 = .ok (.iload 8, 2) := by decide +kernel
theorem dX1_laneFor_65 : decode cX1_laneFor 65 = .ok (.istore 5, 2) := by decide +kernel
theorem dX1_laneFor_67 : decode cX1_laneFor 67 = .ok (.iinc 7 1, 3) := by decide +kernel
theorem dX1_laneFor_70 : decode cX1_laneFor 70 = .ok (.goto (-46), 3) := by decide +kernel
theorem dX1_laneFor_73 : decode cX1_laneFor 73 = .ok (.iload 4, 2) := by decide +kernel
theorem dX1_laneFor_75 : decode cX1_laneFor 75 = .ok (.ireturn, 1) := by decide +kernel
set_option maxRecDepth 20000 in
theorem ggX1_isOpenAcross_X4_placeOf : GoodIn wsX1_isOpenAcross wsX4_placeOf := goodIn_r _ [4] (by decide +kernel) (by decide +kernel)
set_option maxRecDepth 20000 in
theorem gX1_isOpenAcross_X4_placeOf_n24 : GoodIn wsX1_isOpenAcross (wsX4_placeOf) := ggX1_isOpenAcross_X4_placeOf
theorem dX1_isOpenAcross_0 : decode cX1_isOpenAcross 0 = .ok (.iconst 0, 1) := by decide +kernel
theorem dX1_isOpenAcross_1 : decode cX1_isOpenAcross 1 = .ok (.istore_n 1, 1) := by decide +kernel
theorem dX1_isOpenAcross_2 : decode cX1_isOpenAcross 2 = .ok (.iload_n 1, 1) := by decide +kernel
theorem dX1_isOpenAcross_3 : decode cX1_isOpenAcross 3 = .ok (.bipush 12, 2) := by decide +kernel
theorem dX1_isOpenAcross_5 : decode cX1_isOpenAcross 5 = .ok (.if_icmp .ge 43, 3) := by decide +kernel
theorem dX1_isOpenAcross_8 : decode cX1_isOpenAcross 8 = .ok (.iconst 0, 1) := by decide +kernel
theorem dX1_isOpenAcross_9 : decode cX1_isOpenAcross 9 = .ok (.istore_n 2, 1) := by decide +kernel
theorem dX1_isOpenAcross_10 : decode cX1_isOpenAcross 10 = .ok (.iconst 0, 1) := by decide +kernel
theorem dX1_isOpenAcross_11 : decode cX1_isOpenAcross 11 = .ok (.istore_n 3, 1) := by decide +kernel
theorem dX1_isOpenAcross_12 : decode cX1_isOpenAcross 12 = .ok (.iload_n 3, 1) := by decide +kernel
theorem dX1_isOpenAcross_13 : decode cX1_isOpenAcross 13 = .ok (.iconst 3, 1) := by decide +kernel
theorem dX1_isOpenAcross_14 : decode cX1_isOpenAcross 14 = .ok (.if_icmp .ge 22, 3) := by decide +kernel
theorem dX1_isOpenAcross_17 : decode cX1_isOpenAcross 17 = .ok (.iload_n 2, 1) := by decide +kernel
theorem dX1_isOpenAcross_18 : decode cX1_isOpenAcross 18 = .ok (.aload_n 0, 1) := by decide +kernel
theorem dX1_isOpenAcross_19 : decode cX1_isOpenAcross 19 = .ok (.getfield 9, 3) := by decide +kernel
theorem dX1_isOpenAcross_22 : decode cX1_isOpenAcross 22 = .ok (.iload_n 1, 1) := by decide +kernel
theorem dX1_isOpenAcross_23 : decode cX1_isOpenAcross 23 = .ok (.iload_n 3, 1) := by decide +kernel
theorem dX1_isOpenAcross_24 : decode cX1_isOpenAcross 24 = .ok (.invokestatic 24, 3) := by decide +kernel
theorem dX1_isOpenAcross_27 : decode cX1_isOpenAcross 27 = .ok (.iaload, 1) := by decide +kernel
theorem dX1_isOpenAcross_28 : decode cX1_isOpenAcross 28 = .ok (.iadd, 1) := by decide +kernel
theorem dX1_isOpenAcross_29 : decode cX1_isOpenAcross 29 = .ok (.istore_n 2, 1) := by decide +kernel
theorem dX1_isOpenAcross_30 : decode cX1_isOpenAcross 30 = .ok (.iinc 3 1, 3) := by decide +kernel
theorem dX1_isOpenAcross_33 : decode cX1_isOpenAcross 33 = .ok (.goto (-21), 3) := by decide +kernel
theorem dX1_isOpenAcross_36 : decode cX1_isOpenAcross 36 = .ok (.iload_n 2, 1) := by decide +kernel
theorem dX1_isOpenAcross_37 : decode cX1_isOpenAcross 37 = .ok (.ifCond .ne 5, 3) := by decide +kernel
theorem dX1_isOpenAcross_40 : decode cX1_isOpenAcross 40 = .ok (.iconst 1, 1) := by decide +kernel
theorem dX1_isOpenAcross_41 : decode cX1_isOpenAcross 41 = .ok (.ireturn, 1) := by decide +kernel
theorem dX1_isOpenAcross_42 : decode cX1_isOpenAcross 42 = .ok (.iinc 1 1, 3) := by decide +kernel
theorem dX1_isOpenAcross_45 : decode cX1_isOpenAcross 45 = .ok (.goto (-43), 3) := by decide +kernel
theorem dX1_isOpenAcross_48 : decode cX1_isOpenAcross 48 = .ok (.iconst 0, 1) := by decide +kernel
theorem dX1_isOpenAcross_49 : decode cX1_isOpenAcross 49 = .ok (.ireturn, 1) := by decide +kernel
theorem dX1_placesOfOpenWater_0 : decode cX1_placesOfOpenWater 0 = .ok (.iconst 0, 1) := by decide +kernel
theorem dX1_placesOfOpenWater_1 : decode cX1_placesOfOpenWater 1 = .ok (.istore_n 1, 1) := by decide +kernel
theorem dX1_placesOfOpenWater_2 : decode cX1_placesOfOpenWater 2 = .ok (.iconst 0, 1) := by decide +kernel
theorem dX1_placesOfOpenWater_3 : decode cX1_placesOfOpenWater 3 = .ok (.istore_n 2, 1) := by decide +kernel
theorem dX1_placesOfOpenWater_4 : decode cX1_placesOfOpenWater 4 = .ok (.iload_n 2, 1) := by decide +kernel
theorem dX1_placesOfOpenWater_5 : decode cX1_placesOfOpenWater 5 = .ok (.bipush 36, 2) := by decide +kernel
theorem dX1_placesOfOpenWater_7 : decode cX1_placesOfOpenWater 7 = .ok (.if_icmp .ge 21, 3) := by decide +kernel
theorem dX1_placesOfOpenWater_10 : decode cX1_placesOfOpenWater 10 = .ok (.aload_n 0, 1) := by decide +kernel
theorem dX1_placesOfOpenWater_11 : decode cX1_placesOfOpenWater 11 = .ok (.getfield 9, 3) := by decide +kernel
theorem dX1_placesOfOpenWater_14 : decode cX1_placesOfOpenWater 14 = .ok (.iload_n 2, 1) := by decide +kernel
theorem dX1_placesOfOpenWater_15 : decode cX1_placesOfOpenWater 15 = .ok (.iaload, 1) := by decide +kernel
theorem dX1_placesOfOpenWater_16 : decode cX1_placesOfOpenWater 16 = .ok (.ifCond .ne 6, 3) := by decide +kernel
theorem dX1_placesOfOpenWater_19 : decode cX1_placesOfOpenWater 19 = .ok (.iinc 1 1, 3) := by decide +kernel
theorem dX1_placesOfOpenWater_22 : decode cX1_placesOfOpenWater 22 = .ok (.iinc 2 1, 3) := by decide +kernel
theorem dX1_placesOfOpenWater_25 : decode cX1_placesOfOpenWater 25 = .ok (.goto (-21), 3) := by decide +kernel
theorem dX1_placesOfOpenWater_28 : decode cX1_placesOfOpenWater 28 = .ok (.iload_n 1, 1) := by decide +kernel
theorem dX1_placesOfOpenWater_29 : decode cX1_placesOfOpenWater 29 = .ok (.ireturn, 1) := by decide +kernel
theorem dX1_inAll_0 : decode cX1_inAll 0 = .ok (.iconst 0, 1) := by decide +kernel
theorem dX1_inAll_1 : decode cX1_inAll 1 = .ok (.istore_n 1, 1) := by decide +kernel
theorem dX1_inAll_2 : decode cX1_inAll 2 = .ok (.iconst 0, 1) := by decide +kernel
theorem dX1_inAll_3 : decode cX1_inAll 3 = .ok (.istore_n 2, 1) := by decide +kernel
theorem dX1_inAll_4 : decode cX1_inAll 4 = .ok (.iload_n 2, 1) := by decide +kernel
theorem dX1_inAll_5 : decode cX1_inAll 5 = .ok (.bipush 36, 2) := by decide +kernel
theorem dX1_inAll_7 : decode cX1_inAll 7 = .ok (.if_icmp .ge 18, 3) := by decide +kernel
theorem dX1_inAll_10 : decode cX1_inAll 10 = .ok (.iload_n 1, 1) := by decide +kernel
theorem dX1_inAll_11 : decode cX1_inAll 11 = .ok (.aload_n 0, 1) := by decide +kernel
theorem dX1_inAll_12 : decode cX1_inAll 12 = .ok (.getfield 9, 3) := by decide +kernel
theorem dX1_inAll_15 : decode cX1_inAll 15 = .ok (.iload_n 2, 1) := by decide +kernel
theorem dX1_inAll_16 : decode cX1_inAll 16 = .ok (.iaload, 1) := by decide +kernel
theorem dX1_inAll_17 : decode cX1_inAll 17 = .ok (.iadd, 1) := by decide +kernel
theorem dX1_inAll_18 : decode cX1_inAll 18 = .ok (.istore_n 1, 1) := by decide +kernel
theorem dX1_inAll_19 : decode cX1_inAll 19 = .ok (.iinc 2 1, 3) := by decide +kernel
theorem dX1_inAll_22 : decode cX1_inAll 22 = .ok (.goto (-18), 3) := by decide +kernel
theorem dX1_inAll_25 : decode cX1_inAll 25 = .ok (.iload_n 1, 1) := by decide +kernel
theorem dX1_inAll_26 : decode cX1_inAll 26 = .ok (.ireturn, 1) := by decide +kernel
theorem dX1_cracksInAll_0 : decode cX1_cracksInAll 0 = .ok (.iconst 0, 1) := by decide +kernel
theorem dX1_cracksInAll_1 : decode cX1_cracksInAll 1 = .ok (.istore_n 1, 1) := by decide +kernel
theorem dX1_cracksInAll_2 : decode cX1_cracksInAll 2 = .ok (.iconst 0, 1) := by decide +kernel
theorem dX1_cracksInAll_3 : decode cX1_cracksInAll 3 = .ok (.istore_n 2, 1) := by decide +kernel
theorem dX1_cracksInAll_4 : decode cX1_cracksInAll 4 = .ok (.iload_n 2, 1) := by decide +kernel
theorem dX1_cracksInAll_5 : decode cX1_cracksInAll 5 = .ok (.bipush 36, 2) := by decide +kernel
theorem dX1_cracksInAll_7 : decode cX1_cracksInAll 7 = .ok (.if_icmp .ge 18, 3) := by decide +kernel
theorem dX1_cracksInAll_10 : decode cX1_cracksInAll 10 = .ok (.iload_n 1, 1) := by decide +kernel
theorem dX1_cracksInAll_11 : decode cX1_cracksInAll 11 = .ok (.aload_n 0, 1) := by decide +kernel
theorem dX1_cracksInAll_12 : decode cX1_cracksInAll 12 = .ok (.getfield 15, 3) := by decide +kernel
theorem dX1_cracksInAll_15 : decode cX1_cracksInAll 15 = .ok (.iload_n 2, 1) := by decide +kernel
theorem dX1_cracksInAll_16 : decode cX1_cracksInAll 16 = .ok (.iaload, 1) := by decide +kernel
theorem dX1_cracksInAll_17 : decode cX1_cracksInAll 17 = .ok (.iadd, 1) := by decide +kernel
theorem dX1_cracksInAll_18 : decode cX1_cracksInAll 18 = .ok (.istore_n 1, 1) := by decide +kernel
theorem dX1_cracksInAll_19 : decode cX1_cracksInAll 19 = .ok (.iinc 2 1, 3) := by decide +kernel
theorem dX1_cracksInAll_22 : decode cX1_cracksInAll 22 = .ok (.goto (-18), 3) := by decide +kernel
theorem dX1_cracksInAll_25 : decode cX1_cracksInAll 25 = .ok (.iload_n 1, 1) := by decide +kernel
theorem dX1_cracksInAll_26 : decode cX1_cracksInAll 26 = .ok (.ireturn, 1) := by decide +kernel
set_option maxRecDepth 20000 in
theorem ggX2_init_X1_init : GoodIn wsX2_init wsX1_init := goodIn_r _ [17, 18, 2, 3, 5, 19, 20, 39, 40] (by decide +kernel) (by decide +kernel)
set_option maxRecDepth 20000 in
theorem gX2_init_X1_init_n24 : GoodIn wsX2_init (wsX1_init) := ggX2_init_X1_init
set_option maxRecDepth 20000 in
theorem ggX2_init_X0_init : GoodIn wsX2_init wsX0_init := goodIn_r _ [22, 23, 2, 3, 5, 24, 25, 26, 27, 28, 29, 30, 31, 32, 41, 42, 43, 44, 45, 46, 47, 48, 49, 50] (by decide +kernel) (by decide +kernel)
set_option maxRecDepth 20000 in
theorem gX2_init_X0_init_n31 : GoodIn wsX2_init (wsX0_init) := ggX2_init_X0_init
theorem dX2_init_0 : decode cX2_init 0 = .ok (.aload_n 0, 1) := by decide +kernel
theorem dX2_init_1 : decode cX2_init 1 = .ok (.invokespecial 3, 3) := by decide +kernel
theorem dX2_init_4 : decode cX2_init 4 = .ok (.aload_n 0, 1) := by decide +kernel
theorem dX2_init_5 : decode cX2_init 5 = .ok (.iconst (-1), 1) := by decide +kernel
theorem dX2_init_6 : decode cX2_init 6 = .ok (.putfield 9, 3) := by decide +kernel
theorem dX2_init_9 : decode cX2_init 9 = .ok (.aload_n 0, 1) := by decide +kernel
theorem dX2_init_10 : decode cX2_init 10 = .ok (.bipush 14, 2) := by decide +kernel
theorem dX2_init_12 : decode cX2_init 12 = .ok (.newarray .int, 2) := by decide +kernel
theorem dX2_init_14 : decode cX2_init 14 = .ok (.putfield 15, 3) := by decide +kernel
theorem dX2_init_17 : decode cX2_init 17 = .ok (.aload_n 0, 1) := by decide +kernel
theorem dX2_init_18 : decode cX2_init 18 = .ok (.bipush 12, 2) := by decide +kernel
theorem dX2_init_20 : decode cX2_init 20 = .ok (.newarray .int, 2) := by decide +kernel
theorem dX2_init_22 : decode cX2_init 22 = .ok (.putfield 19, 3) := by decide +kernel
theorem dX2_init_25 : decode cX2_init 25 = .ok (.aload_n 0, 1) := by decide +kernel
theorem dX2_init_26 : decode cX2_init 26 = .ok (.new 22, 3) := by decide +kernel
theorem dX2_init_29 : decode cX2_init 29 = .ok (.dup, 1) := by decide +kernel
theorem dX2_init_30 : decode cX2_init 30 = .ok (.invokespecial 24, 3) := by decide +kernel
theorem dX2_init_33 : decode cX2_init 33 = .ok (.putfield 25, 3) := by decide +kernel
theorem dX2_init_36 : decode cX2_init 36 = .ok (.aload_n 0, 1) := by decide +kernel
theorem dX2_init_37 : decode cX2_init 37 = .ok (.new 29, 3) := by decide +kernel
theorem dX2_init_40 : decode cX2_init 40 = .ok (.dup, 1) := by decide +kernel
theorem dX2_init_41 : decode cX2_init 41 = .ok (.invokespecial 31, 3) := by decide +kernel
theorem dX2_init_44 : decode cX2_init 44 = .ok (.putfield 32, 3) := by decide +kernel
theorem dX2_init_47 : decode cX2_init 47 = .ok (.iconst 0, 1) := by decide +kernel
theorem dX2_init_48 : decode cX2_init 48 = .ok (.istore_n 1, 1) := by decide +kernel
theorem dX2_init_49 : decode cX2_init 49 = .ok (.iload_n 1, 1) := by decide +kernel
theorem dX2_init_50 : decode cX2_init 50 = .ok (.bipush 14, 2) := by decide +kernel
theorem dX2_init_52 : decode cX2_init 52 = .ok (.if_icmp .ge 17, 3) := by decide +kernel
theorem dX2_init_55 : decode cX2_init 55 = .ok (.aload_n 0, 1) := by decide +kernel
theorem dX2_init_56 : decode cX2_init 56 = .ok (.getfield 15, 3) := by decide +kernel
theorem dX2_init_59 : decode cX2_init 59 = .ok (.iload_n 1, 1) := by decide +kernel
theorem dX2_init_60 : decode cX2_init 60 = .ok (.bipush (-2), 2) := by decide +kernel
theorem dX2_init_62 : decode cX2_init 62 = .ok (.iastore, 1) := by decide +kernel
theorem dX2_init_63 : decode cX2_init 63 = .ok (.iinc 1 1, 3) := by decide +kernel
theorem dX2_init_66 : decode cX2_init 66 = .ok (.goto (-17), 3) := by decide +kernel
theorem dX2_init_69 : decode cX2_init 69 = .ok (.return_, 1) := by decide +kernel
set_option maxRecDepth 20000 in
theorem ggX2_become_X1_become : GoodIn wsX2_become wsX1_become := goodIn_r _ [14, 15, 16, 5, 6, 7, 17, 39, 40] (by decide +kernel) (by decide +kernel)
set_option maxRecDepth 20000 in
theorem gX2_become_X1_become_n45 : GoodIn wsX2_become (wsX1_become) := ggX2_become_X1_become
set_option maxRecDepth 20000 in
theorem ggX2_become_X0_become : GoodIn wsX2_become wsX0_become := goodIn_r _ [21, 22, 23, 24, 5, 6, 7, 25, 26, 27, 28, 29, 30, 31, 32, 41, 42, 43, 44, 45, 46, 47, 48, 49, 50] (by decide +kernel) (by decide +kernel)
set_option maxRecDepth 20000 in
theorem gX2_become_X0_become_n49 : GoodIn wsX2_become (wsX0_become) := ggX2_become_X0_become
theorem dX2_become_0 : decode cX2_become 0 = .ok (.aload_n 0, 1) := by decide +kernel
theorem dX2_become_1 : decode cX2_become 1 = .ok (.aload_n 1, 1) := by decide +kernel
theorem dX2_become_2 : decode cX2_become 2 = .ok (.getfield 36, 3) := by decide +kernel
theorem dX2_become_5 : decode cX2_become 5 = .ok (.putfield 36, 3) := by decide +kernel
theorem dX2_become_8 : decode cX2_become 8 = .ok (.aload_n 0, 1) := by decide +kernel
theorem dX2_become_9 : decode cX2_become 9 = .ok (.aload_n 1, 1) := by decide +kernel
theorem dX2_become_10 : decode cX2_become 10 = .ok (.getfield 9, 3) := by decide +kernel
theorem dX2_become_13 : decode cX2_become 13 = .ok (.putfield 9, 3) := by decide +kernel
theorem dX2_become_16 : decode cX2_become 16 = .ok (.aload_n 1, 1) := by decide +kernel
theorem dX2_become_17 : decode cX2_become 17 = .ok (.getfield 15, 3) := by decide +kernel
theorem dX2_become_20 : decode cX2_become 20 = .ok (.iconst 0, 1) := by decide +kernel
theorem dX2_become_21 : decode cX2_become 21 = .ok (.aload_n 0, 1) := by decide +kernel
theorem dX2_become_22 : decode cX2_become 22 = .ok (.getfield 15, 3) := by decide +kernel
theorem dX2_become_25 : decode cX2_become 25 = .ok (.iconst 0, 1) := by decide +kernel
theorem dX2_become_26 : decode cX2_become 26 = .ok (.bipush 14, 2) := by decide +kernel
theorem dX2_become_28 : decode cX2_become 28 = .ok (.invokestatic 39, 3) := by decide +kernel
theorem dX2_become_31 : decode cX2_become 31 = .ok (.aload_n 1, 1) := by decide +kernel
theorem dX2_become_32 : decode cX2_become 32 = .ok (.getfield 19, 3) := by decide +kernel
theorem dX2_become_35 : decode cX2_become 35 = .ok (.iconst 0, 1) := by decide +kernel
theorem dX2_become_36 : decode cX2_become 36 = .ok (.aload_n 0, 1) := by decide +kernel
theorem dX2_become_37 : decode cX2_become 37 = .ok (.getfield 19, 3) := by decide +kernel
theorem dX2_become_40 : decode cX2_become 40 = .ok (.iconst 0, 1) := by decide +kernel
theorem dX2_become_41 : decode cX2_become 41 = .ok (.bipush 12, 2) := by decide +kernel
theorem dX2_become_43 : decode cX2_become 43 = .ok (.invokestatic 39, 3) := by decide +kernel
theorem dX2_become_46 : decode cX2_become 46 = .ok (.aload_n 0, 1) := by decide +kernel
theorem dX2_become_47 : decode cX2_become 47 = .ok (.getfield 25, 3) := by decide +kernel
theorem dX2_become_50 : decode cX2_become 50 = .ok (.aload_n 1, 1) := by decide +kernel
theorem dX2_become_51 : decode cX2_become 51 = .ok (.getfield 25, 3) := by decide +kernel
theorem dX2_become_54 : decode cX2_become 54 = .ok (.invokevirtual 45, 3) := by decide +kernel
theorem dX2_become_57 : decode cX2_become 57 = .ok (.aload_n 0, 1) := by decide +kernel
theorem dX2_become_58 : decode cX2_become 58 = .ok (.getfield 32, 3) := by decide +kernel
theorem dX2_become_61 : decode cX2_become 61 = .ok (.aload_n 1, 1) := by decide +kernel
theorem dX2_become_62 : decode cX2_become 62 = .ok (.getfield 32, 3) := by decide +kernel
theorem dX2_become_65 : decode cX2_become 65 = .ok (.invokevirtual 49, 3) := by decide +kernel
theorem dX2_become_68 : decode cX2_become 68 = .ok (.return_, 1) := by decide +kernel
theorem dX2_huts_0 : decode cX2_huts 0 = .ok (.iconst 0, 1) := by decide +kernel
theorem dX2_huts_1 : decode cX2_huts 1 = .ok (.istore_n 1, 1) := by decide +kernel
theorem dX2_huts_2 : decode cX2_huts 2 = .ok (.iconst 0, 1) := by decide +kernel
theorem dX2_huts_3 : decode cX2_huts 3 = .ok (.istore_n 2, 1) := by decide +kernel
theorem dX2_huts_4 : decode cX2_huts 4 = .ok (.iload_n 2, 1) := by decide +kernel
theorem dX2_huts_5 : decode cX2_huts 5 = .ok (.bipush 12, 2) := by decide +kernel
theorem dX2_huts_7 : decode cX2_huts 7 = .ok (.if_icmp .ge 18, 3) := by decide +kernel
theorem dX2_huts_10 : decode cX2_huts 10 = .ok (.iload_n 1, 1) := by decide +kernel
theorem dX2_huts_11 : decode cX2_huts 11 = .ok (.aload_n 0, 1) := by decide +kernel
theorem dX2_huts_12 : decode cX2_huts 12 = .ok (.getfield 19, 3) := by decide +kernel
theorem dX2_huts_15 : decode cX2_huts 15 = .ok (.iload_n 2, 1) := by decide +kernel
theorem dX2_huts_16 : decode cX2_huts 16 = .ok (.iaload, 1) := by decide +kernel
theorem dX2_huts_17 : decode cX2_huts 17 = .ok (.iadd, 1) := by decide +kernel
theorem dX2_huts_18 : decode cX2_huts 18 = .ok (.istore_n 1, 1) := by decide +kernel
theorem dX2_huts_19 : decode cX2_huts 19 = .ok (.iinc 2 1, 3) := by decide +kernel
theorem dX2_huts_22 : decode cX2_huts 22 = .ok (.goto (-18), 3) := by decide +kernel
theorem dX2_huts_25 : decode cX2_huts 25 = .ok (.iload_n 1, 1) := by decide +kernel
theorem dX2_huts_26 : decode cX2_huts 26 = .ok (.ireturn, 1) := by decide +kernel
theorem dX2_hasThawed_0 : decode cX2_hasThawed 0 = .ok (.aload_n 0, 1) := by decide +kernel
theorem dX2_hasThawed_1 : decode cX2_hasThawed 1 = .ok (.getfield 9, 3) := by decide +kernel
theorem dX2_hasThawed_4 : decode cX2_hasThawed 4 = .ok (.iconst (-1), 1) := by decide +kernel
theorem dX2_hasThawed_5 : decode cX2_hasThawed 5 = .ok (.if_icmp .eq 7, 3) := by decide +kernel
theorem dX2_hasThawed_8 : decode cX2_hasThawed 8 = .ok (.iconst 1, 1) := by decide +kernel
theorem dX2_hasThawed_9 : decode cX2_hasThawed 9 = .ok (.goto 4, 3) := by decide +kernel
theorem dX2_hasThawed_12 : decode cX2_hasThawed 12 = .ok (.iconst 0, 1) := by decide +kernel
theorem dX2_hasThawed_13 : decode cX2_hasThawed 13 = .ok (.ireturn, 1) := by decide +kernel
set_option maxRecDepth 20000 in
theorem ggX2_holdsCourierWith_X1_holds : GoodIn wsX2_holdsCourierWith wsX1_holds := goodIn_r _ [6, 7, 8, 9, 4, 10, 11, 12, 13, 14, 15, 32, 33] (by decide +kernel) (by decide +kernel)
set_option maxRecDepth 20000 in
theorem gX2_holdsCourierWith_X1_holds_n61 : GoodIn wsX2_holdsCourierWith (wsX1_holds) := ggX2_holdsCourierWith_X1_holds
theorem dX2_holdsCourierWith_0 : decode cX2_holdsCourierWith 0 = .ok (.aload_n 0, 1) := by decide +kernel
theorem dX2_holdsCourierWith_1 : decode cX2_holdsCourierWith 1 = .ok (.getfield 32, 3) := by decide +kernel
theorem dX2_holdsCourierWith_4 : decode cX2_holdsCourierWith 4 = .ok (.getfield 52, 3) := by decide +kernel
theorem dX2_holdsCourierWith_7 : decode cX2_holdsCourierWith 7 = .ok (.iload_n 1, 1) := by decide +kernel
theorem dX2_holdsCourierWith_8 : decode cX2_holdsCourierWith 8 = .ok (.iaload, 1) := by decide +kernel
theorem dX2_holdsCourierWith_9 : decode cX2_holdsCourierWith 9 = .ok (.iload_n 2, 1) := by decide +kernel
theorem dX2_holdsCourierWith_10 : decode cX2_holdsCourierWith 10 = .ok (.iadd, 1) := by decide +kernel
theorem dX2_holdsCourierWith_11 : decode cX2_holdsCourierWith 11 = .ok (.istore_n 3, 1) := by decide +kernel
theorem dX2_holdsCourierWith_12 : decode cX2_holdsCourierWith 12 = .ok (.aload_n 0, 1) := by decide +kernel
theorem dX2_holdsCourierWith_13 : decode cX2_holdsCourierWith 13 = .ok (.getfield 25, 3) := by decide +kernel
theorem dX2_holdsCourierWith_16 : decode cX2_holdsCourierWith 16 = .ok (.aload_n 0, 1) := by decide +kernel
theorem dX2_holdsCourierWith_17 : decode cX2_holdsCourierWith 17 = .ok (.getfield 32, 3) := by decide +kernel
theorem dX2_holdsCourierWith_20 : decode cX2_holdsCourierWith 20 = .ok (.getfield 55, 3) := by decide +kernel
theorem dX2_holdsCourierWith_23 : decode cX2_holdsCourierWith 23 = .ok (.iload_n 1, 1) := by decide +kernel
theorem dX2_holdsCourierWith_24 : decode cX2_holdsCourierWith 24 = .ok (.iaload, 1) := by decide +kernel
theorem dX2_holdsCourierWith_25 : decode cX2_holdsCourierWith 25 = .ok (.aload_n 0, 1) := by decide +kernel
theorem dX2_holdsCourierWith_26 : decode cX2_holdsCourierWith 26 = .ok (.getfield 32, 3) := by decide +kernel
theorem dX2_holdsCourierWith_29 : decode cX2_holdsCourierWith 29 = .ok (.getfield 58, 3) := by decide +kernel
theorem dX2_holdsCourierWith_32 : decode cX2_holdsCourierWith 32 = .ok (.iload_n 1, 1) := by decide +kernel
theorem dX2_holdsCourierWith_33 : decode cX2_holdsCourierWith 33 = .ok (.iaload, 1) := by decide +kernel
theorem dX2_holdsCourierWith_34 : decode cX2_holdsCourierWith 34 = .ok (.iload_n 3, 1) := by decide +kernel
theorem dX2_holdsCourierWith_35 : decode cX2_holdsCourierWith 35 = .ok (.invokevirtual 61, 3) := by decide +kernel
theorem dX2_holdsCourierWith_38 : decode cX2_holdsCourierWith 38 = .ok (.ireturn, 1) := by decide +kernel
set_option maxRecDepth 20000 in
theorem ggX2_spendHour_J9_floorMod_7cf53 : GoodIn wsX2_spendHour wsJ9_floorMod_7cf53 := goodIn_r _ [9] (by decide +kernel) (by decide +kernel)
set_option maxRecDepth 20000 in
theorem gX2_spendHour_J9_floorMod_7cf53 : GoodIn wsX2_spendHour (va_wsS RX2 65 yJ9_floorMod_7cf53 wsJ9_floorMod_7cf53) := goodIn_app (goodIn_of _ (by decide +kernel)) ggX2_spendHour_J9_floorMod_7cf53
set_option maxRecDepth 20000 in
theorem ggX2_spendHour_X1_meetDay : GoodIn wsX2_spendHour wsX1_meetDay := goodIn_r _ [13, 14, 15, 16, 17, 18, 19, 20, 21, 22, 89, 90] (by decide +kernel) (by decide +kernel)
set_option maxRecDepth 20000 in
theorem gX2_spendHour_X1_meetDay_n71 : GoodIn wsX2_spendHour (wsX1_meetDay) := ggX2_spendHour_X1_meetDay
set_option maxRecDepth 20000 in
theorem ggX2_spendHour_X2_hasThawed : GoodIn wsX2_spendHour wsX2_hasThawed := goodIn_r _ [27, 4, 73, 74, 75, 76, 77, 78] (by decide +kernel) (by decide +kernel)
set_option maxRecDepth 20000 in
theorem gX2_spendHour_X2_hasThawed : GoodIn wsX2_spendHour (wsV RX2 75 RX2 yX2_hasThawed wsX2_hasThawed) := goodIn_app (goodIn_of _ (by decide +kernel)) ggX2_spendHour_X2_hasThawed
set_option maxRecDepth 20000 in
theorem ggX2_spendHour_X1_isOpenAcross : GoodIn wsX2_spendHour wsX1_isOpenAcross := goodIn_r _ [30, 14, 31, 32, 33, 89, 90] (by decide +kernel) (by decide +kernel)
set_option maxRecDepth 20000 in
theorem gX2_spendHour_X1_isOpenAcross_n79 : GoodIn wsX2_spendHour (wsX1_isOpenAcross) := ggX2_spendHour_X1_isOpenAcross
set_option maxRecDepth 20000 in
theorem ggX2_spendHour_X2_travels : GoodIn wsX2_spendHour wsX2_travels := goodIn_r _ [37, 5, 38, 39, 40, 26, 41, 2, 42, 43, 44, 45, 46, 47, 48, 49, 50, 51, 52, 53, 54, 55, 56, 57, 11, 58, 59, 15, 16, 17, 18, 19, 20, 21, 60, 61, 62, 63, 14, 22, 31, 32, 33, 64, 65, 66, 73, 74, 75, 76, 77, 78, 79, 80, 81, 82, 83, 84, 85, 86, 87, 88, 89, 90] (by decide +kernel) (by decide +kernel)
set_option maxRecDepth 20000 in
theorem gX2_spendHour_X2_travels : GoodIn wsX2_spendHour (wsV RX2 85 RX2 yX2_travels wsX2_travels) := goodIn_app (goodIn_of _ (by decide +kernel)) ggX2_spendHour_X2_travels
set_option maxRecDepth 20000 in
theorem ggX2_spendHour_X2_rest : GoodIn wsX2_spendHour wsX2_rest := goodIn_r _ [70, 5, 71, 72, 16, 17, 18, 54, 43, 55, 56, 51, 52, 73, 74, 75, 76, 77, 78, 79, 80, 81, 82, 83, 84, 85, 86, 87, 88] (by decide +kernel) (by decide +kernel)
set_option maxRecDepth 20000 in
theorem gX2_spendHour_X2_rest : GoodIn wsX2_spendHour (wsV RX2 89 RX2 yX2_rest wsX2_rest) := goodIn_app (goodIn_of _ (by decide +kernel)) ggX2_spendHour_X2_rest
theorem dX2_spendHour_0 : decode cX2_spendHour 0 = .ok (.aload_n 0, 1) := by decide +kernel
theorem dX2_spendHour_1 : decode cX2_spendHour 1 = .ok (.getfield 36, 3) := by decide +kernel
theorem dX2_spendHour_4 : decode cX2_spendHour 4 = .ok (.bipush 12, 2) := by decide +kernel
theorem dX2_spendHour_6 : decode cX2_spendHour 6 = .ok (.idiv, 1) := by decide +kernel
theorem dX2_spendHour_7 : decode cX2_spendHour 7 = .ok (.istore_n 1, 1) := by decide +kernel
theorem dX2_spendHour_8 : decode cX2_spendHour 8 = .ok (.aload_n 0, 1) := by decide +kernel
theorem dX2_spendHour_9 : decode cX2_spendHour 9 = .ok (.getfield 36, 3) := by decide +kernel
theorem dX2_spendHour_12 : decode cX2_spendHour 12 = .ok (.bipush 12, 2) := by decide +kernel
theorem dX2_spendHour_14 : decode cX2_spendHour 14 = .ok (.irem, 1) := by decide +kernel
theorem dX2_spendHour_15 : decode cX2_spendHour 15 = .ok (.ifCond .ne 21, 3) := by decide +kernel
theorem dX2_spendHour_18 : decode cX2_spendHour 18 = .ok (.aload_n 0, 1) := by decide +kernel
theorem dX2_spendHour_19 : decode cX2_spendHour 19 = .ok (.getfield 25, 3) := by decide +kernel
theorem dX2_spendHour_22 : decode cX2_spendHour 22 = .ok (.aload_n 0, 1) := by decide +kernel
theorem dX2_spendHour_23 : decode cX2_spendHour 23 = .ok (.getfield 15, 3) := by decide +kernel
theorem dX2_spendHour_26 : decode cX2_spendHour 26 = .ok (.iload_n 1, 1) := by decide +kernel
theorem dX2_spendHour_27 : decode cX2_spendHour 27 = .ok (.bipush 14, 2) := by decide +kernel
theorem dX2_spendHour_29 : decode cX2_spendHour 29 = .ok (.invokestatic 65, 3) := by decide +kernel
theorem dX2_spendHour_32 : decode cX2_spendHour 32 = .ok (.iaload, 1) := by decide +kernel
theorem dX2_spendHour_33 : decode cX2_spendHour 33 = .ok (.invokevirtual 71, 3) := by decide +kernel
theorem dX2_spendHour_36 : decode cX2_spendHour 36 = .ok (.aload_n 0, 1) := by decide +kernel
theorem dX2_spendHour_37 : decode cX2_spendHour 37 = .ok (.invokevirtual 75, 3) := by decide +kernel
theorem dX2_spendHour_40 : decode cX2_spendHour 40 = .ok (.ifCond .ne 18, 3) := by decide +kernel
theorem dX2_spendHour_43 : decode cX2_spendHour 43 = .ok (.aload_n 0, 1) := by decide +kernel
theorem dX2_spendHour_44 : decode cX2_spendHour 44 = .ok (.getfield 25, 3) := by decide +kernel
theorem dX2_spendHour_47 : decode cX2_spendHour 47 = .ok (.invokevirtual 79, 3) := by decide +kernel
theorem dX2_spendHour_50 : decode cX2_spendHour 50 = .ok (.ifCond .eq 8, 3) := by decide +kernel
theorem dX2_spendHour_53 : decode cX2_spendHour 53 = .ok (.aload_n 0, 1) := by decide +kernel
theorem dX2_spendHour_54 : decode cX2_spendHour 54 = .ok (.iload_n 1, 1) := by decide +kernel
theorem dX2_spendHour_55 : decode cX2_spendHour 55 = .ok (.putfield 9, 3) := by decide +kernel
theorem dX2_spendHour_58 : decode cX2_spendHour 58 = .ok (.iconst 0, 1) := by decide +kernel
theorem dX2_spendHour_59 : decode cX2_spendHour 59 = .ok (.istore_n 2, 1) := by decide +kernel
theorem dX2_spendHour_60 : decode cX2_spendHour 60 = .ok (.iconst 0, 1) := by decide +kernel
theorem dX2_spendHour_61 : decode cX2_spendHour 61 = .ok (.istore_n 3, 1) := by decide +kernel
theorem dX2_spendHour_62 : decode cX2_spendHour 62 = .ok (.iload_n 3, 1) := by decide +kernel
theorem dX2_spendHour_63 : decode cX2_spendHour 63 = .ok (.aload_n 0, 1) := by decide +kernel
theorem dX2_spendHour_64 : decode cX2_spendHour 64 = .ok (.getfield 32, 3) := by decide +kernel
theorem dX2_spendHour_67 : decode cX2_spendHour 67 = .ok (.getfield 82, 3) := by decide +kernel
theorem dX2_spendHour_70 : decode cX2_spendHour 70 = .ok (.if_icmp .ge 20, 3) := by decide +kernel
theorem dX2_spendHour_73 : decode cX2_spendHour 73 = .ok (.aload_n 0, 1) := by decide +kernel
theorem dX2_spendHour_74 : decode cX2_spendHour 74 = .ok (.iload_n 3, 1) := by decide +kernel
theorem dX2_spendHour_75 : decode cX2_spendHour 75 = .ok (.invokevirtual 85, 3) := by decide +kernel
theorem dX2_spendHour_78 : decode cX2_spendHour 78 = .ok (.ifCond .eq 6, 3) := by decide +kernel
theorem dX2_spendHour_81 : decode cX2_spendHour 81 = .ok (.iinc 2 1, 3) := by decide +kernel
theorem dX2_spendHour_84 : decode cX2_spendHour 84 = .ok (.iinc 3 1, 3) := by decide +kernel
theorem dX2_spendHour_87 : decode cX2_spendHour 87 = .ok (.goto (-25), 3) := by decide +kernel
theorem dX2_spendHour_90 : decode cX2_spendHour 90 = .ok (.iconst 0, 1) := by decide +kernel
theorem dX2_spendHour_91 : decode cX2_spendHour 91 = .ok (.istore_n 3, 1) := by decide +kernel
theorem dX2_spendHour_92 : decode cX2_spendHour 92 = .ok (.iload_n 3, 1) := by decide +kernel
theorem dX2_spendHour_93 : decode cX2_spendHour 93 = .ok (.aload_n 0, 1) := by decide +kernel
theorem dX2_spendHour_94 : decode cX2_spendHour 94 = .ok (.getfield 32, 3) := by decide +kernel
theorem dX2_spendHour_97 : decode cX2_spendHour 97 = .ok (.getfield 82, 3) := by decide +kernel
theorem dX2_spendHour_100 : decode cX2_spendHour 100 = .ok (.if_icmp .ge 14, 3) := by decide +kernel
theorem dX2_spendHour_103 : decode cX2_spendHour 103 = .ok (.aload_n 0, 1) := by decide +kernel
theorem dX2_spendHour_104 : decode cX2_spendHour 104 = .ok (.iload_n 3, 1) := by decide +kernel
theorem dX2_spendHour_105 : decode cX2_spendHour 105 = .ok (.invokevirtual 89, 3) := by decide +kernel
theorem dX2_spendHour_108 : decode cX2_spendHour 108 = .ok (.iinc 3 1, 3) := by decide +kernel
theorem dX2_spendHour_111 : decode cX2_spendHour 111 = .ok (.goto (-19), 3) := by decide +kernel
theorem dX2_spendHour_114 : decode cX2_spendHour 114 = .ok (.aload_n 0, 1) := by decide +kernel
theorem dX2_spendHour_115 : decode cX2_spendHour 115 = .ok (.dup, 1) := by decide +kernel
theorem dX2_spendHour_116 : decode cX2_spendHour 116 = .ok (.getfield 36, 3) := by decide +kernel
theorem dX2_spendHour_119 : decode cX2_spendHour 119 = .ok (.iconst 1, 1) := by decide +kernel
theorem dX2_spendHour_120 : decode cX2_spendHour 120 = .ok (.iadd, 1) := by decide +kernel
theorem dX2_spendHour_121 : decode cX2_spendHour 121 = .ok (.putfield 36, 3) := by decide +kernel
theorem dX2_spendHour_124 : decode cX2_spendHour 124 = .ok (.iload_n 2, 1) := by decide +kernel
theorem dX2_spendHour_125 : decode cX2_spendHour 125 = .ok (.ireturn, 1) := by decide +kernel
set_option maxRecDepth 20000 in
theorem ggX2_travels_X2_step : GoodIn wsX2_travels wsX2_step := goodIn_r _ [6, 1, 7, 8, 9, 10, 11, 12, 13, 14, 15, 16, 17, 18, 19, 20, 21, 22, 23, 24, 25, 26, 27, 28, 29, 30, 31, 32, 33, 34, 35, 36, 37, 38, 39, 40, 41, 42, 43, 44, 45, 46, 47, 48, 49, 50, 51, 52, 53, 54, 55, 56, 57, 58, 59, 60, 61, 62, 63] (by decide +kernel) (by decide +kernel)
set_option maxRecDepth 20000 in
theorem gX2_travels_X2_step : GoodIn wsX2_travels (wsV RX2 98 RX2 yX2_step wsX2_step) := goodIn_app (goodIn_of _ (by decide +kernel)) ggX2_travels_X2_step
theorem dX2_travels_0 : decode cX2_travels 0 = .ok (.aload_n 0, 1) := by decide +kernel
theorem dX2_travels_1 : decode cX2_travels 1 = .ok (.getfield 32, 3) := by decide +kernel
theorem dX2_travels_4 : decode cX2_travels 4 = .ok (.getfield 92, 3) := by decide +kernel
theorem dX2_travels_7 : decode cX2_travels 7 = .ok (.iload_n 1, 1) := by decide +kernel
theorem dX2_travels_8 : decode cX2_travels 8 = .ok (.iaload, 1) := by decide +kernel
theorem dX2_travels_9 : decode cX2_travels 9 = .ok (.iconst 1, 1) := by decide +kernel
theorem dX2_travels_10 : decode cX2_travels 10 = .ok (.if_icmp .eq 5, 3) := by decide +kernel
theorem dX2_travels_13 : decode cX2_travels 13 = .ok (.iconst 0, 1) := by decide +kernel
theorem dX2_travels_14 : decode cX2_travels 14 = .ok (.ireturn, 1) := by decide +kernel
theorem dX2_travels_15 : decode cX2_travels 15 = .ok (.iconst 0, 1) := by decide +kernel
theorem dX2_travels_16 : decode cX2_travels 16 = .ok (.istore_n 2, 1) := by decide +kernel
theorem dX2_travels_17 : decode cX2_travels 17 = .ok (.iload_n 2, 1) := by decide +kernel
theorem dX2_travels_18 : decode cX2_travels 18 = .ok (.aload_n 0, 1) := by decide +kernel
theorem dX2_travels_19 : decode cX2_travels 19 = .ok (.getfield 32, 3) := by decide +kernel
theorem dX2_travels_22 : decode cX2_travels 22 = .ok (.getfield 95, 3) := by decide +kernel
theorem dX2_travels_25 : decode cX2_travels 25 = .ok (.iload_n 1, 1) := by decide +kernel
theorem dX2_travels_26 : decode cX2_travels 26 = .ok (.iaload, 1) := by decide +kernel
theorem dX2_travels_27 : decode cX2_travels 27 = .ok (.if_icmp .ge 27, 3) := by decide +kernel
theorem dX2_travels_30 : decode cX2_travels 30 = .ok (.aload_n 0, 1) := by decide +kernel
theorem dX2_travels_31 : decode cX2_travels 31 = .ok (.getfield 32, 3) := by decide +kernel
theorem dX2_travels_34 : decode cX2_travels 34 = .ok (.getfield 92, 3) := by decide +kernel
theorem dX2_travels_37 : decode cX2_travels 37 = .ok (.iload_n 1, 1) := by decide +kernel
theorem dX2_travels_38 : decode cX2_travels 38 = .ok (.iaload, 1) := by decide +kernel
theorem dX2_travels_39 : decode cX2_travels 39 = .ok (.iconst 1, 1) := by decide +kernel
theorem dX2_travels_40 : decode cX2_travels 40 = .ok (.if_icmp .ne 14, 3) := by decide +kernel
theorem dX2_travels_43 : decode cX2_travels 43 = .ok (.aload_n 0, 1) := by decide +kernel
theorem dX2_travels_44 : decode cX2_travels 44 = .ok (.iload_n 1, 1) := by decide +kernel
theorem dX2_travels_45 : decode cX2_travels 45 = .ok (.invokevirtual 98, 3) := by decide +kernel
theorem dX2_travels_48 : decode cX2_travels 48 = .ok (.iinc 2 1, 3) := by decide +kernel
theorem dX2_travels_51 : decode cX2_travels 51 = .ok (.goto (-34), 3) := by decide +kernel
theorem dX2_travels_54 : decode cX2_travels 54 = .ok (.aload_n 0, 1) := by decide +kernel
theorem dX2_travels_55 : decode cX2_travels 55 = .ok (.getfield 32, 3) := by decide +kernel
theorem dX2_travels_58 : decode cX2_travels 58 = .ok (.getfield 92, 3) := by decide +kernel
theorem dX2_travels_61 : decode cX2_travels 61 = .ok (.iload_n 1, 1) := by decide +kernel
theorem dX2_travels_62 : decode cX2_travels 62 = .ok (.iaload, 1) := by decide +kernel
theorem dX2_travels_63 : decode cX2_travels 63 = .ok (.iconst 2, 1) := by decide +kernel
theorem dX2_travels_64 : decode cX2_travels 64 = .ok (.if_icmp .ne 7, 3) := by decide +kernel
theorem dX2_travels_67 : decode cX2_travels 67 = .ok (.iconst 1, 1) := by decide +kernel
theorem dX2_travels_68 : decode cX2_travels 68 = .ok (.goto 4, 3) := by decide +kernel
theorem dX2_travels_71 : decode cX2_travels 71 = .ok (.iconst 0, 1) := by decide +kernel
theorem dX2_travels_72 : decode cX2_travels 72 = .ok (.ireturn, 1) := by decide +kernel
set_option maxRecDepth 20000 in
theorem ggX2_step_X0_loadOf : GoodIn wsX2_step wsX0_loadOf := goodIn_r _ [6, 7, 8, 47, 48, 49, 50, 51, 52, 53, 54, 55, 56] (by decide +kernel) (by decide +kernel)
set_option maxRecDepth 20000 in
theorem gX2_step_X0_loadOf_n101 : GoodIn wsX2_step (wsX0_loadOf) := ggX2_step_X0_loadOf
set_option maxRecDepth 20000 in
theorem ggX2_step_X0_nextSection : GoodIn wsX2_step wsX0_nextSection := goodIn_r _ [11, 12, 13, 14, 15, 16, 4, 17, 47, 48, 49, 50, 51, 52, 53, 54, 55, 56] (by decide +kernel) (by decide +kernel)
set_option maxRecDepth 20000 in
theorem gX2_step_X0_nextSection_n105 : GoodIn wsX2_step (wsX0_nextSection) := ggX2_step_X0_nextSection
set_option maxRecDepth 20000 in
theorem ggX2_step_X1_laneFor : GoodIn wsX2_step wsX1_laneFor := goodIn_r _ [21, 22, 23, 24, 25, 26, 27, 28, 29, 30, 31, 19, 32, 33, 34, 35, 36, 37, 57, 58] (by decide +kernel) (by decide +kernel)
set_option maxRecDepth 20000 in
theorem gX2_step_X1_laneFor_n108 : GoodIn wsX2_step (wsX1_laneFor) := ggX2_step_X1_laneFor
set_option maxRecDepth 20000 in
theorem ggX2_step_X1_withstands : GoodIn wsX2_step wsX1_withstands := goodIn_r _ [40, 34, 22, 23, 24, 25, 33, 35, 36, 37, 29, 30, 31, 19, 32, 57, 58] (by decide +kernel) (by decide +kernel)
set_option maxRecDepth 20000 in
theorem gX2_step_X1_withstands_n118 : GoodIn wsX2_step (wsX1_withstands) := ggX2_step_X1_withstands
set_option maxRecDepth 20000 in
theorem ggX2_step_X0_isAtGoal : GoodIn wsX2_step wsX0_isAtGoal := goodIn_r _ [17, 12, 13, 47, 48, 49, 50, 51, 52, 53, 54, 55, 56] (by decide +kernel) (by decide +kernel)
set_option maxRecDepth 20000 in
theorem gX2_step_X0_isAtGoal_n124 : GoodIn wsX2_step (wsX0_isAtGoal) := ggX2_step_X0_isAtGoal
theorem dX2_step_0 : decode cX2_step 0 = .ok (.aload_n 0, 1) := by decide +kernel
theorem dX2_step_1 : decode cX2_step 1 = .ok (.getfield 32, 3) := by decide +kernel
theorem dX2_step_4 : decode cX2_step 4 = .ok (.iload_n 1, 1) := by decide +kernel
theorem dX2_step_5 : decode cX2_step 5 = .ok (.invokevirtual 101, 3) := by decide +kernel
theorem dX2_step_8 : decode cX2_step 8 = .ok (.istore_n 2, 1) := by decide +kernel
theorem dX2_step_9 : decode cX2_step 9 = .ok (.aload_n 0, 1) := by decide +kernel
theorem dX2_step_10 : decode cX2_step 10 = .ok (.getfield 32, 3) := by decide +kernel
theorem dX2_step_13 : decode cX2_step 13 = .ok (.iload_n 1, 1) := by decide +kernel
theorem dX2_step_14 : decode cX2_step 14 = .ok (.invokevirtual 105, 3) := by decide +kernel
theorem dX2_step_17 : decode cX2_step 17 = .ok (.istore_n 3, 1) := by decide +kernel
theorem dX2_step_18 : decode cX2_step 18 = .ok (.aload_n 0, 1) := by decide +kernel
theorem dX2_step_19 : decode cX2_step 19 = .ok (.getfield 25, 3) := by decide +kernel
theorem dX2_step_22 : decode cX2_step 22 = .ok (.iload_n 3, 1) := by decide +kernel
theorem dX2_step_23 : decode cX2_step 23 = .ok (.aload_n 0, 1) := by decide +kernel
theorem dX2_step_24 : decode cX2_step 24 = .ok (.getfield 32, 3) := by decide +kernel
theorem dX2_step_27 : decode cX2_step 27 = .ok (.getfield 58, 3) := by decide +kernel
theorem dX2_step_30 : decode cX2_step 30 = .ok (.iload_n 1, 1) := by decide +kernel
theorem dX2_step_31 : decode cX2_step 31 = .ok (.iaload, 1) := by decide +kernel
theorem dX2_step_32 : decode cX2_step 32 = .ok (.iload_n 2, 1) := by decide +kernel
theorem dX2_step_33 : decode cX2_step 33 = .ok (.invokevirtual 108, 3) := by decide +kernel
theorem dX2_step_36 : decode cX2_step 36 = .ok (.istore 4, 2) := by decide +kernel
theorem dX2_step_38 : decode cX2_step 38 = .ok (.aload_n 0, 1) := by decide +kernel
theorem dX2_step_39 : decode cX2_step 39 = .ok (.getfield 32, 3) := by decide +kernel
theorem dX2_step_42 : decode cX2_step 42 = .ok (.getfield 112, 3) := by decide +kernel
theorem dX2_step_45 : decode cX2_step 45 = .ok (.iload_n 1, 1) := by decide +kernel
theorem dX2_step_46 : decode cX2_step 46 = .ok (.iaload, 1) := by decide +kernel
theorem dX2_step_47 : decode cX2_step 47 = .ok (.ifCond .eq 9, 3) := by decide +kernel
theorem dX2_step_50 : decode cX2_step 50 = .ok (.iload 4, 2) := by decide +kernel
theorem dX2_step_52 : decode cX2_step 52 = .ok (.iconst (-1), 1) := by decide +kernel
theorem dX2_step_53 : decode cX2_step 53 = .ok (.if_icmp .ne 14, 3) := by decide +kernel
theorem dX2_step_56 : decode cX2_step 56 = .ok (.aload_n 0, 1) := by decide +kernel
theorem dX2_step_57 : decode cX2_step 57 = .ok (.getfield 32, 3) := by decide +kernel
theorem dX2_step_60 : decode cX2_step 60 = .ok (.getfield 92, 3) := by decide +kernel
theorem dX2_step_63 : decode cX2_step 63 = .ok (.iload_n 1, 1) := by decide +kernel
theorem dX2_step_64 : decode cX2_step 64 = .ok (.iconst 0, 1) := by decide +kernel
theorem dX2_step_65 : decode cX2_step 65 = .ok (.iastore, 1) := by decide +kernel
theorem dX2_step_66 : decode cX2_step 66 = .ok (.return_, 1) := by decide +kernel
theorem dX2_step_67 : decode cX2_step 67 = .ok (.aload_n 0, 1) := by decide +kernel
theorem dX2_step_68 : decode cX2_step 68 = .ok (.getfield 32, 3) := by decide +kernel
theorem dX2_step_71 : decode cX2_step 71 = .ok (.getfield 55, 3) := by decide +kernel
theorem dX2_step_74 : decode cX2_step 74 = .ok (.iload_n 1, 1) := by decide +kernel
theorem dX2_step_75 : decode cX2_step 75 = .ok (.iload_n 3, 1) := by decide +kernel
theorem dX2_step_76 : decode cX2_step 76 = .ok (.iastore, 1) := by decide +kernel
theorem dX2_step_77 : decode cX2_step 77 = .ok (.aload_n 0, 1) := by decide +kernel
theorem dX2_step_78 : decode cX2_step 78 = .ok (.getfield 32, 3) := by decide +kernel
theorem dX2_step_81 : decode cX2_step 81 = .ok (.getfield 58, 3) := by decide +kernel
theorem dX2_step_84 : decode cX2_step 84 = .ok (.iload_n 1, 1) := by decide +kernel
theorem dX2_step_85 : decode cX2_step 85 = .ok (.iload 4, 2) := by decide +kernel
theorem dX2_step_87 : decode cX2_step 87 = .ok (.iastore, 1) := by decide +kernel
theorem dX2_step_88 : decode cX2_step 88 = .ok (.aload_n 0, 1) := by decide +kernel
theorem dX2_step_89 : decode cX2_step 89 = .ok (.getfield 32, 3) := by decide +kernel
theorem dX2_step_92 : decode cX2_step 92 = .ok (.getfield 112, 3) := by decide +kernel
theorem dX2_step_95 : decode cX2_step 95 = .ok (.iload_n 1, 1) := by decide +kernel
theorem dX2_step_96 : decode cX2_step 96 = .ok (.dup2, 1) := by decide +kernel
theorem dX2_step_97 : decode cX2_step 97 = .ok (.iaload, 1) := by decide +kernel
theorem dX2_step_98 : decode cX2_step 98 = .ok (.iconst 1, 1) := by decide +kernel
theorem dX2_step_99 : decode cX2_step 99 = .ok (.isub, 1) := by decide +kernel
theorem dX2_step_100 : decode cX2_step 100 = .ok (.iastore, 1) := by decide +kernel
theorem dX2_step_101 : decode cX2_step 101 = .ok (.aload_n 0, 1) := by decide +kernel
theorem dX2_step_102 : decode cX2_step 102 = .ok (.getfield 32, 3) := by decide +kernel
theorem dX2_step_105 : decode cX2_step 105 = .ok (.getfield 115, 3) := by decide +kernel
theorem dX2_step_108 : decode cX2_step 108 = .ok (.iload_n 1, 1) := by decide +kernel
theorem dX2_step_109 : decode cX2_step 109 = .ok (.dup2, 1) := by decide +kernel
theorem dX2_step_110 : decode cX2_step 110 = .ok (.iaload, 1) := by decide +kernel
theorem dX2_step_111 : decode cX2_step 111 = .ok (.iconst 1, 1) := by decide +kernel
theorem dX2_step_112 : decode cX2_step 112 = .ok (.iadd, 1) := by decide +kernel
theorem dX2_step_113 : decode cX2_step 113 = .ok (.iastore, 1) := by decide +kernel
theorem dX2_step_114 : decode cX2_step 114 = .ok (.aload_n 0, 1) := by decide +kernel
theorem dX2_step_115 : decode cX2_step 115 = .ok (.getfield 25, 3) := by decide +kernel
theorem dX2_step_118 : decode cX2_step 118 = .ok (.iload_n 3, 1) := by decide +kernel
theorem dX2_step_119 : decode cX2_step 119 = .ok (.iload 4, 2) := by decide +kernel
theorem dX2_step_121 : decode cX2_step 121 = .ok (.iload_n 2, 1) := by decide +kernel
theorem dX2_step_122 : decode cX2_step 122 = .ok (.invokevirtual 118, 3) := by decide +kernel
theorem dX2_step_125 : decode cX2_step 125 = .ok (.ifCond .ne 26, 3) := by decide +kernel
theorem dX2_step_128 : decode cX2_step 128 = .ok (.aload_n 0, 1) := by decide +kernel
theorem dX2_step_129 : decode cX2_step 129 = .ok (.getfield 32, 3) := by decide +kernel
theorem dX2_step_132 : decode cX2_step 132 = .ok (.getfield 92, 3) := by decide +kernel
theorem dX2_step_135 : decode cX2_step 135 = .ok (.iload_n 1, 1) := by decide +kernel
theorem dX2_step_136 : decode cX2_step 136 = .ok (.iconst 3, 1) := by decide +kernel
theorem dX2_step_137 : decode cX2_step 137 = .ok (.iastore, 1) := by decide +kernel
theorem dX2_step_138 : decode cX2_step 138 = .ok (.aload_n 0, 1) := by decide +kernel
theorem dX2_step_139 : decode cX2_step 139 = .ok (.getfield 32, 3) := by decide +kernel
theorem dX2_step_142 : decode cX2_step 142 = .ok (.getfield 121, 3) := by decide +kernel
theorem dX2_step_145 : decode cX2_step 145 = .ok (.iload_n 1, 1) := by decide +kernel
theorem dX2_step_146 : decode cX2_step 146 = .ok (.iconst 0, 1) := by decide +kernel
theorem dX2_step_147 : decode cX2_step 147 = .ok (.iastore, 1) := by decide +kernel
theorem dX2_step_148 : decode cX2_step 148 = .ok (.goto 24, 3) := by decide +kernel
theorem dX2_step_151 : decode cX2_step 151 = .ok (.aload_n 0, 1) := by decide +kernel
theorem dX2_step_152 : decode cX2_step 152 = .ok (.getfield 32, 3) := by decide +kernel
theorem dX2_step_155 : decode cX2_step 155 = .ok (.iload_n 1, 1) := by decide +kernel
theorem dX2_step_156 : decode cX2_step 156 = .ok (.invokevirtual 124, 3) := by decide +kernel
theorem dX2_step_159 : decode cX2_step 159 = .ok (.ifCond .eq 13, 3) := by decide +kernel
theorem dX2_step_162 : decode cX2_step 162 = .ok (.aload_n 0, 1) := by decide +kernel
theorem dX2_step_163 : decode cX2_step 163 = .ok (.getfield 32, 3) := by decide +kernel
theorem dX2_step_166 : decode cX2_step 166 = .ok (.getfield 92, 3) := by decide +kernel
theorem dX2_step_169 : decode cX2_step 169 = .ok (.iload_n 1, 1) := by decide +kernel
theorem dX2_step_170 : decode cX2_step 170 = .ok (.iconst 2, 1) := by decide +kernel
theorem dX2_step_171 : decode cX2_step 171 = .ok (.iastore, 1) := by decide +kernel
theorem dX2_step_172 : decode cX2_step 172 = .ok (.return_, 1) := by decide +kernel
set_option maxRecDepth 20000 in
theorem ggX2_rest_X0_isAtGoal : GoodIn wsX2_rest wsX0_isAtGoal := goodIn_r _ [10, 11, 12, 19, 20, 21, 22, 23, 24, 25, 26, 27, 28] (by decide +kernel) (by decide +kernel)
set_option maxRecDepth 20000 in
theorem gX2_rest_X0_isAtGoal_n124 : GoodIn wsX2_rest (wsX0_isAtGoal) := ggX2_rest_X0_isAtGoal
theorem dX2_rest_0 : decode cX2_rest 0 = .ok (.aload_n 0, 1) := by decide +kernel
theorem dX2_rest_1 : decode cX2_rest 1 = .ok (.getfield 32, 3) := by decide +kernel
theorem dX2_rest_4 : decode cX2_rest 4 = .ok (.getfield 92, 3) := by decide +kernel
theorem dX2_rest_7 : decode cX2_rest 7 = .ok (.iload_n 1, 1) := by decide +kernel
theorem dX2_rest_8 : decode cX2_rest 8 = .ok (.iaload, 1) := by decide +kernel
theorem dX2_rest_9 : decode cX2_rest 9 = .ok (.ifCond .eq 4, 3) := by decide +kernel
theorem dX2_rest_12 : decode cX2_rest 12 = .ok (.return_, 1) := by decide +kernel
theorem dX2_rest_13 : decode cX2_rest 13 = .ok (.aload_n 0, 1) := by decide +kernel
theorem dX2_rest_14 : decode cX2_rest 14 = .ok (.getfield 19, 3) := by decide +kernel
theorem dX2_rest_17 : decode cX2_rest 17 = .ok (.aload_n 0, 1) := by decide +kernel
theorem dX2_rest_18 : decode cX2_rest 18 = .ok (.getfield 32, 3) := by decide +kernel
theorem dX2_rest_21 : decode cX2_rest 21 = .ok (.getfield 55, 3) := by decide +kernel
theorem dX2_rest_24 : decode cX2_rest 24 = .ok (.iload_n 1, 1) := by decide +kernel
theorem dX2_rest_25 : decode cX2_rest 25 = .ok (.iaload, 1) := by decide +kernel
theorem dX2_rest_26 : decode cX2_rest 26 = .ok (.iaload, 1) := by decide +kernel
theorem dX2_rest_27 : decode cX2_rest 27 = .ok (.iconst 1, 1) := by decide +kernel
theorem dX2_rest_28 : decode cX2_rest 28 = .ok (.if_icmp .ne 7, 3) := by decide +kernel
theorem dX2_rest_31 : decode cX2_rest 31 = .ok (.iconst 1, 1) := by decide +kernel
theorem dX2_rest_32 : decode cX2_rest 32 = .ok (.goto 4, 3) := by decide +kernel
theorem dX2_rest_35 : decode cX2_rest 35 = .ok (.iconst 0, 1) := by decide +kernel
theorem dX2_rest_36 : decode cX2_rest 36 = .ok (.istore_n 2, 1) := by decide +kernel
theorem dX2_rest_37 : decode cX2_rest 37 = .ok (.iconst 1, 1) := by decide +kernel
theorem dX2_rest_38 : decode cX2_rest 38 = .ok (.iload_n 2, 1) := by decide +kernel
theorem dX2_rest_39 : decode cX2_rest 39 = .ok (.ifCond .eq 7, 3) := by decide +kernel
theorem dX2_rest_42 : decode cX2_rest 42 = .ok (.iconst 4, 1) := by decide +kernel
theorem dX2_rest_43 : decode cX2_rest 43 = .ok (.goto 4, 3) := by decide +kernel
theorem dX2_rest_46 : decode cX2_rest 46 = .ok (.iconst 0, 1) := by decide +kernel
theorem dX2_rest_47 : decode cX2_rest 47 = .ok (.iadd, 1) := by decide +kernel
theorem dX2_rest_48 : decode cX2_rest 48 = .ok (.istore_n 3, 1) := by decide +kernel
theorem dX2_rest_49 : decode cX2_rest 49 = .ok (.aload_n 0, 1) := by decide +kernel
theorem dX2_rest_50 : decode cX2_rest 50 = .ok (.getfield 32, 3) := by decide +kernel
theorem dX2_rest_53 : decode cX2_rest 53 = .ok (.getfield 112, 3) := by decide +kernel
theorem dX2_rest_56 : decode cX2_rest 56 = .ok (.iload_n 1, 1) := by decide +kernel
theorem dX2_rest_57 : decode cX2_rest 57 = .ok (.bipush 20, 2) := by decide +kernel
theorem dX2_rest_59 : decode cX2_rest 59 = .ok (.aload_n 0, 1) := by decide +kernel
theorem dX2_rest_60 : decode cX2_rest 60 = .ok (.getfield 32, 3) := by decide +kernel
theorem dX2_rest_63 : decode cX2_rest 63 = .ok (.getfield 112, 3) := by decide +kernel
theorem dX2_rest_66 : decode cX2_rest 66 = .ok (.iload_n 1, 1) := by decide +kernel
theorem dX2_rest_67 : decode cX2_rest 67 = .ok (.iaload, 1) := by decide +kernel
theorem dX2_rest_68 : decode cX2_rest 68 = .ok (.iload_n 3, 1) := by decide +kernel
theorem dX2_rest_69 : decode cX2_rest 69 = .ok (.iadd, 1) := by decide +kernel
theorem dX2_rest_70 : decode cX2_rest 70 = .ok (.invokestatic 127, 3) := by decide +kernel
theorem dX2_rest_73 : decode cX2_rest 73 = .ok (.iastore, 1) := by decide +kernel
theorem dX2_rest_74 : decode cX2_rest 74 = .ok (.aload_n 0, 1) := by decide +kernel
theorem dX2_rest_75 : decode cX2_rest 75 = .ok (.getfield 32, 3) := by decide +kernel
theorem dX2_rest_78 : decode cX2_rest 78 = .ok (.iload_n 1, 1) := by decide +kernel
theorem dX2_rest_79 : decode cX2_rest 79 = .ok (.invokevirtual 124, 3) := by decide +kernel
theorem dX2_rest_82 : decode cX2_rest 82 = .ok (.ifCond .ne 27, 3) := by decide +kernel
theorem dX2_rest_85 : decode cX2_rest 85 = .ok (.aload_n 0, 1) := by decide +kernel
theorem dX2_rest_86 : decode cX2_rest 86 = .ok (.getfield 32, 3) := by decide +kernel
theorem dX2_rest_89 : decode cX2_rest 89 = .ok (.getfield 112, 3) := by decide +kernel
theorem dX2_rest_92 : decode cX2_rest 92 = .ok (.iload_n 1, 1) := by decide +kernel
theorem dX2_rest_93 : decode cX2_rest 93 = .ok (.iaload, 1) := by decide +kernel
theorem dX2_rest_94 : decode cX2_rest 94 = .ok (.bipush 10, 2) := by decide +kernel
theorem dX2_rest_96 : decode cX2_rest 96 = .ok (.if_icmp .lt 13, 3) := by decide +kernel
theorem dX2_rest_99 : decode cX2_rest 99 = .ok (.aload_n 0, 1) := by decide +kernel
theorem dX2_rest_100 : decode cX2_rest 100 = .ok (.getfield 32, 3) := by decide +kernel
theorem dX2_rest_103 : decode cX2_rest 103 = .ok (.getfield 92, 3) := by decide +kernel
theorem dX2_rest_106 : decode cX2_rest 106 = .ok (.iload_n 1, 1) := by decide +kernel
theorem dX2_rest_107 : decode cX2_rest 107 = .ok (.iconst 1, 1) := by decide +kernel
theorem dX2_rest_108 : decode cX2_rest 108 = .ok (.iastore, 1) := by decide +kernel
theorem dX2_rest_109 : decode cX2_rest 109 = .ok (.return_, 1) := by decide +kernel
set_option maxRecDepth 20000 in
theorem ggX2_hoursTillArrival_X0_isAtGoal : GoodIn wsX2_hoursTillArrival wsX0_isAtGoal := goodIn_r _ [5, 6, 7, 83, 84, 85, 86, 87, 88, 89, 90, 91, 92] (by decide +kernel) (by decide +kernel)
set_option maxRecDepth 20000 in
theorem gX2_hoursTillArrival_X0_isAtGoal_n124 : GoodIn wsX2_hoursTillArrival (wsX0_isAtGoal) := ggX2_hoursTillArrival_X0_isAtGoal
set_option maxRecDepth 20000 in
theorem ggX2_hoursTillArrival_X2_spendHour : GoodIn wsX2_hoursTillArrival wsX2_spendHour := goodIn_r _ [12, 13, 14, 15, 16, 1, 17, 18, 19, 20, 21, 22, 23, 24, 25, 26, 27, 28, 29, 30, 31, 32, 33, 34, 35, 36, 11, 37, 38, 39, 40, 41, 42, 43, 44, 45, 46, 47, 48, 49, 50, 51, 52, 3, 53, 54, 55, 56, 57, 58, 59, 6, 7, 60, 2, 4, 5, 61, 62, 63, 64, 65, 66, 67, 68, 69, 70, 71, 72, 73, 74, 75, 76, 77, 78, 79, 80, 81, 82, 83, 84, 85, 86, 87, 88, 89, 90, 91, 92, 93, 94] (by decide +kernel) (by decide +kernel)
set_option maxRecDepth 20000 in
theorem gX2_hoursTillArrival_X2_spendHour : GoodIn wsX2_hoursTillArrival (wsV RX2 130 RX2 yX2_spendHour wsX2_spendHour) := goodIn_app (goodIn_of _ (by decide +kernel)) ggX2_hoursTillArrival_X2_spendHour
theorem dX2_hoursTillArrival_0 : decode cX2_hoursTillArrival 0 = .ok (.aload_n 0, 1) := by decide +kernel
theorem dX2_hoursTillArrival_1 : decode cX2_hoursTillArrival 1 = .ok (.getfield 32, 3) := by decide +kernel
theorem dX2_hoursTillArrival_4 : decode cX2_hoursTillArrival 4 = .ok (.getfield 92, 3) := by decide +kernel
theorem dX2_hoursTillArrival_7 : decode cX2_hoursTillArrival 7 = .ok (.iload_n 1, 1) := by decide +kernel
theorem dX2_hoursTillArrival_8 : decode cX2_hoursTillArrival 8 = .ok (.iaload, 1) := by decide +kernel
theorem dX2_hoursTillArrival_9 : decode cX2_hoursTillArrival 9 = .ok (.iconst 3, 1) := by decide +kernel
theorem dX2_hoursTillArrival_10 : decode cX2_hoursTillArrival 10 = .ok (.if_icmp .ne 5, 3) := by decide +kernel
theorem dX2_hoursTillArrival_13 : decode cX2_hoursTillArrival 13 = .ok (.iconst (-1), 1) := by decide +kernel
theorem dX2_hoursTillArrival_14 : decode cX2_hoursTillArrival 14 = .ok (.ireturn, 1) := by decide +kernel
theorem dX2_hoursTillArrival_15 : decode cX2_hoursTillArrival 15 = .ok (.aload_n 0, 1) := by decide +kernel
theorem dX2_hoursTillArrival_16 : decode cX2_hoursTillArrival 16 = .ok (.getfield 32, 3) := by decide +kernel
theorem dX2_hoursTillArrival_19 : decode cX2_hoursTillArrival 19 = .ok (.iload_n 1, 1) := by decide +kernel
theorem dX2_hoursTillArrival_20 : decode cX2_hoursTillArrival 20 = .ok (.invokevirtual 124, 3) := by decide +kernel
theorem dX2_hoursTillArrival_23 : decode cX2_hoursTillArrival 23 = .ok (.ifCond .eq 5, 3) := by decide +kernel
theorem dX2_hoursTillArrival_26 : decode cX2_hoursTillArrival 26 = .ok (.iconst 0, 1) := by decide +kernel
theorem dX2_hoursTillArrival_27 : decode cX2_hoursTillArrival 27 = .ok (.ireturn, 1) := by decide +kernel
theorem dX2_hoursTillArrival_28 : decode cX2_hoursTillArrival 28 = .ok (.iconst 1, 1) := by decide +kernel
theorem dX2_hoursTillArrival_29 : decode cX2_hoursTillArrival 29 = .ok (.istore_n 2, 1) := by decide +kernel
theorem dX2_hoursTillArrival_30 : decode cX2_hoursTillArrival 30 = .ok (.iload_n 2, 1) := by decide +kernel
theorem dX2_hoursTillArrival_31 : decode cX2_hoursTillArrival 31 = .ok (.sipush 150, 3) := by decide +kernel
theorem dX2_hoursTillArrival_34 : decode cX2_hoursTillArrival 34 = .ok (.if_icmp .gt 44, 3) := by decide +kernel
theorem dX2_hoursTillArrival_37 : decode cX2_hoursTillArrival 37 = .ok (.aload_n 0, 1) := by decide +kernel
theorem dX2_hoursTillArrival_38 : decode cX2_hoursTillArrival 38 = .ok (.invokevirtual 130, 3) := by decide +kernel
theorem dX2_hoursTillArrival_41 : decode cX2_hoursTillArrival 41 = .ok (.pop, 1) := by decide +kernel
theorem dX2_hoursTillArrival_42 : decode cX2_hoursTillArrival 42 = .ok (.aload_n 0, 1) := by decide +kernel
theorem dX2_hoursTillArrival_43 : decode cX2_hoursTillArrival 43 = .ok (.getfield 32, 3) := by decide +kernel
theorem dX2_hoursTillArrival_46 : decode cX2_hoursTillArrival 46 = .ok (.getfield 92, 3) := by decide +kernel
theorem dX2_hoursTillArrival_49 : decode cX2_hoursTillArrival 49 = .ok (.iload_n 1, 1) := by decide +kernel
theorem dX2_hoursTillArrival_50 : decode cX2_hoursTillArrival 50 = .ok (.iaload, 1) := by decide +kernel
theorem dX2_hoursTillArrival_51 : decode cX2_hoursTillArrival 51 = .ok (.iconst 2, 1) := by decide +kernel
theorem dX2_hoursTillArrival_52 : decode cX2_hoursTillArrival 52 = .ok (.if_icmp .ne 5, 3) := by decide +kernel
theorem dX2_hoursTillArrival_55 : decode cX2_hoursTillArrival 55 = .ok (.iload_n 2, 1) := by decide +kernel
theorem dX2_hoursTillArrival_56 : decode cX2_hoursTillArrival 56 = .ok (.ireturn, 1) := by decide +kernel
theorem dX2_hoursTillArrival_57 : decode cX2_hoursTillArrival 57 = .ok (.aload_n 0, 1) := by decide +kernel
theorem dX2_hoursTillArrival_58 : decode cX2_hoursTillArrival 58 = .ok (.getfield 32, 3) := by decide +kernel
theorem dX2_hoursTillArrival_61 : decode cX2_hoursTillArrival 61 = .ok (.getfield 92, 3) := by decide +kernel
theorem dX2_hoursTillArrival_64 : decode cX2_hoursTillArrival 64 = .ok (.iload_n 1, 1) := by decide +kernel
theorem dX2_hoursTillArrival_65 : decode cX2_hoursTillArrival 65 = .ok (.iaload, 1) := by decide +kernel
theorem dX2_hoursTillArrival_66 : decode cX2_hoursTillArrival 66 = .ok (.iconst 3, 1) := by decide +kernel
theorem dX2_hoursTillArrival_67 : decode cX2_hoursTillArrival 67 = .ok (.if_icmp .ne 5, 3) := by decide +kernel
theorem dX2_hoursTillArrival_70 : decode cX2_hoursTillArrival 70 = .ok (.iconst (-1), 1) := by decide +kernel
theorem dX2_hoursTillArrival_71 : decode cX2_hoursTillArrival 71 = .ok (.ireturn, 1) := by decide +kernel
theorem dX2_hoursTillArrival_72 : decode cX2_hoursTillArrival 72 = .ok (.iinc 2 1, 3) := by decide +kernel
theorem dX2_hoursTillArrival_75 : decode cX2_hoursTillArrival 75 = .ok (.goto (-45), 3) := by decide +kernel
theorem dX2_hoursTillArrival_78 : decode cX2_hoursTillArrival 78 = .ok (.iconst (-1), 1) := by decide +kernel
theorem dX2_hoursTillArrival_79 : decode cX2_hoursTillArrival 79 = .ok (.ireturn, 1) := by decide +kernel
set_option maxRecDepth 20000 in
theorem ggX2_dayOfThaw_X2_hasThawed : GoodIn wsX2_dayOfThaw wsX2_hasThawed := goodIn_r _ [6, 1, 77, 78, 79, 80, 81, 82] (by decide +kernel) (by decide +kernel)
set_option maxRecDepth 20000 in
theorem gX2_dayOfThaw_X2_hasThawed : GoodIn wsX2_dayOfThaw (wsV RX2 75 RX2 yX2_hasThawed wsX2_hasThawed) := goodIn_app (goodIn_of _ (by decide +kernel)) ggX2_dayOfThaw_X2_hasThawed
set_option maxRecDepth 20000 in
theorem ggX2_dayOfThaw_X2_spendHour : GoodIn wsX2_dayOfThaw wsX2_spendHour := goodIn_r _ [10, 11, 12, 13, 1, 14, 15, 16, 17, 18, 19, 20, 21, 22, 23, 24, 25, 26, 27, 28, 29, 30, 31, 2, 3, 4, 5, 6, 32, 33, 34, 35, 36, 37, 38, 39, 40, 41, 42, 43, 44, 45, 46, 47, 48, 49, 50, 51, 52, 53, 54, 55, 56, 57, 58, 59, 60, 61, 62, 63, 64, 65, 66, 67, 68, 69, 70, 71, 72, 73, 74, 75, 76, 77, 78, 79, 80, 81, 82, 83, 84, 85, 86, 87, 88, 89, 90, 91, 92, 93, 94] (by decide +kernel) (by decide +kernel)
set_option maxRecDepth 20000 in
theorem gX2_dayOfThaw_X2_spendHour : GoodIn wsX2_dayOfThaw (wsV RX2 130 RX2 yX2_spendHour wsX2_spendHour) := goodIn_app (goodIn_of _ (by decide +kernel)) ggX2_dayOfThaw_X2_spendHour
theorem dX2_dayOfThaw_0 : decode cX2_dayOfThaw 0 = .ok (.iconst 0, 1) := by decide +kernel
theorem dX2_dayOfThaw_1 : decode cX2_dayOfThaw 1 = .ok (.istore_n 1, 1) := by decide +kernel
theorem dX2_dayOfThaw_2 : decode cX2_dayOfThaw 2 = .ok (.iload_n 1, 1) := by decide +kernel
theorem dX2_dayOfThaw_3 : decode cX2_dayOfThaw 3 = .ok (.sipush 720, 3) := by decide +kernel
theorem dX2_dayOfThaw_6 : decode cX2_dayOfThaw 6 = .ok (.if_icmp .ge 21, 3) := by decide +kernel
theorem dX2_dayOfThaw_9 : decode cX2_dayOfThaw 9 = .ok (.aload_n 0, 1) := by decide +kernel
theorem dX2_dayOfThaw_10 : decode cX2_dayOfThaw 10 = .ok (.invokevirtual 75, 3) := by decide +kernel
theorem dX2_dayOfThaw_13 : decode cX2_dayOfThaw 13 = .ok (.ifCond .ne 14, 3) := by decide +kernel
theorem dX2_dayOfThaw_16 : decode cX2_dayOfThaw 16 = .ok (.aload_n 0, 1) := by decide +kernel
theorem dX2_dayOfThaw_17 : decode cX2_dayOfThaw 17 = .ok (.invokevirtual 130, 3) := by decide +kernel
theorem dX2_dayOfThaw_20 : decode cX2_dayOfThaw 20 = .ok (.pop, 1) := by decide +kernel
theorem dX2_dayOfThaw_21 : decode cX2_dayOfThaw 21 = .ok (.iinc 1 1, 3) := by decide +kernel
theorem dX2_dayOfThaw_24 : decode cX2_dayOfThaw 24 = .ok (.goto (-22), 3) := by decide +kernel
theorem dX2_dayOfThaw_27 : decode cX2_dayOfThaw 27 = .ok (.aload_n 0, 1) := by decide +kernel
theorem dX2_dayOfThaw_28 : decode cX2_dayOfThaw 28 = .ok (.getfield 9, 3) := by decide +kernel
theorem dX2_dayOfThaw_31 : decode cX2_dayOfThaw 31 = .ok (.ireturn, 1) := by decide +kernel
theorem dX3_init_0 : decode cX3_init 0 = .ok (.aload_n 0, 1) := by decide +kernel
theorem dX3_init_1 : decode cX3_init 1 = .ok (.invokespecial 3, 3) := by decide +kernel
theorem dX3_init_4 : decode cX3_init 4 = .ok (.aload_n 0, 1) := by decide +kernel
theorem dX3_init_5 : decode cX3_init 5 = .ok (.bipush 12, 2) := by decide +kernel
theorem dX3_init_7 : decode cX3_init 7 = .ok (.newarray .int, 2) := by decide +kernel
theorem dX3_init_9 : decode cX3_init 9 = .ok (.putfield 9, 3) := by decide +kernel
theorem dX3_init_12 : decode cX3_init 12 = .ok (.aload_n 0, 1) := by decide +kernel
theorem dX3_init_13 : decode cX3_init 13 = .ok (.bipush 12, 2) := by decide +kernel
theorem dX3_init_15 : decode cX3_init 15 = .ok (.newarray .int, 2) := by decide +kernel
theorem dX3_init_17 : decode cX3_init 17 = .ok (.putfield 15, 3) := by decide +kernel
theorem dX3_init_20 : decode cX3_init 20 = .ok (.return_, 1) := by decide +kernel
set_option maxRecDepth 20000 in
theorem ggX3_has_X4_isWithin : GoodIn wsX3_has wsX4_isWithin := goodIn_r _ [4] (by decide +kernel) (by decide +kernel)
set_option maxRecDepth 20000 in
theorem gX3_has_X4_isWithin_n22 : GoodIn wsX3_has (wsX4_isWithin) := ggX3_has_X4_isWithin
theorem dX3_has_0 : decode cX3_has 0 = .ok (.iload_n 1, 1) := by decide +kernel
theorem dX3_has_1 : decode cX3_has 1 = .ok (.iconst 0, 1) := by decide +kernel
theorem dX3_has_2 : decode cX3_has 2 = .ok (.aload_n 0, 1) := by decide +kernel
theorem dX3_has_3 : decode cX3_has 3 = .ok (.getfield 18, 3) := by decide +kernel
theorem dX3_has_6 : decode cX3_has 6 = .ok (.iconst 1, 1) := by decide +kernel
theorem dX3_has_7 : decode cX3_has 7 = .ok (.isub, 1) := by decide +kernel
theorem dX3_has_8 : decode cX3_has 8 = .ok (.invokestatic 22, 3) := by decide +kernel
theorem dX3_has_11 : decode cX3_has 11 = .ok (.ireturn, 1) := by decide +kernel
theorem dX3_add_0 : decode cX3_add 0 = .ok (.aload_n 0, 1) := by decide +kernel
theorem dX3_add_1 : decode cX3_add 1 = .ok (.getfield 18, 3) := by decide +kernel
theorem dX3_add_4 : decode cX3_add 4 = .ok (.bipush 12, 2) := by decide +kernel
theorem dX3_add_6 : decode cX3_add 6 = .ok (.if_icmp .lt 5, 3) := by decide +kernel
theorem dX3_add_9 : decode cX3_add 9 = .ok (.iconst (-1), 1) := by decide +kernel
theorem dX3_add_10 : decode cX3_add 10 = .ok (.ireturn, 1) := by decide +kernel
theorem dX3_add_11 : decode cX3_add 11 = .ok (.aload_n 0, 1) := by decide +kernel
theorem dX3_add_12 : decode cX3_add 12 = .ok (.getfield 18, 3) := by decide +kernel
theorem dX3_add_15 : decode cX3_add 15 = .ok (.istore_n 3, 1) := by decide +kernel
theorem dX3_add_16 : decode cX3_add 16 = .ok (.aload_n 0, 1) := by decide +kernel
theorem dX3_add_17 : decode cX3_add 17 = .ok (.getfield 9, 3) := by decide +kernel
theorem dX3_add_20 : decode cX3_add 20 = .ok (.iload_n 3, 1) := by decide +kernel
theorem dX3_add_21 : decode cX3_add 21 = .ok (.iload_n 1, 1) := by decide +kernel
theorem dX3_add_22 : decode cX3_add 22 = .ok (.iastore, 1) := by decide +kernel
theorem dX3_add_23 : decode cX3_add 23 = .ok (.aload_n 0, 1) := by decide +kernel
theorem dX3_add_24 : decode cX3_add 24 = .ok (.getfield 15, 3) := by decide +kernel
theorem dX3_add_27 : decode cX3_add 27 = .ok (.iload_n 3, 1) := by decide +kernel
theorem dX3_add_28 : decode cX3_add 28 = .ok (.iload_n 2, 1) := by decide +kernel
theorem dX3_add_29 : decode cX3_add 29 = .ok (.iastore, 1) := by decide +kernel
theorem dX3_add_30 : decode cX3_add 30 = .ok (.aload_n 0, 1) := by decide +kernel
theorem dX3_add_31 : decode cX3_add 31 = .ok (.dup, 1) := by decide +kernel
theorem dX3_add_32 : decode cX3_add 32 = .ok (.getfield 18, 3) := by decide +kernel
theorem dX3_add_35 : decode cX3_add 35 = .ok (.iconst 1, 1) := by decide +kernel
theorem dX3_add_36 : decode cX3_add 36 = .ok (.iadd, 1) := by decide +kernel
theorem dX3_add_37 : decode cX3_add 37 = .ok (.putfield 18, 3) := by decide +kernel
theorem dX3_add_40 : decode cX3_add 40 = .ok (.iload_n 3, 1) := by decide +kernel
theorem dX3_add_41 : decode cX3_add 41 = .ok (.ireturn, 1) := by decide +kernel
theorem dX3_allStakes_0 : decode cX3_allStakes 0 = .ok (.iconst 0, 1) := by decide +kernel
theorem dX3_allStakes_1 : decode cX3_allStakes 1 = .ok (.istore_n 1, 1) := by decide +kernel
theorem dX3_allStakes_2 : decode cX3_allStakes 2 = .ok (.iconst 0, 1) := by decide +kernel
theorem dX3_allStakes_3 : decode cX3_allStakes 3 = .ok (.istore_n 2, 1) := by decide +kernel
theorem dX3_allStakes_4 : decode cX3_allStakes 4 = .ok (.iload_n 2, 1) := by decide +kernel
theorem dX3_allStakes_5 : decode cX3_allStakes 5 = .ok (.aload_n 0, 1) := by decide +kernel
theorem dX3_allStakes_6 : decode cX3_allStakes 6 = .ok (.getfield 18, 3) := by decide +kernel
theorem dX3_allStakes_9 : decode cX3_allStakes 9 = .ok (.if_icmp .ge 18, 3) := by decide +kernel
theorem dX3_allStakes_12 : decode cX3_allStakes 12 = .ok (.iload_n 1, 1) := by decide +kernel
theorem dX3_allStakes_13 : decode cX3_allStakes 13 = .ok (.aload_n 0, 1) := by decide +kernel
theorem dX3_allStakes_14 : decode cX3_allStakes 14 = .ok (.getfield 15, 3) := by decide +kernel
theorem dX3_allStakes_17 : decode cX3_allStakes 17 = .ok (.iload_n 2, 1) := by decide +kernel
theorem dX3_allStakes_18 : decode cX3_allStakes 18 = .ok (.iaload, 1) := by decide +kernel
theorem dX3_allStakes_19 : decode cX3_allStakes 19 = .ok (.iadd, 1) := by decide +kernel
theorem dX3_allStakes_20 : decode cX3_allStakes 20 = .ok (.istore_n 1, 1) := by decide +kernel
theorem dX3_allStakes_21 : decode cX3_allStakes 21 = .ok (.iinc 2 1, 3) := by decide +kernel
theorem dX3_allStakes_24 : decode cX3_allStakes 24 = .ok (.goto (-20), 3) := by decide +kernel
theorem dX3_allStakes_27 : decode cX3_allStakes 27 = .ok (.iload_n 1, 1) := by decide +kernel
theorem dX3_allStakes_28 : decode cX3_allStakes 28 = .ok (.ireturn, 1) := by decide +kernel
theorem dX3_daysBeside_0 : decode cX3_daysBeside 0 = .ok (.aload_n 0, 1) := by decide +kernel
theorem dX3_daysBeside_1 : decode cX3_daysBeside 1 = .ok (.getfield 9, 3) := by decide +kernel
theorem dX3_daysBeside_4 : decode cX3_daysBeside 4 = .ok (.iload_n 2, 1) := by decide +kernel
theorem dX3_daysBeside_5 : decode cX3_daysBeside 5 = .ok (.iaload, 1) := by decide +kernel
theorem dX3_daysBeside_6 : decode cX3_daysBeside 6 = .ok (.iload_n 1, 1) := by decide +kernel
theorem dX3_daysBeside_7 : decode cX3_daysBeside 7 = .ok (.isub, 1) := by decide +kernel
theorem dX3_daysBeside_8 : decode cX3_daysBeside 8 = .ok (.invokestatic 26, 3) := by decide +kernel
theorem dX3_daysBeside_11 : decode cX3_daysBeside 11 = .ok (.ireturn, 1) := by decide +kernel
set_option maxRecDepth 20000 in
theorem ggX3_winOn_X3_daysBeside : GoodIn wsX3_winOn wsX3_daysBeside := goodIn_r _ [6, 7, 8, 9, 10, 11, 17, 18, 19] (by decide +kernel) (by decide +kernel)
set_option maxRecDepth 20000 in
theorem gX3_winOn_X3_daysBeside : GoodIn wsX3_winOn (wsV RX3 32 RX3 yX3_daysBeside wsX3_daysBeside) := goodIn_app (goodIn_of _ (by decide +kernel)) ggX3_winOn_X3_daysBeside
set_option maxRecDepth 20000 in
theorem ggX3_winOn_X3_allStakes : GoodIn wsX3_winOn wsX3_allStakes := goodIn_r _ [15, 1, 16, 17, 18, 19] (by decide +kernel) (by decide +kernel)
set_option maxRecDepth 20000 in
theorem gX3_winOn_X3_allStakes : GoodIn wsX3_winOn (wsV RX3 36 RX3 yX3_allStakes wsX3_allStakes) := goodIn_app (goodIn_of _ (by decide +kernel)) ggX3_winOn_X3_allStakes
theorem dX3_winOn_0 : decode cX3_winOn 0 = .ok (.aload_n 0, 1) := by decide +kernel
theorem dX3_winOn_1 : decode cX3_winOn 1 = .ok (.iload_n 1, 1) := by decide +kernel
theorem dX3_winOn_2 : decode cX3_winOn 2 = .ok (.iload_n 2, 1) := by decide +kernel
theorem dX3_winOn_3 : decode cX3_winOn 3 = .ok (.invokevirtual 32, 3) := by decide +kernel
theorem dX3_winOn_6 : decode cX3_winOn 6 = .ok (.istore_n 3, 1) := by decide +kernel
theorem dX3_winOn_7 : decode cX3_winOn 7 = .ok (.iconst 0, 1) := by decide +kernel
theorem dX3_winOn_8 : decode cX3_winOn 8 = .ok (.istore 4, 2) := by decide +kernel
theorem dX3_winOn_10 : decode cX3_winOn 10 = .ok (.iconst 0, 1) := by decide +kernel
theorem dX3_winOn_11 : decode cX3_winOn 11 = .ok (.istore 5, 2) := by decide +kernel
theorem dX3_winOn_13 : decode cX3_winOn 13 = .ok (.iload 5, 2) := by decide +kernel
theorem dX3_winOn_15 : decode cX3_winOn 15 = .ok (.aload_n 0, 1) := by decide +kernel
theorem dX3_winOn_16 : decode cX3_winOn 16 = .ok (.getfield 18, 3) := by decide +kernel
theorem dX3_winOn_19 : decode cX3_winOn 19 = .ok (.if_icmp .ge 35, 3) := by decide +kernel
theorem dX3_winOn_22 : decode cX3_winOn 22 = .ok (.aload_n 0, 1) := by decide +kernel
theorem dX3_winOn_23 : decode cX3_winOn 23 = .ok (.iload_n 1, 1) := by decide +kernel
theorem dX3_winOn_24 : decode cX3_winOn 24 = .ok (.iload 5, 2) := by decide +kernel
theorem dX3_winOn_26 : decode cX3_winOn 26 = .ok (.invokevirtual 32, 3) := by decide +kernel
theorem dX3_winOn_29 : decode cX3_winOn 29 = .ok (.istore 6, 2) := by decide +kernel
theorem dX3_winOn_31 : decode cX3_winOn 31 = .ok (.iload 6, 2) := by decide +kernel
theorem dX3_winOn_33 : decode cX3_winOn 33 = .ok (.iload_n 3, 1) := by decide +kernel
theorem dX3_winOn_34 : decode cX3_winOn 34 = .ok (.if_icmp .ge 5, 3) := by decide +kernel
theorem dX3_winOn_37 : decode cX3_winOn 37 = .ok (.iconst 0, 1) := by decide +kernel
theorem dX3_winOn_38 : decode cX3_winOn 38 = .ok (.ireturn, 1) := by decide +kernel
theorem dX3_winOn_39 : decode cX3_winOn 39 = .ok (.iload 6, 2) := by decide +kernel
theorem dX3_winOn_41 : decode cX3_winOn 41 = .ok (.iload_n 3, 1) := by decide +kernel
theorem dX3_winOn_42 : decode cX3_winOn 42 = .ok (.if_icmp .ne 6, 3) := by decide +kernel
theorem dX3_winOn_45 : decode cX3_winOn 45 = .ok (.iinc 4 1, 3) := by decide +kernel
theorem dX3_winOn_48 : decode cX3_winOn 48 = .ok (.iinc 5 1, 3) := by decide +kernel
theorem dX3_winOn_51 : decode cX3_winOn 51 = .ok (.goto (-38), 3) := by decide +kernel
theorem dX3_winOn_54 : decode cX3_winOn 54 = .ok (.iload 4, 2) := by decide +kernel
theorem dX3_winOn_56 : decode cX3_winOn 56 = .ok (.ifCond .le 13, 3) := by decide +kernel
theorem dX3_winOn_59 : decode cX3_winOn 59 = .ok (.aload_n 0, 1) := by decide +kernel
theorem dX3_winOn_60 : decode cX3_winOn 60 = .ok (.invokevirtual 36, 3) := by decide +kernel
theorem dX3_winOn_63 : decode cX3_winOn 63 = .ok (.iload 4, 2) := by decide +kernel
theorem dX3_winOn_65 : decode cX3_winOn 65 = .ok (.idiv, 1) := by decide +kernel
theorem dX3_winOn_66 : decode cX3_winOn 66 = .ok (.goto 4, 3) := by decide +kernel
theorem dX3_winOn_69 : decode cX3_winOn 69 = .ok (.iconst 0, 1) := by decide +kernel
theorem dX3_winOn_70 : decode cX3_winOn 70 = .ok (.ireturn, 1) := by decide +kernel
set_option maxRecDepth 20000 in
theorem ggX4_init_X2_init : GoodIn wsX4_init wsX2_init := goodIn_r _ [14, 15, 2, 3, 16, 17, 18, 19, 20, 21, 22, 23, 24, 25, 26, 27, 28, 29, 30, 31, 32, 33, 34, 35, 36, 37, 38, 39, 40, 41, 42, 43, 44, 50, 51, 52, 53, 54, 55, 62, 63, 64, 65, 66, 67, 68, 69, 70, 71, 72, 73] (by decide +kernel) (by decide +kernel)
set_option maxRecDepth 20000 in
theorem gX4_init_X2_init_n11 : GoodIn wsX4_init (wsX2_init) := ggX4_init_X2_init
set_option maxRecDepth 20000 in
theorem ggX4_init_X3_init : GoodIn wsX4_init wsX3_init := goodIn_r _ [46, 47, 2, 3, 17, 48, 49, 59, 60, 61] (by decide +kernel) (by decide +kernel)
set_option maxRecDepth 20000 in
theorem gX4_init_X3_init_n21 : GoodIn wsX4_init (wsX3_init) := ggX4_init_X3_init
theorem dX4_init_0 : decode cX4_init 0 = .ok (.aload_n 0, 1) := by decide +kernel
theorem dX4_init_1 : decode cX4_init 1 = .ok (.invokespecial 3, 3) := by decide +kernel
theorem dX4_init_4 : decode cX4_init 4 = .ok (.aload_n 0, 1) := by decide +kernel
theorem dX4_init_5 : decode cX4_init 5 = .ok (.new 9, 3) := by decide +kernel
theorem dX4_init_8 : decode cX4_init 8 = .ok (.dup, 1) := by decide +kernel
theorem dX4_init_9 : decode cX4_init 9 = .ok (.invokespecial 11, 3) := by decide +kernel
theorem dX4_init_12 : decode cX4_init 12 = .ok (.putfield 12, 3) := by decide +kernel
theorem dX4_init_15 : decode cX4_init 15 = .ok (.aload_n 0, 1) := by decide +kernel
theorem dX4_init_16 : decode cX4_init 16 = .ok (.new 9, 3) := by decide +kernel
theorem dX4_init_19 : decode cX4_init 19 = .ok (.dup, 1) := by decide +kernel
theorem dX4_init_20 : decode cX4_init 20 = .ok (.invokespecial 11, 3) := by decide +kernel
theorem dX4_init_23 : decode cX4_init 23 = .ok (.putfield 16, 3) := by decide +kernel
theorem dX4_init_26 : decode cX4_init 26 = .ok (.aload_n 0, 1) := by decide +kernel
theorem dX4_init_27 : decode cX4_init 27 = .ok (.new 19, 3) := by decide +kernel
theorem dX4_init_30 : decode cX4_init 30 = .ok (.dup, 1) := by decide +kernel
theorem dX4_init_31 : decode cX4_init 31 = .ok (.invokespecial 21, 3) := by decide +kernel
theorem dX4_init_34 : decode cX4_init 34 = .ok (.putfield 22, 3) := by decide +kernel
theorem dX4_init_37 : decode cX4_init 37 = .ok (.return_, 1) := by decide +kernel
set_option maxRecDepth 20000 in
theorem ggX4_setWarm_X4_isWithin : GoodIn wsX4_setWarm wsX4_isWithin := goodIn_r _ [9] (by decide +kernel) (by decide +kernel)
set_option maxRecDepth 20000 in
theorem gX4_setWarm_X4_isWithin : GoodIn wsX4_setWarm (va_wsS RX4 26 yX4_isWithin wsX4_isWithin) := goodIn_app (goodIn_of _ (by decide +kernel)) ggX4_setWarm_X4_isWithin
theorem dX4_setWarm_0 : decode cX4_setWarm 0 = .ok (.iload_n 1, 1) := by decide +kernel
theorem dX4_setWarm_1 : decode cX4_setWarm 1 = .ok (.iconst 0, 1) := by decide +kernel
theorem dX4_setWarm_2 : decode cX4_setWarm 2 = .ok (.bipush 13, 2) := by decide +kernel
theorem dX4_setWarm_4 : decode cX4_setWarm 4 = .ok (.invokestatic 26, 3) := by decide +kernel
theorem dX4_setWarm_7 : decode cX4_setWarm 7 = .ok (.ifCond .ne 13, 3) := by decide +kernel
theorem dX4_setWarm_10 : decode cX4_setWarm 10 = .ok (.new 30, 3) := by decide +kernel
theorem dX4_setWarm_13 : decode cX4_setWarm 13 = .ok (.dup, 1) := by decide +kernel
theorem dX4_setWarm_14 : decode cX4_setWarm 14 = .ok (.ldc 32, 2) := by decide +kernel
theorem dX4_setWarm_16 : decode cX4_setWarm 16 = .ok (.invokespecial 34, 3) := by decide +kernel
theorem dX4_setWarm_19 : decode cX4_setWarm 19 = .ok (.athrow, 1) := by decide +kernel
theorem dX4_setWarm_20 : decode cX4_setWarm 20 = .ok (.iload_n 2, 1) := by decide +kernel
theorem dX4_setWarm_21 : decode cX4_setWarm 21 = .ok (.bipush (-9), 2) := by decide +kernel
theorem dX4_setWarm_23 : decode cX4_setWarm 23 = .ok (.bipush 9, 2) := by decide +kernel
theorem dX4_setWarm_25 : decode cX4_setWarm 25 = .ok (.invokestatic 26, 3) := by decide +kernel
theorem dX4_setWarm_28 : decode cX4_setWarm 28 = .ok (.ifCond .ne 13, 3) := by decide +kernel
theorem dX4_setWarm_31 : decode cX4_setWarm 31 = .ok (.new 37, 3) := by decide +kernel
theorem dX4_setWarm_34 : decode cX4_setWarm 34 = .ok (.dup, 1) := by decide +kernel
theorem dX4_setWarm_35 : decode cX4_setWarm 35 = .ok (.ldc 39, 2) := by decide +kernel
theorem dX4_setWarm_37 : decode cX4_setWarm 37 = .ok (.invokespecial 41, 3) := by decide +kernel
theorem dX4_setWarm_40 : decode cX4_setWarm 40 = .ok (.athrow, 1) := by decide +kernel
theorem dX4_setWarm_41 : decode cX4_setWarm 41 = .ok (.aload_n 0, 1) := by decide +kernel
theorem dX4_setWarm_42 : decode cX4_setWarm 42 = .ok (.getfield 12, 3) := by decide +kernel
theorem dX4_setWarm_45 : decode cX4_setWarm 45 = .ok (.getfield 42, 3) := by decide +kernel
theorem dX4_setWarm_48 : decode cX4_setWarm 48 = .ok (.iload_n 1, 1) := by decide +kernel
theorem dX4_setWarm_49 : decode cX4_setWarm 49 = .ok (.iaload, 1) := by decide +kernel
theorem dX4_setWarm_50 : decode cX4_setWarm 50 = .ok (.istore_n 3, 1) := by decide +kernel
theorem dX4_setWarm_51 : decode cX4_setWarm 51 = .ok (.aload_n 0, 1) := by decide +kernel
theorem dX4_setWarm_52 : decode cX4_setWarm 52 = .ok (.getfield 12, 3) := by decide +kernel
theorem dX4_setWarm_55 : decode cX4_setWarm 55 = .ok (.getfield 42, 3) := by decide +kernel
theorem dX4_setWarm_58 : decode cX4_setWarm 58 = .ok (.iload_n 1, 1) := by decide +kernel
theorem dX4_setWarm_59 : decode cX4_setWarm 59 = .ok (.iload_n 2, 1) := by decide +kernel
theorem dX4_setWarm_60 : decode cX4_setWarm 60 = .ok (.iastore, 1) := by decide +kernel
theorem dX4_setWarm_61 : decode cX4_setWarm 61 = .ok (.iload_n 3, 1) := by decide +kernel
theorem dX4_setWarm_62 : decode cX4_setWarm 62 = .ok (.ireturn, 1) := by decide +kernel
set_option maxRecDepth 20000 in
theorem ggX4_setIce_X4_isPlace : GoodIn wsX4_setIce wsX4_isPlace := goodIn_r _ [9, 10, 11, 8, 12, 13, 14, 15] (by decide +kernel) (by decide +kernel)
set_option maxRecDepth 20000 in
theorem gX4_setIce_X4_isPlace : GoodIn wsX4_setIce (va_wsS RX4 46 yX4_isPlace wsX4_isPlace) := goodIn_app (goodIn_of _ (by decide +kernel)) ggX4_setIce_X4_isPlace
set_option maxRecDepth 20000 in
theorem ggX4_setIce_X4_isWithin : GoodIn wsX4_setIce wsX4_isWithin := goodIn_r _ [15] (by decide +kernel) (by decide +kernel)
set_option maxRecDepth 20000 in
theorem gX4_setIce_X4_isWithin : GoodIn wsX4_setIce (va_wsS RX4 26 yX4_isWithin wsX4_isWithin) := goodIn_app (goodIn_of _ (by decide +kernel)) ggX4_setIce_X4_isWithin
set_option maxRecDepth 20000 in
theorem ggX4_setIce_X4_placeOf : GoodIn wsX4_setIce wsX4_placeOf := goodIn_r _ [18] (by decide +kernel) (by decide +kernel)
set_option maxRecDepth 20000 in
theorem gX4_setIce_X4_placeOf : GoodIn wsX4_setIce (va_wsS RX4 54 yX4_placeOf wsX4_placeOf) := goodIn_app (goodIn_of _ (by decide +kernel)) ggX4_setIce_X4_placeOf
theorem dX4_setIce_0 : decode cX4_setIce 0 = .ok (.iload_n 1, 1) := by decide +kernel
theorem dX4_setIce_1 : decode cX4_setIce 1 = .ok (.iload_n 2, 1) := by decide +kernel
theorem dX4_setIce_2 : decode cX4_setIce 2 = .ok (.invokestatic 46, 3) := by decide +kernel
theorem dX4_setIce_5 : decode cX4_setIce 5 = .ok (.ifCond .ne 13, 3) := by decide +kernel
theorem dX4_setIce_8 : decode cX4_setIce 8 = .ok (.new 30, 3) := by decide +kernel
theorem dX4_setIce_11 : decode cX4_setIce 11 = .ok (.dup, 1) := by decide +kernel
theorem dX4_setIce_12 : decode cX4_setIce 12 = .ok (.ldc 50, 2) := by decide +kernel
theorem dX4_setIce_14 : decode cX4_setIce 14 = .ok (.invokespecial 34, 3) := by decide +kernel
theorem dX4_setIce_17 : decode cX4_setIce 17 = .ok (.athrow, 1) := by decide +kernel
theorem dX4_setIce_18 : decode cX4_setIce 18 = .ok (.iload_n 3, 1) := by decide +kernel
theorem dX4_setIce_19 : decode cX4_setIce 19 = .ok (.iconst 0, 1) := by decide +kernel
theorem dX4_setIce_20 : decode cX4_setIce 20 = .ok (.bipush 60, 2) := by decide +kernel
theorem dX4_setIce_22 : decode cX4_setIce 22 = .ok (.invokestatic 26, 3) := by decide +kernel
theorem dX4_setIce_25 : decode cX4_setIce 25 = .ok (.ifCond .ne 13, 3) := by decide +kernel
theorem dX4_setIce_28 : decode cX4_setIce 28 = .ok (.new 37, 3) := by decide +kernel
theorem dX4_setIce_31 : decode cX4_setIce 31 = .ok (.dup, 1) := by decide +kernel
theorem dX4_setIce_32 : decode cX4_setIce 32 = .ok (.ldc 52, 2) := by decide +kernel
theorem dX4_setIce_34 : decode cX4_setIce 34 = .ok (.invokespecial 41, 3) := by decide +kernel
theorem dX4_setIce_37 : decode cX4_setIce 37 = .ok (.athrow, 1) := by decide +kernel
theorem dX4_setIce_38 : decode cX4_setIce 38 = .ok (.iload_n 1, 1) := by decide +kernel
theorem dX4_setIce_39 : decode cX4_setIce 39 = .ok (.iload_n 2, 1) := by decide +kernel
theorem dX4_setIce_40 : decode cX4_setIce 40 = .ok (.invokestatic 54, 3) := by decide +kernel
theorem dX4_setIce_43 : decode cX4_setIce 43 = .ok (.istore 4, 2) := by decide +kernel
theorem dX4_setIce_45 : decode cX4_setIce 45 = .ok (.aload_n 0, 1) := by decide +kernel
theorem dX4_setIce_46 : decode cX4_setIce 46 = .ok (.getfield 12, 3) := by decide +kernel
theorem dX4_setIce_49 : decode cX4_setIce 49 = .ok (.getfield 58, 3) := by decide +kernel
theorem dX4_setIce_52 : decode cX4_setIce 52 = .ok (.getfield 62, 3) := by decide +kernel
theorem dX4_setIce_55 : decode cX4_setIce 55 = .ok (.iload 4, 2) := by decide +kernel
theorem dX4_setIce_57 : decode cX4_setIce 57 = .ok (.iaload, 1) := by decide +kernel
theorem dX4_setIce_58 : decode cX4_setIce 58 = .ok (.istore 5, 2) := by decide +kernel
theorem dX4_setIce_60 : decode cX4_setIce 60 = .ok (.aload_n 0, 1) := by decide +kernel
theorem dX4_setIce_61 : decode cX4_setIce 61 = .ok (.getfield 12, 3) := by decide +kernel
theorem dX4_setIce_64 : decode cX4_setIce 64 = .ok (.getfield 58, 3) := by decide +kernel
theorem dX4_setIce_67 : decode cX4_setIce 67 = .ok (.getfield 62, 3) := by decide +kernel
theorem dX4_setIce_70 : decode cX4_setIce 70 = .ok (.iload 4, 2) := by decide +kernel
theorem dX4_setIce_72 : decode cX4_setIce 72 = .ok (.iload_n 3, 1) := by decide +kernel
theorem dX4_setIce_73 : decode cX4_setIce 73 = .ok (.iastore, 1) := by decide +kernel
theorem dX4_setIce_74 : decode cX4_setIce 74 = .ok (.iload 5, 2) := by decide +kernel
theorem dX4_setIce_76 : decode cX4_setIce 76 = .ok (.ireturn, 1) := by decide +kernel
set_option maxRecDepth 20000 in
theorem ggX4_build_X4_isSection : GoodIn wsX4_build wsX4_isSection := goodIn_r _ [7, 8, 9, 6, 10] (by decide +kernel) (by decide +kernel)
set_option maxRecDepth 20000 in
theorem gX4_build_X4_isSection : GoodIn wsX4_build (va_wsS RX4 67 yX4_isSection wsX4_isSection) := goodIn_app (goodIn_of _ (by decide +kernel)) ggX4_build_X4_isSection
set_option maxRecDepth 20000 in
theorem ggX4_build_X2_huts : GoodIn wsX4_build wsX2_huts := goodIn_r _ [14, 15, 19, 20, 21, 22, 23, 24] (by decide +kernel) (by decide +kernel)
set_option maxRecDepth 20000 in
theorem gX4_build_X2_huts_n76 : GoodIn wsX4_build (wsX2_huts) := ggX4_build_X2_huts
theorem dX4_build_0 : decode cX4_build 0 = .ok (.iload_n 1, 1) := by decide +kernel
theorem dX4_build_1 : decode cX4_build 1 = .ok (.invokestatic 67, 3) := by decide +kernel
theorem dX4_build_4 : decode cX4_build 4 = .ok (.ifCond .ne 13, 3) := by decide +kernel
theorem dX4_build_7 : decode cX4_build 7 = .ok (.new 30, 3) := by decide +kernel
theorem dX4_build_10 : decode cX4_build 10 = .ok (.dup, 1) := by decide +kernel
theorem dX4_build_11 : decode cX4_build 11 = .ok (.ldc 71, 2) := by decide +kernel
theorem dX4_build_13 : decode cX4_build 13 = .ok (.invokespecial 34, 3) := by decide +kernel
theorem dX4_build_16 : decode cX4_build 16 = .ok (.athrow, 1) := by decide +kernel
theorem dX4_build_17 : decode cX4_build 17 = .ok (.aload_n 0, 1) := by decide +kernel
theorem dX4_build_18 : decode cX4_build 18 = .ok (.getfield 12, 3) := by decide +kernel
theorem dX4_build_21 : decode cX4_build 21 = .ok (.getfield 73, 3) := by decide +kernel
theorem dX4_build_24 : decode cX4_build 24 = .ok (.iload_n 1, 1) := by decide +kernel
theorem dX4_build_25 : decode cX4_build 25 = .ok (.iconst 1, 1) := by decide +kernel
theorem dX4_build_26 : decode cX4_build 26 = .ok (.iastore, 1) := by decide +kernel
theorem dX4_build_27 : decode cX4_build 27 = .ok (.aload_n 0, 1) := by decide +kernel
theorem dX4_build_28 : decode cX4_build 28 = .ok (.getfield 12, 3) := by decide +kernel
theorem dX4_build_31 : decode cX4_build 31 = .ok (.invokevirtual 76, 3) := by decide +kernel
theorem dX4_build_34 : decode cX4_build 34 = .ok (.ireturn, 1) := by decide +kernel
set_option maxRecDepth 20000 in
theorem ggX4_place_X4_isPlace : GoodIn wsX4_place wsX4_isPlace := goodIn_r _ [7, 8, 9, 6, 10, 11, 12, 13] (by decide +kernel) (by decide +kernel)
set_option maxRecDepth 20000 in
theorem gX4_place_X4_isPlace : GoodIn wsX4_place (va_wsS RX4 46 yX4_isPlace wsX4_isPlace) := goodIn_app (goodIn_of _ (by decide +kernel)) ggX4_place_X4_isPlace
set_option maxRecDepth 20000 in
theorem ggX4_place_X4_isWithin : GoodIn wsX4_place wsX4_isWithin := goodIn_r _ [13] (by decide +kernel) (by decide +kernel)
set_option maxRecDepth 20000 in
theorem gX4_place_X4_isWithin : GoodIn wsX4_place (va_wsS RX4 26 yX4_isWithin wsX4_isWithin) := goodIn_app (goodIn_of _ (by decide +kernel)) ggX4_place_X4_isWithin
set_option maxRecDepth 20000 in
theorem ggX4_place_X4_placeOf : GoodIn wsX4_place wsX4_placeOf := goodIn_r _ [16] (by decide +kernel) (by decide +kernel)
set_option maxRecDepth 20000 in
theorem gX4_place_X4_placeOf : GoodIn wsX4_place (va_wsS RX4 54 yX4_placeOf wsX4_placeOf) := goodIn_app (goodIn_of _ (by decide +kernel)) ggX4_place_X4_placeOf
set_option maxRecDepth 20000 in
theorem ggX4_place_X1_mostBorneAt : GoodIn wsX4_place wsX1_mostBorneAt := goodIn_r _ [20, 21, 22, 23, 24, 25, 26, 27, 18, 28, 29, 30, 15, 6, 16, 48, 49] (by decide +kernel) (by decide +kernel)
set_option maxRecDepth 20000 in
theorem gX4_place_X1_mostBorneAt_n85 : GoodIn wsX4_place (wsX1_mostBorneAt) := ggX4_place_X1_mostBorneAt
set_option maxRecDepth 20000 in
theorem ggX4_place_X0_notOutAt : GoodIn wsX4_place wsX0_notOutAt := goodIn_r _ [34, 35, 36, 37, 38, 50, 51, 52, 53, 54, 55, 56, 57, 58, 59] (by decide +kernel) (by decide +kernel)
set_option maxRecDepth 20000 in
theorem gX4_place_X0_notOutAt_n92 : GoodIn wsX4_place (wsX0_notOutAt) := ggX4_place_X0_notOutAt
theorem dX4_place_0 : decode cX4_place 0 = .ok (.iload_n 1, 1) := by decide +kernel
theorem dX4_place_1 : decode cX4_place 1 = .ok (.iload_n 2, 1) := by decide +kernel
theorem dX4_place_2 : decode cX4_place 2 = .ok (.invokestatic 46, 3) := by decide +kernel
theorem dX4_place_5 : decode cX4_place 5 = .ok (.ifCond .ne 13, 3) := by decide +kernel
theorem dX4_place_8 : decode cX4_place 8 = .ok (.new 30, 3) := by decide +kernel
theorem dX4_place_11 : decode cX4_place 11 = .ok (.dup, 1) := by decide +kernel
theorem dX4_place_12 : decode cX4_place 12 = .ok (.ldc 50, 2) := by decide +kernel
theorem dX4_place_14 : decode cX4_place 14 = .ok (.invokespecial 34, 3) := by decide +kernel
theorem dX4_place_17 : decode cX4_place 17 = .ok (.athrow, 1) := by decide +kernel
theorem dX4_place_18 : decode cX4_place 18 = .ok (.iload_n 3, 1) := by decide +kernel
theorem dX4_place_19 : decode cX4_place 19 = .ok (.iconst 0, 1) := by decide +kernel
theorem dX4_place_20 : decode cX4_place 20 = .ok (.iconst 3, 1) := by decide +kernel
theorem dX4_place_21 : decode cX4_place 21 = .ok (.invokestatic 26, 3) := by decide +kernel
theorem dX4_place_24 : decode cX4_place 24 = .ok (.ifCond .ne 13, 3) := by decide +kernel
theorem dX4_place_27 : decode cX4_place 27 = .ok (.new 30, 3) := by decide +kernel
theorem dX4_place_30 : decode cX4_place 30 = .ok (.dup, 1) := by decide +kernel
theorem dX4_place_31 : decode cX4_place 31 = .ok (.ldc 80, 2) := by decide +kernel
theorem dX4_place_33 : decode cX4_place 33 = .ok (.invokespecial 34, 3) := by decide +kernel
theorem dX4_place_36 : decode cX4_place 36 = .ok (.athrow, 1) := by decide +kernel
theorem dX4_place_37 : decode cX4_place 37 = .ok (.iload_n 3, 1) := by decide +kernel
theorem dX4_place_38 : decode cX4_place 38 = .ok (.tableswitch 73 0 2 #[26, 43, 60], 26) := by decide +kernel
theorem dX4_place_64 : decode cX4_place 64 = .ok (.aload_n 0, 1) := by decide +kernel
theorem dX4_place_65 : decode cX4_place 65 = .ok (.getfield 12, 3) := by decide +kernel
theorem dX4_place_68 : decode cX4_place 68 = .ok (.getfield 58, 3) := by decide +kernel
theorem dX4_place_71 : decode cX4_place 71 = .ok (.getfield 62, 3) := by decide +kernel
theorem dX4_place_74 : decode cX4_place 74 = .ok (.iload_n 1, 1) := by decide +kernel
theorem dX4_place_75 : decode cX4_place 75 = .ok (.iload_n 2, 1) := by decide +kernel
theorem dX4_place_76 : decode cX4_place 76 = .ok (.invokestatic 54, 3) := by decide +kernel
theorem dX4_place_79 : decode cX4_place 79 = .ok (.iaload, 1) := by decide +kernel
theorem dX4_place_80 : decode cX4_place 80 = .ok (.ireturn, 1) := by decide +kernel
theorem dX4_place_81 : decode cX4_place 81 = .ok (.aload_n 0, 1) := by decide +kernel
theorem dX4_place_82 : decode cX4_place 82 = .ok (.getfield 12, 3) := by decide +kernel
theorem dX4_place_85 : decode cX4_place 85 = .ok (.getfield 58, 3) := by decide +kernel
theorem dX4_place_88 : decode cX4_place 88 = .ok (.getfield 82, 3) := by decide +kernel
theorem dX4_place_91 : decode cX4_place 91 = .ok (.iload_n 1, 1) := by decide +kernel
theorem dX4_place_92 : decode cX4_place 92 = .ok (.iload_n 2, 1) := by decide +kernel
theorem dX4_place_93 : decode cX4_place 93 = .ok (.invokestatic 54, 3) := by decide +kernel
theorem dX4_place_96 : decode cX4_place 96 = .ok (.iaload, 1) := by decide +kernel
theorem dX4_place_97 : decode cX4_place 97 = .ok (.ireturn, 1) := by decide +kernel
theorem dX4_place_98 : decode cX4_place 98 = .ok (.aload_n 0, 1) := by decide +kernel
theorem dX4_place_99 : decode cX4_place 99 = .ok (.getfield 12, 3) := by decide +kernel
theorem dX4_place_102 : decode cX4_place 102 = .ok (.getfield 58, 3) := by decide +kernel
theorem dX4_place_105 : decode cX4_place 105 = .ok (.iload_n 1, 1) := by decide +kernel
theorem dX4_place_106 : decode cX4_place 106 = .ok (.iload_n 2, 1) := by decide +kernel
theorem dX4_place_107 : decode cX4_place 107 = .ok (.invokevirtual 85, 3) := by decide +kernel
theorem dX4_place_110 : decode cX4_place 110 = .ok (.ireturn, 1) := by decide +kernel
theorem dX4_place_111 : decode cX4_place 111 = .ok (.aload_n 0, 1) := by decide +kernel
theorem dX4_place_112 : decode cX4_place 112 = .ok (.getfield 12, 3) := by decide +kernel
theorem dX4_place_115 : decode cX4_place 115 = .ok (.getfield 88, 3) := by decide +kernel
theorem dX4_place_118 : decode cX4_place 118 = .ok (.iload_n 1, 1) := by decide +kernel
theorem dX4_place_119 : decode cX4_place 119 = .ok (.iload_n 2, 1) := by decide +kernel
theorem dX4_place_120 : decode cX4_place 120 = .ok (.invokevirtual 92, 3) := by decide +kernel
theorem dX4_place_123 : decode cX4_place 123 = .ok (.ireturn, 1) := by decide +kernel
set_option maxRecDepth 20000 in
theorem ggX4_come_X4_isPlace : GoodIn wsX4_come wsX4_isPlace := goodIn_r _ [11, 12, 13, 10, 14, 15, 16, 17] (by decide +kernel) (by decide +kernel)
set_option maxRecDepth 20000 in
theorem gX4_come_X4_isPlace : GoodIn wsX4_come (va_wsS RX4 46 yX4_isPlace wsX4_isPlace) := goodIn_app (goodIn_of _ (by decide +kernel)) ggX4_come_X4_isPlace
set_option maxRecDepth 20000 in
theorem ggX4_come_X4_isWithin : GoodIn wsX4_come wsX4_isWithin := goodIn_r _ [17] (by decide +kernel) (by decide +kernel)
set_option maxRecDepth 20000 in
theorem gX4_come_X4_isWithin : GoodIn wsX4_come (va_wsS RX4 26 yX4_isWithin wsX4_isWithin) := goodIn_app (goodIn_of _ (by decide +kernel)) ggX4_come_X4_isWithin
set_option maxRecDepth 20000 in
theorem ggX4_come_X1_holds : GoodIn wsX4_come wsX1_holds := goodIn_r _ [21, 22, 23, 24, 19, 25, 26, 27, 28, 10, 29, 63, 64] (by decide +kernel) (by decide +kernel)
set_option maxRecDepth 20000 in
theorem gX4_come_X1_holds_n108 : GoodIn wsX4_come (wsX1_holds) := ggX4_come_X1_holds
set_option maxRecDepth 20000 in
theorem ggX4_come_X0_add : GoodIn wsX4_come wsX0_add := goodIn_r _ [33, 34, 35, 36, 37, 38, 39, 40, 41, 42, 43, 53, 54, 55, 56, 57, 58, 59, 60, 61, 62] (by decide +kernel) (by decide +kernel)
set_option maxRecDepth 20000 in
theorem gX4_come_X0_add_n113 : GoodIn wsX4_come (wsX0_add) := ggX4_come_X0_add
theorem dX4_come_0 : decode cX4_come 0 = .ok (.iload_n 1, 1) := by decide +kernel
theorem dX4_come_1 : decode cX4_come 1 = .ok (.iload_n 2, 1) := by decide +kernel
theorem dX4_come_2 : decode cX4_come 2 = .ok (.invokestatic 46, 3) := by decide +kernel
theorem dX4_come_5 : decode cX4_come 5 = .ok (.ifCond .ne 13, 3) := by decide +kernel
theorem dX4_come_8 : decode cX4_come 8 = .ok (.new 30, 3) := by decide +kernel
theorem dX4_come_11 : decode cX4_come 11 = .ok (.dup, 1) := by decide +kernel
theorem dX4_come_12 : decode cX4_come 12 = .ok (.ldc 50, 2) := by decide +kernel
theorem dX4_come_14 : decode cX4_come 14 = .ok (.invokespecial 34, 3) := by decide +kernel
theorem dX4_come_17 : decode cX4_come 17 = .ok (.athrow, 1) := by decide +kernel
theorem dX4_come_18 : decode cX4_come 18 = .ok (.iload_n 3, 1) := by decide +kernel
theorem dX4_come_19 : decode cX4_come 19 = .ok (.iconst 1, 1) := by decide +kernel
theorem dX4_come_20 : decode cX4_come 20 = .ok (.bipush 40, 2) := by decide +kernel
theorem dX4_come_22 : decode cX4_come 22 = .ok (.invokestatic 26, 3) := by decide +kernel
theorem dX4_come_25 : decode cX4_come 25 = .ok (.ifCond .eq 14, 3) := by decide +kernel
theorem dX4_come_28 : decode cX4_come 28 = .ok (.iload 4, 2) := by decide +kernel
theorem dX4_come_30 : decode cX4_come 30 = .ok (.iconst 0, 1) := by decide +kernel
theorem dX4_come_31 : decode cX4_come 31 = .ok (.bipush 20, 2) := by decide +kernel
theorem dX4_come_33 : decode cX4_come 33 = .ok (.invokestatic 26, 3) := by decide +kernel
theorem dX4_come_36 : decode cX4_come 36 = .ok (.ifCond .ne 13, 3) := by decide +kernel
theorem dX4_come_39 : decode cX4_come 39 = .ok (.new 37, 3) := by decide +kernel
theorem dX4_come_42 : decode cX4_come 42 = .ok (.dup, 1) := by decide +kernel
theorem dX4_come_43 : decode cX4_come 43 = .ok (.ldc 97, 2) := by decide +kernel
theorem dX4_come_45 : decode cX4_come 45 = .ok (.invokespecial 41, 3) := by decide +kernel
theorem dX4_come_48 : decode cX4_come 48 = .ok (.athrow, 1) := by decide +kernel
theorem dX4_come_49 : decode cX4_come 49 = .ok (.aload_n 0, 1) := by decide +kernel
theorem dX4_come_50 : decode cX4_come 50 = .ok (.getfield 12, 3) := by decide +kernel
theorem dX4_come_53 : decode cX4_come 53 = .ok (.getfield 88, 3) := by decide +kernel
theorem dX4_come_56 : decode cX4_come 56 = .ok (.getfield 99, 3) := by decide +kernel
theorem dX4_come_59 : decode cX4_come 59 = .ok (.bipush 8, 2) := by decide +kernel
theorem dX4_come_61 : decode cX4_come 61 = .ok (.if_icmp .lt 13, 3) := by decide +kernel
theorem dX4_come_64 : decode cX4_come 64 = .ok (.new 103, 3) := by decide +kernel
theorem dX4_come_67 : decode cX4_come 67 = .ok (.dup, 1) := by decide +kernel
theorem dX4_come_68 : decode cX4_come 68 = .ok (.ldc 105, 2) := by decide +kernel
theorem dX4_come_70 : decode cX4_come 70 = .ok (.invokespecial 107, 3) := by decide +kernel
theorem dX4_come_73 : decode cX4_come 73 = .ok (.athrow, 1) := by decide +kernel
theorem dX4_come_74 : decode cX4_come 74 = .ok (.aload_n 0, 1) := by decide +kernel
theorem dX4_come_75 : decode cX4_come 75 = .ok (.getfield 12, 3) := by decide +kernel
theorem dX4_come_78 : decode cX4_come 78 = .ok (.getfield 58, 3) := by decide +kernel
theorem dX4_come_81 : decode cX4_come 81 = .ok (.iload_n 1, 1) := by decide +kernel
theorem dX4_come_82 : decode cX4_come 82 = .ok (.iload_n 2, 1) := by decide +kernel
theorem dX4_come_83 : decode cX4_come 83 = .ok (.iload_n 3, 1) := by decide +kernel
theorem dX4_come_84 : decode cX4_come 84 = .ok (.iload 4, 2) := by decide +kernel
theorem dX4_come_86 : decode cX4_come 86 = .ok (.iadd, 1) := by decide +kernel
theorem dX4_come_87 : decode cX4_come 87 = .ok (.invokevirtual 108, 3) := by decide +kernel
theorem dX4_come_90 : decode cX4_come 90 = .ok (.ifCond .ne 13, 3) := by decide +kernel
theorem dX4_come_93 : decode cX4_come 93 = .ok (.new 103, 3) := by decide +kernel
theorem dX4_come_96 : decode cX4_come 96 = .ok (.dup, 1) := by decide +kernel
theorem dX4_come_97 : decode cX4_come 97 = .ok (.ldc 111, 2) := by decide +kernel
theorem dX4_come_99 : decode cX4_come 99 = .ok (.invokespecial 107, 3) := by decide +kernel
theorem dX4_come_102 : decode cX4_come 102 = .ok (.athrow, 1) := by decide +kernel
theorem dX4_come_103 : decode cX4_come 103 = .ok (.aload_n 0, 1) := by decide +kernel
theorem dX4_come_104 : decode cX4_come 104 = .ok (.getfield 12, 3) := by decide +kernel
theorem dX4_come_107 : decode cX4_come 107 = .ok (.getfield 88, 3) := by decide +kernel
theorem dX4_come_110 : decode cX4_come 110 = .ok (.iload_n 1, 1) := by decide +kernel
theorem dX4_come_111 : decode cX4_come 111 = .ok (.iload_n 2, 1) := by decide +kernel
theorem dX4_come_112 : decode cX4_come 112 = .ok (.iload_n 3, 1) := by decide +kernel
theorem dX4_come_113 : decode cX4_come 113 = .ok (.iload 4, 2) := by decide +kernel
theorem dX4_come_115 : decode cX4_come 115 = .ok (.iload 5, 2) := by decide +kernel
theorem dX4_come_117 : decode cX4_come 117 = .ok (.ifCond .eq 7, 3) := by decide +kernel
theorem dX4_come_120 : decode cX4_come 120 = .ok (.iconst 2, 1) := by decide +kernel
theorem dX4_come_121 : decode cX4_come 121 = .ok (.goto 4, 3) := by decide +kernel
theorem dX4_come_124 : decode cX4_come 124 = .ok (.iconst 1, 1) := by decide +kernel
theorem dX4_come_125 : decode cX4_come 125 = .ok (.invokevirtual 113, 3) := by decide +kernel
theorem dX4_come_128 : decode cX4_come 128 = .ok (.ireturn, 1) := by decide +kernel
set_option maxRecDepth 20000 in
theorem ggX4_send_X0_has : GoodIn wsX4_send wsX0_has := goodIn_r _ [13, 14, 15, 16, 17, 31, 32, 33, 34, 35, 36, 37, 38, 39, 40] (by decide +kernel) (by decide +kernel)
set_option maxRecDepth 20000 in
theorem gX4_send_X0_has_n117 : GoodIn wsX4_send (wsX0_has) := ggX4_send_X0_has
set_option maxRecDepth 20000 in
theorem ggX4_send_X4_isSection : GoodIn wsX4_send wsX4_isSection := goodIn_r _ [20, 21, 15, 16, 17] (by decide +kernel) (by decide +kernel)
set_option maxRecDepth 20000 in
theorem gX4_send_X4_isSection : GoodIn wsX4_send (va_wsS RX4 67 yX4_isSection wsX4_isSection) := goodIn_app (goodIn_of _ (by decide +kernel)) ggX4_send_X4_isSection
theorem dX4_send_0 : decode cX4_send 0 = .ok (.aload_n 0, 1) := by decide +kernel
theorem dX4_send_1 : decode cX4_send 1 = .ok (.getfield 12, 3) := by decide +kernel
theorem dX4_send_4 : decode cX4_send 4 = .ok (.getfield 88, 3) := by decide +kernel
theorem dX4_send_7 : decode cX4_send 7 = .ok (.iload_n 1, 1) := by decide +kernel
theorem dX4_send_8 : decode cX4_send 8 = .ok (.invokevirtual 117, 3) := by decide +kernel
theorem dX4_send_11 : decode cX4_send 11 = .ok (.ifCond .eq 10, 3) := by decide +kernel
theorem dX4_send_14 : decode cX4_send 14 = .ok (.iload_n 2, 1) := by decide +kernel
theorem dX4_send_15 : decode cX4_send 15 = .ok (.invokestatic 67, 3) := by decide +kernel
theorem dX4_send_18 : decode cX4_send 18 = .ok (.ifCond .ne 13, 3) := by decide +kernel
theorem dX4_send_21 : decode cX4_send 21 = .ok (.new 30, 3) := by decide +kernel
theorem dX4_send_24 : decode cX4_send 24 = .ok (.dup, 1) := by decide +kernel
theorem dX4_send_25 : decode cX4_send 25 = .ok (.ldc 120, 2) := by decide +kernel
theorem dX4_send_27 : decode cX4_send 27 = .ok (.invokespecial 34, 3) := by decide +kernel
theorem dX4_send_30 : decode cX4_send 30 = .ok (.athrow, 1) := by decide +kernel
theorem dX4_send_31 : decode cX4_send 31 = .ok (.aload_n 0, 1) := by decide +kernel
theorem dX4_send_32 : decode cX4_send 32 = .ok (.getfield 12, 3) := by decide +kernel
theorem dX4_send_35 : decode cX4_send 35 = .ok (.getfield 88, 3) := by decide +kernel
theorem dX4_send_38 : decode cX4_send 38 = .ok (.getfield 122, 3) := by decide +kernel
theorem dX4_send_41 : decode cX4_send 41 = .ok (.iload_n 1, 1) := by decide +kernel
theorem dX4_send_42 : decode cX4_send 42 = .ok (.iaload, 1) := by decide +kernel
theorem dX4_send_43 : decode cX4_send 43 = .ok (.iconst 3, 1) := by decide +kernel
theorem dX4_send_44 : decode cX4_send 44 = .ok (.if_icmp .ne 13, 3) := by decide +kernel
theorem dX4_send_47 : decode cX4_send 47 = .ok (.new 103, 3) := by decide +kernel
theorem dX4_send_50 : decode cX4_send 50 = .ok (.dup, 1) := by decide +kernel
theorem dX4_send_51 : decode cX4_send 51 = .ok (.ldc 125, 2) := by decide +kernel
theorem dX4_send_53 : decode cX4_send 53 = .ok (.invokespecial 107, 3) := by decide +kernel
theorem dX4_send_56 : decode cX4_send 56 = .ok (.athrow, 1) := by decide +kernel
theorem dX4_send_57 : decode cX4_send 57 = .ok (.aload_n 0, 1) := by decide +kernel
theorem dX4_send_58 : decode cX4_send 58 = .ok (.getfield 12, 3) := by decide +kernel
theorem dX4_send_61 : decode cX4_send 61 = .ok (.getfield 88, 3) := by decide +kernel
theorem dX4_send_64 : decode cX4_send 64 = .ok (.getfield 127, 3) := by decide +kernel
theorem dX4_send_67 : decode cX4_send 67 = .ok (.iload_n 1, 1) := by decide +kernel
theorem dX4_send_68 : decode cX4_send 68 = .ok (.iload_n 2, 1) := by decide +kernel
theorem dX4_send_69 : decode cX4_send 69 = .ok (.iastore, 1) := by decide +kernel
theorem dX4_send_70 : decode cX4_send 70 = .ok (.aload_n 0, 1) := by decide +kernel
theorem dX4_send_71 : decode cX4_send 71 = .ok (.getfield 12, 3) := by decide +kernel
theorem dX4_send_74 : decode cX4_send 74 = .ok (.getfield 88, 3) := by decide +kernel
theorem dX4_send_77 : decode cX4_send 77 = .ok (.getfield 122, 3) := by decide +kernel
theorem dX4_send_80 : decode cX4_send 80 = .ok (.iload_n 1, 1) := by decide +kernel
theorem dX4_send_81 : decode cX4_send 81 = .ok (.iconst 0, 1) := by decide +kernel
theorem dX4_send_82 : decode cX4_send 82 = .ok (.iastore, 1) := by decide +kernel
theorem dX4_send_83 : decode cX4_send 83 = .ok (.aload_n 0, 1) := by decide +kernel
theorem dX4_send_84 : decode cX4_send 84 = .ok (.getfield 12, 3) := by decide +kernel
theorem dX4_send_87 : decode cX4_send 87 = .ok (.getfield 88, 3) := by decide +kernel
theorem dX4_send_90 : decode cX4_send 90 = .ok (.getfield 130, 3) := by decide +kernel
theorem dX4_send_93 : decode cX4_send 93 = .ok (.iload_n 1, 1) := by decide +kernel
theorem dX4_send_94 : decode cX4_send 94 = .ok (.iaload, 1) := by decide +kernel
theorem dX4_send_95 : decode cX4_send 95 = .ok (.iload_n 2, 1) := by decide +kernel
theorem dX4_send_96 : decode cX4_send 96 = .ok (.isub, 1) := by decide +kernel
theorem dX4_send_97 : decode cX4_send 97 = .ok (.invokestatic 133, 3) := by decide +kernel
theorem dX4_send_100 : decode cX4_send 100 = .ok (.ireturn, 1) := by decide +kernel
set_option maxRecDepth 20000 in
theorem ggX4_load_X0_has : GoodIn wsX4_load wsX0_has := goodIn_r _ [11, 12, 13, 14, 15, 44, 45, 46, 47, 48, 49, 50, 51, 52, 53] (by decide +kernel) (by decide +kernel)
set_option maxRecDepth 20000 in
theorem gX4_load_X0_has_n117 : GoodIn wsX4_load (wsX0_has) := ggX4_load_X0_has
set_option maxRecDepth 20000 in
theorem ggX4_load_X4_isWithin : GoodIn wsX4_load wsX4_isWithin := goodIn_r _ [15] (by decide +kernel) (by decide +kernel)
set_option maxRecDepth 20000 in
theorem gX4_load_X4_isWithin : GoodIn wsX4_load (va_wsS RX4 26 yX4_isWithin wsX4_isWithin) := goodIn_app (goodIn_of _ (by decide +kernel)) ggX4_load_X4_isWithin
set_option maxRecDepth 20000 in
theorem ggX4_load_X2_holdsCourierWith : GoodIn wsX4_load wsX2_holdsCourierWith := goodIn_r _ [20, 21, 22, 23, 24, 25, 26, 27, 28, 29, 30, 31, 32, 33, 14, 34, 38, 39, 40, 41, 42, 43, 44, 45, 46, 47, 48, 49, 50, 51, 52, 53, 54, 55] (by decide +kernel) (by decide +kernel)
set_option maxRecDepth 20000 in
theorem gX4_load_X2_holdsCourierWith_n148 : GoodIn wsX4_load (wsX2_holdsCourierWith) := ggX4_load_X2_holdsCourierWith
theorem dX4_load_0 : decode cX4_load 0 = .ok (.aload_n 0, 1) := by decide +kernel
theorem dX4_load_1 : decode cX4_load 1 = .ok (.getfield 12, 3) := by decide +kernel
theorem dX4_load_4 : decode cX4_load 4 = .ok (.getfield 88, 3) := by decide +kernel
theorem dX4_load_7 : decode cX4_load 7 = .ok (.iload_n 1, 1) := by decide +kernel
theorem dX4_load_8 : decode cX4_load 8 = .ok (.invokevirtual 117, 3) := by decide +kernel
theorem dX4_load_11 : decode cX4_load 11 = .ok (.ifCond .ne 13, 3) := by decide +kernel
theorem dX4_load_14 : decode cX4_load 14 = .ok (.new 30, 3) := by decide +kernel
theorem dX4_load_17 : decode cX4_load 17 = .ok (.dup, 1) := by decide +kernel
theorem dX4_load_18 : decode cX4_load 18 = .ok (.ldc 139, 2) := by decide +kernel
theorem dX4_load_20 : decode cX4_load 20 = .ok (.invokespecial 34, 3) := by decide +kernel
theorem dX4_load_23 : decode cX4_load 23 = .ok (.athrow, 1) := by decide +kernel
theorem dX4_load_24 : decode cX4_load 24 = .ok (.iload_n 2, 1) := by decide +kernel
theorem dX4_load_25 : decode cX4_load 25 = .ok (.ifCond .eq 14, 3) := by decide +kernel
theorem dX4_load_28 : decode cX4_load 28 = .ok (.iload_n 2, 1) := by decide +kernel
theorem dX4_load_29 : decode cX4_load 29 = .ok (.bipush (-20), 2) := by decide +kernel
theorem dX4_load_31 : decode cX4_load 31 = .ok (.bipush 20, 2) := by decide +kernel
theorem dX4_load_33 : decode cX4_load 33 = .ok (.invokestatic 26, 3) := by decide +kernel
theorem dX4_load_36 : decode cX4_load 36 = .ok (.ifCond .ne 13, 3) := by decide +kernel
theorem dX4_load_39 : decode cX4_load 39 = .ok (.new 37, 3) := by decide +kernel
theorem dX4_load_42 : decode cX4_load 42 = .ok (.dup, 1) := by decide +kernel
theorem dX4_load_43 : decode cX4_load 43 = .ok (.ldc 141, 2) := by decide +kernel
theorem dX4_load_45 : decode cX4_load 45 = .ok (.invokespecial 41, 3) := by decide +kernel
theorem dX4_load_48 : decode cX4_load 48 = .ok (.athrow, 1) := by decide +kernel
theorem dX4_load_49 : decode cX4_load 49 = .ok (.aload_n 0, 1) := by decide +kernel
theorem dX4_load_50 : decode cX4_load 50 = .ok (.getfield 12, 3) := by decide +kernel
theorem dX4_load_53 : decode cX4_load 53 = .ok (.getfield 88, 3) := by decide +kernel
theorem dX4_load_56 : decode cX4_load 56 = .ok (.getfield 122, 3) := by decide +kernel
theorem dX4_load_59 : decode cX4_load 59 = .ok (.iload_n 1, 1) := by decide +kernel
theorem dX4_load_60 : decode cX4_load 60 = .ok (.iaload, 1) := by decide +kernel
theorem dX4_load_61 : decode cX4_load 61 = .ok (.iconst 3, 1) := by decide +kernel
theorem dX4_load_62 : decode cX4_load 62 = .ok (.if_icmp .ne 13, 3) := by decide +kernel
theorem dX4_load_65 : decode cX4_load 65 = .ok (.new 103, 3) := by decide +kernel
theorem dX4_load_68 : decode cX4_load 68 = .ok (.dup, 1) := by decide +kernel
theorem dX4_load_69 : decode cX4_load 69 = .ok (.ldc 125, 2) := by decide +kernel
theorem dX4_load_71 : decode cX4_load 71 = .ok (.invokespecial 107, 3) := by decide +kernel
theorem dX4_load_74 : decode cX4_load 74 = .ok (.athrow, 1) := by decide +kernel
theorem dX4_load_75 : decode cX4_load 75 = .ok (.aload_n 0, 1) := by decide +kernel
theorem dX4_load_76 : decode cX4_load 76 = .ok (.getfield 12, 3) := by decide +kernel
theorem dX4_load_79 : decode cX4_load 79 = .ok (.getfield 88, 3) := by decide +kernel
theorem dX4_load_82 : decode cX4_load 82 = .ok (.getfield 143, 3) := by decide +kernel
theorem dX4_load_85 : decode cX4_load 85 = .ok (.iload_n 1, 1) := by decide +kernel
theorem dX4_load_86 : decode cX4_load 86 = .ok (.iaload, 1) := by decide +kernel
theorem dX4_load_87 : decode cX4_load 87 = .ok (.iload_n 2, 1) := by decide +kernel
theorem dX4_load_88 : decode cX4_load 88 = .ok (.iadd, 1) := by decide +kernel
theorem dX4_load_89 : decode cX4_load 89 = .ok (.istore_n 3, 1) := by decide +kernel
theorem dX4_load_90 : decode cX4_load 90 = .ok (.iload_n 3, 1) := by decide +kernel
theorem dX4_load_91 : decode cX4_load 91 = .ok (.iconst 0, 1) := by decide +kernel
theorem dX4_load_92 : decode cX4_load 92 = .ok (.bipush 20, 2) := by decide +kernel
theorem dX4_load_94 : decode cX4_load 94 = .ok (.invokestatic 26, 3) := by decide +kernel
theorem dX4_load_97 : decode cX4_load 97 = .ok (.ifCond .ne 13, 3) := by decide +kernel
theorem dX4_load_100 : decode cX4_load 100 = .ok (.new 103, 3) := by decide +kernel
theorem dX4_load_103 : decode cX4_load 103 = .ok (.dup, 1) := by decide +kernel
theorem dX4_load_104 : decode cX4_load 104 = .ok (.ldc 146, 2) := by decide +kernel
theorem dX4_load_106 : decode cX4_load 106 = .ok (.invokespecial 107, 3) := by decide +kernel
theorem dX4_load_109 : decode cX4_load 109 = .ok (.athrow, 1) := by decide +kernel
theorem dX4_load_110 : decode cX4_load 110 = .ok (.aload_n 0, 1) := by decide +kernel
theorem dX4_load_111 : decode cX4_load 111 = .ok (.getfield 12, 3) := by decide +kernel
theorem dX4_load_114 : decode cX4_load 114 = .ok (.iload_n 1, 1) := by decide +kernel
theorem dX4_load_115 : decode cX4_load 115 = .ok (.iload_n 3, 1) := by decide +kernel
theorem dX4_load_116 : decode cX4_load 116 = .ok (.invokevirtual 148, 3) := by decide +kernel
theorem dX4_load_119 : decode cX4_load 119 = .ok (.ifCond .ne 13, 3) := by decide +kernel
theorem dX4_load_122 : decode cX4_load 122 = .ok (.new 103, 3) := by decide +kernel
theorem dX4_load_125 : decode cX4_load 125 = .ok (.dup, 1) := by decide +kernel
theorem dX4_load_126 : decode cX4_load 126 = .ok (.ldc 151, 2) := by decide +kernel
theorem dX4_load_128 : decode cX4_load 128 = .ok (.invokespecial 107, 3) := by decide +kernel
theorem dX4_load_131 : decode cX4_load 131 = .ok (.athrow, 1) := by decide +kernel
theorem dX4_load_132 : decode cX4_load 132 = .ok (.aload_n 0, 1) := by decide +kernel
theorem dX4_load_133 : decode cX4_load 133 = .ok (.getfield 12, 3) := by decide +kernel
theorem dX4_load_136 : decode cX4_load 136 = .ok (.getfield 88, 3) := by decide +kernel
theorem dX4_load_139 : decode cX4_load 139 = .ok (.getfield 143, 3) := by decide +kernel
theorem dX4_load_142 : decode cX4_load 142 = .ok (.iload_n 1, 1) := by decide +kernel
theorem dX4_load_143 : decode cX4_load 143 = .ok (.iload_n 3, 1) := by decide +kernel
theorem dX4_load_144 : decode cX4_load 144 = .ok (.iastore, 1) := by decide +kernel
theorem dX4_load_145 : decode cX4_load 145 = .ok (.iload_n 3, 1) := by decide +kernel
theorem dX4_load_146 : decode cX4_load 146 = .ok (.ireturn, 1) := by decide +kernel
set_option maxRecDepth 20000 in
theorem ggX4_courier_X0_has : GoodIn wsX4_courier wsX0_has := goodIn_r _ [7, 8, 9, 10, 11, 34, 35, 36, 37, 38, 39, 40, 41, 42, 43] (by decide +kernel) (by decide +kernel)
set_option maxRecDepth 20000 in
theorem gX4_courier_X0_has_n117 : GoodIn wsX4_courier (wsX0_has) := ggX4_courier_X0_has
set_option maxRecDepth 20000 in
theorem ggX4_courier_X4_isWithin : GoodIn wsX4_courier wsX4_isWithin := goodIn_r _ [11] (by decide +kernel) (by decide +kernel)
set_option maxRecDepth 20000 in
theorem gX4_courier_X4_isWithin : GoodIn wsX4_courier (va_wsS RX4 26 yX4_isWithin wsX4_isWithin) := goodIn_app (goodIn_of _ (by decide +kernel)) ggX4_courier_X4_isWithin
set_option maxRecDepth 20000 in
theorem ggX4_courier_X0_tell : GoodIn wsX4_courier wsX0_tell := goodIn_r _ [15, 16, 17, 18, 19, 20, 21, 22, 23, 24, 34, 35, 36, 37, 38, 39, 40, 41, 42, 43] (by decide +kernel) (by decide +kernel)
set_option maxRecDepth 20000 in
theorem gX4_courier_X0_tell_n155 : GoodIn wsX4_courier (wsX0_tell) := ggX4_courier_X0_tell
theorem dX4_courier_0 : decode cX4_courier 0 = .ok (.aload_n 0, 1) := by decide +kernel
theorem dX4_courier_1 : decode cX4_courier 1 = .ok (.getfield 12, 3) := by decide +kernel
theorem dX4_courier_4 : decode cX4_courier 4 = .ok (.getfield 88, 3) := by decide +kernel
theorem dX4_courier_7 : decode cX4_courier 7 = .ok (.iload_n 1, 1) := by decide +kernel
theorem dX4_courier_8 : decode cX4_courier 8 = .ok (.invokevirtual 117, 3) := by decide +kernel
theorem dX4_courier_11 : decode cX4_courier 11 = .ok (.ifCond .eq 13, 3) := by decide +kernel
theorem dX4_courier_14 : decode cX4_courier 14 = .ok (.iload_n 2, 1) := by decide +kernel
theorem dX4_courier_15 : decode cX4_courier 15 = .ok (.iconst 0, 1) := by decide +kernel
theorem dX4_courier_16 : decode cX4_courier 16 = .ok (.bipush 8, 2) := by decide +kernel
theorem dX4_courier_18 : decode cX4_courier 18 = .ok (.invokestatic 26, 3) := by decide +kernel
theorem dX4_courier_21 : decode cX4_courier 21 = .ok (.ifCond .ne 13, 3) := by decide +kernel
theorem dX4_courier_24 : decode cX4_courier 24 = .ok (.new 30, 3) := by decide +kernel
theorem dX4_courier_27 : decode cX4_courier 27 = .ok (.dup, 1) := by decide +kernel
theorem dX4_courier_28 : decode cX4_courier 28 = .ok (.ldc 153, 2) := by decide +kernel
theorem dX4_courier_30 : decode cX4_courier 30 = .ok (.invokespecial 34, 3) := by decide +kernel
theorem dX4_courier_33 : decode cX4_courier 33 = .ok (.athrow, 1) := by decide +kernel
theorem dX4_courier_34 : decode cX4_courier 34 = .ok (.aload_n 0, 1) := by decide +kernel
theorem dX4_courier_35 : decode cX4_courier 35 = .ok (.getfield 12, 3) := by decide +kernel
theorem dX4_courier_38 : decode cX4_courier 38 = .ok (.getfield 88, 3) := by decide +kernel
theorem dX4_courier_41 : decode cX4_courier 41 = .ok (.iload_n 1, 1) := by decide +kernel
theorem dX4_courier_42 : decode cX4_courier 42 = .ok (.iload_n 2, 1) := by decide +kernel
theorem dX4_courier_43 : decode cX4_courier 43 = .ok (.invokevirtual 155, 3) := by decide +kernel
theorem dX4_courier_46 : decode cX4_courier 46 = .ok (.ireturn, 1) := by decide +kernel
set_option maxRecDepth 20000 in
theorem ggX4_wager_X4_isWithin : GoodIn wsX4_wager wsX4_isWithin := goodIn_r _ [10] (by decide +kernel) (by decide +kernel)
set_option maxRecDepth 20000 in
theorem gX4_wager_X4_isWithin : GoodIn wsX4_wager (va_wsS RX4 26 yX4_isWithin wsX4_isWithin) := goodIn_app (goodIn_of _ (by decide +kernel)) ggX4_wager_X4_isWithin
set_option maxRecDepth 20000 in
theorem ggX4_wager_X2_hasThawed : GoodIn wsX4_wager wsX2_hasThawed := goodIn_r _ [14, 15, 29, 30, 31, 32, 33, 34] (by decide +kernel) (by decide +kernel)
set_option maxRecDepth 20000 in
theorem gX4_wager_X2_hasThawed_n163 : GoodIn wsX4_wager (wsX2_hasThawed) := ggX4_wager_X2_hasThawed
set_option maxRecDepth 20000 in
theorem ggX4_wager_X3_add : GoodIn wsX4_wager wsX3_add := goodIn_r _ [19, 20, 21, 22, 26, 27, 28] (by decide +kernel) (by decide +kernel)
set_option maxRecDepth 20000 in
theorem gX4_wager_X3_add_n169 : GoodIn wsX4_wager (wsX3_add) := ggX4_wager_X3_add
theorem dX4_wager_0 : decode cX4_wager 0 = .ok (.iload_n 1, 1) := by decide +kernel
theorem dX4_wager_1 : decode cX4_wager 1 = .ok (.iconst 0, 1) := by decide +kernel
theorem dX4_wager_2 : decode cX4_wager 2 = .ok (.sipush 500, 3) := by decide +kernel
theorem dX4_wager_5 : decode cX4_wager 5 = .ok (.invokestatic 26, 3) := by decide +kernel
theorem dX4_wager_8 : decode cX4_wager 8 = .ok (.ifCond .eq 13, 3) := by decide +kernel
theorem dX4_wager_11 : decode cX4_wager 11 = .ok (.iload_n 2, 1) := by decide +kernel
theorem dX4_wager_12 : decode cX4_wager 12 = .ok (.iconst 1, 1) := by decide +kernel
theorem dX4_wager_13 : decode cX4_wager 13 = .ok (.bipush 100, 2) := by decide +kernel
theorem dX4_wager_15 : decode cX4_wager 15 = .ok (.invokestatic 26, 3) := by decide +kernel
theorem dX4_wager_18 : decode cX4_wager 18 = .ok (.ifCond .ne 13, 3) := by decide +kernel
theorem dX4_wager_21 : decode cX4_wager 21 = .ok (.new 37, 3) := by decide +kernel
theorem dX4_wager_24 : decode cX4_wager 24 = .ok (.dup, 1) := by decide +kernel
theorem dX4_wager_25 : decode cX4_wager 25 = .ok (.ldc 158, 2) := by decide +kernel
theorem dX4_wager_27 : decode cX4_wager 27 = .ok (.invokespecial 41, 3) := by decide +kernel
theorem dX4_wager_30 : decode cX4_wager 30 = .ok (.athrow, 1) := by decide +kernel
theorem dX4_wager_31 : decode cX4_wager 31 = .ok (.aload_n 0, 1) := by decide +kernel
theorem dX4_wager_32 : decode cX4_wager 32 = .ok (.getfield 22, 3) := by decide +kernel
theorem dX4_wager_35 : decode cX4_wager 35 = .ok (.getfield 160, 3) := by decide +kernel
theorem dX4_wager_38 : decode cX4_wager 38 = .ok (.bipush 12, 2) := by decide +kernel
theorem dX4_wager_40 : decode cX4_wager 40 = .ok (.if_icmp .lt 13, 3) := by decide +kernel
theorem dX4_wager_43 : decode cX4_wager 43 = .ok (.new 103, 3) := by decide +kernel
theorem dX4_wager_46 : decode cX4_wager 46 = .ok (.dup, 1) := by decide +kernel
theorem dX4_wager_47 : decode cX4_wager 47 = .ok (.ldc 161, 2) := by decide +kernel
theorem dX4_wager_49 : decode cX4_wager 49 = .ok (.invokespecial 107, 3) := by decide +kernel
theorem dX4_wager_52 : decode cX4_wager 52 = .ok (.athrow, 1) := by decide +kernel
theorem dX4_wager_53 : decode cX4_wager 53 = .ok (.aload_n 0, 1) := by decide +kernel
theorem dX4_wager_54 : decode cX4_wager 54 = .ok (.getfield 12, 3) := by decide +kernel
theorem dX4_wager_57 : decode cX4_wager 57 = .ok (.invokevirtual 163, 3) := by decide +kernel
theorem dX4_wager_60 : decode cX4_wager 60 = .ok (.ifCond .eq 13, 3) := by decide +kernel
theorem dX4_wager_63 : decode cX4_wager 63 = .ok (.new 103, 3) := by decide +kernel
theorem dX4_wager_66 : decode cX4_wager 66 = .ok (.dup, 1) := by decide +kernel
theorem dX4_wager_67 : decode cX4_wager 67 = .ok (.ldc 167, 2) := by decide +kernel
theorem dX4_wager_69 : decode cX4_wager 69 = .ok (.invokespecial 107, 3) := by decide +kernel
theorem dX4_wager_72 : decode cX4_wager 72 = .ok (.athrow, 1) := by decide +kernel
theorem dX4_wager_73 : decode cX4_wager 73 = .ok (.aload_n 0, 1) := by decide +kernel
theorem dX4_wager_74 : decode cX4_wager 74 = .ok (.getfield 22, 3) := by decide +kernel
theorem dX4_wager_77 : decode cX4_wager 77 = .ok (.iload_n 1, 1) := by decide +kernel
theorem dX4_wager_78 : decode cX4_wager 78 = .ok (.iload_n 2, 1) := by decide +kernel
theorem dX4_wager_79 : decode cX4_wager 79 = .ok (.invokevirtual 169, 3) := by decide +kernel
theorem dX4_wager_82 : decode cX4_wager 82 = .ok (.ireturn, 1) := by decide +kernel
set_option maxRecDepth 20000 in
theorem ggX4_wins_X3_has : GoodIn wsX4_wins wsX3_has := goodIn_r _ [7, 8, 9, 10, 11, 42, 43, 44] (by decide +kernel) (by decide +kernel)
set_option maxRecDepth 20000 in
theorem gX4_wins_X3_has_n171 : GoodIn wsX4_wins (wsX3_has) := ggX4_wins_X3_has
set_option maxRecDepth 20000 in
theorem ggX4_wins_X4_winOf : GoodIn wsX4_wins wsX4_winOf := goodIn_r _ [15, 16, 3, 17, 18, 19, 20, 21, 22, 5, 23, 24, 8, 25, 26, 27, 28, 29, 30, 31, 32, 33, 34, 35, 36, 37, 38, 39, 40, 41, 45, 46, 47, 48, 49, 50, 42, 43, 44] (by decide +kernel) (by decide +kernel)
set_option maxRecDepth 20000 in
theorem gX4_wins_X4_winOf : GoodIn wsX4_wins (wsV RX4 174 RX4 yX4_winOf wsX4_winOf) := goodIn_app (goodIn_of _ (by decide +kernel)) ggX4_wins_X4_winOf
theorem dX4_wins_0 : decode cX4_wins 0 = .ok (.aload_n 0, 1) := by decide +kernel
theorem dX4_wins_1 : decode cX4_wins 1 = .ok (.getfield 22, 3) := by decide +kernel
theorem dX4_wins_4 : decode cX4_wins 4 = .ok (.iload_n 1, 1) := by decide +kernel
theorem dX4_wins_5 : decode cX4_wins 5 = .ok (.invokevirtual 171, 3) := by decide +kernel
theorem dX4_wins_8 : decode cX4_wins 8 = .ok (.ifCond .ne 13, 3) := by decide +kernel
theorem dX4_wins_11 : decode cX4_wins 11 = .ok (.new 30, 3) := by decide +kernel
theorem dX4_wins_14 : decode cX4_wins 14 = .ok (.dup, 1) := by decide +kernel
theorem dX4_wins_15 : decode cX4_wins 15 = .ok (.ldc 172, 2) := by decide +kernel
theorem dX4_wins_17 : decode cX4_wins 17 = .ok (.invokespecial 34, 3) := by decide +kernel
theorem dX4_wins_20 : decode cX4_wins 20 = .ok (.athrow, 1) := by decide +kernel
theorem dX4_wins_21 : decode cX4_wins 21 = .ok (.aload_n 0, 1) := by decide +kernel
theorem dX4_wins_22 : decode cX4_wins 22 = .ok (.iload_n 1, 1) := by decide +kernel
theorem dX4_wins_23 : decode cX4_wins 23 = .ok (.invokevirtual 174, 3) := by decide +kernel
theorem dX4_wins_26 : decode cX4_wins 26 = .ok (.ireturn, 1) := by decide +kernel
set_option maxRecDepth 20000 in
theorem ggX4_pass_X4_isWithin : GoodIn wsX4_pass wsX4_isWithin := goodIn_r _ [7] (by decide +kernel) (by decide +kernel)
set_option maxRecDepth 20000 in
theorem gX4_pass_X4_isWithin : GoodIn wsX4_pass (va_wsS RX4 26 yX4_isWithin wsX4_isWithin) := goodIn_app (goodIn_of _ (by decide +kernel)) ggX4_pass_X4_isWithin
set_option maxRecDepth 20000 in
theorem ggX4_pass_X2_spendHour : GoodIn wsX4_pass wsX2_spendHour := goodIn_r _ [11, 12, 13, 14, 15, 16, 17, 18, 19, 20, 21, 22, 23, 24, 25, 26, 27, 28, 29, 30, 31, 32, 33, 34, 35, 36, 9, 37, 38, 39, 40, 41, 6, 42, 43, 44, 45, 46, 47, 48, 49, 50, 51, 52, 53, 54, 55, 56, 57, 58, 59, 60, 61, 62, 63, 64, 65, 66, 67, 68, 69, 70, 71, 72, 73, 74, 75, 76, 77, 78, 79, 80, 81, 85, 86, 87, 88, 89, 90, 91, 92, 93, 94, 95, 96, 97, 98, 99, 100, 101, 102] (by decide +kernel) (by decide +kernel)
set_option maxRecDepth 20000 in
theorem gX4_pass_X2_spendHour_n179 : GoodIn wsX4_pass (wsX2_spendHour) := ggX4_pass_X2_spendHour
theorem dX4_pass_0 : decode cX4_pass 0 = .ok (.iload_n 1, 1) := by decide +kernel
theorem dX4_pass_1 : decode cX4_pass 1 = .ok (.iconst 1, 1) := by decide +kernel
theorem dX4_pass_2 : decode cX4_pass 2 = .ok (.sipush 200, 3) := by decide +kernel
theorem dX4_pass_5 : decode cX4_pass 5 = .ok (.invokestatic 26, 3) := by decide +kernel
theorem dX4_pass_8 : decode cX4_pass 8 = .ok (.ifCond .ne 13, 3) := by decide +kernel
theorem dX4_pass_11 : decode cX4_pass 11 = .ok (.new 37, 3) := by decide +kernel
theorem dX4_pass_14 : decode cX4_pass 14 = .ok (.dup, 1) := by decide +kernel
theorem dX4_pass_15 : decode cX4_pass 15 = .ok (.ldc 177, 2) := by decide +kernel
theorem dX4_pass_17 : decode cX4_pass 17 = .ok (.invokespecial 41, 3) := by decide +kernel
theorem dX4_pass_20 : decode cX4_pass 20 = .ok (.athrow, 1) := by decide +kernel
theorem dX4_pass_21 : decode cX4_pass 21 = .ok (.iconst 0, 1) := by decide +kernel
theorem dX4_pass_22 : decode cX4_pass 22 = .ok (.istore_n 2, 1) := by decide +kernel
theorem dX4_pass_23 : decode cX4_pass 23 = .ok (.iconst 0, 1) := by decide +kernel
theorem dX4_pass_24 : decode cX4_pass 24 = .ok (.istore_n 3, 1) := by decide +kernel
theorem dX4_pass_25 : decode cX4_pass 25 = .ok (.iload_n 3, 1) := by decide +kernel
theorem dX4_pass_26 : decode cX4_pass 26 = .ok (.iload_n 1, 1) := by decide +kernel
theorem dX4_pass_27 : decode cX4_pass 27 = .ok (.if_icmp .ge 19, 3) := by decide +kernel
theorem dX4_pass_30 : decode cX4_pass 30 = .ok (.iload_n 2, 1) := by decide +kernel
theorem dX4_pass_31 : decode cX4_pass 31 = .ok (.aload_n 0, 1) := by decide +kernel
theorem dX4_pass_32 : decode cX4_pass 32 = .ok (.getfield 12, 3) := by decide +kernel
theorem dX4_pass_35 : decode cX4_pass 35 = .ok (.invokevirtual 179, 3) := by decide +kernel
theorem dX4_pass_38 : decode cX4_pass 38 = .ok (.iadd, 1) := by decide +kernel
theorem dX4_pass_39 : decode cX4_pass 39 = .ok (.istore_n 2, 1) := by decide +kernel
theorem dX4_pass_40 : decode cX4_pass 40 = .ok (.iinc 3 1, 3) := by decide +kernel
theorem dX4_pass_43 : decode cX4_pass 43 = .ok (.goto (-18), 3) := by decide +kernel
theorem dX4_pass_46 : decode cX4_pass 46 = .ok (.iload_n 2, 1) := by decide +kernel
theorem dX4_pass_47 : decode cX4_pass 47 = .ok (.ireturn, 1) := by decide +kernel
set_option maxRecDepth 20000 in
theorem ggX4_count_X4_isWithin : GoodIn wsX4_count wsX4_isWithin := goodIn_r _ [6] (by decide +kernel) (by decide +kernel)
set_option maxRecDepth 20000 in
theorem gX4_count_X4_isWithin : GoodIn wsX4_count (va_wsS RX4 26 yX4_isWithin wsX4_isWithin) := goodIn_app (goodIn_of _ (by decide +kernel)) ggX4_count_X4_isWithin
set_option maxRecDepth 20000 in
theorem ggX4_count_X4_counted : GoodIn wsX4_count wsX4_counted := goodIn_r _ [10, 11, 12, 13, 14, 15, 16, 17, 18, 19, 20, 21, 22, 23, 24, 25, 26, 27, 28, 29, 30, 31, 32, 33, 34, 35, 36, 37, 38, 39, 40, 41, 42, 43, 44, 45, 46, 47, 48, 49, 50, 51, 52, 53, 54, 55, 56, 57, 58, 59, 60, 61, 62] (by decide +kernel) (by decide +kernel)
set_option maxRecDepth 20000 in
theorem gX4_count_X4_counted : GoodIn wsX4_count (wsV RX4 184 RX4 yX4_counted wsX4_counted) := goodIn_app (goodIn_of _ (by decide +kernel)) ggX4_count_X4_counted
theorem dX4_count_0 : decode cX4_count 0 = .ok (.iload_n 1, 1) := by decide +kernel
theorem dX4_count_1 : decode cX4_count 1 = .ok (.iconst 0, 1) := by decide +kernel
theorem dX4_count_2 : decode cX4_count 2 = .ok (.bipush 10, 2) := by decide +kernel
theorem dX4_count_4 : decode cX4_count 4 = .ok (.invokestatic 26, 3) := by decide +kernel
theorem dX4_count_7 : decode cX4_count 7 = .ok (.ifCond .ne 13, 3) := by decide +kernel
end
section
theorem dX4_count_10 : decode cX4_count 10 = .ok (.new 30, 3) := by decide +kernel
theorem dX4_count_13 : decode cX4_count 13 = .ok (.dup, 1) := by decide +kernel
theorem dX4_count_14 : decode cX4_count 14 = .ok (.ldc 182, 2) := by decide +kernel
theorem dX4_count_16 : decode cX4_count 16 = .ok (.invokespecial 34, 3) := by decide +kernel
theorem dX4_count_19 : decode cX4_count 19 = .ok (.athrow, 1) := by decide +kernel
theorem dX4_count_20 : decode cX4_count 20 = .ok (.aload_n 0, 1) := by decide +kernel
theorem dX4_count_21 : decode cX4_count 21 = .ok (.iload_n 1, 1) := by decide +kernel
theorem dX4_count_22 : decode cX4_count 22 = .ok (.invokevirtual 184, 3) := by decide +kernel
theorem dX4_count_25 : decode cX4_count 25 = .ok (.ireturn, 1) := by decide +kernel
set_option maxRecDepth 20000 in
theorem ggX4_bears_X4_isSection : GoodIn wsX4_bears wsX4_isSection := goodIn_r _ [14, 15, 16, 13, 17] (by decide +kernel) (by decide +kernel)
set_option maxRecDepth 20000 in
theorem gX4_bears_X4_isSection : GoodIn wsX4_bears (va_wsS RX4 67 yX4_isSection wsX4_isSection) := goodIn_app (goodIn_of _ (by decide +kernel)) ggX4_bears_X4_isSection
set_option maxRecDepth 20000 in
theorem ggX4_bears_X1_mostBorneBetween : GoodIn wsX4_bears wsX1_mostBorneBetween := goodIn_r _ [21, 22, 9, 6, 10, 23, 5, 7, 24, 25, 26, 19, 27, 28, 29, 30, 31, 32, 33, 34, 13, 35, 45, 46] (by decide +kernel) (by decide +kernel)
set_option maxRecDepth 20000 in
theorem gX4_bears_X1_mostBorneBetween_n193 : GoodIn wsX4_bears (wsX1_mostBorneBetween) := ggX4_bears_X1_mostBorneBetween
theorem dX4_bears_0 : decode cX4_bears 0 = .ok (.iload_n 1, 1) := by decide +kernel
theorem dX4_bears_1 : decode cX4_bears 1 = .ok (.invokestatic 67, 3) := by decide +kernel
theorem dX4_bears_4 : decode cX4_bears 4 = .ok (.ifCond .eq 10, 3) := by decide +kernel
theorem dX4_bears_7 : decode cX4_bears 7 = .ok (.iload_n 2, 1) := by decide +kernel
theorem dX4_bears_8 : decode cX4_bears 8 = .ok (.invokestatic 67, 3) := by decide +kernel
theorem dX4_bears_11 : decode cX4_bears 11 = .ok (.ifCond .ne 13, 3) := by decide +kernel
theorem dX4_bears_14 : decode cX4_bears 14 = .ok (.new 30, 3) := by decide +kernel
theorem dX4_bears_17 : decode cX4_bears 17 = .ok (.dup, 1) := by decide +kernel
theorem dX4_bears_18 : decode cX4_bears 18 = .ok (.ldc 71, 2) := by decide +kernel
theorem dX4_bears_20 : decode cX4_bears 20 = .ok (.invokespecial 34, 3) := by decide +kernel
theorem dX4_bears_23 : decode cX4_bears 23 = .ok (.athrow, 1) := by decide +kernel
theorem dX4_bears_24 : decode cX4_bears 24 = .ok (.aload_n 0, 1) := by decide +kernel
theorem dX4_bears_25 : decode cX4_bears 25 = .ok (.getfield 12, 3) := by decide +kernel
theorem dX4_bears_28 : decode cX4_bears 28 = .ok (.getfield 58, 3) := by decide +kernel
theorem dX4_bears_31 : decode cX4_bears 31 = .ok (.iload_n 1, 1) := by decide +kernel
theorem dX4_bears_32 : decode cX4_bears 32 = .ok (.iload_n 2, 1) := by decide +kernel
theorem dX4_bears_33 : decode cX4_bears 33 = .ok (.invokestatic 187, 3) := by decide +kernel
theorem dX4_bears_36 : decode cX4_bears 36 = .ok (.iload_n 1, 1) := by decide +kernel
theorem dX4_bears_37 : decode cX4_bears 37 = .ok (.iload_n 2, 1) := by decide +kernel
theorem dX4_bears_38 : decode cX4_bears 38 = .ok (.invokestatic 190, 3) := by decide +kernel
theorem dX4_bears_41 : decode cX4_bears 41 = .ok (.invokevirtual 193, 3) := by decide +kernel
theorem dX4_bears_44 : decode cX4_bears 44 = .ok (.ireturn, 1) := by decide +kernel
set_option maxRecDepth 20000 in
theorem ggX4_arrives_X0_has : GoodIn wsX4_arrives wsX0_has := goodIn_r _ [8, 9, 10, 11, 12, 119, 120, 121, 122, 123, 124, 125, 126, 127, 128] (by decide +kernel) (by decide +kernel)
set_option maxRecDepth 20000 in
theorem gX4_arrives_X0_has_n117 : GoodIn wsX4_arrives (wsX0_has) := ggX4_arrives_X0_has
set_option maxRecDepth 20000 in
theorem ggX4_arrives_X2_become : GoodIn wsX4_arrives wsX2_become := goodIn_r _ [16, 17, 18, 19, 20, 21, 22, 23, 24, 25, 26, 27, 28, 29, 30, 31, 32, 33, 34, 6, 35, 36, 9, 37, 38, 39, 40, 41, 42, 43, 44, 45, 46, 113, 114, 115, 116, 117, 118, 129, 130, 119, 120, 121, 122, 123, 124, 125, 126, 127, 128] (by decide +kernel) (by decide +kernel)
set_option maxRecDepth 20000 in
theorem gX4_arrives_X2_become_n196 : GoodIn wsX4_arrives (wsX2_become) := ggX4_arrives_X2_become
set_option maxRecDepth 20000 in
theorem ggX4_arrives_X2_hoursTillArrival : GoodIn wsX4_arrives wsX2_hoursTillArrival := goodIn_r _ [49, 26, 50, 6, 51, 52, 41, 43, 53, 54, 55, 14, 56, 17, 25, 19, 18, 57, 58, 59, 60, 61, 28, 62, 63, 31, 64, 65, 66, 67, 68, 69, 70, 33, 71, 72, 73, 74, 75, 76, 77, 78, 11, 79, 80, 81, 82, 83, 84, 85, 86, 87, 88, 89, 90, 37, 39, 91, 92, 93, 94, 95, 96, 97, 98, 99, 100, 101, 102, 103, 104, 105, 106, 107, 108, 24, 109, 113, 114, 115, 116, 117, 118, 119, 120, 121, 122, 123, 124, 125, 126, 127, 128, 129, 130] (by decide +kernel) (by decide +kernel)
set_option maxRecDepth 20000 in
theorem gX4_arrives_X2_hoursTillArrival_n200 : GoodIn wsX4_arrives (wsX2_hoursTillArrival) := ggX4_arrives_X2_hoursTillArrival
theorem dX4_arrives_0 : decode cX4_arrives 0 = .ok (.aload_n 0, 1) := by decide +kernel
theorem dX4_arrives_1 : decode cX4_arrives 1 = .ok (.getfield 12, 3) := by decide +kernel
theorem dX4_arrives_4 : decode cX4_arrives 4 = .ok (.getfield 88, 3) := by decide +kernel
theorem dX4_arrives_7 : decode cX4_arrives 7 = .ok (.iload_n 1, 1) := by decide +kernel
theorem dX4_arrives_8 : decode cX4_arrives 8 = .ok (.invokevirtual 117, 3) := by decide +kernel
theorem dX4_arrives_11 : decode cX4_arrives 11 = .ok (.ifCond .ne 13, 3) := by decide +kernel
theorem dX4_arrives_14 : decode cX4_arrives 14 = .ok (.new 30, 3) := by decide +kernel
theorem dX4_arrives_17 : decode cX4_arrives 17 = .ok (.dup, 1) := by decide +kernel
theorem dX4_arrives_18 : decode cX4_arrives 18 = .ok (.ldc 139, 2) := by decide +kernel
theorem dX4_arrives_20 : decode cX4_arrives 20 = .ok (.invokespecial 34, 3) := by decide +kernel
theorem dX4_arrives_23 : decode cX4_arrives 23 = .ok (.athrow, 1) := by decide +kernel
theorem dX4_arrives_24 : decode cX4_arrives 24 = .ok (.aload_n 0, 1) := by decide +kernel
theorem dX4_arrives_25 : decode cX4_arrives 25 = .ok (.getfield 16, 3) := by decide +kernel
theorem dX4_arrives_28 : decode cX4_arrives 28 = .ok (.aload_n 0, 1) := by decide +kernel
theorem dX4_arrives_29 : decode cX4_arrives 29 = .ok (.getfield 12, 3) := by decide +kernel
theorem dX4_arrives_32 : decode cX4_arrives 32 = .ok (.invokevirtual 196, 3) := by decide +kernel
theorem dX4_arrives_35 : decode cX4_arrives 35 = .ok (.aload_n 0, 1) := by decide +kernel
theorem dX4_arrives_36 : decode cX4_arrives 36 = .ok (.getfield 16, 3) := by decide +kernel
theorem dX4_arrives_39 : decode cX4_arrives 39 = .ok (.iload_n 1, 1) := by decide +kernel
theorem dX4_arrives_40 : decode cX4_arrives 40 = .ok (.invokevirtual 200, 3) := by decide +kernel
theorem dX4_arrives_43 : decode cX4_arrives 43 = .ok (.ireturn, 1) := by decide +kernel
set_option maxRecDepth 20000 in
theorem ggX4_best_X0_has : GoodIn wsX4_best wsX0_has := goodIn_r _ [8, 9, 10, 11, 12, 119, 120, 121, 122, 123, 124, 125, 126, 127, 128] (by decide +kernel) (by decide +kernel)
set_option maxRecDepth 20000 in
theorem gX4_best_X0_has_n117 : GoodIn wsX4_best (wsX0_has) := ggX4_best_X0_has
set_option maxRecDepth 20000 in
theorem ggX4_best_X2_become : GoodIn wsX4_best wsX2_become := goodIn_r _ [16, 17, 18, 19, 20, 21, 22, 23, 24, 25, 26, 27, 28, 29, 30, 31, 32, 33, 34, 6, 35, 36, 9, 37, 38, 39, 40, 41, 42, 43, 44, 45, 46, 113, 114, 115, 116, 117, 118, 129, 130, 119, 120, 121, 122, 123, 124, 125, 126, 127, 128] (by decide +kernel) (by decide +kernel)
set_option maxRecDepth 20000 in
theorem gX4_best_X2_become_n196 : GoodIn wsX4_best (wsX2_become) := ggX4_best_X2_become
set_option maxRecDepth 20000 in
theorem ggX4_best_X2_hoursTillArrival : GoodIn wsX4_best wsX2_hoursTillArrival := goodIn_r _ [49, 26, 50, 6, 51, 52, 41, 43, 53, 54, 55, 14, 56, 17, 25, 19, 18, 57, 58, 59, 60, 61, 28, 62, 63, 31, 64, 65, 66, 67, 68, 69, 70, 33, 71, 72, 73, 74, 75, 76, 77, 78, 11, 79, 80, 81, 82, 83, 84, 85, 86, 87, 88, 89, 90, 37, 39, 91, 92, 93, 94, 95, 96, 97, 98, 99, 100, 101, 102, 103, 104, 105, 106, 107, 108, 24, 109, 113, 114, 115, 116, 117, 118, 119, 120, 121, 122, 123, 124, 125, 126, 127, 128, 129, 130] (by decide +kernel) (by decide +kernel)
set_option maxRecDepth 20000 in
theorem gX4_best_X2_hoursTillArrival_n200 : GoodIn wsX4_best (wsX2_hoursTillArrival) := ggX4_best_X2_hoursTillArrival
theorem dX4_best_0 : decode cX4_best 0 = .ok (.aload_n 0, 1) := by decide +kernel
theorem dX4_best_1 : decode cX4_best 1 = .ok (.getfield 12, 3) := by decide +kernel
theorem dX4_best_4 : decode cX4_best 4 = .ok (.getfield 88, 3) := by decide +kernel
theorem dX4_best_7 : decode cX4_best 7 = .ok (.iload_n 1, 1) := by decide +kernel
theorem dX4_best_8 : decode cX4_best 8 = .ok (.invokevirtual 117, 3) := by decide +kernel
theorem dX4_best_11 : decode cX4_best 11 = .ok (.ifCond .ne 13, 3) := by decide +kernel
theorem dX4_best_14 : decode cX4_best 14 = .ok (.new 30, 3) := by decide +kernel
theorem dX4_best_17 : decode cX4_best 17 = .ok (.dup, 1) := by decide +kernel
theorem dX4_best_18 : decode cX4_best 18 = .ok (.ldc 139, 2) := by decide +kernel
theorem dX4_best_20 : decode cX4_best 20 = .ok (.invokespecial 34, 3) := by decide +kernel
theorem dX4_best_23 : decode cX4_best 23 = .ok (.athrow, 1) := by decide +kernel
theorem dX4_best_24 : decode cX4_best 24 = .ok (.bipush 20, 2) := by decide +kernel
theorem dX4_best_26 : decode cX4_best 26 = .ok (.istore_n 2, 1) := by decide +kernel
theorem dX4_best_27 : decode cX4_best 27 = .ok (.iload_n 2, 1) := by decide +kernel
theorem dX4_best_28 : decode cX4_best 28 = .ok (.ifCond .lt 47, 3) := by decide +kernel
theorem dX4_best_31 : decode cX4_best 31 = .ok (.aload_n 0, 1) := by decide +kernel
theorem dX4_best_32 : decode cX4_best 32 = .ok (.getfield 16, 3) := by decide +kernel
theorem dX4_best_35 : decode cX4_best 35 = .ok (.aload_n 0, 1) := by decide +kernel
theorem dX4_best_36 : decode cX4_best 36 = .ok (.getfield 12, 3) := by decide +kernel
theorem dX4_best_39 : decode cX4_best 39 = .ok (.invokevirtual 196, 3) := by decide +kernel
theorem dX4_best_42 : decode cX4_best 42 = .ok (.aload_n 0, 1) := by decide +kernel
theorem dX4_best_43 : decode cX4_best 43 = .ok (.getfield 16, 3) := by decide +kernel
theorem dX4_best_46 : decode cX4_best 46 = .ok (.getfield 88, 3) := by decide +kernel
theorem dX4_best_49 : decode cX4_best 49 = .ok (.getfield 143, 3) := by decide +kernel
theorem dX4_best_52 : decode cX4_best 52 = .ok (.iload_n 1, 1) := by decide +kernel
theorem dX4_best_53 : decode cX4_best 53 = .ok (.iload_n 2, 1) := by decide +kernel
theorem dX4_best_54 : decode cX4_best 54 = .ok (.iastore, 1) := by decide +kernel
theorem dX4_best_55 : decode cX4_best 55 = .ok (.aload_n 0, 1) := by decide +kernel
theorem dX4_best_56 : decode cX4_best 56 = .ok (.getfield 16, 3) := by decide +kernel
theorem dX4_best_59 : decode cX4_best 59 = .ok (.iload_n 1, 1) := by decide +kernel
theorem dX4_best_60 : decode cX4_best 60 = .ok (.invokevirtual 200, 3) := by decide +kernel
theorem dX4_best_63 : decode cX4_best 63 = .ok (.iconst (-1), 1) := by decide +kernel
theorem dX4_best_64 : decode cX4_best 64 = .ok (.if_icmp .eq 5, 3) := by decide +kernel
theorem dX4_best_67 : decode cX4_best 67 = .ok (.iload_n 2, 1) := by decide +kernel
theorem dX4_best_68 : decode cX4_best 68 = .ok (.ireturn, 1) := by decide +kernel
theorem dX4_best_69 : decode cX4_best 69 = .ok (.iinc 2 (-1), 3) := by decide +kernel
theorem dX4_best_72 : decode cX4_best 72 = .ok (.goto (-45), 3) := by decide +kernel
theorem dX4_best_75 : decode cX4_best 75 = .ok (.iconst (-1), 1) := by decide +kernel
theorem dX4_best_76 : decode cX4_best 76 = .ok (.ireturn, 1) := by decide +kernel
set_option maxRecDepth 20000 in
theorem ggX4_thaw_X2_hasThawed : GoodIn wsX4_thaw wsX2_hasThawed := goodIn_r _ [6, 7, 106, 107, 108, 109, 110, 111] (by decide +kernel) (by decide +kernel)
set_option maxRecDepth 20000 in
theorem gX4_thaw_X2_hasThawed_n163 : GoodIn wsX4_thaw (wsX2_hasThawed) := ggX4_thaw_X2_hasThawed
set_option maxRecDepth 20000 in
theorem ggX4_thaw_X2_become : GoodIn wsX4_thaw wsX2_become := goodIn_r _ [10, 11, 7, 12, 13, 14, 15, 16, 17, 18, 19, 20, 21, 22, 23, 24, 25, 26, 27, 28, 29, 30, 31, 32, 33, 34, 35, 36, 37, 38, 39, 40, 41, 106, 107, 108, 109, 110, 111, 112, 113, 114, 115, 116, 117, 118, 119, 120, 121, 122, 123] (by decide +kernel) (by decide +kernel)
set_option maxRecDepth 20000 in
theorem gX4_thaw_X2_become_n196 : GoodIn wsX4_thaw (wsX2_become) := ggX4_thaw_X2_become
set_option maxRecDepth 20000 in
theorem ggX4_thaw_X2_dayOfThaw : GoodIn wsX4_thaw wsX2_dayOfThaw := goodIn_r _ [44, 7, 45, 3, 5, 4, 6, 46, 47, 48, 49, 11, 18, 12, 19, 50, 51, 52, 53, 54, 21, 55, 56, 24, 57, 58, 59, 60, 61, 62, 63, 26, 64, 65, 66, 67, 68, 69, 70, 71, 72, 73, 74, 75, 76, 77, 78, 28, 79, 80, 32, 34, 81, 82, 83, 36, 38, 84, 85, 86, 87, 88, 89, 90, 91, 92, 93, 94, 95, 96, 97, 98, 99, 100, 101, 17, 102, 106, 107, 108, 109, 110, 111, 114, 115, 116, 117, 118, 119, 120, 121, 122, 123, 112, 113] (by decide +kernel) (by decide +kernel)
set_option maxRecDepth 20000 in
theorem gX4_thaw_X2_dayOfThaw_n206 : GoodIn wsX4_thaw (wsX2_dayOfThaw) := ggX4_thaw_X2_dayOfThaw
theorem dX4_thaw_0 : decode cX4_thaw 0 = .ok (.aload_n 0, 1) := by decide +kernel
theorem dX4_thaw_1 : decode cX4_thaw 1 = .ok (.getfield 12, 3) := by decide +kernel
theorem dX4_thaw_4 : decode cX4_thaw 4 = .ok (.invokevirtual 163, 3) := by decide +kernel
theorem dX4_thaw_7 : decode cX4_thaw 7 = .ok (.ifCond .eq 11, 3) := by decide +kernel
theorem dX4_thaw_10 : decode cX4_thaw 10 = .ok (.aload_n 0, 1) := by decide +kernel
theorem dX4_thaw_11 : decode cX4_thaw 11 = .ok (.getfield 12, 3) := by decide +kernel
theorem dX4_thaw_14 : decode cX4_thaw 14 = .ok (.getfield 203, 3) := by decide +kernel
theorem dX4_thaw_17 : decode cX4_thaw 17 = .ok (.ireturn, 1) := by decide +kernel
theorem dX4_thaw_18 : decode cX4_thaw 18 = .ok (.aload_n 0, 1) := by decide +kernel
theorem dX4_thaw_19 : decode cX4_thaw 19 = .ok (.getfield 16, 3) := by decide +kernel
theorem dX4_thaw_22 : decode cX4_thaw 22 = .ok (.aload_n 0, 1) := by decide +kernel
theorem dX4_thaw_23 : decode cX4_thaw 23 = .ok (.getfield 12, 3) := by decide +kernel
theorem dX4_thaw_26 : decode cX4_thaw 26 = .ok (.invokevirtual 196, 3) := by decide +kernel
theorem dX4_thaw_29 : decode cX4_thaw 29 = .ok (.aload_n 0, 1) := by decide +kernel
theorem dX4_thaw_30 : decode cX4_thaw 30 = .ok (.getfield 16, 3) := by decide +kernel
theorem dX4_thaw_33 : decode cX4_thaw 33 = .ok (.invokevirtual 206, 3) := by decide +kernel
theorem dX4_thaw_36 : decode cX4_thaw 36 = .ok (.ireturn, 1) := by decide +kernel
set_option maxRecDepth 20000 in
theorem ggX4_mean_X1_inAll : GoodIn wsX4_mean wsX1_inAll := goodIn_r _ [6, 7, 17, 18] (by decide +kernel) (by decide +kernel)
set_option maxRecDepth 20000 in
theorem gX4_mean_X1_inAll_n209 : GoodIn wsX4_mean (wsX1_inAll) := ggX4_mean_X1_inAll
theorem dX4_mean_0 : decode cX4_mean 0 = .ok (.aload_n 0, 1) := by decide +kernel
theorem dX4_mean_1 : decode cX4_mean 1 = .ok (.getfield 12, 3) := by decide +kernel
theorem dX4_mean_4 : decode cX4_mean 4 = .ok (.getfield 58, 3) := by decide +kernel
theorem dX4_mean_7 : decode cX4_mean 7 = .ok (.invokevirtual 209, 3) := by decide +kernel
theorem dX4_mean_10 : decode cX4_mean 10 = .ok (.i2d, 1) := by decide +kernel
theorem dX4_mean_11 : decode cX4_mean 11 = .ok (.ldc2_w 212, 3) := by decide +kernel
theorem dX4_mean_14 : decode cX4_mean 14 = .ok (.ddiv, 1) := by decide +kernel
theorem dX4_mean_15 : decode cX4_mean 15 = .ok (.dreturn, 1) := by decide +kernel
set_option maxRecDepth 20000 in
theorem ggX4_digest_X4_counted : GoodIn wsX4_digest wsX4_counted := goodIn_r _ [6, 7, 8, 9, 10, 11, 12, 13, 14, 15, 16, 17, 18, 19, 20, 21, 22, 23, 24, 25, 26, 27, 28, 29, 30, 31, 32, 33, 34, 83, 84, 85, 86, 87, 88, 89, 90, 91, 92, 93, 94, 95, 96, 97, 98, 99, 100, 101, 102, 103, 104, 105, 106] (by decide +kernel) (by decide +kernel)
set_option maxRecDepth 20000 in
theorem gX4_digest_X4_counted : GoodIn wsX4_digest (wsV RX4 184 RX4 yX4_counted wsX4_counted) := goodIn_app (goodIn_of _ (by decide +kernel)) ggX4_digest_X4_counted
set_option maxRecDepth 20000 in
theorem ggX4_digest_X4_mixed : GoodIn wsX4_digest wsX4_mixed := goodIn_r _ [37, 38] (by decide +kernel) (by decide +kernel)
set_option maxRecDepth 20000 in
theorem gX4_digest_X4_mixed : GoodIn wsX4_digest (va_wsS RX4 216 yX4_mixed wsX4_mixed) := goodIn_app (goodIn_of _ (by decide +kernel)) ggX4_digest_X4_mixed
set_option maxRecDepth 20000 in
theorem ggX4_digest_X4_mixedWithRiver : GoodIn wsX4_digest wsX4_mixedWithRiver := goodIn_r _ [42, 7, 35, 36, 5, 37, 38, 83, 84, 85, 86, 87, 88, 89, 90, 91, 105, 106] (by decide +kernel) (by decide +kernel)
set_option maxRecDepth 20000 in
theorem gX4_digest_X4_mixedWithRiver : GoodIn wsX4_digest (wsV RX4 220 RX4 yX4_mixedWithRiver wsX4_mixedWithRiver) := goodIn_app (goodIn_of _ (by decide +kernel)) ggX4_digest_X4_mixedWithRiver
set_option maxRecDepth 20000 in
theorem ggX4_digest_X4_mixedWithCouriers : GoodIn wsX4_digest wsX4_mixedWithCouriers := goodIn_r _ [46, 7, 47, 10, 48, 49, 50, 51, 52, 53, 54, 55, 14, 56, 57, 35, 36, 5, 37, 38, 83, 84, 85, 86, 87, 88, 89, 90, 91, 92, 93, 94, 95, 96, 97, 98, 99, 100, 101] (by decide +kernel) (by decide +kernel)
set_option maxRecDepth 20000 in
theorem gX4_digest_X4_mixedWithCouriers : GoodIn wsX4_digest (wsV RX4 224 RX4 yX4_mixedWithCouriers wsX4_mixedWithCouriers) := goodIn_app (goodIn_of _ (by decide +kernel)) ggX4_digest_X4_mixedWithCouriers
set_option maxRecDepth 20000 in
theorem ggX4_digest_X4_mixedWithWagers : GoodIn wsX4_digest wsX4_mixedWithWagers := goodIn_r _ [61, 8, 35, 36, 5, 37, 38, 62, 63, 64, 65, 7, 66, 25, 67, 68, 69, 70, 30, 71, 72, 33, 73, 74, 75, 76, 77, 78, 79, 80, 81, 82, 29, 31, 32, 34, 83, 84, 85, 102, 103, 104, 86, 87, 88, 89, 90, 91] (by decide +kernel) (by decide +kernel)
set_option maxRecDepth 20000 in
theorem gX4_digest_X4_mixedWithWagers : GoodIn wsX4_digest (wsV RX4 227 RX4 yX4_mixedWithWagers wsX4_mixedWithWagers) := goodIn_app (goodIn_of _ (by decide +kernel)) ggX4_digest_X4_mixedWithWagers
theorem dX4_digest_0 : decode cX4_digest 0 = .ok (.ldc2_w 214, 3) := by decide +kernel
theorem dX4_digest_3 : decode cX4_digest 3 = .ok (.lstore_n 1, 1) := by decide +kernel
theorem dX4_digest_4 : decode cX4_digest 4 = .ok (.iconst 0, 1) := by decide +kernel
theorem dX4_digest_5 : decode cX4_digest 5 = .ok (.istore_n 3, 1) := by decide +kernel
theorem dX4_digest_6 : decode cX4_digest 6 = .ok (.iload_n 3, 1) := by decide +kernel
theorem dX4_digest_7 : decode cX4_digest 7 = .ok (.bipush 10, 2) := by decide +kernel
theorem dX4_digest_9 : decode cX4_digest 9 = .ok (.if_icmp .gt 19, 3) := by decide +kernel
theorem dX4_digest_12 : decode cX4_digest 12 = .ok (.lload_n 1, 1) := by decide +kernel
theorem dX4_digest_13 : decode cX4_digest 13 = .ok (.aload_n 0, 1) := by decide +kernel
theorem dX4_digest_14 : decode cX4_digest 14 = .ok (.iload_n 3, 1) := by decide +kernel
theorem dX4_digest_15 : decode cX4_digest 15 = .ok (.invokevirtual 184, 3) := by decide +kernel
theorem dX4_digest_18 : decode cX4_digest 18 = .ok (.invokestatic 216, 3) := by decide +kernel
theorem dX4_digest_21 : decode cX4_digest 21 = .ok (.lstore_n 1, 1) := by decide +kernel
theorem dX4_digest_22 : decode cX4_digest 22 = .ok (.iinc 3 1, 3) := by decide +kernel
theorem dX4_digest_25 : decode cX4_digest 25 = .ok (.goto (-19), 3) := by decide +kernel
theorem dX4_digest_28 : decode cX4_digest 28 = .ok (.aload_n 0, 1) := by decide +kernel
theorem dX4_digest_29 : decode cX4_digest 29 = .ok (.lload_n 1, 1) := by decide +kernel
theorem dX4_digest_30 : decode cX4_digest 30 = .ok (.invokevirtual 220, 3) := by decide +kernel
theorem dX4_digest_33 : decode cX4_digest 33 = .ok (.lstore_n 1, 1) := by decide +kernel
theorem dX4_digest_34 : decode cX4_digest 34 = .ok (.aload_n 0, 1) := by decide +kernel
theorem dX4_digest_35 : decode cX4_digest 35 = .ok (.lload_n 1, 1) := by decide +kernel
theorem dX4_digest_36 : decode cX4_digest 36 = .ok (.invokevirtual 224, 3) := by decide +kernel
theorem dX4_digest_39 : decode cX4_digest 39 = .ok (.lstore_n 1, 1) := by decide +kernel
theorem dX4_digest_40 : decode cX4_digest 40 = .ok (.aload_n 0, 1) := by decide +kernel
theorem dX4_digest_41 : decode cX4_digest 41 = .ok (.lload_n 1, 1) := by decide +kernel
theorem dX4_digest_42 : decode cX4_digest 42 = .ok (.invokevirtual 227, 3) := by decide +kernel
theorem dX4_digest_45 : decode cX4_digest 45 = .ok (.lreturn, 1) := by decide +kernel
set_option maxRecDepth 20000 in
theorem ggX4_counted_X0_numberWhose : GoodIn wsX4_counted wsX0_numberWhose := goodIn_r _ [6, 7, 8, 38, 39, 40, 41, 42, 43, 44, 45, 46, 47] (by decide +kernel) (by decide +kernel)
set_option maxRecDepth 20000 in
theorem gX4_counted_X0_numberWhose_n233 : GoodIn wsX4_counted (wsX0_numberWhose) := ggX4_counted_X0_numberWhose
set_option maxRecDepth 20000 in
theorem ggX4_counted_X1_cracksInAll : GoodIn wsX4_counted wsX1_cracksInAll := goodIn_r _ [12, 13, 51, 52] (by decide +kernel) (by decide +kernel)
set_option maxRecDepth 20000 in
theorem gX4_counted_X1_cracksInAll_n236 : GoodIn wsX4_counted (wsX1_cracksInAll) := ggX4_counted_X1_cracksInAll
set_option maxRecDepth 20000 in
theorem ggX4_counted_X1_placesOfOpenWater : GoodIn wsX4_counted wsX1_placesOfOpenWater := goodIn_r _ [16, 17, 51, 52] (by decide +kernel) (by decide +kernel)
set_option maxRecDepth 20000 in
theorem gX4_counted_X1_placesOfOpenWater_n239 : GoodIn wsX4_counted (wsX1_placesOfOpenWater) := ggX4_counted_X1_placesOfOpenWater
set_option maxRecDepth 20000 in
theorem ggX4_counted_X2_huts : GoodIn wsX4_counted wsX2_huts := goodIn_r _ [21, 22, 32, 33, 34, 35, 36, 37] (by decide +kernel) (by decide +kernel)
set_option maxRecDepth 20000 in
theorem gX4_counted_X2_huts_n76 : GoodIn wsX4_counted (wsX2_huts) := ggX4_counted_X2_huts
set_option maxRecDepth 20000 in
theorem ggX4_counted_X3_allStakes : GoodIn wsX4_counted wsX3_allStakes := goodIn_r _ [26, 27, 28, 48, 49, 50] (by decide +kernel) (by decide +kernel)
set_option maxRecDepth 20000 in
theorem gX4_counted_X3_allStakes_n242 : GoodIn wsX4_counted (wsX3_allStakes) := ggX4_counted_X3_allStakes
theorem dX4_counted_0 : decode cX4_counted 0 = .ok (.iload_n 1, 1) := by decide +kernel
theorem dX4_counted_1 : decode cX4_counted 1 = .ok (.tableswitch 156 0 9 #[55, 63, 74, 86, 98, 110, 121, 132, 140, 148], 55) := by decide +kernel
theorem dX4_counted_56 : decode cX4_counted 56 = .ok (.aload_n 0, 1) := by decide +kernel
theorem dX4_counted_57 : decode cX4_counted 57 = .ok (.getfield 12, 3) := by decide +kernel
theorem dX4_counted_60 : decode cX4_counted 60 = .ok (.getfield 230, 3) := by decide +kernel
theorem dX4_counted_63 : decode cX4_counted 63 = .ok (.ireturn, 1) := by decide +kernel
theorem dX4_counted_64 : decode cX4_counted 64 = .ok (.aload_n 0, 1) := by decide +kernel
theorem dX4_counted_65 : decode cX4_counted 65 = .ok (.getfield 12, 3) := by decide +kernel
theorem dX4_counted_68 : decode cX4_counted 68 = .ok (.getfield 88, 3) := by decide +kernel
theorem dX4_counted_71 : decode cX4_counted 71 = .ok (.getfield 99, 3) := by decide +kernel
theorem dX4_counted_74 : decode cX4_counted 74 = .ok (.ireturn, 1) := by decide +kernel
theorem dX4_counted_75 : decode cX4_counted 75 = .ok (.aload_n 0, 1) := by decide +kernel
theorem dX4_counted_76 : decode cX4_counted 76 = .ok (.getfield 12, 3) := by decide +kernel
theorem dX4_counted_79 : decode cX4_counted 79 = .ok (.getfield 88, 3) := by decide +kernel
theorem dX4_counted_82 : decode cX4_counted 82 = .ok (.iconst 1, 1) := by decide +kernel
theorem dX4_counted_83 : decode cX4_counted 83 = .ok (.invokevirtual 233, 3) := by decide +kernel
theorem dX4_counted_86 : decode cX4_counted 86 = .ok (.ireturn, 1) := by decide +kernel
theorem dX4_counted_87 : decode cX4_counted 87 = .ok (.aload_n 0, 1) := by decide +kernel
theorem dX4_counted_88 : decode cX4_counted 88 = .ok (.getfield 12, 3) := by decide +kernel
theorem dX4_counted_91 : decode cX4_counted 91 = .ok (.getfield 88, 3) := by decide +kernel
theorem dX4_counted_94 : decode cX4_counted 94 = .ok (.iconst 2, 1) := by decide +kernel
theorem dX4_counted_95 : decode cX4_counted 95 = .ok (.invokevirtual 233, 3) := by decide +kernel
theorem dX4_counted_98 : decode cX4_counted 98 = .ok (.ireturn, 1) := by decide +kernel
theorem dX4_counted_99 : decode cX4_counted 99 = .ok (.aload_n 0, 1) := by decide +kernel
theorem dX4_counted_100 : decode cX4_counted 100 = .ok (.getfield 12, 3) := by decide +kernel
theorem dX4_counted_103 : decode cX4_counted 103 = .ok (.getfield 88, 3) := by decide +kernel
theorem dX4_counted_106 : decode cX4_counted 106 = .ok (.iconst 3, 1) := by decide +kernel
theorem dX4_counted_107 : decode cX4_counted 107 = .ok (.invokevirtual 233, 3) := by decide +kernel
theorem dX4_counted_110 : decode cX4_counted 110 = .ok (.ireturn, 1) := by decide +kernel
theorem dX4_counted_111 : decode cX4_counted 111 = .ok (.aload_n 0, 1) := by decide +kernel
theorem dX4_counted_112 : decode cX4_counted 112 = .ok (.getfield 12, 3) := by decide +kernel
theorem dX4_counted_115 : decode cX4_counted 115 = .ok (.getfield 58, 3) := by decide +kernel
theorem dX4_counted_118 : decode cX4_counted 118 = .ok (.invokevirtual 236, 3) := by decide +kernel
theorem dX4_counted_121 : decode cX4_counted 121 = .ok (.ireturn, 1) := by decide +kernel
theorem dX4_counted_122 : decode cX4_counted 122 = .ok (.aload_n 0, 1) := by decide +kernel
theorem dX4_counted_123 : decode cX4_counted 123 = .ok (.getfield 12, 3) := by decide +kernel
theorem dX4_counted_126 : decode cX4_counted 126 = .ok (.getfield 58, 3) := by decide +kernel
theorem dX4_counted_129 : decode cX4_counted 129 = .ok (.invokevirtual 239, 3) := by decide +kernel
theorem dX4_counted_132 : decode cX4_counted 132 = .ok (.ireturn, 1) := by decide +kernel
theorem dX4_counted_133 : decode cX4_counted 133 = .ok (.aload_n 0, 1) := by decide +kernel
theorem dX4_counted_134 : decode cX4_counted 134 = .ok (.getfield 12, 3) := by decide +kernel
theorem dX4_counted_137 : decode cX4_counted 137 = .ok (.invokevirtual 76, 3) := by decide +kernel
theorem dX4_counted_140 : decode cX4_counted 140 = .ok (.ireturn, 1) := by decide +kernel
theorem dX4_counted_141 : decode cX4_counted 141 = .ok (.aload_n 0, 1) := by decide +kernel
theorem dX4_counted_142 : decode cX4_counted 142 = .ok (.getfield 22, 3) := by decide +kernel
theorem dX4_counted_145 : decode cX4_counted 145 = .ok (.getfield 160, 3) := by decide +kernel
theorem dX4_counted_148 : decode cX4_counted 148 = .ok (.ireturn, 1) := by decide +kernel
theorem dX4_counted_149 : decode cX4_counted 149 = .ok (.aload_n 0, 1) := by decide +kernel
theorem dX4_counted_150 : decode cX4_counted 150 = .ok (.getfield 22, 3) := by decide +kernel
theorem dX4_counted_153 : decode cX4_counted 153 = .ok (.invokevirtual 242, 3) := by decide +kernel
theorem dX4_counted_156 : decode cX4_counted 156 = .ok (.ireturn, 1) := by decide +kernel
theorem dX4_counted_157 : decode cX4_counted 157 = .ok (.aload_n 0, 1) := by decide +kernel
theorem dX4_counted_158 : decode cX4_counted 158 = .ok (.getfield 12, 3) := by decide +kernel
theorem dX4_counted_161 : decode cX4_counted 161 = .ok (.getfield 203, 3) := by decide +kernel
theorem dX4_counted_164 : decode cX4_counted 164 = .ok (.ireturn, 1) := by decide +kernel
set_option maxRecDepth 20000 in
theorem ggX4_winOf_X2_hasThawed : GoodIn wsX4_winOf wsX2_hasThawed := goodIn_r _ [6, 7, 30, 31, 32, 33, 34, 35] (by decide +kernel) (by decide +kernel)
set_option maxRecDepth 20000 in
theorem gX4_winOf_X2_hasThawed_n163 : GoodIn wsX4_winOf (wsX2_hasThawed) := ggX4_winOf_X2_hasThawed
set_option maxRecDepth 20000 in
theorem ggX4_winOf_X3_winOn : GoodIn wsX4_winOf wsX3_winOn := goodIn_r _ [11, 12, 13, 14, 15, 9, 16, 17, 18, 19, 20, 21, 22, 23, 24, 25, 26, 36, 37, 38] (by decide +kernel) (by decide +kernel)
set_option maxRecDepth 20000 in
theorem gX4_winOf_X3_winOn_n245 : GoodIn wsX4_winOf (wsX3_winOn) := ggX4_winOf_X3_winOn
theorem dX4_winOf_0 : decode cX4_winOf 0 = .ok (.aload_n 0, 1) := by decide +kernel
theorem dX4_winOf_1 : decode cX4_winOf 1 = .ok (.getfield 12, 3) := by decide +kernel
theorem dX4_winOf_4 : decode cX4_winOf 4 = .ok (.invokevirtual 163, 3) := by decide +kernel
theorem dX4_winOf_7 : decode cX4_winOf 7 = .ok (.ifCond .eq 21, 3) := by decide +kernel
theorem dX4_winOf_10 : decode cX4_winOf 10 = .ok (.aload_n 0, 1) := by decide +kernel
theorem dX4_winOf_11 : decode cX4_winOf 11 = .ok (.getfield 22, 3) := by decide +kernel
theorem dX4_winOf_14 : decode cX4_winOf 14 = .ok (.aload_n 0, 1) := by decide +kernel
theorem dX4_winOf_15 : decode cX4_winOf 15 = .ok (.getfield 12, 3) := by decide +kernel
theorem dX4_winOf_18 : decode cX4_winOf 18 = .ok (.getfield 203, 3) := by decide +kernel
theorem dX4_winOf_21 : decode cX4_winOf 21 = .ok (.iload_n 1, 1) := by decide +kernel
theorem dX4_winOf_22 : decode cX4_winOf 22 = .ok (.invokevirtual 245, 3) := by decide +kernel
theorem dX4_winOf_25 : decode cX4_winOf 25 = .ok (.goto 4, 3) := by decide +kernel
theorem dX4_winOf_28 : decode cX4_winOf 28 = .ok (.iconst 0, 1) := by decide +kernel
theorem dX4_winOf_29 : decode cX4_winOf 29 = .ok (.ireturn, 1) := by decide +kernel
set_option maxRecDepth 20000 in
theorem ggX4_mixedWithRiver_X4_mixed : GoodIn wsX4_mixedWithRiver wsX4_mixed := goodIn_r _ [5, 6] (by decide +kernel) (by decide +kernel)
set_option maxRecDepth 20000 in
theorem gX4_mixedWithRiver_X4_mixed : GoodIn wsX4_mixedWithRiver (va_wsS RX4 216 yX4_mixed wsX4_mixed) := goodIn_app (goodIn_of _ (by decide +kernel)) ggX4_mixedWithRiver_X4_mixed
theorem dX4_mixedWithRiver_0 : decode cX4_mixedWithRiver 0 = .ok (.lload_n 1, 1) := by decide +kernel
theorem dX4_mixedWithRiver_1 : decode cX4_mixedWithRiver 1 = .ok (.lstore_n 3, 1) := by decide +kernel
theorem dX4_mixedWithRiver_2 : decode cX4_mixedWithRiver 2 = .ok (.iconst 0, 1) := by decide +kernel
theorem dX4_mixedWithRiver_3 : decode cX4_mixedWithRiver 3 = .ok (.istore 5, 2) := by decide +kernel
theorem dX4_mixedWithRiver_5 : decode cX4_mixedWithRiver 5 = .ok (.iload 5, 2) := by decide +kernel
theorem dX4_mixedWithRiver_7 : decode cX4_mixedWithRiver 7 = .ok (.bipush 14, 2) := by decide +kernel
theorem dX4_mixedWithRiver_9 : decode cX4_mixedWithRiver 9 = .ok (.if_icmp .ge 24, 3) := by decide +kernel
theorem dX4_mixedWithRiver_12 : decode cX4_mixedWithRiver 12 = .ok (.lload_n 3, 1) := by decide +kernel
theorem dX4_mixedWithRiver_13 : decode cX4_mixedWithRiver 13 = .ok (.aload_n 0, 1) := by decide +kernel
theorem dX4_mixedWithRiver_14 : decode cX4_mixedWithRiver 14 = .ok (.getfield 12, 3) := by decide +kernel
theorem dX4_mixedWithRiver_17 : decode cX4_mixedWithRiver 17 = .ok (.getfield 42, 3) := by decide +kernel
theorem dX4_mixedWithRiver_20 : decode cX4_mixedWithRiver 20 = .ok (.iload 5, 2) := by decide +kernel
theorem dX4_mixedWithRiver_22 : decode cX4_mixedWithRiver 22 = .ok (.iaload, 1) := by decide +kernel
theorem dX4_mixedWithRiver_23 : decode cX4_mixedWithRiver 23 = .ok (.invokestatic 216, 3) := by decide +kernel
theorem dX4_mixedWithRiver_26 : decode cX4_mixedWithRiver 26 = .ok (.lstore_n 3, 1) := by decide +kernel
theorem dX4_mixedWithRiver_27 : decode cX4_mixedWithRiver 27 = .ok (.iinc 5 1, 3) := by decide +kernel
theorem dX4_mixedWithRiver_30 : decode cX4_mixedWithRiver 30 = .ok (.goto (-25), 3) := by decide +kernel
theorem dX4_mixedWithRiver_33 : decode cX4_mixedWithRiver 33 = .ok (.iconst 0, 1) := by decide +kernel
theorem dX4_mixedWithRiver_34 : decode cX4_mixedWithRiver 34 = .ok (.istore 5, 2) := by decide +kernel
theorem dX4_mixedWithRiver_36 : decode cX4_mixedWithRiver 36 = .ok (.iload 5, 2) := by decide +kernel
theorem dX4_mixedWithRiver_38 : decode cX4_mixedWithRiver 38 = .ok (.bipush 36, 2) := by decide +kernel
theorem dX4_mixedWithRiver_40 : decode cX4_mixedWithRiver 40 = .ok (.if_icmp .ge 45, 3) := by decide +kernel
theorem dX4_mixedWithRiver_43 : decode cX4_mixedWithRiver 43 = .ok (.lload_n 3, 1) := by decide +kernel
theorem dX4_mixedWithRiver_44 : decode cX4_mixedWithRiver 44 = .ok (.aload_n 0, 1) := by decide +kernel
theorem dX4_mixedWithRiver_45 : decode cX4_mixedWithRiver 45 = .ok (.getfield 12, 3) := by decide +kernel
theorem dX4_mixedWithRiver_48 : decode cX4_mixedWithRiver 48 = .ok (.getfield 58, 3) := by decide +kernel
theorem dX4_mixedWithRiver_51 : decode cX4_mixedWithRiver 51 = .ok (.getfield 62, 3) := by decide +kernel
theorem dX4_mixedWithRiver_54 : decode cX4_mixedWithRiver 54 = .ok (.iload 5, 2) := by decide +kernel
theorem dX4_mixedWithRiver_56 : decode cX4_mixedWithRiver 56 = .ok (.iaload, 1) := by decide +kernel
theorem dX4_mixedWithRiver_57 : decode cX4_mixedWithRiver 57 = .ok (.invokestatic 216, 3) := by decide +kernel
theorem dX4_mixedWithRiver_60 : decode cX4_mixedWithRiver 60 = .ok (.lstore_n 3, 1) := by decide +kernel
theorem dX4_mixedWithRiver_61 : decode cX4_mixedWithRiver 61 = .ok (.lload_n 3, 1) := by decide +kernel
theorem dX4_mixedWithRiver_62 : decode cX4_mixedWithRiver 62 = .ok (.aload_n 0, 1) := by decide +kernel
theorem dX4_mixedWithRiver_63 : decode cX4_mixedWithRiver 63 = .ok (.getfield 12, 3) := by decide +kernel
theorem dX4_mixedWithRiver_66 : decode cX4_mixedWithRiver 66 = .ok (.getfield 58, 3) := by decide +kernel
theorem dX4_mixedWithRiver_69 : decode cX4_mixedWithRiver 69 = .ok (.getfield 82, 3) := by decide +kernel
theorem dX4_mixedWithRiver_72 : decode cX4_mixedWithRiver 72 = .ok (.iload 5, 2) := by decide +kernel
theorem dX4_mixedWithRiver_74 : decode cX4_mixedWithRiver 74 = .ok (.iaload, 1) := by decide +kernel
theorem dX4_mixedWithRiver_75 : decode cX4_mixedWithRiver 75 = .ok (.invokestatic 216, 3) := by decide +kernel
theorem dX4_mixedWithRiver_78 : decode cX4_mixedWithRiver 78 = .ok (.lstore_n 3, 1) := by decide +kernel
theorem dX4_mixedWithRiver_79 : decode cX4_mixedWithRiver 79 = .ok (.iinc 5 1, 3) := by decide +kernel
theorem dX4_mixedWithRiver_82 : decode cX4_mixedWithRiver 82 = .ok (.goto (-46), 3) := by decide +kernel
theorem dX4_mixedWithRiver_85 : decode cX4_mixedWithRiver 85 = .ok (.iconst 0, 1) := by decide +kernel
theorem dX4_mixedWithRiver_86 : decode cX4_mixedWithRiver 86 = .ok (.istore 5, 2) := by decide +kernel
theorem dX4_mixedWithRiver_88 : decode cX4_mixedWithRiver 88 = .ok (.iload 5, 2) := by decide +kernel
theorem dX4_mixedWithRiver_90 : decode cX4_mixedWithRiver 90 = .ok (.bipush 12, 2) := by decide +kernel
theorem dX4_mixedWithRiver_92 : decode cX4_mixedWithRiver 92 = .ok (.if_icmp .ge 24, 3) := by decide +kernel
theorem dX4_mixedWithRiver_95 : decode cX4_mixedWithRiver 95 = .ok (.lload_n 3, 1) := by decide +kernel
theorem dX4_mixedWithRiver_96 : decode cX4_mixedWithRiver 96 = .ok (.aload_n 0, 1) := by decide +kernel
theorem dX4_mixedWithRiver_97 : decode cX4_mixedWithRiver 97 = .ok (.getfield 12, 3) := by decide +kernel
theorem dX4_mixedWithRiver_100 : decode cX4_mixedWithRiver 100 = .ok (.getfield 73, 3) := by decide +kernel
theorem dX4_mixedWithRiver_103 : decode cX4_mixedWithRiver 103 = .ok (.iload 5, 2) := by decide +kernel
theorem dX4_mixedWithRiver_105 : decode cX4_mixedWithRiver 105 = .ok (.iaload, 1) := by decide +kernel
theorem dX4_mixedWithRiver_106 : decode cX4_mixedWithRiver 106 = .ok (.invokestatic 216, 3) := by decide +kernel
theorem dX4_mixedWithRiver_109 : decode cX4_mixedWithRiver 109 = .ok (.lstore_n 3, 1) := by decide +kernel
theorem dX4_mixedWithRiver_110 : decode cX4_mixedWithRiver 110 = .ok (.iinc 5 1, 3) := by decide +kernel
theorem dX4_mixedWithRiver_113 : decode cX4_mixedWithRiver 113 = .ok (.goto (-25), 3) := by decide +kernel
theorem dX4_mixedWithRiver_116 : decode cX4_mixedWithRiver 116 = .ok (.lload_n 3, 1) := by decide +kernel
theorem dX4_mixedWithRiver_117 : decode cX4_mixedWithRiver 117 = .ok (.lreturn, 1) := by decide +kernel
set_option maxRecDepth 20000 in
theorem ggX4_mixedWithCouriers_X0_tell : GoodIn wsX4_mixedWithCouriers wsX0_tell := goodIn_r _ [5, 6, 7, 8, 9, 10, 11, 12, 13, 14, 29, 30, 31, 32, 33, 34, 35, 36, 37, 38] (by decide +kernel) (by decide +kernel)
set_option maxRecDepth 20000 in
theorem gX4_mixedWithCouriers_X0_tell_n155 : GoodIn wsX4_mixedWithCouriers (wsX0_tell) := ggX4_mixedWithCouriers_X0_tell
set_option maxRecDepth 20000 in
theorem ggX4_mixedWithCouriers_X4_mixed : GoodIn wsX4_mixedWithCouriers wsX4_mixed := goodIn_r _ [18, 19] (by decide +kernel) (by decide +kernel)
set_option maxRecDepth 20000 in
theorem gX4_mixedWithCouriers_X4_mixed : GoodIn wsX4_mixedWithCouriers (va_wsS RX4 216 yX4_mixed wsX4_mixed) := goodIn_app (goodIn_of _ (by decide +kernel)) ggX4_mixedWithCouriers_X4_mixed
theorem dX4_mixedWithCouriers_0 : decode cX4_mixedWithCouriers 0 = .ok (.lload_n 1, 1) := by decide +kernel
theorem dX4_mixedWithCouriers_1 : decode cX4_mixedWithCouriers 1 = .ok (.lstore_n 3, 1) := by decide +kernel
theorem dX4_mixedWithCouriers_2 : decode cX4_mixedWithCouriers 2 = .ok (.iconst 0, 1) := by decide +kernel
theorem dX4_mixedWithCouriers_3 : decode cX4_mixedWithCouriers 3 = .ok (.istore 5, 2) := by decide +kernel
theorem dX4_mixedWithCouriers_5 : decode cX4_mixedWithCouriers 5 = .ok (.iload 5, 2) := by decide +kernel
theorem dX4_mixedWithCouriers_7 : decode cX4_mixedWithCouriers 7 = .ok (.aload_n 0, 1) := by decide +kernel
theorem dX4_mixedWithCouriers_8 : decode cX4_mixedWithCouriers 8 = .ok (.getfield 12, 3) := by decide +kernel
theorem dX4_mixedWithCouriers_11 : decode cX4_mixedWithCouriers 11 = .ok (.getfield 88, 3) := by decide +kernel
theorem dX4_mixedWithCouriers_14 : decode cX4_mixedWithCouriers 14 = .ok (.getfield 99, 3) := by decide +kernel
theorem dX4_mixedWithCouriers_17 : decode cX4_mixedWithCouriers 17 = .ok (.if_icmp .ge 44, 3) := by decide +kernel
theorem dX4_mixedWithCouriers_20 : decode cX4_mixedWithCouriers 20 = .ok (.iconst 0, 1) := by decide +kernel
theorem dX4_mixedWithCouriers_21 : decode cX4_mixedWithCouriers 21 = .ok (.istore 6, 2) := by decide +kernel
theorem dX4_mixedWithCouriers_23 : decode cX4_mixedWithCouriers 23 = .ok (.iload 6, 2) := by decide +kernel
theorem dX4_mixedWithCouriers_25 : decode cX4_mixedWithCouriers 25 = .ok (.bipush 8, 2) := by decide +kernel
theorem dX4_mixedWithCouriers_27 : decode cX4_mixedWithCouriers 27 = .ok (.if_icmp .gt 28, 3) := by decide +kernel
theorem dX4_mixedWithCouriers_30 : decode cX4_mixedWithCouriers 30 = .ok (.lload_n 3, 1) := by decide +kernel
theorem dX4_mixedWithCouriers_31 : decode cX4_mixedWithCouriers 31 = .ok (.aload_n 0, 1) := by decide +kernel
theorem dX4_mixedWithCouriers_32 : decode cX4_mixedWithCouriers 32 = .ok (.getfield 12, 3) := by decide +kernel
theorem dX4_mixedWithCouriers_35 : decode cX4_mixedWithCouriers 35 = .ok (.getfield 88, 3) := by decide +kernel
theorem dX4_mixedWithCouriers_38 : decode cX4_mixedWithCouriers 38 = .ok (.iload 5, 2) := by decide +kernel
theorem dX4_mixedWithCouriers_40 : decode cX4_mixedWithCouriers 40 = .ok (.iload 6, 2) := by decide +kernel
theorem dX4_mixedWithCouriers_42 : decode cX4_mixedWithCouriers 42 = .ok (.invokevirtual 155, 3) := by decide +kernel
theorem dX4_mixedWithCouriers_45 : decode cX4_mixedWithCouriers 45 = .ok (.invokestatic 216, 3) := by decide +kernel
theorem dX4_mixedWithCouriers_48 : decode cX4_mixedWithCouriers 48 = .ok (.lstore_n 3, 1) := by decide +kernel
theorem dX4_mixedWithCouriers_49 : decode cX4_mixedWithCouriers 49 = .ok (.iinc 6 1, 3) := by decide +kernel
theorem dX4_mixedWithCouriers_52 : decode cX4_mixedWithCouriers 52 = .ok (.goto (-29), 3) := by decide +kernel
theorem dX4_mixedWithCouriers_55 : decode cX4_mixedWithCouriers 55 = .ok (.iinc 5 1, 3) := by decide +kernel
theorem dX4_mixedWithCouriers_58 : decode cX4_mixedWithCouriers 58 = .ok (.goto (-53), 3) := by decide +kernel
theorem dX4_mixedWithCouriers_61 : decode cX4_mixedWithCouriers 61 = .ok (.lload_n 3, 1) := by decide +kernel
theorem dX4_mixedWithCouriers_62 : decode cX4_mixedWithCouriers 62 = .ok (.lreturn, 1) := by decide +kernel
set_option maxRecDepth 20000 in
theorem ggX4_mixedWithWagers_X4_mixed : GoodIn wsX4_mixedWithWagers wsX4_mixed := goodIn_r _ [5, 6] (by decide +kernel) (by decide +kernel)
set_option maxRecDepth 20000 in
theorem gX4_mixedWithWagers_X4_mixed : GoodIn wsX4_mixedWithWagers (va_wsS RX4 216 yX4_mixed wsX4_mixed) := goodIn_app (goodIn_of _ (by decide +kernel)) ggX4_mixedWithWagers_X4_mixed
set_option maxRecDepth 20000 in
theorem ggX4_mixedWithWagers_X4_winOf : GoodIn wsX4_mixedWithWagers wsX4_winOf := goodIn_r _ [10, 11, 1, 12, 13, 14, 15, 16, 17, 18, 19, 20, 21, 22, 23, 24, 25, 26, 27, 28, 29, 30, 31, 32, 33, 34, 35, 36, 37, 38, 42, 43, 44, 45, 46, 47, 39, 40, 41] (by decide +kernel) (by decide +kernel)
set_option maxRecDepth 20000 in
theorem gX4_mixedWithWagers_X4_winOf : GoodIn wsX4_mixedWithWagers (wsV RX4 174 RX4 yX4_winOf wsX4_winOf) := goodIn_app (goodIn_of _ (by decide +kernel)) ggX4_mixedWithWagers_X4_winOf
theorem dX4_mixedWithWagers_0 : decode cX4_mixedWithWagers 0 = .ok (.lload_n 1, 1) := by decide +kernel
theorem dX4_mixedWithWagers_1 : decode cX4_mixedWithWagers 1 = .ok (.lstore_n 3, 1) := by decide +kernel
theorem dX4_mixedWithWagers_2 : decode cX4_mixedWithWagers 2 = .ok (.iconst 0, 1) := by decide +kernel
theorem dX4_mixedWithWagers_3 : decode cX4_mixedWithWagers 3 = .ok (.istore 5, 2) := by decide +kernel
theorem dX4_mixedWithWagers_5 : decode cX4_mixedWithWagers 5 = .ok (.iload 5, 2) := by decide +kernel
theorem dX4_mixedWithWagers_7 : decode cX4_mixedWithWagers 7 = .ok (.aload_n 0, 1) := by decide +kernel
theorem dX4_mixedWithWagers_8 : decode cX4_mixedWithWagers 8 = .ok (.getfield 22, 3) := by decide +kernel
theorem dX4_mixedWithWagers_11 : decode cX4_mixedWithWagers 11 = .ok (.getfield 160, 3) := by decide +kernel
theorem dX4_mixedWithWagers_14 : decode cX4_mixedWithWagers 14 = .ok (.if_icmp .ge 50, 3) := by decide +kernel
theorem dX4_mixedWithWagers_17 : decode cX4_mixedWithWagers 17 = .ok (.lload_n 3, 1) := by decide +kernel
theorem dX4_mixedWithWagers_18 : decode cX4_mixedWithWagers 18 = .ok (.aload_n 0, 1) := by decide +kernel
theorem dX4_mixedWithWagers_19 : decode cX4_mixedWithWagers 19 = .ok (.getfield 22, 3) := by decide +kernel
theorem dX4_mixedWithWagers_22 : decode cX4_mixedWithWagers 22 = .ok (.getfield 248, 3) := by decide +kernel
theorem dX4_mixedWithWagers_25 : decode cX4_mixedWithWagers 25 = .ok (.iload 5, 2) := by decide +kernel
theorem dX4_mixedWithWagers_27 : decode cX4_mixedWithWagers 27 = .ok (.iaload, 1) := by decide +kernel
theorem dX4_mixedWithWagers_28 : decode cX4_mixedWithWagers 28 = .ok (.invokestatic 216, 3) := by decide +kernel
theorem dX4_mixedWithWagers_31 : decode cX4_mixedWithWagers 31 = .ok (.lstore_n 3, 1) := by decide +kernel
theorem dX4_mixedWithWagers_32 : decode cX4_mixedWithWagers 32 = .ok (.lload_n 3, 1) := by decide +kernel
theorem dX4_mixedWithWagers_33 : decode cX4_mixedWithWagers 33 = .ok (.aload_n 0, 1) := by decide +kernel
theorem dX4_mixedWithWagers_34 : decode cX4_mixedWithWagers 34 = .ok (.getfield 22, 3) := by decide +kernel
theorem dX4_mixedWithWagers_37 : decode cX4_mixedWithWagers 37 = .ok (.getfield 251, 3) := by decide +kernel
theorem dX4_mixedWithWagers_40 : decode cX4_mixedWithWagers 40 = .ok (.iload 5, 2) := by decide +kernel
theorem dX4_mixedWithWagers_42 : decode cX4_mixedWithWagers 42 = .ok (.iaload, 1) := by decide +kernel
theorem dX4_mixedWithWagers_43 : decode cX4_mixedWithWagers 43 = .ok (.invokestatic 216, 3) := by decide +kernel
theorem dX4_mixedWithWagers_46 : decode cX4_mixedWithWagers 46 = .ok (.lstore_n 3, 1) := by decide +kernel
theorem dX4_mixedWithWagers_47 : decode cX4_mixedWithWagers 47 = .ok (.lload_n 3, 1) := by decide +kernel
theorem dX4_mixedWithWagers_48 : decode cX4_mixedWithWagers 48 = .ok (.aload_n 0, 1) := by decide +kernel
theorem dX4_mixedWithWagers_49 : decode cX4_mixedWithWagers 49 = .ok (.iload 5, 2) := by decide +kernel
theorem dX4_mixedWithWagers_51 : decode cX4_mixedWithWagers 51 = .ok (.invokevirtual 174, 3) := by decide +kernel
theorem dX4_mixedWithWagers_54 : decode cX4_mixedWithWagers 54 = .ok (.invokestatic 216, 3) := by decide +kernel
theorem dX4_mixedWithWagers_57 : decode cX4_mixedWithWagers 57 = .ok (.lstore_n 3, 1) := by decide +kernel
theorem dX4_mixedWithWagers_58 : decode cX4_mixedWithWagers 58 = .ok (.iinc 5 1, 3) := by decide +kernel
theorem dX4_mixedWithWagers_61 : decode cX4_mixedWithWagers 61 = .ok (.goto (-56), 3) := by decide +kernel
theorem dX4_mixedWithWagers_64 : decode cX4_mixedWithWagers 64 = .ok (.lload_n 3, 1) := by decide +kernel
theorem dX4_mixedWithWagers_65 : decode cX4_mixedWithWagers 65 = .ok (.lreturn, 1) := by decide +kernel
theorem dX4_mixed_0 : decode cX4_mixed 0 = .ok (.lload_n 0, 1) := by decide +kernel
theorem dX4_mixed_1 : decode cX4_mixed 1 = .ok (.ldc2_w 254, 3) := by decide +kernel
theorem dX4_mixed_4 : decode cX4_mixed 4 = .ok (.lmul, 1) := by decide +kernel
theorem dX4_mixed_5 : decode cX4_mixed 5 = .ok (.iload_n 2, 1) := by decide +kernel
theorem dX4_mixed_6 : decode cX4_mixed 6 = .ok (.i2l, 1) := by decide +kernel
theorem dX4_mixed_7 : decode cX4_mixed 7 = .ok (.ladd, 1) := by decide +kernel
theorem dX4_mixed_8 : decode cX4_mixed 8 = .ok (.lreturn, 1) := by decide +kernel
theorem dX4_isWithin_0 : decode cX4_isWithin 0 = .ok (.iload_n 1, 1) := by decide +kernel
theorem dX4_isWithin_1 : decode cX4_isWithin 1 = .ok (.iload_n 0, 1) := by decide +kernel
theorem dX4_isWithin_2 : decode cX4_isWithin 2 = .ok (.if_icmp .gt 12, 3) := by decide +kernel
theorem dX4_isWithin_5 : decode cX4_isWithin 5 = .ok (.iload_n 0, 1) := by decide +kernel
theorem dX4_isWithin_6 : decode cX4_isWithin 6 = .ok (.iload_n 2, 1) := by decide +kernel
theorem dX4_isWithin_7 : decode cX4_isWithin 7 = .ok (.if_icmp .gt 7, 3) := by decide +kernel
theorem dX4_isWithin_10 : decode cX4_isWithin 10 = .ok (.iconst 1, 1) := by decide +kernel
theorem dX4_isWithin_11 : decode cX4_isWithin 11 = .ok (.goto 4, 3) := by decide +kernel
theorem dX4_isWithin_14 : decode cX4_isWithin 14 = .ok (.iconst 0, 1) := by decide +kernel
theorem dX4_isWithin_15 : decode cX4_isWithin 15 = .ok (.ireturn, 1) := by decide +kernel
set_option maxRecDepth 20000 in
theorem ggX4_isSection_X4_isWithin : GoodIn wsX4_isSection wsX4_isWithin := goodIn_r _ [4] (by decide +kernel) (by decide +kernel)
set_option maxRecDepth 20000 in
theorem gX4_isSection_X4_isWithin : GoodIn wsX4_isSection (va_wsS RX4 26 yX4_isWithin wsX4_isWithin) := goodIn_app (goodIn_of _ (by decide +kernel)) ggX4_isSection_X4_isWithin
theorem dX4_isSection_0 : decode cX4_isSection 0 = .ok (.iload_n 0, 1) := by decide +kernel
theorem dX4_isSection_1 : decode cX4_isSection 1 = .ok (.iconst 0, 1) := by decide +kernel
theorem dX4_isSection_2 : decode cX4_isSection 2 = .ok (.bipush 11, 2) := by decide +kernel
theorem dX4_isSection_4 : decode cX4_isSection 4 = .ok (.invokestatic 26, 3) := by decide +kernel
theorem dX4_isSection_7 : decode cX4_isSection 7 = .ok (.ireturn, 1) := by decide +kernel
set_option maxRecDepth 20000 in
theorem ggX4_isPlace_X4_isSection : GoodIn wsX4_isPlace wsX4_isSection := goodIn_r _ [4, 5, 6, 3, 7] (by decide +kernel) (by decide +kernel)
set_option maxRecDepth 20000 in
theorem gX4_isPlace_X4_isSection : GoodIn wsX4_isPlace (va_wsS RX4 67 yX4_isSection wsX4_isSection) := goodIn_app (goodIn_of _ (by decide +kernel)) ggX4_isPlace_X4_isSection
set_option maxRecDepth 20000 in
theorem ggX4_isPlace_X4_isWithin : GoodIn wsX4_isPlace wsX4_isWithin := goodIn_r _ [7] (by decide +kernel) (by decide +kernel)
set_option maxRecDepth 20000 in
theorem gX4_isPlace_X4_isWithin : GoodIn wsX4_isPlace (va_wsS RX4 26 yX4_isWithin wsX4_isWithin) := goodIn_app (goodIn_of _ (by decide +kernel)) ggX4_isPlace_X4_isWithin
theorem dX4_isPlace_0 : decode cX4_isPlace 0 = .ok (.iload_n 0, 1) := by decide +kernel
theorem dX4_isPlace_1 : decode cX4_isPlace 1 = .ok (.invokestatic 67, 3) := by decide +kernel
theorem dX4_isPlace_4 : decode cX4_isPlace 4 = .ok (.ifCond .eq 16, 3) := by decide +kernel
theorem dX4_isPlace_7 : decode cX4_isPlace 7 = .ok (.iload_n 1, 1) := by decide +kernel
theorem dX4_isPlace_8 : decode cX4_isPlace 8 = .ok (.iconst 0, 1) := by decide +kernel
theorem dX4_isPlace_9 : decode cX4_isPlace 9 = .ok (.iconst 2, 1) := by decide +kernel
theorem dX4_isPlace_10 : decode cX4_isPlace 10 = .ok (.invokestatic 26, 3) := by decide +kernel
theorem dX4_isPlace_13 : decode cX4_isPlace 13 = .ok (.ifCond .eq 7, 3) := by decide +kernel
theorem dX4_isPlace_16 : decode cX4_isPlace 16 = .ok (.iconst 1, 1) := by decide +kernel
theorem dX4_isPlace_17 : decode cX4_isPlace 17 = .ok (.goto 4, 3) := by decide +kernel
theorem dX4_isPlace_20 : decode cX4_isPlace 20 = .ok (.iconst 0, 1) := by decide +kernel
theorem dX4_isPlace_21 : decode cX4_isPlace 21 = .ok (.ireturn, 1) := by decide +kernel
theorem dX4_placeOf_0 : decode cX4_placeOf 0 = .ok (.iload_n 0, 1) := by decide +kernel
theorem dX4_placeOf_1 : decode cX4_placeOf 1 = .ok (.iconst 3, 1) := by decide +kernel
theorem dX4_placeOf_2 : decode cX4_placeOf 2 = .ok (.imul, 1) := by decide +kernel
theorem dX4_placeOf_3 : decode cX4_placeOf 3 = .ok (.iload_n 1, 1) := by decide +kernel
theorem dX4_placeOf_4 : decode cX4_placeOf 4 = .ok (.iadd, 1) := by decide +kernel
theorem dX4_placeOf_5 : decode cX4_placeOf 5 = .ok (.ireturn, 1) := by decide +kernel
theorem dX5_init_0 : decode cX5_init 0 = .ok (.aload_n 0, 1) := by decide +kernel
theorem dX5_init_1 : decode cX5_init 1 = .ok (.aload_n 1, 1) := by decide +kernel
theorem dX5_init_2 : decode cX5_init 2 = .ok (.putfield 3, 3) := by decide +kernel
theorem dX5_init_5 : decode cX5_init 5 = .ok (.aload_n 0, 1) := by decide +kernel
theorem dX5_init_6 : decode cX5_init 6 = .ok (.invokespecial 9, 3) := by decide +kernel
theorem dX5_init_9 : decode cX5_init 9 = .ok (.aload_n 0, 1) := by decide +kernel
theorem dX5_init_10 : decode cX5_init 10 = .ok (.iconst (-1), 1) := by decide +kernel
theorem dX5_init_11 : decode cX5_init 11 = .ok (.putfield 15, 3) := by decide +kernel
theorem dX5_init_14 : decode cX5_init 14 = .ok (.aload_n 0, 1) := by decide +kernel
theorem dX5_init_15 : decode cX5_init 15 = .ok (.bipush 36, 2) := by decide +kernel
theorem dX5_init_17 : decode cX5_init 17 = .ok (.newarray .int, 2) := by decide +kernel
theorem dX5_init_19 : decode cX5_init 19 = .ok (.putfield 19, 3) := by decide +kernel
theorem dX5_init_22 : decode cX5_init 22 = .ok (.aload_n 0, 1) := by decide +kernel
theorem dX5_init_23 : decode cX5_init 23 = .ok (.bipush 36, 2) := by decide +kernel
theorem dX5_init_25 : decode cX5_init 25 = .ok (.newarray .int, 2) := by decide +kernel
theorem dX5_init_27 : decode cX5_init 27 = .ok (.putfield 23, 3) := by decide +kernel
theorem dX5_init_30 : decode cX5_init 30 = .ok (.aload_n 0, 1) := by decide +kernel
theorem dX5_init_31 : decode cX5_init 31 = .ok (.bipush 72, 2) := by decide +kernel
theorem dX5_init_33 : decode cX5_init 33 = .ok (.newarray .int, 2) := by decide +kernel
theorem dX5_init_35 : decode cX5_init 35 = .ok (.putfield 26, 3) := by decide +kernel
theorem dX5_init_38 : decode cX5_init 38 = .ok (.return_, 1) := by decide +kernel
theorem dX5_copy_0 : decode cX5_copy 0 = .ok (.aload_n 1, 1) := by decide +kernel
theorem dX5_copy_1 : decode cX5_copy 1 = .ok (.iconst 0, 1) := by decide +kernel
theorem dX5_copy_2 : decode cX5_copy 2 = .ok (.aload_n 2, 1) := by decide +kernel
theorem dX5_copy_3 : decode cX5_copy 3 = .ok (.iconst 0, 1) := by decide +kernel
theorem dX5_copy_4 : decode cX5_copy 4 = .ok (.aload_n 1, 1) := by decide +kernel
theorem dX5_copy_5 : decode cX5_copy 5 = .ok (.arraylength, 1) := by decide +kernel
theorem dX5_copy_6 : decode cX5_copy 6 = .ok (.invokestatic 29, 3) := by decide +kernel
theorem dX5_copy_9 : decode cX5_copy 9 = .ok (.return_, 1) := by decide +kernel
set_option maxRecDepth 20000 in
theorem ggX5_become_X5_copy : GoodIn wsX5_become wsX5_copy := goodIn_r _ [12, 13, 14, 15, 16] (by decide +kernel) (by decide +kernel)
set_option maxRecDepth 20000 in
theorem gX5_become_X5_copy : GoodIn wsX5_become (wsV RX5 44 RX5 yX5_copy wsX5_copy) := goodIn_app (goodIn_of _ (by decide +kernel)) ggX5_become_X5_copy
theorem dX5_become_0 : decode cX5_become 0 = .ok (.aload_n 0, 1) := by decide +kernel
theorem dX5_become_1 : decode cX5_become 1 = .ok (.aload_n 1, 1) := by decide +kernel
theorem dX5_become_2 : decode cX5_become 2 = .ok (.getfield 35, 3) := by decide +kernel
theorem dX5_become_5 : decode cX5_become 5 = .ok (.putfield 35, 3) := by decide +kernel
theorem dX5_become_8 : decode cX5_become 8 = .ok (.aload_n 0, 1) := by decide +kernel
theorem dX5_become_9 : decode cX5_become 9 = .ok (.aload_n 1, 1) := by decide +kernel
theorem dX5_become_10 : decode cX5_become 10 = .ok (.getfield 38, 3) := by decide +kernel
theorem dX5_become_13 : decode cX5_become 13 = .ok (.putfield 38, 3) := by decide +kernel
theorem dX5_become_16 : decode cX5_become 16 = .ok (.aload_n 0, 1) := by decide +kernel
theorem dX5_become_17 : decode cX5_become 17 = .ok (.aload_n 1, 1) := by decide +kernel
theorem dX5_become_18 : decode cX5_become 18 = .ok (.getfield 15, 3) := by decide +kernel
theorem dX5_become_21 : decode cX5_become 21 = .ok (.putfield 15, 3) := by decide +kernel
theorem dX5_become_24 : decode cX5_become 24 = .ok (.aload_n 0, 1) := by decide +kernel
theorem dX5_become_25 : decode cX5_become 25 = .ok (.aload_n 1, 1) := by decide +kernel
theorem dX5_become_26 : decode cX5_become 26 = .ok (.getfield 41, 3) := by decide +kernel
theorem dX5_become_29 : decode cX5_become 29 = .ok (.putfield 41, 3) := by decide +kernel
theorem dX5_become_32 : decode cX5_become 32 = .ok (.aload_n 0, 1) := by decide +kernel
theorem dX5_become_33 : decode cX5_become 33 = .ok (.aload_n 1, 1) := by decide +kernel
theorem dX5_become_34 : decode cX5_become 34 = .ok (.getfield 19, 3) := by decide +kernel
theorem dX5_become_37 : decode cX5_become 37 = .ok (.aload_n 0, 1) := by decide +kernel
theorem dX5_become_38 : decode cX5_become 38 = .ok (.getfield 19, 3) := by decide +kernel
theorem dX5_become_41 : decode cX5_become 41 = .ok (.invokevirtual 44, 3) := by decide +kernel
theorem dX5_become_44 : decode cX5_become 44 = .ok (.aload_n 0, 1) := by decide +kernel
theorem dX5_become_45 : decode cX5_become 45 = .ok (.aload_n 1, 1) := by decide +kernel
theorem dX5_become_46 : decode cX5_become 46 = .ok (.getfield 23, 3) := by decide +kernel
theorem dX5_become_49 : decode cX5_become 49 = .ok (.aload_n 0, 1) := by decide +kernel
theorem dX5_become_50 : decode cX5_become 50 = .ok (.getfield 23, 3) := by decide +kernel
theorem dX5_become_53 : decode cX5_become 53 = .ok (.invokevirtual 44, 3) := by decide +kernel
theorem dX5_become_56 : decode cX5_become 56 = .ok (.aload_n 0, 1) := by decide +kernel
theorem dX5_become_57 : decode cX5_become 57 = .ok (.aload_n 1, 1) := by decide +kernel
theorem dX5_become_58 : decode cX5_become 58 = .ok (.getfield 26, 3) := by decide +kernel
theorem dX5_become_61 : decode cX5_become 61 = .ok (.aload_n 0, 1) := by decide +kernel
theorem dX5_become_62 : decode cX5_become 62 = .ok (.getfield 26, 3) := by decide +kernel
theorem dX5_become_65 : decode cX5_become 65 = .ok (.invokevirtual 44, 3) := by decide +kernel
theorem dX5_become_68 : decode cX5_become 68 = .ok (.return_, 1) := by decide +kernel
theorem dX5_get_0 : decode cX5_get 0 = .ok (.aload_n 0, 1) := by decide +kernel
theorem dX5_get_1 : decode cX5_get 1 = .ok (.getfield 26, 3) := by decide +kernel
theorem dX5_get_4 : decode cX5_get 4 = .ok (.bipush 9, 2) := by decide +kernel
theorem dX5_get_6 : decode cX5_get 6 = .ok (.iload_n 1, 1) := by decide +kernel
theorem dX5_get_7 : decode cX5_get 7 = .ok (.imul, 1) := by decide +kernel
theorem dX5_get_8 : decode cX5_get 8 = .ok (.iload_n 2, 1) := by decide +kernel
theorem dX5_get_9 : decode cX5_get 9 = .ok (.iadd, 1) := by decide +kernel
theorem dX5_get_10 : decode cX5_get 10 = .ok (.iaload, 1) := by decide +kernel
theorem dX5_get_11 : decode cX5_get 11 = .ok (.ireturn, 1) := by decide +kernel
theorem dX5_set_0 : decode cX5_set 0 = .ok (.aload_n 0, 1) := by decide +kernel
theorem dX5_set_1 : decode cX5_set 1 = .ok (.getfield 26, 3) := by decide +kernel
theorem dX5_set_4 : decode cX5_set 4 = .ok (.bipush 9, 2) := by decide +kernel
theorem dX5_set_6 : decode cX5_set 6 = .ok (.iload_n 1, 1) := by decide +kernel
theorem dX5_set_7 : decode cX5_set 7 = .ok (.imul, 1) := by decide +kernel
theorem dX5_set_8 : decode cX5_set 8 = .ok (.iload_n 2, 1) := by decide +kernel
theorem dX5_set_9 : decode cX5_set 9 = .ok (.iadd, 1) := by decide +kernel
theorem dX5_set_10 : decode cX5_set 10 = .ok (.iload_n 3, 1) := by decide +kernel
theorem dX5_set_11 : decode cX5_set 11 = .ok (.iastore, 1) := by decide +kernel
theorem dX5_set_12 : decode cX5_set 12 = .ok (.return_, 1) := by decide +kernel
theorem dX5_holds_0 : decode cX5_holds 0 = .ok (.aload_n 0, 1) := by decide +kernel
theorem dX5_holds_1 : decode cX5_holds 1 = .ok (.getfield 19, 3) := by decide +kernel
theorem dX5_holds_4 : decode cX5_holds 4 = .ok (.iload_n 1, 1) := by decide +kernel
theorem dX5_holds_5 : decode cX5_holds 5 = .ok (.iaload, 1) := by decide +kernel
theorem dX5_holds_6 : decode cX5_holds 6 = .ok (.iconst 3, 1) := by decide +kernel
theorem dX5_holds_7 : decode cX5_holds 7 = .ok (.aload_n 0, 1) := by decide +kernel
theorem dX5_holds_8 : decode cX5_holds 8 = .ok (.getfield 23, 3) := by decide +kernel
theorem dX5_holds_11 : decode cX5_holds 11 = .ok (.iload_n 1, 1) := by decide +kernel
theorem dX5_holds_12 : decode cX5_holds 12 = .ok (.iaload, 1) := by decide +kernel
theorem dX5_holds_13 : decode cX5_holds 13 = .ok (.imul, 1) := by decide +kernel
theorem dX5_holds_14 : decode cX5_holds 14 = .ok (.isub, 1) := by decide +kernel
theorem dX5_holds_15 : decode cX5_holds 15 = .ok (.ireturn, 1) := by decide +kernel
set_option maxRecDepth 20000 in
theorem ggX5_load_X5_get : GoodIn wsX5_load wsX5_get := goodIn_r _ [5, 6, 7, 8, 9, 10, 11, 12, 13, 14] (by decide +kernel) (by decide +kernel)
set_option maxRecDepth 20000 in
theorem gX5_load_X5_get : GoodIn wsX5_load (wsV RX5 48 RX5 yX5_get wsX5_get) := goodIn_app (goodIn_of _ (by decide +kernel)) ggX5_load_X5_get
theorem dX5_load_0 : decode cX5_load 0 = .ok (.aload_n 0, 1) := by decide +kernel
theorem dX5_load_1 : decode cX5_load 1 = .ok (.iload_n 1, 1) := by decide +kernel
theorem dX5_load_2 : decode cX5_load 2 = .ok (.iconst 0, 1) := by decide +kernel
theorem dX5_load_3 : decode cX5_load 3 = .ok (.invokevirtual 48, 3) := by decide +kernel
theorem dX5_load_6 : decode cX5_load 6 = .ok (.aload_n 0, 1) := by decide +kernel
theorem dX5_load_7 : decode cX5_load 7 = .ok (.iload_n 1, 1) := by decide +kernel
theorem dX5_load_8 : decode cX5_load 8 = .ok (.iconst 1, 1) := by decide +kernel
theorem dX5_load_9 : decode cX5_load 9 = .ok (.invokevirtual 48, 3) := by decide +kernel
theorem dX5_load_12 : decode cX5_load 12 = .ok (.iadd, 1) := by decide +kernel
theorem dX5_load_13 : decode cX5_load 13 = .ok (.ireturn, 1) := by decide +kernel
theorem dX5_weather_0 : decode cX5_weather 0 = .ok (.aload_n 0, 1) := by decide +kernel
theorem dX5_weather_1 : decode cX5_weather 1 = .ok (.getfield 3, 3) := by decide +kernel
theorem dX5_weather_4 : decode cX5_weather 4 = .ok (.getfield 52, 3) := by decide +kernel
theorem dX5_weather_7 : decode cX5_weather 7 = .ok (.aload_n 0, 1) := by decide +kernel
theorem dX5_weather_8 : decode cX5_weather 8 = .ok (.getfield 35, 3) := by decide +kernel
theorem dX5_weather_11 : decode cX5_weather 11 = .ok (.bipush 12, 2) := by decide +kernel
theorem dX5_weather_13 : decode cX5_weather 13 = .ok (.idiv, 1) := by decide +kernel
theorem dX5_weather_14 : decode cX5_weather 14 = .ok (.bipush 14, 2) := by decide +kernel
theorem dX5_weather_16 : decode cX5_weather 16 = .ok (.irem, 1) := by decide +kernel
theorem dX5_weather_17 : decode cX5_weather 17 = .ok (.iaload, 1) := by decide +kernel
theorem dX5_weather_18 : decode cX5_weather 18 = .ok (.istore_n 1, 1) := by decide +kernel
theorem dX5_weather_19 : decode cX5_weather 19 = .ok (.iconst 0, 1) := by decide +kernel
theorem dX5_weather_20 : decode cX5_weather 20 = .ok (.istore_n 2, 1) := by decide +kernel
theorem dX5_weather_21 : decode cX5_weather 21 = .ok (.iload_n 2, 1) := by decide +kernel
theorem dX5_weather_22 : decode cX5_weather 22 = .ok (.bipush 36, 2) := by decide +kernel
theorem dX5_weather_24 : decode cX5_weather 24 = .ok (.if_icmp .ge 73, 3) := by decide +kernel
theorem dX5_weather_27 : decode cX5_weather 27 = .ok (.aload_n 0, 1) := by decide +kernel
theorem dX5_weather_28 : decode cX5_weather 28 = .ok (.getfield 19, 3) := by decide +kernel
theorem dX5_weather_31 : decode cX5_weather 31 = .ok (.iload_n 2, 1) := by decide +kernel
theorem dX5_weather_32 : decode cX5_weather 32 = .ok (.iload_n 1, 1) := by decide +kernel
theorem dX5_weather_33 : decode cX5_weather 33 = .ok (.ifCond .ge 19, 3) := by decide +kernel
theorem dX5_weather_36 : decode cX5_weather 36 = .ok (.bipush 60, 2) := by decide +kernel
theorem dX5_weather_38 : decode cX5_weather 38 = .ok (.aload_n 0, 1) := by decide +kernel
theorem dX5_weather_39 : decode cX5_weather 39 = .ok (.getfield 19, 3) := by decide +kernel
theorem dX5_weather_42 : decode cX5_weather 42 = .ok (.iload_n 2, 1) := by decide +kernel
theorem dX5_weather_43 : decode cX5_weather 43 = .ok (.iaload, 1) := by decide +kernel
theorem dX5_weather_44 : decode cX5_weather 44 = .ok (.iload_n 1, 1) := by decide +kernel
theorem dX5_weather_45 : decode cX5_weather 45 = .ok (.isub, 1) := by decide +kernel
theorem dX5_weather_46 : decode cX5_weather 46 = .ok (.invokestatic 55, 3) := by decide +kernel
theorem dX5_weather_49 : decode cX5_weather 49 = .ok (.goto 17, 3) := by decide +kernel
theorem dX5_weather_52 : decode cX5_weather 52 = .ok (.iconst 0, 1) := by decide +kernel
theorem dX5_weather_53 : decode cX5_weather 53 = .ok (.aload_n 0, 1) := by decide +kernel
theorem dX5_weather_54 : decode cX5_weather 54 = .ok (.getfield 19, 3) := by decide +kernel
theorem dX5_weather_57 : decode cX5_weather 57 = .ok (.iload_n 2, 1) := by decide +kernel
theorem dX5_weather_58 : decode cX5_weather 58 = .ok (.iaload, 1) := by decide +kernel
theorem dX5_weather_59 : decode cX5_weather 59 = .ok (.iconst 2, 1) := by decide +kernel
theorem dX5_weather_60 : decode cX5_weather 60 = .ok (.iload_n 1, 1) := by decide +kernel
theorem dX5_weather_61 : decode cX5_weather 61 = .ok (.imul, 1) := by decide +kernel
theorem dX5_weather_62 : decode cX5_weather 62 = .ok (.isub, 1) := by decide +kernel
theorem dX5_weather_63 : decode cX5_weather 63 = .ok (.invokestatic 60, 3) := by decide +kernel
theorem dX5_weather_66 : decode cX5_weather 66 = .ok (.iastore, 1) := by decide +kernel
theorem dX5_weather_67 : decode cX5_weather 67 = .ok (.iload_n 1, 1) := by decide +kernel
theorem dX5_weather_68 : decode cX5_weather 68 = .ok (.bipush (-3), 2) := by decide +kernel
theorem dX5_weather_70 : decode cX5_weather 70 = .ok (.if_icmp .gt 21, 3) := by decide +kernel
theorem dX5_weather_73 : decode cX5_weather 73 = .ok (.aload_n 0, 1) := by decide +kernel
theorem dX5_weather_74 : decode cX5_weather 74 = .ok (.getfield 23, 3) := by decide +kernel
theorem dX5_weather_77 : decode cX5_weather 77 = .ok (.iload_n 2, 1) := by decide +kernel
theorem dX5_weather_78 : decode cX5_weather 78 = .ok (.iconst 0, 1) := by decide +kernel
theorem dX5_weather_79 : decode cX5_weather 79 = .ok (.aload_n 0, 1) := by decide +kernel
theorem dX5_weather_80 : decode cX5_weather 80 = .ok (.getfield 23, 3) := by decide +kernel
theorem dX5_weather_83 : decode cX5_weather 83 = .ok (.iload_n 2, 1) := by decide +kernel
theorem dX5_weather_84 : decode cX5_weather 84 = .ok (.iaload, 1) := by decide +kernel
theorem dX5_weather_85 : decode cX5_weather 85 = .ok (.iconst 1, 1) := by decide +kernel
theorem dX5_weather_86 : decode cX5_weather 86 = .ok (.isub, 1) := by decide +kernel
theorem dX5_weather_87 : decode cX5_weather 87 = .ok (.invokestatic 60, 3) := by decide +kernel
theorem dX5_weather_90 : decode cX5_weather 90 = .ok (.iastore, 1) := by decide +kernel
theorem dX5_weather_91 : decode cX5_weather 91 = .ok (.iinc 2 1, 3) := by decide +kernel
theorem dX5_weather_94 : decode cX5_weather 94 = .ok (.goto (-73), 3) := by decide +kernel
theorem dX5_weather_97 : decode cX5_weather 97 = .ok (.return_, 1) := by decide +kernel
theorem dX5_listen_0 : decode cX5_listen 0 = .ok (.iconst 0, 1) := by decide +kernel
theorem dX5_listen_1 : decode cX5_listen 1 = .ok (.istore_n 1, 1) := by decide +kernel
theorem dX5_listen_2 : decode cX5_listen 2 = .ok (.iload_n 1, 1) := by decide +kernel
theorem dX5_listen_3 : decode cX5_listen 3 = .ok (.bipush 36, 2) := by decide +kernel
theorem dX5_listen_5 : decode cX5_listen 5 = .ok (.if_icmp .ge 55, 3) := by decide +kernel
theorem dX5_listen_8 : decode cX5_listen 8 = .ok (.aload_n 0, 1) := by decide +kernel
theorem dX5_listen_9 : decode cX5_listen 9 = .ok (.getfield 15, 3) := by decide +kernel
theorem dX5_listen_12 : decode cX5_listen 12 = .ok (.iconst (-1), 1) := by decide +kernel
theorem dX5_listen_13 : decode cX5_listen 13 = .ok (.if_icmp .ne 47, 3) := by decide +kernel
theorem dX5_listen_16 : decode cX5_listen 16 = .ok (.aload_n 0, 1) := by decide +kernel
theorem dX5_listen_17 : decode cX5_listen 17 = .ok (.getfield 19, 3) := by decide +kernel
theorem dX5_listen_20 : decode cX5_listen 20 = .ok (.iload_n 1, 1) := by decide +kernel
theorem dX5_listen_21 : decode cX5_listen 21 = .ok (.iaload, 1) := by decide +kernel
theorem dX5_listen_22 : decode cX5_listen 22 = .ok (.aload_n 0, 1) := by decide +kernel
theorem dX5_listen_23 : decode cX5_listen 23 = .ok (.getfield 19, 3) := by decide +kernel
theorem dX5_listen_26 : decode cX5_listen 26 = .ok (.iload_n 1, 1) := by decide +kernel
theorem dX5_listen_27 : decode cX5_listen 27 = .ok (.iconst 1, 1) := by decide +kernel
theorem dX5_listen_28 : decode cX5_listen 28 = .ok (.iadd, 1) := by decide +kernel
theorem dX5_listen_29 : decode cX5_listen 29 = .ok (.iaload, 1) := by decide +kernel
theorem dX5_listen_30 : decode cX5_listen 30 = .ok (.iadd, 1) := by decide +kernel
theorem dX5_listen_31 : decode cX5_listen 31 = .ok (.aload_n 0, 1) := by decide +kernel
theorem dX5_listen_32 : decode cX5_listen 32 = .ok (.getfield 19, 3) := by decide +kernel
theorem dX5_listen_35 : decode cX5_listen 35 = .ok (.iload_n 1, 1) := by decide +kernel
theorem dX5_listen_36 : decode cX5_listen 36 = .ok (.iconst 2, 1) := by decide +kernel
theorem dX5_listen_37 : decode cX5_listen 37 = .ok (.iadd, 1) := by decide +kernel
theorem dX5_listen_38 : decode cX5_listen 38 = .ok (.iaload, 1) := by decide +kernel
theorem dX5_listen_39 : decode cX5_listen 39 = .ok (.iadd, 1) := by decide +kernel
theorem dX5_listen_40 : decode cX5_listen 40 = .ok (.ifCond .ne 14, 3) := by decide +kernel
theorem dX5_listen_43 : decode cX5_listen 43 = .ok (.aload_n 0, 1) := by decide +kernel
theorem dX5_listen_44 : decode cX5_listen 44 = .ok (.aload_n 0, 1) := by decide +kernel
theorem dX5_listen_45 : decode cX5_listen 45 = .ok (.getfield 35, 3) := by decide +kernel
theorem dX5_listen_48 : decode cX5_listen 48 = .ok (.bipush 12, 2) := by decide +kernel
theorem dX5_listen_50 : decode cX5_listen 50 = .ok (.idiv, 1) := by decide +kernel
theorem dX5_listen_51 : decode cX5_listen 51 = .ok (.putfield 15, 3) := by decide +kernel
theorem dX5_listen_54 : decode cX5_listen 54 = .ok (.iinc 1 3, 3) := by decide +kernel
theorem dX5_listen_57 : decode cX5_listen 57 = .ok (.goto (-55), 3) := by decide +kernel
theorem dX5_listen_60 : decode cX5_listen 60 = .ok (.return_, 1) := by decide +kernel
set_option maxRecDepth 20000 in
theorem ggX5_next_X5_get : GoodIn wsX5_next wsX5_get := goodIn_r _ [12, 13, 24, 25, 26, 27, 28, 29, 30, 31] (by decide +kernel) (by decide +kernel)
set_option maxRecDepth 20000 in
theorem gX5_next_X5_get : GoodIn wsX5_next (wsV RX5 48 RX5 yX5_get wsX5_get) := goodIn_app (goodIn_of _ (by decide +kernel)) ggX5_next_X5_get
set_option maxRecDepth 20000 in
theorem ggX5_next_X5_holds : GoodIn wsX5_next wsX5_holds := goodIn_r _ [17, 18, 19, 24, 25, 26, 27, 28, 29, 30, 31] (by decide +kernel) (by decide +kernel)
set_option maxRecDepth 20000 in
theorem gX5_next_X5_holds : GoodIn wsX5_next (wsV RX5 63 RX5 yX5_holds wsX5_holds) := goodIn_app (goodIn_of _ (by decide +kernel)) ggX5_next_X5_holds
set_option maxRecDepth 20000 in
theorem ggX5_next_X5_load : GoodIn wsX5_next wsX5_load := goodIn_r _ [23, 8, 9, 10, 11, 12, 13, 24, 25, 26, 27, 28, 29, 30, 31] (by decide +kernel) (by decide +kernel)
set_option maxRecDepth 20000 in
theorem gX5_next_X5_load : GoodIn wsX5_next (wsV RX5 67 RX5 yX5_load wsX5_load) := goodIn_app (goodIn_of _ (by decide +kernel)) ggX5_next_X5_load
theorem dX5_next_0 : decode cX5_next 0 = .ok (.aload_n 0, 1) := by decide +kernel
theorem dX5_next_1 : decode cX5_next 1 = .ok (.iload_n 1, 1) := by decide +kernel
theorem dX5_next_2 : decode cX5_next 2 = .ok (.iconst 3, 1) := by decide +kernel
theorem dX5_next_3 : decode cX5_next 3 = .ok (.invokevirtual 48, 3) := by decide +kernel
theorem dX5_next_6 : decode cX5_next 6 = .ok (.istore_n 2, 1) := by decide +kernel
theorem dX5_next_7 : decode cX5_next 7 = .ok (.iload_n 2, 1) := by decide +kernel
theorem dX5_next_8 : decode cX5_next 8 = .ok (.aload_n 0, 1) := by decide +kernel
theorem dX5_next_9 : decode cX5_next 9 = .ok (.iload_n 1, 1) := by decide +kernel
theorem dX5_next_10 : decode cX5_next 10 = .ok (.iconst 5, 1) := by decide +kernel
theorem dX5_next_11 : decode cX5_next 11 = .ok (.invokevirtual 48, 3) := by decide +kernel
theorem dX5_next_14 : decode cX5_next 14 = .ok (.if_icmp .ge 9, 3) := by decide +kernel
theorem dX5_next_17 : decode cX5_next 17 = .ok (.iload_n 2, 1) := by decide +kernel
theorem dX5_next_18 : decode cX5_next 18 = .ok (.iconst 1, 1) := by decide +kernel
theorem dX5_next_19 : decode cX5_next 19 = .ok (.iadd, 1) := by decide +kernel
theorem dX5_next_20 : decode cX5_next 20 = .ok (.goto 6, 3) := by decide +kernel
theorem dX5_next_23 : decode cX5_next 23 = .ok (.iload_n 2, 1) := by decide +kernel
theorem dX5_next_24 : decode cX5_next 24 = .ok (.iconst 1, 1) := by decide +kernel
theorem dX5_next_25 : decode cX5_next 25 = .ok (.isub, 1) := by decide +kernel
theorem dX5_next_26 : decode cX5_next 26 = .ok (.istore_n 3, 1) := by decide +kernel
theorem dX5_next_27 : decode cX5_next 27 = .ok (.iconst (-1), 1) := by decide +kernel
theorem dX5_next_28 : decode cX5_next 28 = .ok (.istore 4, 2) := by decide +kernel
theorem dX5_next_30 : decode cX5_next 30 = .ok (.iconst 0, 1) := by decide +kernel
theorem dX5_next_31 : decode cX5_next 31 = .ok (.aload_n 0, 1) := by decide +kernel
theorem dX5_next_32 : decode cX5_next 32 = .ok (.iload_n 1, 1) := by decide +kernel
theorem dX5_next_33 : decode cX5_next 33 = .ok (.iconst 4, 1) := by decide +kernel
theorem dX5_next_34 : decode cX5_next 34 = .ok (.invokevirtual 48, 3) := by decide +kernel
theorem dX5_next_37 : decode cX5_next 37 = .ok (.iconst 1, 1) := by decide +kernel
theorem dX5_next_38 : decode cX5_next 38 = .ok (.isub, 1) := by decide +kernel
theorem dX5_next_39 : decode cX5_next 39 = .ok (.invokestatic 60, 3) := by decide +kernel
theorem dX5_next_42 : decode cX5_next 42 = .ok (.istore 5, 2) := by decide +kernel
theorem dX5_next_44 : decode cX5_next 44 = .ok (.iload 5, 2) := by decide +kernel
theorem dX5_next_46 : decode cX5_next 46 = .ok (.iconst 2, 1) := by decide +kernel
theorem dX5_next_47 : decode cX5_next 47 = .ok (.aload_n 0, 1) := by decide +kernel
theorem dX5_next_48 : decode cX5_next 48 = .ok (.iload_n 1, 1) := by decide +kernel
theorem dX5_next_49 : decode cX5_next 49 = .ok (.iconst 4, 1) := by decide +kernel
theorem dX5_next_50 : decode cX5_next 50 = .ok (.invokevirtual 48, 3) := by decide +kernel
theorem dX5_next_53 : decode cX5_next 53 = .ok (.iconst 1, 1) := by decide +kernel
theorem dX5_next_54 : decode cX5_next 54 = .ok (.iadd, 1) := by decide +kernel
theorem dX5_next_55 : decode cX5_next 55 = .ok (.invokestatic 55, 3) := by decide +kernel
theorem dX5_next_58 : decode cX5_next 58 = .ok (.if_icmp .gt 59, 3) := by decide +kernel
theorem dX5_next_61 : decode cX5_next 61 = .ok (.iconst 3, 1) := by decide +kernel
theorem dX5_next_62 : decode cX5_next 62 = .ok (.iload_n 3, 1) := by decide +kernel
theorem dX5_next_63 : decode cX5_next 63 = .ok (.imul, 1) := by decide +kernel
theorem dX5_next_64 : decode cX5_next 64 = .ok (.iload 5, 2) := by decide +kernel
theorem dX5_next_66 : decode cX5_next 66 = .ok (.iadd, 1) := by decide +kernel
theorem dX5_next_67 : decode cX5_next 67 = .ok (.istore 6, 2) := by decide +kernel
theorem dX5_next_69 : decode cX5_next 69 = .ok (.aload_n 0, 1) := by decide +kernel
theorem dX5_next_70 : decode cX5_next 70 = .ok (.iload 6, 2) := by decide +kernel
theorem dX5_next_72 : decode cX5_next 72 = .ok (.invokevirtual 63, 3) := by decide +kernel
theorem dX5_next_75 : decode cX5_next 75 = .ok (.aload_n 0, 1) := by decide +kernel
theorem dX5_next_76 : decode cX5_next 76 = .ok (.iload_n 1, 1) := by decide +kernel
theorem dX5_next_77 : decode cX5_next 77 = .ok (.invokevirtual 67, 3) := by decide +kernel
theorem dX5_next_80 : decode cX5_next 80 = .ok (.if_icmp .ge 6, 3) := by decide +kernel
theorem dX5_next_83 : decode cX5_next 83 = .ok (.goto 28, 3) := by decide +kernel
theorem dX5_next_86 : decode cX5_next 86 = .ok (.iload 4, 2) := by decide +kernel
theorem dX5_next_88 : decode cX5_next 88 = .ok (.iconst (-1), 1) := by decide +kernel
theorem dX5_next_89 : decode cX5_next 89 = .ok (.if_icmp .eq 18, 3) := by decide +kernel
theorem dX5_next_92 : decode cX5_next 92 = .ok (.aload_n 0, 1) := by decide +kernel
theorem dX5_next_93 : decode cX5_next 93 = .ok (.iload 6, 2) := by decide +kernel
theorem dX5_next_95 : decode cX5_next 95 = .ok (.invokevirtual 63, 3) := by decide +kernel
theorem dX5_next_98 : decode cX5_next 98 = .ok (.aload_n 0, 1) := by decide +kernel
theorem dX5_next_99 : decode cX5_next 99 = .ok (.iload 4, 2) := by decide +kernel
theorem dX5_next_101 : decode cX5_next 101 = .ok (.invokevirtual 63, 3) := by decide +kernel
theorem dX5_next_104 : decode cX5_next 104 = .ok (.if_icmp .le 7, 3) := by decide +kernel
theorem dX5_next_107 : decode cX5_next 107 = .ok (.iload 6, 2) := by decide +kernel
theorem dX5_next_109 : decode cX5_next 109 = .ok (.istore 4, 2) := by decide +kernel
theorem dX5_next_111 : decode cX5_next 111 = .ok (.iinc 5 1, 3) := by decide +kernel
theorem dX5_next_114 : decode cX5_next 114 = .ok (.goto (-70), 3) := by decide +kernel
theorem dX5_next_117 : decode cX5_next 117 = .ok (.iload 4, 2) := by decide +kernel
theorem dX5_next_119 : decode cX5_next 119 = .ok (.ireturn, 1) := by decide +kernel
set_option maxRecDepth 20000 in
theorem ggX5_step_X5_get : GoodIn wsX5_step wsX5_get := goodIn_r _ [12, 13, 33, 34, 35, 36, 37, 38, 39, 40] (by decide +kernel) (by decide +kernel)
set_option maxRecDepth 20000 in
theorem gX5_step_X5_get : GoodIn wsX5_step (wsV RX5 48 RX5 yX5_get wsX5_get) := goodIn_app (goodIn_of _ (by decide +kernel)) ggX5_step_X5_get
set_option maxRecDepth 20000 in
theorem ggX5_step_X5_next : GoodIn wsX5_step wsX5_next := goodIn_r _ [17, 18, 19, 4, 20, 2, 3, 5, 8, 9, 10, 11, 12, 13, 21, 22, 23, 24, 6, 1, 25, 26, 27, 28, 33, 34, 35, 36, 37, 38, 39, 40] (by decide +kernel) (by decide +kernel)
set_option maxRecDepth 20000 in
theorem gX5_step_X5_next : GoodIn wsX5_step (wsV RX5 70 RX5 yX5_next wsX5_next) := goodIn_app (goodIn_of _ (by decide +kernel)) ggX5_step_X5_next
set_option maxRecDepth 20000 in
theorem ggX5_step_X5_set : GoodIn wsX5_step wsX5_set := goodIn_r _ [32, 13, 33, 34, 35, 36, 37, 38, 39, 40] (by decide +kernel) (by decide +kernel)
set_option maxRecDepth 20000 in
theorem gX5_step_X5_set : GoodIn wsX5_step (wsV RX5 73 RX5 yX5_set wsX5_set) := goodIn_app (goodIn_of _ (by decide +kernel)) ggX5_step_X5_set
set_option maxRecDepth 20000 in
theorem ggX5_step_X5_holds : GoodIn wsX5_step wsX5_holds := goodIn_r _ [24, 6, 1, 33, 34, 35, 36, 37, 38, 39, 40] (by decide +kernel) (by decide +kernel)
set_option maxRecDepth 20000 in
theorem gX5_step_X5_holds : GoodIn wsX5_step (wsV RX5 63 RX5 yX5_holds wsX5_holds) := goodIn_app (goodIn_of _ (by decide +kernel)) ggX5_step_X5_holds
set_option maxRecDepth 20000 in
theorem ggX5_step_X5_load : GoodIn wsX5_step wsX5_load := goodIn_r _ [28, 8, 9, 10, 11, 12, 13, 33, 34, 35, 36, 37, 38, 39, 40] (by decide +kernel) (by decide +kernel)
set_option maxRecDepth 20000 in
theorem gX5_step_X5_load : GoodIn wsX5_step (wsV RX5 67 RX5 yX5_load wsX5_load) := goodIn_app (goodIn_of _ (by decide +kernel)) ggX5_step_X5_load
theorem dX5_step_0 : decode cX5_step 0 = .ok (.aload_n 0, 1) := by decide +kernel
theorem dX5_step_1 : decode cX5_step 1 = .ok (.iload_n 1, 1) := by decide +kernel
theorem dX5_step_2 : decode cX5_step 2 = .ok (.iconst 2, 1) := by decide +kernel
theorem dX5_step_3 : decode cX5_step 3 = .ok (.invokevirtual 48, 3) := by decide +kernel
theorem dX5_step_6 : decode cX5_step 6 = .ok (.ifCond .ne 7, 3) := by decide +kernel
theorem dX5_step_9 : decode cX5_step 9 = .ok (.iconst (-1), 1) := by decide +kernel
theorem dX5_step_10 : decode cX5_step 10 = .ok (.goto 8, 3) := by decide +kernel
theorem dX5_step_13 : decode cX5_step 13 = .ok (.aload_n 0, 1) := by decide +kernel
theorem dX5_step_14 : decode cX5_step 14 = .ok (.iload_n 1, 1) := by decide +kernel
theorem dX5_step_15 : decode cX5_step 15 = .ok (.invokevirtual 70, 3) := by decide +kernel
theorem dX5_step_18 : decode cX5_step 18 = .ok (.istore_n 2, 1) := by decide +kernel
theorem dX5_step_19 : decode cX5_step 19 = .ok (.iload_n 2, 1) := by decide +kernel
theorem dX5_step_20 : decode cX5_step 20 = .ok (.iconst (-1), 1) := by decide +kernel
theorem dX5_step_21 : decode cX5_step 21 = .ok (.if_icmp .ne 12, 3) := by decide +kernel
theorem dX5_step_24 : decode cX5_step 24 = .ok (.aload_n 0, 1) := by decide +kernel
theorem dX5_step_25 : decode cX5_step 25 = .ok (.iload_n 1, 1) := by decide +kernel
theorem dX5_step_26 : decode cX5_step 26 = .ok (.bipush 6, 2) := by decide +kernel
theorem dX5_step_28 : decode cX5_step 28 = .ok (.iconst 0, 1) := by decide +kernel
theorem dX5_step_29 : decode cX5_step 29 = .ok (.invokevirtual 73, 3) := by decide +kernel
theorem dX5_step_32 : decode cX5_step 32 = .ok (.return_, 1) := by decide +kernel
theorem dX5_step_33 : decode cX5_step 33 = .ok (.aload_n 0, 1) := by decide +kernel
theorem dX5_step_34 : decode cX5_step 34 = .ok (.iload_n 1, 1) := by decide +kernel
theorem dX5_step_35 : decode cX5_step 35 = .ok (.iconst 2, 1) := by decide +kernel
theorem dX5_step_36 : decode cX5_step 36 = .ok (.aload_n 0, 1) := by decide +kernel
theorem dX5_step_37 : decode cX5_step 37 = .ok (.iload_n 1, 1) := by decide +kernel
theorem dX5_step_38 : decode cX5_step 38 = .ok (.iconst 2, 1) := by decide +kernel
theorem dX5_step_39 : decode cX5_step 39 = .ok (.invokevirtual 48, 3) := by decide +kernel
theorem dX5_step_42 : decode cX5_step 42 = .ok (.iconst 1, 1) := by decide +kernel
theorem dX5_step_43 : decode cX5_step 43 = .ok (.isub, 1) := by decide +kernel
theorem dX5_step_44 : decode cX5_step 44 = .ok (.invokevirtual 73, 3) := by decide +kernel
theorem dX5_step_47 : decode cX5_step 47 = .ok (.aload_n 0, 1) := by decide +kernel
theorem dX5_step_48 : decode cX5_step 48 = .ok (.iload_n 1, 1) := by decide +kernel
theorem dX5_step_49 : decode cX5_step 49 = .ok (.bipush 7, 2) := by decide +kernel
theorem dX5_step_51 : decode cX5_step 51 = .ok (.aload_n 0, 1) := by decide +kernel
theorem dX5_step_52 : decode cX5_step 52 = .ok (.iload_n 1, 1) := by decide +kernel
theorem dX5_step_53 : decode cX5_step 53 = .ok (.bipush 7, 2) := by decide +kernel
theorem dX5_step_55 : decode cX5_step 55 = .ok (.invokevirtual 48, 3) := by decide +kernel
theorem dX5_step_58 : decode cX5_step 58 = .ok (.iconst 1, 1) := by decide +kernel
theorem dX5_step_59 : decode cX5_step 59 = .ok (.iadd, 1) := by decide +kernel
theorem dX5_step_60 : decode cX5_step 60 = .ok (.invokevirtual 73, 3) := by decide +kernel
theorem dX5_step_63 : decode cX5_step 63 = .ok (.aload_n 0, 1) := by decide +kernel
theorem dX5_step_64 : decode cX5_step 64 = .ok (.iload_n 1, 1) := by decide +kernel
theorem dX5_step_65 : decode cX5_step 65 = .ok (.iconst 3, 1) := by decide +kernel
theorem dX5_step_66 : decode cX5_step 66 = .ok (.iload_n 2, 1) := by decide +kernel
theorem dX5_step_67 : decode cX5_step 67 = .ok (.iconst 3, 1) := by decide +kernel
theorem dX5_step_68 : decode cX5_step 68 = .ok (.idiv, 1) := by decide +kernel
theorem dX5_step_69 : decode cX5_step 69 = .ok (.invokevirtual 73, 3) := by decide +kernel
theorem dX5_step_72 : decode cX5_step 72 = .ok (.aload_n 0, 1) := by decide +kernel
theorem dX5_step_73 : decode cX5_step 73 = .ok (.iload_n 1, 1) := by decide +kernel
theorem dX5_step_74 : decode cX5_step 74 = .ok (.iconst 4, 1) := by decide +kernel
theorem dX5_step_75 : decode cX5_step 75 = .ok (.iload_n 2, 1) := by decide +kernel
theorem dX5_step_76 : decode cX5_step 76 = .ok (.iconst 3, 1) := by decide +kernel
theorem dX5_step_77 : decode cX5_step 77 = .ok (.irem, 1) := by decide +kernel
theorem dX5_step_78 : decode cX5_step 78 = .ok (.invokevirtual 73, 3) := by decide +kernel
theorem dX5_step_81 : decode cX5_step 81 = .ok (.aload_n 0, 1) := by decide +kernel
theorem dX5_step_82 : decode cX5_step 82 = .ok (.iload_n 2, 1) := by decide +kernel
theorem dX5_step_83 : decode cX5_step 83 = .ok (.invokevirtual 63, 3) := by decide +kernel
theorem dX5_step_86 : decode cX5_step 86 = .ok (.iconst 2, 1) := by decide +kernel
theorem dX5_step_87 : decode cX5_step 87 = .ok (.aload_n 0, 1) := by decide +kernel
theorem dX5_step_88 : decode cX5_step 88 = .ok (.iload_n 1, 1) := by decide +kernel
theorem dX5_step_89 : decode cX5_step 89 = .ok (.invokevirtual 67, 3) := by decide +kernel
theorem dX5_step_92 : decode cX5_step 92 = .ok (.imul, 1) := by decide +kernel
theorem dX5_step_93 : decode cX5_step 93 = .ok (.if_icmp .ge 22, 3) := by decide +kernel
theorem dX5_step_96 : decode cX5_step 96 = .ok (.aload_n 0, 1) := by decide +kernel
theorem dX5_step_97 : decode cX5_step 97 = .ok (.getfield 23, 3) := by decide +kernel
theorem dX5_step_100 : decode cX5_step 100 = .ok (.iload_n 2, 1) := by decide +kernel
theorem dX5_step_101 : decode cX5_step 101 = .ok (.bipush 9, 2) := by decide +kernel
theorem dX5_step_103 : decode cX5_step 103 = .ok (.aload_n 0, 1) := by decide +kernel
theorem dX5_step_104 : decode cX5_step 104 = .ok (.getfield 23, 3) := by decide +kernel
theorem dX5_step_107 : decode cX5_step 107 = .ok (.iload_n 2, 1) := by decide +kernel
theorem dX5_step_108 : decode cX5_step 108 = .ok (.iaload, 1) := by decide +kernel
theorem dX5_step_109 : decode cX5_step 109 = .ok (.iconst 1, 1) := by decide +kernel
theorem dX5_step_110 : decode cX5_step 110 = .ok (.iadd, 1) := by decide +kernel
theorem dX5_step_111 : decode cX5_step 111 = .ok (.invokestatic 55, 3) := by decide +kernel
theorem dX5_step_114 : decode cX5_step 114 = .ok (.iastore, 1) := by decide +kernel
theorem dX5_step_115 : decode cX5_step 115 = .ok (.aload_n 0, 1) := by decide +kernel
theorem dX5_step_116 : decode cX5_step 116 = .ok (.iload_n 2, 1) := by decide +kernel
theorem dX5_step_117 : decode cX5_step 117 = .ok (.invokevirtual 63, 3) := by decide +kernel
theorem dX5_step_120 : decode cX5_step 120 = .ok (.aload_n 0, 1) := by decide +kernel
theorem dX5_step_121 : decode cX5_step 121 = .ok (.iload_n 1, 1) := by decide +kernel
theorem dX5_step_122 : decode cX5_step 122 = .ok (.invokevirtual 67, 3) := by decide +kernel
theorem dX5_step_125 : decode cX5_step 125 = .ok (.if_icmp .ge 28, 3) := by decide +kernel
theorem dX5_step_128 : decode cX5_step 128 = .ok (.aload_n 0, 1) := by decide +kernel
theorem dX5_step_129 : decode cX5_step 129 = .ok (.iload_n 1, 1) := by decide +kernel
theorem dX5_step_130 : decode cX5_step 130 = .ok (.bipush 6, 2) := by decide +kernel
theorem dX5_step_132 : decode cX5_step 132 = .ok (.iconst 3, 1) := by decide +kernel
theorem dX5_step_133 : decode cX5_step 133 = .ok (.invokevirtual 73, 3) := by decide +kernel
theorem dX5_step_136 : decode cX5_step 136 = .ok (.aload_n 0, 1) := by decide +kernel
theorem dX5_step_137 : decode cX5_step 137 = .ok (.iload_n 1, 1) := by decide +kernel
theorem dX5_step_138 : decode cX5_step 138 = .ok (.iconst 1, 1) := by decide +kernel
theorem dX5_step_139 : decode cX5_step 139 = .ok (.iconst 0, 1) := by decide +kernel
theorem dX5_step_140 : decode cX5_step 140 = .ok (.invokevirtual 73, 3) := by decide +kernel
theorem dX5_step_143 : decode cX5_step 143 = .ok (.aload_n 0, 1) := by decide +kernel
theorem dX5_step_144 : decode cX5_step 144 = .ok (.getfield 19, 3) := by decide +kernel
theorem dX5_step_147 : decode cX5_step 147 = .ok (.iload_n 2, 1) := by decide +kernel
theorem dX5_step_148 : decode cX5_step 148 = .ok (.iconst 0, 1) := by decide +kernel
theorem dX5_step_149 : decode cX5_step 149 = .ok (.iastore, 1) := by decide +kernel
theorem dX5_step_150 : decode cX5_step 150 = .ok (.goto 33, 3) := by decide +kernel
theorem dX5_step_153 : decode cX5_step 153 = .ok (.iload_n 2, 1) := by decide +kernel
theorem dX5_step_154 : decode cX5_step 154 = .ok (.iconst 3, 1) := by decide +kernel
theorem dX5_step_155 : decode cX5_step 155 = .ok (.idiv, 1) := by decide +kernel
theorem dX5_step_156 : decode cX5_step 156 = .ok (.aload_n 0, 1) := by decide +kernel
theorem dX5_step_157 : decode cX5_step 157 = .ok (.iload_n 1, 1) := by decide +kernel
theorem dX5_step_158 : decode cX5_step 158 = .ok (.iconst 5, 1) := by decide +kernel
theorem dX5_step_159 : decode cX5_step 159 = .ok (.invokevirtual 48, 3) := by decide +kernel
theorem dX5_step_162 : decode cX5_step 162 = .ok (.if_icmp .ne 21, 3) := by decide +kernel
theorem dX5_step_165 : decode cX5_step 165 = .ok (.aload_n 0, 1) := by decide +kernel
theorem dX5_step_166 : decode cX5_step 166 = .ok (.iload_n 1, 1) := by decide +kernel
theorem dX5_step_167 : decode cX5_step 167 = .ok (.bipush 6, 2) := by decide +kernel
theorem dX5_step_169 : decode cX5_step 169 = .ok (.iconst 2, 1) := by decide +kernel
theorem dX5_step_170 : decode cX5_step 170 = .ok (.invokevirtual 73, 3) := by decide +kernel
theorem dX5_step_173 : decode cX5_step 173 = .ok (.aload_n 0, 1) := by decide +kernel
theorem dX5_step_174 : decode cX5_step 174 = .ok (.dup, 1) := by decide +kernel
theorem dX5_step_175 : decode cX5_step 175 = .ok (.getfield 41, 3) := by decide +kernel
theorem dX5_step_178 : decode cX5_step 178 = .ok (.iconst 1, 1) := by decide +kernel
theorem dX5_step_179 : decode cX5_step 179 = .ok (.iadd, 1) := by decide +kernel
theorem dX5_step_180 : decode cX5_step 180 = .ok (.putfield 41, 3) := by decide +kernel
theorem dX5_step_183 : decode cX5_step 183 = .ok (.return_, 1) := by decide +kernel
set_option maxRecDepth 20000 in
theorem ggX5_pass_X5_weather : GoodIn wsX5_pass wsX5_weather := goodIn_r _ [12, 3, 1, 13, 4, 5, 6, 7, 14, 15, 16, 17, 49, 50, 51, 52, 53, 54, 55, 56, 57, 58, 59, 60, 61, 62, 63, 64] (by decide +kernel) (by decide +kernel)
set_option maxRecDepth 20000 in
theorem gX5_pass_X5_weather : GoodIn wsX5_pass (wsV RX5 77 RX5 yX5_weather wsX5_weather) := goodIn_app (goodIn_of _ (by decide +kernel)) ggX5_pass_X5_weather
set_option maxRecDepth 20000 in
theorem ggX5_pass_X5_listen : GoodIn wsX5_pass wsX5_listen := goodIn_r _ [21, 22, 13, 1, 49, 50, 51, 52, 53, 54, 55, 56] (by decide +kernel) (by decide +kernel)
set_option maxRecDepth 20000 in
theorem gX5_pass_X5_listen : GoodIn wsX5_pass (wsV RX5 80 RX5 yX5_listen wsX5_listen) := goodIn_app (goodIn_of _ (by decide +kernel)) ggX5_pass_X5_listen
set_option maxRecDepth 20000 in
theorem ggX5_pass_X5_get : GoodIn wsX5_pass wsX5_get := goodIn_r _ [26, 27, 49, 50, 51, 52, 53, 54, 55, 56] (by decide +kernel) (by decide +kernel)
set_option maxRecDepth 20000 in
theorem gX5_pass_X5_get : GoodIn wsX5_pass (wsV RX5 48 RX5 yX5_get wsX5_get) := goodIn_app (goodIn_of _ (by decide +kernel)) ggX5_pass_X5_get
set_option maxRecDepth 20000 in
theorem ggX5_pass_X5_step : GoodIn wsX5_pass wsX5_step := goodIn_r _ [31, 17, 4, 5, 6, 7, 13, 32, 23, 24, 25, 11, 26, 27, 33, 34, 35, 36, 14, 15, 16, 37, 38, 39, 40, 41, 42, 43, 44, 45, 46, 47, 48, 49, 50, 51, 52, 53, 54, 55, 56] (by decide +kernel) (by decide +kernel)
set_option maxRecDepth 20000 in
theorem gX5_pass_X5_step : GoodIn wsX5_pass (wsV RX5 83 RX5 yX5_step wsX5_step) := goodIn_app (goodIn_of _ (by decide +kernel)) ggX5_pass_X5_step
set_option maxRecDepth 20000 in
theorem ggX5_pass_X5_set : GoodIn wsX5_pass wsX5_set := goodIn_r _ [48, 27, 49, 50, 51, 52, 53, 54, 55, 56] (by decide +kernel) (by decide +kernel)
set_option maxRecDepth 20000 in
theorem gX5_pass_X5_set : GoodIn wsX5_pass (wsV RX5 73 RX5 yX5_set wsX5_set) := goodIn_app (goodIn_of _ (by decide +kernel)) ggX5_pass_X5_set
theorem dX5_pass_0 : decode cX5_pass 0 = .ok (.aload_n 0, 1) := by decide +kernel
theorem dX5_pass_1 : decode cX5_pass 1 = .ok (.getfield 35, 3) := by decide +kernel
theorem dX5_pass_4 : decode cX5_pass 4 = .ok (.bipush 12, 2) := by decide +kernel
theorem dX5_pass_6 : decode cX5_pass 6 = .ok (.irem, 1) := by decide +kernel
theorem dX5_pass_7 : decode cX5_pass 7 = .ok (.ifCond .ne 7, 3) := by decide +kernel
theorem dX5_pass_10 : decode cX5_pass 10 = .ok (.aload_n 0, 1) := by decide +kernel
theorem dX5_pass_11 : decode cX5_pass 11 = .ok (.invokevirtual 77, 3) := by decide +kernel
theorem dX5_pass_14 : decode cX5_pass 14 = .ok (.aload_n 0, 1) := by decide +kernel
theorem dX5_pass_15 : decode cX5_pass 15 = .ok (.invokevirtual 80, 3) := by decide +kernel
theorem dX5_pass_18 : decode cX5_pass 18 = .ok (.iconst 0, 1) := by decide +kernel
theorem dX5_pass_19 : decode cX5_pass 19 = .ok (.istore_n 1, 1) := by decide +kernel
theorem dX5_pass_20 : decode cX5_pass 20 = .ok (.iload_n 1, 1) := by decide +kernel
theorem dX5_pass_21 : decode cX5_pass 21 = .ok (.aload_n 0, 1) := by decide +kernel
theorem dX5_pass_22 : decode cX5_pass 22 = .ok (.getfield 38, 3) := by decide +kernel
theorem dX5_pass_25 : decode cX5_pass 25 = .ok (.if_icmp .ge 44, 3) := by decide +kernel
theorem dX5_pass_28 : decode cX5_pass 28 = .ok (.iconst 0, 1) := by decide +kernel
theorem dX5_pass_29 : decode cX5_pass 29 = .ok (.istore_n 2, 1) := by decide +kernel
theorem dX5_pass_30 : decode cX5_pass 30 = .ok (.iload_n 2, 1) := by decide +kernel
theorem dX5_pass_31 : decode cX5_pass 31 = .ok (.aload_n 0, 1) := by decide +kernel
theorem dX5_pass_32 : decode cX5_pass 32 = .ok (.iload_n 1, 1) := by decide +kernel
theorem dX5_pass_33 : decode cX5_pass 33 = .ok (.bipush 8, 2) := by decide +kernel
theorem dX5_pass_35 : decode cX5_pass 35 = .ok (.invokevirtual 48, 3) := by decide +kernel
theorem dX5_pass_38 : decode cX5_pass 38 = .ok (.if_icmp .gt 25, 3) := by decide +kernel
theorem dX5_pass_41 : decode cX5_pass 41 = .ok (.aload_n 0, 1) := by decide +kernel
theorem dX5_pass_42 : decode cX5_pass 42 = .ok (.iload_n 1, 1) := by decide +kernel
theorem dX5_pass_43 : decode cX5_pass 43 = .ok (.bipush 6, 2) := by decide +kernel
theorem dX5_pass_45 : decode cX5_pass 45 = .ok (.invokevirtual 48, 3) := by decide +kernel
theorem dX5_pass_48 : decode cX5_pass 48 = .ok (.iconst 1, 1) := by decide +kernel
theorem dX5_pass_49 : decode cX5_pass 49 = .ok (.if_icmp .ne 14, 3) := by decide +kernel
theorem dX5_pass_52 : decode cX5_pass 52 = .ok (.aload_n 0, 1) := by decide +kernel
theorem dX5_pass_53 : decode cX5_pass 53 = .ok (.iload_n 1, 1) := by decide +kernel
theorem dX5_pass_54 : decode cX5_pass 54 = .ok (.invokevirtual 83, 3) := by decide +kernel
theorem dX5_pass_57 : decode cX5_pass 57 = .ok (.iinc 2 1, 3) := by decide +kernel
theorem dX5_pass_60 : decode cX5_pass 60 = .ok (.goto (-30), 3) := by decide +kernel
theorem dX5_pass_63 : decode cX5_pass 63 = .ok (.iinc 1 1, 3) := by decide +kernel
theorem dX5_pass_66 : decode cX5_pass 66 = .ok (.goto (-46), 3) := by decide +kernel
theorem dX5_pass_69 : decode cX5_pass 69 = .ok (.iconst 0, 1) := by decide +kernel
theorem dX5_pass_70 : decode cX5_pass 70 = .ok (.istore_n 1, 1) := by decide +kernel
theorem dX5_pass_71 : decode cX5_pass 71 = .ok (.iload_n 1, 1) := by decide +kernel
theorem dX5_pass_72 : decode cX5_pass 72 = .ok (.aload_n 0, 1) := by decide +kernel
theorem dX5_pass_73 : decode cX5_pass 73 = .ok (.getfield 38, 3) := by decide +kernel
theorem dX5_pass_76 : decode cX5_pass 76 = .ok (.if_icmp .ge 92, 3) := by decide +kernel
theorem dX5_pass_79 : decode cX5_pass 79 = .ok (.aload_n 0, 1) := by decide +kernel
theorem dX5_pass_80 : decode cX5_pass 80 = .ok (.iload_n 1, 1) := by decide +kernel
theorem dX5_pass_81 : decode cX5_pass 81 = .ok (.bipush 6, 2) := by decide +kernel
theorem dX5_pass_83 : decode cX5_pass 83 = .ok (.invokevirtual 48, 3) := by decide +kernel
theorem dX5_pass_86 : decode cX5_pass 86 = .ok (.ifCond .eq 6, 3) := by decide +kernel
theorem dX5_pass_89 : decode cX5_pass 89 = .ok (.goto 73, 3) := by decide +kernel
theorem dX5_pass_92 : decode cX5_pass 92 = .ok (.aload_n 0, 1) := by decide +kernel
theorem dX5_pass_93 : decode cX5_pass 93 = .ok (.iload_n 1, 1) := by decide +kernel
theorem dX5_pass_94 : decode cX5_pass 94 = .ok (.iconst 2, 1) := by decide +kernel
theorem dX5_pass_95 : decode cX5_pass 95 = .ok (.bipush 20, 2) := by decide +kernel
theorem dX5_pass_97 : decode cX5_pass 97 = .ok (.aload_n 0, 1) := by decide +kernel
theorem dX5_pass_98 : decode cX5_pass 98 = .ok (.iload_n 1, 1) := by decide +kernel
theorem dX5_pass_99 : decode cX5_pass 99 = .ok (.iconst 2, 1) := by decide +kernel
theorem dX5_pass_100 : decode cX5_pass 100 = .ok (.invokevirtual 48, 3) := by decide +kernel
theorem dX5_pass_103 : decode cX5_pass 103 = .ok (.iconst 1, 1) := by decide +kernel
theorem dX5_pass_104 : decode cX5_pass 104 = .ok (.iadd, 1) := by decide +kernel
theorem dX5_pass_105 : decode cX5_pass 105 = .ok (.iconst 4, 1) := by decide +kernel
theorem dX5_pass_106 : decode cX5_pass 106 = .ok (.aload_n 0, 1) := by decide +kernel
theorem dX5_pass_107 : decode cX5_pass 107 = .ok (.getfield 3, 3) := by decide +kernel
theorem dX5_pass_110 : decode cX5_pass 110 = .ok (.getfield 87, 3) := by decide +kernel
theorem dX5_pass_113 : decode cX5_pass 113 = .ok (.aload_n 0, 1) := by decide +kernel
theorem dX5_pass_114 : decode cX5_pass 114 = .ok (.iload_n 1, 1) := by decide +kernel
theorem dX5_pass_115 : decode cX5_pass 115 = .ok (.iconst 3, 1) := by decide +kernel
theorem dX5_pass_116 : decode cX5_pass 116 = .ok (.invokevirtual 48, 3) := by decide +kernel
theorem dX5_pass_119 : decode cX5_pass 119 = .ok (.iaload, 1) := by decide +kernel
theorem dX5_pass_120 : decode cX5_pass 120 = .ok (.imul, 1) := by decide +kernel
theorem dX5_pass_121 : decode cX5_pass 121 = .ok (.iadd, 1) := by decide +kernel
theorem dX5_pass_122 : decode cX5_pass 122 = .ok (.invokestatic 55, 3) := by decide +kernel
theorem dX5_pass_125 : decode cX5_pass 125 = .ok (.invokevirtual 73, 3) := by decide +kernel
theorem dX5_pass_128 : decode cX5_pass 128 = .ok (.aload_n 0, 1) := by decide +kernel
theorem dX5_pass_129 : decode cX5_pass 129 = .ok (.iload_n 1, 1) := by decide +kernel
theorem dX5_pass_130 : decode cX5_pass 130 = .ok (.iconst 5, 1) := by decide +kernel
theorem dX5_pass_131 : decode cX5_pass 131 = .ok (.invokevirtual 48, 3) := by decide +kernel
theorem dX5_pass_134 : decode cX5_pass 134 = .ok (.aload_n 0, 1) := by decide +kernel
theorem dX5_pass_135 : decode cX5_pass 135 = .ok (.iload_n 1, 1) := by decide +kernel
theorem dX5_pass_136 : decode cX5_pass 136 = .ok (.iconst 3, 1) := by decide +kernel
theorem dX5_pass_137 : decode cX5_pass 137 = .ok (.invokevirtual 48, 3) := by decide +kernel
theorem dX5_pass_140 : decode cX5_pass 140 = .ok (.if_icmp .eq 22, 3) := by decide +kernel
theorem dX5_pass_143 : decode cX5_pass 143 = .ok (.aload_n 0, 1) := by decide +kernel
theorem dX5_pass_144 : decode cX5_pass 144 = .ok (.iload_n 1, 1) := by decide +kernel
theorem dX5_pass_145 : decode cX5_pass 145 = .ok (.iconst 2, 1) := by decide +kernel
theorem dX5_pass_146 : decode cX5_pass 146 = .ok (.invokevirtual 48, 3) := by decide +kernel
theorem dX5_pass_149 : decode cX5_pass 149 = .ok (.bipush 10, 2) := by decide +kernel
theorem dX5_pass_151 : decode cX5_pass 151 = .ok (.if_icmp .lt 11, 3) := by decide +kernel
theorem dX5_pass_154 : decode cX5_pass 154 = .ok (.aload_n 0, 1) := by decide +kernel
theorem dX5_pass_155 : decode cX5_pass 155 = .ok (.iload_n 1, 1) := by decide +kernel
theorem dX5_pass_156 : decode cX5_pass 156 = .ok (.bipush 6, 2) := by decide +kernel
theorem dX5_pass_158 : decode cX5_pass 158 = .ok (.iconst 1, 1) := by decide +kernel
theorem dX5_pass_159 : decode cX5_pass 159 = .ok (.invokevirtual 73, 3) := by decide +kernel
theorem dX5_pass_162 : decode cX5_pass 162 = .ok (.iinc 1 1, 3) := by decide +kernel
theorem dX5_pass_165 : decode cX5_pass 165 = .ok (.goto (-94), 3) := by decide +kernel
theorem dX5_pass_168 : decode cX5_pass 168 = .ok (.aload_n 0, 1) := by decide +kernel
theorem dX5_pass_169 : decode cX5_pass 169 = .ok (.dup, 1) := by decide +kernel
theorem dX5_pass_170 : decode cX5_pass 170 = .ok (.getfield 35, 3) := by decide +kernel
theorem dX5_pass_173 : decode cX5_pass 173 = .ok (.iconst 1, 1) := by decide +kernel
theorem dX5_pass_174 : decode cX5_pass 174 = .ok (.iadd, 1) := by decide +kernel
theorem dX5_pass_175 : decode cX5_pass 175 = .ok (.putfield 35, 3) := by decide +kernel
theorem dX5_pass_178 : decode cX5_pass 178 = .ok (.return_, 1) := by decide +kernel
set_option maxRecDepth 20000 in
theorem ggX6_init_X5_init : GoodIn wsX6_init wsX5_init := goodIn_r _ [15, 16, 17, 2, 3, 18, 4, 19, 20, 21, 34, 35, 36, 37, 38, 39, 40, 41] (by decide +kernel) (by decide +kernel)
set_option maxRecDepth 20000 in
theorem gX6_init_X5_init_n24 : GoodIn wsX6_init (wsX5_init) := ggX6_init_X5_init
set_option maxRecDepth 20000 in
theorem ggX6_init_J7_fill_53178 : GoodIn wsX6_init wsJ7_fill_53178 := goodIn_r _ [25] (by decide +kernel) (by decide +kernel)
set_option maxRecDepth 20000 in
theorem gX6_init_J7_fill_53178 : GoodIn wsX6_init (va_wsS RX6 34 yJ7_fill_53178 wsJ7_fill_53178) := goodIn_app (goodIn_of _ (by decide +kernel)) ggX6_init_J7_fill_53178
theorem dX6_init_0 : decode cX6_init 0 = .ok (.aload_n 0, 1) := by decide +kernel
theorem dX6_init_1 : decode cX6_init 1 = .ok (.invokespecial 1, 3) := by decide +kernel
theorem dX6_init_4 : decode cX6_init 4 = .ok (.aload_n 0, 1) := by decide +kernel
theorem dX6_init_5 : decode cX6_init 5 = .ok (.bipush 14, 2) := by decide +kernel
theorem dX6_init_7 : decode cX6_init 7 = .ok (.newarray .int, 2) := by decide +kernel
theorem dX6_init_9 : decode cX6_init 9 = .ok (.putfield 9, 3) := by decide +kernel
theorem dX6_init_12 : decode cX6_init 12 = .ok (.aload_n 0, 1) := by decide +kernel
theorem dX6_init_13 : decode cX6_init 13 = .ok (.bipush 12, 2) := by decide +kernel
theorem dX6_init_15 : decode cX6_init 15 = .ok (.newarray .int, 2) := by decide +kernel
theorem dX6_init_17 : decode cX6_init 17 = .ok (.putfield 13, 3) := by decide +kernel
theorem dX6_init_20 : decode cX6_init 20 = .ok (.aload_n 0, 1) := by decide +kernel
theorem dX6_init_21 : decode cX6_init 21 = .ok (.bipush 12, 2) := by decide +kernel
theorem dX6_init_23 : decode cX6_init 23 = .ok (.newarray .int, 2) := by decide +kernel
theorem dX6_init_25 : decode cX6_init 25 = .ok (.putfield 16, 3) := by decide +kernel
theorem dX6_init_28 : decode cX6_init 28 = .ok (.aload_n 0, 1) := by decide +kernel
theorem dX6_init_29 : decode cX6_init 29 = .ok (.bipush 12, 2) := by decide +kernel
theorem dX6_init_31 : decode cX6_init 31 = .ok (.newarray .int, 2) := by decide +kernel
theorem dX6_init_33 : decode cX6_init 33 = .ok (.putfield 19, 3) := by decide +kernel
theorem dX6_init_36 : decode cX6_init 36 = .ok (.aload_n 0, 1) := by decide +kernel
theorem dX6_init_37 : decode cX6_init 37 = .ok (.new 22, 3) := by decide +kernel
theorem dX6_init_40 : decode cX6_init 40 = .ok (.dup, 1) := by decide +kernel
theorem dX6_init_41 : decode cX6_init 41 = .ok (.aload_n 0, 1) := by decide +kernel
theorem dX6_init_42 : decode cX6_init 42 = .ok (.invokespecial 24, 3) := by decide +kernel
theorem dX6_init_45 : decode cX6_init 45 = .ok (.putfield 27, 3) := by decide +kernel
theorem dX6_init_48 : decode cX6_init 48 = .ok (.aload_n 0, 1) := by decide +kernel
theorem dX6_init_49 : decode cX6_init 49 = .ok (.new 22, 3) := by decide +kernel
theorem dX6_init_52 : decode cX6_init 52 = .ok (.dup, 1) := by decide +kernel
theorem dX6_init_53 : decode cX6_init 53 = .ok (.aload_n 0, 1) := by decide +kernel
theorem dX6_init_54 : decode cX6_init 54 = .ok (.invokespecial 24, 3) := by decide +kernel
theorem dX6_init_57 : decode cX6_init 57 = .ok (.putfield 31, 3) := by decide +kernel
theorem dX6_init_60 : decode cX6_init 60 = .ok (.aload_n 0, 1) := by decide +kernel
theorem dX6_init_61 : decode cX6_init 61 = .ok (.getfield 9, 3) := by decide +kernel
theorem dX6_init_64 : decode cX6_init 64 = .ok (.bipush (-2), 2) := by decide +kernel
theorem dX6_init_66 : decode cX6_init 66 = .ok (.invokestatic 34, 3) := by decide +kernel
theorem dX6_init_69 : decode cX6_init 69 = .ok (.aload_n 0, 1) := by decide +kernel
theorem dX6_init_70 : decode cX6_init 70 = .ok (.getfield 27, 3) := by decide +kernel
theorem dX6_init_73 : decode cX6_init 73 = .ok (.getfield 40, 3) := by decide +kernel
theorem dX6_init_76 : decode cX6_init 76 = .ok (.bipush 30, 2) := by decide +kernel
theorem dX6_init_78 : decode cX6_init 78 = .ok (.invokestatic 34, 3) := by decide +kernel
theorem dX6_init_81 : decode cX6_init 81 = .ok (.return_, 1) := by decide +kernel
theorem dX6_thrown_0 : decode cX6_thrown 0 = .ok (.aload_n 0, 1) := by decide +kernel
theorem dX6_thrown_1 : decode cX6_thrown 1 = .ok (.getfield 43, 3) := by decide +kernel
theorem dX6_thrown_4 : decode cX6_thrown 4 = .ok (.ireturn, 1) := by decide +kernel
theorem dX6_no_0 : decode cX6_no 0 = .ok (.aload_n 0, 1) := by decide +kernel
theorem dX6_no_1 : decode cX6_no 1 = .ok (.iload_n 1, 1) := by decide +kernel
theorem dX6_no_2 : decode cX6_no 2 = .ok (.putfield 43, 3) := by decide +kernel
theorem dX6_no_5 : decode cX6_no 5 = .ok (.iconst 0, 1) := by decide +kernel
theorem dX6_no_6 : decode cX6_no 6 = .ok (.ireturn, 1) := by decide +kernel
theorem dX6_isIn_0 : decode cX6_isIn 0 = .ok (.iload_n 0, 1) := by decide +kernel
theorem dX6_isIn_1 : decode cX6_isIn 1 = .ok (.iload_n 1, 1) := by decide +kernel
theorem dX6_isIn_2 : decode cX6_isIn 2 = .ok (.if_icmp .lt 12, 3) := by decide +kernel
theorem dX6_isIn_5 : decode cX6_isIn 5 = .ok (.iload_n 0, 1) := by decide +kernel
theorem dX6_isIn_6 : decode cX6_isIn 6 = .ok (.iload_n 2, 1) := by decide +kernel
theorem dX6_isIn_7 : decode cX6_isIn 7 = .ok (.if_icmp .gt 7, 3) := by decide +kernel
theorem dX6_isIn_10 : decode cX6_isIn 10 = .ok (.iconst 1, 1) := by decide +kernel
theorem dX6_isIn_11 : decode cX6_isIn 11 = .ok (.goto 4, 3) := by decide +kernel
theorem dX6_isIn_14 : decode cX6_isIn 14 = .ok (.iconst 0, 1) := by decide +kernel
theorem dX6_isIn_15 : decode cX6_isIn 15 = .ok (.ireturn, 1) := by decide +kernel
set_option maxRecDepth 20000 in
theorem ggX6_isPlace_X6_isIn : GoodIn wsX6_isPlace wsX6_isIn := goodIn_r _ [4] (by decide +kernel) (by decide +kernel)
set_option maxRecDepth 20000 in
theorem gX6_isPlace_X6_isIn : GoodIn wsX6_isPlace (va_wsS RX6 47 yX6_isIn wsX6_isIn) := goodIn_app (goodIn_of _ (by decide +kernel)) ggX6_isPlace_X6_isIn
theorem dX6_isPlace_0 : decode cX6_isPlace 0 = .ok (.iload_n 0, 1) := by decide +kernel
theorem dX6_isPlace_1 : decode cX6_isPlace 1 = .ok (.iconst 0, 1) := by decide +kernel
theorem dX6_isPlace_2 : decode cX6_isPlace 2 = .ok (.bipush 11, 2) := by decide +kernel
theorem dX6_isPlace_4 : decode cX6_isPlace 4 = .ok (.invokestatic 47, 3) := by decide +kernel
theorem dX6_isPlace_7 : decode cX6_isPlace 7 = .ok (.ifCond .eq 16, 3) := by decide +kernel
theorem dX6_isPlace_10 : decode cX6_isPlace 10 = .ok (.iload_n 1, 1) := by decide +kernel
theorem dX6_isPlace_11 : decode cX6_isPlace 11 = .ok (.iconst 0, 1) := by decide +kernel
theorem dX6_isPlace_12 : decode cX6_isPlace 12 = .ok (.iconst 2, 1) := by decide +kernel
theorem dX6_isPlace_13 : decode cX6_isPlace 13 = .ok (.invokestatic 47, 3) := by decide +kernel
theorem dX6_isPlace_16 : decode cX6_isPlace 16 = .ok (.ifCond .eq 7, 3) := by decide +kernel
theorem dX6_isPlace_19 : decode cX6_isPlace 19 = .ok (.iconst 1, 1) := by decide +kernel
theorem dX6_isPlace_20 : decode cX6_isPlace 20 = .ok (.goto 4, 3) := by decide +kernel
theorem dX6_isPlace_23 : decode cX6_isPlace 23 = .ok (.iconst 0, 1) := by decide +kernel
theorem dX6_isPlace_24 : decode cX6_isPlace 24 = .ok (.ireturn, 1) := by decide +kernel
set_option maxRecDepth 20000 in
theorem ggX6_isCourier_X6_isIn : GoodIn wsX6_isCourier wsX6_isIn := goodIn_r _ [5] (by decide +kernel) (by decide +kernel)
set_option maxRecDepth 20000 in
theorem gX6_isCourier_X6_isIn : GoodIn wsX6_isCourier (va_wsS RX6 47 yX6_isIn wsX6_isIn) := goodIn_app (goodIn_of _ (by decide +kernel)) ggX6_isCourier_X6_isIn
theorem dX6_isCourier_0 : decode cX6_isCourier 0 = .ok (.iload_n 1, 1) := by decide +kernel
theorem dX6_isCourier_1 : decode cX6_isCourier 1 = .ok (.iconst 0, 1) := by decide +kernel
theorem dX6_isCourier_2 : decode cX6_isCourier 2 = .ok (.aload_n 0, 1) := by decide +kernel
theorem dX6_isCourier_3 : decode cX6_isCourier 3 = .ok (.getfield 27, 3) := by decide +kernel
theorem dX6_isCourier_6 : decode cX6_isCourier 6 = .ok (.getfield 51, 3) := by decide +kernel
theorem dX6_isCourier_9 : decode cX6_isCourier 9 = .ok (.iconst 1, 1) := by decide +kernel
theorem dX6_isCourier_10 : decode cX6_isCourier 10 = .ok (.isub, 1) := by decide +kernel
theorem dX6_isCourier_11 : decode cX6_isCourier 11 = .ok (.invokestatic 47, 3) := by decide +kernel
theorem dX6_isCourier_14 : decode cX6_isCourier 14 = .ok (.ireturn, 1) := by decide +kernel
set_option maxRecDepth 20000 in
theorem ggX6_setWarm_X6_isIn : GoodIn wsX6_setWarm wsX6_isIn := goodIn_r _ [6] (by decide +kernel) (by decide +kernel)
set_option maxRecDepth 20000 in
theorem gX6_setWarm_X6_isIn : GoodIn wsX6_setWarm (va_wsS RX6 47 yX6_isIn wsX6_isIn) := goodIn_app (goodIn_of _ (by decide +kernel)) ggX6_setWarm_X6_isIn
set_option maxRecDepth 20000 in
theorem ggX6_setWarm_X6_no : GoodIn wsX6_setWarm wsX6_no := goodIn_r _ [10, 1, 11, 12, 13, 14, 15, 16, 17, 18] (by decide +kernel) (by decide +kernel)
set_option maxRecDepth 20000 in
theorem gX6_setWarm_X6_no : GoodIn wsX6_setWarm (wsV RX6 54 RX6 yX6_no wsX6_no) := goodIn_app (goodIn_of _ (by decide +kernel)) ggX6_setWarm_X6_no
theorem dX6_setWarm_0 : decode cX6_setWarm 0 = .ok (.aload_n 0, 1) := by decide +kernel
theorem dX6_setWarm_1 : decode cX6_setWarm 1 = .ok (.iconst 0, 1) := by decide +kernel
theorem dX6_setWarm_2 : decode cX6_setWarm 2 = .ok (.putfield 43, 3) := by decide +kernel
theorem dX6_setWarm_5 : decode cX6_setWarm 5 = .ok (.iload_n 1, 1) := by decide +kernel
theorem dX6_setWarm_6 : decode cX6_setWarm 6 = .ok (.iconst 0, 1) := by decide +kernel
theorem dX6_setWarm_7 : decode cX6_setWarm 7 = .ok (.bipush 13, 2) := by decide +kernel
theorem dX6_setWarm_9 : decode cX6_setWarm 9 = .ok (.invokestatic 47, 3) := by decide +kernel
theorem dX6_setWarm_12 : decode cX6_setWarm 12 = .ok (.ifCond .ne 9, 3) := by decide +kernel
theorem dX6_setWarm_15 : decode cX6_setWarm 15 = .ok (.aload_n 0, 1) := by decide +kernel
theorem dX6_setWarm_16 : decode cX6_setWarm 16 = .ok (.iconst 1, 1) := by decide +kernel
theorem dX6_setWarm_17 : decode cX6_setWarm 17 = .ok (.invokevirtual 54, 3) := by decide +kernel
theorem dX6_setWarm_20 : decode cX6_setWarm 20 = .ok (.ireturn, 1) := by decide +kernel
theorem dX6_setWarm_21 : decode cX6_setWarm 21 = .ok (.iload_n 2, 1) := by decide +kernel
theorem dX6_setWarm_22 : decode cX6_setWarm 22 = .ok (.bipush (-9), 2) := by decide +kernel
theorem dX6_setWarm_24 : decode cX6_setWarm 24 = .ok (.bipush 9, 2) := by decide +kernel
theorem dX6_setWarm_26 : decode cX6_setWarm 26 = .ok (.invokestatic 47, 3) := by decide +kernel
theorem dX6_setWarm_29 : decode cX6_setWarm 29 = .ok (.ifCond .ne 9, 3) := by decide +kernel
theorem dX6_setWarm_32 : decode cX6_setWarm 32 = .ok (.aload_n 0, 1) := by decide +kernel
theorem dX6_setWarm_33 : decode cX6_setWarm 33 = .ok (.iconst 2, 1) := by decide +kernel
theorem dX6_setWarm_34 : decode cX6_setWarm 34 = .ok (.invokevirtual 54, 3) := by decide +kernel
theorem dX6_setWarm_37 : decode cX6_setWarm 37 = .ok (.ireturn, 1) := by decide +kernel
theorem dX6_setWarm_38 : decode cX6_setWarm 38 = .ok (.aload_n 0, 1) := by decide +kernel
theorem dX6_setWarm_39 : decode cX6_setWarm 39 = .ok (.getfield 9, 3) := by decide +kernel
theorem dX6_setWarm_42 : decode cX6_setWarm 42 = .ok (.iload_n 1, 1) := by decide +kernel
theorem dX6_setWarm_43 : decode cX6_setWarm 43 = .ok (.iaload, 1) := by decide +kernel
theorem dX6_setWarm_44 : decode cX6_setWarm 44 = .ok (.istore_n 3, 1) := by decide +kernel
theorem dX6_setWarm_45 : decode cX6_setWarm 45 = .ok (.aload_n 0, 1) := by decide +kernel
theorem dX6_setWarm_46 : decode cX6_setWarm 46 = .ok (.getfield 9, 3) := by decide +kernel
theorem dX6_setWarm_49 : decode cX6_setWarm 49 = .ok (.iload_n 1, 1) := by decide +kernel
theorem dX6_setWarm_50 : decode cX6_setWarm 50 = .ok (.iload_n 2, 1) := by decide +kernel
theorem dX6_setWarm_51 : decode cX6_setWarm 51 = .ok (.iastore, 1) := by decide +kernel
theorem dX6_setWarm_52 : decode cX6_setWarm 52 = .ok (.iload_n 3, 1) := by decide +kernel
theorem dX6_setWarm_53 : decode cX6_setWarm 53 = .ok (.ireturn, 1) := by decide +kernel
set_option maxRecDepth 20000 in
theorem ggX6_setIce_X6_isPlace : GoodIn wsX6_setIce wsX6_isPlace := goodIn_r _ [6, 7, 8, 5, 9] (by decide +kernel) (by decide +kernel)
set_option maxRecDepth 20000 in
theorem gX6_setIce_X6_isPlace : GoodIn wsX6_setIce (va_wsS RX6 58 yX6_isPlace wsX6_isPlace) := goodIn_app (goodIn_of _ (by decide +kernel)) ggX6_setIce_X6_isPlace
set_option maxRecDepth 20000 in
theorem ggX6_setIce_X6_no : GoodIn wsX6_setIce wsX6_no := goodIn_r _ [13, 1, 14, 15, 16, 17, 18, 19, 20, 21] (by decide +kernel) (by decide +kernel)
set_option maxRecDepth 20000 in
theorem gX6_setIce_X6_no : GoodIn wsX6_setIce (wsV RX6 54 RX6 yX6_no wsX6_no) := goodIn_app (goodIn_of _ (by decide +kernel)) ggX6_setIce_X6_no
set_option maxRecDepth 20000 in
theorem ggX6_setIce_X6_isIn : GoodIn wsX6_setIce wsX6_isIn := goodIn_r _ [9] (by decide +kernel) (by decide +kernel)
set_option maxRecDepth 20000 in
theorem gX6_setIce_X6_isIn : GoodIn wsX6_setIce (va_wsS RX6 47 yX6_isIn wsX6_isIn) := goodIn_app (goodIn_of _ (by decide +kernel)) ggX6_setIce_X6_isIn
theorem dX6_setIce_0 : decode cX6_setIce 0 = .ok (.aload_n 0, 1) := by decide +kernel
theorem dX6_setIce_1 : decode cX6_setIce 1 = .ok (.iconst 0, 1) := by decide +kernel
theorem dX6_setIce_2 : decode cX6_setIce 2 = .ok (.putfield 43, 3) := by decide +kernel
theorem dX6_setIce_5 : decode cX6_setIce 5 = .ok (.iload_n 1, 1) := by decide +kernel
theorem dX6_setIce_6 : decode cX6_setIce 6 = .ok (.iload_n 2, 1) := by decide +kernel
theorem dX6_setIce_7 : decode cX6_setIce 7 = .ok (.invokestatic 58, 3) := by decide +kernel
theorem dX6_setIce_10 : decode cX6_setIce 10 = .ok (.ifCond .ne 9, 3) := by decide +kernel
theorem dX6_setIce_13 : decode cX6_setIce 13 = .ok (.aload_n 0, 1) := by decide +kernel
theorem dX6_setIce_14 : decode cX6_setIce 14 = .ok (.iconst 1, 1) := by decide +kernel
theorem dX6_setIce_15 : decode cX6_setIce 15 = .ok (.invokevirtual 54, 3) := by decide +kernel
theorem dX6_setIce_18 : decode cX6_setIce 18 = .ok (.ireturn, 1) := by decide +kernel
theorem dX6_setIce_19 : decode cX6_setIce 19 = .ok (.iload_n 3, 1) := by decide +kernel
theorem dX6_setIce_20 : decode cX6_setIce 20 = .ok (.iconst 0, 1) := by decide +kernel
theorem dX6_setIce_21 : decode cX6_setIce 21 = .ok (.bipush 60, 2) := by decide +kernel
theorem dX6_setIce_23 : decode cX6_setIce 23 = .ok (.invokestatic 47, 3) := by decide +kernel
theorem dX6_setIce_26 : decode cX6_setIce 26 = .ok (.ifCond .ne 9, 3) := by decide +kernel
theorem dX6_setIce_29 : decode cX6_setIce 29 = .ok (.aload_n 0, 1) := by decide +kernel
theorem dX6_setIce_30 : decode cX6_setIce 30 = .ok (.iconst 2, 1) := by decide +kernel
theorem dX6_setIce_31 : decode cX6_setIce 31 = .ok (.invokevirtual 54, 3) := by decide +kernel
theorem dX6_setIce_34 : decode cX6_setIce 34 = .ok (.ireturn, 1) := by decide +kernel
theorem dX6_setIce_35 : decode cX6_setIce 35 = .ok (.aload_n 0, 1) := by decide +kernel
theorem dX6_setIce_36 : decode cX6_setIce 36 = .ok (.getfield 27, 3) := by decide +kernel
theorem dX6_setIce_39 : decode cX6_setIce 39 = .ok (.getfield 40, 3) := by decide +kernel
theorem dX6_setIce_42 : decode cX6_setIce 42 = .ok (.iconst 3, 1) := by decide +kernel
theorem dX6_setIce_43 : decode cX6_setIce 43 = .ok (.iload_n 1, 1) := by decide +kernel
theorem dX6_setIce_44 : decode cX6_setIce 44 = .ok (.imul, 1) := by decide +kernel
theorem dX6_setIce_45 : decode cX6_setIce 45 = .ok (.iload_n 2, 1) := by decide +kernel
theorem dX6_setIce_46 : decode cX6_setIce 46 = .ok (.iadd, 1) := by decide +kernel
theorem dX6_setIce_47 : decode cX6_setIce 47 = .ok (.iaload, 1) := by decide +kernel
theorem dX6_setIce_48 : decode cX6_setIce 48 = .ok (.istore 4, 2) := by decide +kernel
theorem dX6_setIce_50 : decode cX6_setIce 50 = .ok (.aload_n 0, 1) := by decide +kernel
theorem dX6_setIce_51 : decode cX6_setIce 51 = .ok (.getfield 27, 3) := by decide +kernel
theorem dX6_setIce_54 : decode cX6_setIce 54 = .ok (.getfield 40, 3) := by decide +kernel
theorem dX6_setIce_57 : decode cX6_setIce 57 = .ok (.iconst 3, 1) := by decide +kernel
theorem dX6_setIce_58 : decode cX6_setIce 58 = .ok (.iload_n 1, 1) := by decide +kernel
theorem dX6_setIce_59 : decode cX6_setIce 59 = .ok (.imul, 1) := by decide +kernel
theorem dX6_setIce_60 : decode cX6_setIce 60 = .ok (.iload_n 2, 1) := by decide +kernel
theorem dX6_setIce_61 : decode cX6_setIce 61 = .ok (.iadd, 1) := by decide +kernel
theorem dX6_setIce_62 : decode cX6_setIce 62 = .ok (.iload_n 3, 1) := by decide +kernel
theorem dX6_setIce_63 : decode cX6_setIce 63 = .ok (.iastore, 1) := by decide +kernel
theorem dX6_setIce_64 : decode cX6_setIce 64 = .ok (.iload 4, 2) := by decide +kernel
theorem dX6_setIce_66 : decode cX6_setIce 66 = .ok (.ireturn, 1) := by decide +kernel
theorem dX6_huts_0 : decode cX6_huts 0 = .ok (.iconst 0, 1) := by decide +kernel
theorem dX6_huts_1 : decode cX6_huts 1 = .ok (.istore_n 1, 1) := by decide +kernel
theorem dX6_huts_2 : decode cX6_huts 2 = .ok (.iconst 0, 1) := by decide +kernel
theorem dX6_huts_3 : decode cX6_huts 3 = .ok (.istore_n 2, 1) := by decide +kernel
theorem dX6_huts_4 : decode cX6_huts 4 = .ok (.iload_n 2, 1) := by decide +kernel
theorem dX6_huts_5 : decode cX6_huts 5 = .ok (.bipush 12, 2) := by decide +kernel
theorem dX6_huts_7 : decode cX6_huts 7 = .ok (.if_icmp .ge 18, 3) := by decide +kernel
theorem dX6_huts_10 : decode cX6_huts 10 = .ok (.iload_n 1, 1) := by decide +kernel
theorem dX6_huts_11 : decode cX6_huts 11 = .ok (.aload_n 0, 1) := by decide +kernel
theorem dX6_huts_12 : decode cX6_huts 12 = .ok (.getfield 13, 3) := by decide +kernel
theorem dX6_huts_15 : decode cX6_huts 15 = .ok (.iload_n 2, 1) := by decide +kernel
theorem dX6_huts_16 : decode cX6_huts 16 = .ok (.iaload, 1) := by decide +kernel
theorem dX6_huts_17 : decode cX6_huts 17 = .ok (.iadd, 1) := by decide +kernel
theorem dX6_huts_18 : decode cX6_huts 18 = .ok (.istore_n 1, 1) := by decide +kernel
theorem dX6_huts_19 : decode cX6_huts 19 = .ok (.iinc 2 1, 3) := by decide +kernel
theorem dX6_huts_22 : decode cX6_huts 22 = .ok (.goto (-18), 3) := by decide +kernel
theorem dX6_huts_25 : decode cX6_huts 25 = .ok (.iload_n 1, 1) := by decide +kernel
theorem dX6_huts_26 : decode cX6_huts 26 = .ok (.ireturn, 1) := by decide +kernel
set_option maxRecDepth 20000 in
theorem ggX6_build_X6_isIn : GoodIn wsX6_build wsX6_isIn := goodIn_r _ [6] (by decide +kernel) (by decide +kernel)
set_option maxRecDepth 20000 in
theorem gX6_build_X6_isIn : GoodIn wsX6_build (va_wsS RX6 47 yX6_isIn wsX6_isIn) := goodIn_app (goodIn_of _ (by decide +kernel)) ggX6_build_X6_isIn
set_option maxRecDepth 20000 in
theorem ggX6_build_X6_no : GoodIn wsX6_build wsX6_no := goodIn_r _ [10, 1, 15, 16, 17, 18, 19, 20, 21, 22] (by decide +kernel) (by decide +kernel)
set_option maxRecDepth 20000 in
theorem gX6_build_X6_no : GoodIn wsX6_build (wsV RX6 54 RX6 yX6_no wsX6_no) := goodIn_app (goodIn_of _ (by decide +kernel)) ggX6_build_X6_no
set_option maxRecDepth 20000 in
theorem ggX6_build_X6_huts : GoodIn wsX6_build wsX6_huts := goodIn_r _ [14, 2, 15, 16, 17, 18, 19, 20, 21, 22] (by decide +kernel) (by decide +kernel)
set_option maxRecDepth 20000 in
theorem gX6_build_X6_huts : GoodIn wsX6_build (wsV RX6 62 RX6 yX6_huts wsX6_huts) := goodIn_app (goodIn_of _ (by decide +kernel)) ggX6_build_X6_huts
theorem dX6_build_0 : decode cX6_build 0 = .ok (.aload_n 0, 1) := by decide +kernel
theorem dX6_build_1 : decode cX6_build 1 = .ok (.iconst 0, 1) := by decide +kernel
theorem dX6_build_2 : decode cX6_build 2 = .ok (.putfield 43, 3) := by decide +kernel
theorem dX6_build_5 : decode cX6_build 5 = .ok (.iload_n 1, 1) := by decide +kernel
theorem dX6_build_6 : decode cX6_build 6 = .ok (.iconst 0, 1) := by decide +kernel
theorem dX6_build_7 : decode cX6_build 7 = .ok (.bipush 11, 2) := by decide +kernel
theorem dX6_build_9 : decode cX6_build 9 = .ok (.invokestatic 47, 3) := by decide +kernel
theorem dX6_build_12 : decode cX6_build 12 = .ok (.ifCond .ne 9, 3) := by decide +kernel
theorem dX6_build_15 : decode cX6_build 15 = .ok (.aload_n 0, 1) := by decide +kernel
theorem dX6_build_16 : decode cX6_build 16 = .ok (.iconst 1, 1) := by decide +kernel
theorem dX6_build_17 : decode cX6_build 17 = .ok (.invokevirtual 54, 3) := by decide +kernel
theorem dX6_build_20 : decode cX6_build 20 = .ok (.ireturn, 1) := by decide +kernel
theorem dX6_build_21 : decode cX6_build 21 = .ok (.aload_n 0, 1) := by decide +kernel
theorem dX6_build_22 : decode cX6_build 22 = .ok (.getfield 13, 3) := by decide +kernel
theorem dX6_build_25 : decode cX6_build 25 = .ok (.iload_n 1, 1) := by decide +kernel
theorem dX6_build_26 : decode cX6_build 26 = .ok (.iconst 1, 1) := by decide +kernel
theorem dX6_build_27 : decode cX6_build 27 = .ok (.iastore, 1) := by decide +kernel
theorem dX6_build_28 : decode cX6_build 28 = .ok (.aload_n 0, 1) := by decide +kernel
theorem dX6_build_29 : decode cX6_build 29 = .ok (.invokevirtual 62, 3) := by decide +kernel
theorem dX6_build_32 : decode cX6_build 32 = .ok (.ireturn, 1) := by decide +kernel
set_option maxRecDepth 20000 in
theorem ggX6_borne_X5_holds : GoodIn wsX6_borne wsX5_holds := goodIn_r _ [10, 11, 12, 21, 22, 23, 24, 25, 26, 27, 28] (by decide +kernel) (by decide +kernel)
set_option maxRecDepth 20000 in
theorem gX6_borne_X5_holds : GoodIn wsX6_borne (wsV RX6 66 RX5 yX5_holds wsX5_holds) := goodIn_app (goodIn_of _ (by decide +kernel)) ggX6_borne_X5_holds
theorem dX6_borne_0 : decode cX6_borne 0 = .ok (.iconst 0, 1) := by decide +kernel
theorem dX6_borne_1 : decode cX6_borne 1 = .ok (.aload_n 0, 1) := by decide +kernel
theorem dX6_borne_2 : decode cX6_borne 2 = .ok (.getfield 27, 3) := by decide +kernel
theorem dX6_borne_5 : decode cX6_borne 5 = .ok (.iload_n 1, 1) := by decide +kernel
theorem dX6_borne_6 : decode cX6_borne 6 = .ok (.invokevirtual 66, 3) := by decide +kernel
theorem dX6_borne_9 : decode cX6_borne 9 = .ok (.invokestatic 69, 3) := by decide +kernel
theorem dX6_borne_12 : decode cX6_borne 12 = .ok (.ireturn, 1) := by decide +kernel
set_option maxRecDepth 20000 in
theorem ggX6_placeTold_X5_get : GoodIn wsX6_placeTold wsX5_get := goodIn_r _ [7, 8, 32, 33, 34, 35, 36, 37, 38, 39] (by decide +kernel) (by decide +kernel)
set_option maxRecDepth 20000 in
theorem gX6_placeTold_X5_get : GoodIn wsX6_placeTold (wsV RX6 75 RX5 yX5_get wsX5_get) := goodIn_app (goodIn_of _ (by decide +kernel)) ggX6_placeTold_X5_get
set_option maxRecDepth 20000 in
theorem ggX6_placeTold_X6_borne : GoodIn wsX6_placeTold wsX6_borne := goodIn_r _ [13, 1, 14, 15, 16, 17, 18, 19, 20, 6, 21, 22, 23, 24, 25, 26, 27, 28, 29, 30, 31, 32, 33, 34, 35, 36, 37, 38, 39] (by decide +kernel) (by decide +kernel)
set_option maxRecDepth 20000 in
theorem gX6_placeTold_X6_borne : GoodIn wsX6_placeTold (wsV RX6 81 RX6 yX6_borne wsX6_borne) := goodIn_app (goodIn_of _ (by decide +kernel)) ggX6_placeTold_X6_borne
theorem dX6_placeTold_0 : decode cX6_placeTold 0 = .ok (.iconst 0, 1) := by decide +kernel
theorem dX6_placeTold_1 : decode cX6_placeTold 1 = .ok (.istore_n 3, 1) := by decide +kernel
theorem dX6_placeTold_2 : decode cX6_placeTold 2 = .ok (.iconst 0, 1) := by decide +kernel
theorem dX6_placeTold_3 : decode cX6_placeTold 3 = .ok (.istore 4, 2) := by decide +kernel
theorem dX6_placeTold_5 : decode cX6_placeTold 5 = .ok (.iload 4, 2) := by decide +kernel
theorem dX6_placeTold_7 : decode cX6_placeTold 7 = .ok (.aload_n 0, 1) := by decide +kernel
theorem dX6_placeTold_8 : decode cX6_placeTold 8 = .ok (.getfield 27, 3) := by decide +kernel
theorem dX6_placeTold_11 : decode cX6_placeTold 11 = .ok (.getfield 51, 3) := by decide +kernel
theorem dX6_placeTold_14 : decode cX6_placeTold 14 = .ok (.if_icmp .ge 59, 3) := by decide +kernel
theorem dX6_placeTold_17 : decode cX6_placeTold 17 = .ok (.iload_n 3, 1) := by decide +kernel
theorem dX6_placeTold_18 : decode cX6_placeTold 18 = .ok (.aload_n 0, 1) := by decide +kernel
theorem dX6_placeTold_19 : decode cX6_placeTold 19 = .ok (.getfield 27, 3) := by decide +kernel
theorem dX6_placeTold_22 : decode cX6_placeTold 22 = .ok (.iload 4, 2) := by decide +kernel
theorem dX6_placeTold_24 : decode cX6_placeTold 24 = .ok (.bipush 6, 2) := by decide +kernel
theorem dX6_placeTold_26 : decode cX6_placeTold 26 = .ok (.invokevirtual 75, 3) := by decide +kernel
theorem dX6_placeTold_29 : decode cX6_placeTold 29 = .ok (.iconst 3, 1) := by decide +kernel
theorem dX6_placeTold_30 : decode cX6_placeTold 30 = .ok (.if_icmp .eq 34, 3) := by decide +kernel
theorem dX6_placeTold_33 : decode cX6_placeTold 33 = .ok (.iconst 3, 1) := by decide +kernel
theorem dX6_placeTold_34 : decode cX6_placeTold 34 = .ok (.aload_n 0, 1) := by decide +kernel
theorem dX6_placeTold_35 : decode cX6_placeTold 35 = .ok (.getfield 27, 3) := by decide +kernel
theorem dX6_placeTold_38 : decode cX6_placeTold 38 = .ok (.iload 4, 2) := by decide +kernel
theorem dX6_placeTold_40 : decode cX6_placeTold 40 = .ok (.iconst 3, 1) := by decide +kernel
theorem dX6_placeTold_41 : decode cX6_placeTold 41 = .ok (.invokevirtual 75, 3) := by decide +kernel
theorem dX6_placeTold_44 : decode cX6_placeTold 44 = .ok (.imul, 1) := by decide +kernel
theorem dX6_placeTold_45 : decode cX6_placeTold 45 = .ok (.aload_n 0, 1) := by decide +kernel
theorem dX6_placeTold_46 : decode cX6_placeTold 46 = .ok (.getfield 27, 3) := by decide +kernel
theorem dX6_placeTold_49 : decode cX6_placeTold 49 = .ok (.iload 4, 2) := by decide +kernel
theorem dX6_placeTold_51 : decode cX6_placeTold 51 = .ok (.iconst 4, 1) := by decide +kernel
theorem dX6_placeTold_52 : decode cX6_placeTold 52 = .ok (.invokevirtual 75, 3) := by decide +kernel
theorem dX6_placeTold_55 : decode cX6_placeTold 55 = .ok (.iadd, 1) := by decide +kernel
theorem dX6_placeTold_56 : decode cX6_placeTold 56 = .ok (.iload_n 1, 1) := by decide +kernel
theorem dX6_placeTold_57 : decode cX6_placeTold 57 = .ok (.if_icmp .ne 7, 3) := by decide +kernel
theorem dX6_placeTold_60 : decode cX6_placeTold 60 = .ok (.iconst 1, 1) := by decide +kernel
theorem dX6_placeTold_61 : decode cX6_placeTold 61 = .ok (.goto 4, 3) := by decide +kernel
theorem dX6_placeTold_64 : decode cX6_placeTold 64 = .ok (.iconst 0, 1) := by decide +kernel
theorem dX6_placeTold_65 : decode cX6_placeTold 65 = .ok (.iadd, 1) := by decide +kernel
theorem dX6_placeTold_66 : decode cX6_placeTold 66 = .ok (.istore_n 3, 1) := by decide +kernel
theorem dX6_placeTold_67 : decode cX6_placeTold 67 = .ok (.iinc 4 1, 3) := by decide +kernel
theorem dX6_placeTold_70 : decode cX6_placeTold 70 = .ok (.goto (-65), 3) := by decide +kernel
theorem dX6_placeTold_73 : decode cX6_placeTold 73 = .ok (.iconst 4, 1) := by decide +kernel
theorem dX6_placeTold_74 : decode cX6_placeTold 74 = .ok (.newarray .int, 2) := by decide +kernel
theorem dX6_placeTold_76 : decode cX6_placeTold 76 = .ok (.dup, 1) := by decide +kernel
theorem dX6_placeTold_77 : decode cX6_placeTold 77 = .ok (.iconst 0, 1) := by decide +kernel
theorem dX6_placeTold_78 : decode cX6_placeTold 78 = .ok (.aload_n 0, 1) := by decide +kernel
theorem dX6_placeTold_79 : decode cX6_placeTold 79 = .ok (.getfield 27, 3) := by decide +kernel
theorem dX6_placeTold_82 : decode cX6_placeTold 82 = .ok (.getfield 40, 3) := by decide +kernel
theorem dX6_placeTold_85 : decode cX6_placeTold 85 = .ok (.iload_n 1, 1) := by decide +kernel
theorem dX6_placeTold_86 : decode cX6_placeTold 86 = .ok (.iaload, 1) := by decide +kernel
theorem dX6_placeTold_87 : decode cX6_placeTold 87 = .ok (.iastore, 1) := by decide +kernel
theorem dX6_placeTold_88 : decode cX6_placeTold 88 = .ok (.dup, 1) := by decide +kernel
theorem dX6_placeTold_89 : decode cX6_placeTold 89 = .ok (.iconst 1, 1) := by decide +kernel
theorem dX6_placeTold_90 : decode cX6_placeTold 90 = .ok (.aload_n 0, 1) := by decide +kernel
theorem dX6_placeTold_91 : decode cX6_placeTold 91 = .ok (.getfield 27, 3) := by decide +kernel
theorem dX6_placeTold_94 : decode cX6_placeTold 94 = .ok (.getfield 78, 3) := by decide +kernel
theorem dX6_placeTold_97 : decode cX6_placeTold 97 = .ok (.iload_n 1, 1) := by decide +kernel
theorem dX6_placeTold_98 : decode cX6_placeTold 98 = .ok (.iaload, 1) := by decide +kernel
theorem dX6_placeTold_99 : decode cX6_placeTold 99 = .ok (.iastore, 1) := by decide +kernel
theorem dX6_placeTold_100 : decode cX6_placeTold 100 = .ok (.dup, 1) := by decide +kernel
theorem dX6_placeTold_101 : decode cX6_placeTold 101 = .ok (.iconst 2, 1) := by decide +kernel
theorem dX6_placeTold_102 : decode cX6_placeTold 102 = .ok (.aload_n 0, 1) := by decide +kernel
theorem dX6_placeTold_103 : decode cX6_placeTold 103 = .ok (.iload_n 1, 1) := by decide +kernel
theorem dX6_placeTold_104 : decode cX6_placeTold 104 = .ok (.invokevirtual 81, 3) := by decide +kernel
theorem dX6_placeTold_107 : decode cX6_placeTold 107 = .ok (.iastore, 1) := by decide +kernel
theorem dX6_placeTold_108 : decode cX6_placeTold 108 = .ok (.dup, 1) := by decide +kernel
theorem dX6_placeTold_109 : decode cX6_placeTold 109 = .ok (.iconst 3, 1) := by decide +kernel
theorem dX6_placeTold_110 : decode cX6_placeTold 110 = .ok (.iload_n 3, 1) := by decide +kernel
theorem dX6_placeTold_111 : decode cX6_placeTold 111 = .ok (.iastore, 1) := by decide +kernel
theorem dX6_placeTold_112 : decode cX6_placeTold 112 = .ok (.astore 4, 2) := by decide +kernel
theorem dX6_placeTold_114 : decode cX6_placeTold 114 = .ok (.aload 4, 2) := by decide +kernel
theorem dX6_placeTold_116 : decode cX6_placeTold 116 = .ok (.iload_n 2, 1) := by decide +kernel
theorem dX6_placeTold_117 : decode cX6_placeTold 117 = .ok (.iaload, 1) := by decide +kernel
theorem dX6_placeTold_118 : decode cX6_placeTold 118 = .ok (.ireturn, 1) := by decide +kernel
set_option maxRecDepth 20000 in
theorem ggX6_place_X6_isPlace : GoodIn wsX6_place wsX6_isPlace := goodIn_r _ [5, 6, 7, 4, 8] (by decide +kernel) (by decide +kernel)
set_option maxRecDepth 20000 in
theorem gX6_place_X6_isPlace : GoodIn wsX6_place (va_wsS RX6 58 yX6_isPlace wsX6_isPlace) := goodIn_app (goodIn_of _ (by decide +kernel)) ggX6_place_X6_isPlace
set_option maxRecDepth 20000 in
theorem ggX6_place_X6_isIn : GoodIn wsX6_place wsX6_isIn := goodIn_r _ [8] (by decide +kernel) (by decide +kernel)
set_option maxRecDepth 20000 in
theorem gX6_place_X6_isIn : GoodIn wsX6_place (va_wsS RX6 47 yX6_isIn wsX6_isIn) := goodIn_app (goodIn_of _ (by decide +kernel)) ggX6_place_X6_isIn
set_option maxRecDepth 20000 in
theorem ggX6_place_X6_placeTold : GoodIn wsX6_place wsX6_placeTold := goodIn_r _ [12, 13, 14, 15, 16, 17, 18, 19, 20, 21, 22, 23, 4, 24, 25, 26, 27, 28, 29, 30, 31, 32, 33, 34, 39, 40, 41, 42, 43, 44, 45, 46, 47, 48, 49, 50, 51, 52, 53, 54] (by decide +kernel) (by decide +kernel)
set_option maxRecDepth 20000 in
theorem gX6_place_X6_placeTold : GoodIn wsX6_place (wsV RX6 84 RX6 yX6_placeTold wsX6_placeTold) := goodIn_app (goodIn_of _ (by decide +kernel)) ggX6_place_X6_placeTold
set_option maxRecDepth 20000 in
theorem ggX6_place_X6_no : GoodIn wsX6_place wsX6_no := goodIn_r _ [38, 1, 39, 40, 41, 42, 43, 44, 45, 46] (by decide +kernel) (by decide +kernel)
set_option maxRecDepth 20000 in
theorem gX6_place_X6_no : GoodIn wsX6_place (wsV RX6 54 RX6 yX6_no wsX6_no) := goodIn_app (goodIn_of _ (by decide +kernel)) ggX6_place_X6_no
theorem dX6_place_0 : decode cX6_place 0 = .ok (.aload_n 0, 1) := by decide +kernel
theorem dX6_place_1 : decode cX6_place 1 = .ok (.iconst 0, 1) := by decide +kernel
theorem dX6_place_2 : decode cX6_place 2 = .ok (.putfield 43, 3) := by decide +kernel
theorem dX6_place_5 : decode cX6_place 5 = .ok (.iload_n 1, 1) := by decide +kernel
theorem dX6_place_6 : decode cX6_place 6 = .ok (.iload_n 2, 1) := by decide +kernel
theorem dX6_place_7 : decode cX6_place 7 = .ok (.invokestatic 58, 3) := by decide +kernel
theorem dX6_place_10 : decode cX6_place 10 = .ok (.ifCond .eq 25, 3) := by decide +kernel
theorem dX6_place_13 : decode cX6_place 13 = .ok (.iload_n 3, 1) := by decide +kernel
theorem dX6_place_14 : decode cX6_place 14 = .ok (.iconst 0, 1) := by decide +kernel
theorem dX6_place_15 : decode cX6_place 15 = .ok (.iconst 3, 1) := by decide +kernel
theorem dX6_place_16 : decode cX6_place 16 = .ok (.invokestatic 47, 3) := by decide +kernel
theorem dX6_place_19 : decode cX6_place 19 = .ok (.ifCond .eq 16, 3) := by decide +kernel
theorem dX6_place_22 : decode cX6_place 22 = .ok (.aload_n 0, 1) := by decide +kernel
theorem dX6_place_23 : decode cX6_place 23 = .ok (.iconst 3, 1) := by decide +kernel
theorem dX6_place_24 : decode cX6_place 24 = .ok (.iload_n 1, 1) := by decide +kernel
theorem dX6_place_25 : decode cX6_place 25 = .ok (.imul, 1) := by decide +kernel
theorem dX6_place_26 : decode cX6_place 26 = .ok (.iload_n 2, 1) := by decide +kernel
theorem dX6_place_27 : decode cX6_place 27 = .ok (.iadd, 1) := by decide +kernel
theorem dX6_place_28 : decode cX6_place 28 = .ok (.iload_n 3, 1) := by decide +kernel
theorem dX6_place_29 : decode cX6_place 29 = .ok (.invokevirtual 84, 3) := by decide +kernel
theorem dX6_place_32 : decode cX6_place 32 = .ok (.goto 8, 3) := by decide +kernel
theorem dX6_place_35 : decode cX6_place 35 = .ok (.aload_n 0, 1) := by decide +kernel
theorem dX6_place_36 : decode cX6_place 36 = .ok (.iconst 1, 1) := by decide +kernel
theorem dX6_place_37 : decode cX6_place 37 = .ok (.invokevirtual 54, 3) := by decide +kernel
theorem dX6_place_40 : decode cX6_place 40 = .ok (.ireturn, 1) := by decide +kernel
set_option maxRecDepth 20000 in
theorem ggX6_come_X6_isPlace : GoodIn wsX6_come wsX6_isPlace := goodIn_r _ [11, 12, 13, 10, 14] (by decide +kernel) (by decide +kernel)
set_option maxRecDepth 20000 in
theorem gX6_come_X6_isPlace : GoodIn wsX6_come (va_wsS RX6 58 yX6_isPlace wsX6_isPlace) := goodIn_app (goodIn_of _ (by decide +kernel)) ggX6_come_X6_isPlace
set_option maxRecDepth 20000 in
theorem ggX6_come_X6_no : GoodIn wsX6_come wsX6_no := goodIn_r _ [18, 1, 26, 27, 28, 29, 30, 31, 32, 33] (by decide +kernel) (by decide +kernel)
set_option maxRecDepth 20000 in
theorem gX6_come_X6_no : GoodIn wsX6_come (wsV RX6 54 RX6 yX6_no wsX6_no) := goodIn_app (goodIn_of _ (by decide +kernel)) ggX6_come_X6_no
set_option maxRecDepth 20000 in
theorem ggX6_come_X6_isIn : GoodIn wsX6_come wsX6_isIn := goodIn_r _ [14] (by decide +kernel) (by decide +kernel)
set_option maxRecDepth 20000 in
theorem gX6_come_X6_isIn : GoodIn wsX6_come (va_wsS RX6 47 yX6_isIn wsX6_isIn) := goodIn_app (goodIn_of _ (by decide +kernel)) ggX6_come_X6_isIn
set_option maxRecDepth 20000 in
theorem ggX6_come_X5_holds : GoodIn wsX6_come wsX5_holds := goodIn_r _ [23, 24, 25, 34, 35, 36, 37, 38, 39, 40, 41] (by decide +kernel) (by decide +kernel)
set_option maxRecDepth 20000 in
theorem gX6_come_X5_holds : GoodIn wsX6_come (wsV RX6 66 RX5 yX5_holds wsX5_holds) := goodIn_app (goodIn_of _ (by decide +kernel)) ggX6_come_X5_holds
theorem dX6_come_0 : decode cX6_come 0 = .ok (.aload_n 0, 1) := by decide +kernel
theorem dX6_come_1 : decode cX6_come 1 = .ok (.iconst 0, 1) := by decide +kernel
theorem dX6_come_2 : decode cX6_come 2 = .ok (.putfield 43, 3) := by decide +kernel
theorem dX6_come_5 : decode cX6_come 5 = .ok (.iload_n 1, 1) := by decide +kernel
theorem dX6_come_6 : decode cX6_come 6 = .ok (.iload_n 2, 1) := by decide +kernel
theorem dX6_come_7 : decode cX6_come 7 = .ok (.invokestatic 58, 3) := by decide +kernel
theorem dX6_come_10 : decode cX6_come 10 = .ok (.ifCond .ne 9, 3) := by decide +kernel
theorem dX6_come_13 : decode cX6_come 13 = .ok (.aload_n 0, 1) := by decide +kernel
theorem dX6_come_14 : decode cX6_come 14 = .ok (.iconst 1, 1) := by decide +kernel
theorem dX6_come_15 : decode cX6_come 15 = .ok (.invokevirtual 54, 3) := by decide +kernel
theorem dX6_come_18 : decode cX6_come 18 = .ok (.ireturn, 1) := by decide +kernel
theorem dX6_come_19 : decode cX6_come 19 = .ok (.iload_n 3, 1) := by decide +kernel
theorem dX6_come_20 : decode cX6_come 20 = .ok (.iconst 1, 1) := by decide +kernel
theorem dX6_come_21 : decode cX6_come 21 = .ok (.bipush 40, 2) := by decide +kernel
theorem dX6_come_23 : decode cX6_come 23 = .ok (.invokestatic 47, 3) := by decide +kernel
theorem dX6_come_26 : decode cX6_come 26 = .ok (.ifCond .eq 14, 3) := by decide +kernel
theorem dX6_come_29 : decode cX6_come 29 = .ok (.iload 4, 2) := by decide +kernel
theorem dX6_come_31 : decode cX6_come 31 = .ok (.iconst 0, 1) := by decide +kernel
theorem dX6_come_32 : decode cX6_come 32 = .ok (.bipush 20, 2) := by decide +kernel
theorem dX6_come_34 : decode cX6_come 34 = .ok (.invokestatic 47, 3) := by decide +kernel
theorem dX6_come_37 : decode cX6_come 37 = .ok (.ifCond .ne 9, 3) := by decide +kernel
theorem dX6_come_40 : decode cX6_come 40 = .ok (.aload_n 0, 1) := by decide +kernel
theorem dX6_come_41 : decode cX6_come 41 = .ok (.iconst 2, 1) := by decide +kernel
theorem dX6_come_42 : decode cX6_come 42 = .ok (.invokevirtual 54, 3) := by decide +kernel
theorem dX6_come_45 : decode cX6_come 45 = .ok (.ireturn, 1) := by decide +kernel
theorem dX6_come_46 : decode cX6_come 46 = .ok (.aload_n 0, 1) := by decide +kernel
theorem dX6_come_47 : decode cX6_come 47 = .ok (.getfield 27, 3) := by decide +kernel
theorem dX6_come_50 : decode cX6_come 50 = .ok (.getfield 51, 3) := by decide +kernel
theorem dX6_come_53 : decode cX6_come 53 = .ok (.bipush 8, 2) := by decide +kernel
theorem dX6_come_55 : decode cX6_come 55 = .ok (.if_icmp .eq 22, 3) := by decide +kernel
theorem dX6_come_58 : decode cX6_come 58 = .ok (.aload_n 0, 1) := by decide +kernel
theorem dX6_come_59 : decode cX6_come 59 = .ok (.getfield 27, 3) := by decide +kernel
theorem dX6_come_62 : decode cX6_come 62 = .ok (.iconst 3, 1) := by decide +kernel
theorem dX6_come_63 : decode cX6_come 63 = .ok (.iload_n 1, 1) := by decide +kernel
theorem dX6_come_64 : decode cX6_come 64 = .ok (.imul, 1) := by decide +kernel
theorem dX6_come_65 : decode cX6_come 65 = .ok (.iload_n 2, 1) := by decide +kernel
theorem dX6_come_66 : decode cX6_come 66 = .ok (.iadd, 1) := by decide +kernel
theorem dX6_come_67 : decode cX6_come 67 = .ok (.invokevirtual 66, 3) := by decide +kernel
theorem dX6_come_70 : decode cX6_come 70 = .ok (.iload_n 3, 1) := by decide +kernel
theorem dX6_come_71 : decode cX6_come 71 = .ok (.iload 4, 2) := by decide +kernel
theorem dX6_come_73 : decode cX6_come 73 = .ok (.iadd, 1) := by decide +kernel
theorem dX6_come_74 : decode cX6_come 74 = .ok (.if_icmp .ge 9, 3) := by decide +kernel
theorem dX6_come_77 : decode cX6_come 77 = .ok (.aload_n 0, 1) := by decide +kernel
theorem dX6_come_78 : decode cX6_come 78 = .ok (.iconst 3, 1) := by decide +kernel
theorem dX6_come_79 : decode cX6_come 79 = .ok (.invokevirtual 54, 3) := by decide +kernel
theorem dX6_come_82 : decode cX6_come 82 = .ok (.ireturn, 1) := by decide +kernel
theorem dX6_come_83 : decode cX6_come 83 = .ok (.bipush 9, 2) := by decide +kernel
theorem dX6_come_85 : decode cX6_come 85 = .ok (.newarray .int, 2) := by decide +kernel
theorem dX6_come_87 : decode cX6_come 87 = .ok (.dup, 1) := by decide +kernel
theorem dX6_come_88 : decode cX6_come 88 = .ok (.iconst 0, 1) := by decide +kernel
theorem dX6_come_89 : decode cX6_come 89 = .ok (.iload_n 3, 1) := by decide +kernel
theorem dX6_come_90 : decode cX6_come 90 = .ok (.iastore, 1) := by decide +kernel
theorem dX6_come_91 : decode cX6_come 91 = .ok (.dup, 1) := by decide +kernel
theorem dX6_come_92 : decode cX6_come 92 = .ok (.iconst 1, 1) := by decide +kernel
theorem dX6_come_93 : decode cX6_come 93 = .ok (.iload 4, 2) := by decide +kernel
theorem dX6_come_95 : decode cX6_come 95 = .ok (.iastore, 1) := by decide +kernel
theorem dX6_come_96 : decode cX6_come 96 = .ok (.dup, 1) := by decide +kernel
theorem dX6_come_97 : decode cX6_come 97 = .ok (.iconst 2, 1) := by decide +kernel
theorem dX6_come_98 : decode cX6_come 98 = .ok (.bipush 20, 2) := by decide +kernel
theorem dX6_come_100 : decode cX6_come 100 = .ok (.iastore, 1) := by decide +kernel
theorem dX6_come_101 : decode cX6_come 101 = .ok (.dup, 1) := by decide +kernel
theorem dX6_come_102 : decode cX6_come 102 = .ok (.iconst 3, 1) := by decide +kernel
theorem dX6_come_103 : decode cX6_come 103 = .ok (.iload_n 1, 1) := by decide +kernel
theorem dX6_come_104 : decode cX6_come 104 = .ok (.iastore, 1) := by decide +kernel
theorem dX6_come_105 : decode cX6_come 105 = .ok (.dup, 1) := by decide +kernel
theorem dX6_come_106 : decode cX6_come 106 = .ok (.iconst 4, 1) := by decide +kernel
theorem dX6_come_107 : decode cX6_come 107 = .ok (.iload_n 2, 1) := by decide +kernel
theorem dX6_come_108 : decode cX6_come 108 = .ok (.iastore, 1) := by decide +kernel
theorem dX6_come_109 : decode cX6_come 109 = .ok (.dup, 1) := by decide +kernel
theorem dX6_come_110 : decode cX6_come 110 = .ok (.iconst 5, 1) := by decide +kernel
theorem dX6_come_111 : decode cX6_come 111 = .ok (.iload_n 1, 1) := by decide +kernel
theorem dX6_come_112 : decode cX6_come 112 = .ok (.iastore, 1) := by decide +kernel
theorem dX6_come_113 : decode cX6_come 113 = .ok (.dup, 1) := by decide +kernel
theorem dX6_come_114 : decode cX6_come 114 = .ok (.bipush 6, 2) := by decide +kernel
theorem dX6_come_116 : decode cX6_come 116 = .ok (.iconst 0, 1) := by decide +kernel
theorem dX6_come_117 : decode cX6_come 117 = .ok (.iastore, 1) := by decide +kernel
theorem dX6_come_118 : decode cX6_come 118 = .ok (.dup, 1) := by decide +kernel
theorem dX6_come_119 : decode cX6_come 119 = .ok (.bipush 7, 2) := by decide +kernel
theorem dX6_come_121 : decode cX6_come 121 = .ok (.iconst 0, 1) := by decide +kernel
theorem dX6_come_122 : decode cX6_come 122 = .ok (.iastore, 1) := by decide +kernel
theorem dX6_come_123 : decode cX6_come 123 = .ok (.dup, 1) := by decide +kernel
theorem dX6_come_124 : decode cX6_come 124 = .ok (.bipush 8, 2) := by decide +kernel
theorem dX6_come_126 : decode cX6_come 126 = .ok (.iload 5, 2) := by decide +kernel
theorem dX6_come_128 : decode cX6_come 128 = .ok (.ifCond .eq 7, 3) := by decide +kernel
theorem dX6_come_131 : decode cX6_come 131 = .ok (.iconst 1, 1) := by decide +kernel
theorem dX6_come_132 : decode cX6_come 132 = .ok (.goto 4, 3) := by decide +kernel
theorem dX6_come_135 : decode cX6_come 135 = .ok (.iconst 0, 1) := by decide +kernel
theorem dX6_come_136 : decode cX6_come 136 = .ok (.iastore, 1) := by decide +kernel
theorem dX6_come_137 : decode cX6_come 137 = .ok (.astore 6, 2) := by decide +kernel
theorem dX6_come_139 : decode cX6_come 139 = .ok (.aload 6, 2) := by decide +kernel
theorem dX6_come_141 : decode cX6_come 141 = .ok (.iconst 0, 1) := by decide +kernel
theorem dX6_come_142 : decode cX6_come 142 = .ok (.aload_n 0, 1) := by decide +kernel
theorem dX6_come_143 : decode cX6_come 143 = .ok (.getfield 27, 3) := by decide +kernel
theorem dX6_come_146 : decode cX6_come 146 = .ok (.getfield 87, 3) := by decide +kernel
theorem dX6_come_149 : decode cX6_come 149 = .ok (.bipush 9, 2) := by decide +kernel
theorem dX6_come_151 : decode cX6_come 151 = .ok (.aload_n 0, 1) := by decide +kernel
theorem dX6_come_152 : decode cX6_come 152 = .ok (.getfield 27, 3) := by decide +kernel
theorem dX6_come_155 : decode cX6_come 155 = .ok (.getfield 51, 3) := by decide +kernel
theorem dX6_come_158 : decode cX6_come 158 = .ok (.imul, 1) := by decide +kernel
theorem dX6_come_159 : decode cX6_come 159 = .ok (.bipush 9, 2) := by decide +kernel
theorem dX6_come_161 : decode cX6_come 161 = .ok (.invokestatic 90, 3) := by decide +kernel
theorem dX6_come_164 : decode cX6_come 164 = .ok (.aload_n 0, 1) := by decide +kernel
theorem dX6_come_165 : decode cX6_come 165 = .ok (.getfield 27, 3) := by decide +kernel
theorem dX6_come_168 : decode cX6_come 168 = .ok (.dup, 1) := by decide +kernel
theorem dX6_come_169 : decode cX6_come 169 = .ok (.getfield 51, 3) := by decide +kernel
theorem dX6_come_172 : decode cX6_come 172 = .ok (.iconst 1, 1) := by decide +kernel
theorem dX6_come_173 : decode cX6_come 173 = .ok (.iadd, 1) := by decide +kernel
theorem dX6_come_174 : decode cX6_come 174 = .ok (.putfield 51, 3) := by decide +kernel
theorem dX6_come_177 : decode cX6_come 177 = .ok (.aload_n 0, 1) := by decide +kernel
theorem dX6_come_178 : decode cX6_come 178 = .ok (.getfield 27, 3) := by decide +kernel
theorem dX6_come_181 : decode cX6_come 181 = .ok (.getfield 51, 3) := by decide +kernel
theorem dX6_come_184 : decode cX6_come 184 = .ok (.iconst 1, 1) := by decide +kernel
theorem dX6_come_185 : decode cX6_come 185 = .ok (.isub, 1) := by decide +kernel
theorem dX6_come_186 : decode cX6_come 186 = .ok (.ireturn, 1) := by decide +kernel
set_option maxRecDepth 20000 in
theorem ggX6_send_X6_isCourier : GoodIn wsX6_send wsX6_isCourier := goodIn_r _ [11, 2, 12, 13, 10, 14, 29, 30, 31, 32, 33, 34, 35, 36, 37, 38, 39, 40, 41, 42, 43, 44] (by decide +kernel) (by decide +kernel)
set_option maxRecDepth 20000 in
theorem gX6_send_X6_isCourier : GoodIn wsX6_send (wsV RX6 96 RX6 yX6_isCourier wsX6_isCourier) := goodIn_app (goodIn_of _ (by decide +kernel)) ggX6_send_X6_isCourier
set_option maxRecDepth 20000 in
theorem ggX6_send_X6_isIn : GoodIn wsX6_send wsX6_isIn := goodIn_r _ [14] (by decide +kernel) (by decide +kernel)
set_option maxRecDepth 20000 in
theorem gX6_send_X6_isIn : GoodIn wsX6_send (va_wsS RX6 47 yX6_isIn wsX6_isIn) := goodIn_app (goodIn_of _ (by decide +kernel)) ggX6_send_X6_isIn
set_option maxRecDepth 20000 in
theorem ggX6_send_X6_no : GoodIn wsX6_send wsX6_no := goodIn_r _ [18, 1, 29, 30, 31, 32, 33, 34, 35, 36] (by decide +kernel) (by decide +kernel)
set_option maxRecDepth 20000 in
theorem gX6_send_X6_no : GoodIn wsX6_send (wsV RX6 54 RX6 yX6_no wsX6_no) := goodIn_app (goodIn_of _ (by decide +kernel)) ggX6_send_X6_no
set_option maxRecDepth 20000 in
theorem ggX6_send_X5_get : GoodIn wsX6_send wsX5_get := goodIn_r _ [23, 24, 37, 38, 39, 40, 41, 42, 43, 44] (by decide +kernel) (by decide +kernel)
set_option maxRecDepth 20000 in
theorem gX6_send_X5_get : GoodIn wsX6_send (wsV RX6 75 RX5 yX5_get wsX5_get) := goodIn_app (goodIn_of _ (by decide +kernel)) ggX6_send_X5_get
set_option maxRecDepth 20000 in
theorem ggX6_send_X5_set : GoodIn wsX6_send wsX5_set := goodIn_r _ [28, 24, 37, 38, 39, 40, 41, 42, 43, 44] (by decide +kernel) (by decide +kernel)
set_option maxRecDepth 20000 in
theorem gX6_send_X5_set : GoodIn wsX6_send (wsV RX6 100 RX5 yX5_set wsX5_set) := goodIn_app (goodIn_of _ (by decide +kernel)) ggX6_send_X5_set
theorem dX6_send_0 : decode cX6_send 0 = .ok (.aload_n 0, 1) := by decide +kernel
theorem dX6_send_1 : decode cX6_send 1 = .ok (.iconst 0, 1) := by decide +kernel
theorem dX6_send_2 : decode cX6_send 2 = .ok (.putfield 43, 3) := by decide +kernel
theorem dX6_send_5 : decode cX6_send 5 = .ok (.aload_n 0, 1) := by decide +kernel
theorem dX6_send_6 : decode cX6_send 6 = .ok (.iload_n 1, 1) := by decide +kernel
theorem dX6_send_7 : decode cX6_send 7 = .ok (.invokevirtual 96, 3) := by decide +kernel
theorem dX6_send_10 : decode cX6_send 10 = .ok (.ifCond .eq 13, 3) := by decide +kernel
theorem dX6_send_13 : decode cX6_send 13 = .ok (.iload_n 2, 1) := by decide +kernel
theorem dX6_send_14 : decode cX6_send 14 = .ok (.iconst 0, 1) := by decide +kernel
theorem dX6_send_15 : decode cX6_send 15 = .ok (.bipush 11, 2) := by decide +kernel
theorem dX6_send_17 : decode cX6_send 17 = .ok (.invokestatic 47, 3) := by decide +kernel
theorem dX6_send_20 : decode cX6_send 20 = .ok (.ifCond .ne 9, 3) := by decide +kernel
theorem dX6_send_23 : decode cX6_send 23 = .ok (.aload_n 0, 1) := by decide +kernel
theorem dX6_send_24 : decode cX6_send 24 = .ok (.iconst 1, 1) := by decide +kernel
theorem dX6_send_25 : decode cX6_send 25 = .ok (.invokevirtual 54, 3) := by decide +kernel
theorem dX6_send_28 : decode cX6_send 28 = .ok (.ireturn, 1) := by decide +kernel
theorem dX6_send_29 : decode cX6_send 29 = .ok (.aload_n 0, 1) := by decide +kernel
theorem dX6_send_30 : decode cX6_send 30 = .ok (.getfield 27, 3) := by decide +kernel
theorem dX6_send_33 : decode cX6_send 33 = .ok (.iload_n 1, 1) := by decide +kernel
theorem dX6_send_34 : decode cX6_send 34 = .ok (.bipush 6, 2) := by decide +kernel
theorem dX6_send_36 : decode cX6_send 36 = .ok (.invokevirtual 75, 3) := by decide +kernel
theorem dX6_send_39 : decode cX6_send 39 = .ok (.iconst 3, 1) := by decide +kernel
theorem dX6_send_40 : decode cX6_send 40 = .ok (.if_icmp .ne 9, 3) := by decide +kernel
theorem dX6_send_43 : decode cX6_send 43 = .ok (.aload_n 0, 1) := by decide +kernel
theorem dX6_send_44 : decode cX6_send 44 = .ok (.iconst 2, 1) := by decide +kernel
theorem dX6_send_45 : decode cX6_send 45 = .ok (.invokevirtual 54, 3) := by decide +kernel
theorem dX6_send_48 : decode cX6_send 48 = .ok (.ireturn, 1) := by decide +kernel
theorem dX6_send_49 : decode cX6_send 49 = .ok (.aload_n 0, 1) := by decide +kernel
theorem dX6_send_50 : decode cX6_send 50 = .ok (.getfield 27, 3) := by decide +kernel
theorem dX6_send_53 : decode cX6_send 53 = .ok (.iload_n 1, 1) := by decide +kernel
theorem dX6_send_54 : decode cX6_send 54 = .ok (.iconst 5, 1) := by decide +kernel
theorem dX6_send_55 : decode cX6_send 55 = .ok (.iload_n 2, 1) := by decide +kernel
theorem dX6_send_56 : decode cX6_send 56 = .ok (.invokevirtual 100, 3) := by decide +kernel
theorem dX6_send_59 : decode cX6_send 59 = .ok (.aload_n 0, 1) := by decide +kernel
theorem dX6_send_60 : decode cX6_send 60 = .ok (.getfield 27, 3) := by decide +kernel
theorem dX6_send_63 : decode cX6_send 63 = .ok (.iload_n 1, 1) := by decide +kernel
theorem dX6_send_64 : decode cX6_send 64 = .ok (.bipush 6, 2) := by decide +kernel
theorem dX6_send_66 : decode cX6_send 66 = .ok (.iconst 0, 1) := by decide +kernel
theorem dX6_send_67 : decode cX6_send 67 = .ok (.invokevirtual 100, 3) := by decide +kernel
theorem dX6_send_70 : decode cX6_send 70 = .ok (.iload_n 2, 1) := by decide +kernel
theorem dX6_send_71 : decode cX6_send 71 = .ok (.aload_n 0, 1) := by decide +kernel
theorem dX6_send_72 : decode cX6_send 72 = .ok (.getfield 27, 3) := by decide +kernel
theorem dX6_send_75 : decode cX6_send 75 = .ok (.iload_n 1, 1) := by decide +kernel
theorem dX6_send_76 : decode cX6_send 76 = .ok (.iconst 3, 1) := by decide +kernel
theorem dX6_send_77 : decode cX6_send 77 = .ok (.invokevirtual 75, 3) := by decide +kernel
theorem dX6_send_80 : decode cX6_send 80 = .ok (.isub, 1) := by decide +kernel
theorem dX6_send_81 : decode cX6_send 81 = .ok (.invokestatic 104, 3) := by decide +kernel
theorem dX6_send_84 : decode cX6_send 84 = .ok (.ireturn, 1) := by decide +kernel
set_option maxRecDepth 20000 in
theorem ggX6_load_X6_isCourier : GoodIn wsX6_load wsX6_isCourier := goodIn_r _ [7, 2, 8, 9, 6, 10, 31, 32, 33, 34, 35, 36, 37, 38, 39, 40, 41, 42, 43, 44, 45, 46] (by decide +kernel) (by decide +kernel)
set_option maxRecDepth 20000 in
theorem gX6_load_X6_isCourier : GoodIn wsX6_load (wsV RX6 96 RX6 yX6_isCourier wsX6_isCourier) := goodIn_app (goodIn_of _ (by decide +kernel)) ggX6_load_X6_isCourier
set_option maxRecDepth 20000 in
theorem ggX6_load_X6_no : GoodIn wsX6_load wsX6_no := goodIn_r _ [14, 1, 31, 32, 33, 34, 35, 36, 37, 38] (by decide +kernel) (by decide +kernel)
set_option maxRecDepth 20000 in
theorem gX6_load_X6_no : GoodIn wsX6_load (wsV RX6 54 RX6 yX6_no wsX6_no) := goodIn_app (goodIn_of _ (by decide +kernel)) ggX6_load_X6_no
set_option maxRecDepth 20000 in
theorem ggX6_load_X6_isIn : GoodIn wsX6_load wsX6_isIn := goodIn_r _ [10] (by decide +kernel) (by decide +kernel)
set_option maxRecDepth 20000 in
theorem gX6_load_X6_isIn : GoodIn wsX6_load (va_wsS RX6 47 yX6_isIn wsX6_isIn) := goodIn_app (goodIn_of _ (by decide +kernel)) ggX6_load_X6_isIn
set_option maxRecDepth 20000 in
theorem ggX6_load_X5_get : GoodIn wsX6_load wsX5_get := goodIn_r _ [19, 20, 39, 40, 41, 42, 43, 44, 45, 46] (by decide +kernel) (by decide +kernel)
set_option maxRecDepth 20000 in
theorem gX6_load_X5_get : GoodIn wsX6_load (wsV RX6 75 RX5 yX5_get wsX5_get) := goodIn_app (goodIn_of _ (by decide +kernel)) ggX6_load_X5_get
set_option maxRecDepth 20000 in
theorem ggX6_load_X5_holds : GoodIn wsX6_load wsX5_holds := goodIn_r _ [24, 25, 26, 39, 40, 41, 42, 43, 44, 45, 46] (by decide +kernel) (by decide +kernel)
set_option maxRecDepth 20000 in
theorem gX6_load_X5_holds : GoodIn wsX6_load (wsV RX6 66 RX5 yX5_holds wsX5_holds) := goodIn_app (goodIn_of _ (by decide +kernel)) ggX6_load_X5_holds
set_option maxRecDepth 20000 in
theorem ggX6_load_X5_set : GoodIn wsX6_load wsX5_set := goodIn_r _ [30, 20, 39, 40, 41, 42, 43, 44, 45, 46] (by decide +kernel) (by decide +kernel)
set_option maxRecDepth 20000 in
theorem gX6_load_X5_set : GoodIn wsX6_load (wsV RX6 100 RX5 yX5_set wsX5_set) := goodIn_app (goodIn_of _ (by decide +kernel)) ggX6_load_X5_set
theorem dX6_load_0 : decode cX6_load 0 = .ok (.aload_n 0, 1) := by decide +kernel
theorem dX6_load_1 : decode cX6_load 1 = .ok (.iconst 0, 1) := by decide +kernel
theorem dX6_load_2 : decode cX6_load 2 = .ok (.putfield 43, 3) := by decide +kernel
theorem dX6_load_5 : decode cX6_load 5 = .ok (.aload_n 0, 1) := by decide +kernel
theorem dX6_load_6 : decode cX6_load 6 = .ok (.iload_n 1, 1) := by decide +kernel
theorem dX6_load_7 : decode cX6_load 7 = .ok (.invokevirtual 96, 3) := by decide +kernel
theorem dX6_load_10 : decode cX6_load 10 = .ok (.ifCond .ne 9, 3) := by decide +kernel
theorem dX6_load_13 : decode cX6_load 13 = .ok (.aload_n 0, 1) := by decide +kernel
theorem dX6_load_14 : decode cX6_load 14 = .ok (.iconst 1, 1) := by decide +kernel
theorem dX6_load_15 : decode cX6_load 15 = .ok (.invokevirtual 54, 3) := by decide +kernel
theorem dX6_load_18 : decode cX6_load 18 = .ok (.ireturn, 1) := by decide +kernel
theorem dX6_load_19 : decode cX6_load 19 = .ok (.iload_n 2, 1) := by decide +kernel
theorem dX6_load_20 : decode cX6_load 20 = .ok (.ifCond .eq 14, 3) := by decide +kernel
theorem dX6_load_23 : decode cX6_load 23 = .ok (.iload_n 2, 1) := by decide +kernel
theorem dX6_load_24 : decode cX6_load 24 = .ok (.bipush (-20), 2) := by decide +kernel
theorem dX6_load_26 : decode cX6_load 26 = .ok (.bipush 20, 2) := by decide +kernel
theorem dX6_load_28 : decode cX6_load 28 = .ok (.invokestatic 47, 3) := by decide +kernel
theorem dX6_load_31 : decode cX6_load 31 = .ok (.ifCond .ne 9, 3) := by decide +kernel
theorem dX6_load_34 : decode cX6_load 34 = .ok (.aload_n 0, 1) := by decide +kernel
theorem dX6_load_35 : decode cX6_load 35 = .ok (.iconst 2, 1) := by decide +kernel
theorem dX6_load_36 : decode cX6_load 36 = .ok (.invokevirtual 54, 3) := by decide +kernel
theorem dX6_load_39 : decode cX6_load 39 = .ok (.ireturn, 1) := by decide +kernel
theorem dX6_load_40 : decode cX6_load 40 = .ok (.aload_n 0, 1) := by decide +kernel
theorem dX6_load_41 : decode cX6_load 41 = .ok (.getfield 27, 3) := by decide +kernel
theorem dX6_load_44 : decode cX6_load 44 = .ok (.iload_n 1, 1) := by decide +kernel
theorem dX6_load_45 : decode cX6_load 45 = .ok (.iconst 1, 1) := by decide +kernel
theorem dX6_load_46 : decode cX6_load 46 = .ok (.invokevirtual 75, 3) := by decide +kernel
theorem dX6_load_49 : decode cX6_load 49 = .ok (.iload_n 2, 1) := by decide +kernel
theorem dX6_load_50 : decode cX6_load 50 = .ok (.iadd, 1) := by decide +kernel
theorem dX6_load_51 : decode cX6_load 51 = .ok (.istore_n 3, 1) := by decide +kernel
theorem dX6_load_52 : decode cX6_load 52 = .ok (.iconst 3, 1) := by decide +kernel
theorem dX6_load_53 : decode cX6_load 53 = .ok (.aload_n 0, 1) := by decide +kernel
theorem dX6_load_54 : decode cX6_load 54 = .ok (.getfield 27, 3) := by decide +kernel
theorem dX6_load_57 : decode cX6_load 57 = .ok (.iload_n 1, 1) := by decide +kernel
theorem dX6_load_58 : decode cX6_load 58 = .ok (.iconst 3, 1) := by decide +kernel
theorem dX6_load_59 : decode cX6_load 59 = .ok (.invokevirtual 75, 3) := by decide +kernel
theorem dX6_load_62 : decode cX6_load 62 = .ok (.imul, 1) := by decide +kernel
theorem dX6_load_63 : decode cX6_load 63 = .ok (.aload_n 0, 1) := by decide +kernel
theorem dX6_load_64 : decode cX6_load 64 = .ok (.getfield 27, 3) := by decide +kernel
theorem dX6_load_67 : decode cX6_load 67 = .ok (.iload_n 1, 1) := by decide +kernel
theorem dX6_load_68 : decode cX6_load 68 = .ok (.iconst 4, 1) := by decide +kernel
theorem dX6_load_69 : decode cX6_load 69 = .ok (.invokevirtual 75, 3) := by decide +kernel
theorem dX6_load_72 : decode cX6_load 72 = .ok (.iadd, 1) := by decide +kernel
theorem dX6_load_73 : decode cX6_load 73 = .ok (.istore 4, 2) := by decide +kernel
theorem dX6_load_75 : decode cX6_load 75 = .ok (.aload_n 0, 1) := by decide +kernel
theorem dX6_load_76 : decode cX6_load 76 = .ok (.getfield 27, 3) := by decide +kernel
theorem dX6_load_79 : decode cX6_load 79 = .ok (.iload_n 1, 1) := by decide +kernel
theorem dX6_load_80 : decode cX6_load 80 = .ok (.bipush 6, 2) := by decide +kernel
theorem dX6_load_82 : decode cX6_load 82 = .ok (.invokevirtual 75, 3) := by decide +kernel
theorem dX6_load_85 : decode cX6_load 85 = .ok (.iconst 3, 1) := by decide +kernel
theorem dX6_load_86 : decode cX6_load 86 = .ok (.if_icmp .eq 36, 3) := by decide +kernel
theorem dX6_load_89 : decode cX6_load 89 = .ok (.iload_n 3, 1) := by decide +kernel
theorem dX6_load_90 : decode cX6_load 90 = .ok (.iconst 0, 1) := by decide +kernel
theorem dX6_load_91 : decode cX6_load 91 = .ok (.bipush 20, 2) := by decide +kernel
theorem dX6_load_93 : decode cX6_load 93 = .ok (.invokestatic 47, 3) := by decide +kernel
theorem dX6_load_96 : decode cX6_load 96 = .ok (.ifCond .eq 26, 3) := by decide +kernel
theorem dX6_load_99 : decode cX6_load 99 = .ok (.aload_n 0, 1) := by decide +kernel
theorem dX6_load_100 : decode cX6_load 100 = .ok (.getfield 27, 3) := by decide +kernel
theorem dX6_load_103 : decode cX6_load 103 = .ok (.iload 4, 2) := by decide +kernel
theorem dX6_load_105 : decode cX6_load 105 = .ok (.invokevirtual 66, 3) := by decide +kernel
theorem dX6_load_108 : decode cX6_load 108 = .ok (.aload_n 0, 1) := by decide +kernel
theorem dX6_load_109 : decode cX6_load 109 = .ok (.getfield 27, 3) := by decide +kernel
theorem dX6_load_112 : decode cX6_load 112 = .ok (.iload_n 1, 1) := by decide +kernel
theorem dX6_load_113 : decode cX6_load 113 = .ok (.iconst 0, 1) := by decide +kernel
theorem dX6_load_114 : decode cX6_load 114 = .ok (.invokevirtual 75, 3) := by decide +kernel
theorem dX6_load_117 : decode cX6_load 117 = .ok (.iload_n 3, 1) := by decide +kernel
theorem dX6_load_118 : decode cX6_load 118 = .ok (.iadd, 1) := by decide +kernel
theorem dX6_load_119 : decode cX6_load 119 = .ok (.if_icmp .ge 9, 3) := by decide +kernel
theorem dX6_load_122 : decode cX6_load 122 = .ok (.aload_n 0, 1) := by decide +kernel
theorem dX6_load_123 : decode cX6_load 123 = .ok (.iconst 3, 1) := by decide +kernel
theorem dX6_load_124 : decode cX6_load 124 = .ok (.invokevirtual 54, 3) := by decide +kernel
theorem dX6_load_127 : decode cX6_load 127 = .ok (.ireturn, 1) := by decide +kernel
theorem dX6_load_128 : decode cX6_load 128 = .ok (.aload_n 0, 1) := by decide +kernel
theorem dX6_load_129 : decode cX6_load 129 = .ok (.getfield 27, 3) := by decide +kernel
theorem dX6_load_132 : decode cX6_load 132 = .ok (.iload_n 1, 1) := by decide +kernel
theorem dX6_load_133 : decode cX6_load 133 = .ok (.iconst 1, 1) := by decide +kernel
theorem dX6_load_134 : decode cX6_load 134 = .ok (.iload_n 3, 1) := by decide +kernel
theorem dX6_load_135 : decode cX6_load 135 = .ok (.invokevirtual 100, 3) := by decide +kernel
theorem dX6_load_138 : decode cX6_load 138 = .ok (.iload_n 3, 1) := by decide +kernel
theorem dX6_load_139 : decode cX6_load 139 = .ok (.ireturn, 1) := by decide +kernel
set_option maxRecDepth 20000 in
theorem ggX6_courier_X6_isCourier : GoodIn wsX6_courier wsX6_isCourier := goodIn_r _ [7, 2, 8, 9, 6, 10, 21, 22, 23, 24, 25, 26, 27, 28, 29, 30, 31, 32, 33, 34, 35, 36] (by decide +kernel) (by decide +kernel)
set_option maxRecDepth 20000 in
theorem gX6_courier_X6_isCourier : GoodIn wsX6_courier (wsV RX6 96 RX6 yX6_isCourier wsX6_isCourier) := goodIn_app (goodIn_of _ (by decide +kernel)) ggX6_courier_X6_isCourier
set_option maxRecDepth 20000 in
theorem ggX6_courier_X6_isIn : GoodIn wsX6_courier wsX6_isIn := goodIn_r _ [10] (by decide +kernel) (by decide +kernel)
set_option maxRecDepth 20000 in
theorem gX6_courier_X6_isIn : GoodIn wsX6_courier (va_wsS RX6 47 yX6_isIn wsX6_isIn) := goodIn_app (goodIn_of _ (by decide +kernel)) ggX6_courier_X6_isIn
set_option maxRecDepth 20000 in
theorem ggX6_courier_X5_get : GoodIn wsX6_courier wsX5_get := goodIn_r _ [15, 16, 29, 30, 31, 32, 33, 34, 35, 36] (by decide +kernel) (by decide +kernel)
set_option maxRecDepth 20000 in
theorem gX6_courier_X5_get : GoodIn wsX6_courier (wsV RX6 75 RX5 yX5_get wsX5_get) := goodIn_app (goodIn_of _ (by decide +kernel)) ggX6_courier_X5_get
set_option maxRecDepth 20000 in
theorem ggX6_courier_X6_no : GoodIn wsX6_courier wsX6_no := goodIn_r _ [20, 1, 21, 22, 23, 24, 25, 26, 27, 28] (by decide +kernel) (by decide +kernel)
set_option maxRecDepth 20000 in
theorem gX6_courier_X6_no : GoodIn wsX6_courier (wsV RX6 54 RX6 yX6_no wsX6_no) := goodIn_app (goodIn_of _ (by decide +kernel)) ggX6_courier_X6_no
theorem dX6_courier_0 : decode cX6_courier 0 = .ok (.aload_n 0, 1) := by decide +kernel
theorem dX6_courier_1 : decode cX6_courier 1 = .ok (.iconst 0, 1) := by decide +kernel
theorem dX6_courier_2 : decode cX6_courier 2 = .ok (.putfield 43, 3) := by decide +kernel
theorem dX6_courier_5 : decode cX6_courier 5 = .ok (.aload_n 0, 1) := by decide +kernel
theorem dX6_courier_6 : decode cX6_courier 6 = .ok (.iload_n 1, 1) := by decide +kernel
theorem dX6_courier_7 : decode cX6_courier 7 = .ok (.invokevirtual 96, 3) := by decide +kernel
theorem dX6_courier_10 : decode cX6_courier 10 = .ok (.ifCond .eq 25, 3) := by decide +kernel
theorem dX6_courier_13 : decode cX6_courier 13 = .ok (.iload_n 2, 1) := by decide +kernel
theorem dX6_courier_14 : decode cX6_courier 14 = .ok (.iconst 0, 1) := by decide +kernel
theorem dX6_courier_15 : decode cX6_courier 15 = .ok (.bipush 8, 2) := by decide +kernel
theorem dX6_courier_17 : decode cX6_courier 17 = .ok (.invokestatic 47, 3) := by decide +kernel
theorem dX6_courier_20 : decode cX6_courier 20 = .ok (.ifCond .eq 15, 3) := by decide +kernel
theorem dX6_courier_23 : decode cX6_courier 23 = .ok (.aload_n 0, 1) := by decide +kernel
theorem dX6_courier_24 : decode cX6_courier 24 = .ok (.getfield 27, 3) := by decide +kernel
theorem dX6_courier_27 : decode cX6_courier 27 = .ok (.iload_n 1, 1) := by decide +kernel
theorem dX6_courier_28 : decode cX6_courier 28 = .ok (.iload_n 2, 1) := by decide +kernel
theorem dX6_courier_29 : decode cX6_courier 29 = .ok (.invokevirtual 75, 3) := by decide +kernel
theorem dX6_courier_32 : decode cX6_courier 32 = .ok (.goto 8, 3) := by decide +kernel
theorem dX6_courier_35 : decode cX6_courier 35 = .ok (.aload_n 0, 1) := by decide +kernel
theorem dX6_courier_36 : decode cX6_courier 36 = .ok (.iconst 1, 1) := by decide +kernel
theorem dX6_courier_37 : decode cX6_courier 37 = .ok (.invokevirtual 54, 3) := by decide +kernel
theorem dX6_courier_40 : decode cX6_courier 40 = .ok (.ireturn, 1) := by decide +kernel
set_option maxRecDepth 20000 in
theorem ggX6_wager_X6_isIn : GoodIn wsX6_wager wsX6_isIn := goodIn_r _ [9] (by decide +kernel) (by decide +kernel)
set_option maxRecDepth 20000 in
theorem gX6_wager_X6_isIn : GoodIn wsX6_wager (va_wsS RX6 47 yX6_isIn wsX6_isIn) := goodIn_app (goodIn_of _ (by decide +kernel)) ggX6_wager_X6_isIn
set_option maxRecDepth 20000 in
theorem ggX6_wager_X6_no : GoodIn wsX6_wager wsX6_no := goodIn_r _ [13, 1, 14, 15, 16, 17, 18, 19, 20, 21] (by decide +kernel) (by decide +kernel)
set_option maxRecDepth 20000 in
theorem gX6_wager_X6_no : GoodIn wsX6_wager (wsV RX6 54 RX6 yX6_no wsX6_no) := goodIn_app (goodIn_of _ (by decide +kernel)) ggX6_wager_X6_no
theorem dX6_wager_0 : decode cX6_wager 0 = .ok (.aload_n 0, 1) := by decide +kernel
theorem dX6_wager_1 : decode cX6_wager 1 = .ok (.iconst 0, 1) := by decide +kernel
theorem dX6_wager_2 : decode cX6_wager 2 = .ok (.putfield 43, 3) := by decide +kernel
theorem dX6_wager_5 : decode cX6_wager 5 = .ok (.iload_n 1, 1) := by decide +kernel
theorem dX6_wager_6 : decode cX6_wager 6 = .ok (.iconst 0, 1) := by decide +kernel
theorem dX6_wager_7 : decode cX6_wager 7 = .ok (.sipush 500, 3) := by decide +kernel
theorem dX6_wager_10 : decode cX6_wager 10 = .ok (.invokestatic 47, 3) := by decide +kernel
theorem dX6_wager_13 : decode cX6_wager 13 = .ok (.ifCond .eq 13, 3) := by decide +kernel
theorem dX6_wager_16 : decode cX6_wager 16 = .ok (.iload_n 2, 1) := by decide +kernel
theorem dX6_wager_17 : decode cX6_wager 17 = .ok (.iconst 1, 1) := by decide +kernel
theorem dX6_wager_18 : decode cX6_wager 18 = .ok (.bipush 100, 2) := by decide +kernel
theorem dX6_wager_20 : decode cX6_wager 20 = .ok (.invokestatic 47, 3) := by decide +kernel
theorem dX6_wager_23 : decode cX6_wager 23 = .ok (.ifCond .ne 9, 3) := by decide +kernel
theorem dX6_wager_26 : decode cX6_wager 26 = .ok (.aload_n 0, 1) := by decide +kernel
theorem dX6_wager_27 : decode cX6_wager 27 = .ok (.iconst 1, 1) := by decide +kernel
theorem dX6_wager_28 : decode cX6_wager 28 = .ok (.invokevirtual 54, 3) := by decide +kernel
theorem dX6_wager_31 : decode cX6_wager 31 = .ok (.ireturn, 1) := by decide +kernel
theorem dX6_wager_32 : decode cX6_wager 32 = .ok (.aload_n 0, 1) := by decide +kernel
theorem dX6_wager_33 : decode cX6_wager 33 = .ok (.getfield 107, 3) := by decide +kernel
theorem dX6_wager_36 : decode cX6_wager 36 = .ok (.bipush 12, 2) := by decide +kernel
theorem dX6_wager_38 : decode cX6_wager 38 = .ok (.if_icmp .eq 14, 3) := by decide +kernel
theorem dX6_wager_41 : decode cX6_wager 41 = .ok (.aload_n 0, 1) := by decide +kernel
theorem dX6_wager_42 : decode cX6_wager 42 = .ok (.getfield 27, 3) := by decide +kernel
theorem dX6_wager_45 : decode cX6_wager 45 = .ok (.getfield 110, 3) := by decide +kernel
theorem dX6_wager_48 : decode cX6_wager 48 = .ok (.iconst (-1), 1) := by decide +kernel
theorem dX6_wager_49 : decode cX6_wager 49 = .ok (.if_icmp .eq 9, 3) := by decide +kernel
theorem dX6_wager_52 : decode cX6_wager 52 = .ok (.aload_n 0, 1) := by decide +kernel
theorem dX6_wager_53 : decode cX6_wager 53 = .ok (.iconst 2, 1) := by decide +kernel
theorem dX6_wager_54 : decode cX6_wager 54 = .ok (.invokevirtual 54, 3) := by decide +kernel
theorem dX6_wager_57 : decode cX6_wager 57 = .ok (.ireturn, 1) := by decide +kernel
theorem dX6_wager_58 : decode cX6_wager 58 = .ok (.aload_n 0, 1) := by decide +kernel
theorem dX6_wager_59 : decode cX6_wager 59 = .ok (.getfield 16, 3) := by decide +kernel
theorem dX6_wager_62 : decode cX6_wager 62 = .ok (.aload_n 0, 1) := by decide +kernel
theorem dX6_wager_63 : decode cX6_wager 63 = .ok (.getfield 107, 3) := by decide +kernel
theorem dX6_wager_66 : decode cX6_wager 66 = .ok (.iload_n 1, 1) := by decide +kernel
theorem dX6_wager_67 : decode cX6_wager 67 = .ok (.iastore, 1) := by decide +kernel
theorem dX6_wager_68 : decode cX6_wager 68 = .ok (.aload_n 0, 1) := by decide +kernel
theorem dX6_wager_69 : decode cX6_wager 69 = .ok (.getfield 19, 3) := by decide +kernel
theorem dX6_wager_72 : decode cX6_wager 72 = .ok (.aload_n 0, 1) := by decide +kernel
theorem dX6_wager_73 : decode cX6_wager 73 = .ok (.getfield 107, 3) := by decide +kernel
theorem dX6_wager_76 : decode cX6_wager 76 = .ok (.iload_n 2, 1) := by decide +kernel
theorem dX6_wager_77 : decode cX6_wager 77 = .ok (.iastore, 1) := by decide +kernel
theorem dX6_wager_78 : decode cX6_wager 78 = .ok (.aload_n 0, 1) := by decide +kernel
theorem dX6_wager_79 : decode cX6_wager 79 = .ok (.dup, 1) := by decide +kernel
theorem dX6_wager_80 : decode cX6_wager 80 = .ok (.getfield 107, 3) := by decide +kernel
theorem dX6_wager_83 : decode cX6_wager 83 = .ok (.iconst 1, 1) := by decide +kernel
theorem dX6_wager_84 : decode cX6_wager 84 = .ok (.iadd, 1) := by decide +kernel
theorem dX6_wager_85 : decode cX6_wager 85 = .ok (.putfield 107, 3) := by decide +kernel
theorem dX6_wager_88 : decode cX6_wager 88 = .ok (.aload_n 0, 1) := by decide +kernel
theorem dX6_wager_89 : decode cX6_wager 89 = .ok (.getfield 107, 3) := by decide +kernel
theorem dX6_wager_92 : decode cX6_wager 92 = .ok (.iconst 1, 1) := by decide +kernel
theorem dX6_wager_93 : decode cX6_wager 93 = .ok (.isub, 1) := by decide +kernel
theorem dX6_wager_94 : decode cX6_wager 94 = .ok (.ireturn, 1) := by decide +kernel
theorem dX6_stakes_0 : decode cX6_stakes 0 = .ok (.iconst 0, 1) := by decide +kernel
theorem dX6_stakes_1 : decode cX6_stakes 1 = .ok (.istore_n 1, 1) := by decide +kernel
theorem dX6_stakes_2 : decode cX6_stakes 2 = .ok (.iconst 0, 1) := by decide +kernel
theorem dX6_stakes_3 : decode cX6_stakes 3 = .ok (.istore_n 2, 1) := by decide +kernel
theorem dX6_stakes_4 : decode cX6_stakes 4 = .ok (.iload_n 2, 1) := by decide +kernel
theorem dX6_stakes_5 : decode cX6_stakes 5 = .ok (.aload_n 0, 1) := by decide +kernel
theorem dX6_stakes_6 : decode cX6_stakes 6 = .ok (.getfield 107, 3) := by decide +kernel
theorem dX6_stakes_9 : decode cX6_stakes 9 = .ok (.if_icmp .ge 18, 3) := by decide +kernel
theorem dX6_stakes_12 : decode cX6_stakes 12 = .ok (.iload_n 1, 1) := by decide +kernel
theorem dX6_stakes_13 : decode cX6_stakes 13 = .ok (.aload_n 0, 1) := by decide +kernel
theorem dX6_stakes_14 : decode cX6_stakes 14 = .ok (.getfield 19, 3) := by decide +kernel
theorem dX6_stakes_17 : decode cX6_stakes 17 = .ok (.iload_n 2, 1) := by decide +kernel
theorem dX6_stakes_18 : decode cX6_stakes 18 = .ok (.iaload, 1) := by decide +kernel
theorem dX6_stakes_19 : decode cX6_stakes 19 = .ok (.iadd, 1) := by decide +kernel
theorem dX6_stakes_20 : decode cX6_stakes 20 = .ok (.istore_n 1, 1) := by decide +kernel
theorem dX6_stakes_21 : decode cX6_stakes 21 = .ok (.iinc 2 1, 3) := by decide +kernel
theorem dX6_stakes_24 : decode cX6_stakes 24 = .ok (.goto (-20), 3) := by decide +kernel
theorem dX6_stakes_27 : decode cX6_stakes 27 = .ok (.iload_n 1, 1) := by decide +kernel
theorem dX6_stakes_28 : decode cX6_stakes 28 = .ok (.ireturn, 1) := by decide +kernel
set_option maxRecDepth 20000 in
theorem ggX6_won_X6_stakes : GoodIn wsX6_won wsX6_stakes := goodIn_r _ [12, 7, 13, 14, 15, 16, 17, 18, 19, 20, 21] (by decide +kernel) (by decide +kernel)
set_option maxRecDepth 20000 in
theorem gX6_won_X6_stakes : GoodIn wsX6_won (wsV RX6 113 RX6 yX6_stakes wsX6_stakes) := goodIn_app (goodIn_of _ (by decide +kernel)) ggX6_won_X6_stakes
theorem dX6_won_0 : decode cX6_won 0 = .ok (.aload_n 0, 1) := by decide +kernel
theorem dX6_won_1 : decode cX6_won 1 = .ok (.getfield 27, 3) := by decide +kernel
theorem dX6_won_4 : decode cX6_won 4 = .ok (.getfield 110, 3) := by decide +kernel
theorem dX6_won_7 : decode cX6_won 7 = .ok (.iconst (-1), 1) := by decide +kernel
theorem dX6_won_8 : decode cX6_won 8 = .ok (.if_icmp .ne 5, 3) := by decide +kernel
theorem dX6_won_11 : decode cX6_won 11 = .ok (.iconst 0, 1) := by decide +kernel
theorem dX6_won_12 : decode cX6_won 12 = .ok (.ireturn, 1) := by decide +kernel
theorem dX6_won_13 : decode cX6_won 13 = .ok (.aload_n 0, 1) := by decide +kernel
theorem dX6_won_14 : decode cX6_won 14 = .ok (.getfield 16, 3) := by decide +kernel
theorem dX6_won_17 : decode cX6_won 17 = .ok (.iload_n 1, 1) := by decide +kernel
theorem dX6_won_18 : decode cX6_won 18 = .ok (.iaload, 1) := by decide +kernel
theorem dX6_won_19 : decode cX6_won 19 = .ok (.aload_n 0, 1) := by decide +kernel
theorem dX6_won_20 : decode cX6_won 20 = .ok (.getfield 27, 3) := by decide +kernel
theorem dX6_won_23 : decode cX6_won 23 = .ok (.getfield 110, 3) := by decide +kernel
theorem dX6_won_26 : decode cX6_won 26 = .ok (.isub, 1) := by decide +kernel
theorem dX6_won_27 : decode cX6_won 27 = .ok (.invokestatic 104, 3) := by decide +kernel
theorem dX6_won_30 : decode cX6_won 30 = .ok (.istore_n 2, 1) := by decide +kernel
theorem dX6_won_31 : decode cX6_won 31 = .ok (.iconst 0, 1) := by decide +kernel
theorem dX6_won_32 : decode cX6_won 32 = .ok (.istore_n 3, 1) := by decide +kernel
theorem dX6_won_33 : decode cX6_won 33 = .ok (.iconst 0, 1) := by decide +kernel
theorem dX6_won_34 : decode cX6_won 34 = .ok (.istore 4, 2) := by decide +kernel
theorem dX6_won_36 : decode cX6_won 36 = .ok (.iload 4, 2) := by decide +kernel
theorem dX6_won_38 : decode cX6_won 38 = .ok (.aload_n 0, 1) := by decide +kernel
theorem dX6_won_39 : decode cX6_won 39 = .ok (.getfield 107, 3) := by decide +kernel
theorem dX6_won_42 : decode cX6_won 42 = .ok (.if_icmp .ge 51, 3) := by decide +kernel
theorem dX6_won_45 : decode cX6_won 45 = .ok (.aload_n 0, 1) := by decide +kernel
theorem dX6_won_46 : decode cX6_won 46 = .ok (.getfield 16, 3) := by decide +kernel
theorem dX6_won_49 : decode cX6_won 49 = .ok (.iload 4, 2) := by decide +kernel
theorem dX6_won_51 : decode cX6_won 51 = .ok (.iaload, 1) := by decide +kernel
theorem dX6_won_52 : decode cX6_won 52 = .ok (.aload_n 0, 1) := by decide +kernel
theorem dX6_won_53 : decode cX6_won 53 = .ok (.getfield 27, 3) := by decide +kernel
theorem dX6_won_56 : decode cX6_won 56 = .ok (.getfield 110, 3) := by decide +kernel
theorem dX6_won_59 : decode cX6_won 59 = .ok (.isub, 1) := by decide +kernel
theorem dX6_won_60 : decode cX6_won 60 = .ok (.invokestatic 104, 3) := by decide +kernel
theorem dX6_won_63 : decode cX6_won 63 = .ok (.istore 5, 2) := by decide +kernel
theorem dX6_won_65 : decode cX6_won 65 = .ok (.iload 5, 2) := by decide +kernel
theorem dX6_won_67 : decode cX6_won 67 = .ok (.iload_n 2, 1) := by decide +kernel
theorem dX6_won_68 : decode cX6_won 68 = .ok (.if_icmp .ge 5, 3) := by decide +kernel
theorem dX6_won_71 : decode cX6_won 71 = .ok (.iconst 0, 1) := by decide +kernel
theorem dX6_won_72 : decode cX6_won 72 = .ok (.ireturn, 1) := by decide +kernel
theorem dX6_won_73 : decode cX6_won 73 = .ok (.iload_n 3, 1) := by decide +kernel
theorem dX6_won_74 : decode cX6_won 74 = .ok (.iload 5, 2) := by decide +kernel
theorem dX6_won_76 : decode cX6_won 76 = .ok (.iload_n 2, 1) := by decide +kernel
theorem dX6_won_77 : decode cX6_won 77 = .ok (.if_icmp .ne 7, 3) := by decide +kernel
theorem dX6_won_80 : decode cX6_won 80 = .ok (.iconst 1, 1) := by decide +kernel
theorem dX6_won_81 : decode cX6_won 81 = .ok (.goto 4, 3) := by decide +kernel
theorem dX6_won_84 : decode cX6_won 84 = .ok (.iconst 0, 1) := by decide +kernel
theorem dX6_won_85 : decode cX6_won 85 = .ok (.iadd, 1) := by decide +kernel
theorem dX6_won_86 : decode cX6_won 86 = .ok (.istore_n 3, 1) := by decide +kernel
theorem dX6_won_87 : decode cX6_won 87 = .ok (.iinc 4 1, 3) := by decide +kernel
theorem dX6_won_90 : decode cX6_won 90 = .ok (.goto (-54), 3) := by decide +kernel
theorem dX6_won_93 : decode cX6_won 93 = .ok (.aload_n 0, 1) := by decide +kernel
theorem dX6_won_94 : decode cX6_won 94 = .ok (.invokevirtual 113, 3) := by decide +kernel
theorem dX6_won_97 : decode cX6_won 97 = .ok (.iload_n 3, 1) := by decide +kernel
theorem dX6_won_98 : decode cX6_won 98 = .ok (.idiv, 1) := by decide +kernel
theorem dX6_won_99 : decode cX6_won 99 = .ok (.ireturn, 1) := by decide +kernel
set_option maxRecDepth 20000 in
theorem ggX6_wins_X6_isIn : GoodIn wsX6_wins wsX6_isIn := goodIn_r _ [6] (by decide +kernel) (by decide +kernel)
set_option maxRecDepth 20000 in
theorem gX6_wins_X6_isIn : GoodIn wsX6_wins (va_wsS RX6 47 yX6_isIn wsX6_isIn) := goodIn_app (goodIn_of _ (by decide +kernel)) ggX6_wins_X6_isIn
set_option maxRecDepth 20000 in
theorem ggX6_wins_X6_won : GoodIn wsX6_wins wsX6_won := goodIn_r _ [10, 11, 12, 13, 14, 15, 16, 2, 17, 18, 19, 5, 20, 21, 26, 27, 28, 29, 30, 31, 32, 33, 34, 35, 36, 37, 38, 39, 40, 41] (by decide +kernel) (by decide +kernel)
set_option maxRecDepth 20000 in
theorem gX6_wins_X6_won : GoodIn wsX6_wins (wsV RX6 116 RX6 yX6_won wsX6_won) := goodIn_app (goodIn_of _ (by decide +kernel)) ggX6_wins_X6_won
set_option maxRecDepth 20000 in
theorem ggX6_wins_X6_no : GoodIn wsX6_wins wsX6_no := goodIn_r _ [25, 1, 26, 27, 28, 29, 30, 31, 32, 33] (by decide +kernel) (by decide +kernel)
set_option maxRecDepth 20000 in
theorem gX6_wins_X6_no : GoodIn wsX6_wins (wsV RX6 54 RX6 yX6_no wsX6_no) := goodIn_app (goodIn_of _ (by decide +kernel)) ggX6_wins_X6_no
theorem dX6_wins_0 : decode cX6_wins 0 = .ok (.aload_n 0, 1) := by decide +kernel
theorem dX6_wins_1 : decode cX6_wins 1 = .ok (.iconst 0, 1) := by decide +kernel
theorem dX6_wins_2 : decode cX6_wins 2 = .ok (.putfield 43, 3) := by decide +kernel
theorem dX6_wins_5 : decode cX6_wins 5 = .ok (.iload_n 1, 1) := by decide +kernel
theorem dX6_wins_6 : decode cX6_wins 6 = .ok (.iconst 0, 1) := by decide +kernel
theorem dX6_wins_7 : decode cX6_wins 7 = .ok (.aload_n 0, 1) := by decide +kernel
theorem dX6_wins_8 : decode cX6_wins 8 = .ok (.getfield 107, 3) := by decide +kernel
theorem dX6_wins_11 : decode cX6_wins 11 = .ok (.iconst 1, 1) := by decide +kernel
theorem dX6_wins_12 : decode cX6_wins 12 = .ok (.isub, 1) := by decide +kernel
theorem dX6_wins_13 : decode cX6_wins 13 = .ok (.invokestatic 47, 3) := by decide +kernel
theorem dX6_wins_16 : decode cX6_wins 16 = .ok (.ifCond .eq 11, 3) := by decide +kernel
theorem dX6_wins_19 : decode cX6_wins 19 = .ok (.aload_n 0, 1) := by decide +kernel
theorem dX6_wins_20 : decode cX6_wins 20 = .ok (.iload_n 1, 1) := by decide +kernel
theorem dX6_wins_21 : decode cX6_wins 21 = .ok (.invokevirtual 116, 3) := by decide +kernel
theorem dX6_wins_24 : decode cX6_wins 24 = .ok (.goto 8, 3) := by decide +kernel
theorem dX6_wins_27 : decode cX6_wins 27 = .ok (.aload_n 0, 1) := by decide +kernel
theorem dX6_wins_28 : decode cX6_wins 28 = .ok (.iconst 1, 1) := by decide +kernel
theorem dX6_wins_29 : decode cX6_wins 29 = .ok (.invokevirtual 54, 3) := by decide +kernel
theorem dX6_wins_32 : decode cX6_wins 32 = .ok (.ireturn, 1) := by decide +kernel
set_option maxRecDepth 20000 in
theorem ggX6_pass_X6_isIn : GoodIn wsX6_pass wsX6_isIn := goodIn_r _ [6] (by decide +kernel) (by decide +kernel)
set_option maxRecDepth 20000 in
theorem gX6_pass_X6_isIn : GoodIn wsX6_pass (va_wsS RX6 47 yX6_isIn wsX6_isIn) := goodIn_app (goodIn_of _ (by decide +kernel)) ggX6_pass_X6_isIn
set_option maxRecDepth 20000 in
theorem ggX6_pass_X6_no : GoodIn wsX6_pass wsX6_no := goodIn_r _ [10, 1, 63, 64, 65, 66, 67, 68, 69, 70] (by decide +kernel) (by decide +kernel)
set_option maxRecDepth 20000 in
theorem gX6_pass_X6_no : GoodIn wsX6_pass (wsV RX6 54 RX6 yX6_no wsX6_no) := goodIn_app (goodIn_of _ (by decide +kernel)) ggX6_pass_X6_no
set_option maxRecDepth 20000 in
theorem ggX6_pass_X5_pass : GoodIn wsX6_pass wsX5_pass := goodIn_r _ [15, 16, 17, 18, 19, 20, 21, 22, 23, 24, 25, 14, 26, 27, 28, 29, 30, 31, 32, 33, 34, 35, 36, 37, 38, 39, 40, 41, 42, 43, 44, 45, 46, 47, 48, 49, 50, 51, 52, 53, 54, 55, 56, 57, 58, 59, 60, 61, 62, 71, 72, 73, 74, 75, 76, 77, 78, 63, 64, 65, 66, 67, 68, 69, 70] (by decide +kernel) (by decide +kernel)
set_option maxRecDepth 20000 in
theorem gX6_pass_X5_pass : GoodIn wsX6_pass (wsV RX6 122 RX5 yX5_pass wsX5_pass) := goodIn_app (goodIn_of _ (by decide +kernel)) ggX6_pass_X5_pass
theorem dX6_pass_0 : decode cX6_pass 0 = .ok (.aload_n 0, 1) := by decide +kernel
theorem dX6_pass_1 : decode cX6_pass 1 = .ok (.iconst 0, 1) := by decide +kernel
theorem dX6_pass_2 : decode cX6_pass 2 = .ok (.putfield 43, 3) := by decide +kernel
theorem dX6_pass_5 : decode cX6_pass 5 = .ok (.iload_n 1, 1) := by decide +kernel
theorem dX6_pass_6 : decode cX6_pass 6 = .ok (.iconst 1, 1) := by decide +kernel
theorem dX6_pass_7 : decode cX6_pass 7 = .ok (.sipush 200, 3) := by decide +kernel
theorem dX6_pass_10 : decode cX6_pass 10 = .ok (.invokestatic 47, 3) := by decide +kernel
theorem dX6_pass_13 : decode cX6_pass 13 = .ok (.ifCond .ne 9, 3) := by decide +kernel
theorem dX6_pass_16 : decode cX6_pass 16 = .ok (.aload_n 0, 1) := by decide +kernel
theorem dX6_pass_17 : decode cX6_pass 17 = .ok (.iconst 1, 1) := by decide +kernel
theorem dX6_pass_18 : decode cX6_pass 18 = .ok (.invokevirtual 54, 3) := by decide +kernel
theorem dX6_pass_21 : decode cX6_pass 21 = .ok (.ireturn, 1) := by decide +kernel
theorem dX6_pass_22 : decode cX6_pass 22 = .ok (.aload_n 0, 1) := by decide +kernel
theorem dX6_pass_23 : decode cX6_pass 23 = .ok (.getfield 27, 3) := by decide +kernel
theorem dX6_pass_26 : decode cX6_pass 26 = .ok (.getfield 119, 3) := by decide +kernel
theorem dX6_pass_29 : decode cX6_pass 29 = .ok (.istore_n 2, 1) := by decide +kernel
theorem dX6_pass_30 : decode cX6_pass 30 = .ok (.iconst 0, 1) := by decide +kernel
theorem dX6_pass_31 : decode cX6_pass 31 = .ok (.istore_n 3, 1) := by decide +kernel
theorem dX6_pass_32 : decode cX6_pass 32 = .ok (.iload_n 3, 1) := by decide +kernel
theorem dX6_pass_33 : decode cX6_pass 33 = .ok (.iload_n 1, 1) := by decide +kernel
theorem dX6_pass_34 : decode cX6_pass 34 = .ok (.if_icmp .ge 16, 3) := by decide +kernel
theorem dX6_pass_37 : decode cX6_pass 37 = .ok (.aload_n 0, 1) := by decide +kernel
theorem dX6_pass_38 : decode cX6_pass 38 = .ok (.getfield 27, 3) := by decide +kernel
theorem dX6_pass_41 : decode cX6_pass 41 = .ok (.invokevirtual 122, 3) := by decide +kernel
theorem dX6_pass_44 : decode cX6_pass 44 = .ok (.iinc 3 1, 3) := by decide +kernel
theorem dX6_pass_47 : decode cX6_pass 47 = .ok (.goto (-15), 3) := by decide +kernel
theorem dX6_pass_50 : decode cX6_pass 50 = .ok (.aload_n 0, 1) := by decide +kernel
theorem dX6_pass_51 : decode cX6_pass 51 = .ok (.getfield 27, 3) := by decide +kernel
theorem dX6_pass_54 : decode cX6_pass 54 = .ok (.getfield 119, 3) := by decide +kernel
theorem dX6_pass_57 : decode cX6_pass 57 = .ok (.iload_n 2, 1) := by decide +kernel
theorem dX6_pass_58 : decode cX6_pass 58 = .ok (.isub, 1) := by decide +kernel
theorem dX6_pass_59 : decode cX6_pass 59 = .ok (.ireturn, 1) := by decide +kernel
set_option maxRecDepth 20000 in
theorem ggX6_counted_X5_get : GoodIn wsX6_counted wsX5_get := goodIn_r _ [8, 9, 29, 30, 31, 32, 33, 34, 35, 36] (by decide +kernel) (by decide +kernel)
set_option maxRecDepth 20000 in
theorem gX6_counted_X5_get : GoodIn wsX6_counted (wsV RX6 75 RX5 yX5_get wsX5_get) := goodIn_app (goodIn_of _ (by decide +kernel)) ggX6_counted_X5_get
set_option maxRecDepth 20000 in
theorem ggX6_counted_X6_huts : GoodIn wsX6_counted wsX6_huts := goodIn_r _ [14, 15, 21, 22, 23, 24, 25, 26, 27, 28] (by decide +kernel) (by decide +kernel)
set_option maxRecDepth 20000 in
theorem gX6_counted_X6_huts : GoodIn wsX6_counted (wsV RX6 62 RX6 yX6_huts wsX6_huts) := goodIn_app (goodIn_of _ (by decide +kernel)) ggX6_counted_X6_huts
set_option maxRecDepth 20000 in
theorem ggX6_counted_X6_stakes : GoodIn wsX6_counted wsX6_stakes := goodIn_r _ [19, 3, 20, 21, 22, 23, 24, 25, 26, 27, 28] (by decide +kernel) (by decide +kernel)
set_option maxRecDepth 20000 in
theorem gX6_counted_X6_stakes : GoodIn wsX6_counted (wsV RX6 113 RX6 yX6_stakes wsX6_stakes) := goodIn_app (goodIn_of _ (by decide +kernel)) ggX6_counted_X6_stakes
theorem dX6_counted_0 : decode cX6_counted 0 = .ok (.iconst 4, 1) := by decide +kernel
theorem dX6_counted_1 : decode cX6_counted 1 = .ok (.newarray .int, 2) := by decide +kernel
theorem dX6_counted_3 : decode cX6_counted 3 = .ok (.astore_n 2, 1) := by decide +kernel
theorem dX6_counted_4 : decode cX6_counted 4 = .ok (.iconst 0, 1) := by decide +kernel
theorem dX6_counted_5 : decode cX6_counted 5 = .ok (.istore_n 3, 1) := by decide +kernel
theorem dX6_counted_6 : decode cX6_counted 6 = .ok (.iload_n 3, 1) := by decide +kernel
end
section
theorem dX6_counted_7 : decode cX6_counted 7 = .ok (.aload_n 0, 1) := by decide +kernel
theorem dX6_counted_8 : decode cX6_counted 8 = .ok (.getfield 27, 3) := by decide +kernel
theorem dX6_counted_11 : decode cX6_counted 11 = .ok (.getfield 51, 3) := by decide +kernel
theorem dX6_counted_14 : decode cX6_counted 14 = .ok (.if_icmp .ge 25, 3) := by decide +kernel
theorem dX6_counted_17 : decode cX6_counted 17 = .ok (.aload_n 2, 1) := by decide +kernel
theorem dX6_counted_18 : decode cX6_counted 18 = .ok (.aload_n 0, 1) := by decide +kernel
theorem dX6_counted_19 : decode cX6_counted 19 = .ok (.getfield 27, 3) := by decide +kernel
theorem dX6_counted_22 : decode cX6_counted 22 = .ok (.iload_n 3, 1) := by decide +kernel
theorem dX6_counted_23 : decode cX6_counted 23 = .ok (.bipush 6, 2) := by decide +kernel
theorem dX6_counted_25 : decode cX6_counted 25 = .ok (.invokevirtual 75, 3) := by decide +kernel
theorem dX6_counted_28 : decode cX6_counted 28 = .ok (.dup2, 1) := by decide +kernel
theorem dX6_counted_29 : decode cX6_counted 29 = .ok (.iaload, 1) := by decide +kernel
theorem dX6_counted_30 : decode cX6_counted 30 = .ok (.iconst 1, 1) := by decide +kernel
theorem dX6_counted_31 : decode cX6_counted 31 = .ok (.iadd, 1) := by decide +kernel
theorem dX6_counted_32 : decode cX6_counted 32 = .ok (.iastore, 1) := by decide +kernel
theorem dX6_counted_33 : decode cX6_counted 33 = .ok (.iinc 3 1, 3) := by decide +kernel
theorem dX6_counted_36 : decode cX6_counted 36 = .ok (.goto (-30), 3) := by decide +kernel
theorem dX6_counted_39 : decode cX6_counted 39 = .ok (.iconst 0, 1) := by decide +kernel
theorem dX6_counted_40 : decode cX6_counted 40 = .ok (.istore_n 3, 1) := by decide +kernel
theorem dX6_counted_41 : decode cX6_counted 41 = .ok (.iconst 0, 1) := by decide +kernel
theorem dX6_counted_42 : decode cX6_counted 42 = .ok (.istore 4, 2) := by decide +kernel
theorem dX6_counted_44 : decode cX6_counted 44 = .ok (.iconst 0, 1) := by decide +kernel
theorem dX6_counted_45 : decode cX6_counted 45 = .ok (.istore 5, 2) := by decide +kernel
theorem dX6_counted_47 : decode cX6_counted 47 = .ok (.iload 5, 2) := by decide +kernel
theorem dX6_counted_49 : decode cX6_counted 49 = .ok (.bipush 36, 2) := by decide +kernel
theorem dX6_counted_51 : decode cX6_counted 51 = .ok (.if_icmp .ge 45, 3) := by decide +kernel
theorem dX6_counted_54 : decode cX6_counted 54 = .ok (.iload_n 3, 1) := by decide +kernel
theorem dX6_counted_55 : decode cX6_counted 55 = .ok (.aload_n 0, 1) := by decide +kernel
theorem dX6_counted_56 : decode cX6_counted 56 = .ok (.getfield 27, 3) := by decide +kernel
theorem dX6_counted_59 : decode cX6_counted 59 = .ok (.getfield 78, 3) := by decide +kernel
theorem dX6_counted_62 : decode cX6_counted 62 = .ok (.iload 5, 2) := by decide +kernel
theorem dX6_counted_64 : decode cX6_counted 64 = .ok (.iaload, 1) := by decide +kernel
theorem dX6_counted_65 : decode cX6_counted 65 = .ok (.iadd, 1) := by decide +kernel
theorem dX6_counted_66 : decode cX6_counted 66 = .ok (.istore_n 3, 1) := by decide +kernel
theorem dX6_counted_67 : decode cX6_counted 67 = .ok (.iload 4, 2) := by decide +kernel
theorem dX6_counted_69 : decode cX6_counted 69 = .ok (.aload_n 0, 1) := by decide +kernel
theorem dX6_counted_70 : decode cX6_counted 70 = .ok (.getfield 27, 3) := by decide +kernel
theorem dX6_counted_73 : decode cX6_counted 73 = .ok (.getfield 40, 3) := by decide +kernel
theorem dX6_counted_76 : decode cX6_counted 76 = .ok (.iload 5, 2) := by decide +kernel
theorem dX6_counted_78 : decode cX6_counted 78 = .ok (.iaload, 1) := by decide +kernel
theorem dX6_counted_79 : decode cX6_counted 79 = .ok (.ifCond .ne 7, 3) := by decide +kernel
theorem dX6_counted_82 : decode cX6_counted 82 = .ok (.iconst 1, 1) := by decide +kernel
theorem dX6_counted_83 : decode cX6_counted 83 = .ok (.goto 4, 3) := by decide +kernel
theorem dX6_counted_86 : decode cX6_counted 86 = .ok (.iconst 0, 1) := by decide +kernel
theorem dX6_counted_87 : decode cX6_counted 87 = .ok (.iadd, 1) := by decide +kernel
theorem dX6_counted_88 : decode cX6_counted 88 = .ok (.istore 4, 2) := by decide +kernel
theorem dX6_counted_90 : decode cX6_counted 90 = .ok (.iinc 5 1, 3) := by decide +kernel
theorem dX6_counted_93 : decode cX6_counted 93 = .ok (.goto (-46), 3) := by decide +kernel
theorem dX6_counted_96 : decode cX6_counted 96 = .ok (.bipush 11, 2) := by decide +kernel
theorem dX6_counted_98 : decode cX6_counted 98 = .ok (.newarray .int, 2) := by decide +kernel
theorem dX6_counted_100 : decode cX6_counted 100 = .ok (.dup, 1) := by decide +kernel
theorem dX6_counted_101 : decode cX6_counted 101 = .ok (.iconst 0, 1) := by decide +kernel
theorem dX6_counted_102 : decode cX6_counted 102 = .ok (.aload_n 0, 1) := by decide +kernel
theorem dX6_counted_103 : decode cX6_counted 103 = .ok (.getfield 27, 3) := by decide +kernel
theorem dX6_counted_106 : decode cX6_counted 106 = .ok (.getfield 125, 3) := by decide +kernel
theorem dX6_counted_109 : decode cX6_counted 109 = .ok (.iastore, 1) := by decide +kernel
theorem dX6_counted_110 : decode cX6_counted 110 = .ok (.dup, 1) := by decide +kernel
theorem dX6_counted_111 : decode cX6_counted 111 = .ok (.iconst 1, 1) := by decide +kernel
theorem dX6_counted_112 : decode cX6_counted 112 = .ok (.aload_n 0, 1) := by decide +kernel
theorem dX6_counted_113 : decode cX6_counted 113 = .ok (.getfield 27, 3) := by decide +kernel
theorem dX6_counted_116 : decode cX6_counted 116 = .ok (.getfield 51, 3) := by decide +kernel
theorem dX6_counted_119 : decode cX6_counted 119 = .ok (.iastore, 1) := by decide +kernel
theorem dX6_counted_120 : decode cX6_counted 120 = .ok (.dup, 1) := by decide +kernel
theorem dX6_counted_121 : decode cX6_counted 121 = .ok (.iconst 2, 1) := by decide +kernel
theorem dX6_counted_122 : decode cX6_counted 122 = .ok (.aload_n 2, 1) := by decide +kernel
theorem dX6_counted_123 : decode cX6_counted 123 = .ok (.iconst 1, 1) := by decide +kernel
theorem dX6_counted_124 : decode cX6_counted 124 = .ok (.iaload, 1) := by decide +kernel
theorem dX6_counted_125 : decode cX6_counted 125 = .ok (.iastore, 1) := by decide +kernel
theorem dX6_counted_126 : decode cX6_counted 126 = .ok (.dup, 1) := by decide +kernel
theorem dX6_counted_127 : decode cX6_counted 127 = .ok (.iconst 3, 1) := by decide +kernel
theorem dX6_counted_128 : decode cX6_counted 128 = .ok (.aload_n 2, 1) := by decide +kernel
theorem dX6_counted_129 : decode cX6_counted 129 = .ok (.iconst 2, 1) := by decide +kernel
theorem dX6_counted_130 : decode cX6_counted 130 = .ok (.iaload, 1) := by decide +kernel
theorem dX6_counted_131 : decode cX6_counted 131 = .ok (.iastore, 1) := by decide +kernel
theorem dX6_counted_132 : decode cX6_counted 132 = .ok (.dup, 1) := by decide +kernel
theorem dX6_counted_133 : decode cX6_counted 133 = .ok (.iconst 4, 1) := by decide +kernel
theorem dX6_counted_134 : decode cX6_counted 134 = .ok (.aload_n 2, 1) := by decide +kernel
theorem dX6_counted_135 : decode cX6_counted 135 = .ok (.iconst 3, 1) := by decide +kernel
theorem dX6_counted_136 : decode cX6_counted 136 = .ok (.iaload, 1) := by decide +kernel
theorem dX6_counted_137 : decode cX6_counted 137 = .ok (.iastore, 1) := by decide +kernel
theorem dX6_counted_138 : decode cX6_counted 138 = .ok (.dup, 1) := by decide +kernel
theorem dX6_counted_139 : decode cX6_counted 139 = .ok (.iconst 5, 1) := by decide +kernel
theorem dX6_counted_140 : decode cX6_counted 140 = .ok (.iload_n 3, 1) := by decide +kernel
theorem dX6_counted_141 : decode cX6_counted 141 = .ok (.iastore, 1) := by decide +kernel
theorem dX6_counted_142 : decode cX6_counted 142 = .ok (.dup, 1) := by decide +kernel
theorem dX6_counted_143 : decode cX6_counted 143 = .ok (.bipush 6, 2) := by decide +kernel
theorem dX6_counted_145 : decode cX6_counted 145 = .ok (.iload 4, 2) := by decide +kernel
theorem dX6_counted_147 : decode cX6_counted 147 = .ok (.iastore, 1) := by decide +kernel
theorem dX6_counted_148 : decode cX6_counted 148 = .ok (.dup, 1) := by decide +kernel
theorem dX6_counted_149 : decode cX6_counted 149 = .ok (.bipush 7, 2) := by decide +kernel
theorem dX6_counted_151 : decode cX6_counted 151 = .ok (.aload_n 0, 1) := by decide +kernel
theorem dX6_counted_152 : decode cX6_counted 152 = .ok (.invokevirtual 62, 3) := by decide +kernel
theorem dX6_counted_155 : decode cX6_counted 155 = .ok (.iastore, 1) := by decide +kernel
theorem dX6_counted_156 : decode cX6_counted 156 = .ok (.dup, 1) := by decide +kernel
theorem dX6_counted_157 : decode cX6_counted 157 = .ok (.bipush 8, 2) := by decide +kernel
theorem dX6_counted_159 : decode cX6_counted 159 = .ok (.aload_n 0, 1) := by decide +kernel
theorem dX6_counted_160 : decode cX6_counted 160 = .ok (.getfield 107, 3) := by decide +kernel
theorem dX6_counted_163 : decode cX6_counted 163 = .ok (.iastore, 1) := by decide +kernel
theorem dX6_counted_164 : decode cX6_counted 164 = .ok (.dup, 1) := by decide +kernel
theorem dX6_counted_165 : decode cX6_counted 165 = .ok (.bipush 9, 2) := by decide +kernel
theorem dX6_counted_167 : decode cX6_counted 167 = .ok (.aload_n 0, 1) := by decide +kernel
theorem dX6_counted_168 : decode cX6_counted 168 = .ok (.invokevirtual 113, 3) := by decide +kernel
theorem dX6_counted_171 : decode cX6_counted 171 = .ok (.iastore, 1) := by decide +kernel
theorem dX6_counted_172 : decode cX6_counted 172 = .ok (.dup, 1) := by decide +kernel
theorem dX6_counted_173 : decode cX6_counted 173 = .ok (.bipush 10, 2) := by decide +kernel
theorem dX6_counted_175 : decode cX6_counted 175 = .ok (.aload_n 0, 1) := by decide +kernel
theorem dX6_counted_176 : decode cX6_counted 176 = .ok (.getfield 27, 3) := by decide +kernel
theorem dX6_counted_179 : decode cX6_counted 179 = .ok (.getfield 110, 3) := by decide +kernel
theorem dX6_counted_182 : decode cX6_counted 182 = .ok (.iastore, 1) := by decide +kernel
theorem dX6_counted_183 : decode cX6_counted 183 = .ok (.astore 5, 2) := by decide +kernel
theorem dX6_counted_185 : decode cX6_counted 185 = .ok (.aload 5, 2) := by decide +kernel
theorem dX6_counted_187 : decode cX6_counted 187 = .ok (.iload_n 1, 1) := by decide +kernel
theorem dX6_counted_188 : decode cX6_counted 188 = .ok (.iaload, 1) := by decide +kernel
theorem dX6_counted_189 : decode cX6_counted 189 = .ok (.ireturn, 1) := by decide +kernel
set_option maxRecDepth 20000 in
theorem ggX6_count_X6_isIn : GoodIn wsX6_count wsX6_isIn := goodIn_r _ [5] (by decide +kernel) (by decide +kernel)
set_option maxRecDepth 20000 in
theorem gX6_count_X6_isIn : GoodIn wsX6_count (va_wsS RX6 47 yX6_isIn wsX6_isIn) := goodIn_app (goodIn_of _ (by decide +kernel)) ggX6_count_X6_isIn
set_option maxRecDepth 20000 in
theorem ggX6_count_X6_counted : GoodIn wsX6_count wsX6_counted := goodIn_r _ [9, 10, 11, 12, 13, 14, 15, 16, 17, 18, 19, 20, 21, 4, 22, 23, 24, 25, 26, 27, 28, 33, 34, 35, 36, 37, 38, 39, 40, 41, 42, 43, 44, 45, 46, 47, 48] (by decide +kernel) (by decide +kernel)
set_option maxRecDepth 20000 in
theorem gX6_count_X6_counted : GoodIn wsX6_count (wsV RX6 128 RX6 yX6_counted wsX6_counted) := goodIn_app (goodIn_of _ (by decide +kernel)) ggX6_count_X6_counted
set_option maxRecDepth 20000 in
theorem ggX6_count_X6_no : GoodIn wsX6_count wsX6_no := goodIn_r _ [32, 1, 33, 34, 35, 36, 37, 38, 39, 40] (by decide +kernel) (by decide +kernel)
set_option maxRecDepth 20000 in
theorem gX6_count_X6_no : GoodIn wsX6_count (wsV RX6 54 RX6 yX6_no wsX6_no) := goodIn_app (goodIn_of _ (by decide +kernel)) ggX6_count_X6_no
theorem dX6_count_0 : decode cX6_count 0 = .ok (.aload_n 0, 1) := by decide +kernel
theorem dX6_count_1 : decode cX6_count 1 = .ok (.iconst 0, 1) := by decide +kernel
theorem dX6_count_2 : decode cX6_count 2 = .ok (.putfield 43, 3) := by decide +kernel
theorem dX6_count_5 : decode cX6_count 5 = .ok (.iload_n 1, 1) := by decide +kernel
theorem dX6_count_6 : decode cX6_count 6 = .ok (.iconst 0, 1) := by decide +kernel
theorem dX6_count_7 : decode cX6_count 7 = .ok (.bipush 10, 2) := by decide +kernel
theorem dX6_count_9 : decode cX6_count 9 = .ok (.invokestatic 47, 3) := by decide +kernel
theorem dX6_count_12 : decode cX6_count 12 = .ok (.ifCond .eq 11, 3) := by decide +kernel
theorem dX6_count_15 : decode cX6_count 15 = .ok (.aload_n 0, 1) := by decide +kernel
theorem dX6_count_16 : decode cX6_count 16 = .ok (.iload_n 1, 1) := by decide +kernel
theorem dX6_count_17 : decode cX6_count 17 = .ok (.invokevirtual 128, 3) := by decide +kernel
theorem dX6_count_20 : decode cX6_count 20 = .ok (.goto 8, 3) := by decide +kernel
theorem dX6_count_23 : decode cX6_count 23 = .ok (.aload_n 0, 1) := by decide +kernel
theorem dX6_count_24 : decode cX6_count 24 = .ok (.iconst 1, 1) := by decide +kernel
theorem dX6_count_25 : decode cX6_count 25 = .ok (.invokevirtual 54, 3) := by decide +kernel
theorem dX6_count_28 : decode cX6_count 28 = .ok (.ireturn, 1) := by decide +kernel
set_option maxRecDepth 20000 in
theorem ggX6_bears_X6_isIn : GoodIn wsX6_bears wsX6_isIn := goodIn_r _ [13] (by decide +kernel) (by decide +kernel)
set_option maxRecDepth 20000 in
theorem gX6_bears_X6_isIn : GoodIn wsX6_bears (va_wsS RX6 47 yX6_isIn wsX6_isIn) := goodIn_app (goodIn_of _ (by decide +kernel)) ggX6_bears_X6_isIn
set_option maxRecDepth 20000 in
theorem ggX6_bears_X6_no : GoodIn wsX6_bears wsX6_no := goodIn_r _ [17, 1, 30, 31, 32, 33, 34, 35, 36, 37] (by decide +kernel) (by decide +kernel)
set_option maxRecDepth 20000 in
theorem gX6_bears_X6_no : GoodIn wsX6_bears (wsV RX6 54 RX6 yX6_no wsX6_no) := goodIn_app (goodIn_of _ (by decide +kernel)) ggX6_bears_X6_no
set_option maxRecDepth 20000 in
theorem ggX6_bears_X6_borne : GoodIn wsX6_bears wsX6_borne := goodIn_r _ [21, 22, 3, 4, 5, 6, 23, 24, 25, 26, 27, 28, 29, 30, 31, 32, 33, 34, 35, 36, 37, 38, 39, 40, 41, 42, 43, 44, 45] (by decide +kernel) (by decide +kernel)
set_option maxRecDepth 20000 in
theorem gX6_bears_X6_borne : GoodIn wsX6_bears (wsV RX6 81 RX6 yX6_borne wsX6_borne) := goodIn_app (goodIn_of _ (by decide +kernel)) ggX6_bears_X6_borne
theorem dX6_bears_0 : decode cX6_bears 0 = .ok (.aload_n 0, 1) := by decide +kernel
theorem dX6_bears_1 : decode cX6_bears 1 = .ok (.iconst 0, 1) := by decide +kernel
theorem dX6_bears_2 : decode cX6_bears 2 = .ok (.putfield 43, 3) := by decide +kernel
theorem dX6_bears_5 : decode cX6_bears 5 = .ok (.iload_n 1, 1) := by decide +kernel
theorem dX6_bears_6 : decode cX6_bears 6 = .ok (.iconst 0, 1) := by decide +kernel
theorem dX6_bears_7 : decode cX6_bears 7 = .ok (.bipush 11, 2) := by decide +kernel
theorem dX6_bears_9 : decode cX6_bears 9 = .ok (.invokestatic 47, 3) := by decide +kernel
theorem dX6_bears_12 : decode cX6_bears 12 = .ok (.ifCond .eq 13, 3) := by decide +kernel
theorem dX6_bears_15 : decode cX6_bears 15 = .ok (.iload_n 2, 1) := by decide +kernel
theorem dX6_bears_16 : decode cX6_bears 16 = .ok (.iconst 0, 1) := by decide +kernel
theorem dX6_bears_17 : decode cX6_bears 17 = .ok (.bipush 11, 2) := by decide +kernel
theorem dX6_bears_19 : decode cX6_bears 19 = .ok (.invokestatic 47, 3) := by decide +kernel
theorem dX6_bears_22 : decode cX6_bears 22 = .ok (.ifCond .ne 9, 3) := by decide +kernel
theorem dX6_bears_25 : decode cX6_bears 25 = .ok (.aload_n 0, 1) := by decide +kernel
theorem dX6_bears_26 : decode cX6_bears 26 = .ok (.iconst 1, 1) := by decide +kernel
theorem dX6_bears_27 : decode cX6_bears 27 = .ok (.invokevirtual 54, 3) := by decide +kernel
theorem dX6_bears_30 : decode cX6_bears 30 = .ok (.ireturn, 1) := by decide +kernel
theorem dX6_bears_31 : decode cX6_bears 31 = .ok (.iload_n 1, 1) := by decide +kernel
theorem dX6_bears_32 : decode cX6_bears 32 = .ok (.iload_n 2, 1) := by decide +kernel
theorem dX6_bears_33 : decode cX6_bears 33 = .ok (.if_icmp .ge 7, 3) := by decide +kernel
theorem dX6_bears_36 : decode cX6_bears 36 = .ok (.iconst 1, 1) := by decide +kernel
theorem dX6_bears_37 : decode cX6_bears 37 = .ok (.goto 4, 3) := by decide +kernel
theorem dX6_bears_40 : decode cX6_bears 40 = .ok (.iconst (-1), 1) := by decide +kernel
theorem dX6_bears_41 : decode cX6_bears 41 = .ok (.istore_n 3, 1) := by decide +kernel
theorem dX6_bears_42 : decode cX6_bears 42 = .ok (.iconst 3, 1) := by decide +kernel
theorem dX6_bears_43 : decode cX6_bears 43 = .ok (.newarray .int, 2) := by decide +kernel
theorem dX6_bears_45 : decode cX6_bears 45 = .ok (.dup, 1) := by decide +kernel
theorem dX6_bears_46 : decode cX6_bears 46 = .ok (.iconst 0, 1) := by decide +kernel
theorem dX6_bears_47 : decode cX6_bears 47 = .ok (.aload_n 0, 1) := by decide +kernel
theorem dX6_bears_48 : decode cX6_bears 48 = .ok (.iconst 3, 1) := by decide +kernel
theorem dX6_bears_49 : decode cX6_bears 49 = .ok (.iload_n 1, 1) := by decide +kernel
theorem dX6_bears_50 : decode cX6_bears 50 = .ok (.imul, 1) := by decide +kernel
theorem dX6_bears_51 : decode cX6_bears 51 = .ok (.invokevirtual 81, 3) := by decide +kernel
theorem dX6_bears_54 : decode cX6_bears 54 = .ok (.iastore, 1) := by decide +kernel
theorem dX6_bears_55 : decode cX6_bears 55 = .ok (.dup, 1) := by decide +kernel
theorem dX6_bears_56 : decode cX6_bears 56 = .ok (.iconst 1, 1) := by decide +kernel
theorem dX6_bears_57 : decode cX6_bears 57 = .ok (.aload_n 0, 1) := by decide +kernel
theorem dX6_bears_58 : decode cX6_bears 58 = .ok (.iconst 3, 1) := by decide +kernel
theorem dX6_bears_59 : decode cX6_bears 59 = .ok (.iload_n 1, 1) := by decide +kernel
theorem dX6_bears_60 : decode cX6_bears 60 = .ok (.imul, 1) := by decide +kernel
theorem dX6_bears_61 : decode cX6_bears 61 = .ok (.iconst 1, 1) := by decide +kernel
theorem dX6_bears_62 : decode cX6_bears 62 = .ok (.iadd, 1) := by decide +kernel
theorem dX6_bears_63 : decode cX6_bears 63 = .ok (.invokevirtual 81, 3) := by decide +kernel
theorem dX6_bears_66 : decode cX6_bears 66 = .ok (.iastore, 1) := by decide +kernel
theorem dX6_bears_67 : decode cX6_bears 67 = .ok (.dup, 1) := by decide +kernel
theorem dX6_bears_68 : decode cX6_bears 68 = .ok (.iconst 2, 1) := by decide +kernel
theorem dX6_bears_69 : decode cX6_bears 69 = .ok (.aload_n 0, 1) := by decide +kernel
theorem dX6_bears_70 : decode cX6_bears 70 = .ok (.iconst 3, 1) := by decide +kernel
theorem dX6_bears_71 : decode cX6_bears 71 = .ok (.iload_n 1, 1) := by decide +kernel
theorem dX6_bears_72 : decode cX6_bears 72 = .ok (.imul, 1) := by decide +kernel
theorem dX6_bears_73 : decode cX6_bears 73 = .ok (.iconst 2, 1) := by decide +kernel
theorem dX6_bears_74 : decode cX6_bears 74 = .ok (.iadd, 1) := by decide +kernel
theorem dX6_bears_75 : decode cX6_bears 75 = .ok (.invokevirtual 81, 3) := by decide +kernel
theorem dX6_bears_78 : decode cX6_bears 78 = .ok (.iastore, 1) := by decide +kernel
theorem dX6_bears_79 : decode cX6_bears 79 = .ok (.astore 4, 2) := by decide +kernel
theorem dX6_bears_81 : decode cX6_bears 81 = .ok (.iload_n 1, 1) := by decide +kernel
theorem dX6_bears_82 : decode cX6_bears 82 = .ok (.istore 5, 2) := by decide +kernel
theorem dX6_bears_84 : decode cX6_bears 84 = .ok (.iload 5, 2) := by decide +kernel
theorem dX6_bears_86 : decode cX6_bears 86 = .ok (.iload_n 2, 1) := by decide +kernel
theorem dX6_bears_87 : decode cX6_bears 87 = .ok (.if_icmp .eq 105, 3) := by decide +kernel
theorem dX6_bears_90 : decode cX6_bears 90 = .ok (.aload 4, 2) := by decide +kernel
theorem dX6_bears_92 : decode cX6_bears 92 = .ok (.astore 6, 2) := by decide +kernel
theorem dX6_bears_94 : decode cX6_bears 94 = .ok (.iconst 3, 1) := by decide +kernel
theorem dX6_bears_95 : decode cX6_bears 95 = .ok (.newarray .int, 2) := by decide +kernel
theorem dX6_bears_97 : decode cX6_bears 97 = .ok (.astore 4, 2) := by decide +kernel
theorem dX6_bears_99 : decode cX6_bears 99 = .ok (.iconst 0, 1) := by decide +kernel
theorem dX6_bears_100 : decode cX6_bears 100 = .ok (.istore 7, 2) := by decide +kernel
theorem dX6_bears_102 : decode cX6_bears 102 = .ok (.iload 7, 2) := by decide +kernel
theorem dX6_bears_104 : decode cX6_bears 104 = .ok (.iconst 3, 1) := by decide +kernel
theorem dX6_bears_105 : decode cX6_bears 105 = .ok (.if_icmp .ge 78, 3) := by decide +kernel
theorem dX6_bears_108 : decode cX6_bears 108 = .ok (.aload 6, 2) := by decide +kernel
theorem dX6_bears_110 : decode cX6_bears 110 = .ok (.iload 7, 2) := by decide +kernel
theorem dX6_bears_112 : decode cX6_bears 112 = .ok (.iaload, 1) := by decide +kernel
theorem dX6_bears_113 : decode cX6_bears 113 = .ok (.istore 8, 2) := by decide +kernel
theorem dX6_bears_115 : decode cX6_bears 115 = .ok (.iload 7, 2) := by decide +kernel
theorem dX6_bears_117 : decode cX6_bears 117 = .ok (.ifCond .le 17, 3) := by decide +kernel
theorem dX6_bears_120 : decode cX6_bears 120 = .ok (.iload 8, 2) := by decide +kernel
theorem dX6_bears_122 : decode cX6_bears 122 = .ok (.aload 6, 2) := by decide +kernel
theorem dX6_bears_124 : decode cX6_bears 124 = .ok (.iload 7, 2) := by decide +kernel
theorem dX6_bears_126 : decode cX6_bears 126 = .ok (.iconst 1, 1) := by decide +kernel
theorem dX6_bears_127 : decode cX6_bears 127 = .ok (.isub, 1) := by decide +kernel
theorem dX6_bears_128 : decode cX6_bears 128 = .ok (.iaload, 1) := by decide +kernel
theorem dX6_bears_129 : decode cX6_bears 129 = .ok (.invokestatic 69, 3) := by decide +kernel
theorem dX6_bears_132 : decode cX6_bears 132 = .ok (.istore 8, 2) := by decide +kernel
theorem dX6_bears_134 : decode cX6_bears 134 = .ok (.iload 7, 2) := by decide +kernel
theorem dX6_bears_136 : decode cX6_bears 136 = .ok (.iconst 2, 1) := by decide +kernel
theorem dX6_bears_137 : decode cX6_bears 137 = .ok (.if_icmp .ge 17, 3) := by decide +kernel
theorem dX6_bears_140 : decode cX6_bears 140 = .ok (.iload 8, 2) := by decide +kernel
theorem dX6_bears_142 : decode cX6_bears 142 = .ok (.aload 6, 2) := by decide +kernel
theorem dX6_bears_144 : decode cX6_bears 144 = .ok (.iload 7, 2) := by decide +kernel
theorem dX6_bears_146 : decode cX6_bears 146 = .ok (.iconst 1, 1) := by decide +kernel
theorem dX6_bears_147 : decode cX6_bears 147 = .ok (.iadd, 1) := by decide +kernel
theorem dX6_bears_148 : decode cX6_bears 148 = .ok (.iaload, 1) := by decide +kernel
theorem dX6_bears_149 : decode cX6_bears 149 = .ok (.invokestatic 69, 3) := by decide +kernel
theorem dX6_bears_152 : decode cX6_bears 152 = .ok (.istore 8, 2) := by decide +kernel
theorem dX6_bears_154 : decode cX6_bears 154 = .ok (.aload 4, 2) := by decide +kernel
theorem dX6_bears_156 : decode cX6_bears 156 = .ok (.iload 7, 2) := by decide +kernel
theorem dX6_bears_158 : decode cX6_bears 158 = .ok (.iload 8, 2) := by decide +kernel
theorem dX6_bears_160 : decode cX6_bears 160 = .ok (.aload_n 0, 1) := by decide +kernel
theorem dX6_bears_161 : decode cX6_bears 161 = .ok (.iconst 3, 1) := by decide +kernel
theorem dX6_bears_162 : decode cX6_bears 162 = .ok (.iload 5, 2) := by decide +kernel
theorem dX6_bears_164 : decode cX6_bears 164 = .ok (.iload_n 3, 1) := by decide +kernel
theorem dX6_bears_165 : decode cX6_bears 165 = .ok (.iadd, 1) := by decide +kernel
theorem dX6_bears_166 : decode cX6_bears 166 = .ok (.imul, 1) := by decide +kernel
theorem dX6_bears_167 : decode cX6_bears 167 = .ok (.iload 7, 2) := by decide +kernel
theorem dX6_bears_169 : decode cX6_bears 169 = .ok (.iadd, 1) := by decide +kernel
theorem dX6_bears_170 : decode cX6_bears 170 = .ok (.invokevirtual 81, 3) := by decide +kernel
theorem dX6_bears_173 : decode cX6_bears 173 = .ok (.invokestatic 131, 3) := by decide +kernel
theorem dX6_bears_176 : decode cX6_bears 176 = .ok (.iastore, 1) := by decide +kernel
theorem dX6_bears_177 : decode cX6_bears 177 = .ok (.iinc 7 1, 3) := by decide +kernel
theorem dX6_bears_180 : decode cX6_bears 180 = .ok (.goto (-78), 3) := by decide +kernel
theorem dX6_bears_183 : decode cX6_bears 183 = .ok (.iload 5, 2) := by decide +kernel
theorem dX6_bears_185 : decode cX6_bears 185 = .ok (.iload_n 3, 1) := by decide +kernel
theorem dX6_bears_186 : decode cX6_bears 186 = .ok (.iadd, 1) := by decide +kernel
theorem dX6_bears_187 : decode cX6_bears 187 = .ok (.istore 5, 2) := by decide +kernel
theorem dX6_bears_189 : decode cX6_bears 189 = .ok (.goto (-105), 3) := by decide +kernel
theorem dX6_bears_192 : decode cX6_bears 192 = .ok (.aload 4, 2) := by decide +kernel
theorem dX6_bears_194 : decode cX6_bears 194 = .ok (.iconst 0, 1) := by decide +kernel
theorem dX6_bears_195 : decode cX6_bears 195 = .ok (.iaload, 1) := by decide +kernel
theorem dX6_bears_196 : decode cX6_bears 196 = .ok (.aload 4, 2) := by decide +kernel
theorem dX6_bears_198 : decode cX6_bears 198 = .ok (.iconst 1, 1) := by decide +kernel
theorem dX6_bears_199 : decode cX6_bears 199 = .ok (.iaload, 1) := by decide +kernel
theorem dX6_bears_200 : decode cX6_bears 200 = .ok (.aload 4, 2) := by decide +kernel
theorem dX6_bears_202 : decode cX6_bears 202 = .ok (.iconst 2, 1) := by decide +kernel
theorem dX6_bears_203 : decode cX6_bears 203 = .ok (.iaload, 1) := by decide +kernel
theorem dX6_bears_204 : decode cX6_bears 204 = .ok (.invokestatic 69, 3) := by decide +kernel
theorem dX6_bears_207 : decode cX6_bears 207 = .ok (.invokestatic 69, 3) := by decide +kernel
theorem dX6_bears_210 : decode cX6_bears 210 = .ok (.ireturn, 1) := by decide +kernel
set_option maxRecDepth 20000 in
theorem ggX6_arrivesAhead_X5_get : GoodIn wsX6_arrivesAhead wsX5_get := goodIn_r _ [6, 7, 63, 64, 65, 66, 67, 68, 69, 70] (by decide +kernel) (by decide +kernel)
set_option maxRecDepth 20000 in
theorem gX6_arrivesAhead_X5_get : GoodIn wsX6_arrivesAhead (wsV RX6 75 RX5 yX5_get wsX5_get) := goodIn_app (goodIn_of _ (by decide +kernel)) ggX6_arrivesAhead_X5_get
set_option maxRecDepth 20000 in
theorem ggX6_arrivesAhead_X5_pass : GoodIn wsX6_arrivesAhead wsX5_pass := goodIn_r _ [11, 12, 13, 14, 15, 16, 17, 18, 19, 20, 21, 5, 22, 23, 24, 25, 26, 27, 28, 29, 30, 31, 32, 33, 3, 4, 6, 7, 34, 35, 36, 37, 38, 39, 40, 41, 42, 43, 44, 45, 46, 47, 48, 49, 50, 51, 52, 53, 54, 63, 64, 65, 66, 67, 68, 69, 70, 55, 56, 57, 58, 59, 60, 61, 62] (by decide +kernel) (by decide +kernel)
set_option maxRecDepth 20000 in
theorem gX6_arrivesAhead_X5_pass : GoodIn wsX6_arrivesAhead (wsV RX6 122 RX5 yX5_pass wsX5_pass) := goodIn_app (goodIn_of _ (by decide +kernel)) ggX6_arrivesAhead_X5_pass
theorem dX6_arrivesAhead_0 : decode cX6_arrivesAhead 0 = .ok (.iconst 0, 1) := by decide +kernel
theorem dX6_arrivesAhead_1 : decode cX6_arrivesAhead 1 = .ok (.istore_n 2, 1) := by decide +kernel
theorem dX6_arrivesAhead_2 : decode cX6_arrivesAhead 2 = .ok (.iload_n 2, 1) := by decide +kernel
theorem dX6_arrivesAhead_3 : decode cX6_arrivesAhead 3 = .ok (.sipush 150, 3) := by decide +kernel
theorem dX6_arrivesAhead_6 : decode cX6_arrivesAhead 6 = .ok (.if_icmp .gt 55, 3) := by decide +kernel
theorem dX6_arrivesAhead_9 : decode cX6_arrivesAhead 9 = .ok (.aload_n 0, 1) := by decide +kernel
theorem dX6_arrivesAhead_10 : decode cX6_arrivesAhead 10 = .ok (.getfield 31, 3) := by decide +kernel
theorem dX6_arrivesAhead_13 : decode cX6_arrivesAhead 13 = .ok (.iload_n 1, 1) := by decide +kernel
theorem dX6_arrivesAhead_14 : decode cX6_arrivesAhead 14 = .ok (.bipush 6, 2) := by decide +kernel
theorem dX6_arrivesAhead_16 : decode cX6_arrivesAhead 16 = .ok (.invokevirtual 75, 3) := by decide +kernel
theorem dX6_arrivesAhead_19 : decode cX6_arrivesAhead 19 = .ok (.iconst 3, 1) := by decide +kernel
theorem dX6_arrivesAhead_20 : decode cX6_arrivesAhead 20 = .ok (.if_icmp .ne 5, 3) := by decide +kernel
theorem dX6_arrivesAhead_23 : decode cX6_arrivesAhead 23 = .ok (.iconst (-1), 1) := by decide +kernel
theorem dX6_arrivesAhead_24 : decode cX6_arrivesAhead 24 = .ok (.ireturn, 1) := by decide +kernel
theorem dX6_arrivesAhead_25 : decode cX6_arrivesAhead 25 = .ok (.aload_n 0, 1) := by decide +kernel
theorem dX6_arrivesAhead_26 : decode cX6_arrivesAhead 26 = .ok (.getfield 31, 3) := by decide +kernel
theorem dX6_arrivesAhead_29 : decode cX6_arrivesAhead 29 = .ok (.iload_n 1, 1) := by decide +kernel
theorem dX6_arrivesAhead_30 : decode cX6_arrivesAhead 30 = .ok (.iconst 3, 1) := by decide +kernel
theorem dX6_arrivesAhead_31 : decode cX6_arrivesAhead 31 = .ok (.invokevirtual 75, 3) := by decide +kernel
theorem dX6_arrivesAhead_34 : decode cX6_arrivesAhead 34 = .ok (.aload_n 0, 1) := by decide +kernel
theorem dX6_arrivesAhead_35 : decode cX6_arrivesAhead 35 = .ok (.getfield 31, 3) := by decide +kernel
theorem dX6_arrivesAhead_38 : decode cX6_arrivesAhead 38 = .ok (.iload_n 1, 1) := by decide +kernel
theorem dX6_arrivesAhead_39 : decode cX6_arrivesAhead 39 = .ok (.iconst 5, 1) := by decide +kernel
theorem dX6_arrivesAhead_40 : decode cX6_arrivesAhead 40 = .ok (.invokevirtual 75, 3) := by decide +kernel
theorem dX6_arrivesAhead_43 : decode cX6_arrivesAhead 43 = .ok (.if_icmp .ne 5, 3) := by decide +kernel
theorem dX6_arrivesAhead_46 : decode cX6_arrivesAhead 46 = .ok (.iload_n 2, 1) := by decide +kernel
theorem dX6_arrivesAhead_47 : decode cX6_arrivesAhead 47 = .ok (.ireturn, 1) := by decide +kernel
theorem dX6_arrivesAhead_48 : decode cX6_arrivesAhead 48 = .ok (.aload_n 0, 1) := by decide +kernel
theorem dX6_arrivesAhead_49 : decode cX6_arrivesAhead 49 = .ok (.getfield 31, 3) := by decide +kernel
theorem dX6_arrivesAhead_52 : decode cX6_arrivesAhead 52 = .ok (.invokevirtual 122, 3) := by decide +kernel
theorem dX6_arrivesAhead_55 : decode cX6_arrivesAhead 55 = .ok (.iinc 2 1, 3) := by decide +kernel
theorem dX6_arrivesAhead_58 : decode cX6_arrivesAhead 58 = .ok (.goto (-56), 3) := by decide +kernel
theorem dX6_arrivesAhead_61 : decode cX6_arrivesAhead 61 = .ok (.iconst (-1), 1) := by decide +kernel
theorem dX6_arrivesAhead_62 : decode cX6_arrivesAhead 62 = .ok (.ireturn, 1) := by decide +kernel
set_option maxRecDepth 20000 in
theorem ggX6_arrives_X6_isCourier : GoodIn wsX6_arrives wsX6_isCourier := goodIn_r _ [8, 3, 9, 10, 7, 11, 85, 86, 87, 88, 89, 90, 91, 92, 93, 94, 95, 96, 97, 98, 99, 100] (by decide +kernel) (by decide +kernel)
set_option maxRecDepth 20000 in
theorem gX6_arrives_X6_isCourier : GoodIn wsX6_arrives (wsV RX6 96 RX6 yX6_isCourier wsX6_isCourier) := goodIn_app (goodIn_of _ (by decide +kernel)) ggX6_arrives_X6_isCourier
set_option maxRecDepth 20000 in
theorem ggX6_arrives_X6_no : GoodIn wsX6_arrives wsX6_no := goodIn_r _ [15, 1, 85, 86, 87, 88, 89, 90, 91, 92] (by decide +kernel) (by decide +kernel)
set_option maxRecDepth 20000 in
theorem gX6_arrives_X6_no : GoodIn wsX6_arrives (wsV RX6 54 RX6 yX6_no wsX6_no) := goodIn_app (goodIn_of _ (by decide +kernel)) ggX6_arrives_X6_no
set_option maxRecDepth 20000 in
theorem ggX6_arrives_X5_become : GoodIn wsX6_arrives wsX5_become := goodIn_r _ [20, 21, 22, 23, 24, 25, 26, 27, 28, 29, 30, 19, 31, 32, 33, 34, 35, 93, 94, 95, 96, 97, 98, 99, 100] (by decide +kernel) (by decide +kernel)
set_option maxRecDepth 20000 in
theorem gX6_arrives_X5_become : GoodIn wsX6_arrives (wsV RX6 134 RX5 yX5_become wsX5_become) := goodIn_app (goodIn_of _ (by decide +kernel)) ggX6_arrives_X5_become
set_option maxRecDepth 20000 in
theorem ggX6_arrives_X6_arrivesAhead : GoodIn wsX6_arrives wsX6_arrivesAhead := goodIn_r _ [39, 2, 40, 41, 42, 19, 43, 27, 44, 45, 46, 47, 21, 22, 48, 49, 50, 51, 52, 53, 54, 55, 56, 25, 57, 58, 59, 26, 60, 61, 62, 63, 23, 64, 65, 66, 67, 68, 24, 69, 70, 71, 72, 73, 74, 75, 76, 77, 78, 79, 80, 81, 82, 83, 84, 85, 86, 87, 88, 89, 90, 91, 92, 93, 94, 95, 96, 97, 98, 99, 100] (by decide +kernel) (by decide +kernel)
set_option maxRecDepth 20000 in
theorem gX6_arrives_X6_arrivesAhead : GoodIn wsX6_arrives (wsV RX6 138 RX6 yX6_arrivesAhead wsX6_arrivesAhead) := goodIn_app (goodIn_of _ (by decide +kernel)) ggX6_arrives_X6_arrivesAhead
theorem dX6_arrives_0 : decode cX6_arrives 0 = .ok (.aload_n 0, 1) := by decide +kernel
theorem dX6_arrives_1 : decode cX6_arrives 1 = .ok (.iconst 0, 1) := by decide +kernel
theorem dX6_arrives_2 : decode cX6_arrives 2 = .ok (.putfield 43, 3) := by decide +kernel
theorem dX6_arrives_5 : decode cX6_arrives 5 = .ok (.aload_n 0, 1) := by decide +kernel
theorem dX6_arrives_6 : decode cX6_arrives 6 = .ok (.iload_n 1, 1) := by decide +kernel
theorem dX6_arrives_7 : decode cX6_arrives 7 = .ok (.invokevirtual 96, 3) := by decide +kernel
theorem dX6_arrives_10 : decode cX6_arrives 10 = .ok (.ifCond .ne 9, 3) := by decide +kernel
theorem dX6_arrives_13 : decode cX6_arrives 13 = .ok (.aload_n 0, 1) := by decide +kernel
theorem dX6_arrives_14 : decode cX6_arrives 14 = .ok (.iconst 1, 1) := by decide +kernel
theorem dX6_arrives_15 : decode cX6_arrives 15 = .ok (.invokevirtual 54, 3) := by decide +kernel
theorem dX6_arrives_18 : decode cX6_arrives 18 = .ok (.ireturn, 1) := by decide +kernel
theorem dX6_arrives_19 : decode cX6_arrives 19 = .ok (.aload_n 0, 1) := by decide +kernel
theorem dX6_arrives_20 : decode cX6_arrives 20 = .ok (.getfield 31, 3) := by decide +kernel
theorem dX6_arrives_23 : decode cX6_arrives 23 = .ok (.aload_n 0, 1) := by decide +kernel
theorem dX6_arrives_24 : decode cX6_arrives 24 = .ok (.getfield 27, 3) := by decide +kernel
theorem dX6_arrives_27 : decode cX6_arrives 27 = .ok (.invokevirtual 134, 3) := by decide +kernel
theorem dX6_arrives_30 : decode cX6_arrives 30 = .ok (.aload_n 0, 1) := by decide +kernel
theorem dX6_arrives_31 : decode cX6_arrives 31 = .ok (.iload_n 1, 1) := by decide +kernel
theorem dX6_arrives_32 : decode cX6_arrives 32 = .ok (.invokevirtual 138, 3) := by decide +kernel
theorem dX6_arrives_35 : decode cX6_arrives 35 = .ok (.ireturn, 1) := by decide +kernel
set_option maxRecDepth 20000 in
theorem ggX6_best_X6_isCourier : GoodIn wsX6_best wsX6_isCourier := goodIn_r _ [8, 3, 9, 10, 7, 11, 86, 87, 88, 89, 90, 91, 92, 93, 94, 95, 96, 97, 98, 99, 100, 101] (by decide +kernel) (by decide +kernel)
set_option maxRecDepth 20000 in
theorem gX6_best_X6_isCourier : GoodIn wsX6_best (wsV RX6 96 RX6 yX6_isCourier wsX6_isCourier) := goodIn_app (goodIn_of _ (by decide +kernel)) ggX6_best_X6_isCourier
set_option maxRecDepth 20000 in
theorem ggX6_best_X6_no : GoodIn wsX6_best wsX6_no := goodIn_r _ [15, 1, 86, 87, 88, 89, 90, 91, 92, 93] (by decide +kernel) (by decide +kernel)
set_option maxRecDepth 20000 in
theorem gX6_best_X6_no : GoodIn wsX6_best (wsV RX6 54 RX6 yX6_no wsX6_no) := goodIn_app (goodIn_of _ (by decide +kernel)) ggX6_best_X6_no
set_option maxRecDepth 20000 in
theorem ggX6_best_X5_become : GoodIn wsX6_best wsX5_become := goodIn_r _ [20, 21, 22, 23, 24, 25, 26, 27, 28, 29, 30, 19, 31, 32, 33, 34, 35, 94, 95, 96, 97, 98, 99, 100, 101] (by decide +kernel) (by decide +kernel)
set_option maxRecDepth 20000 in
theorem gX6_best_X5_become : GoodIn wsX6_best (wsV RX6 134 RX5 yX5_become wsX5_become) := goodIn_app (goodIn_of _ (by decide +kernel)) ggX6_best_X5_become
set_option maxRecDepth 20000 in
theorem ggX6_best_X5_set : GoodIn wsX6_best wsX5_set := goodIn_r _ [39, 27, 94, 95, 96, 97, 98, 99, 100, 101] (by decide +kernel) (by decide +kernel)
set_option maxRecDepth 20000 in
theorem gX6_best_X5_set : GoodIn wsX6_best (wsV RX6 100 RX5 yX5_set wsX5_set) := goodIn_app (goodIn_of _ (by decide +kernel)) ggX6_best_X5_set
set_option maxRecDepth 20000 in
theorem ggX6_best_X6_arrivesAhead : GoodIn wsX6_best wsX6_arrivesAhead := goodIn_r _ [43, 2, 44, 45, 46, 19, 47, 27, 48, 49, 50, 51, 21, 22, 52, 53, 54, 55, 56, 57, 58, 59, 60, 25, 61, 62, 63, 26, 64, 65, 66, 67, 23, 68, 69, 70, 71, 72, 24, 73, 74, 75, 76, 77, 78, 79, 80, 81, 82, 83, 84, 85, 37, 38, 39, 86, 87, 88, 89, 90, 91, 92, 93, 94, 95, 96, 97, 98, 99, 100, 101] (by decide +kernel) (by decide +kernel)
set_option maxRecDepth 20000 in
theorem gX6_best_X6_arrivesAhead : GoodIn wsX6_best (wsV RX6 138 RX6 yX6_arrivesAhead wsX6_arrivesAhead) := goodIn_app (goodIn_of _ (by decide +kernel)) ggX6_best_X6_arrivesAhead
theorem dX6_best_0 : decode cX6_best 0 = .ok (.aload_n 0, 1) := by decide +kernel
theorem dX6_best_1 : decode cX6_best 1 = .ok (.iconst 0, 1) := by decide +kernel
theorem dX6_best_2 : decode cX6_best 2 = .ok (.putfield 43, 3) := by decide +kernel
theorem dX6_best_5 : decode cX6_best 5 = .ok (.aload_n 0, 1) := by decide +kernel
theorem dX6_best_6 : decode cX6_best 6 = .ok (.iload_n 1, 1) := by decide +kernel
theorem dX6_best_7 : decode cX6_best 7 = .ok (.invokevirtual 96, 3) := by decide +kernel
theorem dX6_best_10 : decode cX6_best 10 = .ok (.ifCond .ne 9, 3) := by decide +kernel
theorem dX6_best_13 : decode cX6_best 13 = .ok (.aload_n 0, 1) := by decide +kernel
theorem dX6_best_14 : decode cX6_best 14 = .ok (.iconst 1, 1) := by decide +kernel
theorem dX6_best_15 : decode cX6_best 15 = .ok (.invokevirtual 54, 3) := by decide +kernel
theorem dX6_best_18 : decode cX6_best 18 = .ok (.ireturn, 1) := by decide +kernel
theorem dX6_best_19 : decode cX6_best 19 = .ok (.bipush 20, 2) := by decide +kernel
theorem dX6_best_21 : decode cX6_best 21 = .ok (.istore_n 2, 1) := by decide +kernel
theorem dX6_best_22 : decode cX6_best 22 = .ok (.iload_n 2, 1) := by decide +kernel
theorem dX6_best_23 : decode cX6_best 23 = .ok (.ifCond .lt 41, 3) := by decide +kernel
theorem dX6_best_26 : decode cX6_best 26 = .ok (.aload_n 0, 1) := by decide +kernel
theorem dX6_best_27 : decode cX6_best 27 = .ok (.getfield 31, 3) := by decide +kernel
theorem dX6_best_30 : decode cX6_best 30 = .ok (.aload_n 0, 1) := by decide +kernel
theorem dX6_best_31 : decode cX6_best 31 = .ok (.getfield 27, 3) := by decide +kernel
theorem dX6_best_34 : decode cX6_best 34 = .ok (.invokevirtual 134, 3) := by decide +kernel
theorem dX6_best_37 : decode cX6_best 37 = .ok (.aload_n 0, 1) := by decide +kernel
theorem dX6_best_38 : decode cX6_best 38 = .ok (.getfield 31, 3) := by decide +kernel
theorem dX6_best_41 : decode cX6_best 41 = .ok (.iload_n 1, 1) := by decide +kernel
theorem dX6_best_42 : decode cX6_best 42 = .ok (.iconst 1, 1) := by decide +kernel
theorem dX6_best_43 : decode cX6_best 43 = .ok (.iload_n 2, 1) := by decide +kernel
theorem dX6_best_44 : decode cX6_best 44 = .ok (.invokevirtual 100, 3) := by decide +kernel
theorem dX6_best_47 : decode cX6_best 47 = .ok (.aload_n 0, 1) := by decide +kernel
theorem dX6_best_48 : decode cX6_best 48 = .ok (.iload_n 1, 1) := by decide +kernel
theorem dX6_best_49 : decode cX6_best 49 = .ok (.invokevirtual 138, 3) := by decide +kernel
theorem dX6_best_52 : decode cX6_best 52 = .ok (.iconst (-1), 1) := by decide +kernel
theorem dX6_best_53 : decode cX6_best 53 = .ok (.if_icmp .eq 5, 3) := by decide +kernel
theorem dX6_best_56 : decode cX6_best 56 = .ok (.iload_n 2, 1) := by decide +kernel
theorem dX6_best_57 : decode cX6_best 57 = .ok (.ireturn, 1) := by decide +kernel
theorem dX6_best_58 : decode cX6_best 58 = .ok (.iinc 2 (-1), 3) := by decide +kernel
theorem dX6_best_61 : decode cX6_best 61 = .ok (.goto (-39), 3) := by decide +kernel
theorem dX6_best_64 : decode cX6_best 64 = .ok (.iconst (-1), 1) := by decide +kernel
theorem dX6_best_65 : decode cX6_best 65 = .ok (.ireturn, 1) := by decide +kernel
set_option maxRecDepth 20000 in
theorem ggX6_thaw_X5_become : GoodIn wsX6_thaw wsX5_become := goodIn_r _ [8, 9, 10, 11, 12, 13, 14, 15, 16, 17, 18, 7, 19, 20, 21, 22, 23, 76, 77, 78, 79, 80, 81, 82, 83] (by decide +kernel) (by decide +kernel)
set_option maxRecDepth 20000 in
theorem gX6_thaw_X5_become : GoodIn wsX6_thaw (wsV RX6 134 RX5 yX5_become wsX5_become) := goodIn_app (goodIn_of _ (by decide +kernel)) ggX6_thaw_X5_become
set_option maxRecDepth 20000 in
theorem ggX6_thaw_X5_pass : GoodIn wsX6_thaw wsX5_pass := goodIn_r _ [27, 9, 10, 28, 29, 30, 31, 32, 33, 34, 35, 7, 36, 13, 37, 38, 39, 14, 40, 41, 42, 43, 11, 44, 45, 46, 47, 15, 48, 49, 50, 51, 12, 52, 53, 54, 55, 56, 57, 58, 59, 60, 61, 62, 63, 64, 65, 66, 67, 76, 77, 78, 79, 80, 81, 82, 83, 68, 69, 70, 71, 72, 73, 74, 75] (by decide +kernel) (by decide +kernel)
set_option maxRecDepth 20000 in
theorem gX6_thaw_X5_pass : GoodIn wsX6_thaw (wsV RX6 122 RX5 yX5_pass wsX5_pass) := goodIn_app (goodIn_of _ (by decide +kernel)) ggX6_thaw_X5_pass
theorem dX6_thaw_0 : decode cX6_thaw 0 = .ok (.aload_n 0, 1) := by decide +kernel
theorem dX6_thaw_1 : decode cX6_thaw 1 = .ok (.iconst 0, 1) := by decide +kernel
theorem dX6_thaw_2 : decode cX6_thaw 2 = .ok (.putfield 43, 3) := by decide +kernel
theorem dX6_thaw_5 : decode cX6_thaw 5 = .ok (.aload_n 0, 1) := by decide +kernel
theorem dX6_thaw_6 : decode cX6_thaw 6 = .ok (.getfield 31, 3) := by decide +kernel
theorem dX6_thaw_9 : decode cX6_thaw 9 = .ok (.aload_n 0, 1) := by decide +kernel
theorem dX6_thaw_10 : decode cX6_thaw 10 = .ok (.getfield 27, 3) := by decide +kernel
theorem dX6_thaw_13 : decode cX6_thaw 13 = .ok (.invokevirtual 134, 3) := by decide +kernel
theorem dX6_thaw_16 : decode cX6_thaw 16 = .ok (.iconst 0, 1) := by decide +kernel
theorem dX6_thaw_17 : decode cX6_thaw 17 = .ok (.istore_n 1, 1) := by decide +kernel
theorem dX6_thaw_18 : decode cX6_thaw 18 = .ok (.iload_n 1, 1) := by decide +kernel
theorem dX6_thaw_19 : decode cX6_thaw 19 = .ok (.sipush 720, 3) := by decide +kernel
theorem dX6_thaw_22 : decode cX6_thaw 22 = .ok (.if_icmp .ge 27, 3) := by decide +kernel
theorem dX6_thaw_25 : decode cX6_thaw 25 = .ok (.aload_n 0, 1) := by decide +kernel
theorem dX6_thaw_26 : decode cX6_thaw 26 = .ok (.getfield 31, 3) := by decide +kernel
theorem dX6_thaw_29 : decode cX6_thaw 29 = .ok (.getfield 110, 3) := by decide +kernel
theorem dX6_thaw_32 : decode cX6_thaw 32 = .ok (.iconst (-1), 1) := by decide +kernel
theorem dX6_thaw_33 : decode cX6_thaw 33 = .ok (.if_icmp .ne 16, 3) := by decide +kernel
theorem dX6_thaw_36 : decode cX6_thaw 36 = .ok (.aload_n 0, 1) := by decide +kernel
theorem dX6_thaw_37 : decode cX6_thaw 37 = .ok (.getfield 31, 3) := by decide +kernel
theorem dX6_thaw_40 : decode cX6_thaw 40 = .ok (.invokevirtual 122, 3) := by decide +kernel
theorem dX6_thaw_43 : decode cX6_thaw 43 = .ok (.iinc 1 1, 3) := by decide +kernel
theorem dX6_thaw_46 : decode cX6_thaw 46 = .ok (.goto (-28), 3) := by decide +kernel
theorem dX6_thaw_49 : decode cX6_thaw 49 = .ok (.aload_n 0, 1) := by decide +kernel
theorem dX6_thaw_50 : decode cX6_thaw 50 = .ok (.getfield 31, 3) := by decide +kernel
theorem dX6_thaw_53 : decode cX6_thaw 53 = .ok (.getfield 110, 3) := by decide +kernel
theorem dX6_thaw_56 : decode cX6_thaw 56 = .ok (.ireturn, 1) := by decide +kernel
theorem dX6_mean_0 : decode cX6_mean 0 = .ok (.aload_n 0, 1) := by decide +kernel
theorem dX6_mean_1 : decode cX6_mean 1 = .ok (.iconst 0, 1) := by decide +kernel
theorem dX6_mean_2 : decode cX6_mean 2 = .ok (.putfield 43, 3) := by decide +kernel
theorem dX6_mean_5 : decode cX6_mean 5 = .ok (.iconst 0, 1) := by decide +kernel
theorem dX6_mean_6 : decode cX6_mean 6 = .ok (.istore_n 1, 1) := by decide +kernel
theorem dX6_mean_7 : decode cX6_mean 7 = .ok (.iconst 0, 1) := by decide +kernel
theorem dX6_mean_8 : decode cX6_mean 8 = .ok (.istore_n 2, 1) := by decide +kernel
theorem dX6_mean_9 : decode cX6_mean 9 = .ok (.iload_n 2, 1) := by decide +kernel
theorem dX6_mean_10 : decode cX6_mean 10 = .ok (.bipush 36, 2) := by decide +kernel
theorem dX6_mean_12 : decode cX6_mean 12 = .ok (.if_icmp .ge 21, 3) := by decide +kernel
theorem dX6_mean_15 : decode cX6_mean 15 = .ok (.iload_n 1, 1) := by decide +kernel
theorem dX6_mean_16 : decode cX6_mean 16 = .ok (.aload_n 0, 1) := by decide +kernel
theorem dX6_mean_17 : decode cX6_mean 17 = .ok (.getfield 27, 3) := by decide +kernel
theorem dX6_mean_20 : decode cX6_mean 20 = .ok (.getfield 40, 3) := by decide +kernel
theorem dX6_mean_23 : decode cX6_mean 23 = .ok (.iload_n 2, 1) := by decide +kernel
theorem dX6_mean_24 : decode cX6_mean 24 = .ok (.iaload, 1) := by decide +kernel
theorem dX6_mean_25 : decode cX6_mean 25 = .ok (.iadd, 1) := by decide +kernel
theorem dX6_mean_26 : decode cX6_mean 26 = .ok (.istore_n 1, 1) := by decide +kernel
theorem dX6_mean_27 : decode cX6_mean 27 = .ok (.iinc 2 1, 3) := by decide +kernel
theorem dX6_mean_30 : decode cX6_mean 30 = .ok (.goto (-21), 3) := by decide +kernel
theorem dX6_mean_33 : decode cX6_mean 33 = .ok (.iload_n 1, 1) := by decide +kernel
theorem dX6_mean_34 : decode cX6_mean 34 = .ok (.i2d, 1) := by decide +kernel
theorem dX6_mean_35 : decode cX6_mean 35 = .ok (.ldc2_w 141, 3) := by decide +kernel
theorem dX6_mean_38 : decode cX6_mean 38 = .ok (.ddiv, 1) := by decide +kernel
theorem dX6_mean_39 : decode cX6_mean 39 = .ok (.dreturn, 1) := by decide +kernel
set_option maxRecDepth 20000 in
theorem ggX6_digest_X6_counted : GoodIn wsX6_digest wsX6_counted := goodIn_r _ [14, 15, 5, 7, 16, 17, 18, 19, 20, 21, 22, 23, 24, 13, 25, 6, 26, 27, 28, 29, 9, 38, 39, 40, 41, 42, 43, 44, 45, 46, 47, 48, 49, 50, 51, 52, 53] (by decide +kernel) (by decide +kernel)
set_option maxRecDepth 20000 in
theorem gX6_digest_X6_counted : GoodIn wsX6_digest (wsV RX6 128 RX6 yX6_counted wsX6_counted) := goodIn_app (goodIn_of _ (by decide +kernel)) ggX6_digest_X6_counted
set_option maxRecDepth 20000 in
theorem ggX6_digest_X6_won : GoodIn wsX6_digest wsX6_won := goodIn_r _ [33, 5, 8, 34, 35, 36, 37, 7, 26, 27, 28, 13, 29, 9, 38, 39, 40, 41, 42, 43, 44, 45, 46, 47, 48, 49, 50, 51, 52, 53] (by decide +kernel) (by decide +kernel)
set_option maxRecDepth 20000 in
theorem gX6_digest_X6_won : GoodIn wsX6_digest (wsV RX6 116 RX6 yX6_won wsX6_won) := goodIn_app (goodIn_of _ (by decide +kernel)) ggX6_digest_X6_won
theorem dX6_digest_0 : decode cX6_digest 0 = .ok (.aload_n 0, 1) := by decide +kernel
theorem dX6_digest_1 : decode cX6_digest 1 = .ok (.iconst 0, 1) := by decide +kernel
theorem dX6_digest_2 : decode cX6_digest 2 = .ok (.putfield 43, 3) := by decide +kernel
theorem dX6_digest_5 : decode cX6_digest 5 = .ok (.ldc2_w 143, 3) := by decide +kernel
theorem dX6_digest_8 : decode cX6_digest 8 = .ok (.lstore_n 1, 1) := by decide +kernel
theorem dX6_digest_9 : decode cX6_digest 9 = .ok (.iconst 0, 1) := by decide +kernel
theorem dX6_digest_10 : decode cX6_digest 10 = .ok (.istore_n 3, 1) := by decide +kernel
theorem dX6_digest_11 : decode cX6_digest 11 = .ok (.iload_n 3, 1) := by decide +kernel
theorem dX6_digest_12 : decode cX6_digest 12 = .ok (.bipush 10, 2) := by decide +kernel
theorem dX6_digest_14 : decode cX6_digest 14 = .ok (.if_icmp .gt 22, 3) := by decide +kernel
theorem dX6_digest_17 : decode cX6_digest 17 = .ok (.lload_n 1, 1) := by decide +kernel
theorem dX6_digest_18 : decode cX6_digest 18 = .ok (.ldc2_w 145, 3) := by decide +kernel
theorem dX6_digest_21 : decode cX6_digest 21 = .ok (.lmul, 1) := by decide +kernel
theorem dX6_digest_22 : decode cX6_digest 22 = .ok (.aload_n 0, 1) := by decide +kernel
theorem dX6_digest_23 : decode cX6_digest 23 = .ok (.iload_n 3, 1) := by decide +kernel
theorem dX6_digest_24 : decode cX6_digest 24 = .ok (.invokevirtual 128, 3) := by decide +kernel
theorem dX6_digest_27 : decode cX6_digest 27 = .ok (.i2l, 1) := by decide +kernel
theorem dX6_digest_28 : decode cX6_digest 28 = .ok (.ladd, 1) := by decide +kernel
theorem dX6_digest_29 : decode cX6_digest 29 = .ok (.lstore_n 1, 1) := by decide +kernel
theorem dX6_digest_30 : decode cX6_digest 30 = .ok (.iinc 3 1, 3) := by decide +kernel
theorem dX6_digest_33 : decode cX6_digest 33 = .ok (.goto (-22), 3) := by decide +kernel
theorem dX6_digest_36 : decode cX6_digest 36 = .ok (.iconst 0, 1) := by decide +kernel
theorem dX6_digest_37 : decode cX6_digest 37 = .ok (.istore_n 3, 1) := by decide +kernel
theorem dX6_digest_38 : decode cX6_digest 38 = .ok (.iload_n 3, 1) := by decide +kernel
theorem dX6_digest_39 : decode cX6_digest 39 = .ok (.bipush 14, 2) := by decide +kernel
theorem dX6_digest_41 : decode cX6_digest 41 = .ok (.if_icmp .ge 23, 3) := by decide +kernel
theorem dX6_digest_44 : decode cX6_digest 44 = .ok (.lload_n 1, 1) := by decide +kernel
theorem dX6_digest_45 : decode cX6_digest 45 = .ok (.ldc2_w 145, 3) := by decide +kernel
theorem dX6_digest_48 : decode cX6_digest 48 = .ok (.lmul, 1) := by decide +kernel
theorem dX6_digest_49 : decode cX6_digest 49 = .ok (.aload_n 0, 1) := by decide +kernel
theorem dX6_digest_50 : decode cX6_digest 50 = .ok (.getfield 9, 3) := by decide +kernel
theorem dX6_digest_53 : decode cX6_digest 53 = .ok (.iload_n 3, 1) := by decide +kernel
theorem dX6_digest_54 : decode cX6_digest 54 = .ok (.iaload, 1) := by decide +kernel
theorem dX6_digest_55 : decode cX6_digest 55 = .ok (.i2l, 1) := by decide +kernel
theorem dX6_digest_56 : decode cX6_digest 56 = .ok (.ladd, 1) := by decide +kernel
theorem dX6_digest_57 : decode cX6_digest 57 = .ok (.lstore_n 1, 1) := by decide +kernel
theorem dX6_digest_58 : decode cX6_digest 58 = .ok (.iinc 3 1, 3) := by decide +kernel
theorem dX6_digest_61 : decode cX6_digest 61 = .ok (.goto (-23), 3) := by decide +kernel
theorem dX6_digest_64 : decode cX6_digest 64 = .ok (.iconst 0, 1) := by decide +kernel
theorem dX6_digest_65 : decode cX6_digest 65 = .ok (.istore_n 3, 1) := by decide +kernel
theorem dX6_digest_66 : decode cX6_digest 66 = .ok (.iload_n 3, 1) := by decide +kernel
theorem dX6_digest_67 : decode cX6_digest 67 = .ok (.bipush 36, 2) := by decide +kernel
theorem dX6_digest_69 : decode cX6_digest 69 = .ok (.if_icmp .ge 41, 3) := by decide +kernel
theorem dX6_digest_72 : decode cX6_digest 72 = .ok (.lload_n 1, 1) := by decide +kernel
theorem dX6_digest_73 : decode cX6_digest 73 = .ok (.ldc2_w 145, 3) := by decide +kernel
theorem dX6_digest_76 : decode cX6_digest 76 = .ok (.lmul, 1) := by decide +kernel
theorem dX6_digest_77 : decode cX6_digest 77 = .ok (.aload_n 0, 1) := by decide +kernel
theorem dX6_digest_78 : decode cX6_digest 78 = .ok (.getfield 27, 3) := by decide +kernel
theorem dX6_digest_81 : decode cX6_digest 81 = .ok (.getfield 40, 3) := by decide +kernel
theorem dX6_digest_84 : decode cX6_digest 84 = .ok (.iload_n 3, 1) := by decide +kernel
theorem dX6_digest_85 : decode cX6_digest 85 = .ok (.iaload, 1) := by decide +kernel
theorem dX6_digest_86 : decode cX6_digest 86 = .ok (.i2l, 1) := by decide +kernel
theorem dX6_digest_87 : decode cX6_digest 87 = .ok (.ladd, 1) := by decide +kernel
theorem dX6_digest_88 : decode cX6_digest 88 = .ok (.ldc2_w 145, 3) := by decide +kernel
theorem dX6_digest_91 : decode cX6_digest 91 = .ok (.lmul, 1) := by decide +kernel
theorem dX6_digest_92 : decode cX6_digest 92 = .ok (.aload_n 0, 1) := by decide +kernel
theorem dX6_digest_93 : decode cX6_digest 93 = .ok (.getfield 27, 3) := by decide +kernel
theorem dX6_digest_96 : decode cX6_digest 96 = .ok (.getfield 78, 3) := by decide +kernel
theorem dX6_digest_99 : decode cX6_digest 99 = .ok (.iload_n 3, 1) := by decide +kernel
theorem dX6_digest_100 : decode cX6_digest 100 = .ok (.iaload, 1) := by decide +kernel
theorem dX6_digest_101 : decode cX6_digest 101 = .ok (.i2l, 1) := by decide +kernel
theorem dX6_digest_102 : decode cX6_digest 102 = .ok (.ladd, 1) := by decide +kernel
theorem dX6_digest_103 : decode cX6_digest 103 = .ok (.lstore_n 1, 1) := by decide +kernel
theorem dX6_digest_104 : decode cX6_digest 104 = .ok (.iinc 3 1, 3) := by decide +kernel
theorem dX6_digest_107 : decode cX6_digest 107 = .ok (.goto (-41), 3) := by decide +kernel
theorem dX6_digest_110 : decode cX6_digest 110 = .ok (.iconst 0, 1) := by decide +kernel
theorem dX6_digest_111 : decode cX6_digest 111 = .ok (.istore_n 3, 1) := by decide +kernel
theorem dX6_digest_112 : decode cX6_digest 112 = .ok (.iload_n 3, 1) := by decide +kernel
theorem dX6_digest_113 : decode cX6_digest 113 = .ok (.bipush 12, 2) := by decide +kernel
theorem dX6_digest_115 : decode cX6_digest 115 = .ok (.if_icmp .ge 23, 3) := by decide +kernel
theorem dX6_digest_118 : decode cX6_digest 118 = .ok (.lload_n 1, 1) := by decide +kernel
theorem dX6_digest_119 : decode cX6_digest 119 = .ok (.ldc2_w 145, 3) := by decide +kernel
theorem dX6_digest_122 : decode cX6_digest 122 = .ok (.lmul, 1) := by decide +kernel
theorem dX6_digest_123 : decode cX6_digest 123 = .ok (.aload_n 0, 1) := by decide +kernel
theorem dX6_digest_124 : decode cX6_digest 124 = .ok (.getfield 13, 3) := by decide +kernel
theorem dX6_digest_127 : decode cX6_digest 127 = .ok (.iload_n 3, 1) := by decide +kernel
theorem dX6_digest_128 : decode cX6_digest 128 = .ok (.iaload, 1) := by decide +kernel
theorem dX6_digest_129 : decode cX6_digest 129 = .ok (.i2l, 1) := by decide +kernel
theorem dX6_digest_130 : decode cX6_digest 130 = .ok (.ladd, 1) := by decide +kernel
theorem dX6_digest_131 : decode cX6_digest 131 = .ok (.lstore_n 1, 1) := by decide +kernel
theorem dX6_digest_132 : decode cX6_digest 132 = .ok (.iinc 3 1, 3) := by decide +kernel
theorem dX6_digest_135 : decode cX6_digest 135 = .ok (.goto (-23), 3) := by decide +kernel
theorem dX6_digest_138 : decode cX6_digest 138 = .ok (.iconst 0, 1) := by decide +kernel
theorem dX6_digest_139 : decode cX6_digest 139 = .ok (.istore_n 3, 1) := by decide +kernel
theorem dX6_digest_140 : decode cX6_digest 140 = .ok (.iload_n 3, 1) := by decide +kernel
theorem dX6_digest_141 : decode cX6_digest 141 = .ok (.bipush 9, 2) := by decide +kernel
theorem dX6_digest_143 : decode cX6_digest 143 = .ok (.aload_n 0, 1) := by decide +kernel
theorem dX6_digest_144 : decode cX6_digest 144 = .ok (.getfield 27, 3) := by decide +kernel
theorem dX6_digest_147 : decode cX6_digest 147 = .ok (.getfield 51, 3) := by decide +kernel
theorem dX6_digest_150 : decode cX6_digest 150 = .ok (.imul, 1) := by decide +kernel
theorem dX6_digest_151 : decode cX6_digest 151 = .ok (.if_icmp .ge 26, 3) := by decide +kernel
theorem dX6_digest_154 : decode cX6_digest 154 = .ok (.lload_n 1, 1) := by decide +kernel
theorem dX6_digest_155 : decode cX6_digest 155 = .ok (.ldc2_w 145, 3) := by decide +kernel
theorem dX6_digest_158 : decode cX6_digest 158 = .ok (.lmul, 1) := by decide +kernel
theorem dX6_digest_159 : decode cX6_digest 159 = .ok (.aload_n 0, 1) := by decide +kernel
theorem dX6_digest_160 : decode cX6_digest 160 = .ok (.getfield 27, 3) := by decide +kernel
theorem dX6_digest_163 : decode cX6_digest 163 = .ok (.getfield 87, 3) := by decide +kernel
theorem dX6_digest_166 : decode cX6_digest 166 = .ok (.iload_n 3, 1) := by decide +kernel
theorem dX6_digest_167 : decode cX6_digest 167 = .ok (.iaload, 1) := by decide +kernel
theorem dX6_digest_168 : decode cX6_digest 168 = .ok (.i2l, 1) := by decide +kernel
theorem dX6_digest_169 : decode cX6_digest 169 = .ok (.ladd, 1) := by decide +kernel
theorem dX6_digest_170 : decode cX6_digest 170 = .ok (.lstore_n 1, 1) := by decide +kernel
theorem dX6_digest_171 : decode cX6_digest 171 = .ok (.iinc 3 1, 3) := by decide +kernel
theorem dX6_digest_174 : decode cX6_digest 174 = .ok (.goto (-34), 3) := by decide +kernel
theorem dX6_digest_177 : decode cX6_digest 177 = .ok (.iconst 0, 1) := by decide +kernel
theorem dX6_digest_178 : decode cX6_digest 178 = .ok (.istore_n 3, 1) := by decide +kernel
theorem dX6_digest_179 : decode cX6_digest 179 = .ok (.iload_n 3, 1) := by decide +kernel
theorem dX6_digest_180 : decode cX6_digest 180 = .ok (.aload_n 0, 1) := by decide +kernel
theorem dX6_digest_181 : decode cX6_digest 181 = .ok (.getfield 107, 3) := by decide +kernel
theorem dX6_digest_184 : decode cX6_digest 184 = .ok (.if_icmp .ge 46, 3) := by decide +kernel
theorem dX6_digest_187 : decode cX6_digest 187 = .ok (.lload_n 1, 1) := by decide +kernel
theorem dX6_digest_188 : decode cX6_digest 188 = .ok (.ldc2_w 145, 3) := by decide +kernel
theorem dX6_digest_191 : decode cX6_digest 191 = .ok (.lmul, 1) := by decide +kernel
theorem dX6_digest_192 : decode cX6_digest 192 = .ok (.aload_n 0, 1) := by decide +kernel
theorem dX6_digest_193 : decode cX6_digest 193 = .ok (.getfield 16, 3) := by decide +kernel
theorem dX6_digest_196 : decode cX6_digest 196 = .ok (.iload_n 3, 1) := by decide +kernel
theorem dX6_digest_197 : decode cX6_digest 197 = .ok (.iaload, 1) := by decide +kernel
theorem dX6_digest_198 : decode cX6_digest 198 = .ok (.i2l, 1) := by decide +kernel
theorem dX6_digest_199 : decode cX6_digest 199 = .ok (.ladd, 1) := by decide +kernel
theorem dX6_digest_200 : decode cX6_digest 200 = .ok (.ldc2_w 145, 3) := by decide +kernel
theorem dX6_digest_203 : decode cX6_digest 203 = .ok (.lmul, 1) := by decide +kernel
theorem dX6_digest_204 : decode cX6_digest 204 = .ok (.aload_n 0, 1) := by decide +kernel
theorem dX6_digest_205 : decode cX6_digest 205 = .ok (.getfield 19, 3) := by decide +kernel
theorem dX6_digest_208 : decode cX6_digest 208 = .ok (.iload_n 3, 1) := by decide +kernel
theorem dX6_digest_209 : decode cX6_digest 209 = .ok (.iaload, 1) := by decide +kernel
theorem dX6_digest_210 : decode cX6_digest 210 = .ok (.i2l, 1) := by decide +kernel
theorem dX6_digest_211 : decode cX6_digest 211 = .ok (.ladd, 1) := by decide +kernel
theorem dX6_digest_212 : decode cX6_digest 212 = .ok (.ldc2_w 145, 3) := by decide +kernel
theorem dX6_digest_215 : decode cX6_digest 215 = .ok (.lmul, 1) := by decide +kernel
theorem dX6_digest_216 : decode cX6_digest 216 = .ok (.aload_n 0, 1) := by decide +kernel
theorem dX6_digest_217 : decode cX6_digest 217 = .ok (.iload_n 3, 1) := by decide +kernel
theorem dX6_digest_218 : decode cX6_digest 218 = .ok (.invokevirtual 116, 3) := by decide +kernel
theorem dX6_digest_221 : decode cX6_digest 221 = .ok (.i2l, 1) := by decide +kernel
theorem dX6_digest_222 : decode cX6_digest 222 = .ok (.ladd, 1) := by decide +kernel
theorem dX6_digest_223 : decode cX6_digest 223 = .ok (.lstore_n 1, 1) := by decide +kernel
theorem dX6_digest_224 : decode cX6_digest 224 = .ok (.iinc 3 1, 3) := by decide +kernel
theorem dX6_digest_227 : decode cX6_digest 227 = .ok (.goto (-48), 3) := by decide +kernel
theorem dX6_digest_230 : decode cX6_digest 230 = .ok (.lload_n 1, 1) := by decide +kernel
theorem dX6_digest_231 : decode cX6_digest 231 = .ok (.lreturn, 1) := by decide +kernel
theorem dJ9_floorMod_7cf53_0 : decode cJ9_floorMod_7cf53 0 = .ok (.iload_n 0, 1) := by decide +kernel
theorem dJ9_floorMod_7cf53_1 : decode cJ9_floorMod_7cf53 1 = .ok (.iload_n 1, 1) := by decide +kernel
theorem dJ9_floorMod_7cf53_2 : decode cJ9_floorMod_7cf53 2 = .ok (.irem, 1) := by decide +kernel
theorem dJ9_floorMod_7cf53_3 : decode cJ9_floorMod_7cf53 3 = .ok (.istore_n 2, 1) := by decide +kernel
theorem dJ9_floorMod_7cf53_4 : decode cJ9_floorMod_7cf53 4 = .ok (.iload_n 0, 1) := by decide +kernel
theorem dJ9_floorMod_7cf53_5 : decode cJ9_floorMod_7cf53 5 = .ok (.iload_n 1, 1) := by decide +kernel
theorem dJ9_floorMod_7cf53_6 : decode cJ9_floorMod_7cf53 6 = .ok (.ixor, 1) := by decide +kernel
theorem dJ9_floorMod_7cf53_7 : decode cJ9_floorMod_7cf53 7 = .ok (.ifCond .ge 11, 3) := by decide +kernel
theorem dJ9_floorMod_7cf53_10 : decode cJ9_floorMod_7cf53 10 = .ok (.iload_n 2, 1) := by decide +kernel
theorem dJ9_floorMod_7cf53_11 : decode cJ9_floorMod_7cf53 11 = .ok (.ifCond .eq 7, 3) := by decide +kernel
theorem dJ9_floorMod_7cf53_14 : decode cJ9_floorMod_7cf53 14 = .ok (.iload_n 2, 1) := by decide +kernel
theorem dJ9_floorMod_7cf53_15 : decode cJ9_floorMod_7cf53 15 = .ok (.iload_n 1, 1) := by decide +kernel
theorem dJ9_floorMod_7cf53_16 : decode cJ9_floorMod_7cf53 16 = .ok (.iadd, 1) := by decide +kernel
theorem dJ9_floorMod_7cf53_17 : decode cJ9_floorMod_7cf53 17 = .ok (.ireturn, 1) := by decide +kernel
theorem dJ9_floorMod_7cf53_18 : decode cJ9_floorMod_7cf53 18 = .ok (.iload_n 2, 1) := by decide +kernel
theorem dJ9_floorMod_7cf53_19 : decode cJ9_floorMod_7cf53 19 = .ok (.ireturn, 1) := by decide +kernel
theorem dJ9_abs_0f7a4_0 : decode cJ9_abs_0f7a4 0 = .ok (.iload_n 0, 1) := by decide +kernel
theorem dJ9_abs_0f7a4_1 : decode cJ9_abs_0f7a4 1 = .ok (.ifCond .ge 8, 3) := by decide +kernel
theorem dJ9_abs_0f7a4_4 : decode cJ9_abs_0f7a4 4 = .ok (.iload_n 0, 1) := by decide +kernel
theorem dJ9_abs_0f7a4_5 : decode cJ9_abs_0f7a4 5 = .ok (.ineg, 1) := by decide +kernel
theorem dJ9_abs_0f7a4_6 : decode cJ9_abs_0f7a4 6 = .ok (.goto 4, 3) := by decide +kernel
theorem dJ9_abs_0f7a4_9 : decode cJ9_abs_0f7a4 9 = .ok (.iload_n 0, 1) := by decide +kernel
theorem dJ9_abs_0f7a4_10 : decode cJ9_abs_0f7a4 10 = .ok (.ireturn, 1) := by decide +kernel
theorem dJ9_max_7cf53_0 : decode cJ9_max_7cf53 0 = .ok (.iload_n 0, 1) := by decide +kernel
theorem dJ9_max_7cf53_1 : decode cJ9_max_7cf53 1 = .ok (.iload_n 1, 1) := by decide +kernel
theorem dJ9_max_7cf53_2 : decode cJ9_max_7cf53 2 = .ok (.if_icmp .lt 7, 3) := by decide +kernel
theorem dJ9_max_7cf53_5 : decode cJ9_max_7cf53 5 = .ok (.iload_n 0, 1) := by decide +kernel
theorem dJ9_max_7cf53_6 : decode cJ9_max_7cf53 6 = .ok (.goto 4, 3) := by decide +kernel
theorem dJ9_max_7cf53_9 : decode cJ9_max_7cf53 9 = .ok (.iload_n 1, 1) := by decide +kernel
theorem dJ9_max_7cf53_10 : decode cJ9_max_7cf53 10 = .ok (.ireturn, 1) := by decide +kernel
theorem dJ9_min_7cf53_0 : decode cJ9_min_7cf53 0 = .ok (.iload_n 0, 1) := by decide +kernel
theorem dJ9_min_7cf53_1 : decode cJ9_min_7cf53 1 = .ok (.iload_n 1, 1) := by decide +kernel
theorem dJ9_min_7cf53_2 : decode cJ9_min_7cf53 2 = .ok (.if_icmp .gt 7, 3) := by decide +kernel
theorem dJ9_min_7cf53_5 : decode cJ9_min_7cf53 5 = .ok (.iload_n 0, 1) := by decide +kernel
theorem dJ9_min_7cf53_6 : decode cJ9_min_7cf53 6 = .ok (.goto 4, 3) := by decide +kernel
theorem dJ9_min_7cf53_9 : decode cJ9_min_7cf53 9 = .ok (.iload_n 1, 1) := by decide +kernel
theorem dJ9_min_7cf53_10 : decode cJ9_min_7cf53 10 = .ok (.ireturn, 1) := by decide +kernel
theorem dJ7_fill_53178_0 : decode cJ7_fill_53178 0 = .ok (.iconst 0, 1) := by decide +kernel
theorem dJ7_fill_53178_1 : decode cJ7_fill_53178 1 = .ok (.istore_n 2, 1) := by decide +kernel
theorem dJ7_fill_53178_2 : decode cJ7_fill_53178 2 = .ok (.aload_n 0, 1) := by decide +kernel
theorem dJ7_fill_53178_3 : decode cJ7_fill_53178 3 = .ok (.arraylength, 1) := by decide +kernel
theorem dJ7_fill_53178_4 : decode cJ7_fill_53178 4 = .ok (.istore_n 3, 1) := by decide +kernel
theorem dJ7_fill_53178_5 : decode cJ7_fill_53178 5 = .ok (.iload_n 2, 1) := by decide +kernel
theorem dJ7_fill_53178_6 : decode cJ7_fill_53178 6 = .ok (.iload_n 3, 1) := by decide +kernel
theorem dJ7_fill_53178_7 : decode cJ7_fill_53178 7 = .ok (.if_icmp .ge 13, 3) := by decide +kernel
theorem dJ7_fill_53178_10 : decode cJ7_fill_53178 10 = .ok (.aload_n 0, 1) := by decide +kernel
theorem dJ7_fill_53178_11 : decode cJ7_fill_53178 11 = .ok (.iload_n 2, 1) := by decide +kernel
theorem dJ7_fill_53178_12 : decode cJ7_fill_53178 12 = .ok (.iload_n 1, 1) := by decide +kernel
theorem dJ7_fill_53178_13 : decode cJ7_fill_53178 13 = .ok (.iastore, 1) := by decide +kernel
theorem dJ7_fill_53178_14 : decode cJ7_fill_53178 14 = .ok (.iinc 2 1, 3) := by decide +kernel
theorem dJ7_fill_53178_17 : decode cJ7_fill_53178 17 = .ok (.goto (-12), 3) := by decide +kernel
theorem dJ7_fill_53178_20 : decode cJ7_fill_53178 20 = .ok (.return_, 1) := by decide +kernel
set_option maxRecDepth 20000 in
theorem ggL_setWarm_X4_setWarm : GoodIn wsL_setWarm wsX4_setWarm := goodIn_ca (goodIn_ca (goodIn_r _ [7, 8, 9, 10, 11, 12, 13, 14, 6, 15, 16, 17, 18, 19, 20, 21, 22, 23, 24] (by decide +kernel) (by decide +kernel)) (goodIn_sub (fun _ h => List.mem_cons_of_mem _ (List.mem_append_left _ (List.mem_append_right _ h))) (by decide +kernel))) (goodIn_sub (fun _ h => List.mem_cons_of_mem _ (List.mem_append_right _ h)) (by decide +kernel))
set_option maxRecDepth 20000 in
theorem gL_setWarm_X4_setWarm : GoodIn wsL_setWarm (wsV RL 7 RX4 yX4_setWarm wsX4_setWarm) := goodIn_app (goodIn_of _ (by decide +kernel)) ggL_setWarm_X4_setWarm
theorem dL_setWarm_0 : decode cL_setWarm 0 = .ok (.aload_n 3, 1) := by decide +kernel
theorem dL_setWarm_1 : decode cL_setWarm 1 = .ok (.iconst 0, 1) := by decide +kernel
theorem dL_setWarm_2 : decode cL_setWarm 2 = .ok (.aload_n 0, 1) := by decide +kernel
theorem dL_setWarm_3 : decode cL_setWarm 3 = .ok (.iload_n 1, 1) := by decide +kernel
theorem dL_setWarm_4 : decode cL_setWarm 4 = .ok (.iload_n 2, 1) := by decide +kernel
theorem dL_setWarm_5 : decode cL_setWarm 5 = .ok (.invokevirtual 7, 3) := by decide +kernel
theorem dL_setWarm_8 : decode cL_setWarm 8 = .ok (.i2l, 1) := by decide +kernel
theorem dL_setWarm_9 : decode cL_setWarm 9 = .ok (.lastore, 1) := by decide +kernel
theorem dL_setWarm_10 : decode cL_setWarm 10 = .ok (.goto 11, 3) := by decide +kernel
theorem dL_setWarm_13 : decode cL_setWarm 13 = .ok (.astore 4, 2) := by decide +kernel
theorem dL_setWarm_15 : decode cL_setWarm 15 = .ok (.iconst 1, 1) := by decide +kernel
theorem dL_setWarm_16 : decode cL_setWarm 16 = .ok (.ireturn, 1) := by decide +kernel
theorem dL_setWarm_17 : decode cL_setWarm 17 = .ok (.astore 4, 2) := by decide +kernel
theorem dL_setWarm_19 : decode cL_setWarm 19 = .ok (.iconst 2, 1) := by decide +kernel
theorem dL_setWarm_20 : decode cL_setWarm 20 = .ok (.ireturn, 1) := by decide +kernel
theorem dL_setWarm_21 : decode cL_setWarm 21 = .ok (.iconst 0, 1) := by decide +kernel
theorem dL_setWarm_22 : decode cL_setWarm 22 = .ok (.ireturn, 1) := by decide +kernel
set_option maxRecDepth 20000 in
theorem ggL_setIce_X4_setIce : GoodIn wsL_setIce wsX4_setIce := goodIn_ca (goodIn_ca (goodIn_r _ [7, 8, 9, 10, 11, 12, 13, 14, 6, 15, 16, 17, 18, 19, 20, 21, 22, 23, 24, 25, 26, 27, 28, 29, 30, 31, 32, 33, 34, 35] (by decide +kernel) (by decide +kernel)) (goodIn_sub (fun _ h => List.mem_cons_of_mem _ (List.mem_append_left _ (List.mem_append_right _ h))) (by decide +kernel))) (goodIn_sub (fun _ h => List.mem_cons_of_mem _ (List.mem_append_right _ h)) (by decide +kernel))
set_option maxRecDepth 20000 in
theorem gL_setIce_X4_setIce : GoodIn wsL_setIce (wsV RL 17 RX4 yX4_setIce wsX4_setIce) := goodIn_app (goodIn_of _ (by decide +kernel)) ggL_setIce_X4_setIce
theorem dL_setIce_0 : decode cL_setIce 0 = .ok (.aload 4, 2) := by decide +kernel
theorem dL_setIce_2 : decode cL_setIce 2 = .ok (.iconst 0, 1) := by decide +kernel
theorem dL_setIce_3 : decode cL_setIce 3 = .ok (.aload_n 0, 1) := by decide +kernel
theorem dL_setIce_4 : decode cL_setIce 4 = .ok (.iload_n 1, 1) := by decide +kernel
theorem dL_setIce_5 : decode cL_setIce 5 = .ok (.iload_n 2, 1) := by decide +kernel
theorem dL_setIce_6 : decode cL_setIce 6 = .ok (.iload_n 3, 1) := by decide +kernel
theorem dL_setIce_7 : decode cL_setIce 7 = .ok (.invokevirtual 17, 3) := by decide +kernel
theorem dL_setIce_10 : decode cL_setIce 10 = .ok (.i2l, 1) := by decide +kernel
theorem dL_setIce_11 : decode cL_setIce 11 = .ok (.lastore, 1) := by decide +kernel
theorem dL_setIce_12 : decode cL_setIce 12 = .ok (.goto 11, 3) := by decide +kernel
theorem dL_setIce_15 : decode cL_setIce 15 = .ok (.astore 5, 2) := by decide +kernel
theorem dL_setIce_17 : decode cL_setIce 17 = .ok (.iconst 1, 1) := by decide +kernel
theorem dL_setIce_18 : decode cL_setIce 18 = .ok (.ireturn, 1) := by decide +kernel
theorem dL_setIce_19 : decode cL_setIce 19 = .ok (.astore 5, 2) := by decide +kernel
theorem dL_setIce_21 : decode cL_setIce 21 = .ok (.iconst 2, 1) := by decide +kernel
theorem dL_setIce_22 : decode cL_setIce 22 = .ok (.ireturn, 1) := by decide +kernel
theorem dL_setIce_23 : decode cL_setIce 23 = .ok (.iconst 0, 1) := by decide +kernel
theorem dL_setIce_24 : decode cL_setIce 24 = .ok (.ireturn, 1) := by decide +kernel
set_option maxRecDepth 20000 in
theorem ggL_build_X4_build : GoodIn wsL_build wsX4_build := goodIn_ca (goodIn_r _ [6, 7, 8, 9, 10, 11, 5, 12, 13, 14, 15, 16, 17, 18, 19, 20, 21, 22, 23, 24, 25, 26, 27, 28, 29] (by decide +kernel) (by decide +kernel)) (goodIn_sub (fun _ h => List.mem_cons_of_mem _ (List.mem_append_right _ h)) (by decide +kernel))
set_option maxRecDepth 20000 in
theorem gL_build_X4_build : GoodIn wsL_build (wsV RL 21 RX4 yX4_build wsX4_build) := goodIn_app (goodIn_of _ (by decide +kernel)) ggL_build_X4_build
theorem dL_build_0 : decode cL_build 0 = .ok (.aload_n 2, 1) := by decide +kernel
theorem dL_build_1 : decode cL_build 1 = .ok (.iconst 0, 1) := by decide +kernel
theorem dL_build_2 : decode cL_build 2 = .ok (.aload_n 0, 1) := by decide +kernel
theorem dL_build_3 : decode cL_build 3 = .ok (.iload_n 1, 1) := by decide +kernel
theorem dL_build_4 : decode cL_build 4 = .ok (.invokevirtual 21, 3) := by decide +kernel
theorem dL_build_7 : decode cL_build 7 = .ok (.i2l, 1) := by decide +kernel
theorem dL_build_8 : decode cL_build 8 = .ok (.lastore, 1) := by decide +kernel
theorem dL_build_9 : decode cL_build 9 = .ok (.goto 6, 3) := by decide +kernel
theorem dL_build_12 : decode cL_build 12 = .ok (.astore_n 3, 1) := by decide +kernel
theorem dL_build_13 : decode cL_build 13 = .ok (.iconst 1, 1) := by decide +kernel
theorem dL_build_14 : decode cL_build 14 = .ok (.ireturn, 1) := by decide +kernel
theorem dL_build_15 : decode cL_build 15 = .ok (.iconst 0, 1) := by decide +kernel
theorem dL_build_16 : decode cL_build 16 = .ok (.ireturn, 1) := by decide +kernel
set_option maxRecDepth 20000 in
theorem ggL_place_X4_place : GoodIn wsL_place wsX4_place := goodIn_ca (goodIn_r _ [6, 7, 8, 9, 10, 11, 5, 12, 13, 14, 15, 16, 17, 18, 19, 20, 21, 22, 23, 24, 25, 26, 27, 28, 29, 30, 31, 32, 33, 34, 35, 36, 37, 38, 39, 40, 41, 42, 43, 44, 45, 46, 47, 48, 49, 50, 51, 52, 53, 54, 55, 56, 57, 58, 59, 60, 61, 62, 63, 64] (by decide +kernel) (by decide +kernel)) (goodIn_sub (fun _ h => List.mem_cons_of_mem _ (List.mem_append_right _ h)) (by decide +kernel))
set_option maxRecDepth 20000 in
theorem gL_place_X4_place : GoodIn wsL_place (wsV RL 25 RX4 yX4_place wsX4_place) := goodIn_app (goodIn_of _ (by decide +kernel)) ggL_place_X4_place
theorem dL_place_0 : decode cL_place 0 = .ok (.aload 4, 2) := by decide +kernel
theorem dL_place_2 : decode cL_place 2 = .ok (.iconst 0, 1) := by decide +kernel
theorem dL_place_3 : decode cL_place 3 = .ok (.aload_n 0, 1) := by decide +kernel
theorem dL_place_4 : decode cL_place 4 = .ok (.iload_n 1, 1) := by decide +kernel
theorem dL_place_5 : decode cL_place 5 = .ok (.iload_n 2, 1) := by decide +kernel
theorem dL_place_6 : decode cL_place 6 = .ok (.iload_n 3, 1) := by decide +kernel
theorem dL_place_7 : decode cL_place 7 = .ok (.invokevirtual 25, 3) := by decide +kernel
theorem dL_place_10 : decode cL_place 10 = .ok (.i2l, 1) := by decide +kernel
theorem dL_place_11 : decode cL_place 11 = .ok (.lastore, 1) := by decide +kernel
theorem dL_place_12 : decode cL_place 12 = .ok (.goto 7, 3) := by decide +kernel
theorem dL_place_15 : decode cL_place 15 = .ok (.astore 5, 2) := by decide +kernel
theorem dL_place_17 : decode cL_place 17 = .ok (.iconst 1, 1) := by decide +kernel
theorem dL_place_18 : decode cL_place 18 = .ok (.ireturn, 1) := by decide +kernel
theorem dL_place_19 : decode cL_place 19 = .ok (.iconst 0, 1) := by decide +kernel
theorem dL_place_20 : decode cL_place 20 = .ok (.ireturn, 1) := by decide +kernel
set_option maxRecDepth 20000 in
theorem ggL_come_X4_come : GoodIn wsL_come wsX4_come := goodIn_ca (goodIn_ca (goodIn_ca (goodIn_r _ [8, 9, 10, 11, 12, 13, 14, 15, 16, 17, 7, 18, 19, 20, 21, 22, 23, 24, 25, 26, 27, 28, 29, 30, 31, 32, 33, 34, 35, 36, 37, 38, 39, 40, 41, 42, 43, 44, 45, 46, 47, 48, 49, 50, 51, 52, 53, 54, 55, 56, 57, 58, 59, 60, 61, 62, 63, 64, 65, 66, 67, 68, 69, 70, 71] (by decide +kernel) (by decide +kernel)) (goodIn_sub (fun _ h => List.mem_cons_of_mem _ (List.mem_append_left _ (List.mem_append_left _ (List.mem_append_right _ h)))) (by decide +kernel))) (goodIn_sub (fun _ h => List.mem_cons_of_mem _ (List.mem_append_left _ (List.mem_append_right _ h))) (by decide +kernel))) (goodIn_sub (fun _ h => List.mem_cons_of_mem _ (List.mem_append_right _ h)) (by decide +kernel))
set_option maxRecDepth 20000 in
theorem gL_come_X4_come : GoodIn wsL_come (wsV RL 28 RX4 yX4_come wsX4_come) := goodIn_app (goodIn_of _ (by decide +kernel)) ggL_come_X4_come
theorem dL_come_0 : decode cL_come 0 = .ok (.aload 6, 2) := by decide +kernel
theorem dL_come_2 : decode cL_come 2 = .ok (.iconst 0, 1) := by decide +kernel
theorem dL_come_3 : decode cL_come 3 = .ok (.aload_n 0, 1) := by decide +kernel
theorem dL_come_4 : decode cL_come 4 = .ok (.iload_n 1, 1) := by decide +kernel
theorem dL_come_5 : decode cL_come 5 = .ok (.iload_n 2, 1) := by decide +kernel
theorem dL_come_6 : decode cL_come 6 = .ok (.iload_n 3, 1) := by decide +kernel
theorem dL_come_7 : decode cL_come 7 = .ok (.iload 4, 2) := by decide +kernel
theorem dL_come_9 : decode cL_come 9 = .ok (.iload 5, 2) := by decide +kernel
theorem dL_come_11 : decode cL_come 11 = .ok (.invokevirtual 28, 3) := by decide +kernel
theorem dL_come_14 : decode cL_come 14 = .ok (.i2l, 1) := by decide +kernel
theorem dL_come_15 : decode cL_come 15 = .ok (.lastore, 1) := by decide +kernel
theorem dL_come_16 : decode cL_come 16 = .ok (.goto 15, 3) := by decide +kernel
theorem dL_come_19 : decode cL_come 19 = .ok (.astore 7, 2) := by decide +kernel
theorem dL_come_21 : decode cL_come 21 = .ok (.iconst 1, 1) := by decide +kernel
theorem dL_come_22 : decode cL_come 22 = .ok (.ireturn, 1) := by decide +kernel
theorem dL_come_23 : decode cL_come 23 = .ok (.astore 7, 2) := by decide +kernel
theorem dL_come_25 : decode cL_come 25 = .ok (.iconst 2, 1) := by decide +kernel
theorem dL_come_26 : decode cL_come 26 = .ok (.ireturn, 1) := by decide +kernel
theorem dL_come_27 : decode cL_come 27 = .ok (.astore 7, 2) := by decide +kernel
theorem dL_come_29 : decode cL_come 29 = .ok (.iconst 3, 1) := by decide +kernel
theorem dL_come_30 : decode cL_come 30 = .ok (.ireturn, 1) := by decide +kernel
theorem dL_come_31 : decode cL_come 31 = .ok (.iconst 0, 1) := by decide +kernel
theorem dL_come_32 : decode cL_come 32 = .ok (.ireturn, 1) := by decide +kernel
set_option maxRecDepth 20000 in
theorem ggL_send_X4_send : GoodIn wsL_send wsX4_send := goodIn_ca (goodIn_ca (goodIn_r _ [7, 8, 9, 10, 11, 12, 13, 14, 15, 16, 17, 18, 19, 20, 21, 22, 6, 23, 24, 25, 26, 27, 28, 29, 30, 31, 32, 33, 34, 35, 36, 37, 38, 39, 40, 41, 42, 43, 44, 45, 46] (by decide +kernel) (by decide +kernel)) (goodIn_sub (fun _ h => List.mem_cons_of_mem _ (List.mem_append_left _ (List.mem_append_right _ h))) (by decide +kernel))) (goodIn_sub (fun _ h => List.mem_cons_of_mem _ (List.mem_append_right _ h)) (by decide +kernel))
set_option maxRecDepth 20000 in
theorem gL_send_X4_send : GoodIn wsL_send (wsV RL 34 RX4 yX4_send wsX4_send) := goodIn_app (goodIn_of _ (by decide +kernel)) ggL_send_X4_send
theorem dL_send_0 : decode cL_send 0 = .ok (.aload_n 3, 1) := by decide +kernel
theorem dL_send_1 : decode cL_send 1 = .ok (.iconst 0, 1) := by decide +kernel
theorem dL_send_2 : decode cL_send 2 = .ok (.aload_n 0, 1) := by decide +kernel
theorem dL_send_3 : decode cL_send 3 = .ok (.iload_n 1, 1) := by decide +kernel
theorem dL_send_4 : decode cL_send 4 = .ok (.iload_n 2, 1) := by decide +kernel
theorem dL_send_5 : decode cL_send 5 = .ok (.invokevirtual 34, 3) := by decide +kernel
theorem dL_send_8 : decode cL_send 8 = .ok (.i2l, 1) := by decide +kernel
theorem dL_send_9 : decode cL_send 9 = .ok (.lastore, 1) := by decide +kernel
theorem dL_send_10 : decode cL_send 10 = .ok (.goto 11, 3) := by decide +kernel
theorem dL_send_13 : decode cL_send 13 = .ok (.astore 4, 2) := by decide +kernel
theorem dL_send_15 : decode cL_send 15 = .ok (.iconst 1, 1) := by decide +kernel
theorem dL_send_16 : decode cL_send 16 = .ok (.ireturn, 1) := by decide +kernel
theorem dL_send_17 : decode cL_send 17 = .ok (.astore 4, 2) := by decide +kernel
theorem dL_send_19 : decode cL_send 19 = .ok (.iconst 2, 1) := by decide +kernel
theorem dL_send_20 : decode cL_send 20 = .ok (.ireturn, 1) := by decide +kernel
theorem dL_send_21 : decode cL_send 21 = .ok (.iconst 0, 1) := by decide +kernel
theorem dL_send_22 : decode cL_send 22 = .ok (.ireturn, 1) := by decide +kernel
set_option maxRecDepth 20000 in
theorem ggL_load_X4_load : GoodIn wsL_load wsX4_load := goodIn_ca (goodIn_ca (goodIn_ca (goodIn_r _ [8, 9, 10, 11, 12, 13, 14, 15, 16, 17, 18, 19, 20, 21, 7, 22, 23, 24, 25, 26, 27, 28, 29, 30, 31, 32, 33, 34, 35, 36, 37, 38, 39, 40, 41, 42, 43, 44, 45, 46, 47, 48, 49, 50, 51, 52, 53, 54, 55, 56, 57, 58, 59, 60, 61, 62] (by decide +kernel) (by decide +kernel)) (goodIn_sub (fun _ h => List.mem_cons_of_mem _ (List.mem_append_left _ (List.mem_append_left _ (List.mem_append_right _ h)))) (by decide +kernel))) (goodIn_sub (fun _ h => List.mem_cons_of_mem _ (List.mem_append_left _ (List.mem_append_right _ h))) (by decide +kernel))) (goodIn_sub (fun _ h => List.mem_cons_of_mem _ (List.mem_append_right _ h)) (by decide +kernel))
set_option maxRecDepth 20000 in
theorem gL_load_X4_load : GoodIn wsL_load (wsV RL 37 RX4 yX4_load wsX4_load) := goodIn_app (goodIn_of _ (by decide +kernel)) ggL_load_X4_load
theorem dL_load_0 : decode cL_load 0 = .ok (.aload_n 3, 1) := by decide +kernel
theorem dL_load_1 : decode cL_load 1 = .ok (.iconst 0, 1) := by decide +kernel
theorem dL_load_2 : decode cL_load 2 = .ok (.aload_n 0, 1) := by decide +kernel
theorem dL_load_3 : decode cL_load 3 = .ok (.iload_n 1, 1) := by decide +kernel
theorem dL_load_4 : decode cL_load 4 = .ok (.iload_n 2, 1) := by decide +kernel
theorem dL_load_5 : decode cL_load 5 = .ok (.invokevirtual 37, 3) := by decide +kernel
theorem dL_load_8 : decode cL_load 8 = .ok (.i2l, 1) := by decide +kernel
theorem dL_load_9 : decode cL_load 9 = .ok (.lastore, 1) := by decide +kernel
theorem dL_load_10 : decode cL_load 10 = .ok (.goto 15, 3) := by decide +kernel
theorem dL_load_13 : decode cL_load 13 = .ok (.astore 4, 2) := by decide +kernel
theorem dL_load_15 : decode cL_load 15 = .ok (.iconst 1, 1) := by decide +kernel
theorem dL_load_16 : decode cL_load 16 = .ok (.ireturn, 1) := by decide +kernel
theorem dL_load_17 : decode cL_load 17 = .ok (.astore 4, 2) := by decide +kernel
theorem dL_load_19 : decode cL_load 19 = .ok (.iconst 2, 1) := by decide +kernel
theorem dL_load_20 : decode cL_load 20 = .ok (.ireturn, 1) := by decide +kernel
theorem dL_load_21 : decode cL_load 21 = .ok (.astore 4, 2) := by decide +kernel
theorem dL_load_23 : decode cL_load 23 = .ok (.iconst 3, 1) := by decide +kernel
theorem dL_load_24 : decode cL_load 24 = .ok (.ireturn, 1) := by decide +kernel
theorem dL_load_25 : decode cL_load 25 = .ok (.iconst 0, 1) := by decide +kernel
theorem dL_load_26 : decode cL_load 26 = .ok (.ireturn, 1) := by decide +kernel
set_option maxRecDepth 20000 in
theorem ggL_courier_X4_courier : GoodIn wsL_courier wsX4_courier := goodIn_ca (goodIn_r _ [6, 7, 8, 9, 10, 11, 12, 13, 14, 15, 5, 16, 17, 18, 19, 20, 21, 22, 23, 24, 25, 26, 27, 28, 29, 30, 31, 32, 33, 34, 35, 36, 37, 38, 39, 40, 41, 42, 43, 44, 45, 46, 47, 48] (by decide +kernel) (by decide +kernel)) (goodIn_sub (fun _ h => List.mem_cons_of_mem _ (List.mem_append_right _ h)) (by decide +kernel))
set_option maxRecDepth 20000 in
theorem gL_courier_X4_courier : GoodIn wsL_courier (wsV RL 40 RX4 yX4_courier wsX4_courier) := goodIn_app (goodIn_of _ (by decide +kernel)) ggL_courier_X4_courier
theorem dL_courier_0 : decode cL_courier 0 = .ok (.aload_n 3, 1) := by decide +kernel
theorem dL_courier_1 : decode cL_courier 1 = .ok (.iconst 0, 1) := by decide +kernel
theorem dL_courier_2 : decode cL_courier 2 = .ok (.aload_n 0, 1) := by decide +kernel
theorem dL_courier_3 : decode cL_courier 3 = .ok (.iload_n 1, 1) := by decide +kernel
theorem dL_courier_4 : decode cL_courier 4 = .ok (.iload_n 2, 1) := by decide +kernel
theorem dL_courier_5 : decode cL_courier 5 = .ok (.invokevirtual 40, 3) := by decide +kernel
theorem dL_courier_8 : decode cL_courier 8 = .ok (.i2l, 1) := by decide +kernel
theorem dL_courier_9 : decode cL_courier 9 = .ok (.lastore, 1) := by decide +kernel
theorem dL_courier_10 : decode cL_courier 10 = .ok (.goto 7, 3) := by decide +kernel
theorem dL_courier_13 : decode cL_courier 13 = .ok (.astore 4, 2) := by decide +kernel
theorem dL_courier_15 : decode cL_courier 15 = .ok (.iconst 1, 1) := by decide +kernel
theorem dL_courier_16 : decode cL_courier 16 = .ok (.ireturn, 1) := by decide +kernel
theorem dL_courier_17 : decode cL_courier 17 = .ok (.iconst 0, 1) := by decide +kernel
theorem dL_courier_18 : decode cL_courier 18 = .ok (.ireturn, 1) := by decide +kernel
set_option maxRecDepth 20000 in
theorem ggL_wager_X4_wager : GoodIn wsL_wager wsX4_wager := goodIn_ca (goodIn_ca (goodIn_r _ [7, 8, 9, 10, 11, 12, 13, 14, 15, 6, 16, 17, 18, 19, 20, 21, 22, 23, 24, 25, 26, 27, 28, 29, 30, 31, 32, 33, 34, 35, 36, 37, 38, 39, 40] (by decide +kernel) (by decide +kernel)) (goodIn_sub (fun _ h => List.mem_cons_of_mem _ (List.mem_append_left _ (List.mem_append_right _ h))) (by decide +kernel))) (goodIn_sub (fun _ h => List.mem_cons_of_mem _ (List.mem_append_right _ h)) (by decide +kernel))
set_option maxRecDepth 20000 in
theorem gL_wager_X4_wager : GoodIn wsL_wager (wsV RL 43 RX4 yX4_wager wsX4_wager) := goodIn_app (goodIn_of _ (by decide +kernel)) ggL_wager_X4_wager
theorem dL_wager_0 : decode cL_wager 0 = .ok (.aload_n 3, 1) := by decide +kernel
theorem dL_wager_1 : decode cL_wager 1 = .ok (.iconst 0, 1) := by decide +kernel
theorem dL_wager_2 : decode cL_wager 2 = .ok (.aload_n 0, 1) := by decide +kernel
theorem dL_wager_3 : decode cL_wager 3 = .ok (.iload_n 1, 1) := by decide +kernel
theorem dL_wager_4 : decode cL_wager 4 = .ok (.iload_n 2, 1) := by decide +kernel
theorem dL_wager_5 : decode cL_wager 5 = .ok (.invokevirtual 43, 3) := by decide +kernel
theorem dL_wager_8 : decode cL_wager 8 = .ok (.i2l, 1) := by decide +kernel
theorem dL_wager_9 : decode cL_wager 9 = .ok (.lastore, 1) := by decide +kernel
theorem dL_wager_10 : decode cL_wager 10 = .ok (.goto 11, 3) := by decide +kernel
theorem dL_wager_13 : decode cL_wager 13 = .ok (.astore 4, 2) := by decide +kernel
theorem dL_wager_15 : decode cL_wager 15 = .ok (.iconst 1, 1) := by decide +kernel
theorem dL_wager_16 : decode cL_wager 16 = .ok (.ireturn, 1) := by decide +kernel
theorem dL_wager_17 : decode cL_wager 17 = .ok (.astore 4, 2) := by decide +kernel
theorem dL_wager_19 : decode cL_wager 19 = .ok (.iconst 2, 1) := by decide +kernel
theorem dL_wager_20 : decode cL_wager 20 = .ok (.ireturn, 1) := by decide +kernel
theorem dL_wager_21 : decode cL_wager 21 = .ok (.iconst 0, 1) := by decide +kernel
theorem dL_wager_22 : decode cL_wager 22 = .ok (.ireturn, 1) := by decide +kernel
set_option maxRecDepth 20000 in
theorem ggL_wins_X4_wins : GoodIn wsL_wins wsX4_wins := goodIn_ca (goodIn_r _ [6, 7, 8, 9, 10, 11, 12, 13, 14, 15, 5, 16, 17, 18, 19, 20, 21, 22, 23, 24, 25, 26, 27, 28, 29, 30, 31, 32, 33, 34, 35, 36, 37, 38, 39, 40, 41, 42, 43, 44, 45, 46, 47, 48, 49, 50, 51, 52, 53, 54, 55] (by decide +kernel) (by decide +kernel)) (goodIn_sub (fun _ h => List.mem_cons_of_mem _ (List.mem_append_right _ h)) (by decide +kernel))
set_option maxRecDepth 20000 in
theorem gL_wins_X4_wins : GoodIn wsL_wins (wsV RL 46 RX4 yX4_wins wsX4_wins) := goodIn_app (goodIn_of _ (by decide +kernel)) ggL_wins_X4_wins
theorem dL_wins_0 : decode cL_wins 0 = .ok (.aload_n 2, 1) := by decide +kernel
theorem dL_wins_1 : decode cL_wins 1 = .ok (.iconst 0, 1) := by decide +kernel
theorem dL_wins_2 : decode cL_wins 2 = .ok (.aload_n 0, 1) := by decide +kernel
theorem dL_wins_3 : decode cL_wins 3 = .ok (.iload_n 1, 1) := by decide +kernel
theorem dL_wins_4 : decode cL_wins 4 = .ok (.invokevirtual 46, 3) := by decide +kernel
theorem dL_wins_7 : decode cL_wins 7 = .ok (.i2l, 1) := by decide +kernel
theorem dL_wins_8 : decode cL_wins 8 = .ok (.lastore, 1) := by decide +kernel
theorem dL_wins_9 : decode cL_wins 9 = .ok (.goto 6, 3) := by decide +kernel
theorem dL_wins_12 : decode cL_wins 12 = .ok (.astore_n 3, 1) := by decide +kernel
theorem dL_wins_13 : decode cL_wins 13 = .ok (.iconst 1, 1) := by decide +kernel
theorem dL_wins_14 : decode cL_wins 14 = .ok (.ireturn, 1) := by decide +kernel
theorem dL_wins_15 : decode cL_wins 15 = .ok (.iconst 0, 1) := by decide +kernel
theorem dL_wins_16 : decode cL_wins 16 = .ok (.ireturn, 1) := by decide +kernel
set_option maxRecDepth 20000 in
theorem ggL_pass_X4_pass : GoodIn wsL_pass wsX4_pass := goodIn_ca (goodIn_r _ [6, 7, 8, 9, 10, 11, 5, 12, 13, 14, 15, 16, 17, 18, 19, 20, 21, 22, 23, 24, 25, 26, 27, 28, 29, 30, 31, 32, 33, 34, 35, 36, 37, 38, 39, 40, 41, 42, 43, 44, 45, 46, 47, 48, 49, 50, 51, 52, 53, 54, 55, 56, 57, 58, 59, 60, 61, 62, 63, 64, 65, 66, 67, 68, 69, 70, 71, 72, 73, 74, 75, 76, 77, 78, 79, 80, 81, 82, 83, 84, 85, 86, 87, 88, 89, 90, 91, 92, 93, 94, 95, 96, 97, 98, 99, 100, 101, 102, 103, 104, 105, 106, 107] (by decide +kernel) (by decide +kernel)) (goodIn_sub (fun _ h => List.mem_cons_of_mem _ (List.mem_append_right _ h)) (by decide +kernel))
set_option maxRecDepth 20000 in
theorem gL_pass_X4_pass : GoodIn wsL_pass (wsV RL 49 RX4 yX4_pass wsX4_pass) := goodIn_app (goodIn_of _ (by decide +kernel)) ggL_pass_X4_pass
theorem dL_pass_0 : decode cL_pass 0 = .ok (.aload_n 2, 1) := by decide +kernel
theorem dL_pass_1 : decode cL_pass 1 = .ok (.iconst 0, 1) := by decide +kernel
theorem dL_pass_2 : decode cL_pass 2 = .ok (.aload_n 0, 1) := by decide +kernel
theorem dL_pass_3 : decode cL_pass 3 = .ok (.iload_n 1, 1) := by decide +kernel
theorem dL_pass_4 : decode cL_pass 4 = .ok (.invokevirtual 49, 3) := by decide +kernel
theorem dL_pass_7 : decode cL_pass 7 = .ok (.i2l, 1) := by decide +kernel
theorem dL_pass_8 : decode cL_pass 8 = .ok (.lastore, 1) := by decide +kernel
theorem dL_pass_9 : decode cL_pass 9 = .ok (.goto 6, 3) := by decide +kernel
theorem dL_pass_12 : decode cL_pass 12 = .ok (.astore_n 3, 1) := by decide +kernel
theorem dL_pass_13 : decode cL_pass 13 = .ok (.iconst 1, 1) := by decide +kernel
theorem dL_pass_14 : decode cL_pass 14 = .ok (.ireturn, 1) := by decide +kernel
theorem dL_pass_15 : decode cL_pass 15 = .ok (.iconst 0, 1) := by decide +kernel
theorem dL_pass_16 : decode cL_pass 16 = .ok (.ireturn, 1) := by decide +kernel
set_option maxRecDepth 20000 in
theorem ggL_count_X4_count : GoodIn wsL_count wsX4_count := goodIn_ca (goodIn_r _ [6, 7, 8, 9, 10, 5, 11, 12, 13, 14, 15, 16, 17, 18, 19, 20, 21, 22, 23, 24, 25, 26, 27, 28, 29, 30, 31, 32, 33, 34, 35, 36, 37, 38, 39, 40, 41, 42, 43, 44, 45, 46, 47, 48, 49, 50, 51, 52, 53, 54, 55, 56, 57, 58, 59, 60, 61, 62, 63, 64, 65, 66, 67] (by decide +kernel) (by decide +kernel)) (goodIn_sub (fun _ h => List.mem_cons_of_mem _ (List.mem_append_right _ h)) (by decide +kernel))
set_option maxRecDepth 20000 in
theorem gL_count_X4_count : GoodIn wsL_count (wsV RL 52 RX4 yX4_count wsX4_count) := goodIn_app (goodIn_of _ (by decide +kernel)) ggL_count_X4_count
theorem dL_count_0 : decode cL_count 0 = .ok (.aload_n 2, 1) := by decide +kernel
theorem dL_count_1 : decode cL_count 1 = .ok (.iconst 0, 1) := by decide +kernel
theorem dL_count_2 : decode cL_count 2 = .ok (.aload_n 0, 1) := by decide +kernel
theorem dL_count_3 : decode cL_count 3 = .ok (.iload_n 1, 1) := by decide +kernel
theorem dL_count_4 : decode cL_count 4 = .ok (.invokevirtual 52, 3) := by decide +kernel
theorem dL_count_7 : decode cL_count 7 = .ok (.i2l, 1) := by decide +kernel
theorem dL_count_8 : decode cL_count 8 = .ok (.lastore, 1) := by decide +kernel
theorem dL_count_9 : decode cL_count 9 = .ok (.goto 6, 3) := by decide +kernel
theorem dL_count_12 : decode cL_count 12 = .ok (.astore_n 3, 1) := by decide +kernel
theorem dL_count_13 : decode cL_count 13 = .ok (.iconst 1, 1) := by decide +kernel
theorem dL_count_14 : decode cL_count 14 = .ok (.ireturn, 1) := by decide +kernel
theorem dL_count_15 : decode cL_count 15 = .ok (.iconst 0, 1) := by decide +kernel
theorem dL_count_16 : decode cL_count 16 = .ok (.ireturn, 1) := by decide +kernel
set_option maxRecDepth 20000 in
theorem ggL_bears_X4_bears : GoodIn wsL_bears wsX4_bears := goodIn_ca (goodIn_r _ [6, 7, 8, 9, 10, 11, 12, 13, 14, 15, 16, 17, 18, 5, 19, 20, 21, 22, 23, 24, 25, 26, 27, 28, 29, 30, 31, 32, 33, 34, 35, 36, 37, 38, 39, 40, 41, 42, 43, 44, 45, 46, 47, 48, 49, 50, 51] (by decide +kernel) (by decide +kernel)) (goodIn_sub (fun _ h => List.mem_cons_of_mem _ (List.mem_append_right _ h)) (by decide +kernel))
set_option maxRecDepth 20000 in
theorem gL_bears_X4_bears : GoodIn wsL_bears (wsV RL 55 RX4 yX4_bears wsX4_bears) := goodIn_app (goodIn_of _ (by decide +kernel)) ggL_bears_X4_bears
theorem dL_bears_0 : decode cL_bears 0 = .ok (.aload_n 3, 1) := by decide +kernel
theorem dL_bears_1 : decode cL_bears 1 = .ok (.iconst 0, 1) := by decide +kernel
theorem dL_bears_2 : decode cL_bears 2 = .ok (.aload_n 0, 1) := by decide +kernel
theorem dL_bears_3 : decode cL_bears 3 = .ok (.iload_n 1, 1) := by decide +kernel
theorem dL_bears_4 : decode cL_bears 4 = .ok (.iload_n 2, 1) := by decide +kernel
theorem dL_bears_5 : decode cL_bears 5 = .ok (.invokevirtual 55, 3) := by decide +kernel
theorem dL_bears_8 : decode cL_bears 8 = .ok (.i2l, 1) := by decide +kernel
theorem dL_bears_9 : decode cL_bears 9 = .ok (.lastore, 1) := by decide +kernel
theorem dL_bears_10 : decode cL_bears 10 = .ok (.goto 7, 3) := by decide +kernel
theorem dL_bears_13 : decode cL_bears 13 = .ok (.astore 4, 2) := by decide +kernel
theorem dL_bears_15 : decode cL_bears 15 = .ok (.iconst 1, 1) := by decide +kernel
theorem dL_bears_16 : decode cL_bears 16 = .ok (.ireturn, 1) := by decide +kernel
theorem dL_bears_17 : decode cL_bears 17 = .ok (.iconst 0, 1) := by decide +kernel
theorem dL_bears_18 : decode cL_bears 18 = .ok (.ireturn, 1) := by decide +kernel
set_option maxRecDepth 20000 in
theorem ggL_arrives_X4_arrives : GoodIn wsL_arrives wsX4_arrives := goodIn_ca (goodIn_r _ [6, 7, 8, 9, 10, 11, 12, 13, 14, 15, 16, 5, 17, 18, 19, 20, 21, 22, 23, 24, 25, 26, 27, 28, 29, 30, 31, 32, 33, 34, 35, 36, 37, 38, 39, 40, 41, 42, 43, 44, 45, 46, 47, 48, 49, 50, 51, 52, 53, 54, 55, 56, 57, 58, 59, 60, 61, 62, 63, 64, 65, 66, 67, 68, 69, 70, 71, 72, 73, 74, 75, 76, 77, 78, 79, 80, 81, 82, 83, 84, 85, 86, 87, 88, 89, 90, 91, 92, 93, 94, 95, 96, 97, 98, 99, 100, 101, 102, 103, 104, 105, 106, 107, 108, 109, 110, 111, 112, 113, 114, 115, 116, 117, 118, 119, 120, 121, 122, 123, 124, 125, 126, 127, 128, 129, 130, 131, 132, 133, 134, 135] (by decide +kernel) (by decide +kernel)) (goodIn_sub (fun _ h => List.mem_cons_of_mem _ (List.mem_append_right _ h)) (by decide +kernel))
set_option maxRecDepth 20000 in
theorem gL_arrives_X4_arrives : GoodIn wsL_arrives (wsV RL 58 RX4 yX4_arrives wsX4_arrives) := goodIn_app (goodIn_of _ (by decide +kernel)) ggL_arrives_X4_arrives
theorem dL_arrives_0 : decode cL_arrives 0 = .ok (.aload_n 2, 1) := by decide +kernel
theorem dL_arrives_1 : decode cL_arrives 1 = .ok (.iconst 0, 1) := by decide +kernel
theorem dL_arrives_2 : decode cL_arrives 2 = .ok (.aload_n 0, 1) := by decide +kernel
theorem dL_arrives_3 : decode cL_arrives 3 = .ok (.iload_n 1, 1) := by decide +kernel
theorem dL_arrives_4 : decode cL_arrives 4 = .ok (.invokevirtual 58, 3) := by decide +kernel
theorem dL_arrives_7 : decode cL_arrives 7 = .ok (.i2l, 1) := by decide +kernel
theorem dL_arrives_8 : decode cL_arrives 8 = .ok (.lastore, 1) := by decide +kernel
theorem dL_arrives_9 : decode cL_arrives 9 = .ok (.goto 6, 3) := by decide +kernel
theorem dL_arrives_12 : decode cL_arrives 12 = .ok (.astore_n 3, 1) := by decide +kernel
theorem dL_arrives_13 : decode cL_arrives 13 = .ok (.iconst 1, 1) := by decide +kernel
theorem dL_arrives_14 : decode cL_arrives 14 = .ok (.ireturn, 1) := by decide +kernel
theorem dL_arrives_15 : decode cL_arrives 15 = .ok (.iconst 0, 1) := by decide +kernel
theorem dL_arrives_16 : decode cL_arrives 16 = .ok (.ireturn, 1) := by decide +kernel
set_option maxRecDepth 20000 in
theorem ggL_best_X4_best : GoodIn wsL_best wsX4_best := goodIn_ca (goodIn_r _ [6, 7, 8, 9, 10, 11, 12, 13, 14, 15, 16, 5, 17, 18, 19, 20, 21, 22, 23, 24, 25, 26, 27, 28, 29, 30, 31, 32, 33, 34, 35, 36, 37, 38, 39, 40, 41, 42, 43, 44, 45, 46, 47, 48, 49, 50, 51, 52, 53, 54, 55, 56, 57, 58, 59, 60, 61, 62, 63, 64, 65, 66, 67, 68, 69, 70, 71, 72, 73, 74, 75, 76, 77, 78, 79, 80, 81, 82, 83, 84, 85, 86, 87, 88, 89, 90, 91, 92, 93, 94, 95, 96, 97, 98, 99, 100, 101, 102, 103, 104, 105, 106, 107, 108, 109, 110, 111, 112, 113, 114, 115, 116, 117, 118, 119, 120, 121, 122, 123, 124, 125, 126, 127, 128, 129, 130, 131, 132, 133, 134, 135] (by decide +kernel) (by decide +kernel)) (goodIn_sub (fun _ h => List.mem_cons_of_mem _ (List.mem_append_right _ h)) (by decide +kernel))
set_option maxRecDepth 20000 in
theorem gL_best_X4_best : GoodIn wsL_best (wsV RL 61 RX4 yX4_best wsX4_best) := goodIn_app (goodIn_of _ (by decide +kernel)) ggL_best_X4_best
theorem dL_best_0 : decode cL_best 0 = .ok (.aload_n 2, 1) := by decide +kernel
theorem dL_best_1 : decode cL_best 1 = .ok (.iconst 0, 1) := by decide +kernel
theorem dL_best_2 : decode cL_best 2 = .ok (.aload_n 0, 1) := by decide +kernel
theorem dL_best_3 : decode cL_best 3 = .ok (.iload_n 1, 1) := by decide +kernel
theorem dL_best_4 : decode cL_best 4 = .ok (.invokevirtual 61, 3) := by decide +kernel
theorem dL_best_7 : decode cL_best 7 = .ok (.i2l, 1) := by decide +kernel
theorem dL_best_8 : decode cL_best 8 = .ok (.lastore, 1) := by decide +kernel
theorem dL_best_9 : decode cL_best 9 = .ok (.goto 6, 3) := by decide +kernel
theorem dL_best_12 : decode cL_best 12 = .ok (.astore_n 3, 1) := by decide +kernel
theorem dL_best_13 : decode cL_best 13 = .ok (.iconst 1, 1) := by decide +kernel
theorem dL_best_14 : decode cL_best 14 = .ok (.ireturn, 1) := by decide +kernel
theorem dL_best_15 : decode cL_best 15 = .ok (.iconst 0, 1) := by decide +kernel
theorem dL_best_16 : decode cL_best 16 = .ok (.ireturn, 1) := by decide +kernel
set_option maxRecDepth 20000 in
theorem ggL_law_X4_init : GoodIn wsL_law wsX4_init := goodIn_r _ [9, 10, 11, 12, 13, 14, 15, 16, 17, 18, 19, 20, 21, 22, 23, 24, 25, 26, 27, 28, 29, 30, 31, 32, 33, 34, 35, 36, 37, 38, 39, 40, 41, 42, 43, 44, 45, 46, 47, 48, 49, 50, 51, 52, 53, 54, 55, 56, 57, 58, 585, 586, 587, 588, 589, 590, 574, 575, 576, 591, 592, 593, 594, 595, 596, 597, 598, 599, 600, 601, 602, 603, 604, 605] (by decide +kernel) (by decide +kernel)
set_option maxRecDepth 20000 in
theorem gL_law_X4_init : GoodIn wsL_law (wsX4_init) := ggL_law_X4_init
set_option maxRecDepth 20000 in
theorem ggL_law_X6_init : GoodIn wsL_law wsX6_init := goodIn_r _ [61, 62, 11, 12, 26, 63, 64, 65, 66, 67, 68, 69, 70, 71, 72, 73, 74, 75, 76, 77, 78, 79, 80, 81, 82, 83, 577, 578, 579, 580, 581, 582, 583, 584, 606, 607, 608, 609, 610, 611, 612, 613] (by decide +kernel) (by decide +kernel)
set_option maxRecDepth 20000 in
theorem gL_law_X6_init : GoodIn wsL_law (wsX6_init) := ggL_law_X6_init
set_option maxRecDepth 20000 in
theorem ggL_law_L_setWarm : GoodIn wsL_law wsL_setWarm := goodIn_ca (goodIn_ca (goodIn_r _ [87, 88, 89, 90, 91, 92, 2, 93, 94, 95, 96, 97, 16, 98, 99, 100, 574, 575, 576, 585, 586, 587, 588, 589, 590] (by decide +kernel) (by decide +kernel)) (goodIn_sub (fun _ h => List.mem_append_left _ (List.mem_append_left _ (List.mem_append_right _ h))) (by decide +kernel))) (goodIn_sub (fun _ h => List.mem_append_left _ (List.mem_append_right _ h)) (by decide +kernel))
set_option maxRecDepth 20000 in
theorem gL_law_L_setWarm : GoodIn wsL_law (va_wsS RL 68 yL_setWarm wsL_setWarm) := goodIn_app (goodIn_of _ (by decide +kernel)) ggL_law_L_setWarm
set_option maxRecDepth 20000 in
theorem ggL_law_X6_setWarm : GoodIn wsL_law wsX6_setWarm := goodIn_r _ [104, 105, 63, 106, 107, 5, 108, 109, 110, 111, 112, 577, 578, 579, 580, 581, 582, 583, 584] (by decide +kernel) (by decide +kernel)
set_option maxRecDepth 20000 in
theorem gL_law_X6_setWarm : GoodIn wsL_law (wsV RL 73 RX6 yX6_setWarm wsX6_setWarm) := goodIn_app (goodIn_of _ (by decide +kernel)) ggL_law_X6_setWarm
set_option maxRecDepth 20000 in
theorem ggL_law_X6_thrown : GoodIn wsL_law wsX6_thrown := goodIn_r _ [116, 105, 577, 578, 579, 580, 581, 582, 583, 584] (by decide +kernel) (by decide +kernel)
set_option maxRecDepth 20000 in
theorem gL_law_X6_thrown : GoodIn wsL_law (wsV RL 74 RX6 yX6_thrown wsX6_thrown) := goodIn_app (goodIn_of _ (by decide +kernel)) ggL_law_X6_thrown
set_option maxRecDepth 20000 in
theorem ggL_law_L_setIce : GoodIn wsL_law wsL_setIce := goodIn_ca (goodIn_ca (goodIn_r _ [119, 88, 89, 120, 121, 122, 2, 123, 94, 95, 96, 97, 16, 124, 125, 126, 127, 128, 129, 98, 99, 100, 130, 131, 132, 574, 575, 576, 585, 586, 587, 588, 589, 590, 594, 595] (by decide +kernel) (by decide +kernel)) (goodIn_sub (fun _ h => List.mem_append_left _ (List.mem_append_left _ (List.mem_append_right _ h))) (by decide +kernel))) (goodIn_sub (fun _ h => List.mem_append_left _ (List.mem_append_right _ h)) (by decide +kernel))
set_option maxRecDepth 20000 in
theorem gL_law_L_setIce : GoodIn wsL_law (va_wsS RL 78 yL_setIce wsL_setIce) := goodIn_app (goodIn_of _ (by decide +kernel)) ggL_law_L_setIce
set_option maxRecDepth 20000 in
theorem ggL_law_X6_setIce : GoodIn wsL_law wsX6_setIce := goodIn_r _ [136, 105, 70, 137, 138, 5, 139, 106, 107, 108, 109, 110, 111, 112, 577, 578, 579, 580, 581, 582, 583, 584, 606, 607, 608, 609, 610, 611, 612, 613] (by decide +kernel) (by decide +kernel)
set_option maxRecDepth 20000 in
theorem gL_law_X6_setIce : GoodIn wsL_law (wsV RL 81 RX6 yX6_setIce wsX6_setIce) := goodIn_app (goodIn_of _ (by decide +kernel)) ggL_law_X6_setIce
set_option maxRecDepth 20000 in
theorem ggL_law_L_build : GoodIn wsL_law wsL_build := goodIn_ca (goodIn_r _ [142, 88, 143, 144, 145, 2, 146, 94, 95, 16, 127, 128, 129, 98, 99, 100, 147, 15, 148, 149, 28, 574, 575, 576, 585, 586, 587, 588, 589, 590] (by decide +kernel) (by decide +kernel)) (goodIn_sub (fun _ h => List.mem_append_left _ (List.mem_append_left _ (List.mem_append_right _ h))) (by decide +kernel))
set_option maxRecDepth 20000 in
theorem gL_law_L_build : GoodIn wsL_law (va_wsS RL 82 yL_build wsL_build) := goodIn_app (goodIn_of _ (by decide +kernel)) ggL_law_L_build
set_option maxRecDepth 20000 in
theorem ggL_law_X6_build : GoodIn wsL_law wsX6_build := goodIn_r _ [153, 105, 64, 106, 107, 5, 108, 109, 110, 111, 112, 154, 155, 156, 157, 577, 578, 579, 580, 581, 582, 583, 584] (by decide +kernel) (by decide +kernel)
set_option maxRecDepth 20000 in
theorem gL_law_X6_build : GoodIn wsL_law (wsV RL 85 RX6 yX6_build wsX6_build) := goodIn_app (goodIn_of _ (by decide +kernel)) ggL_law_X6_build
set_option maxRecDepth 20000 in
theorem ggL_law_L_place : GoodIn wsL_law wsL_place := goodIn_ca (goodIn_r _ [160, 88, 161, 162, 163, 2, 164, 94, 95, 16, 124, 125, 126, 127, 128, 129, 98, 99, 100, 130, 131, 132, 165, 31, 166, 167, 168, 169, 170, 171, 172, 173, 174, 175, 40, 41, 176, 35, 177, 178, 179, 48, 49, 51, 574, 575, 576, 585, 586, 587, 588, 589, 590, 594, 595, 596, 597, 598, 599, 600, 601, 602, 603, 604, 605] (by decide +kernel) (by decide +kernel)) (goodIn_sub (fun _ h => List.mem_append_left _ (List.mem_append_left _ (List.mem_append_right _ h))) (by decide +kernel))
set_option maxRecDepth 20000 in
theorem gL_law_L_place : GoodIn wsL_law (va_wsS RL 86 yL_place wsL_place) := goodIn_app (goodIn_of _ (by decide +kernel)) ggL_law_L_place
set_option maxRecDepth 20000 in
theorem ggL_law_X6_place : GoodIn wsL_law wsX6_place := goodIn_r _ [183, 105, 137, 138, 5, 139, 106, 107, 108, 184, 185, 186, 187, 70, 26, 188, 189, 190, 69, 191, 79, 192, 193, 194, 195, 196, 169, 170, 171, 197, 198, 199, 200, 77, 78, 109, 110, 111, 112, 577, 578, 579, 580, 581, 582, 583, 584, 606, 607, 608, 609, 610, 611, 612, 613] (by decide +kernel) (by decide +kernel)
set_option maxRecDepth 20000 in
theorem gL_law_X6_place : GoodIn wsL_law (wsV RL 88 RX6 yX6_place wsX6_place) := goodIn_app (goodIn_of _ (by decide +kernel)) ggL_law_X6_place
set_option maxRecDepth 20000 in
theorem ggL_law_L_come : GoodIn wsL_law wsL_come := goodIn_ca (goodIn_ca (goodIn_ca (goodIn_r _ [203, 88, 89, 204, 205, 206, 207, 2, 208, 94, 95, 96, 97, 209, 210, 16, 124, 125, 126, 127, 128, 129, 98, 99, 100, 211, 31, 212, 213, 172, 173, 174, 175, 40, 41, 131, 132, 214, 35, 215, 216, 179, 45, 46, 47, 48, 49, 50, 51, 52, 53, 574, 575, 576, 585, 586, 587, 588, 589, 590, 596, 597, 598, 599, 600, 601, 602, 603, 604, 605, 594, 595] (by decide +kernel) (by decide +kernel)) (goodIn_sub (fun _ h => List.mem_append_left _ (List.mem_append_left _ (List.mem_append_right _ h))) (by decide +kernel))) (goodIn_sub (fun _ h => List.mem_append_left _ (List.mem_append_right _ h)) (by decide +kernel))) (goodIn_sub (fun _ h => List.mem_append_right _ h) (by decide +kernel))
set_option maxRecDepth 20000 in
theorem gL_law_L_come : GoodIn wsL_law (va_wsS RL 89 yL_come wsL_come) := goodIn_app (goodIn_of _ (by decide +kernel)) ggL_law_L_come
set_option maxRecDepth 20000 in
theorem ggL_law_X6_come : GoodIn wsL_law wsX6_come := goodIn_r _ [220, 105, 70, 26, 221, 222, 223, 224, 137, 138, 5, 139, 106, 107, 108, 109, 110, 111, 112, 197, 198, 199, 69, 200, 77, 78, 577, 578, 579, 580, 581, 582, 583, 584, 606, 607, 608, 609, 610, 611, 612, 613] (by decide +kernel) (by decide +kernel)
set_option maxRecDepth 20000 in
theorem gL_law_X6_come : GoodIn wsL_law (wsV RL 92 RX6 yX6_come wsX6_come) := goodIn_app (goodIn_of _ (by decide +kernel)) ggL_law_X6_come
set_option maxRecDepth 20000 in
theorem ggL_law_L_send : GoodIn wsL_law wsL_send := goodIn_ca (goodIn_ca (goodIn_r _ [227, 88, 204, 228, 229, 230, 2, 231, 94, 95, 209, 210, 16, 232, 233, 170, 234, 235, 35, 236, 237, 179, 99, 100, 127, 128, 129, 98, 574, 575, 576, 585, 586, 587, 588, 589, 590, 596, 597, 598, 599, 600, 601, 602, 603, 604, 605] (by decide +kernel) (by decide +kernel)) (goodIn_sub (fun _ h => List.mem_append_left _ (List.mem_append_left _ (List.mem_append_right _ h))) (by decide +kernel))) (goodIn_sub (fun _ h => List.mem_append_right _ h) (by decide +kernel))
set_option maxRecDepth 20000 in
theorem gL_law_L_send : GoodIn wsL_law (va_wsS RL 93 yL_send wsL_send) := goodIn_app (goodIn_of _ (by decide +kernel)) ggL_law_L_send
set_option maxRecDepth 20000 in
theorem ggL_law_X6_send : GoodIn wsL_law wsX6_send := goodIn_r _ [241, 105, 70, 242, 233, 170, 234, 243, 244, 245, 5, 246, 106, 107, 108, 109, 110, 111, 112, 188, 189, 190, 69, 191, 79, 247, 248, 249, 250, 577, 578, 579, 580, 581, 582, 583, 584, 606, 607, 608, 609, 610, 611, 612, 613] (by decide +kernel) (by decide +kernel)
set_option maxRecDepth 20000 in
theorem gL_law_X6_send : GoodIn wsL_law (wsV RL 95 RX6 yX6_send wsX6_send) := goodIn_app (goodIn_of _ (by decide +kernel)) ggL_law_X6_send
set_option maxRecDepth 20000 in
theorem ggL_law_L_load : GoodIn wsL_law wsL_load := goodIn_ca (goodIn_ca (goodIn_ca (goodIn_r _ [253, 88, 89, 204, 254, 255, 256, 2, 257, 94, 95, 96, 97, 209, 210, 16, 235, 35, 236, 237, 179, 99, 100, 98, 258, 15, 259, 260, 36, 32, 211, 31, 212, 213, 172, 173, 174, 175, 40, 41, 131, 132, 574, 575, 576, 585, 586, 587, 588, 589, 590, 596, 597, 598, 599, 600, 601, 602, 603, 604, 605, 594, 595] (by decide +kernel) (by decide +kernel)) (goodIn_sub (fun _ h => List.mem_append_left _ (List.mem_append_left _ (List.mem_append_right _ h))) (by decide +kernel))) (goodIn_sub (fun _ h => List.mem_append_left _ (List.mem_append_right _ h)) (by decide +kernel))) (goodIn_sub (fun _ h => List.mem_append_right _ h) (by decide +kernel))
set_option maxRecDepth 20000 in
theorem gL_law_L_load : GoodIn wsL_law (va_wsS RL 96 yL_load wsL_load) := goodIn_app (goodIn_of _ (by decide +kernel)) ggL_law_L_load
set_option maxRecDepth 20000 in
theorem ggL_law_X6_load : GoodIn wsL_law wsX6_load := goodIn_r _ [264, 105, 70, 243, 244, 245, 5, 246, 106, 107, 108, 109, 110, 111, 112, 188, 189, 190, 69, 191, 79, 197, 198, 199, 200, 77, 78, 247, 248, 249, 250, 577, 578, 579, 580, 581, 582, 583, 584, 606, 607, 608, 609, 610, 611, 612, 613] (by decide +kernel) (by decide +kernel)
set_option maxRecDepth 20000 in
theorem gL_law_X6_load : GoodIn wsL_law (wsV RL 98 RX6 yX6_load wsX6_load) := goodIn_app (goodIn_of _ (by decide +kernel)) ggL_law_X6_load
set_option maxRecDepth 20000 in
theorem ggL_law_L_courier : GoodIn wsL_law wsL_courier := goodIn_ca (goodIn_r _ [267, 88, 268, 269, 270, 2, 271, 94, 95, 16, 235, 35, 236, 237, 179, 99, 100, 98, 272, 273, 274, 45, 46, 47, 48, 49, 50, 51, 52, 53, 574, 575, 576, 585, 586, 587, 588, 589, 590, 596, 597, 598, 599, 600, 601, 602, 603, 604, 605] (by decide +kernel) (by decide +kernel)) (goodIn_sub (fun _ h => List.mem_append_left _ (List.mem_append_left _ (List.mem_append_right _ h))) (by decide +kernel))
set_option maxRecDepth 20000 in
theorem gL_law_L_courier : GoodIn wsL_law (va_wsS RL 99 yL_courier wsL_courier) := goodIn_app (goodIn_of _ (by decide +kernel)) ggL_law_L_courier
set_option maxRecDepth 20000 in
theorem ggL_law_X6_courier : GoodIn wsL_law wsX6_courier := goodIn_r _ [278, 105, 70, 243, 244, 245, 5, 246, 106, 107, 108, 188, 189, 190, 69, 191, 79, 109, 110, 111, 112, 577, 578, 579, 580, 581, 582, 583, 584, 606, 607, 608, 609, 610, 611, 612, 613] (by decide +kernel) (by decide +kernel)
set_option maxRecDepth 20000 in
theorem gL_law_X6_courier : GoodIn wsL_law (wsV RL 101 RX6 yX6_courier wsX6_courier) := goodIn_app (goodIn_of _ (by decide +kernel)) ggL_law_X6_courier
set_option maxRecDepth 20000 in
theorem ggL_law_L_wager : GoodIn wsL_law wsL_wager := goodIn_ca (goodIn_ca (goodIn_r _ [281, 89, 204, 282, 283, 284, 2, 285, 96, 97, 209, 210, 21, 16, 98, 99, 100, 286, 15, 287, 288, 25, 289, 20, 290, 291, 292, 57, 58, 574, 575, 576, 591, 592, 593, 585, 586, 587, 588, 589, 590] (by decide +kernel) (by decide +kernel)) (goodIn_sub (fun _ h => List.mem_append_left _ (List.mem_append_right _ h)) (by decide +kernel))) (goodIn_sub (fun _ h => List.mem_append_right _ h) (by decide +kernel))
set_option maxRecDepth 20000 in
theorem gL_law_L_wager : GoodIn wsL_law (va_wsS RL 102 yL_wager wsL_wager) := goodIn_app (goodIn_of _ (by decide +kernel)) ggL_law_L_wager
set_option maxRecDepth 20000 in
theorem ggL_law_X6_wager : GoodIn wsL_law wsX6_wager := goodIn_r _ [296, 105, 297, 70, 65, 66, 106, 107, 5, 108, 109, 110, 111, 112, 577, 578, 579, 580, 581, 582, 583, 584, 606, 607, 608, 609, 610, 611, 612, 613] (by decide +kernel) (by decide +kernel)
set_option maxRecDepth 20000 in
theorem gL_law_X6_wager : GoodIn wsL_law (wsV RL 104 RX6 yX6_wager wsX6_wager) := goodIn_app (goodIn_of _ (by decide +kernel)) ggL_law_X6_wager
set_option maxRecDepth 20000 in
theorem ggL_law_L_wins : GoodIn wsL_law wsL_wins := goodIn_ca (goodIn_r _ [300, 88, 301, 302, 303, 2, 304, 94, 95, 21, 305, 20, 306, 307, 292, 99, 100, 308, 309, 310, 311, 16, 286, 15, 287, 288, 25, 312, 313, 314, 315, 316, 317, 318, 57, 319, 233, 170, 234, 320, 321, 322, 323, 58, 574, 575, 576, 591, 592, 593, 585, 586, 587, 588, 589, 590] (by decide +kernel) (by decide +kernel)) (goodIn_sub (fun _ h => List.mem_append_left _ (List.mem_append_left _ (List.mem_append_right _ h))) (by decide +kernel))
set_option maxRecDepth 20000 in
theorem gL_law_L_wins : GoodIn wsL_law (va_wsS RL 105 yL_wins wsL_wins) := goodIn_app (goodIn_of _ (by decide +kernel)) ggL_law_L_wins
set_option maxRecDepth 20000 in
theorem ggL_law_X6_wins : GoodIn wsL_law wsX6_wins := goodIn_r _ [327, 105, 297, 106, 107, 5, 108, 328, 329, 330, 331, 70, 65, 242, 233, 170, 234, 332, 333, 334, 335, 66, 109, 110, 111, 112, 577, 578, 579, 580, 581, 582, 583, 584, 606, 607, 608, 609, 610, 611, 612, 613] (by decide +kernel) (by decide +kernel)
set_option maxRecDepth 20000 in
theorem gL_law_X6_wins : GoodIn wsL_law (wsV RL 107 RX6 yX6_wins wsX6_wins) := goodIn_app (goodIn_of _ (by decide +kernel)) ggL_law_X6_wins
set_option maxRecDepth 20000 in
theorem ggL_law_L_pass : GoodIn wsL_law wsL_pass := goodIn_ca (goodIn_r _ [338, 89, 339, 340, 341, 2, 342, 96, 97, 16, 98, 99, 100, 343, 15, 344, 345, 346, 32, 27, 25, 36, 347, 348, 349, 350, 351, 31, 352, 353, 40, 354, 355, 170, 356, 168, 169, 171, 41, 357, 286, 287, 288, 358, 359, 360, 131, 132, 361, 362, 363, 364, 365, 366, 367, 368, 369, 35, 370, 371, 45, 46, 372, 373, 374, 48, 50, 375, 376, 377, 378, 379, 380, 381, 172, 173, 174, 175, 382, 383, 384, 385, 386, 387, 388, 28, 389, 574, 575, 576, 585, 586, 587, 588, 589, 590, 596, 597, 598, 599, 600, 601, 602, 603, 604, 605, 594, 595] (by decide +kernel) (by decide +kernel)) (goodIn_sub (fun _ h => List.mem_append_left _ (List.mem_append_right _ h)) (by decide +kernel))
set_option maxRecDepth 20000 in
theorem gL_law_L_pass : GoodIn wsL_law (va_wsS RL 108 yL_pass wsL_pass) := goodIn_app (goodIn_of _ (by decide +kernel)) ggL_law_L_pass
set_option maxRecDepth 20000 in
theorem ggL_law_X6_pass : GoodIn wsL_law wsX6_pass := goodIn_r _ [393, 105, 70, 106, 107, 5, 108, 109, 110, 111, 112, 394, 395, 396, 69, 397, 398, 399, 74, 400, 355, 170, 356, 401, 402, 403, 404, 77, 405, 169, 171, 78, 406, 407, 408, 409, 76, 410, 189, 190, 191, 79, 411, 412, 413, 414, 415, 416, 417, 418, 419, 420, 198, 199, 200, 421, 422, 423, 424, 425, 248, 249, 250, 577, 578, 579, 580, 581, 582, 583, 584, 606, 607, 608, 609, 610, 611, 612, 613] (by decide +kernel) (by decide +kernel)
set_option maxRecDepth 20000 in
theorem gL_law_X6_pass : GoodIn wsL_law (wsV RL 110 RX6 yX6_pass wsX6_pass) := goodIn_app (goodIn_of _ (by decide +kernel)) ggL_law_X6_pass
set_option maxRecDepth 20000 in
theorem ggL_law_L_count : GoodIn wsL_law wsL_count := goodIn_ca (goodIn_r _ [428, 88, 429, 430, 431, 2, 432, 94, 95, 98, 99, 100, 433, 434, 435, 436, 16, 21, 437, 35, 438, 439, 179, 51, 440, 31, 441, 442, 41, 443, 444, 445, 40, 147, 15, 148, 149, 28, 321, 20, 322, 323, 292, 58, 574, 575, 576, 585, 586, 587, 588, 589, 590, 596, 597, 598, 599, 600, 601, 602, 603, 604, 605, 591, 592, 593, 594, 595] (by decide +kernel) (by decide +kernel)) (goodIn_sub (fun _ h => List.mem_append_left _ (List.mem_append_left _ (List.mem_append_right _ h))) (by decide +kernel))
set_option maxRecDepth 20000 in
theorem gL_law_L_count : GoodIn wsL_law (va_wsS RL 111 yL_count wsL_count) := goodIn_app (goodIn_of _ (by decide +kernel)) ggL_law_L_count
set_option maxRecDepth 20000 in
theorem ggL_law_X6_count : GoodIn wsL_law wsX6_count := goodIn_r _ [449, 105, 106, 107, 5, 108, 450, 451, 452, 453, 26, 70, 297, 188, 189, 190, 69, 191, 79, 154, 155, 156, 157, 64, 332, 333, 334, 335, 66, 109, 110, 111, 112, 577, 578, 579, 580, 581, 582, 583, 584, 606, 607, 608, 609, 610, 611, 612, 613] (by decide +kernel) (by decide +kernel)
set_option maxRecDepth 20000 in
theorem gL_law_X6_count : GoodIn wsL_law (wsV RL 113 RX6 yX6_count wsX6_count) := goodIn_app (goodIn_of _ (by decide +kernel)) ggL_law_X6_count
set_option maxRecDepth 20000 in
theorem ggL_law_L_bears : GoodIn wsL_law wsL_bears := goodIn_ca (goodIn_r _ [456, 88, 457, 458, 459, 2, 460, 94, 95, 16, 461, 355, 170, 356, 462, 169, 171, 127, 128, 129, 98, 99, 100, 463, 31, 464, 465, 168, 354, 466, 165, 166, 167, 172, 173, 174, 175, 40, 41, 131, 132, 574, 575, 576, 585, 586, 587, 588, 589, 590, 594, 595] (by decide +kernel) (by decide +kernel)) (goodIn_sub (fun _ h => List.mem_append_left _ (List.mem_append_left _ (List.mem_append_right _ h))) (by decide +kernel))
set_option maxRecDepth 20000 in
theorem gL_law_L_bears : GoodIn wsL_law (va_wsS RL 114 yL_bears wsL_bears) := goodIn_app (goodIn_of _ (by decide +kernel)) ggL_law_L_bears
set_option maxRecDepth 20000 in
theorem ggL_law_X6_bears : GoodIn wsL_law wsX6_bears := goodIn_r _ [470, 105, 26, 196, 169, 170, 171, 471, 355, 356, 106, 107, 5, 108, 109, 110, 111, 112, 192, 193, 194, 195, 70, 197, 198, 199, 69, 200, 77, 78, 577, 578, 579, 580, 581, 582, 583, 584, 606, 607, 608, 609, 610, 611, 612, 613] (by decide +kernel) (by decide +kernel)
set_option maxRecDepth 20000 in
theorem gL_law_X6_bears : GoodIn wsL_law (wsV RL 116 RX6 yX6_bears wsX6_bears) := goodIn_app (goodIn_of _ (by decide +kernel)) ggL_law_X6_bears
set_option maxRecDepth 20000 in
theorem ggL_law_L_arrives : GoodIn wsL_law wsL_arrives := goodIn_ca (goodIn_r _ [474, 88, 475, 476, 477, 2, 478, 94, 95, 16, 17, 235, 35, 236, 237, 179, 99, 100, 479, 15, 480, 481, 346, 25, 27, 482, 222, 223, 224, 28, 32, 36, 483, 31, 484, 485, 40, 486, 41, 487, 488, 489, 45, 490, 46, 47, 48, 49, 50, 51, 52, 53, 491, 492, 493, 376, 377, 378, 494, 343, 344, 345, 347, 348, 349, 350, 351, 352, 353, 354, 355, 170, 356, 168, 169, 171, 357, 286, 287, 288, 358, 359, 360, 131, 132, 361, 362, 363, 364, 365, 366, 367, 368, 369, 370, 371, 372, 373, 374, 375, 379, 380, 381, 172, 173, 174, 175, 382, 383, 384, 385, 386, 387, 388, 389, 574, 575, 576, 585, 586, 587, 588, 589, 590, 596, 597, 598, 599, 600, 601, 602, 603, 604, 605, 594, 595] (by decide +kernel) (by decide +kernel)) (goodIn_sub (fun _ h => List.mem_append_left _ (List.mem_append_left _ (List.mem_append_right _ h))) (by decide +kernel))
set_option maxRecDepth 20000 in
theorem gL_law_L_arrives : GoodIn wsL_law (va_wsS RL 117 yL_arrives wsL_arrives) := goodIn_app (goodIn_of _ (by decide +kernel)) ggL_law_L_arrives
set_option maxRecDepth 20000 in
theorem ggL_law_X6_arrives : GoodIn wsL_law wsX6_arrives := goodIn_r _ [498, 105, 71, 70, 243, 244, 245, 5, 246, 106, 107, 108, 109, 110, 111, 112, 499, 500, 501, 69, 502, 398, 399, 76, 415, 77, 78, 79, 503, 504, 505, 506, 507, 222, 223, 224, 508, 509, 510, 511, 188, 189, 190, 191, 394, 395, 396, 397, 74, 400, 355, 170, 356, 401, 402, 403, 404, 405, 169, 171, 406, 407, 408, 409, 410, 411, 412, 413, 414, 416, 417, 418, 419, 420, 198, 199, 200, 421, 422, 423, 424, 425, 248, 249, 250, 577, 578, 579, 580, 581, 582, 583, 584, 606, 607, 608, 609, 610, 611, 612, 613] (by decide +kernel) (by decide +kernel)
set_option maxRecDepth 20000 in
theorem gL_law_X6_arrives : GoodIn wsL_law (wsV RL 119 RX6 yX6_arrives wsX6_arrives) := goodIn_app (goodIn_of _ (by decide +kernel)) ggL_law_X6_arrives
set_option maxRecDepth 20000 in
theorem ggL_law_L_best : GoodIn wsL_law wsL_best := goodIn_ca (goodIn_r _ [514, 88, 515, 516, 517, 2, 518, 94, 95, 16, 17, 235, 35, 236, 237, 179, 99, 100, 479, 15, 480, 481, 346, 25, 27, 482, 222, 223, 224, 28, 32, 36, 483, 31, 484, 485, 40, 486, 41, 487, 488, 489, 45, 490, 46, 47, 48, 49, 50, 51, 52, 53, 491, 492, 493, 376, 377, 378, 494, 343, 344, 345, 347, 348, 349, 350, 351, 352, 353, 354, 355, 170, 356, 168, 169, 171, 357, 286, 287, 288, 358, 359, 360, 131, 132, 361, 362, 363, 364, 365, 366, 367, 368, 369, 370, 371, 372, 373, 374, 375, 379, 380, 381, 172, 173, 174, 175, 382, 383, 384, 385, 386, 387, 388, 389, 574, 575, 576, 585, 586, 587, 588, 589, 590, 596, 597, 598, 599, 600, 601, 602, 603, 604, 605, 594, 595] (by decide +kernel) (by decide +kernel)) (goodIn_sub (fun _ h => List.mem_append_left _ (List.mem_append_left _ (List.mem_append_right _ h))) (by decide +kernel))
set_option maxRecDepth 20000 in
theorem gL_law_L_best : GoodIn wsL_law (va_wsS RL 120 yL_best wsL_best) := goodIn_app (goodIn_of _ (by decide +kernel)) ggL_law_L_best
set_option maxRecDepth 20000 in
theorem ggL_law_X6_best : GoodIn wsL_law wsX6_best := goodIn_r _ [522, 105, 71, 70, 243, 244, 245, 5, 246, 106, 107, 108, 109, 110, 111, 112, 499, 500, 501, 69, 502, 398, 399, 76, 415, 77, 78, 79, 503, 504, 505, 506, 507, 222, 223, 224, 247, 248, 249, 250, 508, 509, 510, 511, 188, 189, 190, 191, 394, 395, 396, 397, 74, 400, 355, 170, 356, 401, 402, 403, 404, 405, 169, 171, 406, 407, 408, 409, 410, 411, 412, 413, 414, 416, 417, 418, 419, 420, 198, 199, 200, 421, 422, 423, 424, 425, 577, 578, 579, 580, 581, 582, 583, 584, 606, 607, 608, 609, 610, 611, 612, 613] (by decide +kernel) (by decide +kernel)
set_option maxRecDepth 20000 in
theorem gL_law_X6_best : GoodIn wsL_law (wsV RL 122 RX6 yX6_best wsX6_best) := goodIn_app (goodIn_of _ (by decide +kernel)) ggL_law_X6_best
set_option maxRecDepth 20000 in
theorem ggL_law_X4_thaw : GoodIn wsL_law wsX4_thaw := goodIn_r _ [526, 16, 17, 286, 15, 287, 288, 25, 479, 480, 481, 346, 27, 482, 222, 223, 224, 28, 32, 36, 483, 31, 484, 485, 40, 486, 41, 487, 35, 488, 489, 179, 45, 490, 46, 47, 48, 49, 50, 51, 52, 53, 527, 528, 529, 357, 494, 343, 344, 345, 347, 348, 349, 350, 351, 352, 353, 354, 355, 170, 356, 168, 169, 171, 358, 359, 360, 131, 2, 132, 361, 362, 363, 364, 365, 366, 367, 368, 369, 370, 371, 372, 373, 374, 375, 376, 377, 378, 379, 380, 381, 172, 173, 174, 175, 382, 383, 384, 385, 386, 387, 388, 389, 574, 575, 576, 585, 586, 587, 588, 589, 590, 594, 595, 596, 597, 598, 599, 600, 601, 602, 603, 604, 605] (by decide +kernel) (by decide +kernel)
set_option maxRecDepth 20000 in
theorem gL_law_X4_thaw : GoodIn wsL_law (wsV RL 123 RX4 yX4_thaw wsX4_thaw) := goodIn_app (goodIn_of _ (by decide +kernel)) ggL_law_X4_thaw
set_option maxRecDepth 20000 in
theorem ggL_law_X6_thaw : GoodIn wsL_law wsX6_thaw := goodIn_r _ [533, 105, 71, 70, 499, 500, 501, 69, 502, 398, 399, 76, 415, 77, 78, 79, 503, 504, 505, 506, 507, 222, 223, 224, 394, 395, 396, 397, 74, 400, 355, 170, 356, 401, 402, 403, 404, 405, 169, 171, 406, 407, 408, 409, 410, 189, 190, 191, 411, 412, 413, 414, 416, 417, 418, 419, 420, 198, 199, 200, 421, 422, 423, 424, 425, 248, 249, 250, 577, 578, 579, 580, 581, 582, 583, 584, 606, 607, 608, 609, 610, 611, 612, 613] (by decide +kernel) (by decide +kernel)
set_option maxRecDepth 20000 in
theorem gL_law_X6_thaw : GoodIn wsL_law (wsV RL 126 RX6 yX6_thaw wsX6_thaw) := goodIn_app (goodIn_of _ (by decide +kernel)) ggL_law_X6_thaw
set_option maxRecDepth 20000 in
theorem ggL_law_X4_mean : GoodIn wsL_law wsX4_mean := goodIn_r _ [537, 16, 538, 539, 31, 540, 541, 40, 574, 575, 576, 585, 586, 587, 588, 589, 590, 594, 595] (by decide +kernel) (by decide +kernel)
set_option maxRecDepth 20000 in
theorem gL_law_X4_mean : GoodIn wsL_law (wsV RL 127 RX4 yX4_mean wsX4_mean) := goodIn_app (goodIn_of _ (by decide +kernel)) ggL_law_X4_mean
set_option maxRecDepth 20000 in
theorem ggL_law_X6_mean : GoodIn wsL_law wsX6_mean := goodIn_r _ [545, 105, 70, 546, 577, 578, 579, 580, 581, 582, 583, 584, 606, 607, 608, 609, 610, 611, 612, 613] (by decide +kernel) (by decide +kernel)
set_option maxRecDepth 20000 in
theorem gL_law_X6_mean : GoodIn wsL_law (wsV RL 131 RX6 yX6_mean wsX6_mean) := goodIn_app (goodIn_of _ (by decide +kernel)) ggL_law_X6_mean
set_option maxRecDepth 20000 in
theorem ggL_law_X4_digest : GoodIn wsL_law wsX4_digest := goodIn_r _ [550, 551, 433, 434, 435, 2, 436, 16, 21, 437, 35, 438, 439, 179, 51, 440, 31, 441, 442, 41, 443, 444, 445, 40, 147, 15, 148, 149, 28, 321, 20, 322, 323, 292, 58, 552, 553, 554, 555, 556, 557, 558, 559, 560, 561, 562, 563, 272, 273, 274, 45, 46, 47, 48, 49, 50, 52, 53, 564, 565, 566, 567, 308, 309, 310, 311, 286, 287, 288, 25, 312, 313, 314, 315, 316, 317, 318, 57, 319, 233, 170, 234, 320, 574, 575, 576, 585, 586, 587, 588, 589, 590, 596, 597, 598, 599, 600, 601, 602, 603, 604, 605, 591, 592, 593, 594, 595] (by decide +kernel) (by decide +kernel)
set_option maxRecDepth 20000 in
theorem gL_law_X4_digest : GoodIn wsL_law (wsV RL 132 RX4 yX4_digest wsX4_digest) := goodIn_app (goodIn_of _ (by decide +kernel)) ggL_law_X4_digest
set_option maxRecDepth 20000 in
theorem ggL_law_X6_digest : GoodIn wsL_law wsX6_digest := goodIn_r _ [571, 105, 572, 573, 63, 70, 64, 297, 65, 66, 450, 451, 452, 5, 453, 26, 188, 189, 190, 69, 191, 79, 154, 155, 156, 157, 332, 333, 334, 335, 328, 329, 330, 331, 242, 233, 170, 234, 577, 578, 579, 580, 581, 582, 583, 584, 606, 607, 608, 609, 610, 611, 612, 613] (by decide +kernel) (by decide +kernel)
set_option maxRecDepth 20000 in
theorem gL_law_X6_digest : GoodIn wsL_law (wsV RL 136 RX6 yX6_digest wsX6_digest) := goodIn_app (goodIn_of _ (by decide +kernel)) ggL_law_X6_digest
theorem dL_law_0 : decode cL_law 0 = .ok (.new 8, 3) := by decide +kernel
theorem dL_law_3 : decode cL_law 3 = .ok (.dup, 1) := by decide +kernel
theorem dL_law_4 : decode cL_law 4 = .ok (.invokespecial 64, 3) := by decide +kernel
theorem dL_law_7 : decode cL_law 7 = .ok (.astore_n 1, 1) := by decide +kernel
theorem dL_law_8 : decode cL_law 8 = .ok (.new 65, 3) := by decide +kernel
theorem dL_law_11 : decode cL_law 11 = .ok (.dup, 1) := by decide +kernel
theorem dL_law_12 : decode cL_law 12 = .ok (.invokespecial 67, 3) := by decide +kernel
theorem dL_law_15 : decode cL_law 15 = .ok (.astore_n 2, 1) := by decide +kernel
theorem dL_law_16 : decode cL_law 16 = .ok (.iconst 1, 1) := by decide +kernel
theorem dL_law_17 : decode cL_law 17 = .ok (.newarray .long, 2) := by decide +kernel
theorem dL_law_19 : decode cL_law 19 = .ok (.astore_n 3, 1) := by decide +kernel
theorem dL_law_20 : decode cL_law 20 = .ok (.iconst 0, 1) := by decide +kernel
theorem dL_law_21 : decode cL_law 21 = .ok (.istore 4, 2) := by decide +kernel
theorem dL_law_23 : decode cL_law 23 = .ok (.iload 4, 2) := by decide +kernel
theorem dL_law_25 : decode cL_law 25 = .ok (.aload_n 0, 1) := by decide +kernel
theorem dL_law_26 : decode cL_law 26 = .ok (.arraylength, 1) := by decide +kernel
theorem dL_law_27 : decode cL_law 27 = .ok (.bipush 6, 2) := by decide +kernel
theorem dL_law_29 : decode cL_law 29 = .ok (.isub, 1) := by decide +kernel
theorem dL_law_30 : decode cL_law 30 = .ok (.if_icmp .gt 1196, 3) := by decide +kernel
theorem dL_law_33 : decode cL_law 33 = .ok (.aload_n 0, 1) := by decide +kernel
theorem dL_law_34 : decode cL_law 34 = .ok (.iload 4, 2) := by decide +kernel
theorem dL_law_36 : decode cL_law 36 = .ok (.iaload, 1) := by decide +kernel
theorem dL_law_37 : decode cL_law 37 = .ok (.bipush 31, 2) := by decide +kernel
theorem dL_law_39 : decode cL_law 39 = .ok (.iand, 1) := by decide +kernel
theorem dL_law_40 : decode cL_law 40 = .ok (.tableswitch 1180 0 17 #[88, 156, 236, 292, 372, 492, 560, 628, 696, 764, 820, 876, 932, 1000, 1056, 1112, 1125, 1166], 88) := by decide +kernel
theorem dL_law_128 : decode cL_law 128 = .ok (.aload_n 1, 1) := by decide +kernel
theorem dL_law_129 : decode cL_law 129 = .ok (.aload_n 0, 1) := by decide +kernel
theorem dL_law_130 : decode cL_law 130 = .ok (.iload 4, 2) := by decide +kernel
theorem dL_law_132 : decode cL_law 132 = .ok (.iconst 1, 1) := by decide +kernel
theorem dL_law_133 : decode cL_law 133 = .ok (.iadd, 1) := by decide +kernel
theorem dL_law_134 : decode cL_law 134 = .ok (.iaload, 1) := by decide +kernel
theorem dL_law_135 : decode cL_law 135 = .ok (.aload_n 0, 1) := by decide +kernel
theorem dL_law_136 : decode cL_law 136 = .ok (.iload 4, 2) := by decide +kernel
theorem dL_law_138 : decode cL_law 138 = .ok (.iconst 2, 1) := by decide +kernel
theorem dL_law_139 : decode cL_law 139 = .ok (.iadd, 1) := by decide +kernel
theorem dL_law_140 : decode cL_law 140 = .ok (.iaload, 1) := by decide +kernel
theorem dL_law_141 : decode cL_law 141 = .ok (.aload_n 3, 1) := by decide +kernel
theorem dL_law_142 : decode cL_law 142 = .ok (.invokestatic 68, 3) := by decide +kernel
theorem dL_law_145 : decode cL_law 145 = .ok (.istore 5, 2) := by decide +kernel
theorem dL_law_147 : decode cL_law 147 = .ok (.aload_n 2, 1) := by decide +kernel
theorem dL_law_148 : decode cL_law 148 = .ok (.aload_n 0, 1) := by decide +kernel
theorem dL_law_149 : decode cL_law 149 = .ok (.iload 4, 2) := by decide +kernel
theorem dL_law_151 : decode cL_law 151 = .ok (.iconst 1, 1) := by decide +kernel
theorem dL_law_152 : decode cL_law 152 = .ok (.iadd, 1) := by decide +kernel
theorem dL_law_153 : decode cL_law 153 = .ok (.iaload, 1) := by decide +kernel
theorem dL_law_154 : decode cL_law 154 = .ok (.aload_n 0, 1) := by decide +kernel
theorem dL_law_155 : decode cL_law 155 = .ok (.iload 4, 2) := by decide +kernel
theorem dL_law_157 : decode cL_law 157 = .ok (.iconst 2, 1) := by decide +kernel
theorem dL_law_158 : decode cL_law 158 = .ok (.iadd, 1) := by decide +kernel
theorem dL_law_159 : decode cL_law 159 = .ok (.iaload, 1) := by decide +kernel
theorem dL_law_160 : decode cL_law 160 = .ok (.invokevirtual 73, 3) := by decide +kernel
theorem dL_law_163 : decode cL_law 163 = .ok (.istore 6, 2) := by decide +kernel
theorem dL_law_165 : decode cL_law 165 = .ok (.aload_n 2, 1) := by decide +kernel
theorem dL_law_166 : decode cL_law 166 = .ok (.invokevirtual 74, 3) := by decide +kernel
theorem dL_law_169 : decode cL_law 169 = .ok (.iload 5, 2) := by decide +kernel
theorem dL_law_171 : decode cL_law 171 = .ok (.if_icmp .eq 5, 3) := by decide +kernel
theorem dL_law_174 : decode cL_law 174 = .ok (.iconst 0, 1) := by decide +kernel
theorem dL_law_175 : decode cL_law 175 = .ok (.ireturn, 1) := by decide +kernel
theorem dL_law_176 : decode cL_law 176 = .ok (.iload 5, 2) := by decide +kernel
theorem dL_law_178 : decode cL_law 178 = .ok (.ifCond .ne 15, 3) := by decide +kernel
theorem dL_law_181 : decode cL_law 181 = .ok (.aload_n 3, 1) := by decide +kernel
theorem dL_law_182 : decode cL_law 182 = .ok (.iconst 0, 1) := by decide +kernel
theorem dL_law_183 : decode cL_law 183 = .ok (.laload, 1) := by decide +kernel
theorem dL_law_184 : decode cL_law 184 = .ok (.iload 6, 2) := by decide +kernel
theorem dL_law_186 : decode cL_law 186 = .ok (.i2l, 1) := by decide +kernel
theorem dL_law_187 : decode cL_law 187 = .ok (.lcmp, 1) := by decide +kernel
theorem dL_law_188 : decode cL_law 188 = .ok (.ifCond .eq 5, 3) := by decide +kernel
theorem dL_law_191 : decode cL_law 191 = .ok (.iconst 0, 1) := by decide +kernel
theorem dL_law_192 : decode cL_law 192 = .ok (.ireturn, 1) := by decide +kernel
theorem dL_law_193 : decode cL_law 193 = .ok (.goto 1027, 3) := by decide +kernel
theorem dL_law_196 : decode cL_law 196 = .ok (.aload_n 1, 1) := by decide +kernel
theorem dL_law_197 : decode cL_law 197 = .ok (.aload_n 0, 1) := by decide +kernel
theorem dL_law_198 : decode cL_law 198 = .ok (.iload 4, 2) := by decide +kernel
theorem dL_law_200 : decode cL_law 200 = .ok (.iconst 1, 1) := by decide +kernel
theorem dL_law_201 : decode cL_law 201 = .ok (.iadd, 1) := by decide +kernel
theorem dL_law_202 : decode cL_law 202 = .ok (.iaload, 1) := by decide +kernel
theorem dL_law_203 : decode cL_law 203 = .ok (.aload_n 0, 1) := by decide +kernel
theorem dL_law_204 : decode cL_law 204 = .ok (.iload 4, 2) := by decide +kernel
theorem dL_law_206 : decode cL_law 206 = .ok (.iconst 2, 1) := by decide +kernel
theorem dL_law_207 : decode cL_law 207 = .ok (.iadd, 1) := by decide +kernel
theorem dL_law_208 : decode cL_law 208 = .ok (.iaload, 1) := by decide +kernel
theorem dL_law_209 : decode cL_law 209 = .ok (.aload_n 0, 1) := by decide +kernel
theorem dL_law_210 : decode cL_law 210 = .ok (.iload 4, 2) := by decide +kernel
theorem dL_law_212 : decode cL_law 212 = .ok (.iconst 3, 1) := by decide +kernel
theorem dL_law_213 : decode cL_law 213 = .ok (.iadd, 1) := by decide +kernel
theorem dL_law_214 : decode cL_law 214 = .ok (.iaload, 1) := by decide +kernel
theorem dL_law_215 : decode cL_law 215 = .ok (.aload_n 3, 1) := by decide +kernel
theorem dL_law_216 : decode cL_law 216 = .ok (.invokestatic 78, 3) := by decide +kernel
theorem dL_law_219 : decode cL_law 219 = .ok (.istore 5, 2) := by decide +kernel
theorem dL_law_221 : decode cL_law 221 = .ok (.aload_n 2, 1) := by decide +kernel
theorem dL_law_222 : decode cL_law 222 = .ok (.aload_n 0, 1) := by decide +kernel
theorem dL_law_223 : decode cL_law 223 = .ok (.iload 4, 2) := by decide +kernel
theorem dL_law_225 : decode cL_law 225 = .ok (.iconst 1, 1) := by decide +kernel
theorem dL_law_226 : decode cL_law 226 = .ok (.iadd, 1) := by decide +kernel
theorem dL_law_227 : decode cL_law 227 = .ok (.iaload, 1) := by decide +kernel
theorem dL_law_228 : decode cL_law 228 = .ok (.aload_n 0, 1) := by decide +kernel
theorem dL_law_229 : decode cL_law 229 = .ok (.iload 4, 2) := by decide +kernel
theorem dL_law_231 : decode cL_law 231 = .ok (.iconst 2, 1) := by decide +kernel
theorem dL_law_232 : decode cL_law 232 = .ok (.iadd, 1) := by decide +kernel
theorem dL_law_233 : decode cL_law 233 = .ok (.iaload, 1) := by decide +kernel
theorem dL_law_234 : decode cL_law 234 = .ok (.aload_n 0, 1) := by decide +kernel
theorem dL_law_235 : decode cL_law 235 = .ok (.iload 4, 2) := by decide +kernel
theorem dL_law_237 : decode cL_law 237 = .ok (.iconst 3, 1) := by decide +kernel
theorem dL_law_238 : decode cL_law 238 = .ok (.iadd, 1) := by decide +kernel
theorem dL_law_239 : decode cL_law 239 = .ok (.iaload, 1) := by decide +kernel
theorem dL_law_240 : decode cL_law 240 = .ok (.invokevirtual 81, 3) := by decide +kernel
theorem dL_law_243 : decode cL_law 243 = .ok (.istore 6, 2) := by decide +kernel
theorem dL_law_245 : decode cL_law 245 = .ok (.aload_n 2, 1) := by decide +kernel
theorem dL_law_246 : decode cL_law 246 = .ok (.invokevirtual 74, 3) := by decide +kernel
theorem dL_law_249 : decode cL_law 249 = .ok (.iload 5, 2) := by decide +kernel
theorem dL_law_251 : decode cL_law 251 = .ok (.if_icmp .eq 5, 3) := by decide +kernel
theorem dL_law_254 : decode cL_law 254 = .ok (.iconst 0, 1) := by decide +kernel
theorem dL_law_255 : decode cL_law 255 = .ok (.ireturn, 1) := by decide +kernel
theorem dL_law_256 : decode cL_law 256 = .ok (.iload 5, 2) := by decide +kernel
theorem dL_law_258 : decode cL_law 258 = .ok (.ifCond .ne 15, 3) := by decide +kernel
theorem dL_law_261 : decode cL_law 261 = .ok (.aload_n 3, 1) := by decide +kernel
theorem dL_law_262 : decode cL_law 262 = .ok (.iconst 0, 1) := by decide +kernel
theorem dL_law_263 : decode cL_law 263 = .ok (.laload, 1) := by decide +kernel
theorem dL_law_264 : decode cL_law 264 = .ok (.iload 6, 2) := by decide +kernel
theorem dL_law_266 : decode cL_law 266 = .ok (.i2l, 1) := by decide +kernel
theorem dL_law_267 : decode cL_law 267 = .ok (.lcmp, 1) := by decide +kernel
theorem dL_law_268 : decode cL_law 268 = .ok (.ifCond .eq 5, 3) := by decide +kernel
theorem dL_law_271 : decode cL_law 271 = .ok (.iconst 0, 1) := by decide +kernel
theorem dL_law_272 : decode cL_law 272 = .ok (.ireturn, 1) := by decide +kernel
theorem dL_law_273 : decode cL_law 273 = .ok (.goto 947, 3) := by decide +kernel
theorem dL_law_276 : decode cL_law 276 = .ok (.aload_n 1, 1) := by decide +kernel
theorem dL_law_277 : decode cL_law 277 = .ok (.aload_n 0, 1) := by decide +kernel
theorem dL_law_278 : decode cL_law 278 = .ok (.iload 4, 2) := by decide +kernel
theorem dL_law_280 : decode cL_law 280 = .ok (.iconst 1, 1) := by decide +kernel
theorem dL_law_281 : decode cL_law 281 = .ok (.iadd, 1) := by decide +kernel
theorem dL_law_282 : decode cL_law 282 = .ok (.iaload, 1) := by decide +kernel
theorem dL_law_283 : decode cL_law 283 = .ok (.aload_n 3, 1) := by decide +kernel
theorem dL_law_284 : decode cL_law 284 = .ok (.invokestatic 82, 3) := by decide +kernel
theorem dL_law_287 : decode cL_law 287 = .ok (.istore 5, 2) := by decide +kernel
theorem dL_law_289 : decode cL_law 289 = .ok (.aload_n 2, 1) := by decide +kernel
theorem dL_law_290 : decode cL_law 290 = .ok (.aload_n 0, 1) := by decide +kernel
theorem dL_law_291 : decode cL_law 291 = .ok (.iload 4, 2) := by decide +kernel
theorem dL_law_293 : decode cL_law 293 = .ok (.iconst 1, 1) := by decide +kernel
theorem dL_law_294 : decode cL_law 294 = .ok (.iadd, 1) := by decide +kernel
theorem dL_law_295 : decode cL_law 295 = .ok (.iaload, 1) := by decide +kernel
theorem dL_law_296 : decode cL_law 296 = .ok (.invokevirtual 85, 3) := by decide +kernel
theorem dL_law_299 : decode cL_law 299 = .ok (.istore 6, 2) := by decide +kernel
theorem dL_law_301 : decode cL_law 301 = .ok (.aload_n 2, 1) := by decide +kernel
theorem dL_law_302 : decode cL_law 302 = .ok (.invokevirtual 74, 3) := by decide +kernel
theorem dL_law_305 : decode cL_law 305 = .ok (.iload 5, 2) := by decide +kernel
theorem dL_law_307 : decode cL_law 307 = .ok (.if_icmp .eq 5, 3) := by decide +kernel
theorem dL_law_310 : decode cL_law 310 = .ok (.iconst 0, 1) := by decide +kernel
theorem dL_law_311 : decode cL_law 311 = .ok (.ireturn, 1) := by decide +kernel
theorem dL_law_312 : decode cL_law 312 = .ok (.iload 5, 2) := by decide +kernel
theorem dL_law_314 : decode cL_law 314 = .ok (.ifCond .ne 15, 3) := by decide +kernel
theorem dL_law_317 : decode cL_law 317 = .ok (.aload_n 3, 1) := by decide +kernel
theorem dL_law_318 : decode cL_law 318 = .ok (.iconst 0, 1) := by decide +kernel
theorem dL_law_319 : decode cL_law 319 = .ok (.laload, 1) := by decide +kernel
theorem dL_law_320 : decode cL_law 320 = .ok (.iload 6, 2) := by decide +kernel
theorem dL_law_322 : decode cL_law 322 = .ok (.i2l, 1) := by decide +kernel
theorem dL_law_323 : decode cL_law 323 = .ok (.lcmp, 1) := by decide +kernel
theorem dL_law_324 : decode cL_law 324 = .ok (.ifCond .eq 5, 3) := by decide +kernel
theorem dL_law_327 : decode cL_law 327 = .ok (.iconst 0, 1) := by decide +kernel
theorem dL_law_328 : decode cL_law 328 = .ok (.ireturn, 1) := by decide +kernel
theorem dL_law_329 : decode cL_law 329 = .ok (.goto 891, 3) := by decide +kernel
theorem dL_law_332 : decode cL_law 332 = .ok (.aload_n 1, 1) := by decide +kernel
theorem dL_law_333 : decode cL_law 333 = .ok (.aload_n 0, 1) := by decide +kernel
theorem dL_law_334 : decode cL_law 334 = .ok (.iload 4, 2) := by decide +kernel
theorem dL_law_336 : decode cL_law 336 = .ok (.iconst 1, 1) := by decide +kernel
theorem dL_law_337 : decode cL_law 337 = .ok (.iadd, 1) := by decide +kernel
theorem dL_law_338 : decode cL_law 338 = .ok (.iaload, 1) := by decide +kernel
theorem dL_law_339 : decode cL_law 339 = .ok (.aload_n 0, 1) := by decide +kernel
theorem dL_law_340 : decode cL_law 340 = .ok (.iload 4, 2) := by decide +kernel
theorem dL_law_342 : decode cL_law 342 = .ok (.iconst 2, 1) := by decide +kernel
theorem dL_law_343 : decode cL_law 343 = .ok (.iadd, 1) := by decide +kernel
theorem dL_law_344 : decode cL_law 344 = .ok (.iaload, 1) := by decide +kernel
theorem dL_law_345 : decode cL_law 345 = .ok (.aload_n 0, 1) := by decide +kernel
theorem dL_law_346 : decode cL_law 346 = .ok (.iload 4, 2) := by decide +kernel
theorem dL_law_348 : decode cL_law 348 = .ok (.iconst 3, 1) := by decide +kernel
theorem dL_law_349 : decode cL_law 349 = .ok (.iadd, 1) := by decide +kernel
theorem dL_law_350 : decode cL_law 350 = .ok (.iaload, 1) := by decide +kernel
theorem dL_law_351 : decode cL_law 351 = .ok (.aload_n 3, 1) := by decide +kernel
theorem dL_law_352 : decode cL_law 352 = .ok (.invokestatic 86, 3) := by decide +kernel
theorem dL_law_355 : decode cL_law 355 = .ok (.istore 5, 2) := by decide +kernel
theorem dL_law_357 : decode cL_law 357 = .ok (.aload_n 2, 1) := by decide +kernel
theorem dL_law_358 : decode cL_law 358 = .ok (.aload_n 0, 1) := by decide +kernel
theorem dL_law_359 : decode cL_law 359 = .ok (.iload 4, 2) := by decide +kernel
theorem dL_law_361 : decode cL_law 361 = .ok (.iconst 1, 1) := by decide +kernel
theorem dL_law_362 : decode cL_law 362 = .ok (.iadd, 1) := by decide +kernel
theorem dL_law_363 : decode cL_law 363 = .ok (.iaload, 1) := by decide +kernel
theorem dL_law_364 : decode cL_law 364 = .ok (.aload_n 0, 1) := by decide +kernel
theorem dL_law_365 : decode cL_law 365 = .ok (.iload 4, 2) := by decide +kernel
theorem dL_law_367 : decode cL_law 367 = .ok (.iconst 2, 1) := by decide +kernel
theorem dL_law_368 : decode cL_law 368 = .ok (.iadd, 1) := by decide +kernel
theorem dL_law_369 : decode cL_law 369 = .ok (.iaload, 1) := by decide +kernel
theorem dL_law_370 : decode cL_law 370 = .ok (.aload_n 0, 1) := by decide +kernel
theorem dL_law_371 : decode cL_law 371 = .ok (.iload 4, 2) := by decide +kernel
theorem dL_law_373 : decode cL_law 373 = .ok (.iconst 3, 1) := by decide +kernel
theorem dL_law_374 : decode cL_law 374 = .ok (.iadd, 1) := by decide +kernel
theorem dL_law_375 : decode cL_law 375 = .ok (.iaload, 1) := by decide +kernel
theorem dL_law_376 : decode cL_law 376 = .ok (.invokevirtual 88, 3) := by decide +kernel
theorem dL_law_379 : decode cL_law 379 = .ok (.istore 6, 2) := by decide +kernel
theorem dL_law_381 : decode cL_law 381 = .ok (.aload_n 2, 1) := by decide +kernel
theorem dL_law_382 : decode cL_law 382 = .ok (.invokevirtual 74, 3) := by decide +kernel
theorem dL_law_385 : decode cL_law 385 = .ok (.iload 5, 2) := by decide +kernel
theorem dL_law_387 : decode cL_law 387 = .ok (.if_icmp .eq 5, 3) := by decide +kernel
theorem dL_law_390 : decode cL_law 390 = .ok (.iconst 0, 1) := by decide +kernel
theorem dL_law_391 : decode cL_law 391 = .ok (.ireturn, 1) := by decide +kernel
theorem dL_law_392 : decode cL_law 392 = .ok (.iload 5, 2) := by decide +kernel
theorem dL_law_394 : decode cL_law 394 = .ok (.ifCond .ne 15, 3) := by decide +kernel
theorem dL_law_397 : decode cL_law 397 = .ok (.aload_n 3, 1) := by decide +kernel
theorem dL_law_398 : decode cL_law 398 = .ok (.iconst 0, 1) := by decide +kernel
theorem dL_law_399 : decode cL_law 399 = .ok (.laload, 1) := by decide +kernel
theorem dL_law_400 : decode cL_law 400 = .ok (.iload 6, 2) := by decide +kernel
theorem dL_law_402 : decode cL_law 402 = .ok (.i2l, 1) := by decide +kernel
theorem dL_law_403 : decode cL_law 403 = .ok (.lcmp, 1) := by decide +kernel
theorem dL_law_404 : decode cL_law 404 = .ok (.ifCond .eq 5, 3) := by decide +kernel
theorem dL_law_407 : decode cL_law 407 = .ok (.iconst 0, 1) := by decide +kernel
theorem dL_law_408 : decode cL_law 408 = .ok (.ireturn, 1) := by decide +kernel
theorem dL_law_409 : decode cL_law 409 = .ok (.goto 811, 3) := by decide +kernel
theorem dL_law_412 : decode cL_law 412 = .ok (.aload_n 1, 1) := by decide +kernel
theorem dL_law_413 : decode cL_law 413 = .ok (.aload_n 0, 1) := by decide +kernel
theorem dL_law_414 : decode cL_law 414 = .ok (.iload 4, 2) := by decide +kernel
theorem dL_law_416 : decode cL_law 416 = .ok (.iconst 1, 1) := by decide +kernel
theorem dL_law_417 : decode cL_law 417 = .ok (.iadd, 1) := by decide +kernel
theorem dL_law_418 : decode cL_law 418 = .ok (.iaload, 1) := by decide +kernel
theorem dL_law_419 : decode cL_law 419 = .ok (.aload_n 0, 1) := by decide +kernel
theorem dL_law_420 : decode cL_law 420 = .ok (.iload 4, 2) := by decide +kernel
theorem dL_law_422 : decode cL_law 422 = .ok (.iconst 2, 1) := by decide +kernel
theorem dL_law_423 : decode cL_law 423 = .ok (.iadd, 1) := by decide +kernel
theorem dL_law_424 : decode cL_law 424 = .ok (.iaload, 1) := by decide +kernel
theorem dL_law_425 : decode cL_law 425 = .ok (.aload_n 0, 1) := by decide +kernel
theorem dL_law_426 : decode cL_law 426 = .ok (.iload 4, 2) := by decide +kernel
theorem dL_law_428 : decode cL_law 428 = .ok (.iconst 3, 1) := by decide +kernel
theorem dL_law_429 : decode cL_law 429 = .ok (.iadd, 1) := by decide +kernel
theorem dL_law_430 : decode cL_law 430 = .ok (.iaload, 1) := by decide +kernel
theorem dL_law_431 : decode cL_law 431 = .ok (.aload_n 0, 1) := by decide +kernel
theorem dL_law_432 : decode cL_law 432 = .ok (.iload 4, 2) := by decide +kernel
theorem dL_law_434 : decode cL_law 434 = .ok (.iconst 4, 1) := by decide +kernel
theorem dL_law_435 : decode cL_law 435 = .ok (.iadd, 1) := by decide +kernel
theorem dL_law_436 : decode cL_law 436 = .ok (.iaload, 1) := by decide +kernel
theorem dL_law_437 : decode cL_law 437 = .ok (.aload_n 0, 1) := by decide +kernel
theorem dL_law_438 : decode cL_law 438 = .ok (.iload 4, 2) := by decide +kernel
theorem dL_law_440 : decode cL_law 440 = .ok (.iconst 5, 1) := by decide +kernel
theorem dL_law_441 : decode cL_law 441 = .ok (.iadd, 1) := by decide +kernel
theorem dL_law_442 : decode cL_law 442 = .ok (.iaload, 1) := by decide +kernel
theorem dL_law_443 : decode cL_law 443 = .ok (.ifCond .eq 7, 3) := by decide +kernel
theorem dL_law_446 : decode cL_law 446 = .ok (.iconst 1, 1) := by decide +kernel
theorem dL_law_447 : decode cL_law 447 = .ok (.goto 4, 3) := by decide +kernel
theorem dL_law_450 : decode cL_law 450 = .ok (.iconst 0, 1) := by decide +kernel
theorem dL_law_451 : decode cL_law 451 = .ok (.aload_n 3, 1) := by decide +kernel
theorem dL_law_452 : decode cL_law 452 = .ok (.invokestatic 89, 3) := by decide +kernel
theorem dL_law_455 : decode cL_law 455 = .ok (.istore 5, 2) := by decide +kernel
theorem dL_law_457 : decode cL_law 457 = .ok (.aload_n 2, 1) := by decide +kernel
theorem dL_law_458 : decode cL_law 458 = .ok (.aload_n 0, 1) := by decide +kernel
theorem dL_law_459 : decode cL_law 459 = .ok (.iload 4, 2) := by decide +kernel
theorem dL_law_461 : decode cL_law 461 = .ok (.iconst 1, 1) := by decide +kernel
theorem dL_law_462 : decode cL_law 462 = .ok (.iadd, 1) := by decide +kernel
theorem dL_law_463 : decode cL_law 463 = .ok (.iaload, 1) := by decide +kernel
theorem dL_law_464 : decode cL_law 464 = .ok (.aload_n 0, 1) := by decide +kernel
theorem dL_law_465 : decode cL_law 465 = .ok (.iload 4, 2) := by decide +kernel
theorem dL_law_467 : decode cL_law 467 = .ok (.iconst 2, 1) := by decide +kernel
theorem dL_law_468 : decode cL_law 468 = .ok (.iadd, 1) := by decide +kernel
theorem dL_law_469 : decode cL_law 469 = .ok (.iaload, 1) := by decide +kernel
theorem dL_law_470 : decode cL_law 470 = .ok (.aload_n 0, 1) := by decide +kernel
theorem dL_law_471 : decode cL_law 471 = .ok (.iload 4, 2) := by decide +kernel
theorem dL_law_473 : decode cL_law 473 = .ok (.iconst 3, 1) := by decide +kernel
theorem dL_law_474 : decode cL_law 474 = .ok (.iadd, 1) := by decide +kernel
theorem dL_law_475 : decode cL_law 475 = .ok (.iaload, 1) := by decide +kernel
theorem dL_law_476 : decode cL_law 476 = .ok (.aload_n 0, 1) := by decide +kernel
theorem dL_law_477 : decode cL_law 477 = .ok (.iload 4, 2) := by decide +kernel
theorem dL_law_479 : decode cL_law 479 = .ok (.iconst 4, 1) := by decide +kernel
theorem dL_law_480 : decode cL_law 480 = .ok (.iadd, 1) := by decide +kernel
theorem dL_law_481 : decode cL_law 481 = .ok (.iaload, 1) := by decide +kernel
theorem dL_law_482 : decode cL_law 482 = .ok (.aload_n 0, 1) := by decide +kernel
theorem dL_law_483 : decode cL_law 483 = .ok (.iload 4, 2) := by decide +kernel
theorem dL_law_485 : decode cL_law 485 = .ok (.iconst 5, 1) := by decide +kernel
theorem dL_law_486 : decode cL_law 486 = .ok (.iadd, 1) := by decide +kernel
theorem dL_law_487 : decode cL_law 487 = .ok (.iaload, 1) := by decide +kernel
theorem dL_law_488 : decode cL_law 488 = .ok (.ifCond .eq 7, 3) := by decide +kernel
theorem dL_law_491 : decode cL_law 491 = .ok (.iconst 1, 1) := by decide +kernel
theorem dL_law_492 : decode cL_law 492 = .ok (.goto 4, 3) := by decide +kernel
theorem dL_law_495 : decode cL_law 495 = .ok (.iconst 0, 1) := by decide +kernel
theorem dL_law_496 : decode cL_law 496 = .ok (.invokevirtual 92, 3) := by decide +kernel
theorem dL_law_499 : decode cL_law 499 = .ok (.istore 6, 2) := by decide +kernel
theorem dL_law_501 : decode cL_law 501 = .ok (.aload_n 2, 1) := by decide +kernel
theorem dL_law_502 : decode cL_law 502 = .ok (.invokevirtual 74, 3) := by decide +kernel
theorem dL_law_505 : decode cL_law 505 = .ok (.iload 5, 2) := by decide +kernel
theorem dL_law_507 : decode cL_law 507 = .ok (.if_icmp .eq 5, 3) := by decide +kernel
theorem dL_law_510 : decode cL_law 510 = .ok (.iconst 0, 1) := by decide +kernel
theorem dL_law_511 : decode cL_law 511 = .ok (.ireturn, 1) := by decide +kernel
theorem dL_law_512 : decode cL_law 512 = .ok (.iload 5, 2) := by decide +kernel
theorem dL_law_514 : decode cL_law 514 = .ok (.ifCond .ne 15, 3) := by decide +kernel
theorem dL_law_517 : decode cL_law 517 = .ok (.aload_n 3, 1) := by decide +kernel
theorem dL_law_518 : decode cL_law 518 = .ok (.iconst 0, 1) := by decide +kernel
theorem dL_law_519 : decode cL_law 519 = .ok (.laload, 1) := by decide +kernel
theorem dL_law_520 : decode cL_law 520 = .ok (.iload 6, 2) := by decide +kernel
theorem dL_law_522 : decode cL_law 522 = .ok (.i2l, 1) := by decide +kernel
theorem dL_law_523 : decode cL_law 523 = .ok (.lcmp, 1) := by decide +kernel
theorem dL_law_524 : decode cL_law 524 = .ok (.ifCond .eq 5, 3) := by decide +kernel
theorem dL_law_527 : decode cL_law 527 = .ok (.iconst 0, 1) := by decide +kernel
theorem dL_law_528 : decode cL_law 528 = .ok (.ireturn, 1) := by decide +kernel
theorem dL_law_529 : decode cL_law 529 = .ok (.goto 691, 3) := by decide +kernel
theorem dL_law_532 : decode cL_law 532 = .ok (.aload_n 1, 1) := by decide +kernel
theorem dL_law_533 : decode cL_law 533 = .ok (.aload_n 0, 1) := by decide +kernel
theorem dL_law_534 : decode cL_law 534 = .ok (.iload 4, 2) := by decide +kernel
theorem dL_law_536 : decode cL_law 536 = .ok (.iconst 1, 1) := by decide +kernel
theorem dL_law_537 : decode cL_law 537 = .ok (.iadd, 1) := by decide +kernel
theorem dL_law_538 : decode cL_law 538 = .ok (.iaload, 1) := by decide +kernel
theorem dL_law_539 : decode cL_law 539 = .ok (.aload_n 0, 1) := by decide +kernel
theorem dL_law_540 : decode cL_law 540 = .ok (.iload 4, 2) := by decide +kernel
theorem dL_law_542 : decode cL_law 542 = .ok (.iconst 2, 1) := by decide +kernel
theorem dL_law_543 : decode cL_law 543 = .ok (.iadd, 1) := by decide +kernel
theorem dL_law_544 : decode cL_law 544 = .ok (.iaload, 1) := by decide +kernel
theorem dL_law_545 : decode cL_law 545 = .ok (.aload_n 3, 1) := by decide +kernel
theorem dL_law_546 : decode cL_law 546 = .ok (.invokestatic 93, 3) := by decide +kernel
theorem dL_law_549 : decode cL_law 549 = .ok (.istore 5, 2) := by decide +kernel
theorem dL_law_551 : decode cL_law 551 = .ok (.aload_n 2, 1) := by decide +kernel
theorem dL_law_552 : decode cL_law 552 = .ok (.aload_n 0, 1) := by decide +kernel
theorem dL_law_553 : decode cL_law 553 = .ok (.iload 4, 2) := by decide +kernel
theorem dL_law_555 : decode cL_law 555 = .ok (.iconst 1, 1) := by decide +kernel
theorem dL_law_556 : decode cL_law 556 = .ok (.iadd, 1) := by decide +kernel
theorem dL_law_557 : decode cL_law 557 = .ok (.iaload, 1) := by decide +kernel
theorem dL_law_558 : decode cL_law 558 = .ok (.aload_n 0, 1) := by decide +kernel
theorem dL_law_559 : decode cL_law 559 = .ok (.iload 4, 2) := by decide +kernel
theorem dL_law_561 : decode cL_law 561 = .ok (.iconst 2, 1) := by decide +kernel
theorem dL_law_562 : decode cL_law 562 = .ok (.iadd, 1) := by decide +kernel
theorem dL_law_563 : decode cL_law 563 = .ok (.iaload, 1) := by decide +kernel
theorem dL_law_564 : decode cL_law 564 = .ok (.invokevirtual 95, 3) := by decide +kernel
theorem dL_law_567 : decode cL_law 567 = .ok (.istore 6, 2) := by decide +kernel
theorem dL_law_569 : decode cL_law 569 = .ok (.aload_n 2, 1) := by decide +kernel
theorem dL_law_570 : decode cL_law 570 = .ok (.invokevirtual 74, 3) := by decide +kernel
theorem dL_law_573 : decode cL_law 573 = .ok (.iload 5, 2) := by decide +kernel
theorem dL_law_575 : decode cL_law 575 = .ok (.if_icmp .eq 5, 3) := by decide +kernel
theorem dL_law_578 : decode cL_law 578 = .ok (.iconst 0, 1) := by decide +kernel
theorem dL_law_579 : decode cL_law 579 = .ok (.ireturn, 1) := by decide +kernel
theorem dL_law_580 : decode cL_law 580 = .ok (.iload 5, 2) := by decide +kernel
theorem dL_law_582 : decode cL_law 582 = .ok (.ifCond .ne 15, 3) := by decide +kernel
theorem dL_law_585 : decode cL_law 585 = .ok (.aload_n 3, 1) := by decide +kernel
theorem dL_law_586 : decode cL_law 586 = .ok (.iconst 0, 1) := by decide +kernel
theorem dL_law_587 : decode cL_law 587 = .ok (.laload, 1) := by decide +kernel
theorem dL_law_588 : decode cL_law 588 = .ok (.iload 6, 2) := by decide +kernel
theorem dL_law_590 : decode cL_law 590 = .ok (.i2l, 1) := by decide +kernel
theorem dL_law_591 : decode cL_law 591 = .ok (.lcmp, 1) := by decide +kernel
theorem dL_law_592 : decode cL_law 592 = .ok (.ifCond .eq 5, 3) := by decide +kernel
theorem dL_law_595 : decode cL_law 595 = .ok (.iconst 0, 1) := by decide +kernel
theorem dL_law_596 : decode cL_law 596 = .ok (.ireturn, 1) := by decide +kernel
theorem dL_law_597 : decode cL_law 597 = .ok (.goto 623, 3) := by decide +kernel
theorem dL_law_600 : decode cL_law 600 = .ok (.aload_n 1, 1) := by decide +kernel
theorem dL_law_601 : decode cL_law 601 = .ok (.aload_n 0, 1) := by decide +kernel
theorem dL_law_602 : decode cL_law 602 = .ok (.iload 4, 2) := by decide +kernel
theorem dL_law_604 : decode cL_law 604 = .ok (.iconst 1, 1) := by decide +kernel
theorem dL_law_605 : decode cL_law 605 = .ok (.iadd, 1) := by decide +kernel
theorem dL_law_606 : decode cL_law 606 = .ok (.iaload, 1) := by decide +kernel
theorem dL_law_607 : decode cL_law 607 = .ok (.aload_n 0, 1) := by decide +kernel
theorem dL_law_608 : decode cL_law 608 = .ok (.iload 4, 2) := by decide +kernel
theorem dL_law_610 : decode cL_law 610 = .ok (.iconst 2, 1) := by decide +kernel
theorem dL_law_611 : decode cL_law 611 = .ok (.iadd, 1) := by decide +kernel
theorem dL_law_612 : decode cL_law 612 = .ok (.iaload, 1) := by decide +kernel
theorem dL_law_613 : decode cL_law 613 = .ok (.aload_n 3, 1) := by decide +kernel
theorem dL_law_614 : decode cL_law 614 = .ok (.invokestatic 96, 3) := by decide +kernel
theorem dL_law_617 : decode cL_law 617 = .ok (.istore 5, 2) := by decide +kernel
theorem dL_law_619 : decode cL_law 619 = .ok (.aload_n 2, 1) := by decide +kernel
theorem dL_law_620 : decode cL_law 620 = .ok (.aload_n 0, 1) := by decide +kernel
theorem dL_law_621 : decode cL_law 621 = .ok (.iload 4, 2) := by decide +kernel
theorem dL_law_623 : decode cL_law 623 = .ok (.iconst 1, 1) := by decide +kernel
theorem dL_law_624 : decode cL_law 624 = .ok (.iadd, 1) := by decide +kernel
theorem dL_law_625 : decode cL_law 625 = .ok (.iaload, 1) := by decide +kernel
theorem dL_law_626 : decode cL_law 626 = .ok (.aload_n 0, 1) := by decide +kernel
theorem dL_law_627 : decode cL_law 627 = .ok (.iload 4, 2) := by decide +kernel
theorem dL_law_629 : decode cL_law 629 = .ok (.iconst 2, 1) := by decide +kernel
theorem dL_law_630 : decode cL_law 630 = .ok (.iadd, 1) := by decide +kernel
theorem dL_law_631 : decode cL_law 631 = .ok (.iaload, 1) := by decide +kernel
theorem dL_law_632 : decode cL_law 632 = .ok (.invokevirtual 98, 3) := by decide +kernel
theorem dL_law_635 : decode cL_law 635 = .ok (.istore 6, 2) := by decide +kernel
theorem dL_law_637 : decode cL_law 637 = .ok (.aload_n 2, 1) := by decide +kernel
theorem dL_law_638 : decode cL_law 638 = .ok (.invokevirtual 74, 3) := by decide +kernel
theorem dL_law_641 : decode cL_law 641 = .ok (.iload 5, 2) := by decide +kernel
theorem dL_law_643 : decode cL_law 643 = .ok (.if_icmp .eq 5, 3) := by decide +kernel
theorem dL_law_646 : decode cL_law 646 = .ok (.iconst 0, 1) := by decide +kernel
theorem dL_law_647 : decode cL_law 647 = .ok (.ireturn, 1) := by decide +kernel
theorem dL_law_648 : decode cL_law 648 = .ok (.iload 5, 2) := by decide +kernel
theorem dL_law_650 : decode cL_law 650 = .ok (.ifCond .ne 15, 3) := by decide +kernel
theorem dL_law_653 : decode cL_law 653 = .ok (.aload_n 3, 1) := by decide +kernel
theorem dL_law_654 : decode cL_law 654 = .ok (.iconst 0, 1) := by decide +kernel
theorem dL_law_655 : decode cL_law 655 = .ok (.laload, 1) := by decide +kernel
theorem dL_law_656 : decode cL_law 656 = .ok (.iload 6, 2) := by decide +kernel
theorem dL_law_658 : decode cL_law 658 = .ok (.i2l, 1) := by decide +kernel
theorem dL_law_659 : decode cL_law 659 = .ok (.lcmp, 1) := by decide +kernel
theorem dL_law_660 : decode cL_law 660 = .ok (.ifCond .eq 5, 3) := by decide +kernel
theorem dL_law_663 : decode cL_law 663 = .ok (.iconst 0, 1) := by decide +kernel
theorem dL_law_664 : decode cL_law 664 = .ok (.ireturn, 1) := by decide +kernel
theorem dL_law_665 : decode cL_law 665 = .ok (.goto 555, 3) := by decide +kernel
theorem dL_law_668 : decode cL_law 668 = .ok (.aload_n 1, 1) := by decide +kernel
theorem dL_law_669 : decode cL_law 669 = .ok (.aload_n 0, 1) := by decide +kernel
theorem dL_law_670 : decode cL_law 670 = .ok (.iload 4, 2) := by decide +kernel
theorem dL_law_672 : decode cL_law 672 = .ok (.iconst 1, 1) := by decide +kernel
theorem dL_law_673 : decode cL_law 673 = .ok (.iadd, 1) := by decide +kernel
theorem dL_law_674 : decode cL_law 674 = .ok (.iaload, 1) := by decide +kernel
theorem dL_law_675 : decode cL_law 675 = .ok (.aload_n 0, 1) := by decide +kernel
theorem dL_law_676 : decode cL_law 676 = .ok (.iload 4, 2) := by decide +kernel
theorem dL_law_678 : decode cL_law 678 = .ok (.iconst 2, 1) := by decide +kernel
theorem dL_law_679 : decode cL_law 679 = .ok (.iadd, 1) := by decide +kernel
theorem dL_law_680 : decode cL_law 680 = .ok (.iaload, 1) := by decide +kernel
theorem dL_law_681 : decode cL_law 681 = .ok (.aload_n 3, 1) := by decide +kernel
theorem dL_law_682 : decode cL_law 682 = .ok (.invokestatic 99, 3) := by decide +kernel
theorem dL_law_685 : decode cL_law 685 = .ok (.istore 5, 2) := by decide +kernel
theorem dL_law_687 : decode cL_law 687 = .ok (.aload_n 2, 1) := by decide +kernel
theorem dL_law_688 : decode cL_law 688 = .ok (.aload_n 0, 1) := by decide +kernel
theorem dL_law_689 : decode cL_law 689 = .ok (.iload 4, 2) := by decide +kernel
theorem dL_law_691 : decode cL_law 691 = .ok (.iconst 1, 1) := by decide +kernel
theorem dL_law_692 : decode cL_law 692 = .ok (.iadd, 1) := by decide +kernel
theorem dL_law_693 : decode cL_law 693 = .ok (.iaload, 1) := by decide +kernel
theorem dL_law_694 : decode cL_law 694 = .ok (.aload_n 0, 1) := by decide +kernel
theorem dL_law_695 : decode cL_law 695 = .ok (.iload 4, 2) := by decide +kernel
theorem dL_law_697 : decode cL_law 697 = .ok (.iconst 2, 1) := by decide +kernel
theorem dL_law_698 : decode cL_law 698 = .ok (.iadd, 1) := by decide +kernel
theorem dL_law_699 : decode cL_law 699 = .ok (.iaload, 1) := by decide +kernel
theorem dL_law_700 : decode cL_law 700 = .ok (.invokevirtual 101, 3) := by decide +kernel
theorem dL_law_703 : decode cL_law 703 = .ok (.istore 6, 2) := by decide +kernel
theorem dL_law_705 : decode cL_law 705 = .ok (.aload_n 2, 1) := by decide +kernel
theorem dL_law_706 : decode cL_law 706 = .ok (.invokevirtual 74, 3) := by decide +kernel
theorem dL_law_709 : decode cL_law 709 = .ok (.iload 5, 2) := by decide +kernel
theorem dL_law_711 : decode cL_law 711 = .ok (.if_icmp .eq 5, 3) := by decide +kernel
theorem dL_law_714 : decode cL_law 714 = .ok (.iconst 0, 1) := by decide +kernel
theorem dL_law_715 : decode cL_law 715 = .ok (.ireturn, 1) := by decide +kernel
theorem dL_law_716 : decode cL_law 716 = .ok (.iload 5, 2) := by decide +kernel
theorem dL_law_718 : decode cL_law 718 = .ok (.ifCond .ne 15, 3) := by decide +kernel
theorem dL_law_721 : decode cL_law 721 = .ok (.aload_n 3, 1) := by decide +kernel
theorem dL_law_722 : decode cL_law 722 = .ok (.iconst 0, 1) := by decide +kernel
theorem dL_law_723 : decode cL_law 723 = .ok (.laload, 1) := by decide +kernel
theorem dL_law_724 : decode cL_law 724 = .ok (.iload 6, 2) := by decide +kernel
theorem dL_law_726 : decode cL_law 726 = .ok (.i2l, 1) := by decide +kernel
theorem dL_law_727 : decode cL_law 727 = .ok (.lcmp, 1) := by decide +kernel
theorem dL_law_728 : decode cL_law 728 = .ok (.ifCond .eq 5, 3) := by decide +kernel
theorem dL_law_731 : decode cL_law 731 = .ok (.iconst 0, 1) := by decide +kernel
theorem dL_law_732 : decode cL_law 732 = .ok (.ireturn, 1) := by decide +kernel
theorem dL_law_733 : decode cL_law 733 = .ok (.goto 487, 3) := by decide +kernel
theorem dL_law_736 : decode cL_law 736 = .ok (.aload_n 1, 1) := by decide +kernel
theorem dL_law_737 : decode cL_law 737 = .ok (.aload_n 0, 1) := by decide +kernel
theorem dL_law_738 : decode cL_law 738 = .ok (.iload 4, 2) := by decide +kernel
theorem dL_law_740 : decode cL_law 740 = .ok (.iconst 1, 1) := by decide +kernel
theorem dL_law_741 : decode cL_law 741 = .ok (.iadd, 1) := by decide +kernel
theorem dL_law_742 : decode cL_law 742 = .ok (.iaload, 1) := by decide +kernel
theorem dL_law_743 : decode cL_law 743 = .ok (.aload_n 0, 1) := by decide +kernel
theorem dL_law_744 : decode cL_law 744 = .ok (.iload 4, 2) := by decide +kernel
theorem dL_law_746 : decode cL_law 746 = .ok (.iconst 2, 1) := by decide +kernel
theorem dL_law_747 : decode cL_law 747 = .ok (.iadd, 1) := by decide +kernel
theorem dL_law_748 : decode cL_law 748 = .ok (.iaload, 1) := by decide +kernel
theorem dL_law_749 : decode cL_law 749 = .ok (.aload_n 3, 1) := by decide +kernel
theorem dL_law_750 : decode cL_law 750 = .ok (.invokestatic 102, 3) := by decide +kernel
theorem dL_law_753 : decode cL_law 753 = .ok (.istore 5, 2) := by decide +kernel
theorem dL_law_755 : decode cL_law 755 = .ok (.aload_n 2, 1) := by decide +kernel
theorem dL_law_756 : decode cL_law 756 = .ok (.aload_n 0, 1) := by decide +kernel
theorem dL_law_757 : decode cL_law 757 = .ok (.iload 4, 2) := by decide +kernel
theorem dL_law_759 : decode cL_law 759 = .ok (.iconst 1, 1) := by decide +kernel
theorem dL_law_760 : decode cL_law 760 = .ok (.iadd, 1) := by decide +kernel
theorem dL_law_761 : decode cL_law 761 = .ok (.iaload, 1) := by decide +kernel
theorem dL_law_762 : decode cL_law 762 = .ok (.aload_n 0, 1) := by decide +kernel
theorem dL_law_763 : decode cL_law 763 = .ok (.iload 4, 2) := by decide +kernel
theorem dL_law_765 : decode cL_law 765 = .ok (.iconst 2, 1) := by decide +kernel
theorem dL_law_766 : decode cL_law 766 = .ok (.iadd, 1) := by decide +kernel
theorem dL_law_767 : decode cL_law 767 = .ok (.iaload, 1) := by decide +kernel
theorem dL_law_768 : decode cL_law 768 = .ok (.invokevirtual 104, 3) := by decide +kernel
theorem dL_law_771 : decode cL_law 771 = .ok (.istore 6, 2) := by decide +kernel
theorem dL_law_773 : decode cL_law 773 = .ok (.aload_n 2, 1) := by decide +kernel
theorem dL_law_774 : decode cL_law 774 = .ok (.invokevirtual 74, 3) := by decide +kernel
theorem dL_law_777 : decode cL_law 777 = .ok (.iload 5, 2) := by decide +kernel
theorem dL_law_779 : decode cL_law 779 = .ok (.if_icmp .eq 5, 3) := by decide +kernel
theorem dL_law_782 : decode cL_law 782 = .ok (.iconst 0, 1) := by decide +kernel
theorem dL_law_783 : decode cL_law 783 = .ok (.ireturn, 1) := by decide +kernel
theorem dL_law_784 : decode cL_law 784 = .ok (.iload 5, 2) := by decide +kernel
theorem dL_law_786 : decode cL_law 786 = .ok (.ifCond .ne 15, 3) := by decide +kernel
theorem dL_law_789 : decode cL_law 789 = .ok (.aload_n 3, 1) := by decide +kernel
theorem dL_law_790 : decode cL_law 790 = .ok (.iconst 0, 1) := by decide +kernel
theorem dL_law_791 : decode cL_law 791 = .ok (.laload, 1) := by decide +kernel
theorem dL_law_792 : decode cL_law 792 = .ok (.iload 6, 2) := by decide +kernel
theorem dL_law_794 : decode cL_law 794 = .ok (.i2l, 1) := by decide +kernel
theorem dL_law_795 : decode cL_law 795 = .ok (.lcmp, 1) := by decide +kernel
theorem dL_law_796 : decode cL_law 796 = .ok (.ifCond .eq 5, 3) := by decide +kernel
theorem dL_law_799 : decode cL_law 799 = .ok (.iconst 0, 1) := by decide +kernel
theorem dL_law_800 : decode cL_law 800 = .ok (.ireturn, 1) := by decide +kernel
theorem dL_law_801 : decode cL_law 801 = .ok (.goto 419, 3) := by decide +kernel
theorem dL_law_804 : decode cL_law 804 = .ok (.aload_n 1, 1) := by decide +kernel
theorem dL_law_805 : decode cL_law 805 = .ok (.aload_n 0, 1) := by decide +kernel
theorem dL_law_806 : decode cL_law 806 = .ok (.iload 4, 2) := by decide +kernel
theorem dL_law_808 : decode cL_law 808 = .ok (.iconst 1, 1) := by decide +kernel
theorem dL_law_809 : decode cL_law 809 = .ok (.iadd, 1) := by decide +kernel
theorem dL_law_810 : decode cL_law 810 = .ok (.iaload, 1) := by decide +kernel
theorem dL_law_811 : decode cL_law 811 = .ok (.aload_n 3, 1) := by decide +kernel
theorem dL_law_812 : decode cL_law 812 = .ok (.invokestatic 105, 3) := by decide +kernel
theorem dL_law_815 : decode cL_law 815 = .ok (.istore 5, 2) := by decide +kernel
theorem dL_law_817 : decode cL_law 817 = .ok (.aload_n 2, 1) := by decide +kernel
theorem dL_law_818 : decode cL_law 818 = .ok (.aload_n 0, 1) := by decide +kernel
theorem dL_law_819 : decode cL_law 819 = .ok (.iload 4, 2) := by decide +kernel
theorem dL_law_821 : decode cL_law 821 = .ok (.iconst 1, 1) := by decide +kernel
theorem dL_law_822 : decode cL_law 822 = .ok (.iadd, 1) := by decide +kernel
theorem dL_law_823 : decode cL_law 823 = .ok (.iaload, 1) := by decide +kernel
theorem dL_law_824 : decode cL_law 824 = .ok (.invokevirtual 107, 3) := by decide +kernel
theorem dL_law_827 : decode cL_law 827 = .ok (.istore 6, 2) := by decide +kernel
theorem dL_law_829 : decode cL_law 829 = .ok (.aload_n 2, 1) := by decide +kernel
theorem dL_law_830 : decode cL_law 830 = .ok (.invokevirtual 74, 3) := by decide +kernel
theorem dL_law_833 : decode cL_law 833 = .ok (.iload 5, 2) := by decide +kernel
theorem dL_law_835 : decode cL_law 835 = .ok (.if_icmp .eq 5, 3) := by decide +kernel
theorem dL_law_838 : decode cL_law 838 = .ok (.iconst 0, 1) := by decide +kernel
theorem dL_law_839 : decode cL_law 839 = .ok (.ireturn, 1) := by decide +kernel
theorem dL_law_840 : decode cL_law 840 = .ok (.iload 5, 2) := by decide +kernel
theorem dL_law_842 : decode cL_law 842 = .ok (.ifCond .ne 15, 3) := by decide +kernel
theorem dL_law_845 : decode cL_law 845 = .ok (.aload_n 3, 1) := by decide +kernel
theorem dL_law_846 : decode cL_law 846 = .ok (.iconst 0, 1) := by decide +kernel
theorem dL_law_847 : decode cL_law 847 = .ok (.laload, 1) := by decide +kernel
theorem dL_law_848 : decode cL_law 848 = .ok (.iload 6, 2) := by decide +kernel
theorem dL_law_850 : decode cL_law 850 = .ok (.i2l, 1) := by decide +kernel
theorem dL_law_851 : decode cL_law 851 = .ok (.lcmp, 1) := by decide +kernel
theorem dL_law_852 : decode cL_law 852 = .ok (.ifCond .eq 5, 3) := by decide +kernel
theorem dL_law_855 : decode cL_law 855 = .ok (.iconst 0, 1) := by decide +kernel
theorem dL_law_856 : decode cL_law 856 = .ok (.ireturn, 1) := by decide +kernel
theorem dL_law_857 : decode cL_law 857 = .ok (.goto 363, 3) := by decide +kernel
theorem dL_law_860 : decode cL_law 860 = .ok (.aload_n 1, 1) := by decide +kernel
theorem dL_law_861 : decode cL_law 861 = .ok (.aload_n 0, 1) := by decide +kernel
theorem dL_law_862 : decode cL_law 862 = .ok (.iload 4, 2) := by decide +kernel
theorem dL_law_864 : decode cL_law 864 = .ok (.iconst 1, 1) := by decide +kernel
theorem dL_law_865 : decode cL_law 865 = .ok (.iadd, 1) := by decide +kernel
theorem dL_law_866 : decode cL_law 866 = .ok (.iaload, 1) := by decide +kernel
theorem dL_law_867 : decode cL_law 867 = .ok (.aload_n 3, 1) := by decide +kernel
theorem dL_law_868 : decode cL_law 868 = .ok (.invokestatic 108, 3) := by decide +kernel
theorem dL_law_871 : decode cL_law 871 = .ok (.istore 5, 2) := by decide +kernel
theorem dL_law_873 : decode cL_law 873 = .ok (.aload_n 2, 1) := by decide +kernel
theorem dL_law_874 : decode cL_law 874 = .ok (.aload_n 0, 1) := by decide +kernel
theorem dL_law_875 : decode cL_law 875 = .ok (.iload 4, 2) := by decide +kernel
theorem dL_law_877 : decode cL_law 877 = .ok (.iconst 1, 1) := by decide +kernel
theorem dL_law_878 : decode cL_law 878 = .ok (.iadd, 1) := by decide +kernel
theorem dL_law_879 : decode cL_law 879 = .ok (.iaload, 1) := by decide +kernel
theorem dL_law_880 : decode cL_law 880 = .ok (.invokevirtual 110, 3) := by decide +kernel
theorem dL_law_883 : decode cL_law 883 = .ok (.istore 6, 2) := by decide +kernel
theorem dL_law_885 : decode cL_law 885 = .ok (.aload_n 2, 1) := by decide +kernel
theorem dL_law_886 : decode cL_law 886 = .ok (.invokevirtual 74, 3) := by decide +kernel
theorem dL_law_889 : decode cL_law 889 = .ok (.iload 5, 2) := by decide +kernel
theorem dL_law_891 : decode cL_law 891 = .ok (.if_icmp .eq 5, 3) := by decide +kernel
theorem dL_law_894 : decode cL_law 894 = .ok (.iconst 0, 1) := by decide +kernel
theorem dL_law_895 : decode cL_law 895 = .ok (.ireturn, 1) := by decide +kernel
theorem dL_law_896 : decode cL_law 896 = .ok (.iload 5, 2) := by decide +kernel
theorem dL_law_898 : decode cL_law 898 = .ok (.ifCond .ne 15, 3) := by decide +kernel
theorem dL_law_901 : decode cL_law 901 = .ok (.aload_n 3, 1) := by decide +kernel
theorem dL_law_902 : decode cL_law 902 = .ok (.iconst 0, 1) := by decide +kernel
theorem dL_law_903 : decode cL_law 903 = .ok (.laload, 1) := by decide +kernel
theorem dL_law_904 : decode cL_law 904 = .ok (.iload 6, 2) := by decide +kernel
theorem dL_law_906 : decode cL_law 906 = .ok (.i2l, 1) := by decide +kernel
theorem dL_law_907 : decode cL_law 907 = .ok (.lcmp, 1) := by decide +kernel
theorem dL_law_908 : decode cL_law 908 = .ok (.ifCond .eq 5, 3) := by decide +kernel
theorem dL_law_911 : decode cL_law 911 = .ok (.iconst 0, 1) := by decide +kernel
theorem dL_law_912 : decode cL_law 912 = .ok (.ireturn, 1) := by decide +kernel
theorem dL_law_913 : decode cL_law 913 = .ok (.goto 307, 3) := by decide +kernel
theorem dL_law_916 : decode cL_law 916 = .ok (.aload_n 1, 1) := by decide +kernel
theorem dL_law_917 : decode cL_law 917 = .ok (.aload_n 0, 1) := by decide +kernel
theorem dL_law_918 : decode cL_law 918 = .ok (.iload 4, 2) := by decide +kernel
theorem dL_law_920 : decode cL_law 920 = .ok (.iconst 1, 1) := by decide +kernel
theorem dL_law_921 : decode cL_law 921 = .ok (.iadd, 1) := by decide +kernel
theorem dL_law_922 : decode cL_law 922 = .ok (.iaload, 1) := by decide +kernel
theorem dL_law_923 : decode cL_law 923 = .ok (.aload_n 3, 1) := by decide +kernel
theorem dL_law_924 : decode cL_law 924 = .ok (.invokestatic 111, 3) := by decide +kernel
theorem dL_law_927 : decode cL_law 927 = .ok (.istore 5, 2) := by decide +kernel
theorem dL_law_929 : decode cL_law 929 = .ok (.aload_n 2, 1) := by decide +kernel
theorem dL_law_930 : decode cL_law 930 = .ok (.aload_n 0, 1) := by decide +kernel
theorem dL_law_931 : decode cL_law 931 = .ok (.iload 4, 2) := by decide +kernel
theorem dL_law_933 : decode cL_law 933 = .ok (.iconst 1, 1) := by decide +kernel
theorem dL_law_934 : decode cL_law 934 = .ok (.iadd, 1) := by decide +kernel
theorem dL_law_935 : decode cL_law 935 = .ok (.iaload, 1) := by decide +kernel
theorem dL_law_936 : decode cL_law 936 = .ok (.invokevirtual 113, 3) := by decide +kernel
theorem dL_law_939 : decode cL_law 939 = .ok (.istore 6, 2) := by decide +kernel
theorem dL_law_941 : decode cL_law 941 = .ok (.aload_n 2, 1) := by decide +kernel
theorem dL_law_942 : decode cL_law 942 = .ok (.invokevirtual 74, 3) := by decide +kernel
theorem dL_law_945 : decode cL_law 945 = .ok (.iload 5, 2) := by decide +kernel
theorem dL_law_947 : decode cL_law 947 = .ok (.if_icmp .eq 5, 3) := by decide +kernel
theorem dL_law_950 : decode cL_law 950 = .ok (.iconst 0, 1) := by decide +kernel
theorem dL_law_951 : decode cL_law 951 = .ok (.ireturn, 1) := by decide +kernel
theorem dL_law_952 : decode cL_law 952 = .ok (.iload 5, 2) := by decide +kernel
theorem dL_law_954 : decode cL_law 954 = .ok (.ifCond .ne 15, 3) := by decide +kernel
theorem dL_law_957 : decode cL_law 957 = .ok (.aload_n 3, 1) := by decide +kernel
theorem dL_law_958 : decode cL_law 958 = .ok (.iconst 0, 1) := by decide +kernel
theorem dL_law_959 : decode cL_law 959 = .ok (.laload, 1) := by decide +kernel
theorem dL_law_960 : decode cL_law 960 = .ok (.iload 6, 2) := by decide +kernel
theorem dL_law_962 : decode cL_law 962 = .ok (.i2l, 1) := by decide +kernel
theorem dL_law_963 : decode cL_law 963 = .ok (.lcmp, 1) := by decide +kernel
theorem dL_law_964 : decode cL_law 964 = .ok (.ifCond .eq 5, 3) := by decide +kernel
theorem dL_law_967 : decode cL_law 967 = .ok (.iconst 0, 1) := by decide +kernel
theorem dL_law_968 : decode cL_law 968 = .ok (.ireturn, 1) := by decide +kernel
theorem dL_law_969 : decode cL_law 969 = .ok (.goto 251, 3) := by decide +kernel
theorem dL_law_972 : decode cL_law 972 = .ok (.aload_n 1, 1) := by decide +kernel
theorem dL_law_973 : decode cL_law 973 = .ok (.aload_n 0, 1) := by decide +kernel
theorem dL_law_974 : decode cL_law 974 = .ok (.iload 4, 2) := by decide +kernel
theorem dL_law_976 : decode cL_law 976 = .ok (.iconst 1, 1) := by decide +kernel
theorem dL_law_977 : decode cL_law 977 = .ok (.iadd, 1) := by decide +kernel
theorem dL_law_978 : decode cL_law 978 = .ok (.iaload, 1) := by decide +kernel
theorem dL_law_979 : decode cL_law 979 = .ok (.aload_n 0, 1) := by decide +kernel
theorem dL_law_980 : decode cL_law 980 = .ok (.iload 4, 2) := by decide +kernel
theorem dL_law_982 : decode cL_law 982 = .ok (.iconst 2, 1) := by decide +kernel
theorem dL_law_983 : decode cL_law 983 = .ok (.iadd, 1) := by decide +kernel
theorem dL_law_984 : decode cL_law 984 = .ok (.iaload, 1) := by decide +kernel
theorem dL_law_985 : decode cL_law 985 = .ok (.aload_n 3, 1) := by decide +kernel
theorem dL_law_986 : decode cL_law 986 = .ok (.invokestatic 114, 3) := by decide +kernel
theorem dL_law_989 : decode cL_law 989 = .ok (.istore 5, 2) := by decide +kernel
theorem dL_law_991 : decode cL_law 991 = .ok (.aload_n 2, 1) := by decide +kernel
theorem dL_law_992 : decode cL_law 992 = .ok (.aload_n 0, 1) := by decide +kernel
theorem dL_law_993 : decode cL_law 993 = .ok (.iload 4, 2) := by decide +kernel
theorem dL_law_995 : decode cL_law 995 = .ok (.iconst 1, 1) := by decide +kernel
theorem dL_law_996 : decode cL_law 996 = .ok (.iadd, 1) := by decide +kernel
theorem dL_law_997 : decode cL_law 997 = .ok (.iaload, 1) := by decide +kernel
theorem dL_law_998 : decode cL_law 998 = .ok (.aload_n 0, 1) := by decide +kernel
theorem dL_law_999 : decode cL_law 999 = .ok (.iload 4, 2) := by decide +kernel
theorem dL_law_1001 : decode cL_law 1001 = .ok (.iconst 2, 1) := by decide +kernel
theorem dL_law_1002 : decode cL_law 1002 = .ok (.iadd, 1) := by decide +kernel
theorem dL_law_1003 : decode cL_law 1003 = .ok (.iaload, 1) := by decide +kernel
theorem dL_law_1004 : decode cL_law 1004 = .ok (.invokevirtual 116, 3) := by decide +kernel
theorem dL_law_1007 : decode cL_law 1007 = .ok (.istore 6, 2) := by decide +kernel
theorem dL_law_1009 : decode cL_law 1009 = .ok (.aload_n 2, 1) := by decide +kernel
theorem dL_law_1010 : decode cL_law 1010 = .ok (.invokevirtual 74, 3) := by decide +kernel
theorem dL_law_1013 : decode cL_law 1013 = .ok (.iload 5, 2) := by decide +kernel
theorem dL_law_1015 : decode cL_law 1015 = .ok (.if_icmp .eq 5, 3) := by decide +kernel
theorem dL_law_1018 : decode cL_law 1018 = .ok (.iconst 0, 1) := by decide +kernel
theorem dL_law_1019 : decode cL_law 1019 = .ok (.ireturn, 1) := by decide +kernel
theorem dL_law_1020 : decode cL_law 1020 = .ok (.iload 5, 2) := by decide +kernel
theorem dL_law_1022 : decode cL_law 1022 = .ok (.ifCond .ne 15, 3) := by decide +kernel
theorem dL_law_1025 : decode cL_law 1025 = .ok (.aload_n 3, 1) := by decide +kernel
theorem dL_law_1026 : decode cL_law 1026 = .ok (.iconst 0, 1) := by decide +kernel
theorem dL_law_1027 : decode cL_law 1027 = .ok (.laload, 1) := by decide +kernel
theorem dL_law_1028 : decode cL_law 1028 = .ok (.iload 6, 2) := by decide +kernel
theorem dL_law_1030 : decode cL_law 1030 = .ok (.i2l, 1) := by decide +kernel
theorem dL_law_1031 : decode cL_law 1031 = .ok (.lcmp, 1) := by decide +kernel
theorem dL_law_1032 : decode cL_law 1032 = .ok (.ifCond .eq 5, 3) := by decide +kernel
theorem dL_law_1035 : decode cL_law 1035 = .ok (.iconst 0, 1) := by decide +kernel
theorem dL_law_1036 : decode cL_law 1036 = .ok (.ireturn, 1) := by decide +kernel
theorem dL_law_1037 : decode cL_law 1037 = .ok (.goto 183, 3) := by decide +kernel
theorem dL_law_1040 : decode cL_law 1040 = .ok (.aload_n 1, 1) := by decide +kernel
theorem dL_law_1041 : decode cL_law 1041 = .ok (.aload_n 0, 1) := by decide +kernel
theorem dL_law_1042 : decode cL_law 1042 = .ok (.iload 4, 2) := by decide +kernel
theorem dL_law_1044 : decode cL_law 1044 = .ok (.iconst 1, 1) := by decide +kernel
theorem dL_law_1045 : decode cL_law 1045 = .ok (.iadd, 1) := by decide +kernel
theorem dL_law_1046 : decode cL_law 1046 = .ok (.iaload, 1) := by decide +kernel
theorem dL_law_1047 : decode cL_law 1047 = .ok (.aload_n 3, 1) := by decide +kernel
theorem dL_law_1048 : decode cL_law 1048 = .ok (.invokestatic 117, 3) := by decide +kernel
theorem dL_law_1051 : decode cL_law 1051 = .ok (.istore 5, 2) := by decide +kernel
theorem dL_law_1053 : decode cL_law 1053 = .ok (.aload_n 2, 1) := by decide +kernel
theorem dL_law_1054 : decode cL_law 1054 = .ok (.aload_n 0, 1) := by decide +kernel
theorem dL_law_1055 : decode cL_law 1055 = .ok (.iload 4, 2) := by decide +kernel
theorem dL_law_1057 : decode cL_law 1057 = .ok (.iconst 1, 1) := by decide +kernel
theorem dL_law_1058 : decode cL_law 1058 = .ok (.iadd, 1) := by decide +kernel
theorem dL_law_1059 : decode cL_law 1059 = .ok (.iaload, 1) := by decide +kernel
theorem dL_law_1060 : decode cL_law 1060 = .ok (.invokevirtual 119, 3) := by decide +kernel
theorem dL_law_1063 : decode cL_law 1063 = .ok (.istore 6, 2) := by decide +kernel
theorem dL_law_1065 : decode cL_law 1065 = .ok (.aload_n 2, 1) := by decide +kernel
theorem dL_law_1066 : decode cL_law 1066 = .ok (.invokevirtual 74, 3) := by decide +kernel
theorem dL_law_1069 : decode cL_law 1069 = .ok (.iload 5, 2) := by decide +kernel
theorem dL_law_1071 : decode cL_law 1071 = .ok (.if_icmp .eq 5, 3) := by decide +kernel
theorem dL_law_1074 : decode cL_law 1074 = .ok (.iconst 0, 1) := by decide +kernel
theorem dL_law_1075 : decode cL_law 1075 = .ok (.ireturn, 1) := by decide +kernel
theorem dL_law_1076 : decode cL_law 1076 = .ok (.iload 5, 2) := by decide +kernel
theorem dL_law_1078 : decode cL_law 1078 = .ok (.ifCond .ne 15, 3) := by decide +kernel
theorem dL_law_1081 : decode cL_law 1081 = .ok (.aload_n 3, 1) := by decide +kernel
theorem dL_law_1082 : decode cL_law 1082 = .ok (.iconst 0, 1) := by decide +kernel
theorem dL_law_1083 : decode cL_law 1083 = .ok (.laload, 1) := by decide +kernel
theorem dL_law_1084 : decode cL_law 1084 = .ok (.iload 6, 2) := by decide +kernel
theorem dL_law_1086 : decode cL_law 1086 = .ok (.i2l, 1) := by decide +kernel
theorem dL_law_1087 : decode cL_law 1087 = .ok (.lcmp, 1) := by decide +kernel
theorem dL_law_1088 : decode cL_law 1088 = .ok (.ifCond .eq 5, 3) := by decide +kernel
theorem dL_law_1091 : decode cL_law 1091 = .ok (.iconst 0, 1) := by decide +kernel
theorem dL_law_1092 : decode cL_law 1092 = .ok (.ireturn, 1) := by decide +kernel
theorem dL_law_1093 : decode cL_law 1093 = .ok (.goto 127, 3) := by decide +kernel
theorem dL_law_1096 : decode cL_law 1096 = .ok (.aload_n 1, 1) := by decide +kernel
theorem dL_law_1097 : decode cL_law 1097 = .ok (.aload_n 0, 1) := by decide +kernel
theorem dL_law_1098 : decode cL_law 1098 = .ok (.iload 4, 2) := by decide +kernel
theorem dL_law_1100 : decode cL_law 1100 = .ok (.iconst 1, 1) := by decide +kernel
theorem dL_law_1101 : decode cL_law 1101 = .ok (.iadd, 1) := by decide +kernel
theorem dL_law_1102 : decode cL_law 1102 = .ok (.iaload, 1) := by decide +kernel
theorem dL_law_1103 : decode cL_law 1103 = .ok (.aload_n 3, 1) := by decide +kernel
theorem dL_law_1104 : decode cL_law 1104 = .ok (.invokestatic 120, 3) := by decide +kernel
theorem dL_law_1107 : decode cL_law 1107 = .ok (.istore 5, 2) := by decide +kernel
theorem dL_law_1109 : decode cL_law 1109 = .ok (.aload_n 2, 1) := by decide +kernel
theorem dL_law_1110 : decode cL_law 1110 = .ok (.aload_n 0, 1) := by decide +kernel
theorem dL_law_1111 : decode cL_law 1111 = .ok (.iload 4, 2) := by decide +kernel
theorem dL_law_1113 : decode cL_law 1113 = .ok (.iconst 1, 1) := by decide +kernel
theorem dL_law_1114 : decode cL_law 1114 = .ok (.iadd, 1) := by decide +kernel
theorem dL_law_1115 : decode cL_law 1115 = .ok (.iaload, 1) := by decide +kernel
theorem dL_law_1116 : decode cL_law 1116 = .ok (.invokevirtual 122, 3) := by decide +kernel
theorem dL_law_1119 : decode cL_law 1119 = .ok (.istore 6, 2) := by decide +kernel
theorem dL_law_1121 : decode cL_law 1121 = .ok (.aload_n 2, 1) := by decide +kernel
theorem dL_law_1122 : decode cL_law 1122 = .ok (.invokevirtual 74, 3) := by decide +kernel
theorem dL_law_1125 : decode cL_law 1125 = .ok (.iload 5, 2) := by decide +kernel
theorem dL_law_1127 : decode cL_law 1127 = .ok (.if_icmp .eq 5, 3) := by decide +kernel
theorem dL_law_1130 : decode cL_law 1130 = .ok (.iconst 0, 1) := by decide +kernel
theorem dL_law_1131 : decode cL_law 1131 = .ok (.ireturn, 1) := by decide +kernel
theorem dL_law_1132 : decode cL_law 1132 = .ok (.iload 5, 2) := by decide +kernel
theorem dL_law_1134 : decode cL_law 1134 = .ok (.ifCond .ne 15, 3) := by decide +kernel
theorem dL_law_1137 : decode cL_law 1137 = .ok (.aload_n 3, 1) := by decide +kernel
theorem dL_law_1138 : decode cL_law 1138 = .ok (.iconst 0, 1) := by decide +kernel
theorem dL_law_1139 : decode cL_law 1139 = .ok (.laload, 1) := by decide +kernel
theorem dL_law_1140 : decode cL_law 1140 = .ok (.iload 6, 2) := by decide +kernel
theorem dL_law_1142 : decode cL_law 1142 = .ok (.i2l, 1) := by decide +kernel
theorem dL_law_1143 : decode cL_law 1143 = .ok (.lcmp, 1) := by decide +kernel
theorem dL_law_1144 : decode cL_law 1144 = .ok (.ifCond .eq 5, 3) := by decide +kernel
theorem dL_law_1147 : decode cL_law 1147 = .ok (.iconst 0, 1) := by decide +kernel
theorem dL_law_1148 : decode cL_law 1148 = .ok (.ireturn, 1) := by decide +kernel
theorem dL_law_1149 : decode cL_law 1149 = .ok (.goto 71, 3) := by decide +kernel
theorem dL_law_1152 : decode cL_law 1152 = .ok (.aload_n 1, 1) := by decide +kernel
theorem dL_law_1153 : decode cL_law 1153 = .ok (.invokevirtual 123, 3) := by decide +kernel
theorem dL_law_1156 : decode cL_law 1156 = .ok (.aload_n 2, 1) := by decide +kernel
theorem dL_law_1157 : decode cL_law 1157 = .ok (.invokevirtual 126, 3) := by decide +kernel
theorem dL_law_1160 : decode cL_law 1160 = .ok (.if_icmp .eq 60, 3) := by decide +kernel
theorem dL_law_1163 : decode cL_law 1163 = .ok (.iconst 0, 1) := by decide +kernel
theorem dL_law_1164 : decode cL_law 1164 = .ok (.ireturn, 1) := by decide +kernel
theorem dL_law_1165 : decode cL_law 1165 = .ok (.aload_n 1, 1) := by decide +kernel
theorem dL_law_1166 : decode cL_law 1166 = .ok (.invokevirtual 127, 3) := by decide +kernel
theorem dL_law_1169 : decode cL_law 1169 = .ok (.dstore 5, 2) := by decide +kernel
theorem dL_law_1171 : decode cL_law 1171 = .ok (.aload_n 2, 1) := by decide +kernel
theorem dL_law_1172 : decode cL_law 1172 = .ok (.invokevirtual 131, 3) := by decide +kernel
theorem dL_law_1175 : decode cL_law 1175 = .ok (.dstore 7, 2) := by decide +kernel
theorem dL_law_1177 : decode cL_law 1177 = .ok (.dload 5, 2) := by decide +kernel
theorem dL_law_1179 : decode cL_law 1179 = .ok (.dload 7, 2) := by decide +kernel
theorem dL_law_1181 : decode cL_law 1181 = .ok (.dcmp .l, 1) := by decide +kernel
theorem dL_law_1182 : decode cL_law 1182 = .ok (.ifCond .eq 21, 3) := by decide +kernel
theorem dL_law_1185 : decode cL_law 1185 = .ok (.dload 5, 2) := by decide +kernel
theorem dL_law_1187 : decode cL_law 1187 = .ok (.dload 5, 2) := by decide +kernel
theorem dL_law_1189 : decode cL_law 1189 = .ok (.dcmp .l, 1) := by decide +kernel
theorem dL_law_1190 : decode cL_law 1190 = .ok (.ifCond .eq 11, 3) := by decide +kernel
theorem dL_law_1193 : decode cL_law 1193 = .ok (.dload 7, 2) := by decide +kernel
theorem dL_law_1195 : decode cL_law 1195 = .ok (.dload 7, 2) := by decide +kernel
theorem dL_law_1197 : decode cL_law 1197 = .ok (.dcmp .l, 1) := by decide +kernel
theorem dL_law_1198 : decode cL_law 1198 = .ok (.ifCond .ne 5, 3) := by decide +kernel
theorem dL_law_1201 : decode cL_law 1201 = .ok (.iconst 0, 1) := by decide +kernel
theorem dL_law_1202 : decode cL_law 1202 = .ok (.ireturn, 1) := by decide +kernel
theorem dL_law_1203 : decode cL_law 1203 = .ok (.goto 17, 3) := by decide +kernel
theorem dL_law_1206 : decode cL_law 1206 = .ok (.aload_n 1, 1) := by decide +kernel
theorem dL_law_1207 : decode cL_law 1207 = .ok (.invokevirtual 132, 3) := by decide +kernel
theorem dL_law_1210 : decode cL_law 1210 = .ok (.aload_n 2, 1) := by decide +kernel
theorem dL_law_1211 : decode cL_law 1211 = .ok (.invokevirtual 136, 3) := by decide +kernel
theorem dL_law_1214 : decode cL_law 1214 = .ok (.lcmp, 1) := by decide +kernel
theorem dL_law_1215 : decode cL_law 1215 = .ok (.ifCond .eq 5, 3) := by decide +kernel
theorem dL_law_1218 : decode cL_law 1218 = .ok (.iconst 0, 1) := by decide +kernel
theorem dL_law_1219 : decode cL_law 1219 = .ok (.ireturn, 1) := by decide +kernel
theorem dL_law_1220 : decode cL_law 1220 = .ok (.iinc 4 6, 3) := by decide +kernel
theorem dL_law_1223 : decode cL_law 1223 = .ok (.goto (-1200), 3) := by decide +kernel
theorem dL_law_1226 : decode cL_law 1226 = .ok (.iconst 1, 1) := by decide +kernel
theorem dL_law_1227 : decode cL_law 1227 = .ok (.ireturn, 1) := by decide +kernel
abbrev vwCl : List vw_C := [(RX0, TX0, 10), (RX1, TX1, 2), (RX2, TX2, 6), (RX3, TX3, 3), (RX4, TX4, 3), (RX5, TX5, 8), (RX6, TX6, 8)]
end
