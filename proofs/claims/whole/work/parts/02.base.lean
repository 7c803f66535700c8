abbrev St : Type := Nat → Nat → Int32
def put (σ : St) (k : Nat) (f : Nat → Int32) : St := fun j => if j = k then f else σ j
theorem put_s (σ : St) (k : Nat) (f : Nat → Int32) : put σ k f k = f := if_pos rfl
theorem put_n (σ : St) {k j : Nat} (f : Nat → Int32) (h : j ≠ k) : put σ k f j = σ j := if_neg h
def nwL : List Cond := [
  (Jvm.Cond.methodLinkNest "IceLanes" (11 : Nat) ({ cls := "IceLanes$River", name := "<init>", desc := "()V" } : Jvm.MethodName) "IceLanes"),
  (Jvm.Cond.methodLinkNest "IceLanes$River" (24 : Nat) ({ cls := "IceLanes$Ice", name := "<init>", desc := "()V" } : Jvm.MethodName) "IceLanes"),
  (Jvm.Cond.fieldLinkNest "IceLanes" (62 : Nat) "IceLanes$Ice" "thickness" "[I" "IceLanes"),
  (Jvm.Cond.fieldLinkNest "IceLanes" (82 : Nat) "IceLanes$Ice" "cracks" "[I" "IceLanes"),
  (Jvm.Cond.methodLinkNest "IceLanes$River" (31 : Nat) ({ cls := "IceLanes$Couriers", name := "<init>", desc := "()V" } : Jvm.MethodName) "IceLanes"),
  (Jvm.Cond.fieldLinkNest "IceLanes" (99 : Nat) "IceLanes$Couriers" "number" "I" "IceLanes"),
  (Jvm.Cond.fieldLinkNest "IceLanes$River" (82 : Nat) "IceLanes$Couriers" "number" "I" "IceLanes"),
  (Jvm.Cond.fieldLinkNest "IceLanes$River" (52 : Nat) "IceLanes$Couriers" "weight" "[I" "IceLanes"),
  (Jvm.Cond.fieldLinkNest "IceLanes" (143 : Nat) "IceLanes$Couriers" "letters" "[I" "IceLanes"),
  (Jvm.Cond.fieldLinkNest "IceLanes$River" (121 : Nat) "IceLanes$Couriers" "letters" "[I" "IceLanes"),
  (Jvm.Cond.fieldLinkNest "IceLanes$River" (112 : Nat) "IceLanes$Couriers" "strength" "[I" "IceLanes"),
  (Jvm.Cond.fieldLinkNest "IceLanes$River" (55 : Nat) "IceLanes$Couriers" "section" "[I" "IceLanes"),
  (Jvm.Cond.fieldLinkNest "IceLanes" (130 : Nat) "IceLanes$Couriers" "section" "[I" "IceLanes"),
  (Jvm.Cond.fieldLinkNest "IceLanes$River" (58 : Nat) "IceLanes$Couriers" "lane" "[I" "IceLanes"),
  (Jvm.Cond.fieldLinkNest "IceLanes" (127 : Nat) "IceLanes$Couriers" "goal" "[I" "IceLanes"),
  (Jvm.Cond.fieldLinkNest "IceLanes$River" (92 : Nat) "IceLanes$Couriers" "state" "[I" "IceLanes"),
  (Jvm.Cond.fieldLinkNest "IceLanes" (122 : Nat) "IceLanes$Couriers" "state" "[I" "IceLanes"),
  (Jvm.Cond.fieldLinkNest "IceLanes$River" (115 : Nat) "IceLanes$Couriers" "steps" "[I" "IceLanes"),
  (Jvm.Cond.fieldLinkNest "IceLanes$River" (95 : Nat) "IceLanes$Couriers" "pace" "[I" "IceLanes"),
  (Jvm.Cond.fieldLinkNest "IceLanes" (230 : Nat) "IceLanes$River" "hour" "I" "IceLanes"),
  (Jvm.Cond.fieldLinkNest "IceLanes" (203 : Nat) "IceLanes$River" "thawDay" "I" "IceLanes"),
  (Jvm.Cond.fieldLinkNest "IceLanes" (42 : Nat) "IceLanes$River" "warm" "[I" "IceLanes"),
  (Jvm.Cond.fieldLinkNest "IceLanes" (73 : Nat) "IceLanes$River" "hut" "[I" "IceLanes"),
  (Jvm.Cond.fieldLinkNest "IceLanes" (58 : Nat) "IceLanes$River" "ice" "LIceLanes$Ice;" "IceLanes"),
  (Jvm.Cond.fieldLinkNest "IceLanes" (88 : Nat) "IceLanes$River" "couriers" "LIceLanes$Couriers;" "IceLanes"),
  (Jvm.Cond.methodLinkNest "IceLanes" (21 : Nat) ({ cls := "IceLanes$Wagers", name := "<init>", desc := "()V" } : Jvm.MethodName) "IceLanes"),
  (Jvm.Cond.fieldLinkNest "IceLanes" (160 : Nat) "IceLanes$Wagers" "number" "I" "IceLanes"),
  (Jvm.Cond.fieldLinkNest "IceLanes" (248 : Nat) "IceLanes$Wagers" "day" "[I" "IceLanes"),
  (Jvm.Cond.fieldLinkNest "IceLanes" (251 : Nat) "IceLanes$Wagers" "stake" "[I" "IceLanes"),
  (Jvm.Cond.methodLinkNest "IceLanes" (163 : Nat) ({ cls := "IceLanes$River", name := "hasThawed", desc := "()Z" } : Jvm.MethodName) "IceLanes"),
  (Jvm.Cond.methodLinkNest "IceLanes" (196 : Nat) ({ cls := "IceLanes$River", name := "become", desc := "(LIceLanes$River;)V" } : Jvm.MethodName) "IceLanes"),
  (Jvm.Cond.methodLinkNest "IceLanes$River" (45 : Nat) ({ cls := "IceLanes$Ice", name := "become", desc := "(LIceLanes$Ice;)V" } : Jvm.MethodName) "IceLanes"),
  (Jvm.Cond.methodLinkNest "IceLanes$River" (49 : Nat) ({ cls := "IceLanes$Couriers", name := "become", desc := "(LIceLanes$Couriers;)V" } : Jvm.MethodName) "IceLanes"),
  (Jvm.Cond.methodLinkNest "IceLanes" (206 : Nat) ({ cls := "IceLanes$River", name := "dayOfThaw", desc := "()I" } : Jvm.MethodName) "IceLanes"),
  (Jvm.Cond.methodLinkNest "IceLanes$River" (71 : Nat) ({ cls := "IceLanes$Ice", name := "meetDay", desc := "(I)V" } : Jvm.MethodName) "IceLanes"),
  (Jvm.Cond.methodLinkNest "IceLanes$River" (79 : Nat) ({ cls := "IceLanes$Ice", name := "isOpenAcross", desc := "()Z" } : Jvm.MethodName) "IceLanes"),
  (Jvm.Cond.methodLinkNest "IceLanes$Ice" (24 : Nat) ({ cls := "IceLanes", name := "placeOf", desc := "(II)I" } : Jvm.MethodName) "IceLanes"),
  (Jvm.Cond.methodLinkNest "IceLanes$River" (101 : Nat) ({ cls := "IceLanes$Couriers", name := "loadOf", desc := "(I)I" } : Jvm.MethodName) "IceLanes"),
  (Jvm.Cond.methodLinkNest "IceLanes$River" (105 : Nat) ({ cls := "IceLanes$Couriers", name := "nextSection", desc := "(I)I" } : Jvm.MethodName) "IceLanes"),
  (Jvm.Cond.methodLinkNest "IceLanes$River" (108 : Nat) ({ cls := "IceLanes$Ice", name := "laneFor", desc := "(III)I" } : Jvm.MethodName) "IceLanes"),
  (Jvm.Cond.methodLinkNest "IceLanes$River" (118 : Nat) ({ cls := "IceLanes$Ice", name := "withstands", desc := "(III)Z" } : Jvm.MethodName) "IceLanes"),
  (Jvm.Cond.methodLinkNest "IceLanes$River" (124 : Nat) ({ cls := "IceLanes$Couriers", name := "isAtGoal", desc := "(I)Z" } : Jvm.MethodName) "IceLanes"),
  (Jvm.Cond.methodLinkNest "IceLanes" (209 : Nat) ({ cls := "IceLanes$Ice", name := "inAll", desc := "()I" } : Jvm.MethodName) "IceLanes"),
  (Jvm.Cond.methodLinkNest "IceLanes" (233 : Nat) ({ cls := "IceLanes$Couriers", name := "numberWhose", desc := "(I)I" } : Jvm.MethodName) "IceLanes"),
  (Jvm.Cond.methodLinkNest "IceLanes" (236 : Nat) ({ cls := "IceLanes$Ice", name := "cracksInAll", desc := "()I" } : Jvm.MethodName) "IceLanes"),
  (Jvm.Cond.methodLinkNest "IceLanes" (239 : Nat) ({ cls := "IceLanes$Ice", name := "placesOfOpenWater", desc := "()I" } : Jvm.MethodName) "IceLanes"),
  (Jvm.Cond.methodLinkNest "IceLanes" (76 : Nat) ({ cls := "IceLanes$River", name := "huts", desc := "()I" } : Jvm.MethodName) "IceLanes"),
  (Jvm.Cond.methodLinkNest "IceLanes" (242 : Nat) ({ cls := "IceLanes$Wagers", name := "allStakes", desc := "()I" } : Jvm.MethodName) "IceLanes"),
  (Jvm.Cond.methodLinkNest "IceLanes" (155 : Nat) ({ cls := "IceLanes$Couriers", name := "tell", desc := "(II)I" } : Jvm.MethodName) "IceLanes"),
  (Jvm.Cond.methodLinkNest "IceLanes" (245 : Nat) ({ cls := "IceLanes$Wagers", name := "winOn", desc := "(II)I" } : Jvm.MethodName) "IceLanes"),
  (Jvm.Cond.methodLinkNest "IceLanes" (85 : Nat) ({ cls := "IceLanes$Ice", name := "mostBorneAt", desc := "(II)I" } : Jvm.MethodName) "IceLanes"),
  (Jvm.Cond.methodLinkNest "IceLanes" (92 : Nat) ({ cls := "IceLanes$Couriers", name := "notOutAt", desc := "(II)I" } : Jvm.MethodName) "IceLanes"),
  (Jvm.Cond.methodLinkNest "IceLanes" (108 : Nat) ({ cls := "IceLanes$Ice", name := "holds", desc := "(III)Z" } : Jvm.MethodName) "IceLanes"),
  (Jvm.Cond.methodLinkNest "IceLanes" (113 : Nat) ({ cls := "IceLanes$Couriers", name := "add", desc := "(IIIII)I" } : Jvm.MethodName) "IceLanes"),
  (Jvm.Cond.methodLinkNest "IceLanes" (117 : Nat) ({ cls := "IceLanes$Couriers", name := "has", desc := "(I)Z" } : Jvm.MethodName) "IceLanes"),
  (Jvm.Cond.methodLinkNest "IceLanes$Couriers" (49 : Nat) ({ cls := "IceLanes", name := "isWithin", desc := "(III)Z" } : Jvm.MethodName) "IceLanes"),
  (Jvm.Cond.methodLinkNest "IceLanes" (148 : Nat) ({ cls := "IceLanes$River", name := "holdsCourierWith", desc := "(II)Z" } : Jvm.MethodName) "IceLanes"),
  (Jvm.Cond.methodLinkNest "IceLanes$River" (61 : Nat) ({ cls := "IceLanes$Ice", name := "holds", desc := "(III)Z" } : Jvm.MethodName) "IceLanes"),
  (Jvm.Cond.methodLinkNest "IceLanes" (169 : Nat) ({ cls := "IceLanes$Wagers", name := "add", desc := "(II)I" } : Jvm.MethodName) "IceLanes"),
  (Jvm.Cond.methodLinkNest "IceLanes" (171 : Nat) ({ cls := "IceLanes$Wagers", name := "has", desc := "(I)Z" } : Jvm.MethodName) "IceLanes"),
  (Jvm.Cond.methodLinkNest "IceLanes$Wagers" (22 : Nat) ({ cls := "IceLanes", name := "isWithin", desc := "(III)Z" } : Jvm.MethodName) "IceLanes"),
  (Jvm.Cond.methodLinkNest "IceLanes" (179 : Nat) ({ cls := "IceLanes$River", name := "spendHour", desc := "()I" } : Jvm.MethodName) "IceLanes"),
  (Jvm.Cond.methodLinkNest "IceLanes" (193 : Nat) ({ cls := "IceLanes$Ice", name := "mostBorneBetween", desc := "(II)I" } : Jvm.MethodName) "IceLanes"),
  (Jvm.Cond.methodLinkNest "IceLanes" (200 : Nat) ({ cls := "IceLanes$River", name := "hoursTillArrival", desc := "(I)I" } : Jvm.MethodName) "IceLanes"),
  (Jvm.Cond.methodLinkNest "IceLanesModel" (24 : Nat) ({ cls := "IceLanesModel$State", name := "<init>", desc := "(LIceLanesModel;)V" } : Jvm.MethodName) "IceLanesModel"),
  (Jvm.Cond.fieldLinkNest "IceLanesModel" (125 : Nat) "IceLanesModel$State" "hour" "I" "IceLanesModel"),
  (Jvm.Cond.fieldLinkNest "IceLanesModel" (51 : Nat) "IceLanesModel$State" "couriers" "I" "IceLanesModel"),
  (Jvm.Cond.fieldLinkNest "IceLanesModel" (110 : Nat) "IceLanesModel$State" "thawed" "I" "IceLanesModel"),
  (Jvm.Cond.fieldLinkNest "IceLanesModel" (119 : Nat) "IceLanesModel$State" "came" "I" "IceLanesModel"),
  (Jvm.Cond.fieldLinkNest "IceLanesModel" (40 : Nat) "IceLanesModel$State" "ice" "[I" "IceLanesModel"),
  (Jvm.Cond.fieldLinkNest "IceLanesModel" (78 : Nat) "IceLanesModel$State" "cracks" "[I" "IceLanesModel"),
  (Jvm.Cond.fieldLinkNest "IceLanesModel" (87 : Nat) "IceLanesModel$State" "of" "[I" "IceLanesModel"),
  (Jvm.Cond.fieldLinkNest "IceLanesModel$State" (52 : Nat) "IceLanesModel" "warm" "[I" "IceLanesModel"),
  (Jvm.Cond.fieldLinkNest "IceLanesModel$State" (87 : Nat) "IceLanesModel" "hut" "[I" "IceLanesModel")]
def isNW : Cond → Bool := fun w => match w with
  | .fieldLinkNest .. => true
  | .methodLinkNest .. => true
  | _ => false
theorem nwL_is : nwL.all isNW = true := rfl
def NW (U : State) : Prop := ∀ w ∈ nwL, va_Nw w U
theorem NW.warm {s U : State} (hW : s.WarmedH U.vm) (h : NW s) : NW U := by
  intro w hw
  have h1 : isNW w = true := List.all_eq_true.mp nwL_is w hw
  have h2 := h w hw
  cases w <;> first | exact va_Nw.warmF hW h2 | exact va_Nw.warmM hW h2 | cases h1
theorem NW.same {u U : State} (hvm : u.vm = U.vm) (h : NW u) : NW U := by
  intro w hw
  have h1 : isNW w = true := List.all_eq_true.mp nwL_is w hw
  have h2 := h w hw
  cases w <;> first | exact va_Nw.same rfl hvm h2 | cases h1
theorem nX4_11 {s : State} (h : NW s) : va_Nw (.methodLinkNest RX4 11 yX2_init "IceLanes") s := h _ (List.mem_of_getElem? (i := 0) rfl)
theorem nX2_24 {s : State} (h : NW s) : va_Nw (.methodLinkNest RX2 24 yX1_init "IceLanes") s := h _ (List.mem_of_getElem? (i := 1) rfl)
theorem nX4_62 {s : State} (h : NW s) : va_Nw (.fieldLinkNest RX4 62 "IceLanes$Ice" "thickness" "[I" "IceLanes") s := h _ (List.mem_of_getElem? (i := 2) rfl)
theorem nX4_82 {s : State} (h : NW s) : va_Nw (.fieldLinkNest RX4 82 "IceLanes$Ice" "cracks" "[I" "IceLanes") s := h _ (List.mem_of_getElem? (i := 3) rfl)
theorem nX2_31 {s : State} (h : NW s) : va_Nw (.methodLinkNest RX2 31 yX0_init "IceLanes") s := h _ (List.mem_of_getElem? (i := 4) rfl)
theorem nX4_99 {s : State} (h : NW s) : va_Nw (.fieldLinkNest RX4 99 "IceLanes$Couriers" "number" "I" "IceLanes") s := h _ (List.mem_of_getElem? (i := 5) rfl)
theorem nX2_82 {s : State} (h : NW s) : va_Nw (.fieldLinkNest RX2 82 "IceLanes$Couriers" "number" "I" "IceLanes") s := h _ (List.mem_of_getElem? (i := 6) rfl)
theorem nX2_52 {s : State} (h : NW s) : va_Nw (.fieldLinkNest RX2 52 "IceLanes$Couriers" "weight" "[I" "IceLanes") s := h _ (List.mem_of_getElem? (i := 7) rfl)
theorem nX4_143 {s : State} (h : NW s) : va_Nw (.fieldLinkNest RX4 143 "IceLanes$Couriers" "letters" "[I" "IceLanes") s := h _ (List.mem_of_getElem? (i := 8) rfl)
theorem nX2_121 {s : State} (h : NW s) : va_Nw (.fieldLinkNest RX2 121 "IceLanes$Couriers" "letters" "[I" "IceLanes") s := h _ (List.mem_of_getElem? (i := 9) rfl)
theorem nX2_112 {s : State} (h : NW s) : va_Nw (.fieldLinkNest RX2 112 "IceLanes$Couriers" "strength" "[I" "IceLanes") s := h _ (List.mem_of_getElem? (i := 10) rfl)
theorem nX2_55 {s : State} (h : NW s) : va_Nw (.fieldLinkNest RX2 55 "IceLanes$Couriers" "section" "[I" "IceLanes") s := h _ (List.mem_of_getElem? (i := 11) rfl)
theorem nX4_130 {s : State} (h : NW s) : va_Nw (.fieldLinkNest RX4 130 "IceLanes$Couriers" "section" "[I" "IceLanes") s := h _ (List.mem_of_getElem? (i := 12) rfl)
theorem nX2_58 {s : State} (h : NW s) : va_Nw (.fieldLinkNest RX2 58 "IceLanes$Couriers" "lane" "[I" "IceLanes") s := h _ (List.mem_of_getElem? (i := 13) rfl)
theorem nX4_127 {s : State} (h : NW s) : va_Nw (.fieldLinkNest RX4 127 "IceLanes$Couriers" "goal" "[I" "IceLanes") s := h _ (List.mem_of_getElem? (i := 14) rfl)
theorem nX2_92 {s : State} (h : NW s) : va_Nw (.fieldLinkNest RX2 92 "IceLanes$Couriers" "state" "[I" "IceLanes") s := h _ (List.mem_of_getElem? (i := 15) rfl)
theorem nX4_122 {s : State} (h : NW s) : va_Nw (.fieldLinkNest RX4 122 "IceLanes$Couriers" "state" "[I" "IceLanes") s := h _ (List.mem_of_getElem? (i := 16) rfl)
theorem nX2_115 {s : State} (h : NW s) : va_Nw (.fieldLinkNest RX2 115 "IceLanes$Couriers" "steps" "[I" "IceLanes") s := h _ (List.mem_of_getElem? (i := 17) rfl)
theorem nX2_95 {s : State} (h : NW s) : va_Nw (.fieldLinkNest RX2 95 "IceLanes$Couriers" "pace" "[I" "IceLanes") s := h _ (List.mem_of_getElem? (i := 18) rfl)
theorem nX4_230 {s : State} (h : NW s) : va_Nw (.fieldLinkNest RX4 230 "IceLanes$River" "hour" "I" "IceLanes") s := h _ (List.mem_of_getElem? (i := 19) rfl)
theorem nX4_203 {s : State} (h : NW s) : va_Nw (.fieldLinkNest RX4 203 "IceLanes$River" "thawDay" "I" "IceLanes") s := h _ (List.mem_of_getElem? (i := 20) rfl)
theorem nX4_42 {s : State} (h : NW s) : va_Nw (.fieldLinkNest RX4 42 "IceLanes$River" "warm" "[I" "IceLanes") s := h _ (List.mem_of_getElem? (i := 21) rfl)
theorem nX4_73 {s : State} (h : NW s) : va_Nw (.fieldLinkNest RX4 73 "IceLanes$River" "hut" "[I" "IceLanes") s := h _ (List.mem_of_getElem? (i := 22) rfl)
theorem nX4_58 {s : State} (h : NW s) : va_Nw (.fieldLinkNest RX4 58 "IceLanes$River" "ice" "LIceLanes$Ice;" "IceLanes") s := h _ (List.mem_of_getElem? (i := 23) rfl)
theorem nX4_88 {s : State} (h : NW s) : va_Nw (.fieldLinkNest RX4 88 "IceLanes$River" "couriers" "LIceLanes$Couriers;" "IceLanes") s := h _ (List.mem_of_getElem? (i := 24) rfl)
theorem nX4_21 {s : State} (h : NW s) : va_Nw (.methodLinkNest RX4 21 yX3_init "IceLanes") s := h _ (List.mem_of_getElem? (i := 25) rfl)
theorem nX4_160 {s : State} (h : NW s) : va_Nw (.fieldLinkNest RX4 160 "IceLanes$Wagers" "number" "I" "IceLanes") s := h _ (List.mem_of_getElem? (i := 26) rfl)
theorem nX4_248 {s : State} (h : NW s) : va_Nw (.fieldLinkNest RX4 248 "IceLanes$Wagers" "day" "[I" "IceLanes") s := h _ (List.mem_of_getElem? (i := 27) rfl)
theorem nX4_251 {s : State} (h : NW s) : va_Nw (.fieldLinkNest RX4 251 "IceLanes$Wagers" "stake" "[I" "IceLanes") s := h _ (List.mem_of_getElem? (i := 28) rfl)
theorem nX4_163 {s : State} (h : NW s) : va_Nw (.methodLinkNest RX4 163 yX2_hasThawed "IceLanes") s := h _ (List.mem_of_getElem? (i := 29) rfl)
theorem nX4_196 {s : State} (h : NW s) : va_Nw (.methodLinkNest RX4 196 yX2_become "IceLanes") s := h _ (List.mem_of_getElem? (i := 30) rfl)
theorem nX2_45 {s : State} (h : NW s) : va_Nw (.methodLinkNest RX2 45 yX1_become "IceLanes") s := h _ (List.mem_of_getElem? (i := 31) rfl)
theorem nX2_49 {s : State} (h : NW s) : va_Nw (.methodLinkNest RX2 49 yX0_become "IceLanes") s := h _ (List.mem_of_getElem? (i := 32) rfl)
theorem nX4_206 {s : State} (h : NW s) : va_Nw (.methodLinkNest RX4 206 yX2_dayOfThaw "IceLanes") s := h _ (List.mem_of_getElem? (i := 33) rfl)
theorem nX2_71 {s : State} (h : NW s) : va_Nw (.methodLinkNest RX2 71 yX1_meetDay "IceLanes") s := h _ (List.mem_of_getElem? (i := 34) rfl)
theorem nX2_79 {s : State} (h : NW s) : va_Nw (.methodLinkNest RX2 79 yX1_isOpenAcross "IceLanes") s := h _ (List.mem_of_getElem? (i := 35) rfl)
theorem nX1_24 {s : State} (h : NW s) : va_Nw (.methodLinkNest RX1 24 yX4_placeOf "IceLanes") s := h _ (List.mem_of_getElem? (i := 36) rfl)
theorem nX2_101 {s : State} (h : NW s) : va_Nw (.methodLinkNest RX2 101 yX0_loadOf "IceLanes") s := h _ (List.mem_of_getElem? (i := 37) rfl)
theorem nX2_105 {s : State} (h : NW s) : va_Nw (.methodLinkNest RX2 105 yX0_nextSection "IceLanes") s := h _ (List.mem_of_getElem? (i := 38) rfl)
theorem nX2_108 {s : State} (h : NW s) : va_Nw (.methodLinkNest RX2 108 yX1_laneFor "IceLanes") s := h _ (List.mem_of_getElem? (i := 39) rfl)
theorem nX2_118 {s : State} (h : NW s) : va_Nw (.methodLinkNest RX2 118 yX1_withstands "IceLanes") s := h _ (List.mem_of_getElem? (i := 40) rfl)
theorem nX2_124 {s : State} (h : NW s) : va_Nw (.methodLinkNest RX2 124 yX0_isAtGoal "IceLanes") s := h _ (List.mem_of_getElem? (i := 41) rfl)
theorem nX4_209 {s : State} (h : NW s) : va_Nw (.methodLinkNest RX4 209 yX1_inAll "IceLanes") s := h _ (List.mem_of_getElem? (i := 42) rfl)
theorem nX4_233 {s : State} (h : NW s) : va_Nw (.methodLinkNest RX4 233 yX0_numberWhose "IceLanes") s := h _ (List.mem_of_getElem? (i := 43) rfl)
theorem nX4_236 {s : State} (h : NW s) : va_Nw (.methodLinkNest RX4 236 yX1_cracksInAll "IceLanes") s := h _ (List.mem_of_getElem? (i := 44) rfl)
theorem nX4_239 {s : State} (h : NW s) : va_Nw (.methodLinkNest RX4 239 yX1_placesOfOpenWater "IceLanes") s := h _ (List.mem_of_getElem? (i := 45) rfl)
theorem nX4_76 {s : State} (h : NW s) : va_Nw (.methodLinkNest RX4 76 yX2_huts "IceLanes") s := h _ (List.mem_of_getElem? (i := 46) rfl)
theorem nX4_242 {s : State} (h : NW s) : va_Nw (.methodLinkNest RX4 242 yX3_allStakes "IceLanes") s := h _ (List.mem_of_getElem? (i := 47) rfl)
theorem nX4_155 {s : State} (h : NW s) : va_Nw (.methodLinkNest RX4 155 yX0_tell "IceLanes") s := h _ (List.mem_of_getElem? (i := 48) rfl)
theorem nX4_245 {s : State} (h : NW s) : va_Nw (.methodLinkNest RX4 245 yX3_winOn "IceLanes") s := h _ (List.mem_of_getElem? (i := 49) rfl)
theorem nX4_85 {s : State} (h : NW s) : va_Nw (.methodLinkNest RX4 85 yX1_mostBorneAt "IceLanes") s := h _ (List.mem_of_getElem? (i := 50) rfl)
theorem nX4_92 {s : State} (h : NW s) : va_Nw (.methodLinkNest RX4 92 yX0_notOutAt "IceLanes") s := h _ (List.mem_of_getElem? (i := 51) rfl)
theorem nX4_108 {s : State} (h : NW s) : va_Nw (.methodLinkNest RX4 108 yX1_holds "IceLanes") s := h _ (List.mem_of_getElem? (i := 52) rfl)
theorem nX4_113 {s : State} (h : NW s) : va_Nw (.methodLinkNest RX4 113 yX0_add "IceLanes") s := h _ (List.mem_of_getElem? (i := 53) rfl)
theorem nX4_117 {s : State} (h : NW s) : va_Nw (.methodLinkNest RX4 117 yX0_has "IceLanes") s := h _ (List.mem_of_getElem? (i := 54) rfl)
theorem nX0_49 {s : State} (h : NW s) : va_Nw (.methodLinkNest RX0 49 yX4_isWithin "IceLanes") s := h _ (List.mem_of_getElem? (i := 55) rfl)
theorem nX4_148 {s : State} (h : NW s) : va_Nw (.methodLinkNest RX4 148 yX2_holdsCourierWith "IceLanes") s := h _ (List.mem_of_getElem? (i := 56) rfl)
theorem nX2_61 {s : State} (h : NW s) : va_Nw (.methodLinkNest RX2 61 yX1_holds "IceLanes") s := h _ (List.mem_of_getElem? (i := 57) rfl)
theorem nX4_169 {s : State} (h : NW s) : va_Nw (.methodLinkNest RX4 169 yX3_add "IceLanes") s := h _ (List.mem_of_getElem? (i := 58) rfl)
theorem nX4_171 {s : State} (h : NW s) : va_Nw (.methodLinkNest RX4 171 yX3_has "IceLanes") s := h _ (List.mem_of_getElem? (i := 59) rfl)
theorem nX3_22 {s : State} (h : NW s) : va_Nw (.methodLinkNest RX3 22 yX4_isWithin "IceLanes") s := h _ (List.mem_of_getElem? (i := 60) rfl)
theorem nX4_179 {s : State} (h : NW s) : va_Nw (.methodLinkNest RX4 179 yX2_spendHour "IceLanes") s := h _ (List.mem_of_getElem? (i := 61) rfl)
theorem nX4_193 {s : State} (h : NW s) : va_Nw (.methodLinkNest RX4 193 yX1_mostBorneBetween "IceLanes") s := h _ (List.mem_of_getElem? (i := 62) rfl)
theorem nX4_200 {s : State} (h : NW s) : va_Nw (.methodLinkNest RX4 200 yX2_hoursTillArrival "IceLanes") s := h _ (List.mem_of_getElem? (i := 63) rfl)
theorem nX6_24 {s : State} (h : NW s) : va_Nw (.methodLinkNest RX6 24 yX5_init "IceLanesModel") s := h _ (List.mem_of_getElem? (i := 64) rfl)
theorem nX6_125 {s : State} (h : NW s) : va_Nw (.fieldLinkNest RX6 125 "IceLanesModel$State" "hour" "I" "IceLanesModel") s := h _ (List.mem_of_getElem? (i := 65) rfl)
theorem nX6_51 {s : State} (h : NW s) : va_Nw (.fieldLinkNest RX6 51 "IceLanesModel$State" "couriers" "I" "IceLanesModel") s := h _ (List.mem_of_getElem? (i := 66) rfl)
theorem nX6_110 {s : State} (h : NW s) : va_Nw (.fieldLinkNest RX6 110 "IceLanesModel$State" "thawed" "I" "IceLanesModel") s := h _ (List.mem_of_getElem? (i := 67) rfl)
theorem nX6_119 {s : State} (h : NW s) : va_Nw (.fieldLinkNest RX6 119 "IceLanesModel$State" "came" "I" "IceLanesModel") s := h _ (List.mem_of_getElem? (i := 68) rfl)
theorem nX6_40 {s : State} (h : NW s) : va_Nw (.fieldLinkNest RX6 40 "IceLanesModel$State" "ice" "[I" "IceLanesModel") s := h _ (List.mem_of_getElem? (i := 69) rfl)
theorem nX6_78 {s : State} (h : NW s) : va_Nw (.fieldLinkNest RX6 78 "IceLanesModel$State" "cracks" "[I" "IceLanesModel") s := h _ (List.mem_of_getElem? (i := 70) rfl)
theorem nX6_87 {s : State} (h : NW s) : va_Nw (.fieldLinkNest RX6 87 "IceLanesModel$State" "of" "[I" "IceLanesModel") s := h _ (List.mem_of_getElem? (i := 71) rfl)
theorem nX5_52 {s : State} (h : NW s) : va_Nw (.fieldLinkNest RX5 52 "IceLanesModel" "warm" "[I" "IceLanesModel") s := h _ (List.mem_of_getElem? (i := 72) rfl)
theorem nX5_87 {s : State} (h : NW s) : va_Nw (.fieldLinkNest RX5 87 "IceLanesModel" "hut" "[I" "IceLanesModel") s := h _ (List.mem_of_getElem? (i := 73) rfl)
def KK (D : va_G) (tys : List (ClassId × FieldType)) (U : State) : Prop := va_K D vwCl tys U ∧ NW U
theorem KK.warm {D : va_G} {tys : List (ClassId × FieldType)} {s U : State} (hW : s.WarmedH U.vm) (h : KK D tys s) : KK D tys U := ⟨va_K.moved hW.alike h.1, h.2.warm hW⟩
theorem KK.calling {D : va_G} {tys : List (ClassId × FieldType)} {U : State} (g : JFrame) (mk : MethodId) (a : Array Value) (h : KK D tys U) : KK D tys (U.calling g mk a) := ⟨va_K.moved (u := U) (U := U.calling g mk a) (Vm.Alike.refl U.vm) h.1, NW.same (u := U) (U := U.calling g mk a) rfl h.2⟩
theorem KK.sub {D : va_G} {tys tys' : List (ClassId × FieldType)} {U : State} (h : KK D tys U) (is : List Nat) (hs : is.filterMap (fun i => tys[i]?) = tys') : KK D tys' U := ⟨h.1.sub is hs, h.2⟩
def rdPc (As : List Value) (D : va_G) (w : va_W) (tys : List (ClassId × FieldType)) : Array Value → State → Prop := fun v U => v = As.toArray ∧ va_P D vwCl w U.heap ∧ KK D tys U
def wrPc (As : List Value) (D : va_G) (w : va_W) (tys : List (ClassId × FieldType)) (sz : Nat) : Array Value → State → Prop := fun v U => v = As.toArray ∧ U.heap.size = sz ∧ va_P D vwCl w U.heap ∧ KK D tys U ∧ va_D (fun _ => True) w
theorem rd_blind {As : List Value} {D : va_G} {w : va_W} {tys : List (ClassId × FieldType)} : FrameBlind (rdPc As D w tys) := fun a U g mk q => ⟨q.1, q.2.1, q.2.2.calling g mk a⟩
theorem wr_blind {As : List Value} {D : va_G} {w : va_W} {tys : List (ClassId × FieldType)} {sz : Nat} : FrameBlind (wrPc As D w tys sz) := fun a U g mk q => ⟨q.1, q.2.1, q.2.2.1, q.2.2.2.1.calling g mk a, q.2.2.2.2⟩
theorem fm_of_map {α β : Type} {f : α → Option β} : ∀ {is : List α} {w : List β}, is.map f = w.map some → is.filterMap f = w
  | [], [], _ => rfl
  | [], b :: w, h => by simp at h
  | i :: is, [], h => by simp at h
  | i :: is, b :: w, h => by
    simp only [List.map_cons, List.cons.injEq] at h
    rw [List.filterMap_cons, h.1]
    simp only [fm_of_map h.2]
theorem rdV {s : State} {H : Heap} {C : String} {T : u_T} {N b q0 ci : Nat} {fs As : List Value} {D : va_G} {w ws : va_W} {tys tys0 : List (ClassId × FieldType)} (hK : KK D tys0 s) (hP : va_P D vwCl ws H) (is ts : List Nat) (hs : is.map (fun i => ws[i]?) = w.map some) (ht : ts.filterMap (fun i => tys0[i]?) = tys) (hc : vwCl[ci]? = some (C, T, N)) (he : ws[q0]? = some (b, .inr (ci, fs))) : PreV s H C b (rdPc (.ref b :: As) D w tys) As :=
  ⟨rd_blind, va_recv hK.1 hP hc he, fun U hU hW => ⟨rfl, by rw [hU]; exact hP.sub is (fm_of_map hs), (hK.sub ts ht).warm hW⟩⟩
theorem rdS {s : State} {H : Heap} {As : List Value} {D : va_G} {w ws : va_W} {tys tys0 : List (ClassId × FieldType)} (hK : KK D tys0 s) (hP : va_P D vwCl ws H) (is ts : List Nat) (hs : is.map (fun i => ws[i]?) = w.map some) (ht : ts.filterMap (fun i => tys0[i]?) = tys) : PreS s H (rdPc As D w tys) As :=
  ⟨rd_blind, fun U hU hW => ⟨rfl, by rw [hU]; exact hP.sub is (fm_of_map hs), (hK.sub ts ht).warm hW⟩⟩
theorem wrV {s : State} {H : Heap} {C : String} {T : u_T} {N b q0 ci : Nat} {fs As : List Value} {D : va_G} {w ws : va_W} {A : Nat → Prop} {tys tys0 : List (ClassId × FieldType)} (hK : KK D tys0 s) (hP : va_P D vwCl ws H) (hD : va_D A ws) (is ts : List Nat) (hn : va_nd is = true) (hs : is.map (fun i => ws[i]?) = w.map some) (ht : ts.filterMap (fun i => tys0[i]?) = tys) (hc : vwCl[ci]? = some (C, T, N)) (he : ws[q0]? = some (b, .inr (ci, fs))) : PreV s H C b (wrPc (.ref b :: As) D w tys H.size) As :=
  ⟨wr_blind, va_recv hK.1 hP hc he, fun U hU hW => ⟨rfl, by rw [hU], by rw [hU]; exact hP.sub is (fm_of_map hs), (hK.sub ts ht).warm hW, (hD.sub is hn hs).weaken (fun _ _ _ _ => trivial)⟩⟩
theorem wrS {s : State} {H : Heap} {As : List Value} {D : va_G} {w ws : va_W} {A : Nat → Prop} {tys tys0 : List (ClassId × FieldType)} (hK : KK D tys0 s) (hP : va_P D vwCl ws H) (hD : va_D A ws) (is ts : List Nat) (hn : va_nd is = true) (hs : is.map (fun i => ws[i]?) = w.map some) (ht : ts.filterMap (fun i => tys0[i]?) = tys) : PreS s H (wrPc As D w tys H.size) As :=
  ⟨wr_blind, fun U hU hW => ⟨rfl, by rw [hU], by rw [hU]; exact hP.sub is (fm_of_map hs), (hK.sub ts ht).warm hW, (hD.sub is hn hs).weaken (fun _ _ _ _ => trivial)⟩⟩
abbrev rdQi (v : Int32) : Array Value → State → Outcome → State → Prop := vp_Si (fun r => r = v)
abbrev rdQl (v : Int64) : Array Value → State → Outcome → State → Prop := vp_Sl (fun r => r = v)
abbrev rdQd (v : UInt64) : Array Value → State → Outcome → State → Prop := vp_Sd (fun r => r = v)
abbrev wrB (D : va_G) (w : va_W) (A : Nat → Prop) : Unit → State → Prop := fun _ t => va_P D vwCl w t.heap ∧ va_D A w
abbrev wrQi (v : Int32) (D : va_G) (w : va_W) (A : Nat → Prop) : Array Value → State → Outcome → State → Prop := va_Qi (fun r _ => r = v) (wrB D w A) A
abbrev wrQl (v : Int64) (D : va_G) (w : va_W) (A : Nat → Prop) : Array Value → State → Outcome → State → Prop := va_Ql (fun r _ => r = v) (wrB D w A) A
abbrev wrQd (v : UInt64) (D : va_G) (w : va_W) (A : Nat → Prop) : Array Value → State → Outcome → State → Prop := va_Qd (fun r _ => r = v) (wrB D w A) A
abbrev wrQv (D : va_G) (w : va_W) (A : Nat → Prop) : Array Value → State → Outcome → State → Prop := va_Qv (fun _ => True) (wrB D w A) A
theorem my_abs {p : Program} {l : Launch} {e : Env} {R : Room} {s : State} {m : MethodId} {args : Array Value} {below : List Frame} {meth : Method} {c : Code} {H : Heap} {locs : List Loc} {cells slots : Nat} {Q : State → Prop} {g : JFrame} (k : ∀ Q' : State → Prop, Q' = Q → W p l e R s m args below meth c H locs cells slots Q' g) : W p l e R s m args below meth c H locs cells slots Q g := k Q rfl
theorem my_entry {m : MethodId} {args : Array Value} {vs : List Value} {n : Nat} (h : args = vs.toArray) (hn : (lg_sl vs).length ≤ n) : ∃ ls, lv_has ls n (lv_args 0 vs) ∧ entryFrame m args n = F0 m 0 ls [] := ⟨_, lv_entry vs hn, by rw [h, lg_entry_eq]⟩
def pickW (ws : va_W) (is : List Nat) : va_W := is.filterMap (fun i => ws[i]?)
theorem pickW_map {ws : va_W} : ∀ {is : List Nat}, is.all (fun i => Nat.blt i ws.length) = true → is.map (fun i => ws[i]?) = (pickW ws is).map some
  | [], _ => rfl
  | i :: is, h => by
    simp only [List.all_cons, Bool.and_eq_true] at h
    have h1 : i < ws.length := Nat.blt_eq.mp h.1
    have h2 := pickW_map (ws := ws) h.2
    unfold pickW at h2 ⊢
    rw [List.map_cons, h2, List.getElem?_eq_getElem h1]
    simp [List.filterMap_cons, List.getElem?_eq_getElem h1]
section Rules
variable {p : Program} {l : Launch} {e : Env} {R : Room} {s : State} {m : MethodId} {args : Array Value} {below : List Frame} {meth : Method} {c : Code} {H : Heap} {locs : List Loc} {cells slots : Nat} {Q : State → Prop}
variable {a : Array Value} {pc : Nat} {ls : Array Slot} {st0 rest : List Value} {mc ms : Nat} {A0 : Nat → Prop} {H0 : Heap}
theorem rd_i {v : Int32} (hr : va_Run p l e R s m args below meth c H locs cells slots 0 0 (F0 m pc ls st0) rest (rdQi v a) (fun _ => False)) (kk : W p l e R s m args below meth c H locs cells slots Q (F0 m (pc + 3) ls (.int v :: rest))) : W p l e R s m args below meth c H locs cells slots Q (F0 m pc ls st0) :=
  vp_callSi hr.run (fun r h => by subst h; exact kk)
theorem rd_l {v : Int64} (hr : va_Run p l e R s m args below meth c H locs cells slots 0 0 (F0 m pc ls st0) rest (rdQl v a) (fun _ => False)) (kk : W p l e R s m args below meth c H locs cells slots Q (F0 m (pc + 3) ls (.long v :: rest))) : W p l e R s m args below meth c H locs cells slots Q (F0 m pc ls st0) := by
  intro T hT X
  obtain ⟨v9, st₀, t, T', L, h0, X', hL, e1, -, ⟨r, hv, hp, hh⟩, st⟩ := hr T hT X
  cases hv
  subst hp
  obtain ⟨t2, a1, b1⟩ := kk T' (by rw [e1, hh, h0]) (Stand.forget X' (fun q h => (hL q h).elim))
  exact ⟨t2, st t2 a1, b1⟩
theorem rd_d {v : UInt64} (hr : va_Run p l e R s m args below meth c H locs cells slots 0 0 (F0 m pc ls st0) rest (rdQd v a) (fun _ => False)) (kk : W p l e R s m args below meth c H locs cells slots Q (F0 m (pc + 3) ls (.double v :: rest))) : W p l e R s m args below meth c H locs cells slots Q (F0 m pc ls st0) := by
  intro T hT X
  obtain ⟨v9, st₀, t, T', L, h0, X', hL, e1, -, ⟨r, hv, hp, hh⟩, st⟩ := hr T hT X
  cases hv
  subst hp
  obtain ⟨t2, a1, b1⟩ := kk T' (by rw [e1, hh, h0]) (Stand.forget X' (fun q h => (hL q h).elim))
  exact ⟨t2, st t2 a1, b1⟩
theorem my_join {D : va_G} {ws wc w1 wn : va_W} {H1 : Heap} (hP : va_P D vwCl ws H) (hD : va_D A0 ws) (isC isR perm : List Nat) (hC : isC.map (fun i => ws[i]?) = wc.map some) (hlt : isR.all (fun i => Nat.blt i ws.length) = true) (hn : va_nd isR = true) (hdis : isR.all (fun i => !(isC.contains i)) = true) (hpn : va_nd perm = true) (hw : perm.map (fun i => (pickW ws isR ++ w1)[i]?) = wn.map some)
    (hk : ∀ q : Nat, q < H.size → ¬ va_A wc H.size q → H1[q]? = H[q]?) (hF : ∀ q, va_A wc H.size q → A0 q) (hP1 : va_P D vwCl w1 H1) (hD1 : va_D (va_A wc H.size) w1) : va_P D vwCl wn H1 ∧ va_D A0 wn := by
  obtain ⟨h1, h2⟩ := va_join (wr := pickW ws isR) hP hD isC isR hC (pickW_map hlt) hn (fun i hi hc => by
    have := List.all_eq_true.mp hdis i hi
    simp at this
    exact this hc) hk hF hP1 hD1
  exact ⟨h1.sub perm (fm_of_map hw), h2.sub perm hpn hw⟩
theorem wr_i {D : va_G} {ws wc w1 wn : va_W} {v : Int32} (hr : va_Run p l e R s m args below meth c H locs cells slots mc ms (F0 m pc ls st0) rest (wrQi v D w1 (va_A wc H.size) a) (va_A wc H.size)) (hP : va_P D vwCl ws H) (hD : va_D A0 ws) (hS : va_S A0 H0 H locs) (hA : ∀ q, H0.size ≤ q → A0 q) (isC isR perm : List Nat) (hC : isC.map (fun i => ws[i]?) = wc.map some) (hlt : isR.all (fun i => Nat.blt i ws.length) = true) (hn : va_nd isR = true) (hdis : isR.all (fun i => !(isC.contains i)) = true) (hpn : va_nd perm = true) (hw : perm.map (fun i => (pickW ws isR ++ w1)[i]?) = wn.map some)
    (kk : ∀ (H1 : Heap) (locs1 : List Loc), va_P D vwCl wn H1 → va_D A0 wn → va_S A0 H0 H1 locs1 → W p l e R s m args below meth c H1 locs1 (cells + mc) (slots + ms) Q (F0 m (pc + 3) ls (.int v :: rest))) : W p l e R s m args below meth c H locs cells slots Q (F0 m pc ls st0) := by
  have hF := va_free (wc := wc) hD hS hA isC hC
  refine va_calli hr hS (fun q _ h => hF q h) hF (fun r u t H1 locs1 ht hvm h1 hB hz hk hS1 => ?_)
  subst h1
  obtain ⟨hP1, hD1⟩ := hB
  rw [ht] at hP1
  obtain ⟨k1, k2⟩ := my_join hP hD isC isR perm hC hlt hn hdis hpn hw hk hF hP1 hD1
  exact kk H1 locs1 k1 k2 hS1
theorem wr_l {D : va_G} {ws wc w1 wn : va_W} {v : Int64} (hr : va_Run p l e R s m args below meth c H locs cells slots mc ms (F0 m pc ls st0) rest (wrQl v D w1 (va_A wc H.size) a) (va_A wc H.size)) (hP : va_P D vwCl ws H) (hD : va_D A0 ws) (hS : va_S A0 H0 H locs) (hA : ∀ q, H0.size ≤ q → A0 q) (isC isR perm : List Nat) (hC : isC.map (fun i => ws[i]?) = wc.map some) (hlt : isR.all (fun i => Nat.blt i ws.length) = true) (hn : va_nd isR = true) (hdis : isR.all (fun i => !(isC.contains i)) = true) (hpn : va_nd perm = true) (hw : perm.map (fun i => (pickW ws isR ++ w1)[i]?) = wn.map some)
    (kk : ∀ (H1 : Heap) (locs1 : List Loc), va_P D vwCl wn H1 → va_D A0 wn → va_S A0 H0 H1 locs1 → W p l e R s m args below meth c H1 locs1 (cells + mc) (slots + ms) Q (F0 m (pc + 3) ls (.long v :: rest))) : W p l e R s m args below meth c H locs cells slots Q (F0 m pc ls st0) := by
  have hF := va_free (wc := wc) hD hS hA isC hC
  refine va_calll hr hS (fun q _ h => hF q h) hF (fun r u t H1 locs1 ht hvm h1 hB hz hk hS1 => ?_)
  subst h1
  obtain ⟨hP1, hD1⟩ := hB
  rw [ht] at hP1
  obtain ⟨k1, k2⟩ := my_join hP hD isC isR perm hC hlt hn hdis hpn hw hk hF hP1 hD1
  exact kk H1 locs1 k1 k2 hS1
theorem wr_d {D : va_G} {ws wc w1 wn : va_W} {v : UInt64} (hr : va_Run p l e R s m args below meth c H locs cells slots mc ms (F0 m pc ls st0) rest (wrQd v D w1 (va_A wc H.size) a) (va_A wc H.size)) (hP : va_P D vwCl ws H) (hD : va_D A0 ws) (hS : va_S A0 H0 H locs) (hA : ∀ q, H0.size ≤ q → A0 q) (isC isR perm : List Nat) (hC : isC.map (fun i => ws[i]?) = wc.map some) (hlt : isR.all (fun i => Nat.blt i ws.length) = true) (hn : va_nd isR = true) (hdis : isR.all (fun i => !(isC.contains i)) = true) (hpn : va_nd perm = true) (hw : perm.map (fun i => (pickW ws isR ++ w1)[i]?) = wn.map some)
    (kk : ∀ (H1 : Heap) (locs1 : List Loc), va_P D vwCl wn H1 → va_D A0 wn → va_S A0 H0 H1 locs1 → W p l e R s m args below meth c H1 locs1 (cells + mc) (slots + ms) Q (F0 m (pc + 3) ls (.double v :: rest))) : W p l e R s m args below meth c H locs cells slots Q (F0 m pc ls st0) := by
  have hF := va_free (wc := wc) hD hS hA isC hC
  refine va_calld hr hS (fun q _ h => hF q h) hF (fun r u t H1 locs1 ht hvm h1 hB hz hk hS1 => ?_)
  subst h1
  obtain ⟨hP1, hD1⟩ := hB
  rw [ht] at hP1
  obtain ⟨k1, k2⟩ := my_join hP hD isC isR perm hC hlt hn hdis hpn hw hk hF hP1 hD1
  exact kk H1 locs1 k1 k2 hS1
theorem wr_v {D : va_G} {ws wc w1 wn : va_W} (hr : va_Run p l e R s m args below meth c H locs cells slots mc ms (F0 m pc ls st0) rest (wrQv D w1 (va_A wc H.size) a) (va_A wc H.size)) (hP : va_P D vwCl ws H) (hD : va_D A0 ws) (hS : va_S A0 H0 H locs) (hA : ∀ q, H0.size ≤ q → A0 q) (isC isR perm : List Nat) (hC : isC.map (fun i => ws[i]?) = wc.map some) (hlt : isR.all (fun i => Nat.blt i ws.length) = true) (hn : va_nd isR = true) (hdis : isR.all (fun i => !(isC.contains i)) = true) (hpn : va_nd perm = true) (hw : perm.map (fun i => (pickW ws isR ++ w1)[i]?) = wn.map some)
    (kk : ∀ (H1 : Heap) (locs1 : List Loc), va_P D vwCl wn H1 → va_D A0 wn → va_S A0 H0 H1 locs1 → W p l e R s m args below meth c H1 locs1 (cells + mc) (slots + ms) Q (F0 m (pc + 3) ls rest)) : W p l e R s m args below meth c H locs cells slots Q (F0 m pc ls st0) := by
  have hF := va_free (wc := wc) hD hS hA isC hC
  refine va_callv hr hS (fun q _ h => hF q h) hF (fun u t H1 locs1 ht hvm h1 hB hz hk hS1 => ?_)
  obtain ⟨hP1, hD1⟩ := hB
  rw [ht] at hP1
  obtain ⟨k1, k2⟩ := my_join hP hD isC isR perm hC hlt hn hdis hpn hw hk hF hP1 hD1
  exact kk H1 locs1 k1 k2 hS1
theorem ret_rdi {cc : ByteArray} {ty : FieldType} {x v : Int32} (hx : p.tables.exec = Jvm.exec) (hb : c.code = cc) (hr : meth.sig.returnType = some ty) (hn : narrow ty (.int x) = .int x) (hlocks : meth.locks = false) (hv : x = v) (hdg : decode cc pc = .ok (.ireturn, 1)) : W p l e R s m args below meth c s.heap [] 0 0 (MQ below (rdQi v) args s 0 0 (fun _ => False)) (F0 m pc ls [.int x]) :=
  W.zret hx hb hr hn (fun t ht hW => ⟨_, rfl, hv, by rw [ht]⟩) (fun q hq => absurd hq List.not_mem_nil) hdg hlocks
theorem ret_rdl {cc : ByteArray} {x v : Int64} (hx : p.tables.exec = Jvm.exec) (hb : c.code = cc) (hr : meth.sig.returnType = some .long) (hlocks : meth.locks = false) (hv : x = v) (hdg : decode cc pc = .ok (.lreturn, 1)) : W p l e R s m args below meth c s.heap [] 0 0 (MQ below (rdQl v) args s 0 0 (fun _ => False)) (F0 m pc ls [.long x]) :=
  W.lret hx hb hr (fun t ht hW => ⟨_, rfl, hv, by rw [ht]⟩) (fun q hq => absurd hq List.not_mem_nil) hdg hlocks
theorem ret_wri {cc : ByteArray} {ty : FieldType} {x v : Int32} {D : va_G} {w : va_W} {A : Nat → Prop} (hx : p.tables.exec = Jvm.exec) (hb : c.code = cc) (hr : meth.sig.returnType = some ty) (hn : narrow ty (.int x) = .int x) (hlocks : meth.locks = false) (hP : va_P D vwCl w H) (hD : va_D A w) (hS : va_S A s.heap H locs) (hv : x = v) (hdg : decode cc pc = .ok (.ireturn, 1)) : W p l e R s m args below meth c H locs cells slots (MQ below (wrQi v D w A) args s cells slots A) (F0 m pc ls [.int x]) :=
  W.zret hx hb hr hn (fun t ht hW => ⟨⟨_, (), rfl, hv, by rw [ht]; exact hP, hD⟩, hS.F ht⟩) hS.2.2 hdg hlocks
theorem ret_wrl {cc : ByteArray} {x v : Int64} {D : va_G} {w : va_W} {A : Nat → Prop} (hx : p.tables.exec = Jvm.exec) (hb : c.code = cc) (hr : meth.sig.returnType = some .long) (hlocks : meth.locks = false) (hP : va_P D vwCl w H) (hD : va_D A w) (hS : va_S A s.heap H locs) (hv : x = v) (hdg : decode cc pc = .ok (.lreturn, 1)) : W p l e R s m args below meth c H locs cells slots (MQ below (wrQl v D w A) args s cells slots A) (F0 m pc ls [.long x]) :=
  W.lret hx hb hr (fun t ht hW => ⟨⟨_, (), rfl, hv, by rw [ht]; exact hP, hD⟩, hS.F ht⟩) hS.2.2 hdg hlocks
theorem ret_wrv {cc : ByteArray} {D : va_G} {w : va_W} {A : Nat → Prop} (hx : p.tables.exec = Jvm.exec) (hb : c.code = cc) (hr : meth.sig.returnType = none) (hlocks : meth.locks = false) (hP : va_P D vwCl w H) (hD : va_D A w) (hS : va_S A s.heap H locs) (hdg : decode cc pc = .ok (.return_, 1)) : W p l e R s m args below meth c H locs cells slots (MQ below (wrQv D w A) args s cells slots A) (F0 m pc ls []) :=
  W.vret hx hb hr (fun t ht hW => ⟨⟨(), rfl, trivial, by rw [ht]; exact hP, hD⟩, hS.F ht⟩) hS.2.2 hdg hlocks
end Rules
theorem arrV_congr {cA : ClassId} {n : Nat} {f g : Nat → Value} (h : ∀ j, j < n → f j = g j) : arrV cA n f = arrV cA n g := by
  unfold arrV
  congr 1
  congr 1
  funext j
  exact h j.val j.isLt
theorem cell_congr {D : va_G} {H : Heap} {a : Nat} {cA : ClassId} {n : Nat} {f g : Nat → Int32} (h : ∀ j, j < n → f j = g j) (k : va_at D vwCl (a, .inl (cA, n, .inl f)) H) : va_at D vwCl (a, .inl (cA, n, .inl g)) H := by
  have e : vp_cell cA (n, .inl f) = vp_cell cA (n, .inl g) := by
    show arrV cA n (fun j => .int (f j)) = arrV cA n (fun j => .int (g j))
    exact arrV_congr (fun j hj => by rw [h j hj])
  show H[a]? = some (vp_cell cA (n, .inl g))
  rw [← e]
  exact k
abbrev wIceE (a : Nat → Nat) (cI : ClassId) (t3 t4 : Nat → Int32) : va_W := [(a 3, .inr (1, [.ref (a 4), .ref (a 5)])), (a 4, .inl (cI, 36, .inl t3)), (a 5, .inl (cI, 36, .inl t4))]
abbrev wCouE (a : Nat → Nat) (cI : ClassId) (n : Int32) (c5 c6 c7 c8 c9 c10 c11 c12 c13 : Nat → Int32) : va_W := [(a 6, .inr (0, [.int n, .ref (a 7), .ref (a 8), .ref (a 9), .ref (a 10), .ref (a 11), .ref (a 12), .ref (a 13), .ref (a 14), .ref (a 15)])), (a 7, .inl (cI, 8, .inl c5)), (a 8, .inl (cI, 8, .inl c6)), (a 9, .inl (cI, 8, .inl c7)), (a 10, .inl (cI, 8, .inl c8)), (a 11, .inl (cI, 8, .inl c9)), (a 12, .inl (cI, 8, .inl c10)), (a 13, .inl (cI, 8, .inl c11)), (a 14, .inl (cI, 8, .inl c12)), (a 15, .inl (cI, 8, .inl c13))]
abbrev wRivE (a : Nat → Nat) (cI : ClassId) (h th : Int32) (t1 t2 t3 t4 : Nat → Int32) (n : Int32) (c5 c6 c7 c8 c9 c10 c11 c12 c13 : Nat → Int32) : va_W := [(a 0, .inr (2, [.int h, .int th, .ref (a 1), .ref (a 2), .ref (a 3), .ref (a 6)])), (a 1, .inl (cI, 14, .inl t1)), (a 2, .inl (cI, 12, .inl t2)), (a 3, .inr (1, [.ref (a 4), .ref (a 5)])), (a 4, .inl (cI, 36, .inl t3)), (a 5, .inl (cI, 36, .inl t4)), (a 6, .inr (0, [.int n, .ref (a 7), .ref (a 8), .ref (a 9), .ref (a 10), .ref (a 11), .ref (a 12), .ref (a 13), .ref (a 14), .ref (a 15)])), (a 7, .inl (cI, 8, .inl c5)), (a 8, .inl (cI, 8, .inl c6)), (a 9, .inl (cI, 8, .inl c7)), (a 10, .inl (cI, 8, .inl c8)), (a 11, .inl (cI, 8, .inl c9)), (a 12, .inl (cI, 8, .inl c10)), (a 13, .inl (cI, 8, .inl c11)), (a 14, .inl (cI, 8, .inl c12)), (a 15, .inl (cI, 8, .inl c13))]
abbrev wWagE (b : Nat → Nat) (cI : ClassId) (n : Int32) (t14 t15 : Nat → Int32) : va_W := [(b 1, .inr (3, [.int n, .ref (b 2), .ref (b 3)])), (b 2, .inl (cI, 12, .inl t14)), (b 3, .inl (cI, 12, .inl t15))]
abbrev wIce (a : Nat → Nat) (cI : ClassId) (σ : St) : va_W := wIceE a cI (σ 3) (σ 4)
abbrev wCou (a : Nat → Nat) (cI : ClassId) (σ : St) : va_W := wCouE a cI (σ 17 0) (σ 5) (σ 6) (σ 7) (σ 8) (σ 9) (σ 10) (σ 11) (σ 12) (σ 13)
abbrev wRiv (a : Nat → Nat) (cI : ClassId) (σ : St) : va_W := wRivE a cI (σ 0 0) (σ 16 0) (σ 1) (σ 2) (σ 3) (σ 4) (σ 17 0) (σ 5) (σ 6) (σ 7) (σ 8) (σ 9) (σ 10) (σ 11) (σ 12) (σ 13)
abbrev wWag (b : Nat → Nat) (cI : ClassId) (ω : St) : va_W := wWagE b cI (ω 19 0) (ω 14) (ω 15)
abbrev wTopE (b a a2 : Nat → Nat) : va_W := [(b 0, .inr (4, [.ref (a 0), .ref (a2 0), .ref (b 1)]))]
abbrev wLan (b a a2 : Nat → Nat) (cI : ClassId) (σ σ2 ω : St) : va_W := wTopE b a a2 ++ (wWag b cI ω ++ (wRiv a cI σ ++ wRiv a2 cI σ2))
def ofC (c5 c6 c7 c8 c9 c10 c11 c12 c13 : Nat → Int32) : Nat → Int32 := fun k => if k % 9 = 0 then c5 (k / 9) else if k % 9 = 1 then c6 (k / 9) else if k % 9 = 2 then c7 (k / 9) else if k % 9 = 3 then c8 (k / 9) else if k % 9 = 4 then c9 (k / 9) else if k % 9 = 5 then c10 (k / 9) else if k % 9 = 6 then c11 (k / 9) else if k % 9 = 7 then c12 (k / 9) else (if c13 (k / 9) = 2 then 1 else 0)
abbrev wStaE (d : Nat → Nat) (o : Nat) (cI : ClassId) (h n th ca : Int32) (t3 t4 c5 c6 c7 c8 c9 c10 c11 c12 c13 : Nat → Int32) : va_W := [(d 0, .inr (5, [.int h, .int n, .int th, .int ca, .ref (d 1), .ref (d 2), .ref (d 3), .ref o])), (d 1, .inl (cI, 36, .inl t3)), (d 2, .inl (cI, 36, .inl t4)), (d 3, .inl (cI, 72, .inl (ofC c5 c6 c7 c8 c9 c10 c11 c12 c13)))]
abbrev wSta (d : Nat → Nat) (o : Nat) (cI : ClassId) (σ : St) : va_W := wStaE d o cI (σ 0 0) (σ 17 0) (σ 16 0) (σ 18 0) (σ 3) (σ 4) (σ 5) (σ 6) (σ 7) (σ 8) (σ 9) (σ 10) (σ 11) (σ 12) (σ 13)
abbrev wOutE (b d d2 : Nat → Nat) (cI : ClassId) (x n : Int32) (t1 t2 t14 t15 : Nat → Int32) : va_W := [(b 0, .inr (6, [.int x, .ref (b 1), .ref (b 2), .int n, .ref (b 3), .ref (b 4), .ref (d 0), .ref (d2 0)])), (b 1, .inl (cI, 14, .inl t1)), (b 2, .inl (cI, 12, .inl t2)), (b 3, .inl (cI, 12, .inl t14)), (b 4, .inl (cI, 12, .inl t15))]
abbrev wOut (b d d2 : Nat → Nat) (cI : ClassId) (ω : St) : va_W := wOutE b d d2 cI (ω 20 0) (ω 19 0) (ω 1) (ω 2) (ω 14) (ω 15)
abbrev wMod (b d d2 : Nat → Nat) (cI : ClassId) (σ σ2 ω : St) : va_W := wOut b d d2 cI ω ++ (wSta d (b 0) cI σ ++ wSta d2 (b 0) cI σ2)
