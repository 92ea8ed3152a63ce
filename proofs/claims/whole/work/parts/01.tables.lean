-- ===== PART A: goes FIRST, ahead of the names: the tables' words, and 'selects' of the private methods out of them =====
/-- a private method of a class that the tables say can be made, by its rows of tables_1 -/
def lw_okq (q : MethodName × Nat) : Prop := (q.1.cls ≠ "java/lang/invoke/MethodHandle" ∧ q.1.cls ≠ "java/lang/invoke/VarHandle") ∧ Cond.instantiable q.1.cls q.2 ∈ tables_1 ∧ Cond.privateMethod q.1 ∈ tables_1 ∧ Cond.instanceMethod q.1 ∈ tables_1
theorem lw_p0 : lw_okq (⟨"WalkingStones$Texts", "work", "(II)I"⟩, 7) := ⟨⟨by decide +kernel, by decide +kernel⟩, List.mem_of_getElem? (i := 113) (by decide +kernel), List.mem_of_getElem? (i := 483) (by decide +kernel), List.mem_of_getElem? (i := 484) (by decide +kernel)⟩
theorem lw_p1 : lw_okq (⟨"WalkingStones$Reader", "cut", "()V"⟩, 8) := ⟨⟨by decide +kernel, by decide +kernel⟩, List.mem_of_getElem? (i := 164) (by decide +kernel), List.mem_of_getElem? (i := 513) (by decide +kernel), List.mem_of_getElem? (i := 514) (by decide +kernel)⟩
theorem lw_p2 : lw_okq (⟨"WalkingStones$Reader", "endOfToken", "(I)I"⟩, 8) := ⟨⟨by decide +kernel, by decide +kernel⟩, List.mem_of_getElem? (i := 164) (by decide +kernel), List.mem_of_getElem? (i := 520) (by decide +kernel), List.mem_of_getElem? (i := 521) (by decide +kernel)⟩
theorem lw_p3 : lw_okq (⟨"WalkingStones$Reader", "tokenOf", "(II)I"⟩, 8) := ⟨⟨by decide +kernel, by decide +kernel⟩, List.mem_of_getElem? (i := 164) (by decide +kernel), List.mem_of_getElem? (i := 530) (by decide +kernel), List.mem_of_getElem? (i := 531) (by decide +kernel)⟩
theorem lw_p4 : lw_okq (⟨"WalkingStones$Reader", "wordOf", "(II)I"⟩, 8) := ⟨⟨by decide +kernel, by decide +kernel⟩, List.mem_of_getElem? (i := 164) (by decide +kernel), List.mem_of_getElem? (i := 534) (by decide +kernel), List.mem_of_getElem? (i := 535) (by decide +kernel)⟩
theorem lw_p5 : lw_okq (⟨"WalkingStones$Reader", "spells", "(Ljava/lang/String;II)Z"⟩, 8) := ⟨⟨by decide +kernel, by decide +kernel⟩, List.mem_of_getElem? (i := 164) (by decide +kernel), List.mem_of_getElem? (i := 539) (by decide +kernel), List.mem_of_getElem? (i := 540) (by decide +kernel)⟩
theorem lw_p6 : lw_okq (⟨"WalkingStones$Reader", "numberOf", "(II)I"⟩, 8) := ⟨⟨by decide +kernel, by decide +kernel⟩, List.mem_of_getElem? (i := 164) (by decide +kernel), List.mem_of_getElem? (i := 602) (by decide +kernel), List.mem_of_getElem? (i := 603) (by decide +kernel)⟩
theorem lw_p7 : lw_okq (⟨"WalkingStones$Reader", "readText", "()Z"⟩, 8) := ⟨⟨by decide +kernel, by decide +kernel⟩, List.mem_of_getElem? (i := 164) (by decide +kernel), List.mem_of_getElem? (i := 609) (by decide +kernel), List.mem_of_getElem? (i := 610) (by decide +kernel)⟩
theorem lw_p8 : lw_okq (⟨"WalkingStones$Reader", "advance", "()V"⟩, 8) := ⟨⟨by decide +kernel, by decide +kernel⟩, List.mem_of_getElem? (i := 164) (by decide +kernel), List.mem_of_getElem? (i := 615) (by decide +kernel), List.mem_of_getElem? (i := 616) (by decide +kernel)⟩
theorem lw_p9 : lw_okq (⟨"WalkingStones$Reader", "read", "(II)Z"⟩, 8) := ⟨⟨by decide +kernel, by decide +kernel⟩, List.mem_of_getElem? (i := 164) (by decide +kernel), List.mem_of_getElem? (i := 619) (by decide +kernel), List.mem_of_getElem? (i := 620) (by decide +kernel)⟩
theorem lw_p10 : lw_okq (⟨"WalkingStones$Reader", "readOne", "(I)Z"⟩, 8) := ⟨⟨by decide +kernel, by decide +kernel⟩, List.mem_of_getElem? (i := 164) (by decide +kernel), List.mem_of_getElem? (i := 623) (by decide +kernel), List.mem_of_getElem? (i := 624) (by decide +kernel)⟩
theorem lw_p11 : lw_okq (⟨"WalkingStones$Reader", "put", "(I)Z"⟩, 8) := ⟨⟨by decide +kernel, by decide +kernel⟩, List.mem_of_getElem? (i := 164) (by decide +kernel), List.mem_of_getElem? (i := 627) (by decide +kernel), List.mem_of_getElem? (i := 628) (by decide +kernel)⟩
theorem lw_p12 : lw_okq (⟨"WalkingStones$Reader", "readBehind", "(II)Z"⟩, 8) := ⟨⟨by decide +kernel, by decide +kernel⟩, List.mem_of_getElem? (i := 164) (by decide +kernel), List.mem_of_getElem? (i := 631) (by decide +kernel), List.mem_of_getElem? (i := 632) (by decide +kernel)⟩
theorem lw_p13 : lw_okq (⟨"WalkingStones$Walk", "goOneNight", "(III)V"⟩, 8) := ⟨⟨by decide +kernel, by decide +kernel⟩, List.mem_of_getElem? (i := 217) (by decide +kernel), List.mem_of_getElem? (i := 657) (by decide +kernel), List.mem_of_getElem? (i := 658) (by decide +kernel)⟩
theorem lw_p14 : lw_okq (⟨"WalkingStones$Tracks", "regroup", "(III)V"⟩, 11) := ⟨⟨by decide +kernel, by decide +kernel⟩, List.mem_of_getElem? (i := 251) (by decide +kernel), List.mem_of_getElem? (i := 715) (by decide +kernel), List.mem_of_getElem? (i := 716) (by decide +kernel)⟩
theorem lw_p15 : lw_okq (⟨"WalkingStones", "fitOfWalk", "(I)I"⟩, 12) := ⟨⟨by decide +kernel, by decide +kernel⟩, List.mem_of_getElem? (i := 21) (by decide +kernel), List.mem_of_getElem? (i := 723) (by decide +kernel), List.mem_of_getElem? (i := 724) (by decide +kernel)⟩
def lw_privs_1 : List (MethodName × Nat) := [(⟨"WalkingStones$Texts", "work", "(II)I"⟩, 7), (⟨"WalkingStones$Reader", "cut", "()V"⟩, 8), (⟨"WalkingStones$Reader", "endOfToken", "(I)I"⟩, 8), (⟨"WalkingStones$Reader", "tokenOf", "(II)I"⟩, 8), (⟨"WalkingStones$Reader", "wordOf", "(II)I"⟩, 8), (⟨"WalkingStones$Reader", "spells", "(Ljava/lang/String;II)Z"⟩, 8), (⟨"WalkingStones$Reader", "numberOf", "(II)I"⟩, 8), (⟨"WalkingStones$Reader", "readText", "()Z"⟩, 8), (⟨"WalkingStones$Reader", "advance", "()V"⟩, 8), (⟨"WalkingStones$Reader", "read", "(II)Z"⟩, 8), (⟨"WalkingStones$Reader", "readOne", "(I)Z"⟩, 8), (⟨"WalkingStones$Reader", "put", "(I)Z"⟩, 8), (⟨"WalkingStones$Reader", "readBehind", "(II)Z"⟩, 8), (⟨"WalkingStones$Walk", "goOneNight", "(III)V"⟩, 8), (⟨"WalkingStones$Tracks", "regroup", "(III)V"⟩, 11), (⟨"WalkingStones", "fitOfWalk", "(I)I"⟩, 12)]
theorem lw_r1 : ∀ q ∈ lw_privs_1, lw_okq q := List.forall_mem_cons.mpr ⟨lw_p0, List.forall_mem_cons.mpr ⟨lw_p1, List.forall_mem_cons.mpr ⟨lw_p2, List.forall_mem_cons.mpr ⟨lw_p3, List.forall_mem_cons.mpr ⟨lw_p4, List.forall_mem_cons.mpr ⟨lw_p5, List.forall_mem_cons.mpr ⟨lw_p6, List.forall_mem_cons.mpr ⟨lw_p7, List.forall_mem_cons.mpr ⟨lw_p8, List.forall_mem_cons.mpr ⟨lw_p9, List.forall_mem_cons.mpr ⟨lw_p10, List.forall_mem_cons.mpr ⟨lw_p11, List.forall_mem_cons.mpr ⟨lw_p12, List.forall_mem_cons.mpr ⟨lw_p13, List.forall_mem_cons.mpr ⟨lw_p14, List.forall_mem_cons.mpr ⟨lw_p15, fun _ h => absurd h List.not_mem_nil⟩⟩⟩⟩⟩⟩⟩⟩⟩⟩⟩⟩⟩⟩⟩⟩
theorem lw_p16 : lw_okq (⟨"WalkingStones", "productOfFits", "(I)J"⟩, 12) := ⟨⟨by decide +kernel, by decide +kernel⟩, List.mem_of_getElem? (i := 21) (by decide +kernel), List.mem_of_getElem? (i := 738) (by decide +kernel), List.mem_of_getElem? (i := 739) (by decide +kernel)⟩
theorem lw_p17 : lw_okq (⟨"WalkingStones$Pegs", "onBothSides", "([III)Z"⟩, 4) := ⟨⟨by decide +kernel, by decide +kernel⟩, List.mem_of_getElem? (i := 297) (by decide +kernel), List.mem_of_getElem? (i := 767) (by decide +kernel), List.mem_of_getElem? (i := 768) (by decide +kernel)⟩
theorem lw_p18 : lw_okq (⟨"WalkingStones$Pegs", "isBeyondRow", "([II)Z"⟩, 4) := ⟨⟨by decide +kernel, by decide +kernel⟩, List.mem_of_getElem? (i := 297) (by decide +kernel), List.mem_of_getElem? (i := 779) (by decide +kernel), List.mem_of_getElem? (i := 780) (by decide +kernel)⟩
theorem lw_p19 : lw_okq (⟨"WalkingStones", "partOfWait", "(II)J"⟩, 12) := ⟨⟨by decide +kernel, by decide +kernel⟩, List.mem_of_getElem? (i := 21) (by decide +kernel), List.mem_of_getElem? (i := 801) (by decide +kernel), List.mem_of_getElem? (i := 802) (by decide +kernel)⟩
theorem lw_p20 : lw_okq (⟨"WalkingStones$Pushes", "tellNightAsIs", "(I)V"⟩, 4) := ⟨⟨by decide +kernel, by decide +kernel⟩, List.mem_of_getElem? (i := 198) (by decide +kernel), List.mem_of_getElem? (i := 814) (by decide +kernel), List.mem_of_getElem? (i := 815) (by decide +kernel)⟩
theorem lw_p21 : lw_okq (⟨"WalkingStones$Tracks", "leastFree", "()I"⟩, 11) := ⟨⟨by decide +kernel, by decide +kernel⟩, List.mem_of_getElem? (i := 251) (by decide +kernel), List.mem_of_getElem? (i := 842) (by decide +kernel), List.mem_of_getElem? (i := 843) (by decide +kernel)⟩
theorem lw_p22 : lw_okq (⟨"WalkingStones$Tracks", "liesOverUnplaced", "(I)Z"⟩, 11) := ⟨⟨by decide +kernel, by decide +kernel⟩, List.mem_of_getElem? (i := 251) (by decide +kernel), List.mem_of_getElem? (i := 846) (by decide +kernel), List.mem_of_getElem? (i := 847) (by decide +kernel)⟩
theorem lw_p23 : lw_okq (⟨"WalkingStones$Looks", "offer", "(III)V"⟩, 4) := ⟨⟨by decide +kernel, by decide +kernel⟩, List.mem_of_getElem? (i := 317) (by decide +kernel), List.mem_of_getElem? (i := 862) (by decide +kernel), List.mem_of_getElem? (i := 863) (by decide +kernel)⟩
theorem lw_p24 : lw_okq (⟨"WalkingStonesModel", "in", "(III)Z"⟩, 54) := ⟨⟨by decide +kernel, by decide +kernel⟩, List.mem_of_getElem? (i := 973) (by decide +kernel), List.mem_of_getElem? (i := 971) (by decide +kernel), List.mem_of_getElem? (i := 972) (by decide +kernel)⟩
theorem lw_p25 : lw_okq (⟨"WalkingStonesModel", "isWeather", "(I)Z"⟩, 54) := ⟨⟨by decide +kernel, by decide +kernel⟩, List.mem_of_getElem? (i := 973) (by decide +kernel), List.mem_of_getElem? (i := 980) (by decide +kernel), List.mem_of_getElem? (i := 981) (by decide +kernel)⟩
theorem lw_p26 : lw_okq (⟨"WalkingStonesModel", "comes", "(I)V"⟩, 54) := ⟨⟨by decide +kernel, by decide +kernel⟩, List.mem_of_getElem? (i := 973) (by decide +kernel), List.mem_of_getElem? (i := 985) (by decide +kernel), List.mem_of_getElem? (i := 986) (by decide +kernel)⟩
theorem lw_p27 : lw_okq (⟨"WalkingStonesModel", "isStone", "(I)Z"⟩, 54) := ⟨⟨by decide +kernel, by decide +kernel⟩, List.mem_of_getElem? (i := 973) (by decide +kernel), List.mem_of_getElem? (i := 997) (by decide +kernel), List.mem_of_getElem? (i := 998) (by decide +kernel)⟩
theorem lw_p28 : lw_okq (⟨"WalkingStonesModel", "look", "()V"⟩, 54) := ⟨⟨by decide +kernel, by decide +kernel⟩, List.mem_of_getElem? (i := 973) (by decide +kernel), List.mem_of_getElem? (i := 1178) (by decide +kernel), List.mem_of_getElem? (i := 1179) (by decide +kernel)⟩
theorem lw_p29 : lw_okq (⟨"WalkingStonesModel", "byteAt", "(I)I"⟩, 54) := ⟨⟨by decide +kernel, by decide +kernel⟩, List.mem_of_getElem? (i := 973) (by decide +kernel), List.mem_of_getElem? (i := 1182) (by decide +kernel), List.mem_of_getElem? (i := 1183) (by decide +kernel)⟩
theorem lw_p30 : lw_okq (⟨"WalkingStonesModel", "isDigit", "(I)Z"⟩, 54) := ⟨⟨by decide +kernel, by decide +kernel⟩, List.mem_of_getElem? (i := 973) (by decide +kernel), List.mem_of_getElem? (i := 1186) (by decide +kernel), List.mem_of_getElem? (i := 1187) (by decide +kernel)⟩
theorem lw_p31 : lw_okq (⟨"WalkingStonesModel", "isLetter", "(I)Z"⟩, 54) := ⟨⟨by decide +kernel, by decide +kernel⟩, List.mem_of_getElem? (i := 973) (by decide +kernel), List.mem_of_getElem? (i := 1190) (by decide +kernel), List.mem_of_getElem? (i := 1191) (by decide +kernel)⟩
def lw_privs_2 : List (MethodName × Nat) := [(⟨"WalkingStones", "productOfFits", "(I)J"⟩, 12), (⟨"WalkingStones$Pegs", "onBothSides", "([III)Z"⟩, 4), (⟨"WalkingStones$Pegs", "isBeyondRow", "([II)Z"⟩, 4), (⟨"WalkingStones", "partOfWait", "(II)J"⟩, 12), (⟨"WalkingStones$Pushes", "tellNightAsIs", "(I)V"⟩, 4), (⟨"WalkingStones$Tracks", "leastFree", "()I"⟩, 11), (⟨"WalkingStones$Tracks", "liesOverUnplaced", "(I)Z"⟩, 11), (⟨"WalkingStones$Looks", "offer", "(III)V"⟩, 4), (⟨"WalkingStonesModel", "in", "(III)Z"⟩, 54), (⟨"WalkingStonesModel", "isWeather", "(I)Z"⟩, 54), (⟨"WalkingStonesModel", "comes", "(I)V"⟩, 54), (⟨"WalkingStonesModel", "isStone", "(I)Z"⟩, 54), (⟨"WalkingStonesModel", "look", "()V"⟩, 54), (⟨"WalkingStonesModel", "byteAt", "(I)I"⟩, 54), (⟨"WalkingStonesModel", "isDigit", "(I)Z"⟩, 54), (⟨"WalkingStonesModel", "isLetter", "(I)Z"⟩, 54)]
theorem lw_r2 : ∀ q ∈ lw_privs_2, lw_okq q := List.forall_mem_cons.mpr ⟨lw_p16, List.forall_mem_cons.mpr ⟨lw_p17, List.forall_mem_cons.mpr ⟨lw_p18, List.forall_mem_cons.mpr ⟨lw_p19, List.forall_mem_cons.mpr ⟨lw_p20, List.forall_mem_cons.mpr ⟨lw_p21, List.forall_mem_cons.mpr ⟨lw_p22, List.forall_mem_cons.mpr ⟨lw_p23, List.forall_mem_cons.mpr ⟨lw_p24, List.forall_mem_cons.mpr ⟨lw_p25, List.forall_mem_cons.mpr ⟨lw_p26, List.forall_mem_cons.mpr ⟨lw_p27, List.forall_mem_cons.mpr ⟨lw_p28, List.forall_mem_cons.mpr ⟨lw_p29, List.forall_mem_cons.mpr ⟨lw_p30, List.forall_mem_cons.mpr ⟨lw_p31, fun _ h => absurd h List.not_mem_nil⟩⟩⟩⟩⟩⟩⟩⟩⟩⟩⟩⟩⟩⟩⟩⟩
theorem lw_p32 : lw_okq (⟨"WalkingStonesModel", "nameOf", "(I)I"⟩, 54) := ⟨⟨by decide +kernel, by decide +kernel⟩, List.mem_of_getElem? (i := 973) (by decide +kernel), List.mem_of_getElem? (i := 1194) (by decide +kernel), List.mem_of_getElem? (i := 1195) (by decide +kernel)⟩
theorem lw_p33 : lw_okq (⟨"WalkingStonesModel", "isKey", "(I)Z"⟩, 54) := ⟨⟨by decide +kernel, by decide +kernel⟩, List.mem_of_getElem? (i := 973) (by decide +kernel), List.mem_of_getElem? (i := 1202) (by decide +kernel), List.mem_of_getElem? (i := 1203) (by decide +kernel)⟩
theorem lw_p34 : lw_okq (⟨"WalkingStonesModel", "takesPart", "(III)Z"⟩, 54) := ⟨⟨by decide +kernel, by decide +kernel⟩, List.mem_of_getElem? (i := 973) (by decide +kernel), List.mem_of_getElem? (i := 1208) (by decide +kernel), List.mem_of_getElem? (i := 1209) (by decide +kernel)⟩
theorem lw_p35 : lw_okq (⟨"WalkingStonesModel", "isWord", "(I)Z"⟩, 54) := ⟨⟨by decide +kernel, by decide +kernel⟩, List.mem_of_getElem? (i := 973) (by decide +kernel), List.mem_of_getElem? (i := 1212) (by decide +kernel), List.mem_of_getElem? (i := 1213) (by decide +kernel)⟩
theorem lw_p36 : lw_okq (⟨"WalkingStonesModel", "goOn", "()V"⟩, 54) := ⟨⟨by decide +kernel, by decide +kernel⟩, List.mem_of_getElem? (i := 973) (by decide +kernel), List.mem_of_getElem? (i := 1216) (by decide +kernel), List.mem_of_getElem? (i := 1217) (by decide +kernel)⟩
theorem lw_p37 : lw_okq (⟨"WalkingStonesModel", "takesE", "(I)Z"⟩, 54) := ⟨⟨by decide +kernel, by decide +kernel⟩, List.mem_of_getElem? (i := 973) (by decide +kernel), List.mem_of_getElem? (i := 1220) (by decide +kernel), List.mem_of_getElem? (i := 1221) (by decide +kernel)⟩
theorem lw_p38 : lw_okq (⟨"WalkingStonesModel", "settle", "(I)V"⟩, 54) := ⟨⟨by decide +kernel, by decide +kernel⟩, List.mem_of_getElem? (i := 973) (by decide +kernel), List.mem_of_getElem? (i := 1224) (by decide +kernel), List.mem_of_getElem? (i := 1225) (by decide +kernel)⟩
theorem lw_p39 : lw_okq (⟨"WalkingStonesModel", "top", "()I"⟩, 54) := ⟨⟨by decide +kernel, by decide +kernel⟩, List.mem_of_getElem? (i := 973) (by decide +kernel), List.mem_of_getElem? (i := 1228) (by decide +kernel), List.mem_of_getElem? (i := 1229) (by decide +kernel)⟩
theorem lw_p40 : lw_okq (⟨"WalkingStonesModel", "strength", "(I)I"⟩, 54) := ⟨⟨by decide +kernel, by decide +kernel⟩, List.mem_of_getElem? (i := 973) (by decide +kernel), List.mem_of_getElem? (i := 1232) (by decide +kernel), List.mem_of_getElem? (i := 1233) (by decide +kernel)⟩
theorem lw_p41 : lw_okq (⟨"WalkingStonesModel", "put", "(II)V"⟩, 54) := ⟨⟨by decide +kernel, by decide +kernel⟩, List.mem_of_getElem? (i := 973) (by decide +kernel), List.mem_of_getElem? (i := 1236) (by decide +kernel), List.mem_of_getElem? (i := 1237) (by decide +kernel)⟩
theorem lw_p42 : lw_okq (⟨"WalkingStonesModel", "takesOne", "(Z)I"⟩, 54) := ⟨⟨by decide +kernel, by decide +kernel⟩, List.mem_of_getElem? (i := 973) (by decide +kernel), List.mem_of_getElem? (i := 1240) (by decide +kernel), List.mem_of_getElem? (i := 1241) (by decide +kernel)⟩
theorem lw_p43 : lw_okq (⟨"WalkingStonesModel", "opens", "(I)Z"⟩, 54) := ⟨⟨by decide +kernel, by decide +kernel⟩, List.mem_of_getElem? (i := 973) (by decide +kernel), List.mem_of_getElem? (i := 1244) (by decide +kernel), List.mem_of_getElem? (i := 1245) (by decide +kernel)⟩
theorem lw_p44 : lw_okq (⟨"WalkingStonesModel", "pushSign", "(I)V"⟩, 54) := ⟨⟨by decide +kernel, by decide +kernel⟩, List.mem_of_getElem? (i := 973) (by decide +kernel), List.mem_of_getElem? (i := 1248) (by decide +kernel), List.mem_of_getElem? (i := 1249) (by decide +kernel)⟩
theorem lw_p45 : lw_okq (⟨"WalkingStonesModel", "takesSign", "()I"⟩, 54) := ⟨⟨by decide +kernel, by decide +kernel⟩, List.mem_of_getElem? (i := 973) (by decide +kernel), List.mem_of_getElem? (i := 1252) (by decide +kernel), List.mem_of_getElem? (i := 1253) (by decide +kernel)⟩
theorem lw_p46 : lw_okq (⟨"WalkingStonesModel", "isHow", "(I)Z"⟩, 54) := ⟨⟨by decide +kernel, by decide +kernel⟩, List.mem_of_getElem? (i := 973) (by decide +kernel), List.mem_of_getElem? (i := 1264) (by decide +kernel), List.mem_of_getElem? (i := 1265) (by decide +kernel)⟩
theorem lw_p47 : lw_okq (⟨"WalkingStonesModel", "isNight", "(I)Z"⟩, 54) := ⟨⟨by decide +kernel, by decide +kernel⟩, List.mem_of_getElem? (i := 973) (by decide +kernel), List.mem_of_getElem? (i := 1268) (by decide +kernel), List.mem_of_getElem? (i := 1269) (by decide +kernel)⟩
def lw_privs_3 : List (MethodName × Nat) := [(⟨"WalkingStonesModel", "nameOf", "(I)I"⟩, 54), (⟨"WalkingStonesModel", "isKey", "(I)Z"⟩, 54), (⟨"WalkingStonesModel", "takesPart", "(III)Z"⟩, 54), (⟨"WalkingStonesModel", "isWord", "(I)Z"⟩, 54), (⟨"WalkingStonesModel", "goOn", "()V"⟩, 54), (⟨"WalkingStonesModel", "takesE", "(I)Z"⟩, 54), (⟨"WalkingStonesModel", "settle", "(I)V"⟩, 54), (⟨"WalkingStonesModel", "top", "()I"⟩, 54), (⟨"WalkingStonesModel", "strength", "(I)I"⟩, 54), (⟨"WalkingStonesModel", "put", "(II)V"⟩, 54), (⟨"WalkingStonesModel", "takesOne", "(Z)I"⟩, 54), (⟨"WalkingStonesModel", "opens", "(I)Z"⟩, 54), (⟨"WalkingStonesModel", "pushSign", "(I)V"⟩, 54), (⟨"WalkingStonesModel", "takesSign", "()I"⟩, 54), (⟨"WalkingStonesModel", "isHow", "(I)Z"⟩, 54), (⟨"WalkingStonesModel", "isNight", "(I)Z"⟩, 54)]
theorem lw_r3 : ∀ q ∈ lw_privs_3, lw_okq q := List.forall_mem_cons.mpr ⟨lw_p32, List.forall_mem_cons.mpr ⟨lw_p33, List.forall_mem_cons.mpr ⟨lw_p34, List.forall_mem_cons.mpr ⟨lw_p35, List.forall_mem_cons.mpr ⟨lw_p36, List.forall_mem_cons.mpr ⟨lw_p37, List.forall_mem_cons.mpr ⟨lw_p38, List.forall_mem_cons.mpr ⟨lw_p39, List.forall_mem_cons.mpr ⟨lw_p40, List.forall_mem_cons.mpr ⟨lw_p41, List.forall_mem_cons.mpr ⟨lw_p42, List.forall_mem_cons.mpr ⟨lw_p43, List.forall_mem_cons.mpr ⟨lw_p44, List.forall_mem_cons.mpr ⟨lw_p45, List.forall_mem_cons.mpr ⟨lw_p46, List.forall_mem_cons.mpr ⟨lw_p47, fun _ h => absurd h List.not_mem_nil⟩⟩⟩⟩⟩⟩⟩⟩⟩⟩⟩⟩⟩⟩⟩⟩
theorem lw_p48 : lw_okq (⟨"WalkingStonesModel", "may", "(II)Z"⟩, 54) := ⟨⟨by decide +kernel, by decide +kernel⟩, List.mem_of_getElem? (i := 973) (by decide +kernel), List.mem_of_getElem? (i := 1272) (by decide +kernel), List.mem_of_getElem? (i := 1273) (by decide +kernel)⟩
theorem lw_p49 : lw_okq (⟨"WalkingStonesModel", "drag", "(II)I"⟩, 54) := ⟨⟨by decide +kernel, by decide +kernel⟩, List.mem_of_getElem? (i := 973) (by decide +kernel), List.mem_of_getElem? (i := 1276) (by decide +kernel), List.mem_of_getElem? (i := 1277) (by decide +kernel)⟩
theorem lw_p50 : lw_okq (⟨"WalkingStonesModel", "pushes", "(III)I"⟩, 54) := ⟨⟨by decide +kernel, by decide +kernel⟩, List.mem_of_getElem? (i := 973) (by decide +kernel), List.mem_of_getElem? (i := 1280) (by decide +kernel), List.mem_of_getElem? (i := 1281) (by decide +kernel)⟩
theorem lw_p51 : lw_okq (⟨"WalkingStonesModel", "plainPush", "(III)I"⟩, 54) := ⟨⟨by decide +kernel, by decide +kernel⟩, List.mem_of_getElem? (i := 973) (by decide +kernel), List.mem_of_getElem? (i := 1284) (by decide +kernel), List.mem_of_getElem? (i := 1285) (by decide +kernel)⟩
theorem lw_p52 : lw_okq (⟨"WalkingStonesModel", "windNow", "(I)I"⟩, 54) := ⟨⟨by decide +kernel, by decide +kernel⟩, List.mem_of_getElem? (i := 973) (by decide +kernel), List.mem_of_getElem? (i := 1288) (by decide +kernel), List.mem_of_getElem? (i := 1289) (by decide +kernel)⟩
theorem lw_p53 : lw_okq (⟨"WalkingStonesModel", "tellsRule", "(IIII)I"⟩, 54) := ⟨⟨by decide +kernel, by decide +kernel⟩, List.mem_of_getElem? (i := 973) (by decide +kernel), List.mem_of_getElem? (i := 1292) (by decide +kernel), List.mem_of_getElem? (i := 1293) (by decide +kernel)⟩
theorem lw_p54 : lw_okq (⟨"WalkingStonesModel", "nameValue", "(IIII)I"⟩, 54) := ⟨⟨by decide +kernel, by decide +kernel⟩, List.mem_of_getElem? (i := 973) (by decide +kernel), List.mem_of_getElem? (i := 1296) (by decide +kernel), List.mem_of_getElem? (i := 1297) (by decide +kernel)⟩
theorem lw_p55 : lw_okq (⟨"WalkingStonesModel", "done", "(III)I"⟩, 54) := ⟨⟨by decide +kernel, by decide +kernel⟩, List.mem_of_getElem? (i := 973) (by decide +kernel), List.mem_of_getElem? (i := 1300) (by decide +kernel), List.mem_of_getElem? (i := 1301) (by decide +kernel)⟩
theorem lw_p56 : lw_okq (⟨"WalkingStonesModel", "isRow", "(I)Z"⟩, 54) := ⟨⟨by decide +kernel, by decide +kernel⟩, List.mem_of_getElem? (i := 973) (by decide +kernel), List.mem_of_getElem? (i := 1312) (by decide +kernel), List.mem_of_getElem? (i := 1313) (by decide +kernel)⟩
theorem lw_p57 : lw_okq (⟨"WalkingStonesModel", "goRow", "(II)V"⟩, 54) := ⟨⟨by decide +kernel, by decide +kernel⟩, List.mem_of_getElem? (i := 973) (by decide +kernel), List.mem_of_getElem? (i := 1316) (by decide +kernel), List.mem_of_getElem? (i := 1317) (by decide +kernel)⟩
theorem lw_p58 : lw_okq (⟨"WalkingStonesModel", "begin", "()V"⟩, 54) := ⟨⟨by decide +kernel, by decide +kernel⟩, List.mem_of_getElem? (i := 973) (by decide +kernel), List.mem_of_getElem? (i := 1320) (by decide +kernel), List.mem_of_getElem? (i := 1321) (by decide +kernel)⟩
theorem lw_p59 : lw_okq (⟨"WalkingStonesModel", "goNight", "(II)V"⟩, 54) := ⟨⟨by decide +kernel, by decide +kernel⟩, List.mem_of_getElem? (i := 973) (by decide +kernel), List.mem_of_getElem? (i := 1324) (by decide +kernel), List.mem_of_getElem? (i := 1325) (by decide +kernel)⟩
theorem lw_p60 : lw_okq (⟨"WalkingStonesModel", "wayOf", "(II)I"⟩, 54) := ⟨⟨by decide +kernel, by decide +kernel⟩, List.mem_of_getElem? (i := 973) (by decide +kernel), List.mem_of_getElem? (i := 1328) (by decide +kernel), List.mem_of_getElem? (i := 1329) (by decide +kernel)⟩
theorem lw_p61 : lw_okq (⟨"WalkingStonesModel", "ahead", "(II)I"⟩, 54) := ⟨⟨by decide +kernel, by decide +kernel⟩, List.mem_of_getElem? (i := 973) (by decide +kernel), List.mem_of_getElem? (i := 1332) (by decide +kernel), List.mem_of_getElem? (i := 1333) (by decide +kernel)⟩
theorem lw_p62 : lw_okq (⟨"WalkingStonesModel", "isFree", "(I)Z"⟩, 54) := ⟨⟨by decide +kernel, by decide +kernel⟩, List.mem_of_getElem? (i := 973) (by decide +kernel), List.mem_of_getElem? (i := 1336) (by decide +kernel), List.mem_of_getElem? (i := 1337) (by decide +kernel)⟩
theorem lw_p63 : lw_okq (⟨"WalkingStonesModel", "isTrack", "(I)Z"⟩, 54) := ⟨⟨by decide +kernel, by decide +kernel⟩, List.mem_of_getElem? (i := 973) (by decide +kernel), List.mem_of_getElem? (i := 1352) (by decide +kernel), List.mem_of_getElem? (i := 1353) (by decide +kernel)⟩
def lw_privs_4 : List (MethodName × Nat) := [(⟨"WalkingStonesModel", "may", "(II)Z"⟩, 54), (⟨"WalkingStonesModel", "drag", "(II)I"⟩, 54), (⟨"WalkingStonesModel", "pushes", "(III)I"⟩, 54), (⟨"WalkingStonesModel", "plainPush", "(III)I"⟩, 54), (⟨"WalkingStonesModel", "windNow", "(I)I"⟩, 54), (⟨"WalkingStonesModel", "tellsRule", "(IIII)I"⟩, 54), (⟨"WalkingStonesModel", "nameValue", "(IIII)I"⟩, 54), (⟨"WalkingStonesModel", "done", "(III)I"⟩, 54), (⟨"WalkingStonesModel", "isRow", "(I)Z"⟩, 54), (⟨"WalkingStonesModel", "goRow", "(II)V"⟩, 54), (⟨"WalkingStonesModel", "begin", "()V"⟩, 54), (⟨"WalkingStonesModel", "goNight", "(II)V"⟩, 54), (⟨"WalkingStonesModel", "wayOf", "(II)I"⟩, 54), (⟨"WalkingStonesModel", "ahead", "(II)I"⟩, 54), (⟨"WalkingStonesModel", "isFree", "(I)Z"⟩, 54), (⟨"WalkingStonesModel", "isTrack", "(I)Z"⟩, 54)]
theorem lw_r4 : ∀ q ∈ lw_privs_4, lw_okq q := List.forall_mem_cons.mpr ⟨lw_p48, List.forall_mem_cons.mpr ⟨lw_p49, List.forall_mem_cons.mpr ⟨lw_p50, List.forall_mem_cons.mpr ⟨lw_p51, List.forall_mem_cons.mpr ⟨lw_p52, List.forall_mem_cons.mpr ⟨lw_p53, List.forall_mem_cons.mpr ⟨lw_p54, List.forall_mem_cons.mpr ⟨lw_p55, List.forall_mem_cons.mpr ⟨lw_p56, List.forall_mem_cons.mpr ⟨lw_p57, List.forall_mem_cons.mpr ⟨lw_p58, List.forall_mem_cons.mpr ⟨lw_p59, List.forall_mem_cons.mpr ⟨lw_p60, List.forall_mem_cons.mpr ⟨lw_p61, List.forall_mem_cons.mpr ⟨lw_p62, List.forall_mem_cons.mpr ⟨lw_p63, fun _ h => absurd h List.not_mem_nil⟩⟩⟩⟩⟩⟩⟩⟩⟩⟩⟩⟩⟩⟩⟩⟩
theorem lw_p64 : lw_okq (⟨"WalkingStonesModel", "areTogether", "(III)Z"⟩, 54) := ⟨⟨by decide +kernel, by decide +kernel⟩, List.mem_of_getElem? (i := 973) (by decide +kernel), List.mem_of_getElem? (i := 1356) (by decide +kernel), List.mem_of_getElem? (i := 1357) (by decide +kernel)⟩
theorem lw_p65 : lw_okq (⟨"WalkingStonesModel", "apart", "(II)I"⟩, 54) := ⟨⟨by decide +kernel, by decide +kernel⟩, List.mem_of_getElem? (i := 973) (by decide +kernel), List.mem_of_getElem? (i := 1360) (by decide +kernel), List.mem_of_getElem? (i := 1361) (by decide +kernel)⟩
theorem lw_p66 : lw_okq (⟨"WalkingStonesModel", "goAll", "(I)V"⟩, 54) := ⟨⟨by decide +kernel, by decide +kernel⟩, List.mem_of_getElem? (i := 973) (by decide +kernel), List.mem_of_getElem? (i := 1372) (by decide +kernel), List.mem_of_getElem? (i := 1373) (by decide +kernel)⟩
theorem lw_p67 : lw_okq (⟨"WalkingStonesModel", "fitting", "(I)I"⟩, 54) := ⟨⟨by decide +kernel, by decide +kernel⟩, List.mem_of_getElem? (i := 973) (by decide +kernel), List.mem_of_getElem? (i := 1376) (by decide +kernel), List.mem_of_getElem? (i := 1377) (by decide +kernel)⟩
theorem lw_p68 : lw_okq (⟨"WalkingStonesModel", "product", "(II)J"⟩, 54) := ⟨⟨by decide +kernel, by decide +kernel⟩, List.mem_of_getElem? (i := 973) (by decide +kernel), List.mem_of_getElem? (i := 1385) (by decide +kernel), List.mem_of_getElem? (i := 1386) (by decide +kernel)⟩
theorem lw_p69 : lw_okq (⟨"WalkingStonesModel", "divisor", "(JJ)J"⟩, 54) := ⟨⟨by decide +kernel, by decide +kernel⟩, List.mem_of_getElem? (i := 973) (by decide +kernel), List.mem_of_getElem? (i := 1389) (by decide +kernel), List.mem_of_getElem? (i := 1390) (by decide +kernel)⟩
theorem lw_p70 : lw_okq (⟨"WalkingStonesModel", "isHeld", "(II)Z"⟩, 54) := ⟨⟨by decide +kernel, by decide +kernel⟩, List.mem_of_getElem? (i := 973) (by decide +kernel), List.mem_of_getElem? (i := 1401) (by decide +kernel), List.mem_of_getElem? (i := 1402) (by decide +kernel)⟩
theorem lw_p71 : lw_okq (⟨"WalkingStonesModel", "isOut", "(I)Z"⟩, 54) := ⟨⟨by decide +kernel, by decide +kernel⟩, List.mem_of_getElem? (i := 973) (by decide +kernel), List.mem_of_getElem? (i := 1409) (by decide +kernel), List.mem_of_getElem? (i := 1410) (by decide +kernel)⟩
theorem lw_p72 : lw_okq (⟨"WalkingStonesModel", "pushesSome", "(II)Z"⟩, 54) := ⟨⟨by decide +kernel, by decide +kernel⟩, List.mem_of_getElem? (i := 973) (by decide +kernel), List.mem_of_getElem? (i := 1417) (by decide +kernel), List.mem_of_getElem? (i := 1418) (by decide +kernel)⟩
theorem lw_p73 : lw_okq (⟨"WalkingStonesModel", "lightest", "()I"⟩, 54) := ⟨⟨by decide +kernel, by decide +kernel⟩, List.mem_of_getElem? (i := 973) (by decide +kernel), List.mem_of_getElem? (i := 1421) (by decide +kernel), List.mem_of_getElem? (i := 1422) (by decide +kernel)⟩
theorem lw_p74 : lw_okq (⟨"WalkingStonesModel", "canGo", "(III)Z"⟩, 54) := ⟨⟨by decide +kernel, by decide +kernel⟩, List.mem_of_getElem? (i := 973) (by decide +kernel), List.mem_of_getElem? (i := 1429) (by decide +kernel), List.mem_of_getElem? (i := 1430) (by decide +kernel)⟩
theorem lw_p75 : lw_okq (⟨"WalkingStonesModel", "eldest", "(I)I"⟩, 54) := ⟨⟨by decide +kernel, by decide +kernel⟩, List.mem_of_getElem? (i := 973) (by decide +kernel), List.mem_of_getElem? (i := 1441) (by decide +kernel), List.mem_of_getElem? (i := 1442) (by decide +kernel)⟩
theorem lw_p76 : lw_okq (⟨"WalkingStonesModel", "worthOf", "(I)I"⟩, 54) := ⟨⟨by decide +kernel, by decide +kernel⟩, List.mem_of_getElem? (i := 973) (by decide +kernel), List.mem_of_getElem? (i := 1449) (by decide +kernel), List.mem_of_getElem? (i := 1450) (by decide +kernel)⟩
theorem lw_p77 : lw_okq (⟨"WalkingStonesModel", "goers", "(II)I"⟩, 54) := ⟨⟨by decide +kernel, by decide +kernel⟩, List.mem_of_getElem? (i := 973) (by decide +kernel), List.mem_of_getElem? (i := 1457) (by decide +kernel), List.mem_of_getElem? (i := 1458) (by decide +kernel)⟩
theorem lw_p78 : lw_okq (⟨"WalkingStonesModel", "isSheet", "(I)Z"⟩, 54) := ⟨⟨by decide +kernel, by decide +kernel⟩, List.mem_of_getElem? (i := 973) (by decide +kernel), List.mem_of_getElem? (i := 1465) (by decide +kernel), List.mem_of_getElem? (i := 1466) (by decide +kernel)⟩
theorem lw_p79 : lw_okq (⟨"WalkingStonesModel", "isUnder", "(II)Z"⟩, 54) := ⟨⟨by decide +kernel, by decide +kernel⟩, List.mem_of_getElem? (i := 973) (by decide +kernel), List.mem_of_getElem? (i := 1501) (by decide +kernel), List.mem_of_getElem? (i := 1502) (by decide +kernel)⟩
def lw_privs_5 : List (MethodName × Nat) := [(⟨"WalkingStonesModel", "areTogether", "(III)Z"⟩, 54), (⟨"WalkingStonesModel", "apart", "(II)I"⟩, 54), (⟨"WalkingStonesModel", "goAll", "(I)V"⟩, 54), (⟨"WalkingStonesModel", "fitting", "(I)I"⟩, 54), (⟨"WalkingStonesModel", "product", "(II)J"⟩, 54), (⟨"WalkingStonesModel", "divisor", "(JJ)J"⟩, 54), (⟨"WalkingStonesModel", "isHeld", "(II)Z"⟩, 54), (⟨"WalkingStonesModel", "isOut", "(I)Z"⟩, 54), (⟨"WalkingStonesModel", "pushesSome", "(II)Z"⟩, 54), (⟨"WalkingStonesModel", "lightest", "()I"⟩, 54), (⟨"WalkingStonesModel", "canGo", "(III)Z"⟩, 54), (⟨"WalkingStonesModel", "eldest", "(I)I"⟩, 54), (⟨"WalkingStonesModel", "worthOf", "(I)I"⟩, 54), (⟨"WalkingStonesModel", "goers", "(II)I"⟩, 54), (⟨"WalkingStonesModel", "isSheet", "(I)Z"⟩, 54), (⟨"WalkingStonesModel", "isUnder", "(II)Z"⟩, 54)]
theorem lw_r5 : ∀ q ∈ lw_privs_5, lw_okq q := List.forall_mem_cons.mpr ⟨lw_p64, List.forall_mem_cons.mpr ⟨lw_p65, List.forall_mem_cons.mpr ⟨lw_p66, List.forall_mem_cons.mpr ⟨lw_p67, List.forall_mem_cons.mpr ⟨lw_p68, List.forall_mem_cons.mpr ⟨lw_p69, List.forall_mem_cons.mpr ⟨lw_p70, List.forall_mem_cons.mpr ⟨lw_p71, List.forall_mem_cons.mpr ⟨lw_p72, List.forall_mem_cons.mpr ⟨lw_p73, List.forall_mem_cons.mpr ⟨lw_p74, List.forall_mem_cons.mpr ⟨lw_p75, List.forall_mem_cons.mpr ⟨lw_p76, List.forall_mem_cons.mpr ⟨lw_p77, List.forall_mem_cons.mpr ⟨lw_p78, List.forall_mem_cons.mpr ⟨lw_p79, fun _ h => absurd h List.not_mem_nil⟩⟩⟩⟩⟩⟩⟩⟩⟩⟩⟩⟩⟩⟩⟩⟩
def lw_privs : List (MethodName × Nat) := lw_privs_1 ++ (lw_privs_2 ++ (lw_privs_3 ++ (lw_privs_4 ++ (lw_privs_5))))
def lw_tbl : List Cond := k2_sels lw_privs ++ tables_1
theorem lw_privs_ok : ∀ q ∈ lw_privs, lw_okq q := by
  show ∀ q ∈ lw_privs_1 ++ (lw_privs_2 ++ (lw_privs_3 ++ (lw_privs_4 ++ (lw_privs_5)))), lw_okq q
  exact List.forall_mem_append.mpr ⟨lw_r1, List.forall_mem_append.mpr ⟨lw_r2, List.forall_mem_append.mpr ⟨lw_r3, List.forall_mem_append.mpr ⟨lw_r4, lw_r5⟩⟩⟩⟩

def RX0 : String := "WalkingStones$Hows"
def TX0 : u_T := fun k => match k with
  | 0 => ("WalkingStones$Hows", "kinds", "[I", true)
  | 1 => ("WalkingStones$Hows", "numbers", "[I", true)
  | _ => ("WalkingStones$Hows", "size", "I", false)
def tyX0 : Nat → FieldType := fun k => match k with
  | 0 => .array .int
  | 1 => .array .int
  | _ => .int
abbrev wsX00 : List Cond := u_ws RX0 TX0 3
theorem nmX0 : ∀ a, a < 3 → ∀ b, b < 3 → a ≠ b → (TX0 a).2.1 ≠ (TX0 b).2.1 := by decide +kernel
theorem tyX0_ok : ∀ k, k < 3 → parseFieldDescriptor (TX0 k).2.2.1 = some (tyX0 k) := by decide +kernel
abbrev cX0_init : ByteArray := prog_2_method_1_code
def yX0_init : MethodName := ⟨RX0, "<init>", "()V"⟩
abbrev cX0_has : ByteArray := prog_2_method_2_code
def yX0_has : MethodName := ⟨RX0, "has", "(I)Z"⟩
abbrev cX0_put : ByteArray := prog_2_method_3_code
def yX0_put : MethodName := ⟨RX0, "put", "(II)I"⟩
abbrev cX0_may : ByteArray := prog_2_method_4_code
def yX0_may : MethodName := ⟨RX0, "may", "(III)Z"⟩
abbrev cX0_drag : ByteArray := prog_2_method_5_code
def yX0_drag : MethodName := ⟨RX0, "drag", "(II)I"⟩
abbrev cX0_barePush : ByteArray := prog_2_method_6_code
def yX0_barePush : MethodName := ⟨RX0, "barePush", "(III)I"⟩
abbrev cX0_wayOf : ByteArray := prog_2_method_7_code
def yX0_wayOf : MethodName := ⟨RX0, "wayOf", "(II)I"⟩
def RX1 : String := "WalkingStones$Looks"
def TX1 : u_T := fun k => match k with
  | 0 => ("WalkingStones$Looks", "worths", "[I", true)
  | 1 => ("WalkingStones$Looks", "bits", "[I", true)
  | 2 => ("WalkingStones$Looks", "nights", "LWalkingStones$Nights;", true)
  | _ => ("WalkingStones$Looks", "pushes", "LWalkingStones$Pushes;", true)
def tyX1 : Nat → FieldType := fun k => match k with
  | 0 => .array .int
  | 1 => .array .int
  | 2 => .object "WalkingStones$Nights"
  | _ => .object "WalkingStones$Pushes"
abbrev wsX10 : List Cond := u_ws RX1 TX1 4
theorem nmX1 : ∀ a, a < 4 → ∀ b, b < 4 → a ≠ b → (TX1 a).2.1 ≠ (TX1 b).2.1 := by decide +kernel
theorem tyX1_ok : ∀ k, k < 4 → parseFieldDescriptor (TX1 k).2.2.1 = some (tyX1 k) := by decide +kernel
abbrev cX1_init : ByteArray := prog_3_method_1_code
def yX1_init : MethodName := ⟨RX1, "<init>", "(LWalkingStones$Nights;LWalkingStones$Pushes;)V"⟩
abbrev cX1_bestCoin : ByteArray := prog_3_method_2_code
def yX1_bestCoin : MethodName := ⟨RX1, "bestCoin", "(I)I"⟩
abbrev cX1_offer : ByteArray := prog_3_method_3_code
def yX1_offer : MethodName := ⟨RX1, "offer", "(III)V"⟩
def RX2 : String := "WalkingStones$Nights"
def TX2 : u_T := fun k => match k with
  | 0 => ("WalkingStones$Nights", "wets", "[I", true)
  | 1 => ("WalkingStones$Nights", "ices", "[I", true)
  | 2 => ("WalkingStones$Nights", "winds", "[I", true)
  | 3 => ("WalkingStones$Nights", "ways", "[I", true)
  | _ => ("WalkingStones$Nights", "size", "I", false)
def tyX2 : Nat → FieldType := fun k => match k with
  | 0 => .array .int
  | 1 => .array .int
  | 2 => .array .int
  | 3 => .array .int
  | _ => .int
abbrev wsX20 : List Cond := u_ws RX2 TX2 5
theorem nmX2 : ∀ a, a < 5 → ∀ b, b < 5 → a ≠ b → (TX2 a).2.1 ≠ (TX2 b).2.1 := by decide +kernel
theorem tyX2_ok : ∀ k, k < 5 → parseFieldDescriptor (TX2 k).2.2.1 = some (tyX2 k) := by decide +kernel
abbrev cX2_init : ByteArray := prog_4_method_1_code
def yX2_init : MethodName := ⟨RX2, "<init>", "()V"⟩
abbrev cX2_has : ByteArray := prog_4_method_2_code
def yX2_has : MethodName := ⟨RX2, "has", "(I)Z"⟩
abbrev cX2_hasSpan : ByteArray := prog_4_method_3_code
def yX2_hasSpan : MethodName := ⟨RX2, "hasSpan", "(I)Z"⟩
abbrev cX2_come : ByteArray := prog_4_method_4_code
def yX2_come : MethodName := ⟨RX2, "come", "(I)I"⟩
def RX3 : String := "WalkingStones$Pegs"
def TX3 : u_T := fun k => match k with
  | 0 => ("WalkingStones$Pegs", "xs", "[I", true)
  | 1 => ("WalkingStones$Pegs", "ys", "[I", true)
  | 2 => ("WalkingStones$Pegs", "size", "I", false)
  | _ => ("WalkingStones$Pegs", "keptSize", "I", false)
def tyX3 : Nat → FieldType := fun k => match k with
  | 0 => .array .int
  | 1 => .array .int
  | 2 => .int
  | _ => .int
abbrev wsX30 : List Cond := u_ws RX3 TX3 4
theorem nmX3 : ∀ a, a < 4 → ∀ b, b < 4 → a ≠ b → (TX3 a).2.1 ≠ (TX3 b).2.1 := by decide +kernel
theorem tyX3_ok : ∀ k, k < 4 → parseFieldDescriptor (TX3 k).2.2.1 = some (tyX3 k) := by decide +kernel
abbrev cX3_init : ByteArray := prog_5_method_1_code
def yX3_init : MethodName := ⟨RX3, "<init>", "()V"⟩
abbrev cX3_put : ByteArray := prog_5_method_2_code
def yX3_put : MethodName := ⟨RX3, "put", "(I)I"⟩
abbrev cX3_hold : ByteArray := prog_5_method_3_code
def yX3_hold : MethodName := ⟨RX3, "hold", "(II)Z"⟩
abbrev cX3_onBothSides : ByteArray := prog_5_method_4_code
def yX3_onBothSides : MethodName := ⟨RX3, "onBothSides", "([III)Z"⟩
abbrev cX3_isBeyond : ByteArray := prog_5_method_5_code
def yX3_isBeyond : MethodName := ⟨RX3, "isBeyond", "(I)Z"⟩
abbrev cX3_isBeyondRow : ByteArray := prog_5_method_6_code
def yX3_isBeyondRow : MethodName := ⟨RX3, "isBeyondRow", "([II)Z"⟩
def RX4 : String := "WalkingStones$Pushes"
def TX4 : u_T := fun k => match k with
  | 0 => ("WalkingStones$Pushes", "stones", "LWalkingStones$Stones;", true)
  | 1 => ("WalkingStones$Pushes", "nights", "LWalkingStones$Nights;", true)
  | 2 => ("WalkingStones$Pushes", "hows", "LWalkingStones$Hows;", true)
  | _ => ("WalkingStones$Pushes", "texts", "LWalkingStones$Texts;", true)
def tyX4 : Nat → FieldType := fun k => match k with
  | 0 => .object "WalkingStones$Stones"
  | 1 => .object "WalkingStones$Nights"
  | 2 => .object "WalkingStones$Hows"
  | _ => .object "WalkingStones$Texts"
abbrev wsX40 : List Cond := u_ws RX4 TX4 4
theorem nmX4 : ∀ a, a < 4 → ∀ b, b < 4 → a ≠ b → (TX4 a).2.1 ≠ (TX4 b).2.1 := by decide +kernel
theorem tyX4_ok : ∀ k, k < 4 → parseFieldDescriptor (TX4 k).2.2.1 = some (tyX4 k) := by decide +kernel
abbrev cX4_init : ByteArray := prog_6_method_1_code
def yX4_init : MethodName := ⟨RX4, "<init>", "(LWalkingStones$Stones;LWalkingStones$Nights;LWalkingStones$Hows;LWalkingStones$Texts;)V"⟩
abbrev cX4_squares : ByteArray := prog_6_method_2_code
def yX4_squares : MethodName := ⟨RX4, "squares", "(IIII)I"⟩
abbrev cX4_pushesSome : ByteArray := prog_6_method_3_code
def yX4_pushesSome : MethodName := ⟨RX4, "pushesSome", "(II)Z"⟩
abbrev cX4_nightsPushing : ByteArray := prog_6_method_4_code
def yX4_nightsPushing : MethodName := ⟨RX4, "nightsPushing", "(I)I"⟩
abbrev cX4_longestRowWithout : ByteArray := prog_6_method_5_code
def yX4_longestRowWithout : MethodName := ⟨RX4, "longestRowWithout", "(I)I"⟩
abbrev cX4_nightsCalled : ByteArray := prog_6_method_6_code
def yX4_nightsCalled : MethodName := ⟨RX4, "nightsCalled", "(IZ)I"⟩
abbrev cX4_worthOfLook : ByteArray := prog_6_method_7_code
def yX4_worthOfLook : MethodName := ⟨RX4, "worthOfLook", "(I)I"⟩
abbrev cX4_tellNightAsIs : ByteArray := prog_6_method_8_code
def yX4_tellNightAsIs : MethodName := ⟨RX4, "tellNightAsIs", "(I)V"⟩
def RX5 : String := "WalkingStones$Reader"
def TX5 : u_T := fun k => match k with
  | 0 => ("WalkingStones$Reader", "code", "[I", true)
  | 1 => ("WalkingStones$Reader", "ends", "[I", true)
  | 2 => ("WalkingStones$Reader", "tape", "[I", true)
  | 3 => ("WalkingStones$Reader", "tokens", "[I", true)
  | 4 => ("WalkingStones$Reader", "starts", "[I", true)
  | 5 => ("WalkingStones$Reader", "size", "I", false)
  | 6 => ("WalkingStones$Reader", "steps", "I", false)
  | _ => ("WalkingStones$Reader", "now", "I", false)
def tyX5 : Nat → FieldType := fun k => match k with
  | 0 => .array .int
  | 1 => .array .int
  | 2 => .array .int
  | 3 => .array .int
  | 4 => .array .int
  | 5 => .int
  | 6 => .int
  | _ => .int
abbrev wsX50 : List Cond := u_ws RX5 TX5 8
theorem nmX5 : ∀ a, a < 8 → ∀ b, b < 8 → a ≠ b → (TX5 a).2.1 ≠ (TX5 b).2.1 := by decide +kernel
theorem tyX5_ok : ∀ k, k < 8 → parseFieldDescriptor (TX5 k).2.2.1 = some (tyX5 k) := by decide +kernel
abbrev cX5_init : ByteArray := prog_7_method_1_code
def yX5_init : MethodName := ⟨RX5, "<init>", "()V"⟩
abbrev cX5_append : ByteArray := prog_7_method_2_code
def yX5_append : MethodName := ⟨RX5, "append", "(IJ)I"⟩
abbrev cX5_readTape : ByteArray := prog_7_method_3_code
def yX5_readTape : MethodName := ⟨RX5, "readTape", "()I"⟩
abbrev cX5_readText : ByteArray := prog_7_method_4_code
def yX5_readText : MethodName := ⟨RX5, "readText", "()Z"⟩
abbrev cX5_read : ByteArray := prog_7_method_5_code
def yX5_read : MethodName := ⟨RX5, "read", "(II)Z"⟩
abbrev cX5_readOne : ByteArray := prog_7_method_6_code
def yX5_readOne : MethodName := ⟨RX5, "readOne", "(I)Z"⟩
abbrev cX5_readBehind : ByteArray := prog_7_method_7_code
def yX5_readBehind : MethodName := ⟨RX5, "readBehind", "(II)Z"⟩
abbrev cX5_levelOf : ByteArray := prog_7_method_8_code
def yX5_levelOf : MethodName := ⟨RX5, "levelOf", "(I)I"⟩
abbrev cX5_advance : ByteArray := prog_7_method_9_code
def yX5_advance : MethodName := ⟨RX5, "advance", "()V"⟩
abbrev cX5_put : ByteArray := prog_7_method_10_code
def yX5_put : MethodName := ⟨RX5, "put", "(I)Z"⟩
abbrev cX5_cut : ByteArray := prog_7_method_11_code
def yX5_cut : MethodName := ⟨RX5, "cut", "()V"⟩
abbrev cX5_endOfToken : ByteArray := prog_7_method_12_code
def yX5_endOfToken : MethodName := ⟨RX5, "endOfToken", "(I)I"⟩
abbrev cX5_tokenOf : ByteArray := prog_7_method_13_code
def yX5_tokenOf : MethodName := ⟨RX5, "tokenOf", "(II)I"⟩
abbrev cX5_numberOf : ByteArray := prog_7_method_14_code
def yX5_numberOf : MethodName := ⟨RX5, "numberOf", "(II)I"⟩
abbrev cX5_wordOf : ByteArray := prog_7_method_15_code
def yX5_wordOf : MethodName := ⟨RX5, "wordOf", "(II)I"⟩
abbrev cX5_spells : ByteArray := prog_7_method_16_code
def yX5_spells : MethodName := ⟨RX5, "spells", "(Ljava/lang/String;II)Z"⟩
abbrev cX5_signOf : ByteArray := prog_7_method_17_code
def yX5_signOf : MethodName := ⟨RX5, "signOf", "(I)I"⟩
abbrev cX5_isBlank : ByteArray := prog_7_method_18_code
def yX5_isBlank : MethodName := ⟨RX5, "isBlank", "(I)Z"⟩
abbrev cX5_isLetter : ByteArray := prog_7_method_19_code
def yX5_isLetter : MethodName := ⟨RX5, "isLetter", "(I)Z"⟩
abbrev cX5_isDigit : ByteArray := prog_7_method_20_code
def yX5_isDigit : MethodName := ⟨RX5, "isDigit", "(I)Z"⟩
def RX6 : String := "WalkingStones$Sheets"
def TX6 : u_T := fun k => match k with
  | 0 => ("WalkingStones$Sheets", "cells", "[I", true)
  | 1 => ("WalkingStones$Sheets", "sorts", "[I", true)
  | _ => ("WalkingStones$Sheets", "sizes", "[I", true)
def tyX6 : Nat → FieldType := fun k => match k with
  | 0 => .array .int
  | 1 => .array .int
  | _ => .array .int
abbrev wsX60 : List Cond := u_ws RX6 TX6 3
theorem nmX6 : ∀ a, a < 3 → ∀ b, b < 3 → a ≠ b → (TX6 a).2.1 ≠ (TX6 b).2.1 := by decide +kernel
theorem tyX6_ok : ∀ k, k < 3 → parseFieldDescriptor (TX6 k).2.2.1 = some (tyX6 k) := by decide +kernel
abbrev cX6_init : ByteArray := prog_8_method_1_code
def yX6_init : MethodName := ⟨RX6, "<init>", "()V"⟩
abbrev cX6_isMissing : ByteArray := prog_8_method_2_code
def yX6_isMissing : MethodName := ⟨RX6, "isMissing", "(I)Z"⟩
abbrev cX6_drop : ByteArray := prog_8_method_3_code
def yX6_drop : MethodName := ⟨RX6, "drop", "(I)V"⟩
abbrev cX6_renew : ByteArray := prog_8_method_4_code
def yX6_renew : MethodName := ⟨RX6, "renew", "(III)V"⟩
abbrev cX6_hasItem : ByteArray := prog_8_method_5_code
def yX6_hasItem : MethodName := ⟨RX6, "hasItem", "(II)Z"⟩
abbrev cX6_hasRow : ByteArray := prog_8_method_6_code
def yX6_hasRow : MethodName := ⟨RX6, "hasRow", "(III)Z"⟩
abbrev cX6_item : ByteArray := prog_8_method_7_code
def yX6_item : MethodName := ⟨RX6, "item", "(II)I"⟩
abbrev cX6_write : ByteArray := prog_8_method_8_code
def yX6_write : MethodName := ⟨RX6, "write", "(III)V"⟩
abbrev cX6_copyRow : ByteArray := prog_8_method_9_code
def yX6_copyRow : MethodName := ⟨RX6, "copyRow", "(IIIII)V"⟩
def RX7 : String := "WalkingStones$Stones"
def TX7 : u_T := fun k => match k with
  | 0 => ("WalkingStones$Stones", "weights", "[I", true)
  | 1 => ("WalkingStones$Stones", "places", "[I", true)
  | 2 => ("WalkingStones$Stones", "keptPlaces", "[I", true)
  | 3 => ("WalkingStones$Stones", "size", "I", false)
  | _ => ("WalkingStones$Stones", "keptSize", "I", false)
def tyX7 : Nat → FieldType := fun k => match k with
  | 0 => .array .int
  | 1 => .array .int
  | 2 => .array .int
  | 3 => .int
  | _ => .int
abbrev wsX70 : List Cond := u_ws RX7 TX7 5
theorem nmX7 : ∀ a, a < 5 → ∀ b, b < 5 → a ≠ b → (TX7 a).2.1 ≠ (TX7 b).2.1 := by decide +kernel
theorem tyX7_ok : ∀ k, k < 5 → parseFieldDescriptor (TX7 k).2.2.1 = some (tyX7 k) := by decide +kernel
abbrev cX7_init : ByteArray := prog_9_method_1_code
def yX7_init : MethodName := ⟨RX7, "<init>", "()V"⟩
abbrev cX7_has : ByteArray := prog_9_method_2_code
def yX7_has : MethodName := ⟨RX7, "has", "(I)Z"⟩
abbrev cX7_someAt : ByteArray := prog_9_method_3_code
def yX7_someAt : MethodName := ⟨RX7, "someAt", "(I)Z"⟩
abbrev cX7_put : ByteArray := prog_9_method_4_code
def yX7_put : MethodName := ⟨RX7, "put", "(II)I"⟩
abbrev cX7_lightest : ByteArray := prog_9_method_5_code
def yX7_lightest : MethodName := ⟨RX7, "lightest", "()I"⟩
abbrev cX7_keepPlaces : ByteArray := prog_9_method_6_code
def yX7_keepPlaces : MethodName := ⟨RX7, "keepPlaces", "()V"⟩
abbrev cX7_layBack : ByteArray := prog_9_method_7_code
def yX7_layBack : MethodName := ⟨RX7, "layBack", "()V"⟩
abbrev cX7_roomAhead : ByteArray := prog_9_method_8_code
def yX7_roomAhead : MethodName := ⟨RX7, "roomAhead", "([III)I"⟩
abbrev cX7_coordinate : ByteArray := prog_9_method_9_code
def yX7_coordinate : MethodName := ⟨RX7, "coordinate", "(II)I"⟩
def RX8 : String := "WalkingStones$Texts"
def TX8 : u_T := fun k => match k with
  | 0 => ("WalkingStones$Texts", "codes", "[I", true)
  | 1 => ("WalkingStones$Texts", "ends", "[I", true)
  | 2 => ("WalkingStones$Texts", "facts", "[I", true)
  | 3 => ("WalkingStones$Texts", "stack", "[I", true)
  | 4 => ("WalkingStones$Texts", "size", "I", false)
  | 5 => ("WalkingStones$Texts", "rule", "I", false)
  | _ => ("WalkingStones$Texts", "keptRule", "I", false)
def tyX8 : Nat → FieldType := fun k => match k with
  | 0 => .array .int
  | 1 => .array .int
  | 2 => .array .int
  | 3 => .array .int
  | 4 => .int
  | 5 => .int
  | _ => .int
abbrev wsX80 : List Cond := u_ws RX8 TX8 7
theorem nmX8 : ∀ a, a < 7 → ∀ b, b < 7 → a ≠ b → (TX8 a).2.1 ≠ (TX8 b).2.1 := by decide +kernel
theorem tyX8_ok : ∀ k, k < 7 → parseFieldDescriptor (TX8 k).2.2.1 = some (tyX8 k) := by decide +kernel
abbrev cX8_init : ByteArray := prog_10_method_1_code
def yX8_init : MethodName := ⟨RX8, "<init>", "()V"⟩
abbrev cX8_keep : ByteArray := prog_10_method_2_code
def yX8_keep : MethodName := ⟨RX8, "keep", "([I[I)I"⟩
abbrev cX8_tellStone : ByteArray := prog_10_method_3_code
def yX8_tellStone : MethodName := ⟨RX8, "tellStone", "(II)V"⟩
abbrev cX8_tellNight : ByteArray := prog_10_method_4_code
def yX8_tellNight : MethodName := ⟨RX8, "tellNight", "(IIII)V"⟩
abbrev cX8_value : ByteArray := prog_10_method_5_code
def yX8_value : MethodName := ⟨RX8, "value", "(I)I"⟩
abbrev cX8_work : ByteArray := prog_10_method_6_code
def yX8_work : MethodName := ⟨RX8, "work", "(II)I"⟩
abbrev cX8_joined : ByteArray := prog_10_method_7_code
def yX8_joined : MethodName := ⟨RX8, "joined", "(III)I"⟩
def RX9 : String := "WalkingStones$Tracks"
def TX9 : u_T := fun k => match k with
  | 0 => ("WalkingStones$Tracks", "ofStones", "[I", true)
  | 1 => ("WalkingStones$Tracks", "lengths", "[I", true)
  | 2 => ("WalkingStones$Tracks", "turns", "[I", true)
  | 3 => ("WalkingStones$Tracks", "overs", "[I", true)
  | 4 => ("WalkingStones$Tracks", "unders", "[I", true)
  | 5 => ("WalkingStones$Tracks", "groups", "[I", true)
  | 6 => ("WalkingStones$Tracks", "placed", "[Z", true)
  | 7 => ("WalkingStones$Tracks", "size", "I", false)
  | 8 => ("WalkingStones$Tracks", "crosses", "I", false)
  | 9 => ("WalkingStones$Tracks", "keptSize", "I", false)
  | _ => ("WalkingStones$Tracks", "keptCrosses", "I", false)
def tyX9 : Nat → FieldType := fun k => match k with
  | 0 => .array .int
  | 1 => .array .int
  | 2 => .array .int
  | 3 => .array .int
  | 4 => .array .int
  | 5 => .array .int
  | 6 => .array .boolean
  | 7 => .int
  | 8 => .int
  | 9 => .int
  | _ => .int
abbrev wsX90 : List Cond := u_ws RX9 TX9 11
theorem nmX9 : ∀ a, a < 11 → ∀ b, b < 11 → a ≠ b → (TX9 a).2.1 ≠ (TX9 b).2.1 := by decide +kernel
theorem tyX9_ok : ∀ k, k < 11 → parseFieldDescriptor (TX9 k).2.2.1 = some (tyX9 k) := by decide +kernel
abbrev cX9_init : ByteArray := prog_11_method_1_code
def yX9_init : MethodName := ⟨RX9, "<init>", "()V"⟩
abbrev cX9_has : ByteArray := prog_11_method_2_code
def yX9_has : MethodName := ⟨RX9, "has", "(I)Z"⟩
abbrev cX9_hasAll : ByteArray := prog_11_method_3_code
def yX9_hasAll : MethodName := ⟨RX9, "hasAll", "(I)Z"⟩
abbrev cX9_put : ByteArray := prog_11_method_4_code
def yX9_put : MethodName := ⟨RX9, "put", "(III)I"⟩
abbrev cX9_putCross : ByteArray := prog_11_method_5_code
def yX9_putCross : MethodName := ⟨RX9, "putCross", "(II)I"⟩
abbrev cX9_keepSizes : ByteArray := prog_11_method_6_code
def yX9_keepSizes : MethodName := ⟨RX9, "keepSizes", "()V"⟩
abbrev cX9_cutBack : ByteArray := prog_11_method_7_code
def yX9_cutBack : MethodName := ⟨RX9, "cutBack", "()V"⟩
abbrev cX9_wentTogether : ByteArray := prog_11_method_8_code
def yX9_wentTogether : MethodName := ⟨RX9, "wentTogether", "(III)Z"⟩
abbrev cX9_groupsBy : ByteArray := prog_11_method_9_code
def yX9_groupsBy : MethodName := ⟨RX9, "groupsBy", "(I)I"⟩
abbrev cX9_regroup : ByteArray := prog_11_method_10_code
def yX9_regroup : MethodName := ⟨RX9, "regroup", "(III)V"⟩
abbrev cX9_inOrder : ByteArray := prog_11_method_11_code
def yX9_inOrder : MethodName := ⟨RX9, "inOrder", "(I)I"⟩
abbrev cX9_leastFree : ByteArray := prog_11_method_12_code
def yX9_leastFree : MethodName := ⟨RX9, "leastFree", "()I"⟩
abbrev cX9_liesOverUnplaced : ByteArray := prog_11_method_13_code
def yX9_liesOverUnplaced : MethodName := ⟨RX9, "liesOverUnplaced", "(I)Z"⟩
def RX10 : String := "WalkingStones$Walk"
def TX10 : u_T := fun k => match k with
  | 0 => ("WalkingStones$Walk", "at", "[I", true)
  | 1 => ("WalkingStones$Walk", "went", "[I", true)
  | 2 => ("WalkingStones$Walk", "turns", "[I", true)
  | 3 => ("WalkingStones$Walk", "lastWays", "[I", true)
  | 4 => ("WalkingStones$Walk", "stones", "LWalkingStones$Stones;", true)
  | 5 => ("WalkingStones$Walk", "nights", "LWalkingStones$Nights;", true)
  | 6 => ("WalkingStones$Walk", "hows", "LWalkingStones$Hows;", true)
  | _ => ("WalkingStones$Walk", "pushes", "LWalkingStones$Pushes;", true)
def tyX10 : Nat → FieldType := fun k => match k with
  | 0 => .array .int
  | 1 => .array .int
  | 2 => .array .int
  | 3 => .array .int
  | 4 => .object "WalkingStones$Stones"
  | 5 => .object "WalkingStones$Nights"
  | 6 => .object "WalkingStones$Hows"
  | _ => .object "WalkingStones$Pushes"
abbrev wsX100 : List Cond := u_ws RX10 TX10 8
theorem nmX10 : ∀ a, a < 8 → ∀ b, b < 8 → a ≠ b → (TX10 a).2.1 ≠ (TX10 b).2.1 := by decide +kernel
theorem tyX10_ok : ∀ k, k < 8 → parseFieldDescriptor (TX10 k).2.2.1 = some (tyX10 k) := by decide +kernel
abbrev cX10_init : ByteArray := prog_12_method_1_code
def yX10_init : MethodName := ⟨RX10, "<init>", "(LWalkingStones$Stones;LWalkingStones$Nights;LWalkingStones$Hows;LWalkingStones$Pushes;)V"⟩
abbrev cX10_go : ByteArray := prog_12_method_2_code
def yX10_go : MethodName := ⟨RX10, "go", "(III)V"⟩
abbrev cX10_goOneNight : ByteArray := prog_12_method_3_code
def yX10_goOneNight : MethodName := ⟨RX10, "goOneNight", "(III)V"⟩
abbrev cX10_canGo : ByteArray := prog_12_method_4_code
def yX10_canGo : MethodName := ⟨RX10, "canGo", "(III)Z"⟩
def RX11 : String := "WalkingStones"
def TX11 : u_T := fun k => match k with
  | 0 => ("WalkingStones", "stones", "LWalkingStones$Stones;", true)
  | 1 => ("WalkingStones", "nights", "LWalkingStones$Nights;", true)
  | 2 => ("WalkingStones", "hows", "LWalkingStones$Hows;", true)
  | 3 => ("WalkingStones", "texts", "LWalkingStones$Texts;", true)
  | 4 => ("WalkingStones", "reader", "LWalkingStones$Reader;", true)
  | 5 => ("WalkingStones", "pushes", "LWalkingStones$Pushes;", true)
  | 6 => ("WalkingStones", "walk", "LWalkingStones$Walk;", true)
  | 7 => ("WalkingStones", "tracks", "LWalkingStones$Tracks;", true)
  | 8 => ("WalkingStones", "pegs", "LWalkingStones$Pegs;", true)
  | 9 => ("WalkingStones", "looks", "LWalkingStones$Looks;", true)
  | 10 => ("WalkingStones", "sheets", "LWalkingStones$Sheets;", true)
  | _ => ("WalkingStones", "hasImage", "Z", false)
def tyX11 : Nat → FieldType := fun k => match k with
  | 0 => .object "WalkingStones$Stones"
  | 1 => .object "WalkingStones$Nights"
  | 2 => .object "WalkingStones$Hows"
  | 3 => .object "WalkingStones$Texts"
  | 4 => .object "WalkingStones$Reader"
  | 5 => .object "WalkingStones$Pushes"
  | 6 => .object "WalkingStones$Walk"
  | 7 => .object "WalkingStones$Tracks"
  | 8 => .object "WalkingStones$Pegs"
  | 9 => .object "WalkingStones$Looks"
  | 10 => .object "WalkingStones$Sheets"
  | _ => .boolean
abbrev wsX110 : List Cond := u_ws RX11 TX11 12
theorem nmX11 : ∀ a, a < 12 → ∀ b, b < 12 → a ≠ b → (TX11 a).2.1 ≠ (TX11 b).2.1 := by decide +kernel
theorem tyX11_ok : ∀ k, k < 12 → parseFieldDescriptor (TX11 k).2.2.1 = some (tyX11 k) := by decide +kernel
abbrev cX11_init : ByteArray := prog_1_method_1_code
def yX11_init : MethodName := ⟨RX11, "<init>", "()V"⟩
abbrev cX11_stone : ByteArray := prog_1_method_2_code
def yX11_stone : MethodName := ⟨RX11, "stone", "(II)I"⟩
abbrev cX11_night : ByteArray := prog_1_method_3_code
def yX11_night : MethodName := ⟨RX11, "night", "(I)I"⟩
abbrev cX11_how : ByteArray := prog_1_method_4_code
def yX11_how : MethodName := ⟨RX11, "how", "(II)I"⟩
abbrev cX11_stoneTold : ByteArray := prog_1_method_5_code
def yX11_stoneTold : MethodName := ⟨RX11, "stoneTold", "(II)I"⟩
abbrev cX11_told : ByteArray := prog_1_method_6_code
def yX11_told : MethodName := ⟨RX11, "told", "(IIII)I"⟩
abbrev cX11_needs : ByteArray := prog_1_method_7_code
def yX11_needs : MethodName := ⟨RX11, "needs", "(III)I"⟩
abbrev cX11_feed : ByteArray := prog_1_method_8_code
def yX11_feed : MethodName := ⟨RX11, "feed", "(IJ)I"⟩
abbrev cX11_text : ByteArray := prog_1_method_9_code
def yX11_text : MethodName := ⟨RX11, "text", "()I"⟩
abbrev cX11_force : ByteArray := prog_1_method_10_code
def yX11_force : MethodName := ⟨RX11, "force", "(I)I"⟩
abbrev cX11_run : ByteArray := prog_1_method_11_code
def yX11_run : MethodName := ⟨RX11, "run", "(IIII)I"⟩
abbrev cX11_lay : ByteArray := prog_1_method_12_code
def yX11_lay : MethodName := ⟨RX11, "lay", "(II)I"⟩
abbrev cX11_track : ByteArray := prog_1_method_13_code
def yX11_track : MethodName := ⟨RX11, "track", "(III)I"⟩
abbrev cX11_together : ByteArray := prog_1_method_14_code
def yX11_together : MethodName := ⟨RX11, "together", "(III)I"⟩
abbrev cX11_groups : ByteArray := prog_1_method_15_code
def yX11_groups : MethodName := ⟨RX11, "groups", "(I)I"⟩
abbrev cX11_fits : ByteArray := prog_1_method_16_code
def yX11_fits : MethodName := ⟨RX11, "fits", "(II)I"⟩
abbrev cX11_odds : ByteArray := prog_1_method_17_code
def yX11_odds : MethodName := ⟨RX11, "odds", "(III)J"⟩
abbrev cX11_peg : ByteArray := prog_1_method_18_code
def yX11_peg : MethodName := ⟨RX11, "peg", "(I)I"⟩
abbrev cX11_holds : ByteArray := prog_1_method_19_code
def yX11_holds : MethodName := ⟨RX11, "holds", "(II)I"⟩
abbrev cX11_bars : ByteArray := prog_1_method_20_code
def yX11_bars : MethodName := ⟨RX11, "bars", "(II)I"⟩
abbrev cX11_seldom : ByteArray := prog_1_method_21_code
def yX11_seldom : MethodName := ⟨RX11, "seldom", "(II)J"⟩
abbrev cX11_when : ByteArray := prog_1_method_22_code
def yX11_when : MethodName := ⟨RX11, "when", "(II)J"⟩
abbrev cX11_cross : ByteArray := prog_1_method_23_code
def yX11_cross : MethodName := ⟨RX11, "cross", "(II)I"⟩
abbrev cX11_order : ByteArray := prog_1_method_24_code
def yX11_order : MethodName := ⟨RX11, "order", "(I)I"⟩
abbrev cX11_look : ByteArray := prog_1_method_25_code
def yX11_look : MethodName := ⟨RX11, "look", "(II)I"⟩
abbrev cX11_foretold : ByteArray := prog_1_method_26_code
def yX11_foretold : MethodName := ⟨RX11, "foretold", "(II)I"⟩
abbrev cX11_held : ByteArray := prog_1_method_27_code
def yX11_held : MethodName := ⟨RX11, "held", "(III)I"⟩
abbrev cX11_image : ByteArray := prog_1_method_28_code
def yX11_image : MethodName := ⟨RX11, "image", "()I"⟩
abbrev cX11_back : ByteArray := prog_1_method_29_code
def yX11_back : MethodName := ⟨RX11, "back", "()I"⟩
abbrev cX11_count : ByteArray := prog_1_method_30_code
def yX11_count : MethodName := ⟨RX11, "count", "(I)I"⟩
abbrev cX11_sheet : ByteArray := prog_1_method_31_code
def yX11_sheet : MethodName := ⟨RX11, "sheet", "(III)I"⟩
abbrev cX11_cell : ByteArray := prog_1_method_32_code
def yX11_cell : MethodName := ⟨RX11, "cell", "(III)I"⟩
abbrev cX11_copy : ByteArray := prog_1_method_33_code
def yX11_copy : MethodName := ⟨RX11, "copy", "(IIIII)I"⟩
abbrev cX11_nights : ByteArray := prog_1_method_34_code
def yX11_nights : MethodName := ⟨RX11, "nights", "(IIII)I"⟩
abbrev cX11_taken : ByteArray := prog_1_method_35_code
def yX11_taken : MethodName := ⟨RX11, "taken", "(II)I"⟩
abbrev cX11_bit : ByteArray := prog_1_method_36_code
def yX11_bit : MethodName := ⟨RX11, "bit", "(Z)I"⟩
abbrev cX11_within : ByteArray := prog_1_method_37_code
def yX11_within : MethodName := ⟨RX11, "within", "(III)I"⟩
abbrev cX11_isPlace : ByteArray := prog_1_method_38_code
def yX11_isPlace : MethodName := ⟨RX11, "isPlace", "(I)Z"⟩
abbrev cX11_isKind : ByteArray := prog_1_method_39_code
def yX11_isKind : MethodName := ⟨RX11, "isKind", "(I)Z"⟩
abbrev cX11_isOff : ByteArray := prog_1_method_40_code
def yX11_isOff : MethodName := ⟨RX11, "isOff", "(I)Z"⟩
abbrev cX11_isFar : ByteArray := prog_1_method_41_code
def yX11_isFar : MethodName := ⟨RX11, "isFar", "(I)Z"⟩
abbrev cX11_isSheet : ByteArray := prog_1_method_42_code
def yX11_isSheet : MethodName := ⟨RX11, "isSheet", "(I)Z"⟩
abbrev cX11_isSort : ByteArray := prog_1_method_43_code
def yX11_isSort : MethodName := ⟨RX11, "isSort", "(I)Z"⟩
abbrev cX11_isUnder : ByteArray := prog_1_method_44_code
def yX11_isUnder : MethodName := ⟨RX11, "isUnder", "(II)Z"⟩
abbrev cX11_fitOfWalk : ByteArray := prog_1_method_45_code
def yX11_fitOfWalk : MethodName := ⟨RX11, "fitOfWalk", "(I)I"⟩
abbrev cX11_productOfFits : ByteArray := prog_1_method_46_code
def yX11_productOfFits : MethodName := ⟨RX11, "productOfFits", "(I)J"⟩
abbrev cX11_partOfWait : ByteArray := prog_1_method_47_code
def yX11_partOfWait : MethodName := ⟨RX11, "partOfWait", "(II)J"⟩
abbrev cX11_partOfFraction : ByteArray := prog_1_method_48_code
def yX11_partOfFraction : MethodName := ⟨RX11, "partOfFraction", "(JJI)J"⟩
abbrev cX11_commonDivisor : ByteArray := prog_1_method_49_code
def yX11_commonDivisor : MethodName := ⟨RX11, "commonDivisor", "(JJ)J"⟩
def RX12 : String := "WalkingStonesModel"
def TX12 : u_T := fun k => match k with
  | 0 => ("WalkingStonesModel", "stones", "I", false)
  | 1 => ("WalkingStonesModel", "nights", "I", false)
  | 2 => ("WalkingStonesModel", "hows", "I", false)
  | 3 => ("WalkingStonesModel", "weight", "[I", true)
  | 4 => ("WalkingStonesModel", "place", "[I", true)
  | 5 => ("WalkingStonesModel", "wet", "[I", true)
  | 6 => ("WalkingStonesModel", "ice", "[I", true)
  | 7 => ("WalkingStonesModel", "wind", "[I", true)
  | 8 => ("WalkingStonesModel", "way", "[I", true)
  | 9 => ("WalkingStonesModel", "kind", "[I", true)
  | 10 => ("WalkingStonesModel", "number", "[I", true)
  | 11 => ("WalkingStonesModel", "texts", "I", false)
  | 12 => ("WalkingStonesModel", "rule", "I", false)
  | 13 => ("WalkingStonesModel", "fed", "I", false)
  | 14 => ("WalkingStonesModel", "at", "I", false)
  | 15 => ("WalkingStonesModel", "token", "I", false)
  | 16 => ("WalkingStonesModel", "word", "I", false)
  | 17 => ("WalkingStonesModel", "size", "I", false)
  | 18 => ("WalkingStonesModel", "open", "I", false)
  | 19 => ("WalkingStonesModel", "waiting", "I", false)
  | 20 => ("WalkingStonesModel", "made", "I", false)
  | 21 => ("WalkingStonesModel", "tape", "[I", true)
  | 22 => ("WalkingStonesModel", "signs", "[I", true)
  | 23 => ("WalkingStonesModel", "tells", "[I", true)
  | 24 => ("WalkingStonesModel", "many", "[I", true)
  | 25 => ("WalkingStonesModel", "waits", "[I", true)
  | 26 => ("WalkingStonesModel", "pile", "[I", true)
  | 27 => ("WalkingStonesModel", "tried", "I", false)
  | 28 => ("WalkingStonesModel", "on", "[I", true)
  | 29 => ("WalkingStonesModel", "went", "[I", true)
  | 30 => ("WalkingStonesModel", "turns", "[I", true)
  | 31 => ("WalkingStonesModel", "lastWay", "[I", true)
  | 32 => ("WalkingStonesModel", "tracks", "I", false)
  | 33 => ("WalkingStonesModel", "trackStone", "[I", true)
  | 34 => ("WalkingStonesModel", "length", "[I", true)
  | 35 => ("WalkingStonesModel", "trackTurns", "[I", true)
  | 36 => ("WalkingStonesModel", "group", "[I", true)
  | 37 => ("WalkingStonesModel", "pegs", "I", false)
  | 38 => ("WalkingStonesModel", "peg", "[I", true)
  | 39 => ("WalkingStonesModel", "crosses", "I", false)
  | 40 => ("WalkingStonesModel", "over", "[I", true)
  | 41 => ("WalkingStonesModel", "under", "[I", true)
  | 42 => ("WalkingStonesModel", "hasImage", "Z", false)
  | 43 => ("WalkingStonesModel", "imageStones", "I", false)
  | 44 => ("WalkingStonesModel", "imageRule", "I", false)
  | 45 => ("WalkingStonesModel", "imageTracks", "I", false)
  | 46 => ("WalkingStonesModel", "imageCrosses", "I", false)
  | 47 => ("WalkingStonesModel", "imagePegs", "I", false)
  | 48 => ("WalkingStonesModel", "imagePlace", "[I", true)
  | 49 => ("WalkingStonesModel", "sort", "[I", true)
  | 50 => ("WalkingStonesModel", "rows", "[I", true)
  | 51 => ("WalkingStonesModel", "item", "[I", true)
  | 52 => ("WalkingStonesModel", "aside", "[I", true)
  | _ => ("WalkingStonesModel", "worths", "[I", true)
def tyX12 : Nat → FieldType := fun k => match k with
  | 0 => .int
  | 1 => .int
  | 2 => .int
  | 3 => .array .int
  | 4 => .array .int
  | 5 => .array .int
  | 6 => .array .int
  | 7 => .array .int
  | 8 => .array .int
  | 9 => .array .int
  | 10 => .array .int
  | 11 => .int
  | 12 => .int
  | 13 => .int
  | 14 => .int
  | 15 => .int
  | 16 => .int
  | 17 => .int
  | 18 => .int
  | 19 => .int
  | 20 => .int
  | 21 => .array .int
  | 22 => .array .int
  | 23 => .array .int
  | 24 => .array .int
  | 25 => .array .int
  | 26 => .array .int
  | 27 => .int
  | 28 => .array .int
  | 29 => .array .int
  | 30 => .array .int
  | 31 => .array .int
  | 32 => .int
  | 33 => .array .int
  | 34 => .array .int
  | 35 => .array .int
  | 36 => .array .int
  | 37 => .int
  | 38 => .array .int
  | 39 => .int
  | 40 => .array .int
  | 41 => .array .int
  | 42 => .boolean
  | 43 => .int
  | 44 => .int
  | 45 => .int
  | 46 => .int
  | 47 => .int
  | 48 => .array .int
  | 49 => .array .int
  | 50 => .array .int
  | 51 => .array .int
  | 52 => .array .int
  | _ => .array .int
abbrev wsX120 : List Cond := u_ws RX12 TX12 54
theorem nmX12 : ∀ a, a < 54 → ∀ b, b < 54 → a ≠ b → (TX12 a).2.1 ≠ (TX12 b).2.1 := by decide +kernel
theorem tyX12_ok : ∀ k, k < 54 → parseFieldDescriptor (TX12 k).2.2.1 = some (tyX12 k) := by decide +kernel
abbrev cX12_in : ByteArray := prog_14_method_1_code
def yX12_in : MethodName := ⟨RX12, "in", "(III)Z"⟩
abbrev cX12_isStone : ByteArray := prog_14_method_2_code
def yX12_isStone : MethodName := ⟨RX12, "isStone", "(I)Z"⟩
abbrev cX12_isNight : ByteArray := prog_14_method_3_code
def yX12_isNight : MethodName := ⟨RX12, "isNight", "(I)Z"⟩
abbrev cX12_isHow : ByteArray := prog_14_method_4_code
def yX12_isHow : MethodName := ⟨RX12, "isHow", "(I)Z"⟩
abbrev cX12_stone : ByteArray := prog_14_method_5_code
def yX12_stone : MethodName := ⟨RX12, "stone", "(II)I"⟩
abbrev cX12_isWeather : ByteArray := prog_14_method_6_code
def yX12_isWeather : MethodName := ⟨RX12, "isWeather", "(I)Z"⟩
abbrev cX12_comes : ByteArray := prog_14_method_7_code
def yX12_comes : MethodName := ⟨RX12, "comes", "(I)V"⟩
abbrev cX12_night : ByteArray := prog_14_method_8_code
def yX12_night : MethodName := ⟨RX12, "night", "(I)I"⟩
abbrev cX12_how : ByteArray := prog_14_method_9_code
def yX12_how : MethodName := ⟨RX12, "how", "(II)I"⟩
abbrev cX12_stoneTold : ByteArray := prog_14_method_10_code
def yX12_stoneTold : MethodName := ⟨RX12, "stoneTold", "(II)I"⟩
abbrev cX12_init : ByteArray := prog_14_method_11_code
def yX12_init : MethodName := ⟨RX12, "<init>", "()V"⟩
abbrev cX12_feed : ByteArray := prog_14_method_12_code
def yX12_feed : MethodName := ⟨RX12, "feed", "(IJ)I"⟩
abbrev cX12_byteAt : ByteArray := prog_14_method_13_code
def yX12_byteAt : MethodName := ⟨RX12, "byteAt", "(I)I"⟩
abbrev cX12_isLetter : ByteArray := prog_14_method_14_code
def yX12_isLetter : MethodName := ⟨RX12, "isLetter", "(I)Z"⟩
abbrev cX12_isDigit : ByteArray := prog_14_method_15_code
def yX12_isDigit : MethodName := ⟨RX12, "isDigit", "(I)Z"⟩
abbrev cX12_look : ByteArray := prog_14_method_16_code
def yX12_look : MethodName := ⟨RX12, "look", "()V"⟩
abbrev cX12_goOn : ByteArray := prog_14_method_17_code
def yX12_goOn : MethodName := ⟨RX12, "goOn", "()V"⟩
abbrev cX12_isWord : ByteArray := prog_14_method_18_code
def yX12_isWord : MethodName := ⟨RX12, "isWord", "(I)Z"⟩
abbrev cX12_isKey : ByteArray := prog_14_method_19_code
def yX12_isKey : MethodName := ⟨RX12, "isKey", "(I)Z"⟩
abbrev cX12_nameOf : ByteArray := prog_14_method_20_code
def yX12_nameOf : MethodName := ⟨RX12, "nameOf", "(I)I"⟩
abbrev cX12_put : ByteArray := prog_14_method_21_code
def yX12_put : MethodName := ⟨RX12, "put", "(II)V"⟩
abbrev cX12_top : ByteArray := prog_14_method_22_code
def yX12_top : MethodName := ⟨RX12, "top", "()I"⟩
abbrev cX12_pushSign : ByteArray := prog_14_method_23_code
def yX12_pushSign : MethodName := ⟨RX12, "pushSign", "(I)V"⟩
abbrev cX12_strength : ByteArray := prog_14_method_24_code
def yX12_strength : MethodName := ⟨RX12, "strength", "(I)I"⟩
abbrev cX12_settle : ByteArray := prog_14_method_25_code
def yX12_settle : MethodName := ⟨RX12, "settle", "(I)V"⟩
abbrev cX12_opens : ByteArray := prog_14_method_26_code
def yX12_opens : MethodName := ⟨RX12, "opens", "(I)Z"⟩
abbrev cX12_takesOne : ByteArray := prog_14_method_27_code
def yX12_takesOne : MethodName := ⟨RX12, "takesOne", "(Z)I"⟩
abbrev cX12_takesSign : ByteArray := prog_14_method_28_code
def yX12_takesSign : MethodName := ⟨RX12, "takesSign", "()I"⟩
abbrev cX12_takesE : ByteArray := prog_14_method_29_code
def yX12_takesE : MethodName := ⟨RX12, "takesE", "(I)Z"⟩
abbrev cX12_takesPart : ByteArray := prog_14_method_30_code
def yX12_takesPart : MethodName := ⟨RX12, "takesPart", "(III)Z"⟩
abbrev cX12_text : ByteArray := prog_14_method_31_code
def yX12_text : MethodName := ⟨RX12, "text", "()I"⟩
abbrev cX12_force : ByteArray := prog_14_method_32_code
def yX12_force : MethodName := ⟨RX12, "force", "(I)I"⟩
abbrev cX12_nameValue : ByteArray := prog_14_method_33_code
def yX12_nameValue : MethodName := ⟨RX12, "nameValue", "(IIII)I"⟩
abbrev cX12_done : ByteArray := prog_14_method_34_code
def yX12_done : MethodName := ⟨RX12, "done", "(III)I"⟩
abbrev cX12_tellsRule : ByteArray := prog_14_method_35_code
def yX12_tellsRule : MethodName := ⟨RX12, "tellsRule", "(IIII)I"⟩
abbrev cX12_windNow : ByteArray := prog_14_method_36_code
def yX12_windNow : MethodName := ⟨RX12, "windNow", "(I)I"⟩
abbrev cX12_may : ByteArray := prog_14_method_37_code
def yX12_may : MethodName := ⟨RX12, "may", "(II)Z"⟩
abbrev cX12_drag : ByteArray := prog_14_method_38_code
def yX12_drag : MethodName := ⟨RX12, "drag", "(II)I"⟩
abbrev cX12_plainPush : ByteArray := prog_14_method_39_code
def yX12_plainPush : MethodName := ⟨RX12, "plainPush", "(III)I"⟩
abbrev cX12_pushes : ByteArray := prog_14_method_40_code
def yX12_pushes : MethodName := ⟨RX12, "pushes", "(III)I"⟩
abbrev cX12_wayOf : ByteArray := prog_14_method_41_code
def yX12_wayOf : MethodName := ⟨RX12, "wayOf", "(II)I"⟩
abbrev cX12_told : ByteArray := prog_14_method_42_code
def yX12_told : MethodName := ⟨RX12, "told", "(IIII)I"⟩
abbrev cX12_needs : ByteArray := prog_14_method_43_code
def yX12_needs : MethodName := ⟨RX12, "needs", "(III)I"⟩
abbrev cX12_isFree : ByteArray := prog_14_method_44_code
def yX12_isFree : MethodName := ⟨RX12, "isFree", "(I)Z"⟩
abbrev cX12_ahead : ByteArray := prog_14_method_45_code
def yX12_ahead : MethodName := ⟨RX12, "ahead", "(II)I"⟩
abbrev cX12_begin : ByteArray := prog_14_method_46_code
def yX12_begin : MethodName := ⟨RX12, "begin", "()V"⟩
abbrev cX12_goNight : ByteArray := prog_14_method_47_code
def yX12_goNight : MethodName := ⟨RX12, "goNight", "(II)V"⟩
abbrev cX12_goAll : ByteArray := prog_14_method_48_code
def yX12_goAll : MethodName := ⟨RX12, "goAll", "(I)V"⟩
abbrev cX12_isRow : ByteArray := prog_14_method_49_code
def yX12_isRow : MethodName := ⟨RX12, "isRow", "(I)Z"⟩
abbrev cX12_goRow : ByteArray := prog_14_method_50_code
def yX12_goRow : MethodName := ⟨RX12, "goRow", "(II)V"⟩
abbrev cX12_run : ByteArray := prog_14_method_51_code
def yX12_run : MethodName := ⟨RX12, "run", "(IIII)I"⟩
abbrev cX12_lay : ByteArray := prog_14_method_52_code
def yX12_lay : MethodName := ⟨RX12, "lay", "(II)I"⟩
abbrev cX12_isTrack : ByteArray := prog_14_method_53_code
def yX12_isTrack : MethodName := ⟨RX12, "isTrack", "(I)Z"⟩
abbrev cX12_track : ByteArray := prog_14_method_54_code
def yX12_track : MethodName := ⟨RX12, "track", "(III)I"⟩
abbrev cX12_apart : ByteArray := prog_14_method_55_code
def yX12_apart : MethodName := ⟨RX12, "apart", "(II)I"⟩
abbrev cX12_areTogether : ByteArray := prog_14_method_56_code
def yX12_areTogether : MethodName := ⟨RX12, "areTogether", "(III)Z"⟩
abbrev cX12_together : ByteArray := prog_14_method_57_code
def yX12_together : MethodName := ⟨RX12, "together", "(III)I"⟩
abbrev cX12_groups : ByteArray := prog_14_method_58_code
def yX12_groups : MethodName := ⟨RX12, "groups", "(I)I"⟩
abbrev cX12_fitting : ByteArray := prog_14_method_59_code
def yX12_fitting : MethodName := ⟨RX12, "fitting", "(I)I"⟩
abbrev cX12_fits : ByteArray := prog_14_method_60_code
def yX12_fits : MethodName := ⟨RX12, "fits", "(II)I"⟩
abbrev cX12_product : ByteArray := prog_14_method_61_code
def yX12_product : MethodName := ⟨RX12, "product", "(II)J"⟩
abbrev cX12_divisor : ByteArray := prog_14_method_62_code
def yX12_divisor : MethodName := ⟨RX12, "divisor", "(JJ)J"⟩
abbrev cX12_odds : ByteArray := prog_14_method_63_code
def yX12_odds : MethodName := ⟨RX12, "odds", "(III)J"⟩
abbrev cX12_peg : ByteArray := prog_14_method_64_code
def yX12_peg : MethodName := ⟨RX12, "peg", "(I)I"⟩
abbrev cX12_isHeld : ByteArray := prog_14_method_65_code
def yX12_isHeld : MethodName := ⟨RX12, "isHeld", "(II)Z"⟩
abbrev cX12_holds : ByteArray := prog_14_method_66_code
def yX12_holds : MethodName := ⟨RX12, "holds", "(II)I"⟩
abbrev cX12_isOut : ByteArray := prog_14_method_67_code
def yX12_isOut : MethodName := ⟨RX12, "isOut", "(I)Z"⟩
abbrev cX12_bars : ByteArray := prog_14_method_68_code
def yX12_bars : MethodName := ⟨RX12, "bars", "(II)I"⟩
abbrev cX12_pushesSome : ByteArray := prog_14_method_69_code
def yX12_pushesSome : MethodName := ⟨RX12, "pushesSome", "(II)Z"⟩
abbrev cX12_lightest : ByteArray := prog_14_method_70_code
def yX12_lightest : MethodName := ⟨RX12, "lightest", "()I"⟩
abbrev cX12_seldom : ByteArray := prog_14_method_71_code
def yX12_seldom : MethodName := ⟨RX12, "seldom", "(II)J"⟩
abbrev cX12_canGo : ByteArray := prog_14_method_72_code
def yX12_canGo : MethodName := ⟨RX12, "canGo", "(III)Z"⟩
abbrev cX12_when : ByteArray := prog_14_method_73_code
def yX12_when : MethodName := ⟨RX12, "when", "(II)J"⟩
abbrev cX12_cross : ByteArray := prog_14_method_74_code
def yX12_cross : MethodName := ⟨RX12, "cross", "(II)I"⟩
abbrev cX12_eldest : ByteArray := prog_14_method_75_code
def yX12_eldest : MethodName := ⟨RX12, "eldest", "(I)I"⟩
abbrev cX12_order : ByteArray := prog_14_method_76_code
def yX12_order : MethodName := ⟨RX12, "order", "(I)I"⟩
abbrev cX12_worthOf : ByteArray := prog_14_method_77_code
def yX12_worthOf : MethodName := ⟨RX12, "worthOf", "(I)I"⟩
abbrev cX12_look_ : ByteArray := prog_14_method_78_code
def yX12_look_ : MethodName := ⟨RX12, "look", "(II)I"⟩
abbrev cX12_goers : ByteArray := prog_14_method_79_code
def yX12_goers : MethodName := ⟨RX12, "goers", "(II)I"⟩
abbrev cX12_foretold : ByteArray := prog_14_method_80_code
def yX12_foretold : MethodName := ⟨RX12, "foretold", "(II)I"⟩
abbrev cX12_held : ByteArray := prog_14_method_81_code
def yX12_held : MethodName := ⟨RX12, "held", "(III)I"⟩
abbrev cX12_image : ByteArray := prog_14_method_82_code
def yX12_image : MethodName := ⟨RX12, "image", "()I"⟩
abbrev cX12_back : ByteArray := prog_14_method_83_code
def yX12_back : MethodName := ⟨RX12, "back", "()I"⟩
abbrev cX12_count : ByteArray := prog_14_method_84_code
def yX12_count : MethodName := ⟨RX12, "count", "(I)I"⟩
abbrev cX12_isSheet : ByteArray := prog_14_method_85_code
def yX12_isSheet : MethodName := ⟨RX12, "isSheet", "(I)Z"⟩
abbrev cX12_sheet : ByteArray := prog_14_method_86_code
def yX12_sheet : MethodName := ⟨RX12, "sheet", "(III)I"⟩
abbrev cX12_cell : ByteArray := prog_14_method_87_code
def yX12_cell : MethodName := ⟨RX12, "cell", "(III)I"⟩
abbrev cX12_copy : ByteArray := prog_14_method_88_code
def yX12_copy : MethodName := ⟨RX12, "copy", "(IIIII)I"⟩
abbrev cX12_nights : ByteArray := prog_14_method_89_code
def yX12_nights : MethodName := ⟨RX12, "nights", "(IIII)I"⟩
abbrev cX12_isUnder : ByteArray := prog_14_method_90_code
def yX12_isUnder : MethodName := ⟨RX12, "isUnder", "(II)Z"⟩
abbrev cX12_taken : ByteArray := prog_14_method_91_code
def yX12_taken : MethodName := ⟨RX12, "taken", "(II)I"⟩
def RJ9 : String := "java/lang/Math"
def TJ9 : u_T := fun k => match k with
  | _ => ("", "", "", false)
def tyJ9 : Nat → FieldType := fun k => match k with
  | _ => .int
abbrev wsJ90 : List Cond := u_ws RJ9 TJ9 0
theorem nmJ9 : ∀ a, a < 0 → ∀ b, b < 0 → a ≠ b → (TJ9 a).2.1 ≠ (TJ9 b).2.1 := by decide +kernel
theorem tyJ9_ok : ∀ k, k < 0 → parseFieldDescriptor (TJ9 k).2.2.1 = some (tyJ9 k) := by decide +kernel
abbrev cJ9_abs_0f7a4 : ByteArray := prog_15_method_59_code
def yJ9_abs_0f7a4 : MethodName := ⟨RJ9, "abs", "(I)I"⟩
abbrev cJ9_max_7cf53 : ByteArray := prog_15_method_65_code
def yJ9_max_7cf53 : MethodName := ⟨RJ9, "max", "(II)I"⟩
abbrev cJ9_min_7cf53 : ByteArray := prog_15_method_69_code
def yJ9_min_7cf53 : MethodName := ⟨RJ9, "min", "(II)I"⟩
def RJ0 : String := "java/lang/String"
def TJ0 : u_T := fun k => match k with
  | _ => ("", "", "", false)
def tyJ0 : Nat → FieldType := fun k => match k with
  | _ => .int
abbrev wsJ00 : List Cond := u_ws RJ0 TJ0 0
theorem nmJ0 : ∀ a, a < 0 → ∀ b, b < 0 → a ≠ b → (TJ0 a).2.1 ≠ (TJ0 b).2.1 := by decide +kernel
theorem tyJ0_ok : ∀ k, k < 0 → parseFieldDescriptor (TJ0 k).2.2.1 = some (tyJ0 k) := by decide +kernel
abbrev cJ0_length_8abf5 : ByteArray := prog_16_method_54_code
def yJ0_length_8abf5 : MethodName := ⟨RJ0, "length", "()I"⟩
abbrev cJ0_charAt_5068e : ByteArray := prog_16_method_56_code
def yJ0_charAt_5068e : MethodName := ⟨RJ0, "charAt", "(I)C"⟩
abbrev cJ0_coder_7d493 : ByteArray := prog_16_method_152_code
def yJ0_coder_7d493 : MethodName := ⟨RJ0, "coder", "()B"⟩
abbrev cJ0_isLatin1_aae02 : ByteArray := prog_16_method_154_code
def yJ0_isLatin1_aae02 : MethodName := ⟨RJ0, "isLatin1", "()Z"⟩
abbrev cJ0_checkIndex_df160 : ByteArray := prog_16_method_155_code
def yJ0_checkIndex_df160 : MethodName := ⟨RJ0, "checkIndex", "(II)V"⟩
def RJ1 : String := "java/lang/StringLatin1"
def TJ1 : u_T := fun k => match k with
  | _ => ("", "", "", false)
def tyJ1 : Nat → FieldType := fun k => match k with
  | _ => .int
abbrev wsJ10 : List Cond := u_ws RJ1 TJ1 0
theorem nmJ1 : ∀ a, a < 0 → ∀ b, b < 0 → a ≠ b → (TJ1 a).2.1 ≠ (TJ1 b).2.1 := by decide +kernel
theorem tyJ1_ok : ∀ k, k < 0 → parseFieldDescriptor (TJ1 k).2.2.1 = some (tyJ1 k) := by decide +kernel
abbrev cJ1_charAt_3b067 : ByteArray := prog_17_method_2_code
def yJ1_charAt_3b067 : MethodName := ⟨RJ1, "charAt", "([BI)C"⟩
def RJ2 : String := "java/lang/StringUTF16"
def TJ2 : u_T := fun k => match k with
  | _ => ("", "", "", false)
def tyJ2 : Nat → FieldType := fun k => match k with
  | _ => .int
abbrev wsJ20 : List Cond := u_ws RJ2 TJ2 0
theorem nmJ2 : ∀ a, a < 0 → ∀ b, b < 0 → a ≠ b → (TJ2 a).2.1 ≠ (TJ2 b).2.1 := by decide +kernel
theorem tyJ2_ok : ∀ k, k < 0 → parseFieldDescriptor (TJ2 k).2.2.1 = some (tyJ2 k) := by decide +kernel
abbrev cJ2_getChar_3b067 : ByteArray := prog_18_method_5_code
def yJ2_getChar_3b067 : MethodName := ⟨RJ2, "getChar", "([BI)C"⟩
abbrev cJ2_length_9d52b : ByteArray := prog_18_method_6_code
def yJ2_length_9d52b : MethodName := ⟨RJ2, "length", "([B)I"⟩
abbrev cJ2_charAt_3b067 : ByteArray := prog_18_method_83_code
def yJ2_charAt_3b067 : MethodName := ⟨RJ2, "charAt", "([BI)C"⟩
abbrev cJ2_checkIndex_2214a : ByteArray := prog_18_method_91_code
def yJ2_checkIndex_2214a : MethodName := ⟨RJ2, "checkIndex", "(I[B)V"⟩
def RJ10 : String := "java/lang/System"
def TJ10 : u_T := fun k => match k with
  | _ => ("", "", "", false)
def tyJ10 : Nat → FieldType := fun k => match k with
  | _ => .int
abbrev wsJ100 : List Cond := u_ws RJ10 TJ10 0
theorem nmJ10 : ∀ a, a < 0 → ∀ b, b < 0 → a ≠ b → (TJ10 a).2.1 ≠ (TJ10 b).2.1 := by decide +kernel
theorem tyJ10_ok : ∀ k, k < 0 → parseFieldDescriptor (TJ10 k).2.2.1 = some (tyJ10 k) := by decide +kernel
def RJ3 : String := "jdk/internal/util/Preconditions"
def TJ3 : u_T := fun k => match k with
  | _ => ("", "", "", false)
def tyJ3 : Nat → FieldType := fun k => match k with
  | _ => .int
abbrev wsJ30 : List Cond := u_ws RJ3 TJ3 0
theorem nmJ3 : ∀ a, a < 0 → ∀ b, b < 0 → a ≠ b → (TJ3 a).2.1 ≠ (TJ3 b).2.1 := by decide +kernel
theorem tyJ3_ok : ∀ k, k < 0 → parseFieldDescriptor (TJ3 k).2.2.1 = some (tyJ3 k) := by decide +kernel
abbrev cJ3_checkIndex_8e157 : ByteArray := prog_20_method_11_code
def yJ3_checkIndex_8e157 : MethodName := ⟨RJ3, "checkIndex", "(IILjava/util/function/BiFunction;)I"⟩
def RL : String := "WalkingStonesLaw"
abbrev cL_law : ByteArray := code
def yL_law : MethodName := ⟨RL, "law", "([I)Z"⟩
abbrev vwCl : List vw_C := [(RX0, TX0, 3), (RX1, TX1, 4), (RX2, TX2, 5), (RX3, TX3, 4), (RX4, TX4, 4), (RX5, TX5, 8), (RX6, TX6, 3), (RX7, TX7, 5), (RX8, TX8, 7), (RX9, TX9, 11), (RX10, TX10, 8), (RX11, TX11, 12), (RX12, TX12, 54)]
