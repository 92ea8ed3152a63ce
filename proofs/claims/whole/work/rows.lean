section
-- ===== PART A: goes FIRST, ahead of the names: the tables' words, and 'selects' of the private methods out of them =====
/-- a private method of a class that the tables say can be made, by its rows of tables_1 -/
def lw_okq (q : MethodName × Nat) : Prop := (q.1.cls ≠ "java/lang/invoke/MethodHandle" ∧ q.1.cls ≠ "java/lang/invoke/VarHandle") ∧ Cond.instantiable q.1.cls q.2 ∈ tables_1 ∧ Cond.privateMethod q.1 ∈ tables_1 ∧ Cond.instanceMethod q.1 ∈ tables_1
theorem lw_p0 : lw_okq (⟨"WalkingStones$Texts", "work", "(II)I"⟩, 7) := ⟨⟨by decide +kernel, by decide +kernel⟩, List.mem_of_getElem? (i := 113) (by decide +kernel), List.mem_of_getElem? (i := 483) (by decide +kernel), List.mem_of_getElem? (i := 484) (by decide +kernel)⟩
theorem lw_p1 : lw_okq (⟨"WalkingStones$Reader", "cut", "()V"⟩, 8) := ⟨⟨by decide +kernel, by decide +kernel⟩, List.mem_of_getElem? (i := 164) (by decide +kernel), List.mem_of_getElem? (i := 513) (by decide +kernel), List.mem_of_getElem? (i := 514) (by decide +kernel)⟩
theorem lw_p2 : lw_okq (⟨"WalkingStones$Reader", "endOfToken", "(I)I"⟩, 8) := ⟨⟨by decide +kernel, by decide +kernel⟩, List.mem_of_getElem? (i := 164) (by decide +kernel), List.mem_of_getElem? (i := 520) (by decide +kernel), List.mem_of_getElem? (i := 521) (by decide +kernel)⟩
theorem lw_p3 : lw_okq (⟨"WalkingStones$Reader", "tokenOf", "(II)I"⟩, 8) := ⟨⟨by decide +kernel, by decide +kernel⟩, List.mem_of_getElem? (i := 164) (by decide +kernel), List.mem_of_getElem? (i := 530) (by decide +kernel), List.mem_of_getElem? (i := 531) (by decide +kernel)⟩
theorem lw_p4 : lw_okq (⟨"WalkingStones$Reader", "wordOf", "(II)I"⟩, 8) := ⟨⟨by decide +kernel, by decide +kernel⟩, List.mem_of_getElem? (i := 164) (by decide +kernel), List.mem_of_getElem? (i := 534) (by decide +kernel), List.mem_of_getElem? (i := 535) (by decide +kernel)⟩
theorem lw_p5 : lw_okq (⟨"WalkingStones$Reader", "spells", "(Ljava/lang/String;II)Z"⟩, 8) := ⟨⟨by decide +kernel, by decide +kernel⟩, List.mem_of_getElem? (i := 164) (by decide +kernel), List.mem_of_getElem? (i := 539) (by decide +kernel), List.mem_of_getElem? (i := 540) (by decide +kernel)⟩
theorem lw_p6 : lw_okq (⟨"WalkingStones$Reader", "numberOf", "(II)I"⟩, 8) := ⟨⟨by decide +kernel, by decide +kernel⟩, List.mem_of_getElem? (i := 164) (by decide +kernel), List.mem_of_getElem? (i := 602) (by decide +kernel), List.mem_of_getElem? (i := 603) (by decide +kernel)⟩
theorem lw_p7 : lw_okq (⟨"WalkingStones$Reader", "readText", "()Z"⟩, 8) := ⟨⟨by decide +kernel, by decide +kernel⟩, List.mem_of_getElem? (i := 164) (by decide +kernel), List.mem_of_getElem? (i := 609) (by decide +kernel), List.mem_of_getElem? (i := 610) (by decide +kernel)⟩
theorem lw_p8 : lw_okq (⟨"WalkingStones$Reader", "advance", "()V"⟩, 8) := ⟨⟨by decide +kernel, by decide +kernel⟩, List.mem_of_getElem? (i := 164) (by decide +kernel), List.mem_of_getElem? (i := 615) (by decide +kernel), List.mem_of_getElem? (i := 616) (by decide +kernel)⟩
theorem lw_p9 : lw_okq (⟨"WalkingStones$Reader", "read", "(II)Z"⟩, 8) := ⟨⟨by decide +kernel, by decide +kernel⟩, List.mem_of_getElem? (i := 164) (by decide +kernel), List.mem_of_getElem? (i := 619) (by decide +kernel), List.mem_of_getElem? (i := 620) (by decide +kernel)⟩
theorem lw_p10 : lw_okq (⟨"WalkingStones$Reader", "readOne", "(I)Z"⟩, 8) := ⟨⟨by decide +kernel, by decide +kernel⟩, List.mem_of_getElem? (i := 164) (by decide +kernel), List.mem_of_getElem? (i := 623) (by decide +kernel), List.mem_of_getElem? (i := 624) (by decide +kernel)⟩
theorem lw_p11 : lw_okq (⟨"WalkingStones$Reader", "put", "(I)Z"⟩, 8) := ⟨⟨by decide +kernel, by decide +kernel⟩, List.mem_of_getElem? (i := 164) (by decide +kernel), List.mem_of_getElem? (i := 627) (by decide +kernel), List.mem_of_getElem? (i := 628) (by decide +kernel)⟩
theorem lw_p12 : lw_okq (⟨"WalkingStones$Reader", "readBehind", "(II)Z"⟩, 8) := ⟨⟨by decide +kernel, by decide +kernel⟩, List.mem_of_getElem? (i := 164) (by decide +kernel), List.mem_of_getElem? (i := 631) (by decide +kernel), List.mem_of_getElem? (i := 632) (by decide +kernel)⟩
theorem lw_p13 : lw_okq (⟨"WalkingStones$Walk", "goOneNight", "(III)V"⟩, 8) := ⟨⟨by decide +kernel, by decide +kernel⟩, List.mem_of_getElem? (i := 217) (by decide +kernel), List.mem_of_getElem? (i := 657) (by decide +kernel), List.mem_of_getElem? (i := 658) (by decide +kernel)⟩
theorem lw_p14 : lw_okq (⟨"WalkingStones$Tracks", "regroup", "(III)V"⟩, 11) := ⟨⟨by decide +kernel, by decide +kernel⟩, List.mem_of_getElem? (i := 251) (by decide +kernel), List.mem_of_getElem? (i := 715) (by decide +kernel), List.mem_of_getElem? (i := 716) (by decide +kernel)⟩
theorem lw_p15 : lw_okq (⟨"WalkingStones", "fitOfWalk", "(I)I"⟩, 12) := ⟨⟨by decide +kernel, by decide +kernel⟩, List.mem_of_getElem? (i := 21) (by decide +kernel), List.mem_of_getElem? (i := 723) (by decide +kernel), List.mem_of_getElem? (i := 724) (by decide +kernel)⟩
def lw_privs_1 : List (MethodName × Nat) := [(⟨"WalkingStones$Texts", "work", "(II)I"⟩, 7), (⟨"WalkingStones$Reader", "cut", "()V"⟩, 8), (⟨"WalkingStones$Reader", "endOfToken", "(I)I"⟩, 8), (⟨"WalkingStones$Reader", "tokenOf", "(II)I"⟩, 8), (⟨"WalkingStones$Reader", "wordOf", "(II)I"⟩, 8), (⟨"WalkingStones$Reader", "spells", "(Ljava/lang/String;II)Z"⟩, 8), (⟨"WalkingStones$Reader", "numberOf", "(II)I"⟩, 8), (⟨"WalkingStones$Reader", "readText", "()Z"⟩, 8), (⟨"WalkingStones$Reader", "advance", "()V"⟩, 8), (⟨"WalkingStones$Reader", "read", "(II)Z"⟩, 8), (⟨"WalkingStones$Reader", "readOne", "(I)Z"⟩, 8), (⟨"WalkingStones$Reader", "put", "(I)Z"⟩, 8), (⟨"WalkingStones$Reader", "readBehind", "(II)Z"⟩, 8), (⟨"WalkingStones$Walk", "goOneNight", "(III)V"⟩, 8), (⟨"WalkingStones$Tracks", "regroup", "(III)V"⟩, 11), (⟨"WalkingStones", "fitOfWalk", "(I)I"⟩, 12)]
theorem lw_r1 : ∀ q ∈ lw_privs_1, lw_okq q := List.forall_mem_cons.mpr ⟨lw_p0, List.forall_mem_cons.mpr ⟨lw_p1, List.forall_mem_cons.mpr ⟨lw_p2, List.forall_mem_cons.mpr ⟨lw_p3, List.forall_mem_cons.mpr ⟨lw_p4, List.forall_mem_cons.mpr ⟨lw_p5, List.forall_mem_cons.mpr ⟨lw_p6, List.forall_mem_cons.mpr ⟨lw_p7, List.forall_mem_cons.mpr ⟨lw_p8, List.forall_mem_cons.mpr ⟨lw_p9, List.forall_mem_cons.mpr ⟨lw_p10, List.forall_mem_cons.mpr ⟨lw_p11, List.forall_mem_cons.mpr ⟨lw_p12, List.forall_mem_cons.mpr ⟨lw_p13, List.forall_mem_cons.mpr ⟨lw_p14, List.forall_mem_cons.mpr ⟨lw_p15, fun _ h => absurd h List.not_mem_nil⟩⟩⟩⟩⟩⟩⟩⟩⟩⟩⟩⟩⟩⟩⟩⟩
theorem lw_p16 : lw_okq (⟨"WalkingStones", "productOfFits", "(I)J"⟩, 12) := ⟨⟨by decide +kernel, by decide +kernel⟩, List.mem_of_getElem? (i := 21) (by decide +kernel), List.mem_of_getElem? (i := 738) (by decide +kernel), List.mem_of_getElem? (i := 739) (by decide +kernel)⟩
theorem lw_p17 : lw_okq (⟨"WalkingStones$Pegs", "onBothSides", "([III)Z"⟩, 4) := ⟨⟨by decide +kernel, by decide +kernel⟩, List.mem_of_getElem? (i := 297) (by decide +kernel), List.mem_of_getElem? (i := 767) (by decide +kernel), List.mem_of_getElem? (i := 768) (by decide +kernel)⟩
theorem lw_p18 : lw_okq (⟨"WalkingStones$Pegs", "isBeyondRow", "([II)Z"⟩, 4) := ⟨⟨by decide +kernel, by decide +kernel⟩, List.mem_of_getElem? (i := 297) (by decide +kernel), List.mem_of_getElem? (i := 779) (by decide +kernel), List.mem_of_getElem? (i := 780) (by decide +kernel)⟩
theorem lw_p19 : lw_okq (⟨"WalkingStones", "partOfWait", "(II)J"⟩, 12) := ⟨⟨by decide +kernel, by decide +kernel⟩, List.mem_of_getElem? (i := 21) (by decide +kernel), List.mem_of_getElem? (i := 801) (by decide +kernel), List.mem_of_getElem? (i := 802) (by decide +kernel)⟩
theorem lw_p20 : lw_okq (⟨"WalkingStones$Pushes", "tellNightAsIs", "(I)V"⟩, 4) := ⟨⟨by decide +kernel, by decide +kernel⟩, List.mem_of_getElem? (i := 198) (by decide +kernel), List.mem_of_getElem? (i := 814) (by decide +kernel), List.mem_of_getElem? (i := 815) (by decide +kernel)⟩
theorem lw_p21 : lw_okq (⟨"WalkingStones$Tracks", "leastFree", "()I"⟩, 11) := ⟨⟨by decide +kernel, by decide +kernel⟩, List.mem_of_getElem? (i := 251) (by decide +kernel), List.mem_of_getElem? (i := 842) (by decide +kernel), List.mem_of_getElem? (i := 843) (by decide +kernel)⟩
theorem lw_p22 : lw_okq (⟨"WalkingStones$Tracks", "liesOverUnplaced", "(I)Z"⟩, 11) := ⟨⟨by decide +kernel, by decide +kernel⟩, List.mem_of_getElem? (i := 251) (by decide +kernel), List.mem_of_getElem? (i := 846) (by decide +kernel), List.mem_of_getElem? (i := 847) (by decide +kernel)⟩
theorem lw_p23 : lw_okq (⟨"WalkingStones$Looks", "offer", "(III)V"⟩, 4) := ⟨⟨by decide +kernel, by decide +kernel⟩, List.mem_of_getElem? (i := 317) (by decide +kernel), List.mem_of_getElem? (i := 862) (by decide +kernel), List.mem_of_getElem? (i := 863) (by decide +kernel)⟩
theorem lw_p24 : lw_okq (⟨"WalkingStonesModel", "in", "(III)Z"⟩, 54) := ⟨⟨by decide +kernel, by decide +kernel⟩, List.mem_of_getElem? (i := 973) (by decide +kernel), List.mem_of_getElem? (i := 971) (by decide +kernel), List.mem_of_getElem? (i := 972) (by decide +kernel)⟩
theorem lw_p25 : lw_okq (⟨"WalkingStonesModel", "isWeather", "(I)Z"⟩, 54) := ⟨⟨by decide +kernel, by decide +kernel⟩, List.mem_of_getElem? (i := 973) (by decide +kernel), List.mem_of_getElem? (i := 980) (by decide +kernel), List.mem_of_getElem? (i := 981) (by decide +kernel)⟩
theorem lw_p26 : lw_okq (⟨"WalkingStonesModel", "comes", "(I)V"⟩, 54) := ⟨⟨by decide +kernel, by decide +kernel⟩, List.mem_of_getElem? (i := 973) (by decide +kernel), List.mem_of_getElem? (i := 985) (by decide +kernel), List.mem_of_getElem? (i := 986) (by decide +kernel)⟩
theorem lw_p27 : lw_okq (⟨"WalkingStonesModel", "isStone", "(I)Z"⟩, 54) := ⟨⟨by decide +kernel, by decide +kernel⟩, List.mem_of_getElem? (i := 973) (by decide +kernel), List.mem_of_getElem? (i := 997) (by decide +kernel), List.mem_of_getElem? (i := 998) (by decide +kernel)⟩
theorem lw_p28 : lw_okq (⟨"WalkingStonesModel", "look", "()V"⟩, 54) := ⟨⟨by decide +kernel, by decide +kernel⟩, List.mem_of_getElem? (i := 973) (by decide +kernel), List.mem_of_getElem? (i := 1178) (by decide +kernel), List.mem_of_getElem? (i := 1179) (by decide +kernel)⟩
theorem lw_p29 : lw_okq (⟨"WalkingStonesModel", "byteAt", "(I)I"⟩, 54) := ⟨⟨by decide +kernel, by decide +kernel⟩, List.mem_of_getElem? (i := 973) (by decide +kernel), List.mem_of_getElem? (i := 1182) (by decide +kernel), List.mem_of_getElem? (i := 1183) (by decide +kernel)⟩
theorem lw_p30 : lw_okq (⟨"WalkingStonesModel", "isDigit", "(I)Z"⟩, 54) := ⟨⟨by decide +kernel, by decide +kernel⟩, List.mem_of_getElem? (i := 973) (by decide +kernel), List.mem_of_getElem? (i := 1186) (by decide +kernel), List.mem_of_getElem? (i := 1187) (by decide +kernel)⟩
theorem lw_p31 : lw_okq (⟨"WalkingStonesModel", "isLetter", "(I)Z"⟩, 54) := ⟨⟨by decide +kernel, by decide +kernel⟩, List.mem_of_getElem? (i := 973) (by decide +kernel), List.mem_of_getElem? (i := 1190) (by decide +kernel), List.mem_of_getElem? (i := 1191) (by decide +kernel)⟩
def lw_privs_2 : List (MethodName × Nat) := [(⟨"WalkingStones", "productOfFits", "(I)J"⟩, 12), (⟨"WalkingStones$Pegs", "onBothSides", "([III)Z"⟩, 4), (⟨"WalkingStones$Pegs", "isBeyondRow", "([II)Z"⟩, 4), (⟨"WalkingStones", "partOfWait", "(II)J"⟩, 12), (⟨"WalkingStones$Pushes", "tellNightAsIs", "(I)V"⟩, 4), (⟨"WalkingStones$Tracks", "leastFree", "()I"⟩, 11), (⟨"WalkingStones$Tracks", "liesOverUnplaced", "(I)Z"⟩, 11), (⟨"WalkingStones$Looks", "offer", "(III)V"⟩, 4), (⟨"WalkingStonesModel", "in", "(III)Z"⟩, 54), (⟨"WalkingStonesModel", "isWeather", "(I)Z"⟩, 54), (⟨"WalkingStonesModel", "comes", "(I)V"⟩, 54), (⟨"WalkingStonesModel", "isStone", "(I)Z"⟩, 54), (⟨"WalkingStonesModel", "look", "()V"⟩, 54), (⟨"WalkingStonesModel", "byteAt", "(I)I"⟩, 54), (⟨"WalkingStonesModel", "isDigit", "(I)Z"⟩, 54), (⟨"WalkingStonesModel", "isLetter", "(I)Z"⟩, 54)]
theorem lw_r2 : ∀ q ∈ lw_privs_2, lw_okq q := List.forall_mem_cons.mpr ⟨lw_p16, List.forall_mem_cons.mpr ⟨lw_p17, List.forall_mem_cons.mpr ⟨lw_p18, List.forall_mem_cons.mpr ⟨lw_p19, List.forall_mem_cons.mpr ⟨lw_p20, List.forall_mem_cons.mpr ⟨lw_p21, List.forall_mem_cons.mpr ⟨lw_p22, List.forall_mem_cons.mpr ⟨lw_p23, List.forall_mem_cons.mpr ⟨lw_p24, List.forall_mem_cons.mpr ⟨lw_p25, List.forall_mem_cons.mpr ⟨lw_p26, List.forall_mem_cons.mpr ⟨lw_p27, List.forall_mem_cons.mpr ⟨lw_p28, List.forall_mem_cons.mpr ⟨lw_p29, List.forall_mem_cons.mpr ⟨lw_p30, List.forall_mem_cons.mpr ⟨lw_p31, fun _ h => absurd h List.not_mem_nil⟩⟩⟩⟩⟩⟩⟩⟩⟩⟩⟩⟩⟩⟩⟩⟩
theorem lw_p32 : lw_okq (⟨"WalkingStonesModel", "nameOf", "(I)I"⟩, 54) := ⟨⟨by decide +kernel, by decide +kernel⟩, List.mem_of_getElem? (i := 973) (by decide +kernel), List.mem_of_getElem? (i := 1194) (by decide +kernel), List.mem_of_getElem? (i := 1195) (by decide +kernel)⟩
theorem lw_p33 : lw_okq (⟨"WalkingStonesModel", "isKey", "(I)Z"⟩, 54) := ⟨⟨by decide +kernel, by decide +kernel⟩, List.mem_of_getElem? (i := 973) (by decide +kernel), List.mem_of_getElem? (i := 1202) (by decide +kernel), List.mem_of_getElem? (i := 1203) (by decide +kernel)⟩
theorem lw_p34 : lw_okq (⟨"WalkingStonesModel", "takesPart", "(III)Z"⟩, 54) := ⟨⟨by decide +kernel, by decide +kernel⟩, List.mem_of_getElem? (i := 973) (by decide +kernel), List.mem_of_getElem? (i := 1208) (by decide +kernel), List.mem_of_getElem? (i := 1209) (by decide +kernel)⟩
theorem lw_p35 : lw_okq (⟨"WalkingStonesModel", "isWord", "(I)Z"⟩, 54) := ⟨⟨by decide +kernel, by decide +kernel⟩, List.mem_of_getElem? (i := 973) (by decide +kernel), List.mem_of_getElem? (i := 1212) (by decide +kernel), List.mem_of_getElem? (i := 1213) (by decide +kernel)⟩
theorem lw_p36 : lw_okq (⟨"WalkingStonesModel", "goOn", "()V"⟩, 54) := ⟨⟨by decide +kernel, by decide +kernel⟩, List.mem_of_getElem? (i := 973) (by decide +kernel), List.mem_of_getElem? (i := 1216) (by decide +kernel), List.mem_of_getElem? (i := 1217) (by decide +kernel)⟩
theorem lw_p37 : lw_okq (⟨"WalkingStonesModel", "takesE", "(I)Z"⟩, 54) := ⟨⟨by decide +kernel, by decide +kernel⟩, List.mem_of_getElem? (i := 973) (by decide +kernel), List.mem_of_getElem? (i := 1220) (by decide +kernel), List.mem_of_getElem? (i := 1221) (by decide +kernel)⟩
theorem lw_p38 : lw_okq (⟨"WalkingStonesModel", "settle", "(I)V"⟩, 54) := ⟨⟨by decide +kernel, by decide +kernel⟩, List.mem_of_getElem? (i := 973) (by decide +kernel), List.mem_of_getElem? (i := 1224) (by decide +kernel), List.mem_of_getElem? (i := 1225) (by decide +kernel)⟩
theorem lw_p39 : lw_okq (⟨"WalkingStonesModel", "top", "()I"⟩, 54) := ⟨⟨by decide +kernel, by decide +kernel⟩, List.mem_of_getElem? (i := 973) (by decide +kernel), List.mem_of_getElem? (i := 1228) (by decide +kernel), List.mem_of_getElem? (i := 1229) (by decide +kernel)⟩
theorem lw_p40 : lw_okq (⟨"WalkingStonesModel", "strength", "(I)I"⟩, 54) := ⟨⟨by decide +kernel, by decide +kernel⟩, List.mem_of_getElem? (i := 973) (by decide +kernel), List.mem_of_getElem? (i := 1232) (by decide +kernel), List.mem_of_getElem? (i := 1233) (by decide +kernel)⟩
theorem lw_p41 : lw_okq (⟨"WalkingStonesModel", "put", "(II)V"⟩, 54) := ⟨⟨by decide +kernel, by decide +kernel⟩, List.mem_of_getElem? (i := 973) (by decide +kernel), List.mem_of_getElem? (i := 1236) (by decide +kernel), List.mem_of_getElem? (i := 1237) (by decide +kernel)⟩
theorem lw_p42 : lw_okq (⟨"WalkingStonesModel", "takesOne", "(Z)I"⟩, 54) := ⟨⟨by decide +kernel, by decide +kernel⟩, List.mem_of_getElem? (i := 973) (by decide +kernel), List.mem_of_getElem? (i := 1240) (by decide +kernel), List.mem_of_getElem? (i := 1241) (by decide +kernel)⟩
theorem lw_p43 : lw_okq (⟨"WalkingStonesModel", "opens", "(I)Z"⟩, 54) := ⟨⟨by decide +kernel, by decide +kernel⟩, List.mem_of_getElem? (i := 973) (by decide +kernel), List.mem_of_getElem? (i := 1244) (by decide +kernel), List.mem_of_getElem? (i := 1245) (by decide +kernel)⟩
theorem lw_p44 : lw_okq (⟨"WalkingStonesModel", "pushSign", "(I)V"⟩, 54) := ⟨⟨by decide +kernel, by decide +kernel⟩, List.mem_of_getElem? (i := 973) (by decide +kernel), List.mem_of_getElem? (i := 1248) (by decide +kernel), List.mem_of_getElem? (i := 1249) (by decide +kernel)⟩
theorem lw_p45 : lw_okq (⟨"WalkingStonesModel", "takesSign", "()I"⟩, 54) := ⟨⟨by decide +kernel, by decide +kernel⟩, List.mem_of_getElem? (i := 973) (by decide +kernel), List.mem_of_getElem? (i := 1252) (by decide +kernel), List.mem_of_getElem? (i := 1253) (by decide +kernel)⟩
theorem lw_p46 : lw_okq (⟨"WalkingStonesModel", "isHow", "(I)Z"⟩, 54) := ⟨⟨by decide +kernel, by decide +kernel⟩, List.mem_of_getElem? (i := 973) (by decide +kernel), List.mem_of_getElem? (i := 1264) (by decide +kernel), List.mem_of_getElem? (i := 1265) (by decide +kernel)⟩
theorem lw_p47 : lw_okq (⟨"WalkingStonesModel", "isNight", "(I)Z"⟩, 54) := ⟨⟨by decide +kernel, by decide +kernel⟩, List.mem_of_getElem? (i := 973) (by decide +kernel), List.mem_of_getElem? (i := 1268) (by decide +kernel), List.mem_of_getElem? (i := 1269) (by decide +kernel)⟩
def lw_privs_3 : List (MethodName × Nat) := [(⟨"WalkingStonesModel", "nameOf", "(I)I"⟩, 54), (⟨"WalkingStonesModel", "isKey", "(I)Z"⟩, 54), (⟨"WalkingStonesModel", "takesPart", "(III)Z"⟩, 54), (⟨"WalkingStonesModel", "isWord", "(I)Z"⟩, 54), (⟨"WalkingStonesModel", "goOn", "()V"⟩, 54), (⟨"WalkingStonesModel", "takesE", "(I)Z"⟩, 54), (⟨"WalkingStonesModel", "settle", "(I)V"⟩, 54), (⟨"WalkingStonesModel", "top", "()I"⟩, 54), (⟨"WalkingStonesModel", "strength", "(I)I"⟩, 54), (⟨"WalkingStonesModel", "put", "(II)V"⟩, 54), (⟨"WalkingStonesModel", "takesOne", "(Z)I"⟩, 54), (⟨"WalkingStonesModel", "opens", "(I)Z"⟩, 54), (⟨"WalkingStonesModel", "pushSign", "(I)V"⟩, 54), (⟨"WalkingStonesModel", "takesSign", "()I"⟩, 54), (⟨"WalkingStonesModel", "isHow", "(I)Z"⟩, 54), (⟨"WalkingStonesModel", "isNight", "(I)Z"⟩, 54)]
theorem lw_r3 : ∀ q ∈ lw_privs_3, lw_okq q := List.forall_mem_cons.mpr ⟨lw_p32, List.forall_mem_cons.mpr ⟨lw_p33, List.forall_mem_cons.mpr ⟨lw_p34, List.forall_mem_cons.mpr ⟨lw_p35, List.forall_mem_cons.mpr ⟨lw_p36, List.forall_mem_cons.mpr ⟨lw_p37, List.forall_mem_cons.mpr ⟨lw_p38, List.forall_mem_cons.mpr ⟨lw_p39, List.forall_mem_cons.mpr ⟨lw_p40, List.forall_mem_cons.mpr ⟨lw_p41, List.forall_mem_cons.mpr ⟨lw_p42, List.forall_mem_cons.mpr ⟨lw_p43, List.forall_mem_cons.mpr ⟨lw_p44, List.forall_mem_cons.mpr ⟨lw_p45, List.forall_mem_cons.mpr ⟨lw_p46, List.forall_mem_cons.mpr ⟨lw_p47, fun _ h => absurd h List.not_mem_nil⟩⟩⟩⟩⟩⟩⟩⟩⟩⟩⟩⟩⟩⟩⟩⟩
theorem lw_p48 : lw_okq (⟨"WalkingStonesModel", "may", "(II)Z"⟩, 54) := ⟨⟨by decide +kernel, by decide +kernel⟩, List.mem_of_getElem? (i := 973) (by decide +kernel), List.mem_of_getElem? (i := 1272) (by decide +kernel), List.mem_of_getElem? (i := 1273) (by decide +kernel)⟩
theorem lw_p49 : lw_okq (⟨"WalkingStonesModel", "drag", "(II)I"⟩, 54) := ⟨⟨by decide +kernel, by decide +kernel⟩, List.mem_of_getElem? (i := 973) (by decide +kernel), List.mem_of_getElem? (i := 1276) (by decide +kernel), List.mem_of_getElem? (i := 1277) (by decide +kernel)⟩
theorem lw_p50 : lw_okq (⟨"WalkingStonesModel", "pushes", "(III)I"⟩, 54) := ⟨⟨by decide +kernel, by decide +kernel⟩, List.mem_of_getElem? (i := 973) (by decide +kernel), List.mem_of_getElem? (i := 1280) (by decide +kernel), List.mem_of_getElem? (i := 1281) (by decide +kernel)⟩
theorem lw_p51 : lw_okq (⟨"WalkingStonesModel", "plainPush", "(III)I"⟩, 54) := ⟨⟨by decide +kernel, by decide +kernel⟩, List.mem_of_getElem? (i := 973) (by decide +kernel), List.mem_of_getElem? (i := 1284) (by decide +kernel), List.mem_of_getElem? (i := 1285) (by decide +kernel)⟩
theorem lw_p52 : lw_okq (⟨"WalkingStonesModel", "windNow", "(I)I"⟩, 54) := ⟨⟨by decide +kernel, by decide +kernel⟩, List.mem_of_getElem? (i := 973) (by decide +kernel), List.mem_of_getElem? (i := 1288) (by decide +kernel), List.mem_of_getElem? (i := 1289) (by decide +kernel)⟩
theorem lw_p53 : lw_okq (⟨"WalkingStonesModel", "tellsRule", "(IIII)I"⟩, 54) := ⟨⟨by decide +kernel, by decide +kernel⟩, List.mem_of_getElem? (i := 973) (by decide +kernel), List.mem_of_getElem? (i := 1292) (by decide +kernel), List.mem_of_getElem? (i := 1293) (by decide +kernel)⟩
theorem lw_p54 : lw_okq (⟨"WalkingStonesModel", "nameValue", "(IIII)I"⟩, 54) := ⟨⟨by decide +kernel, by decide +kernel⟩, List.mem_of_getElem? (i := 973) (by decide +kernel), List.mem_of_getElem? (i := 1296) (by decide +kernel), List.mem_of_getElem? (i := 1297) (by decide +kernel)⟩
theorem lw_p55 : lw_okq (⟨"WalkingStonesModel", "done", "(III)I"⟩, 54) := ⟨⟨by decide +kernel, by decide +kernel⟩, List.mem_of_getElem? (i := 973) (by decide +kernel), List.mem_of_getElem? (i := 1300) (by decide +kernel), List.mem_of_getElem? (i := 1301) (by decide +kernel)⟩
theorem lw_p56 : lw_okq (⟨"WalkingStonesModel", "isRow", "(I)Z"⟩, 54) := ⟨⟨by decide +kernel, by decide +kernel⟩, List.mem_of_getElem? (i := 973) (by decide +kernel), List.mem_of_getElem? (i := 1312) (by decide +kernel), List.mem_of_getElem? (i := 1313) (by decide +kernel)⟩
theorem lw_p57 : lw_okq (⟨"WalkingStonesModel", "goRow", "(II)V"⟩, 54) := ⟨⟨by decide +kernel, by decide +kernel⟩, List.mem_of_getElem? (i := 973) (by decide +kernel), List.mem_of_getElem? (i := 1316) (by decide +kernel), List.mem_of_getElem? (i := 1317) (by decide +kernel)⟩
theorem lw_p58 : lw_okq (⟨"WalkingStonesModel", "begin", "()V"⟩, 54) := ⟨⟨by decide +kernel, by decide +kernel⟩, List.mem_of_getElem? (i := 973) (by decide +kernel), List.mem_of_getElem? (i := 1320) (by decide +kernel), List.mem_of_getElem? (i := 1321) (by decide +kernel)⟩
theorem lw_p59 : lw_okq (⟨"WalkingStonesModel", "goNight", "(II)V"⟩, 54) := ⟨⟨by decide +kernel, by decide +kernel⟩, List.mem_of_getElem? (i := 973) (by decide +kernel), List.mem_of_getElem? (i := 1324) (by decide +kernel), List.mem_of_getElem? (i := 1325) (by decide +kernel)⟩
theorem lw_p60 : lw_okq (⟨"WalkingStonesModel", "wayOf", "(II)I"⟩, 54) := ⟨⟨by decide +kernel, by decide +kernel⟩, List.mem_of_getElem? (i := 973) (by decide +kernel), List.mem_of_getElem? (i := 1328) (by decide +kernel), List.mem_of_getElem? (i := 1329) (by decide +kernel)⟩
theorem lw_p61 : lw_okq (⟨"WalkingStonesModel", "ahead", "(II)I"⟩, 54) := ⟨⟨by decide +kernel, by decide +kernel⟩, List.mem_of_getElem? (i := 973) (by decide +kernel), List.mem_of_getElem? (i := 1332) (by decide +kernel), List.mem_of_getElem? (i := 1333) (by decide +kernel)⟩
theorem lw_p62 : lw_okq (⟨"WalkingStonesModel", "isFree", "(I)Z"⟩, 54) := ⟨⟨by decide +kernel, by decide +kernel⟩, List.mem_of_getElem? (i := 973) (by decide +kernel), List.mem_of_getElem? (i := 1336) (by decide +kernel), List.mem_of_getElem? (i := 1337) (by decide +kernel)⟩
theorem lw_p63 : lw_okq (⟨"WalkingStonesModel", "isTrack", "(I)Z"⟩, 54) := ⟨⟨by decide +kernel, by decide +kernel⟩, List.mem_of_getElem? (i := 973) (by decide +kernel), List.mem_of_getElem? (i := 1352) (by decide +kernel), List.mem_of_getElem? (i := 1353) (by decide +kernel)⟩
def lw_privs_4 : List (MethodName × Nat) := [(⟨"WalkingStonesModel", "may", "(II)Z"⟩, 54), (⟨"WalkingStonesModel", "drag", "(II)I"⟩, 54), (⟨"WalkingStonesModel", "pushes", "(III)I"⟩, 54), (⟨"WalkingStonesModel", "plainPush", "(III)I"⟩, 54), (⟨"WalkingStonesModel", "windNow", "(I)I"⟩, 54), (⟨"WalkingStonesModel", "tellsRule", "(IIII)I"⟩, 54), (⟨"WalkingStonesModel", "nameValue", "(IIII)I"⟩, 54), (⟨"WalkingStonesModel", "done", "(III)I"⟩, 54), (⟨"WalkingStonesModel", "isRow", "(I)Z"⟩, 54), (⟨"WalkingStonesModel", "goRow", "(II)V"⟩, 54), (⟨"WalkingStonesModel", "begin", "()V"⟩, 54), (⟨"WalkingStonesModel", "goNight", "(II)V"⟩, 54), (⟨"WalkingStonesModel", "wayOf", "(II)I"⟩, 54), (⟨"WalkingStonesModel", "ahead", "(II)I"⟩, 54), (⟨"WalkingStonesModel", "isFree", "(I)Z"⟩, 54), (⟨"WalkingStonesModel", "isTrack", "(I)Z"⟩, 54)]
theorem lw_r4 : ∀ q ∈ lw_privs_4, lw_okq q := List.forall_mem_cons.mpr ⟨lw_p48, List.forall_mem_cons.mpr ⟨lw_p49, List.forall_mem_cons.mpr ⟨lw_p50, List.forall_mem_cons.mpr ⟨lw_p51, List.forall_mem_cons.mpr ⟨lw_p52, List.forall_mem_cons.mpr ⟨lw_p53, List.forall_mem_cons.mpr ⟨lw_p54, List.forall_mem_cons.mpr ⟨lw_p55, List.forall_mem_cons.mpr ⟨lw_p56, List.forall_mem_cons.mpr ⟨lw_p57, List.forall_mem_cons.mpr ⟨lw_p58, List.forall_mem_cons.mpr ⟨lw_p59, List.forall_mem_cons.mpr ⟨lw_p60, List.forall_mem_cons.mpr ⟨lw_p61, List.forall_mem_cons.mpr ⟨lw_p62, List.forall_mem_cons.mpr ⟨lw_p63, fun _ h => absurd h List.not_mem_nil⟩⟩⟩⟩⟩⟩⟩⟩⟩⟩⟩⟩⟩⟩⟩⟩
theorem lw_p64 : lw_okq (⟨"WalkingStonesModel", "areTogether", "(III)Z"⟩, 54) := ⟨⟨by decide +kernel, by decide +kernel⟩, List.mem_of_getElem? (i := 973) (by decide +kernel), List.mem_of_getElem? (i := 1356) (by decide +kernel), List.mem_of_getElem? (i := 1357) (by decide +kernel)⟩
theorem lw_p65 : lw_okq (⟨"WalkingStonesModel", "apart", "(II)I"⟩, 54) := ⟨⟨by decide +kernel, by decide +kernel⟩, List.mem_of_getElem? (i := 973) (by decide +kernel), List.mem_of_getElem? (i := 1360) (by decide +kernel), List.mem_of_getElem? (i := 1361) (by decide +kernel)⟩
theorem lw_p66 : lw_okq (⟨"WalkingStonesModel", "goAll", "(I)V"⟩, 54) := ⟨⟨by decide +kernel, by decide +kernel⟩, List.mem_of_getElem? (i := 973) (by decide +kernel), List.mem_of_getElem? (i := 1372) (by decide +kernel), List.mem_of_getElem? (i := 1373) (by decide +kernel)⟩
theorem lw_p67 : lw_okq (⟨"WalkingStonesModel", "fitting", "(I)I"⟩, 54) := ⟨⟨by decide +kernel, by decide +kernel⟩, List.mem_of_getElem? (i := 973) (by decide +kernel), List.mem_of_getElem? (i := 1376) (by decide +kernel), List.mem_of_getElem? (i := 1377) (by decide +kernel)⟩
theorem lw_p68 : lw_okq (⟨"WalkingStonesModel", "product", "(II)J"⟩, 54) := ⟨⟨by decide +kernel, by decide +kernel⟩, List.mem_of_getElem? (i := 973) (by decide +kernel), List.mem_of_getElem? (i := 1385) (by decide +kernel), List.mem_of_getElem? (i := 1386) (by decide +kernel)⟩
theorem lw_p69 : lw_okq (⟨"WalkingStonesModel", "divisor", "(JJ)J"⟩, 54) := ⟨⟨by decide +kernel, by decide +kernel⟩, List.mem_of_getElem? (i := 973) (by decide +kernel), List.mem_of_getElem? (i := 1389) (by decide +kernel), List.mem_of_getElem? (i := 1390) (by decide +kernel)⟩
theorem lw_p70 : lw_okq (⟨"WalkingStonesModel", "isHeld", "(II)Z"⟩, 54) := ⟨⟨by decide +kernel, by decide +kernel⟩, List.mem_of_getElem? (i := 973) (by decide +kernel), List.mem_of_getElem? (i := 1401) (by decide +kernel), List.mem_of_getElem? (i := 1402) (by decide +kernel)⟩
theorem lw_p71 : lw_okq (⟨"WalkingStonesModel", "isOut", "(I)Z"⟩, 54) := ⟨⟨by decide +kernel, by decide +kernel⟩, List.mem_of_getElem? (i := 973) (by decide +kernel), List.mem_of_getElem? (i := 1409) (by decide +kernel), List.mem_of_getElem? (i := 1410) (by decide +kernel)⟩
theorem lw_p72 : lw_okq (⟨"WalkingStonesModel", "pushesSome", "(II)Z"⟩, 54) := ⟨⟨by decide +kernel, by decide +kernel⟩, List.mem_of_getElem? (i := 973) (by decide +kernel), List.mem_of_getElem? (i := 1417) (by decide +kernel), List.mem_of_getElem? (i := 1418) (by decide +kernel)⟩
theorem lw_p73 : lw_okq (⟨"WalkingStonesModel", "lightest", "()I"⟩, 54) := ⟨⟨by decide +kernel, by decide +kernel⟩, List.mem_of_getElem? (i := 973) (by decide +kernel), List.mem_of_getElem? (i := 1421) (by decide +kernel), List.mem_of_getElem? (i := 1422) (by decide +kernel)⟩
theorem lw_p74 : lw_okq (⟨"WalkingStonesModel", "canGo", "(III)Z"⟩, 54) := ⟨⟨by decide +kernel, by decide +kernel⟩, List.mem_of_getElem? (i := 973) (by decide +kernel), List.mem_of_getElem? (i := 1429) (by decide +kernel), List.mem_of_getElem? (i := 1430) (by decide +kernel)⟩
theorem lw_p75 : lw_okq (⟨"WalkingStonesModel", "eldest", "(I)I"⟩, 54) := ⟨⟨by decide +kernel, by decide +kernel⟩, List.mem_of_getElem? (i := 973) (by decide +kernel), List.mem_of_getElem? (i := 1441) (by decide +kernel), List.mem_of_getElem? (i := 1442) (by decide +kernel)⟩
theorem lw_p76 : lw_okq (⟨"WalkingStonesModel", "worthOf", "(I)I"⟩, 54) := ⟨⟨by decide +kernel, by decide +kernel⟩, List.mem_of_getElem? (i := 973) (by decide +kernel), List.mem_of_getElem? (i := 1449) (by decide +kernel), List.mem_of_getElem? (i := 1450) (by decide +kernel)⟩
theorem lw_p77 : lw_okq (⟨"WalkingStonesModel", "goers", "(II)I"⟩, 54) := ⟨⟨by decide +kernel, by decide +kernel⟩, List.mem_of_getElem? (i := 973) (by decide +kernel), List.mem_of_getElem? (i := 1457) (by decide +kernel), List.mem_of_getElem? (i := 1458) (by decide +kernel)⟩
theorem lw_p78 : lw_okq (⟨"WalkingStonesModel", "isSheet", "(I)Z"⟩, 54) := ⟨⟨by decide +kernel, by decide +kernel⟩, List.mem_of_getElem? (i := 973) (by decide +kernel), List.mem_of_getElem? (i := 1465) (by decide +kernel), List.mem_of_getElem? (i := 1466) (by decide +kernel)⟩
theorem lw_p79 : lw_okq (⟨"WalkingStonesModel", "isUnder", "(II)Z"⟩, 54) := ⟨⟨by decide +kernel, by decide +kernel⟩, List.mem_of_getElem? (i := 973) (by decide +kernel), List.mem_of_getElem? (i := 1501) (by decide +kernel), List.mem_of_getElem? (i := 1502) (by decide +kernel)⟩
def lw_privs_5 : List (MethodName × Nat) := [(⟨"WalkingStonesModel", "areTogether", "(III)Z"⟩, 54), (⟨"WalkingStonesModel", "apart", "(II)I"⟩, 54), (⟨"WalkingStonesModel", "goAll", "(I)V"⟩, 54), (⟨"WalkingStonesModel", "fitting", "(I)I"⟩, 54), (⟨"WalkingStonesModel", "product", "(II)J"⟩, 54), (⟨"WalkingStonesModel", "divisor", "(JJ)J"⟩, 54), (⟨"WalkingStonesModel", "isHeld", "(II)Z"⟩, 54), (⟨"WalkingStonesModel", "isOut", "(I)Z"⟩, 54), (⟨"WalkingStonesModel", "pushesSome", "(II)Z"⟩, 54), (⟨"WalkingStonesModel", "lightest", "()I"⟩, 54), (⟨"WalkingStonesModel", "canGo", "(III)Z"⟩, 54), (⟨"WalkingStonesModel", "eldest", "(I)I"⟩, 54), (⟨"WalkingStonesModel", "worthOf", "(I)I"⟩, 54), (⟨"WalkingStonesModel", "goers", "(II)I"⟩, 54), (⟨"WalkingStonesModel", "isSheet", "(I)Z"⟩, 54), (⟨"WalkingStonesModel", "isUnder", "(II)Z"⟩, 54)]
theorem lw_r5 : ∀ q ∈ lw_privs_5, lw_okq q := List.forall_mem_cons.mpr ⟨lw_p64, List.forall_mem_cons.mpr ⟨lw_p65, List.forall_mem_cons.mpr ⟨lw_p66, List.forall_mem_cons.mpr ⟨lw_p67, List.forall_mem_cons.mpr ⟨lw_p68, List.forall_mem_cons.mpr ⟨lw_p69, List.forall_mem_cons.mpr ⟨lw_p70, List.forall_mem_cons.mpr ⟨lw_p71, List.forall_mem_cons.mpr ⟨lw_p72, List.forall_mem_cons.mpr ⟨lw_p73, List.forall_mem_cons.mpr ⟨lw_p74, List.forall_mem_cons.mpr ⟨lw_p75, List.forall_mem_cons.mpr ⟨lw_p76, List.forall_mem_cons.mpr ⟨lw_p77, List.forall_mem_cons.mpr ⟨lw_p78, List.forall_mem_cons.mpr ⟨lw_p79, fun _ h => absurd h List.not_mem_nil⟩⟩⟩⟩⟩⟩⟩⟩⟩⟩⟩⟩⟩⟩⟩⟩
def lw_privs : List (MethodName × Nat) := lw_privs_1 ++ (lw_privs_2 ++ (lw_privs_3 ++ (lw_privs_4 ++ (lw_privs_5))))
def lw_tbl : List Cond := k2_sels lw_privs ++ tables_1
theorem lw_privs_ok : ∀ q ∈ lw_privs, lw_okq q := by
  show ∀ q ∈ lw_privs_1 ++ (lw_privs_2 ++ (lw_privs_3 ++ (lw_privs_4 ++ (lw_privs_5)))), lw_okq q
  exact List.forall_mem_append.mpr ⟨lw_r1, List.forall_mem_append.mpr ⟨lw_r2, List.forall_mem_append.mpr ⟨lw_r3, List.forall_mem_append.mpr ⟨lw_r4, lw_r5⟩⟩⟩⟩

def RX0 : String := "WalkingStones$Hows"
def TX0 : u_T := fun k => match k with
  | 0 => ("WalkingStones$Hows", "kinds", "[I", true)
  | 1 => ("WalkingStones$Hows", "numbers", "[I", true)
  | _ => ("WalkingStones$Hows", "size", "I", false)
def tyX0 : Nat → FieldType := fun k => match k with
  | 0 => .array .int
  | 1 => .array .int
  | _ => .int
abbrev wsX00 : List Cond := u_ws RX0 TX0 3
theorem nmX0 : ∀ a, a < 3 → ∀ b, b < 3 → a ≠ b → (TX0 a).2.1 ≠ (TX0 b).2.1 := by decide +kernel
theorem tyX0_ok : ∀ k, k < 3 → parseFieldDescriptor (TX0 k).2.2.1 = some (tyX0 k) := by decide +kernel
abbrev cX0_init : ByteArray := prog_2_method_1_code
def yX0_init : MethodName := ⟨RX0, "<init>", "()V"⟩
abbrev cX0_has : ByteArray := prog_2_method_2_code
def yX0_has : MethodName := ⟨RX0, "has", "(I)Z"⟩
abbrev cX0_put : ByteArray := prog_2_method_3_code
def yX0_put : MethodName := ⟨RX0, "put", "(II)I"⟩
abbrev cX0_may : ByteArray := prog_2_method_4_code
def yX0_may : MethodName := ⟨RX0, "may", "(III)Z"⟩
abbrev cX0_drag : ByteArray := prog_2_method_5_code
def yX0_drag : MethodName := ⟨RX0, "drag", "(II)I"⟩
abbrev cX0_barePush : ByteArray := prog_2_method_6_code
def yX0_barePush : MethodName := ⟨RX0, "barePush", "(III)I"⟩
abbrev cX0_wayOf : ByteArray := prog_2_method_7_code
def yX0_wayOf : MethodName := ⟨RX0, "wayOf", "(II)I"⟩
def RX1 : String := "WalkingStones$Looks"
def TX1 : u_T := fun k => match k with
  | 0 => ("WalkingStones$Looks", "worths", "[I", true)
  | 1 => ("WalkingStones$Looks", "bits", "[I", true)
  | 2 => ("WalkingStones$Looks", "nights", "LWalkingStones$Nights;", true)
  | _ => ("WalkingStones$Looks", "pushes", "LWalkingStones$Pushes;", true)
def tyX1 : Nat → FieldType := fun k => match k with
  | 0 => .array .int
  | 1 => .array .int
  | 2 => .object "WalkingStones$Nights"
  | _ => .object "WalkingStones$Pushes"
abbrev wsX10 : List Cond := u_ws RX1 TX1 4
theorem nmX1 : ∀ a, a < 4 → ∀ b, b < 4 → a ≠ b → (TX1 a).2.1 ≠ (TX1 b).2.1 := by decide +kernel
theorem tyX1_ok : ∀ k, k < 4 → parseFieldDescriptor (TX1 k).2.2.1 = some (tyX1 k) := by decide +kernel
abbrev cX1_init : ByteArray := prog_3_method_1_code
def yX1_init : MethodName := ⟨RX1, "<init>", "(LWalkingStones$Nights;LWalkingStones$Pushes;)V"⟩
abbrev cX1_bestCoin : ByteArray := prog_3_method_2_code
def yX1_bestCoin : MethodName := ⟨RX1, "bestCoin", "(I)I"⟩
abbrev cX1_offer : ByteArray := prog_3_method_3_code
def yX1_offer : MethodName := ⟨RX1, "offer", "(III)V"⟩
def RX2 : String := "WalkingStones$Nights"
def TX2 : u_T := fun k => match k with
  | 0 => ("WalkingStones$Nights", "wets", "[I", true)
  | 1 => ("WalkingStones$Nights", "ices", "[I", true)
  | 2 => ("WalkingStones$Nights", "winds", "[I", true)
  | 3 => ("WalkingStones$Nights", "ways", "[I", true)
  | _ => ("WalkingStones$Nights", "size", "I", false)
def tyX2 : Nat → FieldType := fun k => match k with
  | 0 => .array .int
  | 1 => .array .int
  | 2 => .array .int
  | 3 => .array .int
  | _ => .int
abbrev wsX20 : List Cond := u_ws RX2 TX2 5
theorem nmX2 : ∀ a, a < 5 → ∀ b, b < 5 → a ≠ b → (TX2 a).2.1 ≠ (TX2 b).2.1 := by decide +kernel
theorem tyX2_ok : ∀ k, k < 5 → parseFieldDescriptor (TX2 k).2.2.1 = some (tyX2 k) := by decide +kernel
abbrev cX2_init : ByteArray := prog_4_method_1_code
def yX2_init : MethodName := ⟨RX2, "<init>", "()V"⟩
abbrev cX2_has : ByteArray := prog_4_method_2_code
def yX2_has : MethodName := ⟨RX2, "has", "(I)Z"⟩
abbrev cX2_hasSpan : ByteArray := prog_4_method_3_code
def yX2_hasSpan : MethodName := ⟨RX2, "hasSpan", "(I)Z"⟩
abbrev cX2_come : ByteArray := prog_4_method_4_code
def yX2_come : MethodName := ⟨RX2, "come", "(I)I"⟩
def RX3 : String := "WalkingStones$Pegs"
def TX3 : u_T := fun k => match k with
  | 0 => ("WalkingStones$Pegs", "xs", "[I", true)
  | 1 => ("WalkingStones$Pegs", "ys", "[I", true)
  | 2 => ("WalkingStones$Pegs", "size", "I", false)
  | _ => ("WalkingStones$Pegs", "keptSize", "I", false)
def tyX3 : Nat → FieldType := fun k => match k with
  | 0 => .array .int
  | 1 => .array .int
  | 2 => .int
  | _ => .int
abbrev wsX30 : List Cond := u_ws RX3 TX3 4
theorem nmX3 : ∀ a, a < 4 → ∀ b, b < 4 → a ≠ b → (TX3 a).2.1 ≠ (TX3 b).2.1 := by decide +kernel
theorem tyX3_ok : ∀ k, k < 4 → parseFieldDescriptor (TX3 k).2.2.1 = some (tyX3 k) := by decide +kernel
abbrev cX3_init : ByteArray := prog_5_method_1_code
def yX3_init : MethodName := ⟨RX3, "<init>", "()V"⟩
abbrev cX3_put : ByteArray := prog_5_method_2_code
def yX3_put : MethodName := ⟨RX3, "put", "(I)I"⟩
abbrev cX3_hold : ByteArray := prog_5_method_3_code
def yX3_hold : MethodName := ⟨RX3, "hold", "(II)Z"⟩
abbrev cX3_onBothSides : ByteArray := prog_5_method_4_code
def yX3_onBothSides : MethodName := ⟨RX3, "onBothSides", "([III)Z"⟩
abbrev cX3_isBeyond : ByteArray := prog_5_method_5_code
def yX3_isBeyond : MethodName := ⟨RX3, "isBeyond", "(I)Z"⟩
abbrev cX3_isBeyondRow : ByteArray := prog_5_method_6_code
def yX3_isBeyondRow : MethodName := ⟨RX3, "isBeyondRow", "([II)Z"⟩
def RX4 : String := "WalkingStones$Pushes"
def TX4 : u_T := fun k => match k with
  | 0 => ("WalkingStones$Pushes", "stones", "LWalkingStones$Stones;", true)
  | 1 => ("WalkingStones$Pushes", "nights", "LWalkingStones$Nights;", true)
  | 2 => ("WalkingStones$Pushes", "hows", "LWalkingStones$Hows;", true)
  | _ => ("WalkingStones$Pushes", "texts", "LWalkingStones$Texts;", true)
def tyX4 : Nat → FieldType := fun k => match k with
  | 0 => .object "WalkingStones$Stones"
  | 1 => .object "WalkingStones$Nights"
  | 2 => .object "WalkingStones$Hows"
  | _ => .object "WalkingStones$Texts"
abbrev wsX40 : List Cond := u_ws RX4 TX4 4
theorem nmX4 : ∀ a, a < 4 → ∀ b, b < 4 → a ≠ b → (TX4 a).2.1 ≠ (TX4 b).2.1 := by decide +kernel
theorem tyX4_ok : ∀ k, k < 4 → parseFieldDescriptor (TX4 k).2.2.1 = some (tyX4 k) := by decide +kernel
abbrev cX4_init : ByteArray := prog_6_method_1_code
def yX4_init : MethodName := ⟨RX4, "<init>", "(LWalkingStones$Stones;LWalkingStones$Nights;LWalkingStones$Hows;LWalkingStones$Texts;)V"⟩
abbrev cX4_squares : ByteArray := prog_6_method_2_code
def yX4_squares : MethodName := ⟨RX4, "squares", "(IIII)I"⟩
abbrev cX4_pushesSome : ByteArray := prog_6_method_3_code
def yX4_pushesSome : MethodName := ⟨RX4, "pushesSome", "(II)Z"⟩
abbrev cX4_nightsPushing : ByteArray := prog_6_method_4_code
def yX4_nightsPushing : MethodName := ⟨RX4, "nightsPushing", "(I)I"⟩
abbrev cX4_longestRowWithout : ByteArray := prog_6_method_5_code
def yX4_longestRowWithout : MethodName := ⟨RX4, "longestRowWithout", "(I)I"⟩
abbrev cX4_nightsCalled : ByteArray := prog_6_method_6_code
def yX4_nightsCalled : MethodName := ⟨RX4, "nightsCalled", "(IZ)I"⟩
abbrev cX4_worthOfLook : ByteArray := prog_6_method_7_code
def yX4_worthOfLook : MethodName := ⟨RX4, "worthOfLook", "(I)I"⟩
abbrev cX4_tellNightAsIs : ByteArray := prog_6_method_8_code
def yX4_tellNightAsIs : MethodName := ⟨RX4, "tellNightAsIs", "(I)V"⟩
def RX5 : String := "WalkingStones$Reader"
def TX5 : u_T := fun k => match k with
  | 0 => ("WalkingStones$Reader", "code", "[I", true)
  | 1 => ("WalkingStones$Reader", "ends", "[I", true)
  | 2 => ("WalkingStones$Reader", "tape", "[I", true)
  | 3 => ("WalkingStones$Reader", "tokens", "[I", true)
  | 4 => ("WalkingStones$Reader", "starts", "[I", true)
  | 5 => ("WalkingStones$Reader", "size", "I", false)
  | 6 => ("WalkingStones$Reader", "steps", "I", false)
  | _ => ("WalkingStones$Reader", "now", "I", false)
def tyX5 : Nat → FieldType := fun k => match k with
  | 0 => .array .int
  | 1 => .array .int
  | 2 => .array .int
  | 3 => .array .int
  | 4 => .array .int
  | 5 => .int
  | 6 => .int
  | _ => .int
abbrev wsX50 : List Cond := u_ws RX5 TX5 8
theorem nmX5 : ∀ a, a < 8 → ∀ b, b < 8 → a ≠ b → (TX5 a).2.1 ≠ (TX5 b).2.1 := by decide +kernel
theorem tyX5_ok : ∀ k, k < 8 → parseFieldDescriptor (TX5 k).2.2.1 = some (tyX5 k) := by decide +kernel
abbrev cX5_init : ByteArray := prog_7_method_1_code
def yX5_init : MethodName := ⟨RX5, "<init>", "()V"⟩
abbrev cX5_append : ByteArray := prog_7_method_2_code
def yX5_append : MethodName := ⟨RX5, "append", "(IJ)I"⟩
abbrev cX5_readTape : ByteArray := prog_7_method_3_code
def yX5_readTape : MethodName := ⟨RX5, "readTape", "()I"⟩
abbrev cX5_readText : ByteArray := prog_7_method_4_code
def yX5_readText : MethodName := ⟨RX5, "readText", "()Z"⟩
abbrev cX5_read : ByteArray := prog_7_method_5_code
def yX5_read : MethodName := ⟨RX5, "read", "(II)Z"⟩
abbrev cX5_readOne : ByteArray := prog_7_method_6_code
def yX5_readOne : MethodName := ⟨RX5, "readOne", "(I)Z"⟩
abbrev cX5_readBehind : ByteArray := prog_7_method_7_code
def yX5_readBehind : MethodName := ⟨RX5, "readBehind", "(II)Z"⟩
abbrev cX5_levelOf : ByteArray := prog_7_method_8_code
def yX5_levelOf : MethodName := ⟨RX5, "levelOf", "(I)I"⟩
abbrev cX5_advance : ByteArray := prog_7_method_9_code
def yX5_advance : MethodName := ⟨RX5, "advance", "()V"⟩
abbrev cX5_put : ByteArray := prog_7_method_10_code
def yX5_put : MethodName := ⟨RX5, "put", "(I)Z"⟩
abbrev cX5_cut : ByteArray := prog_7_method_11_code
def yX5_cut : MethodName := ⟨RX5, "cut", "()V"⟩
abbrev cX5_endOfToken : ByteArray := prog_7_method_12_code
def yX5_endOfToken : MethodName := ⟨RX5, "endOfToken", "(I)I"⟩
abbrev cX5_tokenOf : ByteArray := prog_7_method_13_code
def yX5_tokenOf : MethodName := ⟨RX5, "tokenOf", "(II)I"⟩
abbrev cX5_numberOf : ByteArray := prog_7_method_14_code
def yX5_numberOf : MethodName := ⟨RX5, "numberOf", "(II)I"⟩
abbrev cX5_wordOf : ByteArray := prog_7_method_15_code
def yX5_wordOf : MethodName := ⟨RX5, "wordOf", "(II)I"⟩
abbrev cX5_spells : ByteArray := prog_7_method_16_code
def yX5_spells : MethodName := ⟨RX5, "spells", "(Ljava/lang/String;II)Z"⟩
abbrev cX5_signOf : ByteArray := prog_7_method_17_code
def yX5_signOf : MethodName := ⟨RX5, "signOf", "(I)I"⟩
abbrev cX5_isBlank : ByteArray := prog_7_method_18_code
def yX5_isBlank : MethodName := ⟨RX5, "isBlank", "(I)Z"⟩
abbrev cX5_isLetter : ByteArray := prog_7_method_19_code
def yX5_isLetter : MethodName := ⟨RX5, "isLetter", "(I)Z"⟩
abbrev cX5_isDigit : ByteArray := prog_7_method_20_code
def yX5_isDigit : MethodName := ⟨RX5, "isDigit", "(I)Z"⟩
def RX6 : String := "WalkingStones$Sheets"
def TX6 : u_T := fun k => match k with
  | 0 => ("WalkingStones$Sheets", "cells", "[I", true)
  | 1 => ("WalkingStones$Sheets", "sorts", "[I", true)
  | _ => ("WalkingStones$Sheets", "sizes", "[I", true)
def tyX6 : Nat → FieldType := fun k => match k with
  | 0 => .array .int
  | 1 => .array .int
  | _ => .array .int
abbrev wsX60 : List Cond := u_ws RX6 TX6 3
theorem nmX6 : ∀ a, a < 3 → ∀ b, b < 3 → a ≠ b → (TX6 a).2.1 ≠ (TX6 b).2.1 := by decide +kernel
theorem tyX6_ok : ∀ k, k < 3 → parseFieldDescriptor (TX6 k).2.2.1 = some (tyX6 k) := by decide +kernel
abbrev cX6_init : ByteArray := prog_8_method_1_code
def yX6_init : MethodName := ⟨RX6, "<init>", "()V"⟩
abbrev cX6_isMissing : ByteArray := prog_8_method_2_code
def yX6_isMissing : MethodName := ⟨RX6, "isMissing", "(I)Z"⟩
abbrev cX6_drop : ByteArray := prog_8_method_3_code
def yX6_drop : MethodName := ⟨RX6, "drop", "(I)V"⟩
abbrev cX6_renew : ByteArray := prog_8_method_4_code
def yX6_renew : MethodName := ⟨RX6, "renew", "(III)V"⟩
abbrev cX6_hasItem : ByteArray := prog_8_method_5_code
def yX6_hasItem : MethodName := ⟨RX6, "hasItem", "(II)Z"⟩
abbrev cX6_hasRow : ByteArray := prog_8_method_6_code
def yX6_hasRow : MethodName := ⟨RX6, "hasRow", "(III)Z"⟩
abbrev cX6_item : ByteArray := prog_8_method_7_code
def yX6_item : MethodName := ⟨RX6, "item", "(II)I"⟩
abbrev cX6_write : ByteArray := prog_8_method_8_code
def yX6_write : MethodName := ⟨RX6, "write", "(III)V"⟩
abbrev cX6_copyRow : ByteArray := prog_8_method_9_code
def yX6_copyRow : MethodName := ⟨RX6, "copyRow", "(IIIII)V"⟩
def RX7 : String := "WalkingStones$Stones"
def TX7 : u_T := fun k => match k with
  | 0 => ("WalkingStones$Stones", "weights", "[I", true)
  | 1 => ("WalkingStones$Stones", "places", "[I", true)
  | 2 => ("WalkingStones$Stones", "keptPlaces", "[I", true)
  | 3 => ("WalkingStones$Stones", "size", "I", false)
  | _ => ("WalkingStones$Stones", "keptSize", "I", false)
def tyX7 : Nat → FieldType := fun k => match k with
  | 0 => .array .int
  | 1 => .array .int
  | 2 => .array .int
  | 3 => .int
  | _ => .int
abbrev wsX70 : List Cond := u_ws RX7 TX7 5
theorem nmX7 : ∀ a, a < 5 → ∀ b, b < 5 → a ≠ b → (TX7 a).2.1 ≠ (TX7 b).2.1 := by decide +kernel
theorem tyX7_ok : ∀ k, k < 5 → parseFieldDescriptor (TX7 k).2.2.1 = some (tyX7 k) := by decide +kernel
abbrev cX7_init : ByteArray := prog_9_method_1_code
def yX7_init : MethodName := ⟨RX7, "<init>", "()V"⟩
abbrev cX7_has : ByteArray := prog_9_method_2_code
def yX7_has : MethodName := ⟨RX7, "has", "(I)Z"⟩
abbrev cX7_someAt : ByteArray := prog_9_method_3_code
def yX7_someAt : MethodName := ⟨RX7, "someAt", "(I)Z"⟩
abbrev cX7_put : ByteArray := prog_9_method_4_code
def yX7_put : MethodName := ⟨RX7, "put", "(II)I"⟩
abbrev cX7_lightest : ByteArray := prog_9_method_5_code
def yX7_lightest : MethodName := ⟨RX7, "lightest", "()I"⟩
abbrev cX7_keepPlaces : ByteArray := prog_9_method_6_code
def yX7_keepPlaces : MethodName := ⟨RX7, "keepPlaces", "()V"⟩
abbrev cX7_layBack : ByteArray := prog_9_method_7_code
def yX7_layBack : MethodName := ⟨RX7, "layBack", "()V"⟩
abbrev cX7_roomAhead : ByteArray := prog_9_method_8_code
def yX7_roomAhead : MethodName := ⟨RX7, "roomAhead", "([III)I"⟩
abbrev cX7_coordinate : ByteArray := prog_9_method_9_code
def yX7_coordinate : MethodName := ⟨RX7, "coordinate", "(II)I"⟩
def RX8 : String := "WalkingStones$Texts"
def TX8 : u_T := fun k => match k with
  | 0 => ("WalkingStones$Texts", "codes", "[I", true)
  | 1 => ("WalkingStones$Texts", "ends", "[I", true)
  | 2 => ("WalkingStones$Texts", "facts", "[I", true)
  | 3 => ("WalkingStones$Texts", "stack", "[I", true)
  | 4 => ("WalkingStones$Texts", "size", "I", false)
  | 5 => ("WalkingStones$Texts", "rule", "I", false)
  | _ => ("WalkingStones$Texts", "keptRule", "I", false)
def tyX8 : Nat → FieldType := fun k => match k with
  | 0 => .array .int
  | 1 => .array .int
  | 2 => .array .int
  | 3 => .array .int
  | 4 => .int
  | 5 => .int
  | _ => .int
abbrev wsX80 : List Cond := u_ws RX8 TX8 7
theorem nmX8 : ∀ a, a < 7 → ∀ b, b < 7 → a ≠ b → (TX8 a).2.1 ≠ (TX8 b).2.1 := by decide +kernel
theorem tyX8_ok : ∀ k, k < 7 → parseFieldDescriptor (TX8 k).2.2.1 = some (tyX8 k) := by decide +kernel
abbrev cX8_init : ByteArray := prog_10_method_1_code
def yX8_init : MethodName := ⟨RX8, "<init>", "()V"⟩
abbrev cX8_keep : ByteArray := prog_10_method_2_code
def yX8_keep : MethodName := ⟨RX8, "keep", "([I[I)I"⟩
abbrev cX8_tellStone : ByteArray := prog_10_method_3_code
def yX8_tellStone : MethodName := ⟨RX8, "tellStone", "(II)V"⟩
abbrev cX8_tellNight : ByteArray := prog_10_method_4_code
def yX8_tellNight : MethodName := ⟨RX8, "tellNight", "(IIII)V"⟩
abbrev cX8_value : ByteArray := prog_10_method_5_code
def yX8_value : MethodName := ⟨RX8, "value", "(I)I"⟩
abbrev cX8_work : ByteArray := prog_10_method_6_code
def yX8_work : MethodName := ⟨RX8, "work", "(II)I"⟩
abbrev cX8_joined : ByteArray := prog_10_method_7_code
def yX8_joined : MethodName := ⟨RX8, "joined", "(III)I"⟩
def RX9 : String := "WalkingStones$Tracks"
def TX9 : u_T := fun k => match k with
  | 0 => ("WalkingStones$Tracks", "ofStones", "[I", true)
  | 1 => ("WalkingStones$Tracks", "lengths", "[I", true)
  | 2 => ("WalkingStones$Tracks", "turns", "[I", true)
  | 3 => ("WalkingStones$Tracks", "overs", "[I", true)
  | 4 => ("WalkingStones$Tracks", "unders", "[I", true)
  | 5 => ("WalkingStones$Tracks", "groups", "[I", true)
  | 6 => ("WalkingStones$Tracks", "placed", "[Z", true)
  | 7 => ("WalkingStones$Tracks", "size", "I", false)
  | 8 => ("WalkingStones$Tracks", "crosses", "I", false)
  | 9 => ("WalkingStones$Tracks", "keptSize", "I", false)
  | _ => ("WalkingStones$Tracks", "keptCrosses", "I", false)
def tyX9 : Nat → FieldType := fun k => match k with
  | 0 => .array .int
  | 1 => .array .int
  | 2 => .array .int
  | 3 => .array .int
  | 4 => .array .int
  | 5 => .array .int
  | 6 => .array .boolean
  | 7 => .int
  | 8 => .int
  | 9 => .int
  | _ => .int
abbrev wsX90 : List Cond := u_ws RX9 TX9 11
theorem nmX9 : ∀ a, a < 11 → ∀ b, b < 11 → a ≠ b → (TX9 a).2.1 ≠ (TX9 b).2.1 := by decide +kernel
theorem tyX9_ok : ∀ k, k < 11 → parseFieldDescriptor (TX9 k).2.2.1 = some (tyX9 k) := by decide +kernel
abbrev cX9_init : ByteArray := prog_11_method_1_code
def yX9_init : MethodName := ⟨RX9, "<init>", "()V"⟩
abbrev cX9_has : ByteArray := prog_11_method_2_code
def yX9_has : MethodName := ⟨RX9, "has", "(I)Z"⟩
abbrev cX9_hasAll : ByteArray := prog_11_method_3_code
def yX9_hasAll : MethodName := ⟨RX9, "hasAll", "(I)Z"⟩
abbrev cX9_put : ByteArray := prog_11_method_4_code
def yX9_put : MethodName := ⟨RX9, "put", "(III)I"⟩
abbrev cX9_putCross : ByteArray := prog_11_method_5_code
def yX9_putCross : MethodName := ⟨RX9, "putCross", "(II)I"⟩
abbrev cX9_keepSizes : ByteArray := prog_11_method_6_code
def yX9_keepSizes : MethodName := ⟨RX9, "keepSizes", "()V"⟩
abbrev cX9_cutBack : ByteArray := prog_11_method_7_code
def yX9_cutBack : MethodName := ⟨RX9, "cutBack", "()V"⟩
abbrev cX9_wentTogether : ByteArray := prog_11_method_8_code
def yX9_wentTogether : MethodName := ⟨RX9, "wentTogether", "(III)Z"⟩
abbrev cX9_groupsBy : ByteArray := prog_11_method_9_code
def yX9_groupsBy : MethodName := ⟨RX9, "groupsBy", "(I)I"⟩
abbrev cX9_regroup : ByteArray := prog_11_method_10_code
def yX9_regroup : MethodName := ⟨RX9, "regroup", "(III)V"⟩
abbrev cX9_inOrder : ByteArray := prog_11_method_11_code
def yX9_inOrder : MethodName := ⟨RX9, "inOrder", "(I)I"⟩
abbrev cX9_leastFree : ByteArray := prog_11_method_12_code
def yX9_leastFree : MethodName := ⟨RX9, "leastFree", "()I"⟩
abbrev cX9_liesOverUnplaced : ByteArray := prog_11_method_13_code
def yX9_liesOverUnplaced : MethodName := ⟨RX9, "liesOverUnplaced", "(I)Z"⟩
def RX10 : String := "WalkingStones$Walk"
def TX10 : u_T := fun k => match k with
  | 0 => ("WalkingStones$Walk", "at", "[I", true)
  | 1 => ("WalkingStones$Walk", "went", "[I", true)
  | 2 => ("WalkingStones$Walk", "turns", "[I", true)
  | 3 => ("WalkingStones$Walk", "lastWays", "[I", true)
  | 4 => ("WalkingStones$Walk", "stones", "LWalkingStones$Stones;", true)
  | 5 => ("WalkingStones$Walk", "nights", "LWalkingStones$Nights;", true)
  | 6 => ("WalkingStones$Walk", "hows", "LWalkingStones$Hows;", true)
  | _ => ("WalkingStones$Walk", "pushes", "LWalkingStones$Pushes;", true)
def tyX10 : Nat → FieldType := fun k => match k with
  | 0 => .array .int
  | 1 => .array .int
  | 2 => .array .int
  | 3 => .array .int
  | 4 => .object "WalkingStones$Stones"
  | 5 => .object "WalkingStones$Nights"
  | 6 => .object "WalkingStones$Hows"
  | _ => .object "WalkingStones$Pushes"
abbrev wsX100 : List Cond := u_ws RX10 TX10 8
theorem nmX10 : ∀ a, a < 8 → ∀ b, b < 8 → a ≠ b → (TX10 a).2.1 ≠ (TX10 b).2.1 := by decide +kernel
theorem tyX10_ok : ∀ k, k < 8 → parseFieldDescriptor (TX10 k).2.2.1 = some (tyX10 k) := by decide +kernel
abbrev cX10_init : ByteArray := prog_12_method_1_code
def yX10_init : MethodName := ⟨RX10, "<init>", "(LWalkingStones$Stones;LWalkingStones$Nights;LWalkingStones$Hows;LWalkingStones$Pushes;)V"⟩
abbrev cX10_go : ByteArray := prog_12_method_2_code
def yX10_go : MethodName := ⟨RX10, "go", "(III)V"⟩
abbrev cX10_goOneNight : ByteArray := prog_12_method_3_code
def yX10_goOneNight : MethodName := ⟨RX10, "goOneNight", "(III)V"⟩
abbrev cX10_canGo : ByteArray := prog_12_method_4_code
def yX10_canGo : MethodName := ⟨RX10, "canGo", "(III)Z"⟩
def RX11 : String := "WalkingStones"
def TX11 : u_T := fun k => match k with
  | 0 => ("WalkingStones", "stones", "LWalkingStones$Stones;", true)
  | 1 => ("WalkingStones", "nights", "LWalkingStones$Nights;", true)
  | 2 => ("WalkingStones", "hows", "LWalkingStones$Hows;", true)
  | 3 => ("WalkingStones", "texts", "LWalkingStones$Texts;", true)
  | 4 => ("WalkingStones", "reader", "LWalkingStones$Reader;", true)
  | 5 => ("WalkingStones", "pushes", "LWalkingStones$Pushes;", true)
  | 6 => ("WalkingStones", "walk", "LWalkingStones$Walk;", true)
  | 7 => ("WalkingStones", "tracks", "LWalkingStones$Tracks;", true)
  | 8 => ("WalkingStones", "pegs", "LWalkingStones$Pegs;", true)
  | 9 => ("WalkingStones", "looks", "LWalkingStones$Looks;", true)
  | 10 => ("WalkingStones", "sheets", "LWalkingStones$Sheets;", true)
  | _ => ("WalkingStones", "hasImage", "Z", false)
def tyX11 : Nat → FieldType := fun k => match k with
  | 0 => .object "WalkingStones$Stones"
  | 1 => .object "WalkingStones$Nights"
  | 2 => .object "WalkingStones$Hows"
  | 3 => .object "WalkingStones$Texts"
  | 4 => .object "WalkingStones$Reader"
  | 5 => .object "WalkingStones$Pushes"
  | 6 => .object "WalkingStones$Walk"
  | 7 => .object "WalkingStones$Tracks"
  | 8 => .object "WalkingStones$Pegs"
  | 9 => .object "WalkingStones$Looks"
  | 10 => .object "WalkingStones$Sheets"
  | _ => .boolean
abbrev wsX110 : List Cond := u_ws RX11 TX11 12
theorem nmX11 : ∀ a, a < 12 → ∀ b, b < 12 → a ≠ b → (TX11 a).2.1 ≠ (TX11 b).2.1 := by decide +kernel
theorem tyX11_ok : ∀ k, k < 12 → parseFieldDescriptor (TX11 k).2.2.1 = some (tyX11 k) := by decide +kernel
abbrev cX11_init : ByteArray := prog_1_method_1_code
def yX11_init : MethodName := ⟨RX11, "<init>", "()V"⟩
abbrev cX11_stone : ByteArray := prog_1_method_2_code
def yX11_stone : MethodName := ⟨RX11, "stone", "(II)I"⟩
abbrev cX11_night : ByteArray := prog_1_method_3_code
def yX11_night : MethodName := ⟨RX11, "night", "(I)I"⟩
abbrev cX11_how : ByteArray := prog_1_method_4_code
def yX11_how : MethodName := ⟨RX11, "how", "(II)I"⟩
abbrev cX11_stoneTold : ByteArray := prog_1_method_5_code
def yX11_stoneTold : MethodName := ⟨RX11, "stoneTold", "(II)I"⟩
abbrev cX11_told : ByteArray := prog_1_method_6_code
def yX11_told : MethodName := ⟨RX11, "told", "(IIII)I"⟩
abbrev cX11_needs : ByteArray := prog_1_method_7_code
def yX11_needs : MethodName := ⟨RX11, "needs", "(III)I"⟩
abbrev cX11_feed : ByteArray := prog_1_method_8_code
def yX11_feed : MethodName := ⟨RX11, "feed", "(IJ)I"⟩
abbrev cX11_text : ByteArray := prog_1_method_9_code
def yX11_text : MethodName := ⟨RX11, "text", "()I"⟩
abbrev cX11_force : ByteArray := prog_1_method_10_code
def yX11_force : MethodName := ⟨RX11, "force", "(I)I"⟩
abbrev cX11_run : ByteArray := prog_1_method_11_code
def yX11_run : MethodName := ⟨RX11, "run", "(IIII)I"⟩
abbrev cX11_lay : ByteArray := prog_1_method_12_code
def yX11_lay : MethodName := ⟨RX11, "lay", "(II)I"⟩
abbrev cX11_track : ByteArray := prog_1_method_13_code
def yX11_track : MethodName := ⟨RX11, "track", "(III)I"⟩
abbrev cX11_together : ByteArray := prog_1_method_14_code
def yX11_together : MethodName := ⟨RX11, "together", "(III)I"⟩
abbrev cX11_groups : ByteArray := prog_1_method_15_code
def yX11_groups : MethodName := ⟨RX11, "groups", "(I)I"⟩
abbrev cX11_fits : ByteArray := prog_1_method_16_code
def yX11_fits : MethodName := ⟨RX11, "fits", "(II)I"⟩
abbrev cX11_odds : ByteArray := prog_1_method_17_code
def yX11_odds : MethodName := ⟨RX11, "odds", "(III)J"⟩
abbrev cX11_peg : ByteArray := prog_1_method_18_code
def yX11_peg : MethodName := ⟨RX11, "peg", "(I)I"⟩
abbrev cX11_holds : ByteArray := prog_1_method_19_code
def yX11_holds : MethodName := ⟨RX11, "holds", "(II)I"⟩
abbrev cX11_bars : ByteArray := prog_1_method_20_code
def yX11_bars : MethodName := ⟨RX11, "bars", "(II)I"⟩
abbrev cX11_seldom : ByteArray := prog_1_method_21_code
def yX11_seldom : MethodName := ⟨RX11, "seldom", "(II)J"⟩
abbrev cX11_when : ByteArray := prog_1_method_22_code
def yX11_when : MethodName := ⟨RX11, "when", "(II)J"⟩
abbrev cX11_cross : ByteArray := prog_1_method_23_code
def yX11_cross : MethodName := ⟨RX11, "cross", "(II)I"⟩
abbrev cX11_order : ByteArray := prog_1_method_24_code
def yX11_order : MethodName := ⟨RX11, "order", "(I)I"⟩
abbrev cX11_look : ByteArray := prog_1_method_25_code
def yX11_look : MethodName := ⟨RX11, "look", "(II)I"⟩
abbrev cX11_foretold : ByteArray := prog_1_method_26_code
def yX11_foretold : MethodName := ⟨RX11, "foretold", "(II)I"⟩
abbrev cX11_held : ByteArray := prog_1_method_27_code
def yX11_held : MethodName := ⟨RX11, "held", "(III)I"⟩
abbrev cX11_image : ByteArray := prog_1_method_28_code
def yX11_image : MethodName := ⟨RX11, "image", "()I"⟩
abbrev cX11_back : ByteArray := prog_1_method_29_code
def yX11_back : MethodName := ⟨RX11, "back", "()I"⟩
abbrev cX11_count : ByteArray := prog_1_method_30_code
def yX11_count : MethodName := ⟨RX11, "count", "(I)I"⟩
abbrev cX11_sheet : ByteArray := prog_1_method_31_code
def yX11_sheet : MethodName := ⟨RX11, "sheet", "(III)I"⟩
abbrev cX11_cell : ByteArray := prog_1_method_32_code
def yX11_cell : MethodName := ⟨RX11, "cell", "(III)I"⟩
abbrev cX11_copy : ByteArray := prog_1_method_33_code
def yX11_copy : MethodName := ⟨RX11, "copy", "(IIIII)I"⟩
abbrev cX11_nights : ByteArray := prog_1_method_34_code
def yX11_nights : MethodName := ⟨RX11, "nights", "(IIII)I"⟩
abbrev cX11_taken : ByteArray := prog_1_method_35_code
def yX11_taken : MethodName := ⟨RX11, "taken", "(II)I"⟩
abbrev cX11_bit : ByteArray := prog_1_method_36_code
def yX11_bit : MethodName := ⟨RX11, "bit", "(Z)I"⟩
abbrev cX11_within : ByteArray := prog_1_method_37_code
def yX11_within : MethodName := ⟨RX11, "within", "(III)I"⟩
abbrev cX11_isPlace : ByteArray := prog_1_method_38_code
def yX11_isPlace : MethodName := ⟨RX11, "isPlace", "(I)Z"⟩
abbrev cX11_isKind : ByteArray := prog_1_method_39_code
def yX11_isKind : MethodName := ⟨RX11, "isKind", "(I)Z"⟩
abbrev cX11_isOff : ByteArray := prog_1_method_40_code
def yX11_isOff : MethodName := ⟨RX11, "isOff", "(I)Z"⟩
abbrev cX11_isFar : ByteArray := prog_1_method_41_code
def yX11_isFar : MethodName := ⟨RX11, "isFar", "(I)Z"⟩
abbrev cX11_isSheet : ByteArray := prog_1_method_42_code
def yX11_isSheet : MethodName := ⟨RX11, "isSheet", "(I)Z"⟩
abbrev cX11_isSort : ByteArray := prog_1_method_43_code
def yX11_isSort : MethodName := ⟨RX11, "isSort", "(I)Z"⟩
abbrev cX11_isUnder : ByteArray := prog_1_method_44_code
def yX11_isUnder : MethodName := ⟨RX11, "isUnder", "(II)Z"⟩
abbrev cX11_fitOfWalk : ByteArray := prog_1_method_45_code
def yX11_fitOfWalk : MethodName := ⟨RX11, "fitOfWalk", "(I)I"⟩
abbrev cX11_productOfFits : ByteArray := prog_1_method_46_code
def yX11_productOfFits : MethodName := ⟨RX11, "productOfFits", "(I)J"⟩
abbrev cX11_partOfWait : ByteArray := prog_1_method_47_code
def yX11_partOfWait : MethodName := ⟨RX11, "partOfWait", "(II)J"⟩
abbrev cX11_partOfFraction : ByteArray := prog_1_method_48_code
def yX11_partOfFraction : MethodName := ⟨RX11, "partOfFraction", "(JJI)J"⟩
abbrev cX11_commonDivisor : ByteArray := prog_1_method_49_code
def yX11_commonDivisor : MethodName := ⟨RX11, "commonDivisor", "(JJ)J"⟩
def RX12 : String := "WalkingStonesModel"
def TX12 : u_T := fun k => match k with
  | 0 => ("WalkingStonesModel", "stones", "I", false)
  | 1 => ("WalkingStonesModel", "nights", "I", false)
  | 2 => ("WalkingStonesModel", "hows", "I", false)
  | 3 => ("WalkingStonesModel", "weight", "[I", true)
  | 4 => ("WalkingStonesModel", "place", "[I", true)
  | 5 => ("WalkingStonesModel", "wet", "[I", true)
  | 6 => ("WalkingStonesModel", "ice", "[I", true)
  | 7 => ("WalkingStonesModel", "wind", "[I", true)
  | 8 => ("WalkingStonesModel", "way", "[I", true)
  | 9 => ("WalkingStonesModel", "kind", "[I", true)
  | 10 => ("WalkingStonesModel", "number", "[I", true)
  | 11 => ("WalkingStonesModel", "texts", "I", false)
  | 12 => ("WalkingStonesModel", "rule", "I", false)
  | 13 => ("WalkingStonesModel", "fed", "I", false)
  | 14 => ("WalkingStonesModel", "at", "I", false)
  | 15 => ("WalkingStonesModel", "token", "I", false)
  | 16 => ("WalkingStonesModel", "word", "I", false)
  | 17 => ("WalkingStonesModel", "size", "I", false)
  | 18 => ("WalkingStonesModel", "open", "I", false)
  | 19 => ("WalkingStonesModel", "waiting", "I", false)
  | 20 => ("WalkingStonesModel", "made", "I", false)
  | 21 => ("WalkingStonesModel", "tape", "[I", true)
  | 22 => ("WalkingStonesModel", "signs", "[I", true)
  | 23 => ("WalkingStonesModel", "tells", "[I", true)
  | 24 => ("WalkingStonesModel", "many", "[I", true)
  | 25 => ("WalkingStonesModel", "waits", "[I", true)
  | 26 => ("WalkingStonesModel", "pile", "[I", true)
  | 27 => ("WalkingStonesModel", "tried", "I", false)
  | 28 => ("WalkingStonesModel", "on", "[I", true)
  | 29 => ("WalkingStonesModel", "went", "[I", true)
  | 30 => ("WalkingStonesModel", "turns", "[I", true)
  | 31 => ("WalkingStonesModel", "lastWay", "[I", true)
  | 32 => ("WalkingStonesModel", "tracks", "I", false)
  | 33 => ("WalkingStonesModel", "trackStone", "[I", true)
  | 34 => ("WalkingStonesModel", "length", "[I", true)
  | 35 => ("WalkingStonesModel", "trackTurns", "[I", true)
  | 36 => ("WalkingStonesModel", "group", "[I", true)
  | 37 => ("WalkingStonesModel", "pegs", "I", false)
  | 38 => ("WalkingStonesModel", "peg", "[I", true)
  | 39 => ("WalkingStonesModel", "crosses", "I", false)
  | 40 => ("WalkingStonesModel", "over", "[I", true)
  | 41 => ("WalkingStonesModel", "under", "[I", true)
  | 42 => ("WalkingStonesModel", "hasImage", "Z", false)
  | 43 => ("WalkingStonesModel", "imageStones", "I", false)
  | 44 => ("WalkingStonesModel", "imageRule", "I", false)
  | 45 => ("WalkingStonesModel", "imageTracks", "I", false)
  | 46 => ("WalkingStonesModel", "imageCrosses", "I", false)
  | 47 => ("WalkingStonesModel", "imagePegs", "I", false)
  | 48 => ("WalkingStonesModel", "imagePlace", "[I", true)
  | 49 => ("WalkingStonesModel", "sort", "[I", true)
  | 50 => ("WalkingStonesModel", "rows", "[I", true)
  | 51 => ("WalkingStonesModel", "item", "[I", true)
  | 52 => ("WalkingStonesModel", "aside", "[I", true)
  | _ => ("WalkingStonesModel", "worths", "[I", true)
def tyX12 : Nat → FieldType := fun k => match k with
  | 0 => .int
  | 1 => .int
  | 2 => .int
  | 3 => .array .int
  | 4 => .array .int
  | 5 => .array .int
  | 6 => .array .int
  | 7 => .array .int
  | 8 => .array .int
  | 9 => .array .int
  | 10 => .array .int
  | 11 => .int
  | 12 => .int
  | 13 => .int
  | 14 => .int
  | 15 => .int
  | 16 => .int
  | 17 => .int
  | 18 => .int
  | 19 => .int
  | 20 => .int
  | 21 => .array .int
  | 22 => .array .int
  | 23 => .array .int
  | 24 => .array .int
  | 25 => .array .int
  | 26 => .array .int
  | 27 => .int
  | 28 => .array .int
  | 29 => .array .int
  | 30 => .array .int
  | 31 => .array .int
  | 32 => .int
  | 33 => .array .int
  | 34 => .array .int
  | 35 => .array .int
  | 36 => .array .int
  | 37 => .int
  | 38 => .array .int
  | 39 => .int
  | 40 => .array .int
  | 41 => .array .int
  | 42 => .boolean
  | 43 => .int
  | 44 => .int
  | 45 => .int
  | 46 => .int
  | 47 => .int
  | 48 => .array .int
  | 49 => .array .int
  | 50 => .array .int
  | 51 => .array .int
  | 52 => .array .int
  | _ => .array .int
abbrev wsX120 : List Cond := u_ws RX12 TX12 54
theorem nmX12 : ∀ a, a < 54 → ∀ b, b < 54 → a ≠ b → (TX12 a).2.1 ≠ (TX12 b).2.1 := by decide +kernel
theorem tyX12_ok : ∀ k, k < 54 → parseFieldDescriptor (TX12 k).2.2.1 = some (tyX12 k) := by decide +kernel
abbrev cX12_in : ByteArray := prog_14_method_1_code
def yX12_in : MethodName := ⟨RX12, "in", "(III)Z"⟩
abbrev cX12_isStone : ByteArray := prog_14_method_2_code
def yX12_isStone : MethodName := ⟨RX12, "isStone", "(I)Z"⟩
abbrev cX12_isNight : ByteArray := prog_14_method_3_code
def yX12_isNight : MethodName := ⟨RX12, "isNight", "(I)Z"⟩
abbrev cX12_isHow : ByteArray := prog_14_method_4_code
def yX12_isHow : MethodName := ⟨RX12, "isHow", "(I)Z"⟩
abbrev cX12_stone : ByteArray := prog_14_method_5_code
def yX12_stone : MethodName := ⟨RX12, "stone", "(II)I"⟩
abbrev cX12_isWeather : ByteArray := prog_14_method_6_code
def yX12_isWeather : MethodName := ⟨RX12, "isWeather", "(I)Z"⟩
abbrev cX12_comes : ByteArray := prog_14_method_7_code
def yX12_comes : MethodName := ⟨RX12, "comes", "(I)V"⟩
abbrev cX12_night : ByteArray := prog_14_method_8_code
def yX12_night : MethodName := ⟨RX12, "night", "(I)I"⟩
abbrev cX12_how : ByteArray := prog_14_method_9_code
def yX12_how : MethodName := ⟨RX12, "how", "(II)I"⟩
abbrev cX12_stoneTold : ByteArray := prog_14_method_10_code
def yX12_stoneTold : MethodName := ⟨RX12, "stoneTold", "(II)I"⟩
abbrev cX12_init : ByteArray := prog_14_method_11_code
def yX12_init : MethodName := ⟨RX12, "<init>", "()V"⟩
abbrev cX12_feed : ByteArray := prog_14_method_12_code
def yX12_feed : MethodName := ⟨RX12, "feed", "(IJ)I"⟩
abbrev cX12_byteAt : ByteArray := prog_14_method_13_code
def yX12_byteAt : MethodName := ⟨RX12, "byteAt", "(I)I"⟩
abbrev cX12_isLetter : ByteArray := prog_14_method_14_code
def yX12_isLetter : MethodName := ⟨RX12, "isLetter", "(I)Z"⟩
abbrev cX12_isDigit : ByteArray := prog_14_method_15_code
def yX12_isDigit : MethodName := ⟨RX12, "isDigit", "(I)Z"⟩
abbrev cX12_look : ByteArray := prog_14_method_16_code
def yX12_look : MethodName := ⟨RX12, "look", "()V"⟩
abbrev cX12_goOn : ByteArray := prog_14_method_17_code
def yX12_goOn : MethodName := ⟨RX12, "goOn", "()V"⟩
abbrev cX12_isWord : ByteArray := prog_14_method_18_code
def yX12_isWord : MethodName := ⟨RX12, "isWord", "(I)Z"⟩
abbrev cX12_isKey : ByteArray := prog_14_method_19_code
def yX12_isKey : MethodName := ⟨RX12, "isKey", "(I)Z"⟩
abbrev cX12_nameOf : ByteArray := prog_14_method_20_code
def yX12_nameOf : MethodName := ⟨RX12, "nameOf", "(I)I"⟩
abbrev cX12_put : ByteArray := prog_14_method_21_code
def yX12_put : MethodName := ⟨RX12, "put", "(II)V"⟩
abbrev cX12_top : ByteArray := prog_14_method_22_code
def yX12_top : MethodName := ⟨RX12, "top", "()I"⟩
abbrev cX12_pushSign : ByteArray := prog_14_method_23_code
def yX12_pushSign : MethodName := ⟨RX12, "pushSign", "(I)V"⟩
abbrev cX12_strength : ByteArray := prog_14_method_24_code
def yX12_strength : MethodName := ⟨RX12, "strength", "(I)I"⟩
abbrev cX12_settle : ByteArray := prog_14_method_25_code
def yX12_settle : MethodName := ⟨RX12, "settle", "(I)V"⟩
abbrev cX12_opens : ByteArray := prog_14_method_26_code
def yX12_opens : MethodName := ⟨RX12, "opens", "(I)Z"⟩
abbrev cX12_takesOne : ByteArray := prog_14_method_27_code
def yX12_takesOne : MethodName := ⟨RX12, "takesOne", "(Z)I"⟩
abbrev cX12_takesSign : ByteArray := prog_14_method_28_code
def yX12_takesSign : MethodName := ⟨RX12, "takesSign", "()I"⟩
abbrev cX12_takesE : ByteArray := prog_14_method_29_code
def yX12_takesE : MethodName := ⟨RX12, "takesE", "(I)Z"⟩
abbrev cX12_takesPart : ByteArray := prog_14_method_30_code
def yX12_takesPart : MethodName := ⟨RX12, "takesPart", "(III)Z"⟩
abbrev cX12_text : ByteArray := prog_14_method_31_code
def yX12_text : MethodName := ⟨RX12, "text", "()I"⟩
abbrev cX12_force : ByteArray := prog_14_method_32_code
def yX12_force : MethodName := ⟨RX12, "force", "(I)I"⟩
abbrev cX12_nameValue : ByteArray := prog_14_method_33_code
def yX12_nameValue : MethodName := ⟨RX12, "nameValue", "(IIII)I"⟩
abbrev cX12_done : ByteArray := prog_14_method_34_code
def yX12_done : MethodName := ⟨RX12, "done", "(III)I"⟩
abbrev cX12_tellsRule : ByteArray := prog_14_method_35_code
def yX12_tellsRule : MethodName := ⟨RX12, "tellsRule", "(IIII)I"⟩
abbrev cX12_windNow : ByteArray := prog_14_method_36_code
def yX12_windNow : MethodName := ⟨RX12, "windNow", "(I)I"⟩
abbrev cX12_may : ByteArray := prog_14_method_37_code
def yX12_may : MethodName := ⟨RX12, "may", "(II)Z"⟩
abbrev cX12_drag : ByteArray := prog_14_method_38_code
def yX12_drag : MethodName := ⟨RX12, "drag", "(II)I"⟩
abbrev cX12_plainPush : ByteArray := prog_14_method_39_code
def yX12_plainPush : MethodName := ⟨RX12, "plainPush", "(III)I"⟩
abbrev cX12_pushes : ByteArray := prog_14_method_40_code
def yX12_pushes : MethodName := ⟨RX12, "pushes", "(III)I"⟩
abbrev cX12_wayOf : ByteArray := prog_14_method_41_code
def yX12_wayOf : MethodName := ⟨RX12, "wayOf", "(II)I"⟩
abbrev cX12_told : ByteArray := prog_14_method_42_code
def yX12_told : MethodName := ⟨RX12, "told", "(IIII)I"⟩
abbrev cX12_needs : ByteArray := prog_14_method_43_code
def yX12_needs : MethodName := ⟨RX12, "needs", "(III)I"⟩
abbrev cX12_isFree : ByteArray := prog_14_method_44_code
def yX12_isFree : MethodName := ⟨RX12, "isFree", "(I)Z"⟩
abbrev cX12_ahead : ByteArray := prog_14_method_45_code
def yX12_ahead : MethodName := ⟨RX12, "ahead", "(II)I"⟩
abbrev cX12_begin : ByteArray := prog_14_method_46_code
def yX12_begin : MethodName := ⟨RX12, "begin", "()V"⟩
abbrev cX12_goNight : ByteArray := prog_14_method_47_code
def yX12_goNight : MethodName := ⟨RX12, "goNight", "(II)V"⟩
abbrev cX12_goAll : ByteArray := prog_14_method_48_code
def yX12_goAll : MethodName := ⟨RX12, "goAll", "(I)V"⟩
abbrev cX12_isRow : ByteArray := prog_14_method_49_code
def yX12_isRow : MethodName := ⟨RX12, "isRow", "(I)Z"⟩
abbrev cX12_goRow : ByteArray := prog_14_method_50_code
def yX12_goRow : MethodName := ⟨RX12, "goRow", "(II)V"⟩
abbrev cX12_run : ByteArray := prog_14_method_51_code
def yX12_run : MethodName := ⟨RX12, "run", "(IIII)I"⟩
abbrev cX12_lay : ByteArray := prog_14_method_52_code
def yX12_lay : MethodName := ⟨RX12, "lay", "(II)I"⟩
abbrev cX12_isTrack : ByteArray := prog_14_method_53_code
def yX12_isTrack : MethodName := ⟨RX12, "isTrack", "(I)Z"⟩
abbrev cX12_track : ByteArray := prog_14_method_54_code
def yX12_track : MethodName := ⟨RX12, "track", "(III)I"⟩
abbrev cX12_apart : ByteArray := prog_14_method_55_code
def yX12_apart : MethodName := ⟨RX12, "apart", "(II)I"⟩
abbrev cX12_areTogether : ByteArray := prog_14_method_56_code
def yX12_areTogether : MethodName := ⟨RX12, "areTogether", "(III)Z"⟩
abbrev cX12_together : ByteArray := prog_14_method_57_code
def yX12_together : MethodName := ⟨RX12, "together", "(III)I"⟩
abbrev cX12_groups : ByteArray := prog_14_method_58_code
def yX12_groups : MethodName := ⟨RX12, "groups", "(I)I"⟩
abbrev cX12_fitting : ByteArray := prog_14_method_59_code
def yX12_fitting : MethodName := ⟨RX12, "fitting", "(I)I"⟩
abbrev cX12_fits : ByteArray := prog_14_method_60_code
def yX12_fits : MethodName := ⟨RX12, "fits", "(II)I"⟩
abbrev cX12_product : ByteArray := prog_14_method_61_code
def yX12_product : MethodName := ⟨RX12, "product", "(II)J"⟩
abbrev cX12_divisor : ByteArray := prog_14_method_62_code
def yX12_divisor : MethodName := ⟨RX12, "divisor", "(JJ)J"⟩
abbrev cX12_odds : ByteArray := prog_14_method_63_code
def yX12_odds : MethodName := ⟨RX12, "odds", "(III)J"⟩
abbrev cX12_peg : ByteArray := prog_14_method_64_code
def yX12_peg : MethodName := ⟨RX12, "peg", "(I)I"⟩
abbrev cX12_isHeld : ByteArray := prog_14_method_65_code
def yX12_isHeld : MethodName := ⟨RX12, "isHeld", "(II)Z"⟩
abbrev cX12_holds : ByteArray := prog_14_method_66_code
def yX12_holds : MethodName := ⟨RX12, "holds", "(II)I"⟩
abbrev cX12_isOut : ByteArray := prog_14_method_67_code
def yX12_isOut : MethodName := ⟨RX12, "isOut", "(I)Z"⟩
abbrev cX12_bars : ByteArray := prog_14_method_68_code
def yX12_bars : MethodName := ⟨RX12, "bars", "(II)I"⟩
abbrev cX12_pushesSome : ByteArray := prog_14_method_69_code
def yX12_pushesSome : MethodName := ⟨RX12, "pushesSome", "(II)Z"⟩
abbrev cX12_lightest : ByteArray := prog_14_method_70_code
def yX12_lightest : MethodName := ⟨RX12, "lightest", "()I"⟩
abbrev cX12_seldom : ByteArray := prog_14_method_71_code
def yX12_seldom : MethodName := ⟨RX12, "seldom", "(II)J"⟩
abbrev cX12_canGo : ByteArray := prog_14_method_72_code
def yX12_canGo : MethodName := ⟨RX12, "canGo", "(III)Z"⟩
abbrev cX12_when : ByteArray := prog_14_method_73_code
def yX12_when : MethodName := ⟨RX12, "when", "(II)J"⟩
abbrev cX12_cross : ByteArray := prog_14_method_74_code
def yX12_cross : MethodName := ⟨RX12, "cross", "(II)I"⟩
abbrev cX12_eldest : ByteArray := prog_14_method_75_code
def yX12_eldest : MethodName := ⟨RX12, "eldest", "(I)I"⟩
abbrev cX12_order : ByteArray := prog_14_method_76_code
def yX12_order : MethodName := ⟨RX12, "order", "(I)I"⟩
abbrev cX12_worthOf : ByteArray := prog_14_method_77_code
def yX12_worthOf : MethodName := ⟨RX12, "worthOf", "(I)I"⟩
abbrev cX12_look_ : ByteArray := prog_14_method_78_code
def yX12_look_ : MethodName := ⟨RX12, "look", "(II)I"⟩
abbrev cX12_goers : ByteArray := prog_14_method_79_code
def yX12_goers : MethodName := ⟨RX12, "goers", "(II)I"⟩
abbrev cX12_foretold : ByteArray := prog_14_method_80_code
def yX12_foretold : MethodName := ⟨RX12, "foretold", "(II)I"⟩
abbrev cX12_held : ByteArray := prog_14_method_81_code
def yX12_held : MethodName := ⟨RX12, "held", "(III)I"⟩
abbrev cX12_image : ByteArray := prog_14_method_82_code
def yX12_image : MethodName := ⟨RX12, "image", "()I"⟩
abbrev cX12_back : ByteArray := prog_14_method_83_code
def yX12_back : MethodName := ⟨RX12, "back", "()I"⟩
abbrev cX12_count : ByteArray := prog_14_method_84_code
def yX12_count : MethodName := ⟨RX12, "count", "(I)I"⟩
abbrev cX12_isSheet : ByteArray := prog_14_method_85_code
def yX12_isSheet : MethodName := ⟨RX12, "isSheet", "(I)Z"⟩
abbrev cX12_sheet : ByteArray := prog_14_method_86_code
def yX12_sheet : MethodName := ⟨RX12, "sheet", "(III)I"⟩
abbrev cX12_cell : ByteArray := prog_14_method_87_code
def yX12_cell : MethodName := ⟨RX12, "cell", "(III)I"⟩
abbrev cX12_copy : ByteArray := prog_14_method_88_code
def yX12_copy : MethodName := ⟨RX12, "copy", "(IIIII)I"⟩
abbrev cX12_nights : ByteArray := prog_14_method_89_code
def yX12_nights : MethodName := ⟨RX12, "nights", "(IIII)I"⟩
abbrev cX12_isUnder : ByteArray := prog_14_method_90_code
def yX12_isUnder : MethodName := ⟨RX12, "isUnder", "(II)Z"⟩
abbrev cX12_taken : ByteArray := prog_14_method_91_code
def yX12_taken : MethodName := ⟨RX12, "taken", "(II)I"⟩
def RJ9 : String := "java/lang/Math"
def TJ9 : u_T := fun k => match k with
  | _ => ("", "", "", false)
def tyJ9 : Nat → FieldType := fun k => match k with
  | _ => .int
abbrev wsJ90 : List Cond := u_ws RJ9 TJ9 0
theorem nmJ9 : ∀ a, a < 0 → ∀ b, b < 0 → a ≠ b → (TJ9 a).2.1 ≠ (TJ9 b).2.1 := by decide +kernel
theorem tyJ9_ok : ∀ k, k < 0 → parseFieldDescriptor (TJ9 k).2.2.1 = some (tyJ9 k) := by decide +kernel
abbrev cJ9_abs_0f7a4 : ByteArray := prog_15_method_59_code
def yJ9_abs_0f7a4 : MethodName := ⟨RJ9, "abs", "(I)I"⟩
abbrev cJ9_max_7cf53 : ByteArray := prog_15_method_65_code
def yJ9_max_7cf53 : MethodName := ⟨RJ9, "max", "(II)I"⟩
abbrev cJ9_min_7cf53 : ByteArray := prog_15_method_69_code
def yJ9_min_7cf53 : MethodName := ⟨RJ9, "min", "(II)I"⟩
def RJ0 : String := "java/lang/String"
def TJ0 : u_T := fun k => match k with
  | _ => ("", "", "", false)
def tyJ0 : Nat → FieldType := fun k => match k with
  | _ => .int
abbrev wsJ00 : List Cond := u_ws RJ0 TJ0 0
theorem nmJ0 : ∀ a, a < 0 → ∀ b, b < 0 → a ≠ b → (TJ0 a).2.1 ≠ (TJ0 b).2.1 := by decide +kernel
theorem tyJ0_ok : ∀ k, k < 0 → parseFieldDescriptor (TJ0 k).2.2.1 = some (tyJ0 k) := by decide +kernel
abbrev cJ0_length_8abf5 : ByteArray := prog_16_method_54_code
def yJ0_length_8abf5 : MethodName := ⟨RJ0, "length", "()I"⟩
abbrev cJ0_charAt_5068e : ByteArray := prog_16_method_56_code
def yJ0_charAt_5068e : MethodName := ⟨RJ0, "charAt", "(I)C"⟩
abbrev cJ0_coder_7d493 : ByteArray := prog_16_method_152_code
def yJ0_coder_7d493 : MethodName := ⟨RJ0, "coder", "()B"⟩
abbrev cJ0_isLatin1_aae02 : ByteArray := prog_16_method_154_code
def yJ0_isLatin1_aae02 : MethodName := ⟨RJ0, "isLatin1", "()Z"⟩
abbrev cJ0_checkIndex_df160 : ByteArray := prog_16_method_155_code
def yJ0_checkIndex_df160 : MethodName := ⟨RJ0, "checkIndex", "(II)V"⟩
def RJ1 : String := "java/lang/StringLatin1"
def TJ1 : u_T := fun k => match k with
  | _ => ("", "", "", false)
def tyJ1 : Nat → FieldType := fun k => match k with
  | _ => .int
abbrev wsJ10 : List Cond := u_ws RJ1 TJ1 0
theorem nmJ1 : ∀ a, a < 0 → ∀ b, b < 0 → a ≠ b → (TJ1 a).2.1 ≠ (TJ1 b).2.1 := by decide +kernel
theorem tyJ1_ok : ∀ k, k < 0 → parseFieldDescriptor (TJ1 k).2.2.1 = some (tyJ1 k) := by decide +kernel
abbrev cJ1_charAt_3b067 : ByteArray := prog_17_method_2_code
def yJ1_charAt_3b067 : MethodName := ⟨RJ1, "charAt", "([BI)C"⟩
def RJ2 : String := "java/lang/StringUTF16"
def TJ2 : u_T := fun k => match k with
  | _ => ("", "", "", false)
def tyJ2 : Nat → FieldType := fun k => match k with
  | _ => .int
abbrev wsJ20 : List Cond := u_ws RJ2 TJ2 0
theorem nmJ2 : ∀ a, a < 0 → ∀ b, b < 0 → a ≠ b → (TJ2 a).2.1 ≠ (TJ2 b).2.1 := by decide +kernel
theorem tyJ2_ok : ∀ k, k < 0 → parseFieldDescriptor (TJ2 k).2.2.1 = some (tyJ2 k) := by decide +kernel
abbrev cJ2_getChar_3b067 : ByteArray := prog_18_method_5_code
def yJ2_getChar_3b067 : MethodName := ⟨RJ2, "getChar", "([BI)C"⟩
abbrev cJ2_length_9d52b : ByteArray := prog_18_method_6_code
def yJ2_length_9d52b : MethodName := ⟨RJ2, "length", "([B)I"⟩
abbrev cJ2_charAt_3b067 : ByteArray := prog_18_method_83_code
def yJ2_charAt_3b067 : MethodName := ⟨RJ2, "charAt", "([BI)C"⟩
abbrev cJ2_checkIndex_2214a : ByteArray := prog_18_method_91_code
def yJ2_checkIndex_2214a : MethodName := ⟨RJ2, "checkIndex", "(I[B)V"⟩
def RJ10 : String := "java/lang/System"
def TJ10 : u_T := fun k => match k with
  | _ => ("", "", "", false)
def tyJ10 : Nat → FieldType := fun k => match k with
  | _ => .int
abbrev wsJ100 : List Cond := u_ws RJ10 TJ10 0
theorem nmJ10 : ∀ a, a < 0 → ∀ b, b < 0 → a ≠ b → (TJ10 a).2.1 ≠ (TJ10 b).2.1 := by decide +kernel
theorem tyJ10_ok : ∀ k, k < 0 → parseFieldDescriptor (TJ10 k).2.2.1 = some (tyJ10 k) := by decide +kernel
def RJ3 : String := "jdk/internal/util/Preconditions"
def TJ3 : u_T := fun k => match k with
  | _ => ("", "", "", false)
def tyJ3 : Nat → FieldType := fun k => match k with
  | _ => .int
abbrev wsJ30 : List Cond := u_ws RJ3 TJ3 0
theorem nmJ3 : ∀ a, a < 0 → ∀ b, b < 0 → a ≠ b → (TJ3 a).2.1 ≠ (TJ3 b).2.1 := by decide +kernel
theorem tyJ3_ok : ∀ k, k < 0 → parseFieldDescriptor (TJ3 k).2.2.1 = some (tyJ3 k) := by decide +kernel
abbrev cJ3_checkIndex_8e157 : ByteArray := prog_20_method_11_code
def yJ3_checkIndex_8e157 : MethodName := ⟨RJ3, "checkIndex", "(IILjava/util/function/BiFunction;)I"⟩
def RL : String := "WalkingStonesLaw"
abbrev cL_law : ByteArray := code
def yL_law : MethodName := ⟨RL, "law", "([I)Z"⟩
abbrev vwCl : List vw_C := [(RX0, TX0, 3), (RX1, TX1, 4), (RX2, TX2, 5), (RX3, TX3, 4), (RX4, TX4, 4), (RX5, TX5, 8), (RX6, TX6, 3), (RX7, TX7, 5), (RX8, TX8, 7), (RX9, TX9, 11), (RX10, TX10, 8), (RX11, TX11, 12), (RX12, TX12, 54)]
end
section
abbrev zq_A : Type := Bool × Nat × (Nat → Int32)
abbrev zq_E : Type := zq_A ⊕ (Nat × List Value)
/-- an instruction: where, what, how long, what it is resolved to, its constant, the locals that live where a walk is cut -/
abbrev zq_I : Type := Nat × Instr × Nat × List Nat × Value × List Bool
/-- a method: name, bytes, locals, answer, instructions, what it makes, where its words stand -/
abbrev zq_T : Type := MethodName × ByteArray × Nat × Option FieldType × List zq_I × (Nat × Nat) × List Nat
def zq_c0 : List zq_I := [
  (0, .aload_n 0, 1, [0], .null, []),
  (1, .invokespecial 3, 3, [0, 177], .null, []),
  (4, .aload_n 0, 1, [0], .null, []),
  (5, .bipush 8, 2, [], .int 8, []),
  (7, .newarray .int, 2, [137], .null, []),
  (9, .putfield 9, 3, [0, 0, 2, 10, 12, 178], .null, []),
  (12, .aload_n 0, 1, [0], .null, []),
  (13, .bipush 8, 2, [], .int 8, []),
  (15, .newarray .int, 2, [137], .null, []),
  (17, .putfield 15, 3, [0, 1, 2, 10, 13, 180], .null, []),
  (20, .return_, 1, [], .null, [])]
abbrev kX0_init : Nat := 0
abbrev zq_m0 : zq_T := (yX0_init, cX0_init, 1, none, zq_c0, (2, 16), [176, 84, 175, 0])
def zq_c1 : List zq_I := [
  (0, .iload_n 1, 1, [1], .null, []),
  (1, .ifCond .lt 15, 3, [16], .null, []),
  (4, .iload_n 1, 1, [1], .null, []),
  (5, .aload_n 0, 1, [0], .null, []),
  (6, .getfield 18, 3, [0, 2, 0, 10, 0, 183], .null, []),
  (9, .if_icmp .ge 7, 3, [16], .null, []),
  (12, .iconst 1, 1, [], .int 1, []),
  (13, .goto 4, 3, [17], .null, []),
  (16, .iconst 0, 1, [], .int 0, []),
  (17, .ireturn, 1, [], .null, [])]
abbrev kX0_has : Nat := 1
abbrev zq_m1 : zq_T := (yX0_has, cX0_has, 2, (some .boolean), zq_c1, (0, 0), [521, 84, 519, 520])
def zq_c2 : List zq_I := [
  (0, .aload_n 0, 1, [0], .null, []),
  (1, .getfield 18, 3, [0, 2, 0, 10, 0, 183], .null, []),
  (4, .bipush 8, 2, [], .int 8, []),
  (6, .if_icmp .lt 6, 3, [12], .null, []),
  (9, .bipush (-4), 2, [], .int (-4), []),
  (11, .ireturn, 1, [], .null, []),
  (12, .aload_n 0, 1, [0], .null, []),
  (13, .getfield 9, 3, [0, 0, 2, 10, 12, 178], .null, []),
  (16, .aload_n 0, 1, [0], .null, []),
  (17, .getfield 18, 3, [0, 2, 0, 10, 0, 183], .null, []),
  (20, .iload_n 1, 1, [1], .null, []),
  (21, .iastore, 1, [], .null, []),
  (22, .aload_n 0, 1, [0], .null, []),
  (23, .getfield 15, 3, [0, 1, 2, 10, 13, 180], .null, []),
  (26, .aload_n 0, 1, [0], .null, []),
  (27, .getfield 18, 3, [0, 2, 0, 10, 0, 183], .null, []),
  (30, .iload_n 2, 1, [2], .null, []),
  (31, .iastore, 1, [], .null, []),
  (32, .aload_n 0, 1, [0], .null, []),
  (33, .dup, 1, [], .null, []),
  (34, .getfield 18, 3, [0, 2, 0, 10, 0, 183], .null, []),
  (37, .iconst 1, 1, [], .int 1, []),
  (38, .iadd, 1, [], .null, []),
  (39, .putfield 18, 3, [0, 2, 0, 10, 0, 183], .null, []),
  (42, .aload_n 0, 1, [0], .null, []),
  (43, .getfield 18, 3, [0, 2, 0, 10, 0, 183], .null, []),
  (46, .iconst 1, 1, [], .int 1, []),
  (47, .isub, 1, [], .null, []),
  (48, .ireturn, 1, [], .null, [])]
abbrev kX0_put : Nat := 2
abbrev zq_m2 : zq_T := (yX0_put, cX0_put, 3, (some .int), zq_c2, (0, 0), [505, 84, 503, 504])
def zq_c3 : List zq_I := [
  (0, .iload_n 2, 1, [2], .null, []),
  (1, .ifCond .ne 5, 3, [6], .null, []),
  (4, .iconst 0, 1, [], .int 0, []),
  (5, .ireturn, 1, [], .null, []),
  (6, .aload_n 0, 1, [0], .null, []),
  (7, .getfield 9, 3, [0, 0, 2, 10, 12, 178], .null, []),
  (10, .iload_n 1, 1, [1], .null, []),
  (11, .iaload, 1, [], .null, []),
  (12, .tableswitch 66 2 4 #[28, 39, 50], 28, [78, 40, 51, 62], .null, []),
  (40, .iload_n 3, 1, [3], .null, []),
  (41, .iconst 2, 1, [], .int 2, []),
  (42, .if_icmp .le 7, 3, [49], .null, []),
  (45, .iconst 1, 1, [], .int 1, []),
  (46, .goto 4, 3, [50], .null, []),
  (49, .iconst 0, 1, [], .int 0, []),
  (50, .ireturn, 1, [], .null, []),
  (51, .iload_n 3, 1, [3], .null, []),
  (52, .iconst 5, 1, [], .int 5, []),
  (53, .if_icmp .le 7, 3, [60], .null, []),
  (56, .iconst 1, 1, [], .int 1, []),
  (57, .goto 4, 3, [61], .null, []),
  (60, .iconst 0, 1, [], .int 0, []),
  (61, .ireturn, 1, [], .null, []),
  (62, .iload_n 3, 1, [3], .null, []),
  (63, .iconst 1, 1, [], .int 1, []),
  (64, .if_icmp .lt 12, 3, [76], .null, []),
  (67, .iload_n 3, 1, [3], .null, []),
  (68, .iconst 4, 1, [], .int 4, []),
  (69, .if_icmp .gt 7, 3, [76], .null, []),
  (72, .iconst 1, 1, [], .int 1, []),
  (73, .goto 4, 3, [77], .null, []),
  (76, .iconst 0, 1, [], .int 0, []),
  (77, .ireturn, 1, [], .null, []),
  (78, .iconst 1, 1, [], .int 1, []),
  (79, .ireturn, 1, [], .null, [])]
abbrev kX0_may : Nat := 3
abbrev zq_m3 : zq_T := (yX0_may, cX0_may, 4, (some .boolean), zq_c3, (0, 0), [529, 84, 527, 528])
def zq_c4 : List zq_I := [
  (0, .iconst 2, 1, [], .int 2, []),
  (1, .iload_n 2, 1, [2], .null, []),
  (2, .imul, 1, [], .null, []),
  (3, .istore_n 3, 1, [3], .null, []),
  (4, .iload_n 3, 1, [3], .null, []),
  (5, .aload_n 0, 1, [0], .null, []),
  (6, .getfield 15, 3, [0, 1, 2, 10, 13, 180], .null, []),
  (9, .iload_n 1, 1, [1], .null, []),
  (10, .iaload, 1, [], .null, []),
  (11, .iadd, 1, [], .null, []),
  (12, .istore 4, 2, [4], .null, []),
  (14, .iload 4, 2, [4], .null, []),
  (16, .iconst 4, 1, [], .int 4, []),
  (17, .idiv, 1, [], .null, []),
  (18, .istore 5, 2, [5], .null, []),
  (20, .aload_n 0, 1, [0], .null, []),
  (21, .getfield 9, 3, [0, 0, 2, 10, 12, 178], .null, []),
  (24, .iload_n 1, 1, [1], .null, []),
  (25, .iaload, 1, [], .null, []),
  (26, .tableswitch 54 1 5 #[34, 37, 40, 47, 52], 34, [80, 60, 63, 66, 73, 78], .null, []),
  (60, .iload 4, 2, [4], .null, []),
  (62, .ireturn, 1, [], .null, []),
  (63, .iload 5, 2, [5], .null, []),
  (65, .ireturn, 1, [], .null, []),
  (66, .aload_n 0, 1, [0], .null, []),
  (67, .getfield 15, 3, [0, 1, 2, 10, 13, 180], .null, []),
  (70, .iload_n 1, 1, [1], .null, []),
  (71, .iaload, 1, [], .null, []),
  (72, .ireturn, 1, [], .null, []),
  (73, .iload 5, 2, [5], .null, []),
  (75, .iconst 2, 1, [], .int 2, []),
  (76, .idiv, 1, [], .null, []),
  (77, .ireturn, 1, [], .null, []),
  (78, .iconst 0, 1, [], .int 0, []),
  (79, .ireturn, 1, [], .null, []),
  (80, .iload_n 3, 1, [3], .null, []),
  (81, .ireturn, 1, [], .null, [])]
abbrev kX0_drag : Nat := 4
abbrev zq_m4 : zq_T := (yX0_drag, cX0_drag, 6, (some .int), zq_c4, (0, 0), [536, 84, 534, 535])
def zq_c5 : List zq_I := [
  (0, .aload_n 0, 1, [0], .null, []),
  (1, .getfield 9, 3, [0, 0, 2, 10, 12, 178], .null, []),
  (4, .iload_n 1, 1, [1], .null, []),
  (5, .iaload, 1, [], .null, []),
  (6, .iconst 5, 1, [], .int 5, []),
  (7, .if_icmp .ne 24, 3, [31], .null, []),
  (10, .aload_n 0, 1, [0], .null, []),
  (11, .getfield 15, 3, [0, 1, 2, 10, 13, 180], .null, []),
  (14, .iload_n 1, 1, [1], .null, []),
  (15, .iaload, 1, [], .null, []),
  (16, .iload_n 2, 1, [2], .null, []),
  (17, .iconst 5, 1, [], .int 5, []),
  (18, .idiv, 1, [], .null, []),
  (19, .if_icmp .le 7, 3, [26], .null, []),
  (22, .iconst 1, 1, [], .int 1, []),
  (23, .goto 4, 3, [27], .null, []),
  (26, .iconst 0, 1, [], .int 0, []),
  (27, .invokestatic 22, 3, [8, 125, 1, 1, 8, 11, 1, 0, 0], .null, []),
  (30, .ireturn, 1, [], .null, []),
  (31, .iconst 0, 1, [], .int 0, []),
  (32, .iload_n 3, 1, [3], .null, []),
  (33, .aload_n 0, 1, [0], .null, []),
  (34, .iload_n 1, 1, [1], .null, []),
  (35, .iload_n 2, 1, [2], .null, []),
  (36, .invokevirtual 26, 3, [1, 4, 2, 6, 547, 0, 1, 0, 0], .null, []),
  (39, .isub, 1, [], .null, []),
  (40, .bipush 10, 2, [], .int 10, []),
  (42, .idiv, 1, [], .null, []),
  (43, .invokestatic 30, 3, [2, 548], .null, []),
  (46, .istore 4, 2, [4], .null, []),
  (48, .aload_n 0, 1, [0], .null, []),
  (49, .getfield 9, 3, [0, 0, 2, 10, 12, 178], .null, []),
  (52, .iload_n 1, 1, [1], .null, []),
  (53, .iaload, 1, [], .null, []),
  (54, .iconst 3, 1, [], .int 3, []),
  (55, .if_icmp .ne 11, 3, [66], .null, []),
  (58, .bipush 9, 2, [], .int 9, []),
  (60, .iload 4, 2, [4], .null, []),
  (62, .invokestatic 35, 3, [3, 549], .null, []),
  (65, .ireturn, 1, [], .null, []),
  (66, .aload_n 0, 1, [0], .null, []),
  (67, .getfield 9, 3, [0, 0, 2, 10, 12, 178], .null, []),
  (70, .iload_n 1, 1, [1], .null, []),
  (71, .iaload, 1, [], .null, []),
  (72, .iconst 4, 1, [], .int 4, []),
  (73, .if_icmp .ne 13, 3, [86], .null, []),
  (76, .iload 4, 2, [4], .null, []),
  (78, .ifCond .le 8, 3, [86], .null, []),
  (81, .iload 4, 2, [4], .null, []),
  (83, .iconst 1, 1, [], .int 1, []),
  (84, .iadd, 1, [], .null, []),
  (85, .ireturn, 1, [], .null, []),
  (86, .iload 4, 2, [4], .null, []),
  (88, .ireturn, 1, [], .null, [])]
abbrev kX0_barePush : Nat := 5
abbrev zq_m5 : zq_T := (yX0_barePush, cX0_barePush, 5, (some .int), zq_c5, (0, 0), [545, 84, 543, 544])
def zq_c6 : List zq_I := [
  (0, .aload_n 0, 1, [0], .null, []),
  (1, .getfield 9, 3, [0, 0, 2, 10, 12, 178], .null, []),
  (4, .iload_n 1, 1, [1], .null, []),
  (5, .iaload, 1, [], .null, []),
  (6, .iconst 5, 1, [], .int 5, []),
  (7, .if_icmp .ne 7, 3, [14], .null, []),
  (10, .iconst 1, 1, [], .int 1, []),
  (11, .goto 4, 3, [15], .null, []),
  (14, .iload_n 2, 1, [2], .null, []),
  (15, .ireturn, 1, [], .null, [])]
abbrev kX0_wayOf : Nat := 6
abbrev zq_m6 : zq_T := (yX0_wayOf, cX0_wayOf, 3, (some .int), zq_c6, (0, 0), [744, 84, 742, 743])
def zq_c7 : List zq_I := [
  (0, .aload_n 0, 1, [0], .null, []),
  (1, .invokespecial 3, 3, [0, 401], .null, []),
  (4, .aload_n 0, 1, [0], .null, []),
  (5, .bipush 100, 2, [], .int 100, []),
  (7, .newarray .int, 2, [137], .null, []),
  (9, .putfield 9, 3, [1, 0, 2, 41, 43, 402], .null, []),
  (12, .aload_n 0, 1, [0], .null, []),
  (13, .bipush 100, 2, [], .int 100, []),
  (15, .newarray .int, 2, [137], .null, []),
  (17, .putfield 15, 3, [1, 1, 2, 41, 44, 404], .null, []),
  (20, .aload_n 0, 1, [0], .null, []),
  (21, .aload_n 1, 1, [1], .null, []),
  (22, .putfield 18, 3, [1, 2, 2, 41, 6, 406], .null, []),
  (25, .aload_n 0, 1, [0], .null, []),
  (26, .aload_n 2, 1, [2], .null, []),
  (27, .putfield 22, 3, [1, 3, 2, 41, 25, 407], .null, []),
  (30, .return_, 1, [], .null, [])]
abbrev kX1_init : Nat := 7
abbrev zq_m7 : zq_T := (yX1_init, cX1_init, 3, none, zq_c7, (2, 200), [400, 93, 399, 0])
def zq_c8 : List zq_I := [
  (0, .iconst 0, 1, [], .int 0, []),
  (1, .istore_n 2, 1, [2], .null, []),
  (2, .iload_n 2, 1, [2], .null, [true, true, true, false]),
  (3, .bipush 99, 2, [], .int 99, []),
  (5, .if_icmp .gt 31, 3, [36], .null, []),
  (8, .aload_n 0, 1, [0], .null, []),
  (9, .getfield 9, 3, [1, 0, 2, 41, 43, 402], .null, []),
  (12, .iload_n 2, 1, [2], .null, []),
  (13, .iload_n 2, 1, [2], .null, []),
  (14, .ifCond .ne 7, 3, [21], .null, []),
  (17, .iconst 0, 1, [], .int 0, []),
  (18, .goto 4, 3, [22], .null, []),
  (21, .iconst (-1), 1, [], .int (-1), []),
  (22, .iastore, 1, [], .null, []),
  (23, .aload_n 0, 1, [0], .null, []),
  (24, .getfield 15, 3, [1, 1, 2, 41, 44, 404], .null, []),
  (27, .iload_n 2, 1, [2], .null, []),
  (28, .iconst 0, 1, [], .int 0, []),
  (29, .iastore, 1, [], .null, []),
  (30, .iinc 2 1, 3, [2], .int 1, []),
  (33, .goto (-31), 3, [2], .null, []),
  (36, .iconst 0, 1, [], .int 0, []),
  (37, .istore_n 2, 1, [2], .null, []),
  (38, .iload_n 2, 1, [2], .null, [true, true, true, false]),
  (39, .aload_n 0, 1, [0], .null, []),
  (40, .getfield 18, 3, [1, 2, 2, 41, 6, 406], .null, []),
  (43, .getfield 26, 3, [2, 4, 0, 5, 0, 158], .null, []),
  (46, .if_icmp .ge 39, 3, [85], .null, []),
  (49, .iload_n 2, 1, [2], .null, []),
  (50, .bipush 12, 2, [], .int 12, []),
  (52, .if_icmp .ge 33, 3, [85], .null, []),
  (55, .aload_n 0, 1, [0], .null, []),
  (56, .iload_n 2, 1, [2], .null, []),
  (57, .iconst 3, 1, [], .int 3, []),
  (58, .aload_n 0, 1, [0], .null, []),
  (59, .getfield 18, 3, [1, 2, 2, 41, 6, 406], .null, []),
  (62, .getfield 32, 3, [2, 1, 2, 5, 8, 149], .null, []),
  (65, .iload_n 2, 1, [2], .null, []),
  (66, .iaload, 1, [], .null, []),
  (67, .iadd, 1, [], .null, []),
  (68, .aload_n 0, 1, [0], .null, []),
  (69, .getfield 22, 3, [1, 3, 2, 41, 25, 407], .null, []),
  (72, .iload_n 2, 1, [2], .null, []),
  (73, .invokevirtual 35, 3, [1, 26, 1, 2, 937, 4, 1, 0, 0], .null, []),
  (76, .invokevirtual 41, 3, [1, 9, 3, 6, 941, 1, 0, 0, 0], .null, []),
  (79, .iinc 2 1, 3, [2], .int 1, []),
  (82, .goto (-44), 3, [38], .null, []),
  (85, .iconst 0, 1, [], .int 0, []),
  (86, .istore_n 2, 1, [2], .null, []),
  (87, .iconst 1, 1, [], .int 1, []),
  (88, .istore_n 3, 1, [3], .null, []),
  (89, .iload_n 3, 1, [3], .null, [true, true, true, true]),
  (90, .iload_n 1, 1, [1], .null, []),
  (91, .if_icmp .gt 26, 3, [117], .null, []),
  (94, .aload_n 0, 1, [0], .null, []),
  (95, .getfield 9, 3, [1, 0, 2, 41, 43, 402], .null, []),
  (98, .iload_n 3, 1, [3], .null, []),
  (99, .iaload, 1, [], .null, []),
  (100, .aload_n 0, 1, [0], .null, []),
  (101, .getfield 9, 3, [1, 0, 2, 41, 43, 402], .null, []),
  (104, .iload_n 2, 1, [2], .null, []),
  (105, .iaload, 1, [], .null, []),
  (106, .if_icmp .le 5, 3, [111], .null, []),
  (109, .iload_n 3, 1, [3], .null, []),
  (110, .istore_n 2, 1, [2], .null, []),
  (111, .iinc 3 1, 3, [3], .int 1, []),
  (114, .goto (-25), 3, [89], .null, []),
  (117, .iload_n 2, 1, [2], .null, []),
  (118, .ireturn, 1, [], .null, [])]
abbrev kX1_bestCoin : Nat := 8
abbrev zq_m8 : zq_T := (yX1_bestCoin, cX1_bestCoin, 4, (some .int), zq_c8, (0, 0), [936, 93, 934, 935])
def zq_c9 : List zq_I := [
  (0, .bipush 99, 2, [], .int 99, []),
  (2, .istore 4, 2, [4], .null, []),
  (4, .iload 4, 2, [4], .null, [true, true, true, true, true, false]),
  (6, .iload_n 2, 1, [2], .null, []),
  (7, .if_icmp .lt 71, 3, [78], .null, []),
  (10, .aload_n 0, 1, [0], .null, []),
  (11, .getfield 9, 3, [1, 0, 2, 41, 43, 402], .null, []),
  (14, .iload 4, 2, [4], .null, []),
  (16, .iload_n 2, 1, [2], .null, []),
  (17, .isub, 1, [], .null, []),
  (18, .iaload, 1, [], .null, []),
  (19, .istore 5, 2, [5], .null, []),
  (21, .iload 5, 2, [5], .null, []),
  (23, .iconst (-1), 1, [], .int (-1), []),
  (24, .if_icmp .eq 48, 3, [72], .null, []),
  (27, .iload 5, 2, [5], .null, []),
  (29, .iload_n 3, 1, [3], .null, []),
  (30, .iadd, 1, [], .null, []),
  (31, .aload_n 0, 1, [0], .null, []),
  (32, .getfield 9, 3, [1, 0, 2, 41, 43, 402], .null, []),
  (35, .iload 4, 2, [4], .null, []),
  (37, .iaload, 1, [], .null, []),
  (38, .if_icmp .le 34, 3, [72], .null, []),
  (41, .aload_n 0, 1, [0], .null, []),
  (42, .getfield 9, 3, [1, 0, 2, 41, 43, 402], .null, []),
  (45, .iload 4, 2, [4], .null, []),
  (47, .iload 5, 2, [5], .null, []),
  (49, .iload_n 3, 1, [3], .null, []),
  (50, .iadd, 1, [], .null, []),
  (51, .iastore, 1, [], .null, []),
  (52, .aload_n 0, 1, [0], .null, []),
  (53, .getfield 15, 3, [1, 1, 2, 41, 44, 404], .null, []),
  (56, .iload 4, 2, [4], .null, []),
  (58, .aload_n 0, 1, [0], .null, []),
  (59, .getfield 15, 3, [1, 1, 2, 41, 44, 404], .null, []),
  (62, .iload 4, 2, [4], .null, []),
  (64, .iload_n 2, 1, [2], .null, []),
  (65, .isub, 1, [], .null, []),
  (66, .iaload, 1, [], .null, []),
  (67, .iconst 1, 1, [], .int 1, []),
  (68, .iload_n 1, 1, [1], .null, []),
  (69, .ishl, 1, [], .null, []),
  (70, .ior, 1, [], .null, []),
  (71, .iastore, 1, [], .null, []),
  (72, .iinc 4 (-1), 3, [4], .int (-1), []),
  (75, .goto (-71), 3, [4], .null, []),
  (78, .return_, 1, [], .null, [])]
abbrev kX1_offer : Nat := 9
abbrev zq_m9 : zq_T := (yX1_offer, cX1_offer, 6, none, zq_c9, (0, 0), [944, 93, 943, 23])
def zq_c10 : List zq_I := [
  (0, .aload_n 0, 1, [0], .null, []),
  (1, .invokespecial 3, 3, [0, 143], .null, []),
  (4, .aload_n 0, 1, [0], .null, []),
  (5, .bipush 60, 2, [], .int 60, []),
  (7, .newarray .int, 2, [137], .null, []),
  (9, .putfield 9, 3, [2, 0, 2, 5, 7, 144], .null, []),
  (12, .aload_n 0, 1, [0], .null, []),
  (13, .bipush 60, 2, [], .int 60, []),
  (15, .newarray .int, 2, [137], .null, []),
  (17, .putfield 15, 3, [2, 1, 2, 5, 8, 147], .null, []),
  (20, .aload_n 0, 1, [0], .null, []),
  (21, .bipush 60, 2, [], .int 60, []),
  (23, .newarray .int, 2, [137], .null, []),
  (25, .putfield 18, 3, [2, 2, 2, 5, 9, 151], .null, []),
  (28, .aload_n 0, 1, [0], .null, []),
  (29, .bipush 60, 2, [], .int 60, []),
  (31, .newarray .int, 2, [137], .null, []),
  (33, .putfield 21, 3, [2, 3, 2, 5, 10, 155], .null, []),
  (36, .return_, 1, [], .null, [])]
abbrev kX2_init : Nat := 10
abbrev zq_m10 : zq_T := (yX2_init, cX2_init, 1, none, zq_c10, (4, 240), [142, 83, 141, 0])
def zq_c11 : List zq_I := [
  (0, .iload_n 1, 1, [1], .null, []),
  (1, .ifCond .lt 15, 3, [16], .null, []),
  (4, .iload_n 1, 1, [1], .null, []),
  (5, .aload_n 0, 1, [0], .null, []),
  (6, .getfield 24, 3, [2, 4, 0, 5, 0, 157], .null, []),
  (9, .if_icmp .ge 7, 3, [16], .null, []),
  (12, .iconst 1, 1, [], .int 1, []),
  (13, .goto 4, 3, [17], .null, []),
  (16, .iconst 0, 1, [], .int 0, []),
  (17, .ireturn, 1, [], .null, [])]
abbrev kX2_has : Nat := 11
abbrev zq_m11 : zq_T := (yX2_has, cX2_has, 2, (some .boolean), zq_c11, (0, 0), [525, 83, 523, 524])
def zq_c12 : List zq_I := [
  (0, .iload_n 1, 1, [1], .null, []),
  (1, .ifCond .lt 40, 3, [41], .null, []),
  (4, .aload_n 0, 1, [0], .null, []),
  (5, .iload_n 1, 1, [1], .null, []),
  (6, .bipush 100, 2, [], .int 100, []),
  (8, .idiv, 1, [], .null, []),
  (9, .invokevirtual 28, 3, [1, 11, 1, 2, 731, 2, 1, 0, 0], .null, []),
  (12, .ifCond .eq 29, 3, [41], .null, []),
  (15, .aload_n 0, 1, [0], .null, []),
  (16, .iload_n 1, 1, [1], .null, []),
  (17, .bipush 100, 2, [], .int 100, []),
  (19, .irem, 1, [], .null, []),
  (20, .invokevirtual 28, 3, [1, 11, 1, 2, 731, 2, 1, 0, 0], .null, []),
  (23, .ifCond .eq 18, 3, [41], .null, []),
  (26, .iload_n 1, 1, [1], .null, []),
  (27, .bipush 100, 2, [], .int 100, []),
  (29, .idiv, 1, [], .null, []),
  (30, .iload_n 1, 1, [1], .null, []),
  (31, .bipush 100, 2, [], .int 100, []),
  (33, .irem, 1, [], .null, []),
  (34, .if_icmp .gt 7, 3, [41], .null, []),
  (37, .iconst 1, 1, [], .int 1, []),
  (38, .goto 4, 3, [42], .null, []),
  (41, .iconst 0, 1, [], .int 0, []),
  (42, .ireturn, 1, [], .null, [])]
abbrev kX2_hasSpan : Nat := 12
abbrev zq_m12 : zq_T := (yX2_hasSpan, cX2_hasSpan, 2, (some .boolean), zq_c12, (0, 0), [730, 83, 728, 729])
def zq_c13 : List zq_I := [
  (0, .iload_n 1, 1, [1], .null, []),
  (1, .ifCond .lt 21, 3, [22], .null, []),
  (4, .iload_n 1, 1, [1], .null, []),
  (5, .sipush 10000, 3, [], .int 10000, []),
  (8, .idiv, 1, [], .null, []),
  (9, .bipush 9, 2, [], .int 9, []),
  (11, .if_icmp .gt 11, 3, [22], .null, []),
  (14, .iload_n 1, 1, [1], .null, []),
  (15, .bipush 10, 2, [], .int 10, []),
  (17, .irem, 1, [], .null, []),
  (18, .iconst 3, 1, [], .int 3, []),
  (19, .if_icmp .le 6, 3, [25], .null, []),
  (22, .bipush (-2), 2, [], .int (-2), []),
  (24, .ireturn, 1, [], .null, []),
  (25, .aload_n 0, 1, [0], .null, []),
  (26, .getfield 24, 3, [2, 4, 0, 5, 0, 157], .null, []),
  (29, .bipush 60, 2, [], .int 60, []),
  (31, .if_icmp .lt 6, 3, [37], .null, []),
  (34, .bipush (-4), 2, [], .int (-4), []),
  (36, .ireturn, 1, [], .null, []),
  (37, .aload_n 0, 1, [0], .null, []),
  (38, .getfield 9, 3, [2, 0, 2, 5, 7, 144], .null, []),
  (41, .aload_n 0, 1, [0], .null, []),
  (42, .getfield 24, 3, [2, 4, 0, 5, 0, 157], .null, []),
  (45, .iload_n 1, 1, [1], .null, []),
  (46, .sipush 10000, 3, [], .int 10000, []),
  (49, .idiv, 1, [], .null, []),
  (50, .iastore, 1, [], .null, []),
  (51, .aload_n 0, 1, [0], .null, []),
  (52, .getfield 15, 3, [2, 1, 2, 5, 8, 147], .null, []),
  (55, .aload_n 0, 1, [0], .null, []),
  (56, .getfield 24, 3, [2, 4, 0, 5, 0, 157], .null, []),
  (59, .iload_n 1, 1, [1], .null, []),
  (60, .sipush 1000, 3, [], .int 1000, []),
  (63, .idiv, 1, [], .null, []),
  (64, .bipush 10, 2, [], .int 10, []),
  (66, .irem, 1, [], .null, []),
  (67, .iastore, 1, [], .null, []),
  (68, .aload_n 0, 1, [0], .null, []),
  (69, .getfield 18, 3, [2, 2, 2, 5, 9, 151], .null, []),
  (72, .aload_n 0, 1, [0], .null, []),
  (73, .getfield 24, 3, [2, 4, 0, 5, 0, 157], .null, []),
  (76, .iload_n 1, 1, [1], .null, []),
  (77, .bipush 10, 2, [], .int 10, []),
  (79, .idiv, 1, [], .null, []),
  (80, .bipush 100, 2, [], .int 100, []),
  (82, .irem, 1, [], .null, []),
  (83, .iastore, 1, [], .null, []),
  (84, .aload_n 0, 1, [0], .null, []),
  (85, .getfield 21, 3, [2, 3, 2, 5, 10, 155], .null, []),
  (88, .aload_n 0, 1, [0], .null, []),
  (89, .getfield 24, 3, [2, 4, 0, 5, 0, 157], .null, []),
  (92, .iload_n 1, 1, [1], .null, []),
  (93, .bipush 10, 2, [], .int 10, []),
  (95, .irem, 1, [], .null, []),
  (96, .iastore, 1, [], .null, []),
  (97, .aload_n 0, 1, [0], .null, []),
  (98, .dup, 1, [], .null, []),
  (99, .getfield 24, 3, [2, 4, 0, 5, 0, 157], .null, []),
  (102, .iconst 1, 1, [], .int 1, []),
  (103, .iadd, 1, [], .null, []),
  (104, .putfield 24, 3, [2, 4, 0, 5, 0, 157], .null, []),
  (107, .aload_n 0, 1, [0], .null, []),
  (108, .getfield 24, 3, [2, 4, 0, 5, 0, 157], .null, []),
  (111, .iconst 1, 1, [], .int 1, []),
  (112, .isub, 1, [], .null, []),
  (113, .ireturn, 1, [], .null, [])]
abbrev kX2_come : Nat := 13
abbrev zq_m13 : zq_T := (yX2_come, cX2_come, 2, (some .int), zq_c13, (0, 0), [494, 83, 492, 493])
def zq_c14 : List zq_I := [
  (0, .aload_n 0, 1, [0], .null, []),
  (1, .invokespecial 3, 3, [0, 381], .null, []),
  (4, .aload_n 0, 1, [0], .null, []),
  (5, .bipush 8, 2, [], .int 8, []),
  (7, .newarray .int, 2, [137], .null, []),
  (9, .putfield 9, 3, [3, 0, 2, 38, 40, 382], .null, []),
  (12, .aload_n 0, 1, [0], .null, []),
  (13, .bipush 8, 2, [], .int 8, []),
  (15, .newarray .int, 2, [137], .null, []),
  (17, .putfield 15, 3, [3, 1, 2, 38, 41, 383], .null, []),
  (20, .return_, 1, [], .null, [])]
abbrev kX3_init : Nat := 14
abbrev zq_m14 : zq_T := (yX3_init, cX3_init, 1, none, zq_c14, (2, 16), [380, 92, 379, 0])
def zq_c15 : List zq_I := [
  (0, .aload_n 0, 1, [0], .null, []),
  (1, .getfield 18, 3, [3, 2, 0, 38, 0, 384], .null, []),
  (4, .bipush 8, 2, [], .int 8, []),
  (6, .if_icmp .lt 6, 3, [12], .null, []),
  (9, .bipush (-4), 2, [], .int (-4), []),
  (11, .ireturn, 1, [], .null, []),
  (12, .aload_n 0, 1, [0], .null, []),
  (13, .getfield 9, 3, [3, 0, 2, 38, 40, 382], .null, []),
  (16, .aload_n 0, 1, [0], .null, []),
  (17, .getfield 18, 3, [3, 2, 0, 38, 0, 384], .null, []),
  (20, .iload_n 1, 1, [1], .null, []),
  (21, .bipush 64, 2, [], .int 64, []),
  (23, .irem, 1, [], .null, []),
  (24, .iastore, 1, [], .null, []),
  (25, .aload_n 0, 1, [0], .null, []),
  (26, .getfield 15, 3, [3, 1, 2, 38, 41, 383], .null, []),
  (29, .aload_n 0, 1, [0], .null, []),
  (30, .getfield 18, 3, [3, 2, 0, 38, 0, 384], .null, []),
  (33, .iload_n 1, 1, [1], .null, []),
  (34, .bipush 64, 2, [], .int 64, []),
  (36, .idiv, 1, [], .null, []),
  (37, .iastore, 1, [], .null, []),
  (38, .aload_n 0, 1, [0], .null, []),
  (39, .dup, 1, [], .null, []),
  (40, .getfield 18, 3, [3, 2, 0, 38, 0, 384], .null, []),
  (43, .iconst 1, 1, [], .int 1, []),
  (44, .iadd, 1, [], .null, []),
  (45, .putfield 18, 3, [3, 2, 0, 38, 0, 384], .null, []),
  (48, .aload_n 0, 1, [0], .null, []),
  (49, .getfield 18, 3, [3, 2, 0, 38, 0, 384], .null, []),
  (52, .ireturn, 1, [], .null, [])]
abbrev kX3_put : Nat := 15
abbrev zq_m15 : zq_T := (yX3_put, cX3_put, 2, (some .int), zq_c15, (0, 0), [834, 92, 832, 833])
def zq_c16 : List zq_I := [
  (0, .aload_n 0, 1, [0], .null, []),
  (1, .aload_n 0, 1, [0], .null, []),
  (2, .getfield 9, 3, [3, 0, 2, 38, 40, 382], .null, []),
  (5, .iload_n 1, 1, [1], .null, []),
  (6, .bipush 64, 2, [], .int 64, []),
  (8, .irem, 1, [], .null, []),
  (9, .iload_n 2, 1, [2], .null, []),
  (10, .invokevirtual 22, 3, [1, 17, 3, 8, 846, 3, 1, 0, 0], .null, []),
  (13, .ifCond .eq 23, 3, [36], .null, []),
  (16, .aload_n 0, 1, [0], .null, []),
  (17, .aload_n 0, 1, [0], .null, []),
  (18, .getfield 15, 3, [3, 1, 2, 38, 41, 383], .null, []),
  (21, .iload_n 1, 1, [1], .null, []),
  (22, .bipush 64, 2, [], .int 64, []),
  (24, .idiv, 1, [], .null, []),
  (25, .iload_n 2, 1, [2], .null, []),
  (26, .invokevirtual 22, 3, [1, 17, 3, 8, 846, 3, 1, 0, 0], .null, []),
  (29, .ifCond .eq 7, 3, [36], .null, []),
  (32, .iconst 1, 1, [], .int 1, []),
  (33, .goto 4, 3, [37], .null, []),
  (36, .iconst 0, 1, [], .int 0, []),
  (37, .ireturn, 1, [], .null, [])]
abbrev kX3_hold : Nat := 16
abbrev zq_m16 : zq_T := (yX3_hold, cX3_hold, 3, (some .boolean), zq_c16, (0, 0), [845, 92, 843, 844])
def zq_c17 : List zq_I := [
  (0, .iconst 0, 1, [], .int 0, []),
  (1, .istore 4, 2, [4], .null, []),
  (3, .iconst 0, 1, [], .int 0, []),
  (4, .istore 5, 2, [5], .null, []),
  (6, .iconst 0, 1, [], .int 0, []),
  (7, .istore 6, 2, [6], .null, []),
  (9, .iload 6, 2, [6], .null, [true, true, true, true, true, true, true, false]),
  (11, .aload_n 0, 1, [0], .null, []),
  (12, .getfield 18, 3, [3, 2, 0, 38, 0, 384], .null, []),
  (15, .if_icmp .ge 64, 3, [79], .null, []),
  (18, .aload_n 1, 1, [1], .null, []),
  (19, .iload 6, 2, [6], .null, []),
  (21, .iaload, 1, [], .null, []),
  (22, .iload_n 2, 1, [2], .null, []),
  (23, .isub, 1, [], .null, []),
  (24, .istore 7, 2, [7], .null, []),
  (26, .iload 4, 2, [4], .null, []),
  (28, .ifCond .ne 15, 3, [43], .null, []),
  (31, .iload 7, 2, [7], .null, []),
  (33, .ifCond .ge 14, 3, [47], .null, []),
  (36, .iload 7, 2, [7], .null, []),
  (38, .ineg, 1, [], .null, []),
  (39, .iload_n 3, 1, [3], .null, []),
  (40, .if_icmp .gt 7, 3, [47], .null, []),
  (43, .iconst 1, 1, [], .int 1, []),
  (44, .goto 4, 3, [48], .null, []),
  (47, .iconst 0, 1, [], .int 0, []),
  (48, .istore 4, 2, [4], .null, [true, true, true, true, false, true, true, true]),
  (50, .iload 5, 2, [5], .null, []),
  (52, .ifCond .ne 14, 3, [66], .null, []),
  (55, .iload 7, 2, [7], .null, []),
  (57, .ifCond .le 13, 3, [70], .null, []),
  (60, .iload 7, 2, [7], .null, []),
  (62, .iload_n 3, 1, [3], .null, []),
  (63, .if_icmp .gt 7, 3, [70], .null, []),
  (66, .iconst 1, 1, [], .int 1, []),
  (67, .goto 4, 3, [71], .null, []),
  (70, .iconst 0, 1, [], .int 0, []),
  (71, .istore 5, 2, [5], .null, []),
  (73, .iinc 6 1, 3, [6], .int 1, []),
  (76, .goto (-67), 3, [9], .null, []),
  (79, .iload 4, 2, [4], .null, []),
  (81, .ifCond .eq 12, 3, [93], .null, []),
  (84, .iload 5, 2, [5], .null, []),
  (86, .ifCond .eq 7, 3, [93], .null, []),
  (89, .iconst 1, 1, [], .int 1, []),
  (90, .goto 4, 3, [94], .null, []),
  (93, .iconst 0, 1, [], .int 0, []),
  (94, .ireturn, 1, [], .null, [])]
abbrev kX3_onBothSides : Nat := 17
abbrev zq_m17 : zq_T := (yX3_onBothSides, cX3_onBothSides, 8, (some .boolean), zq_c17, (0, 0), [849, 92, 848, 17])
def zq_c18 : List zq_I := [
  (0, .aload_n 0, 1, [0], .null, []),
  (1, .aload_n 0, 1, [0], .null, []),
  (2, .getfield 9, 3, [3, 0, 2, 38, 40, 382], .null, []),
  (5, .iload_n 1, 1, [1], .null, []),
  (6, .bipush 64, 2, [], .int 64, []),
  (8, .irem, 1, [], .null, []),
  (9, .invokevirtual 26, 3, [1, 19, 2, 6, 858, 3, 1, 0, 0], .null, []),
  (12, .ifCond .ne 18, 3, [30], .null, []),
  (15, .aload_n 0, 1, [0], .null, []),
  (16, .aload_n 0, 1, [0], .null, []),
  (17, .getfield 15, 3, [3, 1, 2, 38, 41, 383], .null, []),
  (20, .iload_n 1, 1, [1], .null, []),
  (21, .bipush 64, 2, [], .int 64, []),
  (23, .idiv, 1, [], .null, []),
  (24, .invokevirtual 26, 3, [1, 19, 2, 6, 858, 3, 1, 0, 0], .null, []),
  (27, .ifCond .eq 7, 3, [34], .null, []),
  (30, .iconst 1, 1, [], .int 1, []),
  (31, .goto 4, 3, [35], .null, []),
  (34, .iconst 0, 1, [], .int 0, []),
  (35, .ireturn, 1, [], .null, [])]
abbrev kX3_isBeyond : Nat := 18
abbrev zq_m18 : zq_T := (yX3_isBeyond, cX3_isBeyond, 2, (some .boolean), zq_c18, (0, 0), [857, 92, 855, 856])
def zq_c19 : List zq_I := [
  (0, .iconst 1, 1, [], .int 1, []),
  (1, .istore_n 3, 1, [3], .null, []),
  (2, .iconst 1, 1, [], .int 1, []),
  (3, .istore 4, 2, [4], .null, []),
  (5, .iconst 0, 1, [], .int 0, []),
  (6, .istore 5, 2, [5], .null, []),
  (8, .iload 5, 2, [5], .null, [true, true, true, true, true, true]),
  (10, .aload_n 0, 1, [0], .null, []),
  (11, .getfield 18, 3, [3, 2, 0, 38, 0, 384], .null, []),
  (14, .if_icmp .ge 47, 3, [61], .null, []),
  (17, .iload_n 3, 1, [3], .null, []),
  (18, .ifCond .eq 15, 3, [33], .null, []),
  (21, .iload_n 2, 1, [2], .null, []),
  (22, .aload_n 1, 1, [1], .null, []),
  (23, .iload 5, 2, [5], .null, []),
  (25, .iaload, 1, [], .null, []),
  (26, .if_icmp .ge 7, 3, [33], .null, []),
  (29, .iconst 1, 1, [], .int 1, []),
  (30, .goto 4, 3, [34], .null, []),
  (33, .iconst 0, 1, [], .int 0, []),
  (34, .istore_n 3, 1, [3], .null, [true, true, true, false, true, true]),
  (35, .iload 4, 2, [4], .null, []),
  (37, .ifCond .eq 15, 3, [52], .null, []),
  (40, .iload_n 2, 1, [2], .null, []),
  (41, .aload_n 1, 1, [1], .null, []),
  (42, .iload 5, 2, [5], .null, []),
  (44, .iaload, 1, [], .null, []),
  (45, .if_icmp .le 7, 3, [52], .null, []),
  (48, .iconst 1, 1, [], .int 1, []),
  (49, .goto 4, 3, [53], .null, []),
  (52, .iconst 0, 1, [], .int 0, []),
  (53, .istore 4, 2, [4], .null, []),
  (55, .iinc 5 1, 3, [5], .int 1, []),
  (58, .goto (-50), 3, [8], .null, []),
  (61, .iload_n 3, 1, [3], .null, []),
  (62, .ifCond .ne 8, 3, [70], .null, []),
  (65, .iload 4, 2, [4], .null, []),
  (67, .ifCond .eq 7, 3, [74], .null, []),
  (70, .iconst 1, 1, [], .int 1, []),
  (71, .goto 4, 3, [75], .null, []),
  (74, .iconst 0, 1, [], .int 0, []),
  (75, .ireturn, 1, [], .null, [])]
abbrev kX3_isBeyondRow : Nat := 19
abbrev zq_m19 : zq_T := (yX3_isBeyondRow, cX3_isBeyondRow, 6, (some .boolean), zq_c19, (0, 0), [861, 92, 860, 18])
def zq_c20 : List zq_I := [
  (0, .aload_n 0, 1, [0], .null, []),
  (1, .invokespecial 3, 3, [0, 282], .null, []),
  (4, .aload_n 0, 1, [0], .null, []),
  (5, .aload_n 1, 1, [1], .null, []),
  (6, .putfield 9, 3, [4, 0, 2, 24, 2, 283], .null, []),
  (9, .aload_n 0, 1, [0], .null, []),
  (10, .aload_n 2, 1, [2], .null, []),
  (11, .putfield 15, 3, [4, 1, 2, 24, 6, 284], .null, []),
  (14, .aload_n 0, 1, [0], .null, []),
  (15, .aload_n 3, 1, [3], .null, []),
  (16, .putfield 19, 3, [4, 2, 2, 24, 11, 285], .null, []),
  (19, .aload_n 0, 1, [0], .null, []),
  (20, .aload 4, 2, [4], .null, []),
  (22, .putfield 23, 3, [4, 3, 2, 24, 14, 286], .null, []),
  (25, .return_, 1, [], .null, [])]
abbrev kX4_init : Nat := 20
abbrev zq_m20 : zq_T := (yX4_init, cX4_init, 5, none, zq_c20, (0, 0), [281, 89, 280, 0])
def zq_c21 : List zq_I := [
  (0, .aload_n 0, 1, [0], .null, []),
  (1, .getfield 19, 3, [4, 2, 2, 24, 11, 285], .null, []),
  (4, .iload_n 1, 1, [1], .null, []),
  (5, .aload_n 0, 1, [0], .null, []),
  (6, .getfield 15, 3, [4, 1, 2, 24, 6, 284], .null, []),
  (9, .getfield 27, 3, [2, 0, 2, 5, 7, 145], .null, []),
  (12, .iload_n 3, 1, [3], .null, []),
  (13, .iaload, 1, [], .null, []),
  (14, .aload_n 0, 1, [0], .null, []),
  (15, .getfield 15, 3, [4, 1, 2, 24, 6, 284], .null, []),
  (18, .getfield 33, 3, [2, 1, 2, 5, 8, 148], .null, []),
  (21, .iload_n 3, 1, [3], .null, []),
  (22, .iaload, 1, [], .null, []),
  (23, .invokevirtual 36, 3, [1, 3, 3, 4, 541, 0, 1, 0, 0], .null, []),
  (26, .ifCond .ne 5, 3, [31], .null, []),
  (29, .iconst 0, 1, [], .int 0, []),
  (30, .ireturn, 1, [], .null, []),
  (31, .aload_n 0, 1, [0], .null, []),
  (32, .getfield 9, 3, [4, 0, 2, 24, 2, 283], .null, []),
  (35, .getfield 42, 3, [7, 0, 2, 1, 3, 115], .null, []),
  (38, .iload_n 2, 1, [2], .null, []),
  (39, .iaload, 1, [], .null, []),
  (40, .istore 5, 2, [5], .null, []),
  (42, .aload_n 0, 1, [0], .null, []),
  (43, .getfield 19, 3, [4, 2, 2, 24, 11, 285], .null, []),
  (46, .iload_n 1, 1, [1], .null, []),
  (47, .iload 5, 2, [5], .null, []),
  (49, .iload 4, 2, [4], .null, []),
  (51, .invokevirtual 47, 3, [1, 5, 3, 5, 542, 0, 1, 0, 0], .null, []),
  (54, .istore 6, 2, [6], .null, []),
  (56, .iload 6, 2, [6], .null, []),
  (58, .ifCond .ne 5, 3, [63], .null, []),
  (61, .iconst 0, 1, [], .int 0, []),
  (62, .ireturn, 1, [], .null, []),
  (63, .aload_n 0, 1, [0], .null, []),
  (64, .getfield 23, 3, [4, 3, 2, 24, 14, 286], .null, []),
  (67, .iload 5, 2, [5], .null, []),
  (69, .aload_n 0, 1, [0], .null, []),
  (70, .getfield 19, 3, [4, 2, 2, 24, 11, 285], .null, []),
  (73, .getfield 51, 3, [0, 1, 2, 10, 13, 181], .null, []),
  (76, .iload_n 1, 1, [1], .null, []),
  (77, .iaload, 1, [], .null, []),
  (78, .invokevirtual 54, 3, [1, 68, 2, 3, 550, 8, 0, 0, 0], .null, []),
  (81, .aload_n 0, 1, [0], .null, []),
  (82, .getfield 23, 3, [4, 3, 2, 24, 14, 286], .null, []),
  (85, .iload_n 3, 1, [3], .null, []),
  (86, .aload_n 0, 1, [0], .null, []),
  (87, .getfield 15, 3, [4, 1, 2, 24, 6, 284], .null, []),
  (90, .getfield 27, 3, [2, 0, 2, 5, 7, 145], .null, []),
  (93, .iload_n 3, 1, [3], .null, []),
  (94, .iaload, 1, [], .null, []),
  (95, .aload_n 0, 1, [0], .null, []),
  (96, .getfield 15, 3, [4, 1, 2, 24, 6, 284], .null, []),
  (99, .getfield 33, 3, [2, 1, 2, 5, 8, 148], .null, []),
  (102, .iload_n 3, 1, [3], .null, []),
  (103, .iaload, 1, [], .null, []),
  (104, .iload 4, 2, [4], .null, []),
  (106, .invokevirtual 60, 3, [1, 69, 4, 5, 554, 8, 0, 0, 0], .null, []),
  (109, .iconst 0, 1, [], .int 0, []),
  (110, .iload 6, 2, [6], .null, []),
  (112, .aload_n 0, 1, [0], .null, []),
  (113, .getfield 23, 3, [4, 3, 2, 24, 14, 286], .null, []),
  (116, .iconst 0, 1, [], .int 0, []),
  (117, .invokevirtual 64, 3, [1, 70, 1, 6, 558, 8, 1, 0, 0], .null, []),
  (120, .bipush (-9), 2, [], .int (-9), []),
  (122, .bipush 9, 2, [], .int 9, []),
  (124, .invokestatic 68, 3, [8, 126, 3, 3, 10, 11, 1, 0, 0], .null, []),
  (127, .iadd, 1, [], .null, []),
  (128, .invokestatic 71, 3, [2, 571], .null, []),
  (131, .ireturn, 1, [], .null, [])]
abbrev kX4_squares : Nat := 21
abbrev zq_m21 : zq_T := (yX4_squares, cX4_squares, 7, (some .int), zq_c21, (0, 0), [540, 89, 538, 539])
def zq_c22 : List zq_I := [
  (0, .iconst 0, 1, [], .int 0, []),
  (1, .istore_n 3, 1, [3], .null, []),
  (2, .iload_n 3, 1, [3], .null, [true, true, true, true]),
  (3, .aload_n 0, 1, [0], .null, []),
  (4, .getfield 9, 3, [4, 0, 2, 24, 2, 283], .null, []),
  (7, .getfield 77, 3, [7, 3, 0, 1, 0, 123], .null, []),
  (10, .if_icmp .ge 30, 3, [40], .null, []),
  (13, .aload_n 0, 1, [0], .null, []),
  (14, .iload_n 1, 1, [1], .null, []),
  (15, .iload_n 3, 1, [3], .null, []),
  (16, .iload_n 2, 1, [2], .null, []),
  (17, .aload_n 0, 1, [0], .null, []),
  (18, .getfield 15, 3, [4, 1, 2, 24, 6, 284], .null, []),
  (21, .getfield 81, 3, [2, 2, 2, 5, 9, 153], .null, []),
  (24, .iload_n 2, 1, [2], .null, []),
  (25, .iaload, 1, [], .null, []),
  (26, .invokevirtual 84, 3, [1, 21, 4, 7, 874, 4, 1, 0, 0], .null, []),
  (29, .ifCond .le 5, 3, [34], .null, []),
  (32, .iconst 1, 1, [], .int 1, []),
  (33, .ireturn, 1, [], .null, []),
  (34, .iinc 3 1, 3, [3], .int 1, []),
  (37, .goto (-35), 3, [2], .null, []),
  (40, .iconst 0, 1, [], .int 0, []),
  (41, .ireturn, 1, [], .null, [])]
abbrev kX4_pushesSome : Nat := 22
abbrev zq_m22 : zq_T := (yX4_pushesSome, cX4_pushesSome, 4, (some .boolean), zq_c22, (0, 0), [873, 89, 871, 872])
def zq_c23 : List zq_I := [
  (0, .iconst 0, 1, [], .int 0, []),
  (1, .istore_n 2, 1, [2], .null, []),
  (2, .iconst 0, 1, [], .int 0, []),
  (3, .istore_n 3, 1, [3], .null, []),
  (4, .iload_n 3, 1, [3], .null, [true, true, true, true]),
  (5, .aload_n 0, 1, [0], .null, []),
  (6, .getfield 15, 3, [4, 1, 2, 24, 6, 284], .null, []),
  (9, .getfield 88, 3, [2, 4, 0, 5, 0, 159], .null, []),
  (12, .if_icmp .ge 21, 3, [33], .null, []),
  (15, .iload_n 2, 1, [2], .null, []),
  (16, .aload_n 0, 1, [0], .null, []),
  (17, .iload_n 1, 1, [1], .null, []),
  (18, .iload_n 3, 1, [3], .null, []),
  (19, .invokevirtual 89, 3, [1, 22, 2, 4, 870, 4, 1, 0, 0], .null, []),
  (22, .invokestatic 93, 3, [8, 125, 1, 1, 11, 11, 1, 0, 0], .null, []),
  (25, .iadd, 1, [], .null, []),
  (26, .istore_n 2, 1, [2], .null, []),
  (27, .iinc 3 1, 3, [3], .int 1, []),
  (30, .goto (-26), 3, [4], .null, []),
  (33, .iload_n 2, 1, [2], .null, []),
  (34, .ireturn, 1, [], .null, [])]
abbrev kX4_nightsPushing : Nat := 23
abbrev zq_m23 : zq_T := (yX4_nightsPushing, cX4_nightsPushing, 4, (some .int), zq_c23, (0, 0), [869, 89, 867, 868])
def zq_c24 : List zq_I := [
  (0, .iconst 0, 1, [], .int 0, []),
  (1, .istore_n 2, 1, [2], .null, []),
  (2, .iconst 0, 1, [], .int 0, []),
  (3, .istore_n 3, 1, [3], .null, []),
  (4, .iconst 0, 1, [], .int 0, []),
  (5, .istore 4, 2, [4], .null, []),
  (7, .iload 4, 2, [4], .null, [true, true, true, true, true]),
  (9, .aload_n 0, 1, [0], .null, []),
  (10, .getfield 15, 3, [4, 1, 2, 24, 6, 284], .null, []),
  (13, .getfield 88, 3, [2, 4, 0, 5, 0, 159], .null, []),
  (16, .if_icmp .ge 33, 3, [49], .null, []),
  (19, .aload_n 0, 1, [0], .null, []),
  (20, .iload_n 1, 1, [1], .null, []),
  (21, .iload 4, 2, [4], .null, []),
  (23, .invokevirtual 89, 3, [1, 22, 2, 4, 870, 4, 1, 0, 0], .null, []),
  (26, .ifCond .eq 7, 3, [33], .null, []),
  (29, .iconst 0, 1, [], .int 0, []),
  (30, .goto 6, 3, [36], .null, []),
  (33, .iload_n 3, 1, [3], .null, []),
  (34, .iconst 1, 1, [], .int 1, []),
  (35, .iadd, 1, [], .null, []),
  (36, .istore_n 3, 1, [3], .null, []),
  (37, .iload_n 2, 1, [2], .null, []),
  (38, .iload_n 3, 1, [3], .null, []),
  (39, .invokestatic 71, 3, [2, 571], .null, []),
  (42, .istore_n 2, 1, [2], .null, []),
  (43, .iinc 4 1, 3, [4], .int 1, []),
  (46, .goto (-39), 3, [7], .null, []),
  (49, .iload_n 2, 1, [2], .null, []),
  (50, .ireturn, 1, [], .null, [])]
abbrev kX4_longestRowWithout : Nat := 24
abbrev zq_m24 : zq_T := (yX4_longestRowWithout, cX4_longestRowWithout, 5, (some .int), zq_c24, (0, 0), [879, 89, 877, 878])
def zq_c25 : List zq_I := [
  (0, .aload_n 0, 1, [0], .null, []),
  (1, .getfield 9, 3, [4, 0, 2, 24, 2, 283], .null, []),
  (4, .invokevirtual 97, 3, [1, 61, 0, 3, 888, 7, 1, 0, 0], .null, []),
  (7, .istore_n 3, 1, [3], .null, []),
  (8, .iconst 0, 1, [], .int 0, []),
  (9, .istore 4, 2, [4], .null, []),
  (11, .iconst 0, 1, [], .int 0, []),
  (12, .istore 5, 2, [5], .null, []),
  (14, .iload 5, 2, [5], .null, [true, true, true, true, true, true]),
  (16, .aload_n 0, 1, [0], .null, []),
  (17, .getfield 15, 3, [4, 1, 2, 24, 6, 284], .null, []),
  (20, .getfield 88, 3, [2, 4, 0, 5, 0, 159], .null, []),
  (23, .if_icmp .ge 60, 3, [83], .null, []),
  (26, .aload_n 0, 1, [0], .null, []),
  (27, .getfield 23, 3, [4, 3, 2, 24, 14, 286], .null, []),
  (30, .iload_n 3, 1, [3], .null, []),
  (31, .aload_n 0, 1, [0], .null, []),
  (32, .getfield 19, 3, [4, 2, 2, 24, 11, 285], .null, []),
  (35, .getfield 51, 3, [0, 1, 2, 10, 13, 181], .null, []),
  (38, .iload_n 1, 1, [1], .null, []),
  (39, .iaload, 1, [], .null, []),
  (40, .invokevirtual 54, 3, [1, 68, 2, 3, 550, 8, 0, 0, 0], .null, []),
  (43, .aload_n 0, 1, [0], .null, []),
  (44, .iload 5, 2, [5], .null, []),
  (46, .invokevirtual 101, 3, [1, 27, 1, 2, 893, 4, 0, 0, 0], .null, []),
  (49, .aload_n 0, 1, [0], .null, []),
  (50, .getfield 23, 3, [4, 3, 2, 24, 14, 286], .null, []),
  (53, .iconst 1, 1, [], .int 1, []),
  (54, .invokevirtual 64, 3, [1, 70, 1, 6, 558, 8, 1, 0, 0], .null, []),
  (57, .ifCond .eq 20, 3, [77], .null, []),
  (60, .iload_n 2, 1, [2], .null, []),
  (61, .ifCond .eq 13, 3, [74], .null, []),
  (64, .aload_n 0, 1, [0], .null, []),
  (65, .iload_n 1, 1, [1], .null, []),
  (66, .iload 5, 2, [5], .null, []),
  (68, .invokevirtual 89, 3, [1, 22, 2, 4, 870, 4, 1, 0, 0], .null, []),
  (71, .ifCond .eq 6, 3, [77], .null, []),
  (74, .iinc 4 1, 3, [4], .int 1, []),
  (77, .iinc 5 1, 3, [5], .int 1, []),
  (80, .goto (-66), 3, [14], .null, []),
  (83, .iload 4, 2, [4], .null, []),
  (85, .ireturn, 1, [], .null, [])]
abbrev kX4_nightsCalled : Nat := 25
abbrev zq_m25 : zq_T := (yX4_nightsCalled, cX4_nightsCalled, 6, (some .int), zq_c25, (0, 0), [887, 89, 885, 886])
def zq_c26 : List zq_I := [
  (0, .aload_n 0, 1, [0], .null, []),
  (1, .getfield 23, 3, [4, 3, 2, 24, 14, 286], .null, []),
  (4, .iconst 0, 1, [], .int 0, []),
  (5, .iconst 0, 1, [], .int 0, []),
  (6, .invokevirtual 54, 3, [1, 68, 2, 3, 550, 8, 0, 0, 0], .null, []),
  (9, .aload_n 0, 1, [0], .null, []),
  (10, .iload_n 1, 1, [1], .null, []),
  (11, .invokevirtual 101, 3, [1, 27, 1, 2, 893, 4, 0, 0, 0], .null, []),
  (14, .aload_n 0, 1, [0], .null, []),
  (15, .getfield 23, 3, [4, 3, 2, 24, 14, 286], .null, []),
  (18, .iconst 2, 1, [], .int 2, []),
  (19, .invokevirtual 64, 3, [1, 70, 1, 6, 558, 8, 1, 0, 0], .null, []),
  (22, .iconst 0, 1, [], .int 0, []),
  (23, .bipush 99, 2, [], .int 99, []),
  (25, .invokestatic 68, 3, [8, 126, 3, 3, 10, 11, 1, 0, 0], .null, []),
  (28, .ireturn, 1, [], .null, [])]
abbrev kX4_worthOfLook : Nat := 26
abbrev zq_m26 : zq_T := (yX4_worthOfLook, cX4_worthOfLook, 2, (some .int), zq_c26, (0, 0), [940, 89, 938, 939])
def zq_c27 : List zq_I := [
  (0, .aload_n 0, 1, [0], .null, []),
  (1, .getfield 23, 3, [4, 3, 2, 24, 14, 286], .null, []),
  (4, .iload_n 1, 1, [1], .null, []),
  (5, .aload_n 0, 1, [0], .null, []),
  (6, .getfield 15, 3, [4, 1, 2, 24, 6, 284], .null, []),
  (9, .getfield 27, 3, [2, 0, 2, 5, 7, 145], .null, []),
  (12, .iload_n 1, 1, [1], .null, []),
  (13, .iaload, 1, [], .null, []),
  (14, .aload_n 0, 1, [0], .null, []),
  (15, .getfield 15, 3, [4, 1, 2, 24, 6, 284], .null, []),
  (18, .getfield 33, 3, [2, 1, 2, 5, 8, 148], .null, []),
  (21, .iload_n 1, 1, [1], .null, []),
  (22, .iaload, 1, [], .null, []),
  (23, .aload_n 0, 1, [0], .null, []),
  (24, .getfield 15, 3, [4, 1, 2, 24, 6, 284], .null, []),
  (27, .getfield 81, 3, [2, 2, 2, 5, 9, 153], .null, []),
  (30, .iload_n 1, 1, [1], .null, []),
  (31, .iaload, 1, [], .null, []),
  (32, .invokevirtual 60, 3, [1, 69, 4, 5, 554, 8, 0, 0, 0], .null, []),
  (35, .return_, 1, [], .null, [])]
abbrev kX4_tellNightAsIs : Nat := 27
abbrev zq_m27 : zq_T := (yX4_tellNightAsIs, cX4_tellNightAsIs, 2, none, zq_c27, (0, 0), [896, 89, 895, 20])
def zq_c28 : List zq_I := [
  (0, .aload_n 0, 1, [0], .null, []),
  (1, .invokespecial 3, 3, [0, 248], .null, []),
  (4, .aload_n 0, 1, [0], .null, []),
  (5, .sipush 160, 3, [], .int 160, []),
  (8, .newarray .int, 2, [137], .null, []),
  (10, .putfield 9, 3, [5, 0, 2, 18, 20, 249], .null, []),
  (13, .aload_n 0, 1, [0], .null, []),
  (14, .iconst 3, 1, [], .int 3, []),
  (15, .newarray .int, 2, [137], .null, []),
  (17, .putfield 15, 3, [5, 1, 2, 18, 21, 251], .null, []),
  (20, .aload_n 0, 1, [0], .null, []),
  (21, .sipush 160, 3, [], .int 160, []),
  (24, .newarray .int, 2, [137], .null, []),
  (26, .putfield 18, 3, [5, 2, 2, 18, 22, 253], .null, []),
  (29, .aload_n 0, 1, [0], .null, []),
  (30, .sipush 161, 3, [], .int 161, []),
  (33, .newarray .int, 2, [137], .null, []),
  (35, .putfield 21, 3, [5, 3, 2, 18, 23, 254], .null, []),
  (38, .aload_n 0, 1, [0], .null, []),
  (39, .sipush 161, 3, [], .int 161, []),
  (42, .newarray .int, 2, [137], .null, []),
  (44, .putfield 24, 3, [5, 4, 2, 18, 24, 255], .null, []),
  (47, .return_, 1, [], .null, [])]
abbrev kX5_init : Nat := 28
abbrev zq_m28 : zq_T := (yX5_init, cX5_init, 1, none, zq_c28, (5, 645), [247, 88, 246, 0])
def zq_c29 : List zq_I := [
  (0, .aload_n 0, 1, [0], .null, []),
  (1, .getfield 27, 3, [5, 5, 0, 18, 0, 256], .null, []),
  (4, .iload_n 1, 1, [1], .null, []),
  (5, .iadd, 1, [], .null, []),
  (6, .sipush 160, 3, [], .int 160, []),
  (9, .if_icmp .le 6, 3, [15], .null, []),
  (12, .bipush (-4), 2, [], .int (-4), []),
  (14, .ireturn, 1, [], .null, []),
  (15, .iconst 0, 1, [], .int 0, []),
  (16, .istore 4, 2, [4], .null, []),
  (18, .iload 4, 2, [4], .null, [true, true, true, false, true]),
  (20, .iload_n 1, 1, [1], .null, []),
  (21, .if_icmp .ge 33, 3, [54], .null, []),
  (24, .aload_n 0, 1, [0], .null, []),
  (25, .getfield 18, 3, [5, 2, 2, 18, 22, 253], .null, []),
  (28, .aload_n 0, 1, [0], .null, []),
  (29, .getfield 27, 3, [5, 5, 0, 18, 0, 256], .null, []),
  (32, .iload 4, 2, [4], .null, []),
  (34, .iadd, 1, [], .null, []),
  (35, .lload_n 2, 1, [2], .null, []),
  (36, .bipush 8, 2, [], .int 8, []),
  (38, .iload 4, 2, [4], .null, []),
  (40, .imul, 1, [], .null, []),
  (41, .lshr, 1, [], .null, []),
  (42, .l2i, 1, [], .null, []),
  (43, .sipush 255, 3, [], .int 255, []),
  (46, .iand, 1, [], .null, []),
  (47, .iastore, 1, [], .null, []),
  (48, .iinc 4 1, 3, [4], .int 1, []),
  (51, .goto (-33), 3, [18], .null, []),
  (54, .aload_n 0, 1, [0], .null, []),
  (55, .dup, 1, [], .null, []),
  (56, .getfield 27, 3, [5, 5, 0, 18, 0, 256], .null, []),
  (59, .iload_n 1, 1, [1], .null, []),
  (60, .iadd, 1, [], .null, []),
  (61, .putfield 27, 3, [5, 5, 0, 18, 0, 256], .null, []),
  (64, .aload_n 0, 1, [0], .null, []),
  (65, .getfield 27, 3, [5, 5, 0, 18, 0, 256], .null, []),
  (68, .ireturn, 1, [], .null, [])]
abbrev kX5_append : Nat := 29
abbrev zq_m29 : zq_T := (yX5_append, cX5_append, 5, (some .int), zq_c29, (0, 0), [583, 88, 581, 582])
def zq_c30 : List zq_I := [
  (0, .aload_n 0, 1, [0], .null, []),
  (1, .invokevirtual 31, 3, [1, 38, 0, 5, 592, 5, 0, 0, 0], .null, []),
  (4, .aload_n 0, 1, [0], .null, []),
  (5, .iconst 0, 1, [], .int 0, []),
  (6, .putfield 27, 3, [5, 5, 0, 18, 0, 256], .null, []),
  (9, .aload_n 0, 1, [0], .null, []),
  (10, .iconst 0, 1, [], .int 0, []),
  (11, .putfield 34, 3, [5, 6, 0, 18, 0, 258], .null, []),
  (14, .aload_n 0, 1, [0], .null, []),
  (15, .iconst 0, 1, [], .int 0, []),
  (16, .putfield 37, 3, [5, 7, 0, 18, 0, 259], .null, []),
  (19, .aload_n 0, 1, [0], .null, []),
  (20, .invokevirtual 40, 3, [1, 31, 0, 2, 688, 5, 1, 0, 0], .null, []),
  (23, .ifCond .eq 7, 3, [30], .null, []),
  (26, .iconst (-1), 1, [], .int (-1), []),
  (27, .goto 12, 3, [39], .null, []),
  (30, .aload_n 0, 1, [0], .null, []),
  (31, .getfield 24, 3, [5, 4, 2, 18, 24, 255], .null, []),
  (34, .aload_n 0, 1, [0], .null, []),
  (35, .getfield 37, 3, [5, 7, 0, 18, 0, 259], .null, []),
  (38, .iaload, 1, [], .null, []),
  (39, .ireturn, 1, [], .null, [])]
abbrev kX5_readTape : Nat := 30
abbrev zq_m30 : zq_T := (yX5_readTape, cX5_readTape, 1, (some .int), zq_c30, (0, 0), [591, 88, 589, 590])
def zq_c31 : List zq_I := [
  (0, .iconst 0, 1, [], .int 0, []),
  (1, .istore_n 1, 1, [1], .null, []),
  (2, .iload_n 1, 1, [1], .null, [true, true]),
  (3, .iconst 3, 1, [], .int 3, []),
  (4, .if_icmp .ge 73, 3, [77], .null, []),
  (7, .aload_n 0, 1, [0], .null, []),
  (8, .getfield 21, 3, [5, 3, 2, 18, 23, 254], .null, []),
  (11, .aload_n 0, 1, [0], .null, []),
  (12, .getfield 37, 3, [5, 7, 0, 18, 0, 259], .null, []),
  (15, .iaload, 1, [], .null, []),
  (16, .getstatic 44, 3, [4, 1, 2], .null, []),
  (19, .iload_n 1, 1, [1], .null, []),
  (20, .iaload, 1, [], .null, []),
  (21, .if_icmp .eq 5, 3, [26], .null, []),
  (24, .iconst 0, 1, [], .int 0, []),
  (25, .ireturn, 1, [], .null, []),
  (26, .aload_n 0, 1, [0], .null, []),
  (27, .invokevirtual 47, 3, [1, 36, 0, 1, 694, 5, 0, 0, 0], .null, []),
  (30, .aload_n 0, 1, [0], .null, []),
  (31, .iconst 0, 1, [], .int 0, []),
  (32, .iconst 0, 1, [], .int 0, []),
  (33, .invokevirtual 50, 3, [1, 32, 2, 6, 698, 5, 1, 0, 0], .null, []),
  (36, .ifCond .ne 5, 3, [41], .null, []),
  (39, .iconst 0, 1, [], .int 0, []),
  (40, .ireturn, 1, [], .null, []),
  (41, .aload_n 0, 1, [0], .null, []),
  (42, .getfield 21, 3, [5, 3, 2, 18, 23, 254], .null, []),
  (45, .aload_n 0, 1, [0], .null, []),
  (46, .getfield 37, 3, [5, 7, 0, 18, 0, 259], .null, []),
  (49, .iaload, 1, [], .null, []),
  (50, .bipush (-18), 2, [], .int (-18), []),
  (52, .if_icmp .eq 5, 3, [57], .null, []),
  (55, .iconst 0, 1, [], .int 0, []),
  (56, .ireturn, 1, [], .null, []),
  (57, .aload_n 0, 1, [0], .null, []),
  (58, .invokevirtual 47, 3, [1, 36, 0, 1, 694, 5, 0, 0, 0], .null, []),
  (61, .aload_n 0, 1, [0], .null, []),
  (62, .getfield 15, 3, [5, 1, 2, 18, 21, 251], .null, []),
  (65, .iload_n 1, 1, [1], .null, []),
  (66, .aload_n 0, 1, [0], .null, []),
  (67, .getfield 34, 3, [5, 6, 0, 18, 0, 258], .null, []),
  (70, .iastore, 1, [], .null, []),
  (71, .iinc 1 1, 3, [1], .int 1, []),
  (74, .goto (-72), 3, [2], .null, []),
  (77, .aload_n 0, 1, [0], .null, []),
  (78, .getfield 21, 3, [5, 3, 2, 18, 23, 254], .null, []),
  (81, .aload_n 0, 1, [0], .null, []),
  (82, .getfield 37, 3, [5, 7, 0, 18, 0, 259], .null, []),
  (85, .iaload, 1, [], .null, []),
  (86, .bipush (-22), 2, [], .int (-22), []),
  (88, .if_icmp .ne 7, 3, [95], .null, []),
  (91, .iconst 1, 1, [], .int 1, []),
  (92, .goto 4, 3, [96], .null, []),
  (95, .iconst 0, 1, [], .int 0, []),
  (96, .ireturn, 1, [], .null, [])]
abbrev kX5_readText : Nat := 31
abbrev zq_m31 : zq_T := (yX5_readText, cX5_readText, 2, (some .boolean), zq_c31, (0, 0), [691, 88, 690, 7])
def zq_c32 : List zq_I := [
  (0, .iload_n 1, 1, [1], .null, []),
  (1, .iconst 5, 1, [], .int 5, []),
  (2, .if_icmp .lt 9, 3, [11], .null, []),
  (5, .aload_n 0, 1, [0], .null, []),
  (6, .iload_n 2, 1, [2], .null, []),
  (7, .invokevirtual 54, 3, [1, 33, 1, 3, 702, 5, 1, 0, 0], .null, []),
  (10, .ireturn, 1, [], .null, []),
  (11, .iload_n 1, 1, [1], .null, []),
  (12, .iconst 2, 1, [], .int 2, []),
  (13, .if_icmp .ne 41, 3, [54], .null, []),
  (16, .aload_n 0, 1, [0], .null, []),
  (17, .getfield 21, 3, [5, 3, 2, 18, 23, 254], .null, []),
  (20, .aload_n 0, 1, [0], .null, []),
  (21, .getfield 37, 3, [5, 7, 0, 18, 0, 259], .null, []),
  (24, .iaload, 1, [], .null, []),
  (25, .bipush (-9), 2, [], .int (-9), []),
  (27, .if_icmp .ne 27, 3, [54], .null, []),
  (30, .aload_n 0, 1, [0], .null, []),
  (31, .iconst 2, 1, [], .int 2, []),
  (32, .iload_n 2, 1, [2], .null, []),
  (33, .invokevirtual 58, 3, [1, 34, 2, 3, 710, 5, 1, 0, 0], .null, []),
  (36, .ifCond .eq 16, 3, [52], .null, []),
  (39, .aload_n 0, 1, [0], .null, []),
  (40, .bipush (-9), 2, [], .int (-9), []),
  (42, .invokevirtual 61, 3, [1, 37, 1, 2, 706, 5, 1, 0, 0], .null, []),
  (45, .ifCond .eq 7, 3, [52], .null, []),
  (48, .iconst 1, 1, [], .int 1, []),
  (49, .goto 4, 3, [53], .null, []),
  (52, .iconst 0, 1, [], .int 0, []),
  (53, .ireturn, 1, [], .null, []),
  (54, .aload_n 0, 1, [0], .null, []),
  (55, .iload_n 1, 1, [1], .null, []),
  (56, .iconst 1, 1, [], .int 1, []),
  (57, .iadd, 1, [], .null, []),
  (58, .iload_n 2, 1, [2], .null, []),
  (59, .invokevirtual 50, 3, [1, 32, 2, 6, 698, 5, 1, 0, 0], .null, []),
  (62, .ifCond .ne 5, 3, [67], .null, []),
  (65, .iconst 0, 1, [], .int 0, []),
  (66, .ireturn, 1, [], .null, []),
  (67, .iload_n 1, 1, [1], .null, []),
  (68, .iconst 2, 1, [], .int 2, []),
  (69, .if_icmp .ne 7, 3, [76], .null, []),
  (72, .iconst 1, 1, [], .int 1, []),
  (73, .goto 6, 3, [79], .null, []),
  (76, .sipush 160, 3, [], .int 160, []),
  (79, .istore_n 3, 1, [3], .null, []),
  (80, .iconst 0, 1, [], .int 0, []),
  (81, .istore 4, 2, [4], .null, []),
  (83, .iload 4, 2, [4], .null, [true, true, true, true, true, false]),
  (85, .iload_n 3, 1, [3], .null, []),
  (86, .if_icmp .ge 60, 3, [146], .null, []),
  (89, .aload_n 0, 1, [0], .null, []),
  (90, .getfield 21, 3, [5, 3, 2, 18, 23, 254], .null, []),
  (93, .aload_n 0, 1, [0], .null, []),
  (94, .getfield 37, 3, [5, 7, 0, 18, 0, 259], .null, []),
  (97, .iaload, 1, [], .null, []),
  (98, .invokestatic 64, 3, [1, 35, 1, 1, 714, 5, 1, 0, 0], .null, []),
  (101, .iload_n 1, 1, [1], .null, []),
  (102, .if_icmp .ne 44, 3, [146], .null, []),
  (105, .aload_n 0, 1, [0], .null, []),
  (106, .getfield 21, 3, [5, 3, 2, 18, 23, 254], .null, []),
  (109, .aload_n 0, 1, [0], .null, []),
  (110, .getfield 37, 3, [5, 7, 0, 18, 0, 259], .null, []),
  (113, .iaload, 1, [], .null, []),
  (114, .istore 5, 2, [5], .null, []),
  (116, .aload_n 0, 1, [0], .null, []),
  (117, .invokevirtual 47, 3, [1, 36, 0, 1, 694, 5, 0, 0, 0], .null, []),
  (120, .aload_n 0, 1, [0], .null, []),
  (121, .iload_n 1, 1, [1], .null, []),
  (122, .iconst 1, 1, [], .int 1, []),
  (123, .iadd, 1, [], .null, []),
  (124, .iload_n 2, 1, [2], .null, []),
  (125, .invokevirtual 50, 3, [1, 32, 2, 6, 698, 5, 1, 0, 0], .null, []),
  (128, .ifCond .ne 5, 3, [133], .null, []),
  (131, .iconst 0, 1, [], .int 0, []),
  (132, .ireturn, 1, [], .null, []),
  (133, .aload_n 0, 1, [0], .null, []),
  (134, .iload 5, 2, [5], .null, []),
  (136, .invokevirtual 61, 3, [1, 37, 1, 2, 706, 5, 1, 0, 0], .null, []),
  (139, .pop, 1, [], .null, []),
  (140, .iinc 4 1, 3, [4], .int 1, []),
  (143, .goto (-60), 3, [83], .null, []),
  (146, .iconst 1, 1, [], .int 1, []),
  (147, .ireturn, 1, [], .null, [])]
abbrev kX5_read : Nat := 32
abbrev zq_m32 : zq_T := (yX5_read, cX5_read, 6, (some .boolean), zq_c32, (0, 0), [701, 88, 700, 9])
def zq_c33 : List zq_I := [
  (0, .aload_n 0, 1, [0], .null, []),
  (1, .getfield 21, 3, [5, 3, 2, 18, 23, 254], .null, []),
  (4, .aload_n 0, 1, [0], .null, []),
  (5, .getfield 37, 3, [5, 7, 0, 18, 0, 259], .null, []),
  (8, .iaload, 1, [], .null, []),
  (9, .istore_n 2, 1, [2], .null, []),
  (10, .iload_n 2, 1, [2], .null, []),
  (11, .bipush (-6), 2, [], .int (-6), []),
  (13, .if_icmp .lt 13, 3, [26], .null, []),
  (16, .aload_n 0, 1, [0], .null, []),
  (17, .invokevirtual 47, 3, [1, 36, 0, 1, 694, 5, 0, 0, 0], .null, []),
  (20, .aload_n 0, 1, [0], .null, []),
  (21, .iload_n 2, 1, [2], .null, []),
  (22, .invokevirtual 61, 3, [1, 37, 1, 2, 706, 5, 1, 0, 0], .null, []),
  (25, .ireturn, 1, [], .null, []),
  (26, .iload_n 2, 1, [2], .null, []),
  (27, .bipush (-13), 2, [], .int (-13), []),
  (29, .if_icmp .ne 27, 3, [56], .null, []),
  (32, .aload_n 0, 1, [0], .null, []),
  (33, .iconst 5, 1, [], .int 5, []),
  (34, .iload_n 1, 1, [1], .null, []),
  (35, .invokevirtual 58, 3, [1, 34, 2, 3, 710, 5, 1, 0, 0], .null, []),
  (38, .ifCond .eq 16, 3, [54], .null, []),
  (41, .aload_n 0, 1, [0], .null, []),
  (42, .bipush (-15), 2, [], .int (-15), []),
  (44, .invokevirtual 61, 3, [1, 37, 1, 2, 706, 5, 1, 0, 0], .null, []),
  (47, .ifCond .eq 7, 3, [54], .null, []),
  (50, .iconst 1, 1, [], .int 1, []),
  (51, .goto 4, 3, [55], .null, []),
  (54, .iconst 0, 1, [], .int 0, []),
  (55, .ireturn, 1, [], .null, []),
  (56, .iload_n 2, 1, [2], .null, []),
  (57, .bipush (-16), 2, [], .int (-16), []),
  (59, .if_icmp .ne 26, 3, [85], .null, []),
  (62, .aload_n 0, 1, [0], .null, []),
  (63, .iconst 0, 1, [], .int 0, []),
  (64, .iload_n 1, 1, [1], .null, []),
  (65, .invokevirtual 58, 3, [1, 34, 2, 3, 710, 5, 1, 0, 0], .null, []),
  (68, .ifCond .eq 17, 3, [85], .null, []),
  (71, .aload_n 0, 1, [0], .null, []),
  (72, .getfield 21, 3, [5, 3, 2, 18, 23, 254], .null, []),
  (75, .aload_n 0, 1, [0], .null, []),
  (76, .getfield 37, 3, [5, 7, 0, 18, 0, 259], .null, []),
  (79, .iaload, 1, [], .null, []),
  (80, .bipush (-17), 2, [], .int (-17), []),
  (82, .if_icmp .eq 5, 3, [87], .null, []),
  (85, .iconst 0, 1, [], .int 0, []),
  (86, .ireturn, 1, [], .null, []),
  (87, .aload_n 0, 1, [0], .null, []),
  (88, .invokevirtual 47, 3, [1, 36, 0, 1, 694, 5, 0, 0, 0], .null, []),
  (91, .iconst 1, 1, [], .int 1, []),
  (92, .ireturn, 1, [], .null, [])]
abbrev kX5_readOne : Nat := 33
abbrev zq_m33 : zq_T := (yX5_readOne, cX5_readOne, 3, (some .boolean), zq_c33, (0, 0), [705, 88, 704, 10])
def zq_c34 : List zq_I := [
  (0, .iload_n 2, 1, [2], .null, []),
  (1, .iconst 5, 1, [], .int 5, []),
  (2, .if_icmp .lt 5, 3, [7], .null, []),
  (5, .iconst 0, 1, [], .int 0, []),
  (6, .ireturn, 1, [], .null, []),
  (7, .aload_n 0, 1, [0], .null, []),
  (8, .invokevirtual 47, 3, [1, 36, 0, 1, 694, 5, 0, 0, 0], .null, []),
  (11, .aload_n 0, 1, [0], .null, []),
  (12, .iload_n 1, 1, [1], .null, []),
  (13, .iload_n 2, 1, [2], .null, []),
  (14, .iconst 1, 1, [], .int 1, []),
  (15, .iadd, 1, [], .null, []),
  (16, .invokevirtual 50, 3, [1, 32, 2, 6, 698, 5, 1, 0, 0], .null, []),
  (19, .ireturn, 1, [], .null, [])]
abbrev kX5_readBehind : Nat := 34
abbrev zq_m34 : zq_T := (yX5_readBehind, cX5_readBehind, 3, (some .boolean), zq_c34, (0, 0), [713, 88, 712, 12])
def zq_c35 : List zq_I := [
  (0, .iload_n 0, 1, [0], .null, []),
  (1, .tableswitch 57 (-14) (-7) #[55, 53, 53, 51, 51, 57, 49, 47], 47, [58, 56, 54, 54, 52, 52, 58, 50, 48], .null, []),
  (48, .iconst 0, 1, [], .int 0, []),
  (49, .ireturn, 1, [], .null, []),
  (50, .iconst 1, 1, [], .int 1, []),
  (51, .ireturn, 1, [], .null, []),
  (52, .iconst 2, 1, [], .int 2, []),
  (53, .ireturn, 1, [], .null, []),
  (54, .iconst 3, 1, [], .int 3, []),
  (55, .ireturn, 1, [], .null, []),
  (56, .iconst 4, 1, [], .int 4, []),
  (57, .ireturn, 1, [], .null, []),
  (58, .iconst (-1), 1, [], .int (-1), []),
  (59, .ireturn, 1, [], .null, [])]
abbrev kX5_levelOf : Nat := 35
abbrev zq_m35 : zq_T := (yX5_levelOf, cX5_levelOf, 1, (some .int), zq_c35, (0, 0), [716, 88, 715, 0])
def zq_c36 : List zq_I := [
  (0, .aload_n 0, 1, [0], .null, []),
  (1, .getfield 37, 3, [5, 7, 0, 18, 0, 259], .null, []),
  (4, .sipush 160, 3, [], .int 160, []),
  (7, .if_icmp .ge 27, 3, [34], .null, []),
  (10, .aload_n 0, 1, [0], .null, []),
  (11, .getfield 21, 3, [5, 3, 2, 18, 23, 254], .null, []),
  (14, .aload_n 0, 1, [0], .null, []),
  (15, .getfield 37, 3, [5, 7, 0, 18, 0, 259], .null, []),
  (18, .iaload, 1, [], .null, []),
  (19, .bipush (-22), 2, [], .int (-22), []),
  (21, .if_icmp .eq 13, 3, [34], .null, []),
  (24, .aload_n 0, 1, [0], .null, []),
  (25, .dup, 1, [], .null, []),
  (26, .getfield 37, 3, [5, 7, 0, 18, 0, 259], .null, []),
  (29, .iconst 1, 1, [], .int 1, []),
  (30, .iadd, 1, [], .null, []),
  (31, .putfield 37, 3, [5, 7, 0, 18, 0, 259], .null, []),
  (34, .return_, 1, [], .null, [])]
abbrev kX5_advance : Nat := 36
abbrev zq_m36 : zq_T := (yX5_advance, cX5_advance, 1, none, zq_c36, (0, 0), [697, 88, 696, 8])
def zq_c37 : List zq_I := [
  (0, .aload_n 0, 1, [0], .null, []),
  (1, .getfield 34, 3, [5, 6, 0, 18, 0, 258], .null, []),
  (4, .sipush 160, 3, [], .int 160, []),
  (7, .if_icmp .lt 5, 3, [12], .null, []),
  (10, .iconst 0, 1, [], .int 0, []),
  (11, .ireturn, 1, [], .null, []),
  (12, .aload_n 0, 1, [0], .null, []),
  (13, .getfield 9, 3, [5, 0, 2, 18, 20, 249], .null, []),
  (16, .aload_n 0, 1, [0], .null, []),
  (17, .getfield 34, 3, [5, 6, 0, 18, 0, 258], .null, []),
  (20, .iload_n 1, 1, [1], .null, []),
  (21, .iastore, 1, [], .null, []),
  (22, .aload_n 0, 1, [0], .null, []),
  (23, .dup, 1, [], .null, []),
  (24, .getfield 34, 3, [5, 6, 0, 18, 0, 258], .null, []),
  (27, .iconst 1, 1, [], .int 1, []),
  (28, .iadd, 1, [], .null, []),
  (29, .putfield 34, 3, [5, 6, 0, 18, 0, 258], .null, []),
  (32, .iconst 1, 1, [], .int 1, []),
  (33, .ireturn, 1, [], .null, [])]
abbrev kX5_put : Nat := 37
abbrev zq_m37 : zq_T := (yX5_put, cX5_put, 2, (some .boolean), zq_c37, (0, 0), [709, 88, 708, 11])
def zq_c38 : List zq_I := [
  (0, .iconst 0, 1, [], .int 0, []),
  (1, .istore_n 1, 1, [1], .null, []),
  (2, .iconst 0, 1, [], .int 0, []),
  (3, .istore_n 2, 1, [2], .null, []),
  (4, .iconst 0, 1, [], .int 0, []),
  (5, .istore_n 3, 1, [3], .null, []),
  (6, .iload_n 3, 1, [3], .null, [true, true, true, true, false]),
  (7, .sipush 160, 3, [], .int 160, []),
  (10, .if_icmp .ge 68, 3, [78], .null, []),
  (13, .iload_n 2, 1, [2], .null, []),
  (14, .aload_n 0, 1, [0], .null, []),
  (15, .getfield 27, 3, [5, 5, 0, 18, 0, 256], .null, []),
  (18, .if_icmp .ge 60, 3, [78], .null, []),
  (21, .aload_n 0, 1, [0], .null, []),
  (22, .getfield 18, 3, [5, 2, 2, 18, 22, 253], .null, []),
  (25, .iload_n 2, 1, [2], .null, []),
  (26, .iaload, 1, [], .null, []),
  (27, .invokestatic 68, 3, [1, 45, 1, 1, 596, 5, 1, 0, 0], .null, []),
  (30, .ifCond .eq 9, 3, [39], .null, []),
  (33, .iinc 2 1, 3, [2], .int 1, []),
  (36, .goto 36, 3, [72], .null, []),
  (39, .aload_n 0, 1, [0], .null, []),
  (40, .iload_n 2, 1, [2], .null, []),
  (41, .invokevirtual 71, 3, [1, 39, 1, 4, 599, 5, 1, 0, 0], .null, []),
  (44, .istore 4, 2, [4], .null, []),
  (46, .aload_n 0, 1, [0], .null, []),
  (47, .getfield 21, 3, [5, 3, 2, 18, 23, 254], .null, []),
  (50, .iload_n 1, 1, [1], .null, []),
  (51, .aload_n 0, 1, [0], .null, []),
  (52, .iload_n 2, 1, [2], .null, []),
  (53, .iload 4, 2, [4], .null, []),
  (55, .invokevirtual 74, 3, [1, 40, 2, 3, 609, 5, 1, 0, 0], .null, []),
  (58, .iastore, 1, [], .null, []),
  (59, .aload_n 0, 1, [0], .null, []),
  (60, .getfield 24, 3, [5, 4, 2, 18, 24, 255], .null, []),
  (63, .iload_n 1, 1, [1], .null, []),
  (64, .iload_n 2, 1, [2], .null, []),
  (65, .iastore, 1, [], .null, []),
  (66, .iinc 1 1, 3, [1], .int 1, []),
  (69, .iload 4, 2, [4], .null, []),
  (71, .istore_n 2, 1, [2], .null, []),
  (72, .iinc 3 1, 3, [3], .int 1, []),
  (75, .goto (-69), 3, [6], .null, []),
  (78, .aload_n 0, 1, [0], .null, []),
  (79, .getfield 21, 3, [5, 3, 2, 18, 23, 254], .null, []),
  (82, .iload_n 1, 1, [1], .null, []),
  (83, .bipush (-22), 2, [], .int (-22), []),
  (85, .iastore, 1, [], .null, []),
  (86, .aload_n 0, 1, [0], .null, []),
  (87, .getfield 24, 3, [5, 4, 2, 18, 24, 255], .null, []),
  (90, .iload_n 1, 1, [1], .null, []),
  (91, .aload_n 0, 1, [0], .null, []),
  (92, .getfield 27, 3, [5, 5, 0, 18, 0, 256], .null, []),
  (95, .iastore, 1, [], .null, []),
  (96, .return_, 1, [], .null, [])]
abbrev kX5_cut : Nat := 38
abbrev zq_m38 : zq_T := (yX5_cut, cX5_cut, 5, none, zq_c38, (0, 0), [595, 88, 594, 1])
def zq_c39 : List zq_I := [
  (0, .aload_n 0, 1, [0], .null, []),
  (1, .getfield 18, 3, [5, 2, 2, 18, 22, 253], .null, []),
  (4, .iload_n 1, 1, [1], .null, []),
  (5, .iaload, 1, [], .null, []),
  (6, .invokestatic 78, 3, [1, 46, 1, 1, 603, 5, 1, 0, 0], .null, []),
  (9, .istore_n 2, 1, [2], .null, []),
  (10, .iload_n 2, 1, [2], .null, []),
  (11, .ifCond .ne 19, 3, [30], .null, []),
  (14, .aload_n 0, 1, [0], .null, []),
  (15, .getfield 18, 3, [5, 2, 2, 18, 22, 253], .null, []),
  (18, .iload_n 1, 1, [1], .null, []),
  (19, .iaload, 1, [], .null, []),
  (20, .invokestatic 81, 3, [1, 47, 1, 1, 606, 5, 1, 0, 0], .null, []),
  (23, .ifCond .ne 7, 3, [30], .null, []),
  (26, .iload_n 1, 1, [1], .null, []),
  (27, .iconst 1, 1, [], .int 1, []),
  (28, .iadd, 1, [], .null, []),
  (29, .ireturn, 1, [], .null, []),
  (30, .iload_n 1, 1, [1], .null, []),
  (31, .iconst 1, 1, [], .int 1, []),
  (32, .iadd, 1, [], .null, []),
  (33, .istore_n 3, 1, [3], .null, []),
  (34, .iload_n 3, 1, [3], .null, [true, false, true, true]),
  (35, .aload_n 0, 1, [0], .null, []),
  (36, .getfield 27, 3, [5, 5, 0, 18, 0, 256], .null, []),
  (39, .if_icmp .ge 40, 3, [79], .null, []),
  (42, .iload_n 2, 1, [2], .null, []),
  (43, .ifCond .eq 18, 3, [61], .null, []),
  (46, .aload_n 0, 1, [0], .null, []),
  (47, .getfield 18, 3, [5, 2, 2, 18, 22, 253], .null, []),
  (50, .iload_n 3, 1, [3], .null, []),
  (51, .iaload, 1, [], .null, []),
  (52, .invokestatic 78, 3, [1, 46, 1, 1, 603, 5, 1, 0, 0], .null, []),
  (55, .ifCond .eq 24, 3, [79], .null, []),
  (58, .goto 15, 3, [73], .null, []),
  (61, .aload_n 0, 1, [0], .null, []),
  (62, .getfield 18, 3, [5, 2, 2, 18, 22, 253], .null, []),
  (65, .iload_n 3, 1, [3], .null, []),
  (66, .iaload, 1, [], .null, []),
  (67, .invokestatic 81, 3, [1, 47, 1, 1, 606, 5, 1, 0, 0], .null, []),
  (70, .ifCond .eq 9, 3, [79], .null, []),
  (73, .iinc 3 1, 3, [3], .int 1, []),
  (76, .goto (-42), 3, [34], .null, []),
  (79, .iload_n 3, 1, [3], .null, []),
  (80, .ireturn, 1, [], .null, [])]
abbrev kX5_endOfToken : Nat := 39
abbrev zq_m39 : zq_T := (yX5_endOfToken, cX5_endOfToken, 4, (some .int), zq_c39, (0, 0), [602, 88, 601, 2])
def zq_c40 : List zq_I := [
  (0, .aload_n 0, 1, [0], .null, []),
  (1, .getfield 18, 3, [5, 2, 2, 18, 22, 253], .null, []),
  (4, .iload_n 1, 1, [1], .null, []),
  (5, .iaload, 1, [], .null, []),
  (6, .invokestatic 78, 3, [1, 46, 1, 1, 603, 5, 1, 0, 0], .null, []),
  (9, .ifCond .eq 10, 3, [19], .null, []),
  (12, .aload_n 0, 1, [0], .null, []),
  (13, .iload_n 1, 1, [1], .null, []),
  (14, .iload_n 2, 1, [2], .null, []),
  (15, .invokevirtual 84, 3, [1, 42, 2, 3, 613, 5, 1, 0, 0], .null, []),
  (18, .ireturn, 1, [], .null, []),
  (19, .aload_n 0, 1, [0], .null, []),
  (20, .getfield 18, 3, [5, 2, 2, 18, 22, 253], .null, []),
  (23, .iload_n 1, 1, [1], .null, []),
  (24, .iaload, 1, [], .null, []),
  (25, .invokestatic 81, 3, [1, 47, 1, 1, 606, 5, 1, 0, 0], .null, []),
  (28, .ifCond .eq 10, 3, [38], .null, []),
  (31, .aload_n 0, 1, [0], .null, []),
  (32, .iload_n 1, 1, [1], .null, []),
  (33, .iload_n 2, 1, [2], .null, []),
  (34, .invokevirtual 87, 3, [1, 41, 2, 5, 681, 5, 1, 0, 0], .null, []),
  (37, .ireturn, 1, [], .null, []),
  (38, .aload_n 0, 1, [0], .null, []),
  (39, .getfield 18, 3, [5, 2, 2, 18, 22, 253], .null, []),
  (42, .iload_n 1, 1, [1], .null, []),
  (43, .iaload, 1, [], .null, []),
  (44, .invokestatic 90, 3, [1, 44, 1, 1, 685, 5, 1, 0, 0], .null, []),
  (47, .ireturn, 1, [], .null, [])]
abbrev kX5_tokenOf : Nat := 40
abbrev zq_m40 : zq_T := (yX5_tokenOf, cX5_tokenOf, 3, (some .int), zq_c40, (0, 0), [612, 88, 611, 3])
def zq_c41 : List zq_I := [
  (0, .iload_n 2, 1, [2], .null, []),
  (1, .iload_n 1, 1, [1], .null, []),
  (2, .isub, 1, [], .null, []),
  (3, .iconst 4, 1, [], .int 4, []),
  (4, .if_icmp .le 6, 3, [10], .null, []),
  (7, .bipush (-23), 2, [], .int (-23), []),
  (9, .ireturn, 1, [], .null, []),
  (10, .iconst 0, 1, [], .int 0, []),
  (11, .istore_n 3, 1, [3], .null, []),
  (12, .iload_n 1, 1, [1], .null, []),
  (13, .istore 4, 2, [4], .null, []),
  (15, .iload 4, 2, [4], .null, [true, false, true, true, true]),
  (17, .iload_n 2, 1, [2], .null, []),
  (18, .if_icmp .ge 25, 3, [43], .null, []),
  (21, .bipush 10, 2, [], .int 10, []),
  (23, .iload_n 3, 1, [3], .null, []),
  (24, .imul, 1, [], .null, []),
  (25, .aload_n 0, 1, [0], .null, []),
  (26, .getfield 18, 3, [5, 2, 2, 18, 22, 253], .null, []),
  (29, .iload 4, 2, [4], .null, []),
  (31, .iaload, 1, [], .null, []),
  (32, .iadd, 1, [], .null, []),
  (33, .bipush 48, 2, [], .int 48, []),
  (35, .isub, 1, [], .null, []),
  (36, .istore_n 3, 1, [3], .null, []),
  (37, .iinc 4 1, 3, [4], .int 1, []),
  (40, .goto (-25), 3, [15], .null, []),
  (43, .iload_n 3, 1, [3], .null, []),
  (44, .ireturn, 1, [], .null, [])]
abbrev kX5_numberOf : Nat := 41
abbrev zq_m41 : zq_T := (yX5_numberOf, cX5_numberOf, 5, (some .int), zq_c41, (0, 0), [684, 88, 683, 6])
def zq_c42 : List zq_I := [
  (0, .aload_n 0, 1, [0], .null, []),
  (1, .ldc 93, 2, [1, 0], .null, []),
  (3, .iload_n 1, 1, [1], .null, []),
  (4, .iload_n 2, 1, [2], .null, []),
  (5, .invokevirtual 95, 3, [1, 43, 3, 5, 618, 5, 1, 0, 0], .null, []),
  (8, .ifCond .eq 6, 3, [14], .null, []),
  (11, .bipush (-19), 2, [], .int (-19), []),
  (13, .ireturn, 1, [], .null, []),
  (14, .aload_n 0, 1, [0], .null, []),
  (15, .ldc 99, 2, [1, 1], .null, []),
  (17, .iload_n 1, 1, [1], .null, []),
  (18, .iload_n 2, 1, [2], .null, []),
  (19, .invokevirtual 95, 3, [1, 43, 3, 5, 618, 5, 1, 0, 0], .null, []),
  (22, .ifCond .eq 6, 3, [28], .null, []),
  (25, .bipush (-20), 2, [], .int (-20), []),
  (27, .ireturn, 1, [], .null, []),
  (28, .aload_n 0, 1, [0], .null, []),
  (29, .ldc 101, 2, [1, 2], .null, []),
  (31, .iload_n 1, 1, [1], .null, []),
  (32, .iload_n 2, 1, [2], .null, []),
  (33, .invokevirtual 95, 3, [1, 43, 3, 5, 618, 5, 1, 0, 0], .null, []),
  (36, .ifCond .eq 6, 3, [42], .null, []),
  (39, .bipush (-21), 2, [], .int (-21), []),
  (41, .ireturn, 1, [], .null, []),
  (42, .aload_n 0, 1, [0], .null, []),
  (43, .ldc 103, 2, [1, 3], .null, []),
  (45, .iload_n 1, 1, [1], .null, []),
  (46, .iload_n 2, 1, [2], .null, []),
  (47, .invokevirtual 95, 3, [1, 43, 3, 5, 618, 5, 1, 0, 0], .null, []),
  (50, .ifCond .eq 6, 3, [56], .null, []),
  (53, .bipush (-7), 2, [], .int (-7), []),
  (55, .ireturn, 1, [], .null, []),
  (56, .aload_n 0, 1, [0], .null, []),
  (57, .ldc 105, 2, [1, 4], .null, []),
  (59, .iload_n 1, 1, [1], .null, []),
  (60, .iload_n 2, 1, [2], .null, []),
  (61, .invokevirtual 95, 3, [1, 43, 3, 5, 618, 5, 1, 0, 0], .null, []),
  (64, .ifCond .eq 6, 3, [70], .null, []),
  (67, .bipush (-8), 2, [], .int (-8), []),
  (69, .ireturn, 1, [], .null, []),
  (70, .aload_n 0, 1, [0], .null, []),
  (71, .ldc 107, 2, [1, 5], .null, []),
  (73, .iload_n 1, 1, [1], .null, []),
  (74, .iload_n 2, 1, [2], .null, []),
  (75, .invokevirtual 95, 3, [1, 43, 3, 5, 618, 5, 1, 0, 0], .null, []),
  (78, .ifCond .eq 6, 3, [84], .null, []),
  (81, .bipush (-9), 2, [], .int (-9), []),
  (83, .ireturn, 1, [], .null, []),
  (84, .aload_n 0, 1, [0], .null, []),
  (85, .ldc 109, 2, [1, 6], .null, []),
  (87, .iload_n 1, 1, [1], .null, []),
  (88, .iload_n 2, 1, [2], .null, []),
  (89, .invokevirtual 95, 3, [1, 43, 3, 5, 618, 5, 1, 0, 0], .null, []),
  (92, .ifCond .eq 5, 3, [97], .null, []),
  (95, .iconst (-1), 1, [], .int (-1), []),
  (96, .ireturn, 1, [], .null, []),
  (97, .aload_n 0, 1, [0], .null, []),
  (98, .ldc 111, 2, [1, 7], .null, []),
  (100, .iload_n 1, 1, [1], .null, []),
  (101, .iload_n 2, 1, [2], .null, []),
  (102, .invokevirtual 95, 3, [1, 43, 3, 5, 618, 5, 1, 0, 0], .null, []),
  (105, .ifCond .eq 6, 3, [111], .null, []),
  (108, .bipush (-2), 2, [], .int (-2), []),
  (110, .ireturn, 1, [], .null, []),
  (111, .aload_n 0, 1, [0], .null, []),
  (112, .ldc 113, 2, [1, 8], .null, []),
  (114, .iload_n 1, 1, [1], .null, []),
  (115, .iload_n 2, 1, [2], .null, []),
  (116, .invokevirtual 95, 3, [1, 43, 3, 5, 618, 5, 1, 0, 0], .null, []),
  (119, .ifCond .eq 6, 3, [125], .null, []),
  (122, .bipush (-3), 2, [], .int (-3), []),
  (124, .ireturn, 1, [], .null, []),
  (125, .aload_n 0, 1, [0], .null, []),
  (126, .ldc 115, 2, [1, 9], .null, []),
  (128, .iload_n 1, 1, [1], .null, []),
  (129, .iload_n 2, 1, [2], .null, []),
  (130, .invokevirtual 95, 3, [1, 43, 3, 5, 618, 5, 1, 0, 0], .null, []),
  (133, .ifCond .eq 6, 3, [139], .null, []),
  (136, .bipush (-4), 2, [], .int (-4), []),
  (138, .ireturn, 1, [], .null, []),
  (139, .aload_n 0, 1, [0], .null, []),
  (140, .ldc 117, 2, [1, 10], .null, []),
  (142, .iload_n 1, 1, [1], .null, []),
  (143, .iload_n 2, 1, [2], .null, []),
  (144, .invokevirtual 95, 3, [1, 43, 3, 5, 618, 5, 1, 0, 0], .null, []),
  (147, .ifCond .eq 6, 3, [153], .null, []),
  (150, .bipush (-5), 2, [], .int (-5), []),
  (152, .ireturn, 1, [], .null, []),
  (153, .aload_n 0, 1, [0], .null, []),
  (154, .ldc 119, 2, [1, 11], .null, []),
  (156, .iload_n 1, 1, [1], .null, []),
  (157, .iload_n 2, 1, [2], .null, []),
  (158, .invokevirtual 95, 3, [1, 43, 3, 5, 618, 5, 1, 0, 0], .null, []),
  (161, .ifCond .eq 8, 3, [169], .null, []),
  (164, .bipush (-6), 2, [], .int (-6), []),
  (166, .goto 5, 3, [171], .null, []),
  (169, .bipush (-23), 2, [], .int (-23), []),
  (171, .ireturn, 1, [], .null, [])]
abbrev kX5_wordOf : Nat := 42
abbrev zq_m42 : zq_T := (yX5_wordOf, cX5_wordOf, 3, (some .int), zq_c42, (0, 0), [616, 88, 615, 4])
def zq_c43 : List zq_I := [
  (0, .iload_n 3, 1, [3], .null, []),
  (1, .iload_n 2, 1, [2], .null, []),
  (2, .isub, 1, [], .null, []),
  (3, .aload_n 1, 1, [1], .null, []),
  (4, .invokevirtual 121, 3, [6, 622], .null, []),
  (7, .if_icmp .eq 5, 3, [12], .null, []),
  (10, .iconst 0, 1, [], .int 0, []),
  (11, .ireturn, 1, [], .null, []),
  (12, .iconst 0, 1, [], .int 0, []),
  (13, .istore 4, 2, [4], .null, []),
  (15, .iload 4, 2, [4], .null, [true, true, true, false, true]),
  (17, .aload_n 1, 1, [1], .null, []),
  (18, .invokevirtual 121, 3, [6, 622], .null, []),
  (21, .if_icmp .ge 29, 3, [50], .null, []),
  (24, .aload_n 0, 1, [0], .null, []),
  (25, .getfield 18, 3, [5, 2, 2, 18, 22, 253], .null, []),
  (28, .iload_n 2, 1, [2], .null, []),
  (29, .iload 4, 2, [4], .null, []),
  (31, .iadd, 1, [], .null, []),
  (32, .iaload, 1, [], .null, []),
  (33, .aload_n 1, 1, [1], .null, []),
  (34, .iload 4, 2, [4], .null, []),
  (36, .invokevirtual 127, 3, [7, 632], .null, []),
  (39, .if_icmp .eq 5, 3, [44], .null, []),
  (42, .iconst 0, 1, [], .int 0, []),
  (43, .ireturn, 1, [], .null, []),
  (44, .iinc 4 1, 3, [4], .int 1, []),
  (47, .goto (-32), 3, [15], .null, []),
  (50, .iconst 1, 1, [], .int 1, []),
  (51, .ireturn, 1, [], .null, [])]
abbrev kX5_spells : Nat := 43
abbrev zq_m43 : zq_T := (yX5_spells, cX5_spells, 5, (some .boolean), zq_c43, (0, 0), [621, 88, 620, 5])
def zq_c44 : List zq_I := [
  (0, .iload_n 0, 1, [0], .null, []),
  (1, .tableswitch 127 40 61 #[103, 106, 118, 112, 127, 115, 127, 127, 127, 127, 127, 127, 127, 127, 127, 127, 127, 127, 127, 109, 121, 124], 103, [128, 104, 107, 119, 113, 128, 116, 128, 128, 128, 128, 128, 128, 128, 128, 128, 128, 128, 128, 128, 110, 122, 125], .null, []),
  (104, .bipush (-16), 2, [], .int (-16), []),
  (106, .ireturn, 1, [], .null, []),
  (107, .bipush (-17), 2, [], .int (-17), []),
  (109, .ireturn, 1, [], .null, []),
  (110, .bipush (-18), 2, [], .int (-18), []),
  (112, .ireturn, 1, [], .null, []),
  (113, .bipush (-12), 2, [], .int (-12), []),
  (115, .ireturn, 1, [], .null, []),
  (116, .bipush (-13), 2, [], .int (-13), []),
  (118, .ireturn, 1, [], .null, []),
  (119, .bipush (-14), 2, [], .int (-14), []),
  (121, .ireturn, 1, [], .null, []),
  (122, .bipush (-10), 2, [], .int (-10), []),
  (124, .ireturn, 1, [], .null, []),
  (125, .bipush (-11), 2, [], .int (-11), []),
  (127, .ireturn, 1, [], .null, []),
  (128, .bipush (-23), 2, [], .int (-23), []),
  (130, .ireturn, 1, [], .null, [])]
abbrev kX5_signOf : Nat := 44
abbrev zq_m44 : zq_T := (yX5_signOf, cX5_signOf, 1, (some .int), zq_c44, (0, 0), [687, 88, 686, 0])
def zq_c45 : List zq_I := [
  (0, .iload_n 0, 1, [0], .null, []),
  (1, .bipush 32, 2, [], .int 32, []),
  (3, .if_icmp .eq 9, 3, [12], .null, []),
  (6, .iload_n 0, 1, [0], .null, []),
  (7, .bipush 10, 2, [], .int 10, []),
  (9, .if_icmp .ne 7, 3, [16], .null, []),
  (12, .iconst 1, 1, [], .int 1, []),
  (13, .goto 4, 3, [17], .null, []),
  (16, .iconst 0, 1, [], .int 0, []),
  (17, .ireturn, 1, [], .null, [])]
abbrev kX5_isBlank : Nat := 45
abbrev zq_m45 : zq_T := (yX5_isBlank, cX5_isBlank, 1, (some .boolean), zq_c45, (0, 0), [598, 88, 597, 0])
def zq_c46 : List zq_I := [
  (0, .iload_n 0, 1, [0], .null, []),
  (1, .bipush 97, 2, [], .int 97, []),
  (3, .if_icmp .lt 13, 3, [16], .null, []),
  (6, .iload_n 0, 1, [0], .null, []),
  (7, .bipush 122, 2, [], .int 122, []),
  (9, .if_icmp .gt 7, 3, [16], .null, []),
  (12, .iconst 1, 1, [], .int 1, []),
  (13, .goto 4, 3, [17], .null, []),
  (16, .iconst 0, 1, [], .int 0, []),
  (17, .ireturn, 1, [], .null, [])]
abbrev kX5_isLetter : Nat := 46
abbrev zq_m46 : zq_T := (yX5_isLetter, cX5_isLetter, 1, (some .boolean), zq_c46, (0, 0), [605, 88, 604, 0])
def zq_c47 : List zq_I := [
  (0, .iload_n 0, 1, [0], .null, []),
  (1, .bipush 48, 2, [], .int 48, []),
  (3, .if_icmp .lt 13, 3, [16], .null, []),
  (6, .iload_n 0, 1, [0], .null, []),
  (7, .bipush 57, 2, [], .int 57, []),
  (9, .if_icmp .gt 7, 3, [16], .null, []),
  (12, .iconst 1, 1, [], .int 1, []),
  (13, .goto 4, 3, [17], .null, []),
  (16, .iconst 0, 1, [], .int 0, []),
  (17, .ireturn, 1, [], .null, [])]
abbrev kX5_isDigit : Nat := 47
abbrev zq_m47 : zq_T := (yX5_isDigit, cX5_isDigit, 1, (some .boolean), zq_c47, (0, 0), [608, 88, 607, 0])
def zq_c48 : List zq_I := [
  (0, .aload_n 0, 1, [0], .null, []),
  (1, .invokespecial 3, 3, [0, 422], .null, []),
  (4, .aload_n 0, 1, [0], .null, []),
  (5, .sipush 160, 3, [], .int 160, []),
  (8, .newarray .int, 2, [137], .null, []),
  (10, .putfield 9, 3, [6, 0, 2, 44, 46, 423], .null, []),
  (13, .aload_n 0, 1, [0], .null, []),
  (14, .iconst 4, 1, [], .int 4, []),
  (15, .newarray .int, 2, [137], .null, []),
  (17, .dup, 1, [], .null, []),
  (18, .iconst 0, 1, [], .int 0, []),
  (19, .iconst (-1), 1, [], .int (-1), []),
  (20, .iastore, 1, [], .null, []),
  (21, .dup, 1, [], .null, []),
  (22, .iconst 1, 1, [], .int 1, []),
  (23, .iconst (-1), 1, [], .int (-1), []),
  (24, .iastore, 1, [], .null, []),
  (25, .dup, 1, [], .null, []),
  (26, .iconst 2, 1, [], .int 2, []),
  (27, .iconst (-1), 1, [], .int (-1), []),
  (28, .iastore, 1, [], .null, []),
  (29, .dup, 1, [], .null, []),
  (30, .iconst 3, 1, [], .int 3, []),
  (31, .iconst (-1), 1, [], .int (-1), []),
  (32, .iastore, 1, [], .null, []),
  (33, .putfield 15, 3, [6, 1, 2, 44, 47, 424], .null, []),
  (36, .aload_n 0, 1, [0], .null, []),
  (37, .iconst 4, 1, [], .int 4, []),
  (38, .newarray .int, 2, [137], .null, []),
  (40, .putfield 18, 3, [6, 2, 2, 44, 48, 426], .null, []),
  (43, .return_, 1, [], .null, [])]
abbrev kX6_init : Nat := 48
abbrev zq_m48 : zq_T := (yX6_init, cX6_init, 1, none, zq_c48, (3, 168), [421, 94, 420, 0])
def zq_c49 : List zq_I := [
  (0, .aload_n 0, 1, [0], .null, []),
  (1, .getfield 15, 3, [6, 1, 2, 44, 47, 424], .null, []),
  (4, .iload_n 1, 1, [1], .null, []),
  (5, .iaload, 1, [], .null, []),
  (6, .iconst (-1), 1, [], .int (-1), []),
  (7, .if_icmp .ne 7, 3, [14], .null, []),
  (10, .iconst 1, 1, [], .int 1, []),
  (11, .goto 4, 3, [15], .null, []),
  (14, .iconst 0, 1, [], .int 0, []),
  (15, .ireturn, 1, [], .null, [])]
abbrev kX6_isMissing : Nat := 49
abbrev zq_m49 : zq_T := (yX6_isMissing, cX6_isMissing, 2, (some .boolean), zq_c49, (0, 0), [959, 94, 957, 958])
def zq_c50 : List zq_I := [
  (0, .aload_n 0, 1, [0], .null, []),
  (1, .getfield 15, 3, [6, 1, 2, 44, 47, 424], .null, []),
  (4, .iload_n 1, 1, [1], .null, []),
  (5, .iconst (-1), 1, [], .int (-1), []),
  (6, .iastore, 1, [], .null, []),
  (7, .aload_n 0, 1, [0], .null, []),
  (8, .getfield 18, 3, [6, 2, 2, 44, 48, 426], .null, []),
  (11, .iload_n 1, 1, [1], .null, []),
  (12, .iconst 0, 1, [], .int 0, []),
  (13, .iastore, 1, [], .null, []),
  (14, .return_, 1, [], .null, [])]
abbrev kX6_drop : Nat := 50
abbrev zq_m50 : zq_T := (yX6_drop, cX6_drop, 2, none, zq_c50, (0, 0), [1003, 94, 1001, 1002])
def zq_c51 : List zq_I := [
  (0, .aload_n 0, 1, [0], .null, []),
  (1, .getfield 15, 3, [6, 1, 2, 44, 47, 424], .null, []),
  (4, .iload_n 1, 1, [1], .null, []),
  (5, .iload_n 2, 1, [2], .null, []),
  (6, .iastore, 1, [], .null, []),
  (7, .aload_n 0, 1, [0], .null, []),
  (8, .getfield 18, 3, [6, 2, 2, 44, 48, 426], .null, []),
  (11, .iload_n 1, 1, [1], .null, []),
  (12, .iload_n 3, 1, [3], .null, []),
  (13, .iastore, 1, [], .null, []),
  (14, .iconst 0, 1, [], .int 0, []),
  (15, .istore 4, 2, [4], .null, []),
  (17, .iload 4, 2, [4], .null, [true, true, false, true, true]),
  (19, .iload_n 3, 1, [3], .null, []),
  (20, .if_icmp .ge 22, 3, [42], .null, []),
  (23, .aload_n 0, 1, [0], .null, []),
  (24, .getfield 9, 3, [6, 0, 2, 44, 46, 423], .null, []),
  (27, .iload_n 1, 1, [1], .null, []),
  (28, .bipush 40, 2, [], .int 40, []),
  (30, .imul, 1, [], .null, []),
  (31, .iload 4, 2, [4], .null, []),
  (33, .iadd, 1, [], .null, []),
  (34, .iconst 0, 1, [], .int 0, []),
  (35, .iastore, 1, [], .null, []),
  (36, .iinc 4 1, 3, [4], .int 1, []),
  (39, .goto (-22), 3, [17], .null, []),
  (42, .return_, 1, [], .null, [])]
abbrev kX6_renew : Nat := 51
abbrev zq_m51 : zq_T := (yX6_renew, cX6_renew, 5, none, zq_c51, (0, 0), [1007, 94, 1005, 1006])
def zq_c52 : List zq_I := [
  (0, .iload_n 2, 1, [2], .null, []),
  (1, .ifCond .lt 17, 3, [18], .null, []),
  (4, .iload_n 2, 1, [2], .null, []),
  (5, .aload_n 0, 1, [0], .null, []),
  (6, .getfield 18, 3, [6, 2, 2, 44, 48, 426], .null, []),
  (9, .iload_n 1, 1, [1], .null, []),
  (10, .iaload, 1, [], .null, []),
  (11, .if_icmp .ge 7, 3, [18], .null, []),
  (14, .iconst 1, 1, [], .int 1, []),
  (15, .goto 4, 3, [19], .null, []),
  (18, .iconst 0, 1, [], .int 0, []),
  (19, .ireturn, 1, [], .null, [])]
abbrev kX6_hasItem : Nat := 52
abbrev zq_m52 : zq_T := (yX6_hasItem, cX6_hasItem, 3, (some .boolean), zq_c52, (0, 0), [1015, 94, 1013, 1014])
def zq_c53 : List zq_I := [
  (0, .iload_n 2, 1, [2], .null, []),
  (1, .ifCond .lt 33, 3, [34], .null, []),
  (4, .iload_n 3, 1, [3], .null, []),
  (5, .ifCond .lt 29, 3, [34], .null, []),
  (8, .iload_n 2, 1, [2], .null, []),
  (9, .aload_n 0, 1, [0], .null, []),
  (10, .getfield 18, 3, [6, 2, 2, 44, 48, 426], .null, []),
  (13, .iload_n 1, 1, [1], .null, []),
  (14, .iaload, 1, [], .null, []),
  (15, .if_icmp .gt 19, 3, [34], .null, []),
  (18, .iload_n 3, 1, [3], .null, []),
  (19, .aload_n 0, 1, [0], .null, []),
  (20, .getfield 18, 3, [6, 2, 2, 44, 48, 426], .null, []),
  (23, .iload_n 1, 1, [1], .null, []),
  (24, .iaload, 1, [], .null, []),
  (25, .iload_n 2, 1, [2], .null, []),
  (26, .isub, 1, [], .null, []),
  (27, .if_icmp .gt 7, 3, [34], .null, []),
  (30, .iconst 1, 1, [], .int 1, []),
  (31, .goto 4, 3, [35], .null, []),
  (34, .iconst 0, 1, [], .int 0, []),
  (35, .ireturn, 1, [], .null, [])]
abbrev kX6_hasRow : Nat := 53
abbrev zq_m53 : zq_T := (yX6_hasRow, cX6_hasRow, 4, (some .boolean), zq_c53, (0, 0), [1027, 94, 1025, 1026])
def zq_c54 : List zq_I := [
  (0, .aload_n 0, 1, [0], .null, []),
  (1, .getfield 9, 3, [6, 0, 2, 44, 46, 423], .null, []),
  (4, .iload_n 1, 1, [1], .null, []),
  (5, .bipush 40, 2, [], .int 40, []),
  (7, .imul, 1, [], .null, []),
  (8, .iload_n 2, 1, [2], .null, []),
  (9, .iadd, 1, [], .null, []),
  (10, .iaload, 1, [], .null, []),
  (11, .ireturn, 1, [], .null, [])]
abbrev kX6_item : Nat := 54
abbrev zq_m54 : zq_T := (yX6_item, cX6_item, 3, (some .int), zq_c54, (0, 0), [963, 94, 961, 962])
def zq_c55 : List zq_I := [
  (0, .iload_n 3, 1, [3], .null, []),
  (1, .istore 4, 2, [4], .null, []),
  (3, .aload_n 0, 1, [0], .null, []),
  (4, .getfield 15, 3, [6, 1, 2, 44, 47, 424], .null, []),
  (7, .iload_n 1, 1, [1], .null, []),
  (8, .iaload, 1, [], .null, []),
  (9, .ifCond .ne 10, 3, [19], .null, []),
  (12, .iload_n 3, 1, [3], .null, []),
  (13, .i2b, 1, [], .null, []),
  (14, .istore 4, 2, [4], .null, []),
  (16, .goto 17, 3, [33], .null, []),
  (19, .aload_n 0, 1, [0], .null, []),
  (20, .getfield 15, 3, [6, 1, 2, 44, 47, 424], .null, []),
  (23, .iload_n 1, 1, [1], .null, []),
  (24, .iaload, 1, [], .null, []),
  (25, .iconst 1, 1, [], .int 1, []),
  (26, .if_icmp .ne 7, 3, [33], .null, []),
  (29, .iload_n 3, 1, [3], .null, []),
  (30, .i2s, 1, [], .null, []),
  (31, .istore 4, 2, [4], .null, []),
  (33, .aload_n 0, 1, [0], .null, []),
  (34, .getfield 9, 3, [6, 0, 2, 44, 46, 423], .null, []),
  (37, .iload_n 1, 1, [1], .null, []),
  (38, .bipush 40, 2, [], .int 40, []),
  (40, .imul, 1, [], .null, []),
  (41, .iload_n 2, 1, [2], .null, []),
  (42, .iadd, 1, [], .null, []),
  (43, .iload 4, 2, [4], .null, []),
  (45, .iastore, 1, [], .null, []),
  (46, .return_, 1, [], .null, [])]
abbrev kX6_write : Nat := 55
abbrev zq_m55 : zq_T := (yX6_write, cX6_write, 5, none, zq_c55, (0, 0), [1019, 94, 1017, 1018])
def zq_c56 : List zq_I := [
  (0, .aload_n 0, 1, [0], .null, []),
  (1, .getfield 9, 3, [6, 0, 2, 44, 46, 423], .null, []),
  (4, .iload_n 1, 1, [1], .null, []),
  (5, .bipush 40, 2, [], .int 40, []),
  (7, .imul, 1, [], .null, []),
  (8, .iload_n 2, 1, [2], .null, []),
  (9, .iadd, 1, [], .null, []),
  (10, .aload_n 0, 1, [0], .null, []),
  (11, .getfield 9, 3, [6, 0, 2, 44, 46, 423], .null, []),
  (14, .iload_n 3, 1, [3], .null, []),
  (15, .bipush 40, 2, [], .int 40, []),
  (17, .imul, 1, [], .null, []),
  (18, .iload 4, 2, [4], .null, []),
  (20, .iadd, 1, [], .null, []),
  (21, .iload 5, 2, [5], .null, []),
  (23, .invokestatic 21, 3, [5, 1032], .null, []),
  (26, .return_, 1, [], .null, [])]
abbrev kX6_copyRow : Nat := 56
abbrev zq_m56 : zq_T := (yX6_copyRow, cX6_copyRow, 6, none, zq_c56, (0, 0), [1031, 94, 1029, 1030])
def zq_c57 : List zq_I := [
  (0, .aload_n 0, 1, [0], .null, []),
  (1, .invokespecial 3, 3, [0, 113], .null, []),
  (4, .aload_n 0, 1, [0], .null, []),
  (5, .bipush 10, 2, [], .int 10, []),
  (7, .newarray .int, 2, [137], .null, []),
  (9, .putfield 9, 3, [7, 0, 2, 1, 3, 114], .null, []),
  (12, .aload_n 0, 1, [0], .null, []),
  (13, .bipush 10, 2, [], .int 10, []),
  (15, .newarray .int, 2, [137], .null, []),
  (17, .putfield 15, 3, [7, 1, 2, 1, 4, 117], .null, []),
  (20, .aload_n 0, 1, [0], .null, []),
  (21, .bipush 10, 2, [], .int 10, []),
  (23, .newarray .int, 2, [137], .null, []),
  (25, .putfield 18, 3, [7, 2, 2, 1, 5, 120], .null, []),
  (28, .return_, 1, [], .null, [])]
abbrev kX7_init : Nat := 57
abbrev zq_m57 : zq_T := (yX7_init, cX7_init, 1, none, zq_c57, (3, 30), [112, 82, 111, 0])
def zq_c58 : List zq_I := [
  (0, .iload_n 1, 1, [1], .null, []),
  (1, .ifCond .lt 15, 3, [16], .null, []),
  (4, .iload_n 1, 1, [1], .null, []),
  (5, .aload_n 0, 1, [0], .null, []),
  (6, .getfield 21, 3, [7, 3, 0, 1, 0, 121], .null, []),
  (9, .if_icmp .ge 7, 3, [16], .null, []),
  (12, .iconst 1, 1, [], .int 1, []),
  (13, .goto 4, 3, [17], .null, []),
  (16, .iconst 0, 1, [], .int 0, []),
  (17, .ireturn, 1, [], .null, [])]
abbrev kX7_has : Nat := 58
abbrev zq_m58 : zq_T := (yX7_has, cX7_has, 2, (some .boolean), zq_c58, (0, 0), [513, 82, 511, 512])
def zq_c59 : List zq_I := [
  (0, .iconst 0, 1, [], .int 0, []),
  (1, .istore_n 2, 1, [2], .null, []),
  (2, .iload_n 2, 1, [2], .null, [true, true, true]),
  (3, .aload_n 0, 1, [0], .null, []),
  (4, .getfield 21, 3, [7, 3, 0, 1, 0, 121], .null, []),
  (7, .if_icmp .ge 21, 3, [28], .null, []),
  (10, .aload_n 0, 1, [0], .null, []),
  (11, .getfield 15, 3, [7, 1, 2, 1, 4, 117], .null, []),
  (14, .iload_n 2, 1, [2], .null, []),
  (15, .iaload, 1, [], .null, []),
  (16, .iload_n 1, 1, [1], .null, []),
  (17, .if_icmp .ne 5, 3, [22], .null, []),
  (20, .iconst 1, 1, [], .int 1, []),
  (21, .ireturn, 1, [], .null, []),
  (22, .iinc 2 1, 3, [2], .int 1, []),
  (25, .goto (-23), 3, [2], .null, []),
  (28, .iconst 0, 1, [], .int 0, []),
  (29, .ireturn, 1, [], .null, [])]
abbrev kX7_someAt : Nat := 59
abbrev zq_m59 : zq_T := (yX7_someAt, cX7_someAt, 3, (some .boolean), zq_c59, (0, 0), [482, 82, 480, 481])
def zq_c60 : List zq_I := [
  (0, .aload_n 0, 1, [0], .null, []),
  (1, .getfield 21, 3, [7, 3, 0, 1, 0, 121], .null, []),
  (4, .bipush 10, 2, [], .int 10, []),
  (6, .if_icmp .lt 6, 3, [12], .null, []),
  (9, .bipush (-4), 2, [], .int (-4), []),
  (11, .ireturn, 1, [], .null, []),
  (12, .aload_n 0, 1, [0], .null, []),
  (13, .getfield 9, 3, [7, 0, 2, 1, 3, 114], .null, []),
  (16, .aload_n 0, 1, [0], .null, []),
  (17, .getfield 21, 3, [7, 3, 0, 1, 0, 121], .null, []),
  (20, .iload_n 1, 1, [1], .null, []),
  (21, .iastore, 1, [], .null, []),
  (22, .aload_n 0, 1, [0], .null, []),
  (23, .getfield 15, 3, [7, 1, 2, 1, 4, 117], .null, []),
  (26, .aload_n 0, 1, [0], .null, []),
  (27, .getfield 21, 3, [7, 3, 0, 1, 0, 121], .null, []),
  (30, .iload_n 2, 1, [2], .null, []),
  (31, .iastore, 1, [], .null, []),
  (32, .aload_n 0, 1, [0], .null, []),
  (33, .dup, 1, [], .null, []),
  (34, .getfield 21, 3, [7, 3, 0, 1, 0, 121], .null, []),
  (37, .iconst 1, 1, [], .int 1, []),
  (38, .iadd, 1, [], .null, []),
  (39, .putfield 21, 3, [7, 3, 0, 1, 0, 121], .null, []),
  (42, .aload_n 0, 1, [0], .null, []),
  (43, .getfield 21, 3, [7, 3, 0, 1, 0, 121], .null, []),
  (46, .iconst 1, 1, [], .int 1, []),
  (47, .isub, 1, [], .null, []),
  (48, .ireturn, 1, [], .null, [])]
abbrev kX7_put : Nat := 60
abbrev zq_m60 : zq_T := (yX7_put, cX7_put, 3, (some .int), zq_c60, (0, 0), [486, 82, 484, 485])
def zq_c61 : List zq_I := [
  (0, .aload_n 0, 1, [0], .null, []),
  (1, .getfield 21, 3, [7, 3, 0, 1, 0, 121], .null, []),
  (4, .ifCond .le 12, 3, [16], .null, []),
  (7, .aload_n 0, 1, [0], .null, []),
  (8, .getfield 9, 3, [7, 0, 2, 1, 3, 114], .null, []),
  (11, .iconst 0, 1, [], .int 0, []),
  (12, .iaload, 1, [], .null, []),
  (13, .goto 4, 3, [17], .null, []),
  (16, .iconst 0, 1, [], .int 0, []),
  (17, .istore_n 1, 1, [1], .null, []),
  (18, .iconst 1, 1, [], .int 1, []),
  (19, .istore_n 2, 1, [2], .null, []),
  (20, .iload_n 2, 1, [2], .null, [true, true, true]),
  (21, .aload_n 0, 1, [0], .null, []),
  (22, .getfield 21, 3, [7, 3, 0, 1, 0, 121], .null, []),
  (25, .if_icmp .ge 20, 3, [45], .null, []),
  (28, .iload_n 1, 1, [1], .null, []),
  (29, .aload_n 0, 1, [0], .null, []),
  (30, .getfield 9, 3, [7, 0, 2, 1, 3, 114], .null, []),
  (33, .iload_n 2, 1, [2], .null, []),
  (34, .iaload, 1, [], .null, []),
  (35, .invokestatic 25, 3, [3, 892], .null, []),
  (38, .istore_n 1, 1, [1], .null, []),
  (39, .iinc 2 1, 3, [2], .int 1, []),
  (42, .goto (-22), 3, [20], .null, []),
  (45, .iload_n 1, 1, [1], .null, []),
  (46, .ireturn, 1, [], .null, [])]
abbrev kX7_lightest : Nat := 61
abbrev zq_m61 : zq_T := (yX7_lightest, cX7_lightest, 3, (some .int), zq_c61, (0, 0), [891, 82, 889, 890])
def zq_c62 : List zq_I := [
  (0, .aload_n 0, 1, [0], .null, []),
  (1, .getfield 15, 3, [7, 1, 2, 1, 4, 117], .null, []),
  (4, .iconst 0, 1, [], .int 0, []),
  (5, .aload_n 0, 1, [0], .null, []),
  (6, .getfield 18, 3, [7, 2, 2, 1, 5, 120], .null, []),
  (9, .iconst 0, 1, [], .int 0, []),
  (10, .aload_n 0, 1, [0], .null, []),
  (11, .getfield 21, 3, [7, 3, 0, 1, 0, 121], .null, []),
  (14, .invokestatic 31, 3, [5, 972], .null, []),
  (17, .aload_n 0, 1, [0], .null, []),
  (18, .aload_n 0, 1, [0], .null, []),
  (19, .getfield 21, 3, [7, 3, 0, 1, 0, 121], .null, []),
  (22, .putfield 37, 3, [7, 4, 0, 1, 0, 125], .null, []),
  (25, .return_, 1, [], .null, [])]
abbrev kX7_keepPlaces : Nat := 62
abbrev zq_m62 : zq_T := (yX7_keepPlaces, cX7_keepPlaces, 1, none, zq_c62, (0, 0), [971, 82, 969, 970])
def zq_c63 : List zq_I := [
  (0, .aload_n 0, 1, [0], .null, []),
  (1, .getfield 18, 3, [7, 2, 2, 1, 5, 120], .null, []),
  (4, .iconst 0, 1, [], .int 0, []),
  (5, .aload_n 0, 1, [0], .null, []),
  (6, .getfield 15, 3, [7, 1, 2, 1, 4, 117], .null, []),
  (9, .iconst 0, 1, [], .int 0, []),
  (10, .aload_n 0, 1, [0], .null, []),
  (11, .getfield 37, 3, [7, 4, 0, 1, 0, 125], .null, []),
  (14, .invokestatic 31, 3, [5, 972], .null, []),
  (17, .return_, 1, [], .null, [])]
abbrev kX7_layBack : Nat := 63
abbrev zq_m63 : zq_T := (yX7_layBack, cX7_layBack, 1, none, zq_c63, (0, 0), [984, 82, 982, 983])
def zq_c64 : List zq_I := [
  (0, .iload_n 3, 1, [3], .null, []),
  (1, .iconst 2, 1, [], .int 2, []),
  (2, .if_icmp .ge 7, 3, [9], .null, []),
  (5, .iconst 1, 1, [], .int 1, []),
  (6, .goto 4, 3, [10], .null, []),
  (9, .iconst 0, 1, [], .int 0, []),
  (10, .istore 4, 2, [4], .null, []),
  (12, .aload_n 1, 1, [1], .null, []),
  (13, .iload_n 2, 1, [2], .null, []),
  (14, .iaload, 1, [], .null, []),
  (15, .iload_n 3, 1, [3], .null, []),
  (16, .invokestatic 40, 3, [1, 65, 2, 2, 749, 7, 1, 0, 0], .null, []),
  (19, .istore 5, 2, [5], .null, []),
  (21, .aload_n 1, 1, [1], .null, []),
  (22, .iload_n 2, 1, [2], .null, []),
  (23, .iaload, 1, [], .null, []),
  (24, .iload_n 3, 1, [3], .null, []),
  (25, .iconst 1, 1, [], .int 1, []),
  (26, .iadd, 1, [], .null, []),
  (27, .invokestatic 40, 3, [1, 65, 2, 2, 749, 7, 1, 0, 0], .null, []),
  (30, .istore 6, 2, [6], .null, []),
  (32, .iload 4, 2, [4], .null, []),
  (34, .ifCond .eq 11, 3, [45], .null, []),
  (37, .bipush 63, 2, [], .int 63, []),
  (39, .iload 5, 2, [5], .null, []),
  (41, .isub, 1, [], .null, []),
  (42, .goto 5, 3, [47], .null, []),
  (45, .iload 5, 2, [5], .null, []),
  (47, .istore 7, 2, [7], .null, []),
  (49, .iconst 0, 1, [], .int 0, []),
  (50, .istore 8, 2, [8], .null, []),
  (52, .iload 8, 2, [8], .null, [true, true, false, true, true, true, true, true, true, false]),
  (54, .aload_n 0, 1, [0], .null, []),
  (55, .getfield 21, 3, [7, 3, 0, 1, 0, 121], .null, []),
  (58, .if_icmp .ge 65, 3, [123], .null, []),
  (61, .aload_n 1, 1, [1], .null, []),
  (62, .iload 8, 2, [8], .null, []),
  (64, .iaload, 1, [], .null, []),
  (65, .iload_n 3, 1, [3], .null, []),
  (66, .iconst 1, 1, [], .int 1, []),
  (67, .iadd, 1, [], .null, []),
  (68, .invokestatic 40, 3, [1, 65, 2, 2, 749, 7, 1, 0, 0], .null, []),
  (71, .iload 6, 2, [6], .null, []),
  (73, .if_icmp .ne 44, 3, [117], .null, []),
  (76, .aload_n 1, 1, [1], .null, []),
  (77, .iload 8, 2, [8], .null, []),
  (79, .iaload, 1, [], .null, []),
  (80, .iload_n 3, 1, [3], .null, []),
  (81, .invokestatic 40, 3, [1, 65, 2, 2, 749, 7, 1, 0, 0], .null, []),
  (84, .iload 5, 2, [5], .null, []),
  (86, .isub, 1, [], .null, []),
  (87, .istore 9, 2, [9], .null, []),
  (89, .iload 4, 2, [4], .null, []),
  (91, .ifCond .ne 8, 3, [99], .null, []),
  (94, .iload 9, 2, [9], .null, []),
  (96, .ineg, 1, [], .null, []),
  (97, .istore 9, 2, [9], .null, []),
  (99, .iload 9, 2, [9], .null, []),
  (101, .ifCond .le 16, 3, [117], .null, []),
  (104, .iload 9, 2, [9], .null, []),
  (106, .iload 7, 2, [7], .null, []),
  (108, .if_icmp .gt 9, 3, [117], .null, []),
  (111, .iload 9, 2, [9], .null, []),
  (113, .iconst 1, 1, [], .int 1, []),
  (114, .isub, 1, [], .null, []),
  (115, .istore 7, 2, [7], .null, []),
  (117, .iinc 8 1, 3, [8], .int 1, []),
  (120, .goto (-68), 3, [52], .null, []),
  (123, .iload 7, 2, [7], .null, []),
  (125, .ireturn, 1, [], .null, [])]
abbrev kX7_roomAhead : Nat := 64
abbrev zq_m64 : zq_T := (yX7_roomAhead, cX7_roomAhead, 10, (some .int), zq_c64, (0, 0), [748, 82, 746, 747])
end
section
def zq_c65 : List zq_I := [
  (0, .iload_n 1, 1, [1], .null, []),
  (1, .iconst 1, 1, [], .int 1, []),
  (2, .iand, 1, [], .null, []),
  (3, .ifCond .ne 10, 3, [13], .null, []),
  (6, .iload_n 0, 1, [0], .null, []),
  (7, .bipush 64, 2, [], .int 64, []),
  (9, .irem, 1, [], .null, []),
  (10, .goto 7, 3, [17], .null, []),
  (13, .iload_n 0, 1, [0], .null, []),
  (14, .bipush 64, 2, [], .int 64, []),
  (16, .idiv, 1, [], .null, []),
  (17, .ireturn, 1, [], .null, [])]
abbrev kX7_coordinate : Nat := 65
abbrev zq_m65 : zq_T := (yX7_coordinate, cX7_coordinate, 2, (some .int), zq_c65, (0, 0), [751, 82, 750, 0])
def zq_c66 : List zq_I := [
  (0, .aload_n 0, 1, [0], .null, []),
  (1, .invokespecial 3, 3, [0, 197], .null, []),
  (4, .aload_n 0, 1, [0], .null, []),
  (5, .sipush 960, 3, [], .int 960, []),
  (8, .newarray .int, 2, [137], .null, []),
  (10, .putfield 9, 3, [8, 0, 2, 13, 15, 219], .null, []),
  (13, .aload_n 0, 1, [0], .null, []),
  (14, .bipush 18, 2, [], .int 18, []),
  (16, .newarray .int, 2, [137], .null, []),
  (18, .putfield 15, 3, [8, 1, 2, 13, 16, 220], .null, []),
  (21, .aload_n 0, 1, [0], .null, []),
  (22, .bipush 6, 2, [], .int 6, []),
  (24, .newarray .int, 2, [137], .null, []),
  (26, .putfield 18, 3, [8, 2, 2, 13, 17, 221], .null, []),
  (29, .aload_n 0, 1, [0], .null, []),
  (30, .bipush 40, 2, [], .int 40, []),
  (32, .newarray .int, 2, [137], .null, []),
  (34, .putfield 21, 3, [8, 3, 2, 13, 18, 222], .null, []),
  (37, .aload_n 0, 1, [0], .null, []),
  (38, .getstatic 24, 3, [2, 1, 0], .null, []),
  (41, .getstatic 27, 3, [3, 1, 1], .null, []),
  (44, .invokevirtual 30, 3, [1, 67, 2, 4, 202, 8, 1, 0, 0], .null, []),
  (47, .pop, 1, [], .null, []),
  (48, .return_, 1, [], .null, [])]
abbrev kX8_init : Nat := 66
abbrev zq_m66 : zq_T := (yX8_init, cX8_init, 1, none, zq_c66, (4, 1024), [196, 85, 195, 0])
def zq_c67 : List zq_I := [
  (0, .aload_n 0, 1, [0], .null, []),
  (1, .getfield 34, 3, [8, 4, 0, 13, 0, 223], .null, []),
  (4, .bipush 6, 2, [], .int 6, []),
  (6, .if_icmp .ge 9, 3, [15], .null, []),
  (9, .aload_n 2, 1, [2], .null, []),
  (10, .arraylength, 1, [], .null, []),
  (11, .iconst 3, 1, [], .int 3, []),
  (12, .if_icmp .ge 6, 3, [18], .null, []),
  (15, .bipush (-4), 2, [], .int (-4), []),
  (17, .ireturn, 1, [], .null, []),
  (18, .aload_n 2, 1, [2], .null, []),
  (19, .iconst 2, 1, [], .int 2, []),
  (20, .iaload, 1, [], .null, []),
  (21, .iconst 0, 1, [], .int 0, []),
  (22, .aload_n 1, 1, [1], .null, []),
  (23, .arraylength, 1, [], .null, []),
  (24, .sipush 160, 3, [], .int 160, []),
  (27, .invokestatic 38, 3, [3, 206], .null, []),
  (30, .invokestatic 44, 3, [8, 126, 3, 3, 3, 11, 1, 0, 0], .null, []),
  (33, .istore_n 3, 1, [3], .null, []),
  (34, .aload_n 1, 1, [1], .null, []),
  (35, .iconst 0, 1, [], .int 0, []),
  (36, .aload_n 0, 1, [0], .null, []),
  (37, .getfield 9, 3, [8, 0, 2, 13, 15, 219], .null, []),
  (40, .aload_n 0, 1, [0], .null, []),
  (41, .getfield 34, 3, [8, 4, 0, 13, 0, 223], .null, []),
  (44, .sipush 160, 3, [], .int 160, []),
  (47, .imul, 1, [], .null, []),
  (48, .iload_n 3, 1, [3], .null, []),
  (49, .invokestatic 48, 3, [5, 216], .null, []),
  (52, .aload_n 2, 1, [2], .null, []),
  (53, .iconst 0, 1, [], .int 0, []),
  (54, .aload_n 0, 1, [0], .null, []),
  (55, .getfield 15, 3, [8, 1, 2, 13, 16, 220], .null, []),
  (58, .aload_n 0, 1, [0], .null, []),
  (59, .getfield 34, 3, [8, 4, 0, 13, 0, 223], .null, []),
  (62, .iconst 3, 1, [], .int 3, []),
  (63, .imul, 1, [], .null, []),
  (64, .iconst 3, 1, [], .int 3, []),
  (65, .invokestatic 48, 3, [5, 216], .null, []),
  (68, .aload_n 0, 1, [0], .null, []),
  (69, .dup, 1, [], .null, []),
  (70, .getfield 34, 3, [8, 4, 0, 13, 0, 223], .null, []),
  (73, .iconst 1, 1, [], .int 1, []),
  (74, .iadd, 1, [], .null, []),
  (75, .putfield 34, 3, [8, 4, 0, 13, 0, 223], .null, []),
  (78, .aload_n 0, 1, [0], .null, []),
  (79, .getfield 34, 3, [8, 4, 0, 13, 0, 223], .null, []),
  (82, .iconst 1, 1, [], .int 1, []),
  (83, .isub, 1, [], .null, []),
  (84, .ireturn, 1, [], .null, [])]
abbrev kX8_keep : Nat := 67
abbrev zq_m67 : zq_T := (yX8_keep, cX8_keep, 4, (some .int), zq_c67, (0, 0), [205, 85, 203, 204])
def zq_c68 : List zq_I := [
  (0, .aload_n 0, 1, [0], .null, []),
  (1, .getfield 18, 3, [8, 2, 2, 13, 17, 221], .null, []),
  (4, .iconst 0, 1, [], .int 0, []),
  (5, .iload_n 1, 1, [1], .null, []),
  (6, .iastore, 1, [], .null, []),
  (7, .aload_n 0, 1, [0], .null, []),
  (8, .getfield 18, 3, [8, 2, 2, 13, 17, 221], .null, []),
  (11, .iconst 4, 1, [], .int 4, []),
  (12, .iload_n 2, 1, [2], .null, []),
  (13, .iastore, 1, [], .null, []),
  (14, .return_, 1, [], .null, [])]
abbrev kX8_tellStone : Nat := 68
abbrev zq_m68 : zq_T := (yX8_tellStone, cX8_tellStone, 3, none, zq_c68, (0, 0), [553, 85, 551, 552])
def zq_c69 : List zq_I := [
  (0, .aload_n 0, 1, [0], .null, []),
  (1, .getfield 18, 3, [8, 2, 2, 13, 17, 221], .null, []),
  (4, .iconst 5, 1, [], .int 5, []),
  (5, .iload_n 1, 1, [1], .null, []),
  (6, .iastore, 1, [], .null, []),
  (7, .aload_n 0, 1, [0], .null, []),
  (8, .getfield 18, 3, [8, 2, 2, 13, 17, 221], .null, []),
  (11, .iconst 1, 1, [], .int 1, []),
  (12, .iload_n 2, 1, [2], .null, []),
  (13, .iastore, 1, [], .null, []),
  (14, .aload_n 0, 1, [0], .null, []),
  (15, .getfield 18, 3, [8, 2, 2, 13, 17, 221], .null, []),
  (18, .iconst 2, 1, [], .int 2, []),
  (19, .iload_n 3, 1, [3], .null, []),
  (20, .iastore, 1, [], .null, []),
  (21, .aload_n 0, 1, [0], .null, []),
  (22, .getfield 18, 3, [8, 2, 2, 13, 17, 221], .null, []),
  (25, .iconst 3, 1, [], .int 3, []),
  (26, .iload 4, 2, [4], .null, []),
  (28, .iastore, 1, [], .null, []),
  (29, .return_, 1, [], .null, [])]
abbrev kX8_tellNight : Nat := 69
abbrev zq_m69 : zq_T := (yX8_tellNight, cX8_tellNight, 5, none, zq_c69, (0, 0), [557, 85, 555, 556])
def zq_c70 : List zq_I := [
  (0, .iload_n 1, 1, [1], .null, []),
  (1, .ifCond .ne 7, 3, [8], .null, []),
  (4, .iconst 0, 1, [], .int 0, []),
  (5, .goto 18, 3, [23], .null, []),
  (8, .aload_n 0, 1, [0], .null, []),
  (9, .getfield 15, 3, [8, 1, 2, 13, 16, 220], .null, []),
  (12, .aload_n 0, 1, [0], .null, []),
  (13, .getfield 54, 3, [8, 5, 0, 13, 0, 225], .null, []),
  (16, .iconst 3, 1, [], .int 3, []),
  (17, .imul, 1, [], .null, []),
  (18, .iload_n 1, 1, [1], .null, []),
  (19, .iadd, 1, [], .null, []),
  (20, .iconst 1, 1, [], .int 1, []),
  (21, .isub, 1, [], .null, []),
  (22, .iaload, 1, [], .null, []),
  (23, .istore_n 2, 1, [2], .null, []),
  (24, .sipush 160, 3, [], .int 160, []),
  (27, .aload_n 0, 1, [0], .null, []),
  (28, .getfield 15, 3, [8, 1, 2, 13, 16, 220], .null, []),
  (31, .aload_n 0, 1, [0], .null, []),
  (32, .getfield 54, 3, [8, 5, 0, 13, 0, 225], .null, []),
  (35, .iconst 3, 1, [], .int 3, []),
  (36, .imul, 1, [], .null, []),
  (37, .iload_n 1, 1, [1], .null, []),
  (38, .iadd, 1, [], .null, []),
  (39, .iaload, 1, [], .null, []),
  (40, .invokestatic 38, 3, [3, 206], .null, []),
  (43, .istore_n 3, 1, [3], .null, []),
  (44, .iconst 0, 1, [], .int 0, []),
  (45, .istore 4, 2, [4], .null, []),
  (47, .iload_n 2, 1, [2], .null, []),
  (48, .istore 5, 2, [5], .null, []),
  (50, .iload 5, 2, [5], .null, [true, false, false, true, true, true]),
  (52, .iload_n 3, 1, [3], .null, []),
  (53, .if_icmp .ge 33, 3, [86], .null, []),
  (56, .aload_n 0, 1, [0], .null, []),
  (57, .aload_n 0, 1, [0], .null, []),
  (58, .getfield 9, 3, [8, 0, 2, 13, 15, 219], .null, []),
  (61, .aload_n 0, 1, [0], .null, []),
  (62, .getfield 54, 3, [8, 5, 0, 13, 0, 225], .null, []),
  (65, .sipush 160, 3, [], .int 160, []),
  (68, .imul, 1, [], .null, []),
  (69, .iload 5, 2, [5], .null, []),
  (71, .iadd, 1, [], .null, []),
  (72, .iaload, 1, [], .null, []),
  (73, .iload 4, 2, [4], .null, []),
  (75, .invokevirtual 57, 3, [1, 71, 2, 3, 562, 8, 1, 0, 0], .null, []),
  (78, .istore 4, 2, [4], .null, []),
  (80, .iinc 5 1, 3, [5], .int 1, []),
  (83, .goto (-33), 3, [50], .null, []),
  (86, .iload 4, 2, [4], .null, []),
  (88, .ifCond .le 12, 3, [100], .null, []),
  (91, .aload_n 0, 1, [0], .null, []),
  (92, .getfield 21, 3, [8, 3, 2, 13, 18, 222], .null, []),
  (95, .iconst 0, 1, [], .int 0, []),
  (96, .iaload, 1, [], .null, []),
  (97, .goto 4, 3, [101], .null, []),
  (100, .iconst 0, 1, [], .int 0, []),
  (101, .ireturn, 1, [], .null, [])]
abbrev kX8_value : Nat := 70
abbrev zq_m70 : zq_T := (yX8_value, cX8_value, 6, (some .int), zq_c70, (0, 0), [561, 85, 559, 560])
def zq_c71 : List zq_I := [
  (0, .iload_n 1, 1, [1], .null, []),
  (1, .bipush (-6), 2, [], .int (-6), []),
  (3, .if_icmp .lt 37, 3, [40], .null, []),
  (6, .iload_n 2, 1, [2], .null, []),
  (7, .bipush 40, 2, [], .int 40, []),
  (9, .if_icmp .lt 5, 3, [14], .null, []),
  (12, .iload_n 2, 1, [2], .null, []),
  (13, .ireturn, 1, [], .null, []),
  (14, .aload_n 0, 1, [0], .null, []),
  (15, .getfield 21, 3, [8, 3, 2, 13, 18, 222], .null, []),
  (18, .iload_n 2, 1, [2], .null, []),
  (19, .iload_n 1, 1, [1], .null, []),
  (20, .ifCond .lt 7, 3, [27], .null, []),
  (23, .iload_n 1, 1, [1], .null, []),
  (24, .goto 11, 3, [35], .null, []),
  (27, .aload_n 0, 1, [0], .null, []),
  (28, .getfield 18, 3, [8, 2, 2, 13, 17, 221], .null, []),
  (31, .iconst (-1), 1, [], .int (-1), []),
  (32, .iload_n 1, 1, [1], .null, []),
  (33, .isub, 1, [], .null, []),
  (34, .iaload, 1, [], .null, []),
  (35, .iastore, 1, [], .null, []),
  (36, .iload_n 2, 1, [2], .null, []),
  (37, .iconst 1, 1, [], .int 1, []),
  (38, .iadd, 1, [], .null, []),
  (39, .ireturn, 1, [], .null, []),
  (40, .iload_n 1, 1, [1], .null, []),
  (41, .bipush (-9), 2, [], .int (-9), []),
  (43, .if_icmp .eq 9, 3, [52], .null, []),
  (46, .iload_n 1, 1, [1], .null, []),
  (47, .bipush (-15), 2, [], .int (-15), []),
  (49, .if_icmp .ne 55, 3, [104], .null, []),
  (52, .iload_n 2, 1, [2], .null, []),
  (53, .iconst 1, 1, [], .int 1, []),
  (54, .if_icmp .lt 48, 3, [102], .null, []),
  (57, .aload_n 0, 1, [0], .null, []),
  (58, .getfield 21, 3, [8, 3, 2, 13, 18, 222], .null, []),
  (61, .iload_n 2, 1, [2], .null, []),
  (62, .iconst 1, 1, [], .int 1, []),
  (63, .isub, 1, [], .null, []),
  (64, .iload_n 1, 1, [1], .null, []),
  (65, .bipush (-9), 2, [], .int (-9), []),
  (67, .if_icmp .ne 25, 3, [92], .null, []),
  (70, .aload_n 0, 1, [0], .null, []),
  (71, .getfield 21, 3, [8, 3, 2, 13, 18, 222], .null, []),
  (74, .iload_n 2, 1, [2], .null, []),
  (75, .iconst 1, 1, [], .int 1, []),
  (76, .isub, 1, [], .null, []),
  (77, .iaload, 1, [], .null, []),
  (78, .ifCond .ne 7, 3, [85], .null, []),
  (81, .iconst 1, 1, [], .int 1, []),
  (82, .goto 4, 3, [86], .null, []),
  (85, .iconst 0, 1, [], .int 0, []),
  (86, .invokestatic 60, 3, [8, 125, 1, 1, 9, 11, 1, 0, 0], .null, []),
  (89, .goto 12, 3, [101], .null, []),
  (92, .aload_n 0, 1, [0], .null, []),
  (93, .getfield 21, 3, [8, 3, 2, 13, 18, 222], .null, []),
  (96, .iload_n 2, 1, [2], .null, []),
  (97, .iconst 1, 1, [], .int 1, []),
  (98, .isub, 1, [], .null, []),
  (99, .iaload, 1, [], .null, []),
  (100, .ineg, 1, [], .null, []),
  (101, .iastore, 1, [], .null, []),
  (102, .iload_n 2, 1, [2], .null, []),
  (103, .ireturn, 1, [], .null, []),
  (104, .iload_n 2, 1, [2], .null, []),
  (105, .iconst 2, 1, [], .int 2, []),
  (106, .if_icmp .ge 5, 3, [111], .null, []),
  (109, .iload_n 2, 1, [2], .null, []),
  (110, .ireturn, 1, [], .null, []),
  (111, .aload_n 0, 1, [0], .null, []),
  (112, .getfield 21, 3, [8, 3, 2, 13, 18, 222], .null, []),
  (115, .iload_n 2, 1, [2], .null, []),
  (116, .iconst 2, 1, [], .int 2, []),
  (117, .isub, 1, [], .null, []),
  (118, .iload_n 1, 1, [1], .null, []),
  (119, .aload_n 0, 1, [0], .null, []),
  (120, .getfield 21, 3, [8, 3, 2, 13, 18, 222], .null, []),
  (123, .iload_n 2, 1, [2], .null, []),
  (124, .iconst 2, 1, [], .int 2, []),
  (125, .isub, 1, [], .null, []),
  (126, .iaload, 1, [], .null, []),
  (127, .aload_n 0, 1, [0], .null, []),
  (128, .getfield 21, 3, [8, 3, 2, 13, 18, 222], .null, []),
  (131, .iload_n 2, 1, [2], .null, []),
  (132, .iconst 1, 1, [], .int 1, []),
  (133, .isub, 1, [], .null, []),
  (134, .iaload, 1, [], .null, []),
  (135, .invokestatic 64, 3, [1, 72, 3, 3, 567, 8, 1, 0, 0], .null, []),
  (138, .iastore, 1, [], .null, []),
  (139, .iload_n 2, 1, [2], .null, []),
  (140, .iconst 1, 1, [], .int 1, []),
  (141, .isub, 1, [], .null, []),
  (142, .ireturn, 1, [], .null, [])]
abbrev kX8_work : Nat := 71
abbrev zq_m71 : zq_T := (yX8_work, cX8_work, 3, (some .int), zq_c71, (0, 0), [565, 85, 564, 0])
def zq_c72 : List zq_I := [
  (0, .iload_n 0, 1, [0], .null, []),
  (1, .tableswitch 109 (-14) (-7) #[105, 101, 97, 86, 75, 109, 61, 47], 47, [110, 106, 102, 98, 87, 76, 110, 62, 48], .null, []),
  (48, .iload_n 1, 1, [1], .null, []),
  (49, .ifCond .ne 7, 3, [56], .null, []),
  (52, .iload_n 2, 1, [2], .null, []),
  (53, .ifCond .eq 7, 3, [60], .null, []),
  (56, .iconst 1, 1, [], .int 1, []),
  (57, .goto 4, 3, [61], .null, []),
  (60, .iconst 0, 1, [], .int 0, []),
  (61, .ireturn, 1, [], .null, []),
  (62, .iload_n 1, 1, [1], .null, []),
  (63, .ifCond .eq 11, 3, [74], .null, []),
  (66, .iload_n 2, 1, [2], .null, []),
  (67, .ifCond .eq 7, 3, [74], .null, []),
  (70, .iconst 1, 1, [], .int 1, []),
  (71, .goto 4, 3, [75], .null, []),
  (74, .iconst 0, 1, [], .int 0, []),
  (75, .ireturn, 1, [], .null, []),
  (76, .iload_n 1, 1, [1], .null, []),
  (77, .iload_n 2, 1, [2], .null, []),
  (78, .if_icmp .ge 7, 3, [85], .null, []),
  (81, .iconst 1, 1, [], .int 1, []),
  (82, .goto 4, 3, [86], .null, []),
  (85, .iconst 0, 1, [], .int 0, []),
  (86, .ireturn, 1, [], .null, []),
  (87, .iload_n 1, 1, [1], .null, []),
  (88, .iload_n 2, 1, [2], .null, []),
  (89, .if_icmp .ne 7, 3, [96], .null, []),
  (92, .iconst 1, 1, [], .int 1, []),
  (93, .goto 4, 3, [97], .null, []),
  (96, .iconst 0, 1, [], .int 0, []),
  (97, .ireturn, 1, [], .null, []),
  (98, .iload_n 1, 1, [1], .null, []),
  (99, .iload_n 2, 1, [2], .null, []),
  (100, .iadd, 1, [], .null, []),
  (101, .ireturn, 1, [], .null, []),
  (102, .iload_n 1, 1, [1], .null, []),
  (103, .iload_n 2, 1, [2], .null, []),
  (104, .isub, 1, [], .null, []),
  (105, .ireturn, 1, [], .null, []),
  (106, .iload_n 1, 1, [1], .null, []),
  (107, .iload_n 2, 1, [2], .null, []),
  (108, .imul, 1, [], .null, []),
  (109, .ireturn, 1, [], .null, []),
  (110, .iconst 0, 1, [], .int 0, []),
  (111, .ireturn, 1, [], .null, [])]
abbrev kX8_joined : Nat := 72
abbrev zq_m72 : zq_T := (yX8_joined, cX8_joined, 3, (some .int), zq_c72, (0, 0), [569, 85, 568, 0])
def zq_c73 : List zq_I := [
  (0, .aload_n 0, 1, [0], .null, []),
  (1, .invokespecial 3, 3, [0, 335], .null, []),
  (4, .aload_n 0, 1, [0], .null, []),
  (5, .bipush 24, 2, [], .int 24, []),
  (7, .newarray .int, 2, [137], .null, []),
  (9, .putfield 9, 3, [9, 0, 2, 30, 32, 336], .null, []),
  (12, .aload_n 0, 1, [0], .null, []),
  (13, .bipush 24, 2, [], .int 24, []),
  (15, .newarray .int, 2, [137], .null, []),
  (17, .putfield 15, 3, [9, 1, 2, 30, 33, 338], .null, []),
  (20, .aload_n 0, 1, [0], .null, []),
  (21, .bipush 24, 2, [], .int 24, []),
  (23, .newarray .int, 2, [137], .null, []),
  (25, .putfield 18, 3, [9, 2, 2, 30, 34, 340], .null, []),
  (28, .aload_n 0, 1, [0], .null, []),
  (29, .bipush 20, 2, [], .int 20, []),
  (31, .newarray .int, 2, [137], .null, []),
  (33, .putfield 21, 3, [9, 3, 2, 30, 35, 342], .null, []),
  (36, .aload_n 0, 1, [0], .null, []),
  (37, .bipush 20, 2, [], .int 20, []),
  (39, .newarray .int, 2, [137], .null, []),
  (41, .putfield 24, 3, [9, 4, 2, 30, 36, 343], .null, []),
  (44, .aload_n 0, 1, [0], .null, []),
  (45, .bipush 24, 2, [], .int 24, []),
  (47, .newarray .int, 2, [137], .null, []),
  (49, .putfield 27, 3, [9, 5, 2, 30, 37, 344], .null, []),
  (52, .aload_n 0, 1, [0], .null, []),
  (53, .bipush 24, 2, [], .int 24, []),
  (55, .newarray .boolean, 2, [375], .null, []),
  (57, .putfield 30, 3, [9, 6, 2, 30, 38, 345], .null, []),
  (60, .return_, 1, [], .null, [])]
abbrev kX9_init : Nat := 73
abbrev zq_m73 : zq_T := (yX9_init, cX9_init, 1, none, zq_c73, (7, 160), [334, 91, 333, 0])
def zq_c74 : List zq_I := [
  (0, .iload_n 1, 1, [1], .null, []),
  (1, .ifCond .lt 15, 3, [16], .null, []),
  (4, .iload_n 1, 1, [1], .null, []),
  (5, .aload_n 0, 1, [0], .null, []),
  (6, .getfield 34, 3, [9, 7, 0, 30, 0, 346], .null, []),
  (9, .if_icmp .ge 7, 3, [16], .null, []),
  (12, .iconst 1, 1, [], .int 1, []),
  (13, .goto 4, 3, [17], .null, []),
  (16, .iconst 0, 1, [], .int 0, []),
  (17, .ireturn, 1, [], .null, [])]
abbrev kX9_has : Nat := 74
abbrev zq_m74 : zq_T := (yX9_has, cX9_has, 2, (some .boolean), zq_c74, (0, 0), [774, 91, 772, 773])
def zq_c75 : List zq_I := [
  (0, .iload_n 1, 1, [1], .null, []),
  (1, .ifCond .lt 22, 3, [23], .null, []),
  (4, .iload_n 1, 1, [1], .null, []),
  (5, .iconst 1, 1, [], .int 1, []),
  (6, .aload_n 0, 1, [0], .null, []),
  (7, .getfield 34, 3, [9, 7, 0, 30, 0, 346], .null, []),
  (10, .bipush 16, 2, [], .int 16, []),
  (12, .invokestatic 38, 3, [3, 815], .null, []),
  (15, .ishl, 1, [], .null, []),
  (16, .if_icmp .ge 7, 3, [23], .null, []),
  (19, .iconst 1, 1, [], .int 1, []),
  (20, .goto 4, 3, [24], .null, []),
  (23, .iconst 0, 1, [], .int 0, []),
  (24, .ireturn, 1, [], .null, [])]
abbrev kX9_hasAll : Nat := 75
abbrev zq_m75 : zq_T := (yX9_hasAll, cX9_hasAll, 2, (some .boolean), zq_c75, (0, 0), [814, 91, 812, 813])
def zq_c76 : List zq_I := [
  (0, .aload_n 0, 1, [0], .null, []),
  (1, .getfield 34, 3, [9, 7, 0, 30, 0, 346], .null, []),
  (4, .bipush 24, 2, [], .int 24, []),
  (6, .if_icmp .lt 6, 3, [12], .null, []),
  (9, .bipush (-4), 2, [], .int (-4), []),
  (11, .ireturn, 1, [], .null, []),
  (12, .aload_n 0, 1, [0], .null, []),
  (13, .getfield 9, 3, [9, 0, 2, 30, 32, 336], .null, []),
  (16, .aload_n 0, 1, [0], .null, []),
  (17, .getfield 34, 3, [9, 7, 0, 30, 0, 346], .null, []),
  (20, .iload_n 1, 1, [1], .null, []),
  (21, .iastore, 1, [], .null, []),
  (22, .aload_n 0, 1, [0], .null, []),
  (23, .getfield 15, 3, [9, 1, 2, 30, 33, 338], .null, []),
  (26, .aload_n 0, 1, [0], .null, []),
  (27, .getfield 34, 3, [9, 7, 0, 30, 0, 346], .null, []),
  (30, .iload_n 2, 1, [2], .null, []),
  (31, .iastore, 1, [], .null, []),
  (32, .aload_n 0, 1, [0], .null, []),
  (33, .getfield 18, 3, [9, 2, 2, 30, 34, 340], .null, []),
  (36, .aload_n 0, 1, [0], .null, []),
  (37, .getfield 34, 3, [9, 7, 0, 30, 0, 346], .null, []),
  (40, .iload_n 3, 1, [3], .null, []),
  (41, .iastore, 1, [], .null, []),
  (42, .aload_n 0, 1, [0], .null, []),
  (43, .dup, 1, [], .null, []),
  (44, .getfield 34, 3, [9, 7, 0, 30, 0, 346], .null, []),
  (47, .iconst 1, 1, [], .int 1, []),
  (48, .iadd, 1, [], .null, []),
  (49, .putfield 34, 3, [9, 7, 0, 30, 0, 346], .null, []),
  (52, .aload_n 0, 1, [0], .null, []),
  (53, .getfield 34, 3, [9, 7, 0, 30, 0, 346], .null, []),
  (56, .iconst 1, 1, [], .int 1, []),
  (57, .isub, 1, [], .null, []),
  (58, .ireturn, 1, [], .null, [])]
abbrev kX9_put : Nat := 76
abbrev zq_m76 : zq_T := (yX9_put, cX9_put, 4, (some .int), zq_c76, (0, 0), [766, 91, 764, 765])
def zq_c77 : List zq_I := [
  (0, .aload_n 0, 1, [0], .null, []),
  (1, .getfield 44, 3, [9, 8, 0, 30, 0, 348], .null, []),
  (4, .bipush 20, 2, [], .int 20, []),
  (6, .if_icmp .lt 6, 3, [12], .null, []),
  (9, .bipush (-4), 2, [], .int (-4), []),
  (11, .ireturn, 1, [], .null, []),
  (12, .aload_n 0, 1, [0], .null, []),
  (13, .getfield 21, 3, [9, 3, 2, 30, 35, 342], .null, []),
  (16, .aload_n 0, 1, [0], .null, []),
  (17, .getfield 44, 3, [9, 8, 0, 30, 0, 348], .null, []),
  (20, .iload_n 1, 1, [1], .null, []),
  (21, .iastore, 1, [], .null, []),
  (22, .aload_n 0, 1, [0], .null, []),
  (23, .getfield 24, 3, [9, 4, 2, 30, 36, 343], .null, []),
  (26, .aload_n 0, 1, [0], .null, []),
  (27, .getfield 44, 3, [9, 8, 0, 30, 0, 348], .null, []),
  (30, .iload_n 2, 1, [2], .null, []),
  (31, .iastore, 1, [], .null, []),
  (32, .aload_n 0, 1, [0], .null, []),
  (33, .dup, 1, [], .null, []),
  (34, .getfield 44, 3, [9, 8, 0, 30, 0, 348], .null, []),
  (37, .iconst 1, 1, [], .int 1, []),
  (38, .iadd, 1, [], .null, []),
  (39, .putfield 44, 3, [9, 8, 0, 30, 0, 348], .null, []),
  (42, .aload_n 0, 1, [0], .null, []),
  (43, .getfield 44, 3, [9, 8, 0, 30, 0, 348], .null, []),
  (46, .ireturn, 1, [], .null, [])]
abbrev kX9_putCross : Nat := 77
abbrev zq_m77 : zq_T := (yX9_putCross, cX9_putCross, 3, (some .int), zq_c77, (0, 0), [912, 91, 910, 911])
def zq_c78 : List zq_I := [
  (0, .aload_n 0, 1, [0], .null, []),
  (1, .aload_n 0, 1, [0], .null, []),
  (2, .getfield 34, 3, [9, 7, 0, 30, 0, 346], .null, []),
  (5, .putfield 47, 3, [9, 9, 0, 30, 0, 350], .null, []),
  (8, .aload_n 0, 1, [0], .null, []),
  (9, .aload_n 0, 1, [0], .null, []),
  (10, .getfield 44, 3, [9, 8, 0, 30, 0, 348], .null, []),
  (13, .putfield 50, 3, [9, 10, 0, 30, 0, 351], .null, []),
  (16, .return_, 1, [], .null, [])]
abbrev kX9_keepSizes : Nat := 78
abbrev zq_m78 : zq_T := (yX9_keepSizes, cX9_keepSizes, 1, none, zq_c78, (0, 0), [976, 91, 974, 975])
def zq_c79 : List zq_I := [
  (0, .aload_n 0, 1, [0], .null, []),
  (1, .aload_n 0, 1, [0], .null, []),
  (2, .getfield 47, 3, [9, 9, 0, 30, 0, 350], .null, []),
  (5, .putfield 34, 3, [9, 7, 0, 30, 0, 346], .null, []),
  (8, .aload_n 0, 1, [0], .null, []),
  (9, .aload_n 0, 1, [0], .null, []),
  (10, .getfield 50, 3, [9, 10, 0, 30, 0, 351], .null, []),
  (13, .putfield 44, 3, [9, 8, 0, 30, 0, 348], .null, []),
  (16, .return_, 1, [], .null, [])]
abbrev kX9_cutBack : Nat := 79
abbrev zq_m79 : zq_T := (yX9_cutBack, cX9_cutBack, 1, none, zq_c79, (0, 0), [988, 91, 986, 987])
def zq_c80 : List zq_I := [
  (0, .aload_n 0, 1, [0], .null, []),
  (1, .getfield 18, 3, [9, 2, 2, 30, 34, 340], .null, []),
  (4, .iload_n 1, 1, [1], .null, []),
  (5, .iaload, 1, [], .null, []),
  (6, .aload_n 0, 1, [0], .null, []),
  (7, .getfield 18, 3, [9, 2, 2, 30, 34, 340], .null, []),
  (10, .iload_n 2, 1, [2], .null, []),
  (11, .iaload, 1, [], .null, []),
  (12, .if_icmp .ne 27, 3, [39], .null, []),
  (15, .aload_n 0, 1, [0], .null, []),
  (16, .getfield 15, 3, [9, 1, 2, 30, 33, 338], .null, []),
  (19, .iload_n 1, 1, [1], .null, []),
  (20, .iaload, 1, [], .null, []),
  (21, .aload_n 0, 1, [0], .null, []),
  (22, .getfield 15, 3, [9, 1, 2, 30, 33, 338], .null, []),
  (25, .iload_n 2, 1, [2], .null, []),
  (26, .iaload, 1, [], .null, []),
  (27, .isub, 1, [], .null, []),
  (28, .invokestatic 53, 3, [4, 782], .null, []),
  (31, .iload_n 3, 1, [3], .null, []),
  (32, .if_icmp .gt 7, 3, [39], .null, []),
  (35, .iconst 1, 1, [], .int 1, []),
  (36, .goto 4, 3, [40], .null, []),
  (39, .iconst 0, 1, [], .int 0, []),
  (40, .ireturn, 1, [], .null, [])]
abbrev kX9_wentTogether : Nat := 80
abbrev zq_m80 : zq_T := (yX9_wentTogether, cX9_wentTogether, 4, (some .boolean), zq_c80, (0, 0), [781, 91, 779, 780])
def zq_c81 : List zq_I := [
  (0, .aload_n 0, 1, [0], .null, []),
  (1, .getfield 34, 3, [9, 7, 0, 30, 0, 346], .null, []),
  (4, .istore_n 2, 1, [2], .null, []),
  (5, .iconst 0, 1, [], .int 0, []),
  (6, .istore_n 3, 1, [3], .null, []),
  (7, .iload_n 3, 1, [3], .null, [true, true, true, true, false]),
  (8, .aload_n 0, 1, [0], .null, []),
  (9, .getfield 34, 3, [9, 7, 0, 30, 0, 346], .null, []),
  (12, .if_icmp .ge 79, 3, [91], .null, []),
  (15, .aload_n 0, 1, [0], .null, []),
  (16, .getfield 27, 3, [9, 5, 2, 30, 37, 344], .null, []),
  (19, .iload_n 3, 1, [3], .null, []),
  (20, .iload_n 3, 1, [3], .null, []),
  (21, .iastore, 1, [], .null, []),
  (22, .iconst 0, 1, [], .int 0, []),
  (23, .istore 4, 2, [4], .null, []),
  (25, .iload 4, 2, [4], .null, [true, true, true, true, true]),
  (27, .iload_n 3, 1, [3], .null, []),
  (28, .if_icmp .ge 57, 3, [85], .null, []),
  (31, .aload_n 0, 1, [0], .null, []),
  (32, .getfield 27, 3, [9, 5, 2, 30, 37, 344], .null, []),
  (35, .iload 4, 2, [4], .null, []),
  (37, .iaload, 1, [], .null, []),
  (38, .aload_n 0, 1, [0], .null, []),
  (39, .getfield 27, 3, [9, 5, 2, 30, 37, 344], .null, []),
  (42, .iload_n 3, 1, [3], .null, []),
  (43, .iaload, 1, [], .null, []),
  (44, .if_icmp .eq 35, 3, [79], .null, []),
  (47, .aload_n 0, 1, [0], .null, []),
  (48, .iload_n 3, 1, [3], .null, []),
  (49, .iload 4, 2, [4], .null, []),
  (51, .iload_n 1, 1, [1], .null, []),
  (52, .invokevirtual 57, 3, [1, 80, 3, 4, 793, 9, 1, 0, 0], .null, []),
  (55, .ifCond .eq 24, 3, [79], .null, []),
  (58, .aload_n 0, 1, [0], .null, []),
  (59, .aload_n 0, 1, [0], .null, []),
  (60, .getfield 27, 3, [9, 5, 2, 30, 37, 344], .null, []),
  (63, .iload 4, 2, [4], .null, []),
  (65, .iaload, 1, [], .null, []),
  (66, .aload_n 0, 1, [0], .null, []),
  (67, .getfield 27, 3, [9, 5, 2, 30, 37, 344], .null, []),
  (70, .iload_n 3, 1, [3], .null, []),
  (71, .iaload, 1, [], .null, []),
  (72, .iload_n 3, 1, [3], .null, []),
  (73, .invokevirtual 61, 3, [1, 82, 3, 5, 794, 9, 0, 0, 0], .null, []),
  (76, .iinc 2 (-1), 3, [2], .int (-1), []),
  (79, .iinc 4 1, 3, [4], .int 1, []),
  (82, .goto (-57), 3, [25], .null, []),
  (85, .iinc 3 1, 3, [3], .int 1, []),
  (88, .goto (-81), 3, [7], .null, []),
  (91, .iload_n 2, 1, [2], .null, []),
  (92, .ireturn, 1, [], .null, [])]
abbrev kX9_groupsBy : Nat := 81
abbrev zq_m81 : zq_T := (yX9_groupsBy, cX9_groupsBy, 5, (some .int), zq_c81, (0, 0), [792, 91, 790, 791])
def zq_c82 : List zq_I := [
  (0, .iconst 0, 1, [], .int 0, []),
  (1, .istore 4, 2, [4], .null, []),
  (3, .iload 4, 2, [4], .null, [true, true, true, true, true]),
  (5, .iload_n 3, 1, [3], .null, []),
  (6, .if_icmp .gt 28, 3, [34], .null, []),
  (9, .aload_n 0, 1, [0], .null, []),
  (10, .getfield 27, 3, [9, 5, 2, 30, 37, 344], .null, []),
  (13, .iload 4, 2, [4], .null, []),
  (15, .iaload, 1, [], .null, []),
  (16, .iload_n 1, 1, [1], .null, []),
  (17, .if_icmp .ne 11, 3, [28], .null, []),
  (20, .aload_n 0, 1, [0], .null, []),
  (21, .getfield 27, 3, [9, 5, 2, 30, 37, 344], .null, []),
  (24, .iload 4, 2, [4], .null, []),
  (26, .iload_n 2, 1, [2], .null, []),
  (27, .iastore, 1, [], .null, []),
  (28, .iinc 4 1, 3, [4], .int 1, []),
  (31, .goto (-28), 3, [3], .null, []),
  (34, .return_, 1, [], .null, [])]
abbrev kX9_regroup : Nat := 82
abbrev zq_m82 : zq_T := (yX9_regroup, cX9_regroup, 5, none, zq_c82, (0, 0), [797, 91, 796, 14])
def zq_c83 : List zq_I := [
  (0, .iconst 0, 1, [], .int 0, []),
  (1, .istore_n 2, 1, [2], .null, []),
  (2, .iload_n 2, 1, [2], .null, [true, true, true, false]),
  (3, .aload_n 0, 1, [0], .null, []),
  (4, .getfield 34, 3, [9, 7, 0, 30, 0, 346], .null, []),
  (7, .if_icmp .ge 16, 3, [23], .null, []),
  (10, .aload_n 0, 1, [0], .null, []),
  (11, .getfield 30, 3, [9, 6, 2, 30, 38, 345], .null, []),
  (14, .iload_n 2, 1, [2], .null, []),
  (15, .iconst 0, 1, [], .int 0, []),
  (16, .bastore, 1, [], .null, []),
  (17, .iinc 2 1, 3, [2], .int 1, []),
  (20, .goto (-18), 3, [2], .null, []),
  (23, .iconst (-1), 1, [], .int (-1), []),
  (24, .istore_n 2, 1, [2], .null, []),
  (25, .iconst 0, 1, [], .int 0, []),
  (26, .istore_n 3, 1, [3], .null, []),
  (27, .iload_n 3, 1, [3], .null, [true, true, true, true]),
  (28, .iload_n 1, 1, [1], .null, []),
  (29, .if_icmp .gt 28, 3, [57], .null, []),
  (32, .aload_n 0, 1, [0], .null, []),
  (33, .invokevirtual 65, 3, [1, 84, 0, 2, 921, 9, 1, 0, 0], .null, []),
  (36, .istore_n 2, 1, [2], .null, []),
  (37, .iload_n 2, 1, [2], .null, []),
  (38, .iconst (-1), 1, [], .int (-1), []),
  (39, .if_icmp .ne 5, 3, [44], .null, []),
  (42, .iconst (-1), 1, [], .int (-1), []),
  (43, .ireturn, 1, [], .null, []),
  (44, .aload_n 0, 1, [0], .null, []),
  (45, .getfield 30, 3, [9, 6, 2, 30, 38, 345], .null, []),
  (48, .iload_n 2, 1, [2], .null, []),
  (49, .iconst 1, 1, [], .int 1, []),
  (50, .bastore, 1, [], .null, []),
  (51, .iinc 3 1, 3, [3], .int 1, []),
  (54, .goto (-27), 3, [27], .null, []),
  (57, .iload_n 2, 1, [2], .null, []),
  (58, .ireturn, 1, [], .null, [])]
abbrev kX9_inOrder : Nat := 83
abbrev zq_m83 : zq_T := (yX9_inOrder, cX9_inOrder, 4, (some .int), zq_c83, (0, 0), [920, 91, 918, 919])
def zq_c84 : List zq_I := [
  (0, .iconst 0, 1, [], .int 0, []),
  (1, .istore_n 1, 1, [1], .null, []),
  (2, .iload_n 1, 1, [1], .null, [true, true]),
  (3, .aload_n 0, 1, [0], .null, []),
  (4, .getfield 34, 3, [9, 7, 0, 30, 0, 346], .null, []),
  (7, .if_icmp .ge 28, 3, [35], .null, []),
  (10, .aload_n 0, 1, [0], .null, []),
  (11, .getfield 30, 3, [9, 6, 2, 30, 38, 345], .null, []),
  (14, .iload_n 1, 1, [1], .null, []),
  (15, .baload, 1, [], .null, []),
  (16, .ifCond .ne 13, 3, [29], .null, []),
  (19, .aload_n 0, 1, [0], .null, []),
  (20, .iload_n 1, 1, [1], .null, []),
  (21, .invokevirtual 69, 3, [1, 85, 1, 3, 925, 9, 1, 0, 0], .null, []),
  (24, .ifCond .ne 5, 3, [29], .null, []),
  (27, .iload_n 1, 1, [1], .null, []),
  (28, .ireturn, 1, [], .null, []),
  (29, .iinc 1 1, 3, [1], .int 1, []),
  (32, .goto (-30), 3, [2], .null, []),
  (35, .iconst (-1), 1, [], .int (-1), []),
  (36, .ireturn, 1, [], .null, [])]
abbrev kX9_leastFree : Nat := 84
abbrev zq_m84 : zq_T := (yX9_leastFree, cX9_leastFree, 2, (some .int), zq_c84, (0, 0), [924, 91, 923, 21])
def zq_c85 : List zq_I := [
  (0, .iconst 0, 1, [], .int 0, []),
  (1, .istore_n 2, 1, [2], .null, []),
  (2, .iload_n 2, 1, [2], .null, [true, true, true]),
  (3, .aload_n 0, 1, [0], .null, []),
  (4, .getfield 44, 3, [9, 8, 0, 30, 0, 348], .null, []),
  (7, .if_icmp .ge 35, 3, [42], .null, []),
  (10, .aload_n 0, 1, [0], .null, []),
  (11, .getfield 21, 3, [9, 3, 2, 30, 35, 342], .null, []),
  (14, .iload_n 2, 1, [2], .null, []),
  (15, .iaload, 1, [], .null, []),
  (16, .iload_n 1, 1, [1], .null, []),
  (17, .if_icmp .ne 19, 3, [36], .null, []),
  (20, .aload_n 0, 1, [0], .null, []),
  (21, .getfield 30, 3, [9, 6, 2, 30, 38, 345], .null, []),
  (24, .aload_n 0, 1, [0], .null, []),
  (25, .getfield 24, 3, [9, 4, 2, 30, 36, 343], .null, []),
  (28, .iload_n 2, 1, [2], .null, []),
  (29, .iaload, 1, [], .null, []),
  (30, .baload, 1, [], .null, []),
  (31, .ifCond .ne 5, 3, [36], .null, []),
  (34, .iconst 1, 1, [], .int 1, []),
  (35, .ireturn, 1, [], .null, []),
  (36, .iinc 2 1, 3, [2], .int 1, []),
  (39, .goto (-37), 3, [2], .null, []),
  (42, .iconst 0, 1, [], .int 0, []),
  (43, .ireturn, 1, [], .null, [])]
abbrev kX9_liesOverUnplaced : Nat := 85
abbrev zq_m85 : zq_T := (yX9_liesOverUnplaced, cX9_liesOverUnplaced, 3, (some .boolean), zq_c85, (0, 0), [928, 91, 927, 22])
def zq_c86 : List zq_I := [
  (0, .aload_n 0, 1, [0], .null, []),
  (1, .invokespecial 3, 3, [0, 301], .null, []),
  (4, .aload_n 0, 1, [0], .null, []),
  (5, .bipush 10, 2, [], .int 10, []),
  (7, .newarray .int, 2, [137], .null, []),
  (9, .putfield 9, 3, [10, 0, 2, 25, 27, 302], .null, []),
  (12, .aload_n 0, 1, [0], .null, []),
  (13, .bipush 10, 2, [], .int 10, []),
  (15, .newarray .int, 2, [137], .null, []),
  (17, .putfield 15, 3, [10, 1, 2, 25, 28, 304], .null, []),
  (20, .aload_n 0, 1, [0], .null, []),
  (21, .bipush 10, 2, [], .int 10, []),
  (23, .newarray .int, 2, [137], .null, []),
  (25, .putfield 18, 3, [10, 2, 2, 25, 29, 306], .null, []),
  (28, .aload_n 0, 1, [0], .null, []),
  (29, .bipush 10, 2, [], .int 10, []),
  (31, .newarray .int, 2, [137], .null, []),
  (33, .putfield 21, 3, [10, 3, 2, 25, 30, 308], .null, []),
  (36, .aload_n 0, 1, [0], .null, []),
  (37, .aload_n 1, 1, [1], .null, []),
  (38, .putfield 24, 3, [10, 4, 2, 25, 2, 309], .null, []),
  (41, .aload_n 0, 1, [0], .null, []),
  (42, .aload_n 2, 1, [2], .null, []),
  (43, .putfield 28, 3, [10, 5, 2, 25, 6, 310], .null, []),
  (46, .aload_n 0, 1, [0], .null, []),
  (47, .aload_n 3, 1, [3], .null, []),
  (48, .putfield 32, 3, [10, 6, 2, 25, 11, 311], .null, []),
  (51, .aload_n 0, 1, [0], .null, []),
  (52, .aload 4, 2, [4], .null, []),
  (54, .putfield 36, 3, [10, 7, 2, 25, 25, 312], .null, []),
  (57, .return_, 1, [], .null, [])]
abbrev kX10_init : Nat := 86
abbrev zq_m86 : zq_T := (yX10_init, cX10_init, 5, none, zq_c86, (4, 40), [300, 90, 299, 0])
def zq_c87 : List zq_I := [
  (0, .iconst 0, 1, [], .int 0, []),
  (1, .istore 4, 2, [4], .null, []),
  (3, .iload 4, 2, [4], .null, [true, true, true, true, true, false]),
  (5, .aload_n 0, 1, [0], .null, []),
  (6, .getfield 24, 3, [10, 4, 2, 25, 2, 309], .null, []),
  (9, .getfield 40, 3, [7, 3, 0, 1, 0, 122], .null, []),
  (12, .if_icmp .ge 50, 3, [62], .null, []),
  (15, .aload_n 0, 1, [0], .null, []),
  (16, .getfield 9, 3, [10, 0, 2, 25, 27, 302], .null, []),
  (19, .iload 4, 2, [4], .null, []),
  (21, .aload_n 0, 1, [0], .null, []),
  (22, .getfield 24, 3, [10, 4, 2, 25, 2, 309], .null, []),
  (25, .getfield 46, 3, [7, 1, 2, 1, 4, 118], .null, []),
  (28, .iload 4, 2, [4], .null, []),
  (30, .iaload, 1, [], .null, []),
  (31, .iastore, 1, [], .null, []),
  (32, .aload_n 0, 1, [0], .null, []),
  (33, .getfield 15, 3, [10, 1, 2, 25, 28, 304], .null, []),
  (36, .iload 4, 2, [4], .null, []),
  (38, .iconst 0, 1, [], .int 0, []),
  (39, .iastore, 1, [], .null, []),
  (40, .aload_n 0, 1, [0], .null, []),
  (41, .getfield 18, 3, [10, 2, 2, 25, 29, 306], .null, []),
  (44, .iload 4, 2, [4], .null, []),
  (46, .iconst 0, 1, [], .int 0, []),
  (47, .iastore, 1, [], .null, []),
  (48, .aload_n 0, 1, [0], .null, []),
  (49, .getfield 21, 3, [10, 3, 2, 25, 30, 308], .null, []),
  (52, .iload 4, 2, [4], .null, []),
  (54, .iconst (-1), 1, [], .int (-1), []),
  (55, .iastore, 1, [], .null, []),
  (56, .iinc 4 1, 3, [4], .int 1, []),
  (59, .goto (-56), 3, [3], .null, []),
  (62, .iload_n 2, 1, [2], .null, []),
  (63, .istore 4, 2, [4], .null, []),
  (65, .iload 4, 2, [4], .null, [true, true, false, true, true, false]),
  (67, .iload_n 3, 1, [3], .null, []),
  (68, .if_icmp .gt 39, 3, [107], .null, []),
  (71, .iconst 0, 1, [], .int 0, []),
  (72, .istore 5, 2, [5], .null, []),
  (74, .iload 5, 2, [5], .null, [true, true, false, true, true, true]),
  (76, .aload_n 0, 1, [0], .null, []),
  (77, .getfield 24, 3, [10, 4, 2, 25, 2, 309], .null, []),
  (80, .getfield 40, 3, [7, 3, 0, 1, 0, 122], .null, []),
  (83, .if_icmp .ge 18, 3, [101], .null, []),
  (86, .aload_n 0, 1, [0], .null, []),
  (87, .iload_n 1, 1, [1], .null, []),
  (88, .iload 5, 2, [5], .null, []),
  (90, .iload 4, 2, [4], .null, []),
  (92, .invokevirtual 49, 3, [1, 88, 3, 7, 736, 10, 0, 0, 0], .null, []),
  (95, .iinc 5 1, 3, [5], .int 1, []),
  (98, .goto (-24), 3, [74], .null, []),
  (101, .iinc 4 1, 3, [4], .int 1, []),
  (104, .goto (-39), 3, [65], .null, []),
  (107, .return_, 1, [], .null, [])]
abbrev kX10_go : Nat := 87
abbrev zq_m87 : zq_T := (yX10_go, cX10_go, 6, none, zq_c87, (0, 0), [735, 90, 733, 734])
def zq_c88 : List zq_I := [
  (0, .aload_n 0, 1, [0], .null, []),
  (1, .getfield 36, 3, [10, 7, 2, 25, 25, 312], .null, []),
  (4, .iload_n 1, 1, [1], .null, []),
  (5, .iload_n 2, 1, [2], .null, []),
  (6, .iload_n 3, 1, [3], .null, []),
  (7, .aload_n 0, 1, [0], .null, []),
  (8, .getfield 28, 3, [10, 5, 2, 25, 6, 310], .null, []),
  (11, .getfield 53, 3, [2, 2, 2, 5, 9, 152], .null, []),
  (14, .iload_n 3, 1, [3], .null, []),
  (15, .iaload, 1, [], .null, []),
  (16, .invokevirtual 58, 3, [1, 21, 4, 7, 740, 4, 1, 0, 0], .null, []),
  (19, .istore 4, 2, [4], .null, []),
  (21, .iload 4, 2, [4], .null, []),
  (23, .ifCond .ne 4, 3, [27], .null, []),
  (26, .return_, 1, [], .null, []),
  (27, .aload_n 0, 1, [0], .null, []),
  (28, .getfield 32, 3, [10, 6, 2, 25, 11, 311], .null, []),
  (31, .iload_n 1, 1, [1], .null, []),
  (32, .aload_n 0, 1, [0], .null, []),
  (33, .getfield 28, 3, [10, 5, 2, 25, 6, 310], .null, []),
  (36, .getfield 64, 3, [2, 3, 2, 5, 10, 156], .null, []),
  (39, .iload_n 3, 1, [3], .null, []),
  (40, .iaload, 1, [], .null, []),
  (41, .invokevirtual 67, 3, [1, 6, 2, 3, 741, 0, 1, 0, 0], .null, []),
  (44, .istore 5, 2, [5], .null, []),
  (46, .iload 4, 2, [4], .null, []),
  (48, .aload_n 0, 1, [0], .null, []),
  (49, .getfield 24, 3, [10, 4, 2, 25, 2, 309], .null, []),
  (52, .aload_n 0, 1, [0], .null, []),
  (53, .getfield 9, 3, [10, 0, 2, 25, 27, 302], .null, []),
  (56, .iload_n 2, 1, [2], .null, []),
  (57, .iload 5, 2, [5], .null, []),
  (59, .invokevirtual 73, 3, [1, 64, 3, 10, 745, 7, 1, 0, 0], .null, []),
  (62, .invokestatic 77, 3, [3, 752], .null, []),
  (65, .istore 6, 2, [6], .null, []),
  (67, .iload 6, 2, [6], .null, []),
  (69, .ifCond .ne 4, 3, [73], .null, []),
  (72, .return_, 1, [], .null, []),
  (73, .aload_n 0, 1, [0], .null, []),
  (74, .getfield 9, 3, [10, 0, 2, 25, 27, 302], .null, []),
  (77, .iload_n 2, 1, [2], .null, []),
  (78, .dup2, 1, [], .null, []),
  (79, .iaload, 1, [], .null, []),
  (80, .iload 6, 2, [6], .null, []),
  (82, .getstatic 82, 3, [1, 1, 3], .null, []),
  (85, .iload 5, 2, [5], .null, []),
  (87, .iaload, 1, [], .null, []),
  (88, .imul, 1, [], .null, []),
  (89, .iadd, 1, [], .null, []),
  (90, .iastore, 1, [], .null, []),
  (91, .aload_n 0, 1, [0], .null, []),
  (92, .getfield 15, 3, [10, 1, 2, 25, 28, 304], .null, []),
  (95, .iload_n 2, 1, [2], .null, []),
  (96, .dup2, 1, [], .null, []),
  (97, .iaload, 1, [], .null, []),
  (98, .iload 6, 2, [6], .null, []),
  (100, .iadd, 1, [], .null, []),
  (101, .iastore, 1, [], .null, []),
  (102, .aload_n 0, 1, [0], .null, []),
  (103, .getfield 21, 3, [10, 3, 2, 25, 30, 308], .null, []),
  (106, .iload_n 2, 1, [2], .null, []),
  (107, .iaload, 1, [], .null, []),
  (108, .iconst (-1), 1, [], .int (-1), []),
  (109, .if_icmp .eq 24, 3, [133], .null, []),
  (112, .aload_n 0, 1, [0], .null, []),
  (113, .getfield 21, 3, [10, 3, 2, 25, 30, 308], .null, []),
  (116, .iload_n 2, 1, [2], .null, []),
  (117, .iaload, 1, [], .null, []),
  (118, .iload 5, 2, [5], .null, []),
  (120, .if_icmp .eq 13, 3, [133], .null, []),
  (123, .aload_n 0, 1, [0], .null, []),
  (124, .getfield 18, 3, [10, 2, 2, 25, 29, 306], .null, []),
  (127, .iload_n 2, 1, [2], .null, []),
  (128, .dup2, 1, [], .null, []),
  (129, .iaload, 1, [], .null, []),
  (130, .iconst 1, 1, [], .int 1, []),
  (131, .iadd, 1, [], .null, []),
  (132, .iastore, 1, [], .null, []),
  (133, .aload_n 0, 1, [0], .null, []),
  (134, .getfield 21, 3, [10, 3, 2, 25, 30, 308], .null, []),
  (137, .iload_n 2, 1, [2], .null, []),
  (138, .iload 5, 2, [5], .null, []),
  (140, .iastore, 1, [], .null, []),
  (141, .return_, 1, [], .null, [])]
abbrev kX10_goOneNight : Nat := 88
abbrev zq_m88 : zq_T := (yX10_goOneNight, cX10_goOneNight, 7, none, zq_c88, (0, 0), [739, 90, 738, 13])
def zq_c89 : List zq_I := [
  (0, .aload_n 0, 1, [0], .null, []),
  (1, .getfield 36, 3, [10, 7, 2, 25, 25, 312], .null, []),
  (4, .iload_n 1, 1, [1], .null, []),
  (5, .iload_n 2, 1, [2], .null, []),
  (6, .iload_n 3, 1, [3], .null, []),
  (7, .aload_n 0, 1, [0], .null, []),
  (8, .getfield 28, 3, [10, 5, 2, 25, 6, 310], .null, []),
  (11, .getfield 53, 3, [2, 2, 2, 5, 9, 152], .null, []),
  (14, .iload_n 3, 1, [3], .null, []),
  (15, .iaload, 1, [], .null, []),
  (16, .invokevirtual 58, 3, [1, 21, 4, 7, 740, 4, 1, 0, 0], .null, []),
  (19, .ifCond .ne 5, 3, [24], .null, []),
  (22, .iconst 0, 1, [], .int 0, []),
  (23, .ireturn, 1, [], .null, []),
  (24, .aload_n 0, 1, [0], .null, []),
  (25, .getfield 24, 3, [10, 4, 2, 25, 2, 309], .null, []),
  (28, .aload_n 0, 1, [0], .null, []),
  (29, .getfield 24, 3, [10, 4, 2, 25, 2, 309], .null, []),
  (32, .getfield 46, 3, [7, 1, 2, 1, 4, 118], .null, []),
  (35, .iload_n 2, 1, [2], .null, []),
  (36, .aload_n 0, 1, [0], .null, []),
  (37, .getfield 32, 3, [10, 6, 2, 25, 11, 311], .null, []),
  (40, .iload_n 1, 1, [1], .null, []),
  (41, .aload_n 0, 1, [0], .null, []),
  (42, .getfield 28, 3, [10, 5, 2, 25, 6, 310], .null, []),
  (45, .getfield 64, 3, [2, 3, 2, 5, 10, 156], .null, []),
  (48, .iload_n 3, 1, [3], .null, []),
  (49, .iaload, 1, [], .null, []),
  (50, .invokevirtual 67, 3, [1, 6, 2, 3, 741, 0, 1, 0, 0], .null, []),
  (53, .invokevirtual 73, 3, [1, 64, 3, 10, 745, 7, 1, 0, 0], .null, []),
  (56, .ifCond .le 7, 3, [63], .null, []),
  (59, .iconst 1, 1, [], .int 1, []),
  (60, .goto 4, 3, [64], .null, []),
  (63, .iconst 0, 1, [], .int 0, []),
  (64, .ireturn, 1, [], .null, [])]
abbrev kX10_canGo : Nat := 89
abbrev zq_m89 : zq_T := (yX10_canGo, cX10_canGo, 4, (some .boolean), zq_c89, (0, 0), [904, 90, 902, 903])
def zq_c90 : List zq_I := [
  (0, .aload_n 0, 1, [0], .null, []),
  (1, .invokespecial 3, 3, [0, 105], .null, []),
  (4, .aload_n 0, 1, [0], .null, []),
  (5, .new 9, 3, [7, 5, 108, 109, 82], .null, []),
  (8, .dup, 1, [], .null, []),
  (9, .invokespecial 11, 3, [8, 57, 0, 1, 0, 7, 0, 3, 30], .null, []),
  (12, .putfield 12, 3, [11, 0, 2, 0, 2, 435], .null, []),
  (15, .aload_n 0, 1, [0], .null, []),
  (16, .new 16, 3, [2, 5, 138, 139, 83], .null, []),
  (19, .dup, 1, [], .null, []),
  (20, .invokespecial 18, 3, [8, 10, 0, 1, 1, 2, 0, 4, 240], .null, []),
  (23, .putfield 19, 3, [11, 1, 2, 0, 6, 436], .null, []),
  (26, .aload_n 0, 1, [0], .null, []),
  (27, .new 23, 3, [0, 3, 172, 173, 84], .null, []),
  (30, .dup, 1, [], .null, []),
  (31, .invokespecial 25, 3, [8, 0, 0, 1, 2, 0, 0, 2, 16], .null, []),
  (34, .putfield 26, 3, [11, 2, 2, 0, 11, 437], .null, []),
  (37, .aload_n 0, 1, [0], .null, []),
  (38, .new 30, 3, [8, 7, 192, 193, 85], .null, []),
  (41, .dup, 1, [], .null, []),
  (42, .invokespecial 32, 3, [1, 66, 0, 1, 194, 8, 0, 4, 1024], .null, []),
  (45, .putfield 33, 3, [11, 3, 2, 0, 14, 438], .null, []),
  (48, .aload_n 0, 1, [0], .null, []),
  (49, .new 37, 3, [5, 8, 243, 244, 88], .null, []),
  (52, .dup, 1, [], .null, []),
  (53, .invokespecial 39, 3, [8, 28, 0, 1, 4, 5, 0, 5, 645], .null, []),
  (56, .putfield 40, 3, [11, 4, 2, 0, 19, 439], .null, []),
  (59, .aload_n 0, 1, [0], .null, []),
  (60, .new 44, 3, [4, 4, 277, 278, 89], .null, []),
  (63, .dup, 1, [], .null, []),
  (64, .aload_n 0, 1, [0], .null, []),
  (65, .getfield 12, 3, [11, 0, 2, 0, 2, 435], .null, []),
  (68, .aload_n 0, 1, [0], .null, []),
  (69, .getfield 19, 3, [11, 1, 2, 0, 6, 436], .null, []),
  (72, .aload_n 0, 1, [0], .null, []),
  (73, .getfield 26, 3, [11, 2, 2, 0, 11, 437], .null, []),
  (76, .aload_n 0, 1, [0], .null, []),
  (77, .getfield 33, 3, [11, 3, 2, 0, 14, 438], .null, []),
  (80, .invokespecial 46, 3, [1, 20, 4, 5, 279, 4, 0, 0, 0], .null, []),
  (83, .putfield 49, 3, [11, 5, 2, 0, 25, 440], .null, []),
  (86, .aload_n 0, 1, [0], .null, []),
  (87, .new 53, 3, [10, 8, 296, 297, 90], .null, []),
  (90, .dup, 1, [], .null, []),
  (91, .aload_n 0, 1, [0], .null, []),
  (92, .getfield 12, 3, [11, 0, 2, 0, 2, 435], .null, []),
  (95, .aload_n 0, 1, [0], .null, []),
  (96, .getfield 19, 3, [11, 1, 2, 0, 6, 436], .null, []),
  (99, .aload_n 0, 1, [0], .null, []),
  (100, .getfield 26, 3, [11, 2, 2, 0, 11, 437], .null, []),
  (103, .aload_n 0, 1, [0], .null, []),
  (104, .getfield 49, 3, [11, 5, 2, 0, 25, 440], .null, []),
  (107, .invokespecial 55, 3, [1, 86, 4, 5, 298, 10, 0, 4, 40], .null, []),
  (110, .putfield 58, 3, [11, 6, 2, 0, 26, 441], .null, []),
  (113, .aload_n 0, 1, [0], .null, []),
  (114, .new 62, 3, [9, 11, 330, 331, 91], .null, []),
  (117, .dup, 1, [], .null, []),
  (118, .invokespecial 64, 3, [8, 73, 0, 1, 5, 9, 0, 7, 160], .null, []),
  (121, .putfield 65, 3, [11, 7, 2, 0, 31, 442], .null, []),
  (124, .aload_n 0, 1, [0], .null, []),
  (125, .new 69, 3, [3, 4, 376, 377, 92], .null, []),
  (128, .dup, 1, [], .null, []),
  (129, .invokespecial 71, 3, [8, 14, 0, 1, 6, 3, 0, 2, 16], .null, []),
  (132, .putfield 72, 3, [11, 8, 2, 0, 39, 443], .null, []),
  (135, .aload_n 0, 1, [0], .null, []),
  (136, .new 76, 3, [1, 4, 396, 397, 93], .null, []),
  (139, .dup, 1, [], .null, []),
  (140, .aload_n 0, 1, [0], .null, []),
  (141, .getfield 19, 3, [11, 1, 2, 0, 6, 436], .null, []),
  (144, .aload_n 0, 1, [0], .null, []),
  (145, .getfield 49, 3, [11, 5, 2, 0, 25, 440], .null, []),
  (148, .invokespecial 78, 3, [1, 7, 2, 3, 398, 1, 0, 2, 200], .null, []),
  (151, .putfield 81, 3, [11, 9, 2, 0, 42, 444], .null, []),
  (154, .aload_n 0, 1, [0], .null, []),
  (155, .new 85, 3, [6, 3, 417, 418, 94], .null, []),
  (158, .dup, 1, [], .null, []),
  (159, .invokespecial 87, 3, [8, 48, 0, 1, 7, 6, 0, 3, 168], .null, []),
  (162, .putfield 88, 3, [11, 10, 2, 0, 45, 445], .null, []),
  (165, .aload_n 0, 1, [0], .null, []),
  (166, .iconst 0, 1, [], .int 0, []),
  (167, .putfield 92, 3, [11, 11, 1, 0, 0, 446], .null, []),
  (170, .return_, 1, [], .null, [])]
abbrev kX11_init : Nat := 90
abbrev zq_m90 : zq_T := (yX11_init, cX11_init, 1, none, zq_c90, (47, 2601), [104, 81, 103, 0])
def zq_c91 : List zq_I := [
  (0, .iload_n 1, 1, [1], .null, []),
  (1, .iconst 1, 1, [], .int 1, []),
  (2, .if_icmp .lt 16, 3, [18], .null, []),
  (5, .iload_n 1, 1, [1], .null, []),
  (6, .bipush 99, 2, [], .int 99, []),
  (8, .if_icmp .gt 10, 3, [18], .null, []),
  (11, .iload_n 2, 1, [2], .null, []),
  (12, .invokestatic 96, 3, [1, 127, 1, 1, 476, 11, 1, 0, 0], .null, []),
  (15, .ifCond .ne 6, 3, [21], .null, []),
  (18, .bipush (-2), 2, [], .int (-2), []),
  (20, .ireturn, 1, [], .null, []),
  (21, .aload_n 0, 1, [0], .null, []),
  (22, .getfield 12, 3, [11, 0, 2, 0, 2, 435], .null, []),
  (25, .iload_n 2, 1, [2], .null, []),
  (26, .invokevirtual 100, 3, [1, 59, 1, 3, 479, 7, 1, 0, 0], .null, []),
  (29, .ifCond .eq 6, 3, [35], .null, []),
  (32, .bipush (-3), 2, [], .int (-3), []),
  (34, .ireturn, 1, [], .null, []),
  (35, .aload_n 0, 1, [0], .null, []),
  (36, .getfield 12, 3, [11, 0, 2, 0, 2, 435], .null, []),
  (39, .iload_n 1, 1, [1], .null, []),
  (40, .iload_n 2, 1, [2], .null, []),
  (41, .invokevirtual 103, 3, [1, 60, 2, 3, 483, 7, 1, 0, 0], .null, []),
  (44, .ireturn, 1, [], .null, [])]
abbrev kX11_stone : Nat := 91
abbrev zq_m91 : zq_T := (yX11_stone, cX11_stone, 3, (some .int), zq_c91, (0, 0), [475, 81, 473, 474])
def zq_c92 : List zq_I := [
  (0, .aload_n 0, 1, [0], .null, []),
  (1, .getfield 19, 3, [11, 1, 2, 0, 6, 436], .null, []),
  (4, .iload_n 1, 1, [1], .null, []),
  (5, .invokevirtual 107, 3, [1, 13, 1, 2, 491, 2, 1, 0, 0], .null, []),
  (8, .ireturn, 1, [], .null, [])]
abbrev kX11_night : Nat := 92
abbrev zq_m92 : zq_T := (yX11_night, cX11_night, 2, (some .int), zq_c92, (0, 0), [490, 81, 488, 489])
def zq_c93 : List zq_I := [
  (0, .iload_n 1, 1, [1], .null, []),
  (1, .invokestatic 111, 3, [1, 128, 1, 1, 499, 11, 1, 0, 0], .null, []),
  (4, .ifCond .eq 13, 3, [17], .null, []),
  (7, .iload_n 2, 1, [2], .null, []),
  (8, .ifCond .lt 9, 3, [17], .null, []),
  (11, .iload_n 2, 1, [2], .null, []),
  (12, .bipush 20, 2, [], .int 20, []),
  (14, .if_icmp .le 6, 3, [20], .null, []),
  (17, .bipush (-2), 2, [], .int (-2), []),
  (19, .ireturn, 1, [], .null, []),
  (20, .aload_n 0, 1, [0], .null, []),
  (21, .getfield 26, 3, [11, 2, 2, 0, 11, 437], .null, []),
  (24, .iload_n 1, 1, [1], .null, []),
  (25, .iload_n 2, 1, [2], .null, []),
  (26, .invokevirtual 114, 3, [1, 2, 2, 3, 502, 0, 1, 0, 0], .null, []),
  (29, .ireturn, 1, [], .null, [])]
abbrev kX11_how : Nat := 93
abbrev zq_m93 : zq_T := (yX11_how, cX11_how, 3, (some .int), zq_c93, (0, 0), [498, 81, 496, 497])
def zq_c94 : List zq_I := [
  (0, .aload_n 0, 1, [0], .null, []),
  (1, .getfield 12, 3, [11, 0, 2, 0, 2, 435], .null, []),
  (4, .iload_n 1, 1, [1], .null, []),
  (5, .invokevirtual 115, 3, [1, 58, 1, 2, 510, 7, 1, 0, 0], .null, []),
  (8, .ifCond .eq 12, 3, [20], .null, []),
  (11, .iload_n 2, 1, [2], .null, []),
  (12, .ifCond .lt 8, 3, [20], .null, []),
  (15, .iload_n 2, 1, [2], .null, []),
  (16, .iconst 1, 1, [], .int 1, []),
  (17, .if_icmp .le 6, 3, [23], .null, []),
  (20, .bipush (-5), 2, [], .int (-5), []),
  (22, .ireturn, 1, [], .null, []),
  (23, .iload_n 2, 1, [2], .null, []),
  (24, .ifCond .ne 15, 3, [39], .null, []),
  (27, .aload_n 0, 1, [0], .null, []),
  (28, .getfield 12, 3, [11, 0, 2, 0, 2, 435], .null, []),
  (31, .getfield 118, 3, [7, 0, 2, 1, 3, 116], .null, []),
  (34, .iload_n 1, 1, [1], .null, []),
  (35, .iaload, 1, [], .null, []),
  (36, .goto 12, 3, [48], .null, []),
  (39, .aload_n 0, 1, [0], .null, []),
  (40, .getfield 12, 3, [11, 0, 2, 0, 2, 435], .null, []),
  (43, .getfield 122, 3, [7, 1, 2, 1, 4, 119], .null, []),
  (46, .iload_n 1, 1, [1], .null, []),
  (47, .iaload, 1, [], .null, []),
  (48, .ireturn, 1, [], .null, [])]
abbrev kX11_stoneTold : Nat := 94
abbrev zq_m94 : zq_T := (yX11_stoneTold, cX11_stoneTold, 3, (some .int), zq_c94, (0, 0), [509, 81, 507, 508])
def zq_c95 : List zq_I := [
  (0, .aload_n 0, 1, [0], .null, []),
  (1, .getfield 26, 3, [11, 2, 2, 0, 11, 437], .null, []),
  (4, .iload_n 1, 1, [1], .null, []),
  (5, .invokevirtual 125, 3, [1, 1, 1, 2, 518, 0, 1, 0, 0], .null, []),
  (8, .ifCond .eq 25, 3, [33], .null, []),
  (11, .aload_n 0, 1, [0], .null, []),
  (12, .getfield 12, 3, [11, 0, 2, 0, 2, 435], .null, []),
  (15, .iload_n 2, 1, [2], .null, []),
  (16, .invokevirtual 115, 3, [1, 58, 1, 2, 510, 7, 1, 0, 0], .null, []),
  (19, .ifCond .eq 14, 3, [33], .null, []),
  (22, .aload_n 0, 1, [0], .null, []),
  (23, .getfield 19, 3, [11, 1, 2, 0, 6, 436], .null, []),
  (26, .iload_n 3, 1, [3], .null, []),
  (27, .invokevirtual 126, 3, [1, 11, 1, 2, 522, 2, 1, 0, 0], .null, []),
  (30, .ifCond .ne 6, 3, [36], .null, []),
  (33, .bipush (-2), 2, [], .int (-2), []),
  (35, .ireturn, 1, [], .null, []),
  (36, .iload 4, 2, [4], .null, []),
  (38, .tableswitch 94 0 2 #[26, 56, 74], 26, [132, 64, 94, 112], .null, []),
  (64, .aload_n 0, 1, [0], .null, []),
  (65, .getfield 26, 3, [11, 2, 2, 0, 11, 437], .null, []),
  (68, .iload_n 1, 1, [1], .null, []),
  (69, .aload_n 0, 1, [0], .null, []),
  (70, .getfield 19, 3, [11, 1, 2, 0, 6, 436], .null, []),
  (73, .getfield 127, 3, [2, 0, 2, 5, 7, 146], .null, []),
  (76, .iload_n 3, 1, [3], .null, []),
  (77, .iaload, 1, [], .null, []),
  (78, .aload_n 0, 1, [0], .null, []),
  (79, .getfield 19, 3, [11, 1, 2, 0, 6, 436], .null, []),
  (82, .getfield 130, 3, [2, 1, 2, 5, 8, 150], .null, []),
  (85, .iload_n 3, 1, [3], .null, []),
  (86, .iaload, 1, [], .null, []),
  (87, .invokevirtual 133, 3, [1, 3, 3, 4, 526, 0, 1, 0, 0], .null, []),
  (90, .invokestatic 137, 3, [1, 125, 1, 1, 530, 11, 1, 0, 0], .null, []),
  (93, .ireturn, 1, [], .null, []),
  (94, .aload_n 0, 1, [0], .null, []),
  (95, .getfield 26, 3, [11, 2, 2, 0, 11, 437], .null, []),
  (98, .iload_n 1, 1, [1], .null, []),
  (99, .aload_n 0, 1, [0], .null, []),
  (100, .getfield 12, 3, [11, 0, 2, 0, 2, 435], .null, []),
  (103, .getfield 118, 3, [7, 0, 2, 1, 3, 116], .null, []),
  (106, .iload_n 2, 1, [2], .null, []),
  (107, .iaload, 1, [], .null, []),
  (108, .invokevirtual 141, 3, [1, 4, 2, 6, 533, 0, 1, 0, 0], .null, []),
  (111, .ireturn, 1, [], .null, []),
  (112, .aload_n 0, 1, [0], .null, []),
  (113, .getfield 49, 3, [11, 5, 2, 0, 25, 440], .null, []),
  (116, .iload_n 1, 1, [1], .null, []),
  (117, .iload_n 2, 1, [2], .null, []),
  (118, .iload_n 3, 1, [3], .null, []),
  (119, .aload_n 0, 1, [0], .null, []),
  (120, .getfield 19, 3, [11, 1, 2, 0, 6, 436], .null, []),
  (123, .getfield 144, 3, [2, 2, 2, 5, 9, 154], .null, []),
  (126, .iload_n 3, 1, [3], .null, []),
  (127, .iaload, 1, [], .null, []),
  (128, .invokevirtual 147, 3, [1, 21, 4, 7, 537, 4, 1, 0, 0], .null, []),
  (131, .ireturn, 1, [], .null, []),
  (132, .bipush (-2), 2, [], .int (-2), []),
  (134, .ireturn, 1, [], .null, [])]
abbrev kX11_told : Nat := 95
abbrev zq_m95 : zq_T := (yX11_told, cX11_told, 5, (some .int), zq_c95, (0, 0), [517, 81, 515, 516])
def zq_c96 : List zq_I := [
  (0, .aload_n 0, 1, [0], .null, []),
  (1, .getfield 26, 3, [11, 2, 2, 0, 11, 437], .null, []),
  (4, .iload_n 1, 1, [1], .null, []),
  (5, .invokevirtual 125, 3, [1, 1, 1, 2, 518, 0, 1, 0, 0], .null, []),
  (8, .ifCond .eq 25, 3, [33], .null, []),
  (11, .aload_n 0, 1, [0], .null, []),
  (12, .getfield 12, 3, [11, 0, 2, 0, 2, 435], .null, []),
  (15, .iload_n 2, 1, [2], .null, []),
  (16, .invokevirtual 115, 3, [1, 58, 1, 2, 510, 7, 1, 0, 0], .null, []),
  (19, .ifCond .eq 14, 3, [33], .null, []),
  (22, .aload_n 0, 1, [0], .null, []),
  (23, .getfield 19, 3, [11, 1, 2, 0, 6, 436], .null, []),
  (26, .iload_n 3, 1, [3], .null, []),
  (27, .invokevirtual 126, 3, [1, 11, 1, 2, 522, 2, 1, 0, 0], .null, []),
  (30, .ifCond .ne 6, 3, [36], .null, []),
  (33, .bipush (-2), 2, [], .int (-2), []),
  (35, .ireturn, 1, [], .null, []),
  (36, .iconst 0, 1, [], .int 0, []),
  (37, .istore 4, 2, [4], .null, []),
  (39, .iload 4, 2, [4], .null, [true, true, true, true, true]),
  (41, .bipush 99, 2, [], .int 99, []),
  (43, .if_icmp .gt 27, 3, [70], .null, []),
  (46, .aload_n 0, 1, [0], .null, []),
  (47, .getfield 49, 3, [11, 5, 2, 0, 25, 440], .null, []),
  (50, .iload_n 1, 1, [1], .null, []),
  (51, .iload_n 2, 1, [2], .null, []),
  (52, .iload_n 3, 1, [3], .null, []),
  (53, .iload 4, 2, [4], .null, []),
  (55, .invokevirtual 147, 3, [1, 21, 4, 7, 537, 4, 1, 0, 0], .null, []),
  (58, .ifCond .le 6, 3, [64], .null, []),
  (61, .iload 4, 2, [4], .null, []),
  (63, .ireturn, 1, [], .null, []),
  (64, .iinc 4 1, 3, [4], .int 1, []),
  (67, .goto (-28), 3, [39], .null, []),
  (70, .iconst (-1), 1, [], .int (-1), []),
  (71, .ireturn, 1, [], .null, [])]
abbrev kX11_needs : Nat := 96
abbrev zq_m96 : zq_T := (yX11_needs, cX11_needs, 5, (some .int), zq_c96, (0, 0), [575, 81, 573, 574])
def zq_c97 : List zq_I := [
  (0, .iload_n 1, 1, [1], .null, []),
  (1, .iconst 1, 1, [], .int 1, []),
  (2, .if_icmp .lt 9, 3, [11], .null, []),
  (5, .iload_n 1, 1, [1], .null, []),
  (6, .bipush 8, 2, [], .int 8, []),
  (8, .if_icmp .le 6, 3, [14], .null, []),
  (11, .bipush (-2), 2, [], .int (-2), []),
  (13, .ireturn, 1, [], .null, []),
  (14, .aload_n 0, 1, [0], .null, []),
  (15, .getfield 40, 3, [11, 4, 2, 0, 19, 439], .null, []),
  (18, .iload_n 1, 1, [1], .null, []),
  (19, .lload_n 2, 1, [2], .null, []),
  (20, .invokevirtual 151, 3, [1, 29, 2, 5, 580, 5, 1, 0, 0], .null, []),
  (23, .ireturn, 1, [], .null, [])]
abbrev kX11_feed : Nat := 97
abbrev zq_m97 : zq_T := (yX11_feed, cX11_feed, 4, (some .int), zq_c97, (0, 0), [579, 81, 577, 578])
def zq_c98 : List zq_I := [
  (0, .aload_n 0, 1, [0], .null, []),
  (1, .getfield 33, 3, [11, 3, 2, 0, 14, 438], .null, []),
  (4, .getfield 155, 3, [8, 4, 0, 13, 0, 224], .null, []),
  (7, .bipush 6, 2, [], .int 6, []),
  (9, .if_icmp .lt 6, 3, [15], .null, []),
  (12, .bipush (-4), 2, [], .int (-4), []),
  (14, .ireturn, 1, [], .null, []),
  (15, .aload_n 0, 1, [0], .null, []),
  (16, .getfield 40, 3, [11, 4, 2, 0, 19, 439], .null, []),
  (19, .invokevirtual 159, 3, [1, 30, 0, 1, 588, 5, 1, 0, 0], .null, []),
  (22, .istore_n 1, 1, [1], .null, []),
  (23, .iload_n 1, 1, [1], .null, []),
  (24, .iconst (-1), 1, [], .int (-1), []),
  (25, .if_icmp .eq 8, 3, [33], .null, []),
  (28, .bipush (-100), 2, [], .int (-100), []),
  (30, .iload_n 1, 1, [1], .null, []),
  (31, .isub, 1, [], .null, []),
  (32, .ireturn, 1, [], .null, []),
  (33, .aload_n 0, 1, [0], .null, []),
  (34, .getfield 33, 3, [11, 3, 2, 0, 14, 438], .null, []),
  (37, .aload_n 0, 1, [0], .null, []),
  (38, .getfield 40, 3, [11, 4, 2, 0, 19, 439], .null, []),
  (41, .getfield 163, 3, [5, 0, 2, 18, 20, 250], .null, []),
  (44, .aload_n 0, 1, [0], .null, []),
  (45, .getfield 40, 3, [11, 4, 2, 0, 19, 439], .null, []),
  (48, .getfield 166, 3, [5, 1, 2, 18, 21, 252], .null, []),
  (51, .invokevirtual 169, 3, [1, 67, 2, 4, 717, 8, 1, 0, 0], .null, []),
  (54, .ireturn, 1, [], .null, [])]
abbrev kX11_text : Nat := 98
abbrev zq_m98 : zq_T := (yX11_text, cX11_text, 2, (some .int), zq_c98, (0, 0), [587, 81, 585, 586])
def zq_c99 : List zq_I := [
  (0, .iload_n 1, 1, [1], .null, []),
  (1, .ifCond .lt 14, 3, [15], .null, []),
  (4, .iload_n 1, 1, [1], .null, []),
  (5, .aload_n 0, 1, [0], .null, []),
  (6, .getfield 33, 3, [11, 3, 2, 0, 14, 438], .null, []),
  (9, .getfield 155, 3, [8, 4, 0, 13, 0, 224], .null, []),
  (12, .if_icmp .lt 6, 3, [18], .null, []),
  (15, .bipush (-2), 2, [], .int (-2), []),
  (17, .ireturn, 1, [], .null, []),
  (18, .aload_n 0, 1, [0], .null, []),
  (19, .getfield 33, 3, [11, 3, 2, 0, 14, 438], .null, []),
  (22, .getfield 173, 3, [8, 5, 0, 13, 0, 226], .null, []),
  (25, .istore_n 2, 1, [2], .null, []),
  (26, .aload_n 0, 1, [0], .null, []),
  (27, .getfield 33, 3, [11, 3, 2, 0, 14, 438], .null, []),
  (30, .iload_n 1, 1, [1], .null, []),
  (31, .putfield 173, 3, [8, 5, 0, 13, 0, 226], .null, []),
  (34, .iload_n 2, 1, [2], .null, []),
  (35, .ireturn, 1, [], .null, [])]
abbrev kX11_force : Nat := 99
abbrev zq_m99 : zq_T := (yX11_force, cX11_force, 3, (some .int), zq_c99, (0, 0), [722, 81, 720, 721])
def zq_c100 : List zq_I := [
  (0, .aload_n 0, 1, [0], .null, []),
  (1, .getfield 26, 3, [11, 2, 2, 0, 11, 437], .null, []),
  (4, .iload_n 1, 1, [1], .null, []),
  (5, .invokevirtual 125, 3, [1, 1, 1, 2, 518, 0, 1, 0, 0], .null, []),
  (8, .ifCond .eq 25, 3, [33], .null, []),
  (11, .aload_n 0, 1, [0], .null, []),
  (12, .getfield 19, 3, [11, 1, 2, 0, 6, 436], .null, []),
  (15, .iload_n 2, 1, [2], .null, []),
  (16, .invokevirtual 176, 3, [1, 12, 1, 2, 727, 2, 1, 0, 0], .null, []),
  (19, .ifCond .eq 14, 3, [33], .null, []),
  (22, .aload_n 0, 1, [0], .null, []),
  (23, .getfield 12, 3, [11, 0, 2, 0, 2, 435], .null, []),
  (26, .iload_n 3, 1, [3], .null, []),
  (27, .invokevirtual 115, 3, [1, 58, 1, 2, 510, 7, 1, 0, 0], .null, []),
  (30, .ifCond .ne 6, 3, [36], .null, []),
  (33, .bipush (-2), 2, [], .int (-2), []),
  (35, .ireturn, 1, [], .null, []),
  (36, .iload 4, 2, [4], .null, []),
  (38, .ifCond .lt 9, 3, [47], .null, []),
  (41, .iload 4, 2, [4], .null, []),
  (43, .iconst 2, 1, [], .int 2, []),
  (44, .if_icmp .le 6, 3, [50], .null, []),
  (47, .bipush (-2), 2, [], .int (-2), []),
  (49, .ireturn, 1, [], .null, []),
  (50, .aload_n 0, 1, [0], .null, []),
  (51, .getfield 58, 3, [11, 6, 2, 0, 26, 441], .null, []),
  (54, .iload_n 1, 1, [1], .null, []),
  (55, .iload_n 2, 1, [2], .null, []),
  (56, .bipush 100, 2, [], .int 100, []),
  (58, .idiv, 1, [], .null, []),
  (59, .iload_n 2, 1, [2], .null, []),
  (60, .bipush 100, 2, [], .int 100, []),
  (62, .irem, 1, [], .null, []),
  (63, .invokevirtual 179, 3, [1, 87, 3, 6, 732, 10, 0, 0, 0], .null, []),
  (66, .iload 4, 2, [4], .null, []),
  (68, .ifCond .ne 13, 3, [81], .null, []),
  (71, .aload_n 0, 1, [0], .null, []),
  (72, .getfield 58, 3, [11, 6, 2, 0, 26, 441], .null, []),
  (75, .getfield 183, 3, [10, 1, 2, 25, 28, 305], .null, []),
  (78, .iload_n 3, 1, [3], .null, []),
  (79, .iaload, 1, [], .null, []),
  (80, .ireturn, 1, [], .null, []),
  (81, .iload 4, 2, [4], .null, []),
  (83, .iconst 1, 1, [], .int 1, []),
  (84, .if_icmp .ne 15, 3, [99], .null, []),
  (87, .aload_n 0, 1, [0], .null, []),
  (88, .getfield 58, 3, [11, 6, 2, 0, 26, 441], .null, []),
  (91, .getfield 186, 3, [10, 0, 2, 25, 27, 303], .null, []),
  (94, .iload_n 3, 1, [3], .null, []),
  (95, .iaload, 1, [], .null, []),
  (96, .goto 12, 3, [108], .null, []),
  (99, .aload_n 0, 1, [0], .null, []),
  (100, .getfield 58, 3, [11, 6, 2, 0, 26, 441], .null, []),
  (103, .getfield 189, 3, [10, 2, 2, 25, 29, 307], .null, []),
  (106, .iload_n 3, 1, [3], .null, []),
  (107, .iaload, 1, [], .null, []),
  (108, .ireturn, 1, [], .null, [])]
abbrev kX11_run : Nat := 100
abbrev zq_m100 : zq_T := (yX11_run, cX11_run, 5, (some .int), zq_c100, (0, 0), [726, 81, 724, 725])
def zq_c101 : List zq_I := [
  (0, .aload_n 0, 1, [0], .null, []),
  (1, .getfield 26, 3, [11, 2, 2, 0, 11, 437], .null, []),
  (4, .iload_n 1, 1, [1], .null, []),
  (5, .invokevirtual 125, 3, [1, 1, 1, 2, 518, 0, 1, 0, 0], .null, []),
  (8, .ifCond .eq 14, 3, [22], .null, []),
  (11, .aload_n 0, 1, [0], .null, []),
  (12, .getfield 19, 3, [11, 1, 2, 0, 6, 436], .null, []),
  (15, .iload_n 2, 1, [2], .null, []),
  (16, .invokevirtual 176, 3, [1, 12, 1, 2, 727, 2, 1, 0, 0], .null, []),
  (19, .ifCond .ne 6, 3, [25], .null, []),
  (22, .bipush (-2), 2, [], .int (-2), []),
  (24, .ireturn, 1, [], .null, []),
  (25, .aload_n 0, 1, [0], .null, []),
  (26, .getfield 58, 3, [11, 6, 2, 0, 26, 441], .null, []),
  (29, .iload_n 1, 1, [1], .null, []),
  (30, .iload_n 2, 1, [2], .null, []),
  (31, .bipush 100, 2, [], .int 100, []),
  (33, .idiv, 1, [], .null, []),
  (34, .iload_n 2, 1, [2], .null, []),
  (35, .bipush 100, 2, [], .int 100, []),
  (37, .irem, 1, [], .null, []),
  (38, .invokevirtual 179, 3, [1, 87, 3, 6, 732, 10, 0, 0, 0], .null, []),
  (41, .iconst 0, 1, [], .int 0, []),
  (42, .istore_n 3, 1, [3], .null, []),
  (43, .iconst 0, 1, [], .int 0, []),
  (44, .istore 4, 2, [4], .null, []),
  (46, .iload 4, 2, [4], .null, [true, false, false, true, true]),
  (48, .aload_n 0, 1, [0], .null, []),
  (49, .getfield 12, 3, [11, 0, 2, 0, 2, 435], .null, []),
  (52, .getfield 192, 3, [7, 3, 0, 1, 0, 124], .null, []),
  (55, .if_icmp .ge 42, 3, [97], .null, []),
  (58, .aload_n 0, 1, [0], .null, []),
  (59, .getfield 12, 3, [11, 0, 2, 0, 2, 435], .null, []),
  (62, .getfield 122, 3, [7, 1, 2, 1, 4, 119], .null, []),
  (65, .iload 4, 2, [4], .null, []),
  (67, .aload_n 0, 1, [0], .null, []),
  (68, .getfield 58, 3, [11, 6, 2, 0, 26, 441], .null, []),
  (71, .getfield 186, 3, [10, 0, 2, 25, 27, 303], .null, []),
  (74, .iload 4, 2, [4], .null, []),
  (76, .iaload, 1, [], .null, []),
  (77, .iastore, 1, [], .null, []),
  (78, .iload_n 3, 1, [3], .null, []),
  (79, .aload_n 0, 1, [0], .null, []),
  (80, .getfield 58, 3, [11, 6, 2, 0, 26, 441], .null, []),
  (83, .getfield 183, 3, [10, 1, 2, 25, 28, 305], .null, []),
  (86, .iload 4, 2, [4], .null, []),
  (88, .iaload, 1, [], .null, []),
  (89, .iadd, 1, [], .null, []),
  (90, .istore_n 3, 1, [3], .null, []),
  (91, .iinc 4 1, 3, [4], .int 1, []),
  (94, .goto (-48), 3, [46], .null, []),
  (97, .iload_n 3, 1, [3], .null, []),
  (98, .ireturn, 1, [], .null, [])]
abbrev kX11_lay : Nat := 101
abbrev zq_m101 : zq_T := (yX11_lay, cX11_lay, 5, (some .int), zq_c101, (0, 0), [758, 81, 756, 757])
def zq_c102 : List zq_I := [
  (0, .aload_n 0, 1, [0], .null, []),
  (1, .getfield 12, 3, [11, 0, 2, 0, 2, 435], .null, []),
  (4, .iload_n 1, 1, [1], .null, []),
  (5, .invokevirtual 115, 3, [1, 58, 1, 2, 510, 7, 1, 0, 0], .null, []),
  (8, .ifCond .eq 24, 3, [32], .null, []),
  (11, .iload_n 2, 1, [2], .null, []),
  (12, .ifCond .lt 20, 3, [32], .null, []),
  (15, .iload_n 2, 1, [2], .null, []),
  (16, .sipush 999, 3, [], .int 999, []),
  (19, .if_icmp .gt 13, 3, [32], .null, []),
  (22, .iload_n 3, 1, [3], .null, []),
  (23, .ifCond .lt 9, 3, [32], .null, []),
  (26, .iload_n 3, 1, [3], .null, []),
  (27, .bipush 99, 2, [], .int 99, []),
  (29, .if_icmp .le 6, 3, [35], .null, []),
  (32, .bipush (-2), 2, [], .int (-2), []),
  (34, .ireturn, 1, [], .null, []),
  (35, .aload_n 0, 1, [0], .null, []),
  (36, .getfield 65, 3, [11, 7, 2, 0, 31, 442], .null, []),
  (39, .iload_n 1, 1, [1], .null, []),
  (40, .iload_n 2, 1, [2], .null, []),
  (41, .iload_n 3, 1, [3], .null, []),
  (42, .invokevirtual 193, 3, [1, 76, 3, 4, 763, 9, 1, 0, 0], .null, []),
  (45, .ireturn, 1, [], .null, [])]
abbrev kX11_track : Nat := 102
abbrev zq_m102 : zq_T := (yX11_track, cX11_track, 4, (some .int), zq_c102, (0, 0), [762, 81, 760, 761])
def zq_c103 : List zq_I := [
  (0, .aload_n 0, 1, [0], .null, []),
  (1, .getfield 65, 3, [11, 7, 2, 0, 31, 442], .null, []),
  (4, .iload_n 1, 1, [1], .null, []),
  (5, .invokevirtual 196, 3, [1, 74, 1, 2, 771, 9, 1, 0, 0], .null, []),
  (8, .ifCond .eq 26, 3, [34], .null, []),
  (11, .aload_n 0, 1, [0], .null, []),
  (12, .getfield 65, 3, [11, 7, 2, 0, 31, 442], .null, []),
  (15, .iload_n 2, 1, [2], .null, []),
  (16, .invokevirtual 196, 3, [1, 74, 1, 2, 771, 9, 1, 0, 0], .null, []),
  (19, .ifCond .eq 15, 3, [34], .null, []),
  (22, .iload_n 1, 1, [1], .null, []),
  (23, .iload_n 2, 1, [2], .null, []),
  (24, .if_icmp .eq 10, 3, [34], .null, []),
  (27, .iload_n 3, 1, [3], .null, []),
  (28, .invokestatic 197, 3, [1, 129, 1, 1, 775, 11, 1, 0, 0], .null, []),
  (31, .ifCond .ne 6, 3, [37], .null, []),
  (34, .bipush (-2), 2, [], .int (-2), []),
  (36, .ireturn, 1, [], .null, []),
  (37, .aload_n 0, 1, [0], .null, []),
  (38, .getfield 65, 3, [11, 7, 2, 0, 31, 442], .null, []),
  (41, .iload_n 1, 1, [1], .null, []),
  (42, .iload_n 2, 1, [2], .null, []),
  (43, .iload_n 3, 1, [3], .null, []),
  (44, .invokevirtual 200, 3, [1, 80, 3, 4, 778, 9, 1, 0, 0], .null, []),
  (47, .invokestatic 137, 3, [1, 125, 1, 1, 530, 11, 1, 0, 0], .null, []),
  (50, .ireturn, 1, [], .null, [])]
abbrev kX11_together : Nat := 103
abbrev zq_m103 : zq_T := (yX11_together, cX11_together, 4, (some .int), zq_c103, (0, 0), [770, 81, 768, 769])
def zq_c104 : List zq_I := [
  (0, .iload_n 1, 1, [1], .null, []),
  (1, .invokestatic 197, 3, [1, 129, 1, 1, 775, 11, 1, 0, 0], .null, []),
  (4, .ifCond .ne 6, 3, [10], .null, []),
  (7, .bipush (-2), 2, [], .int (-2), []),
  (9, .ireturn, 1, [], .null, []),
  (10, .aload_n 0, 1, [0], .null, []),
  (11, .getfield 65, 3, [11, 7, 2, 0, 31, 442], .null, []),
  (14, .iload_n 1, 1, [1], .null, []),
  (15, .invokevirtual 203, 3, [1, 81, 1, 5, 789, 9, 1, 0, 0], .null, []),
  (18, .ireturn, 1, [], .null, [])]
abbrev kX11_groups : Nat := 104
abbrev zq_m104 : zq_T := (yX11_groups, cX11_groups, 2, (some .int), zq_c104, (0, 0), [788, 81, 786, 787])
def zq_c105 : List zq_I := [
  (0, .aload_n 0, 1, [0], .null, []),
  (1, .getfield 65, 3, [11, 7, 2, 0, 31, 442], .null, []),
  (4, .iload_n 1, 1, [1], .null, []),
  (5, .invokevirtual 196, 3, [1, 74, 1, 2, 771, 9, 1, 0, 0], .null, []),
  (8, .ifCond .eq 14, 3, [22], .null, []),
  (11, .aload_n 0, 1, [0], .null, []),
  (12, .getfield 26, 3, [11, 2, 2, 0, 11, 437], .null, []),
  (15, .iload_n 2, 1, [2], .null, []),
  (16, .invokevirtual 125, 3, [1, 1, 1, 2, 518, 0, 1, 0, 0], .null, []),
  (19, .ifCond .ne 6, 3, [25], .null, []),
  (22, .bipush (-2), 2, [], .int (-2), []),
  (24, .ireturn, 1, [], .null, []),
  (25, .aload_n 0, 1, [0], .null, []),
  (26, .getfield 58, 3, [11, 6, 2, 0, 26, 441], .null, []),
  (29, .iload_n 2, 1, [2], .null, []),
  (30, .iconst 0, 1, [], .int 0, []),
  (31, .aload_n 0, 1, [0], .null, []),
  (32, .getfield 19, 3, [11, 1, 2, 0, 6, 436], .null, []),
  (35, .getfield 206, 3, [2, 4, 0, 5, 0, 160], .null, []),
  (38, .iconst 1, 1, [], .int 1, []),
  (39, .isub, 1, [], .null, []),
  (40, .invokevirtual 179, 3, [1, 87, 3, 6, 732, 10, 0, 0, 0], .null, []),
  (43, .aload_n 0, 1, [0], .null, []),
  (44, .iload_n 1, 1, [1], .null, []),
  (45, .invokevirtual 207, 3, [1, 134, 1, 5, 802, 11, 1, 0, 0], .null, []),
  (48, .ireturn, 1, [], .null, [])]
abbrev kX11_fits : Nat := 105
abbrev zq_m105 : zq_T := (yX11_fits, cX11_fits, 3, (some .int), zq_c105, (0, 0), [801, 81, 799, 800])
def zq_c106 : List zq_I := [
  (0, .aload_n 0, 1, [0], .null, []),
  (1, .getfield 26, 3, [11, 2, 2, 0, 11, 437], .null, []),
  (4, .iload_n 1, 1, [1], .null, []),
  (5, .invokevirtual 125, 3, [1, 1, 1, 2, 518, 0, 1, 0, 0], .null, []),
  (8, .ifCond .eq 23, 3, [31], .null, []),
  (11, .aload_n 0, 1, [0], .null, []),
  (12, .getfield 65, 3, [11, 7, 2, 0, 31, 442], .null, []),
  (15, .iload_n 2, 1, [2], .null, []),
  (16, .invokevirtual 210, 3, [1, 75, 1, 2, 811, 9, 1, 0, 0], .null, []),
  (19, .ifCond .eq 12, 3, [31], .null, []),
  (22, .iload_n 3, 1, [3], .null, []),
  (23, .ifCond .lt 8, 3, [31], .null, []),
  (26, .iload_n 3, 1, [3], .null, []),
  (27, .iconst 1, 1, [], .int 1, []),
  (28, .if_icmp .le 7, 3, [35], .null, []),
  (31, .ldc2_w 213, 3, [2, 816], .long (-4611686018427387904), []),
  (34, .lreturn, 1, [], .null, []),
  (35, .lconst 0, 1, [], .long 0, []),
  (36, .lstore 4, 2, [4], .null, []),
  (38, .lconst 0, 1, [], .long 0, []),
  (39, .lstore 6, 2, [6], .null, []),
  (41, .iconst 0, 1, [], .int 0, []),
  (42, .istore 8, 2, [8], .null, []),
  (44, .iload 8, 2, [8], .null, [true, true, true, true, true, false, true, false, true, false, false]),
  (46, .aload_n 0, 1, [0], .null, []),
  (47, .getfield 26, 3, [11, 2, 2, 0, 11, 437], .null, []),
  (50, .getfield 215, 3, [0, 2, 0, 10, 0, 184], .null, []),
  (53, .if_icmp .ge 52, 3, [105], .null, []),
  (56, .aload_n 0, 1, [0], .null, []),
  (57, .getfield 58, 3, [11, 6, 2, 0, 26, 441], .null, []),
  (60, .iload 8, 2, [8], .null, []),
  (62, .iconst 0, 1, [], .int 0, []),
  (63, .aload_n 0, 1, [0], .null, []),
  (64, .getfield 19, 3, [11, 1, 2, 0, 6, 436], .null, []),
  (67, .getfield 206, 3, [2, 4, 0, 5, 0, 160], .null, []),
  (70, .iconst 1, 1, [], .int 1, []),
  (71, .isub, 1, [], .null, []),
  (72, .invokevirtual 179, 3, [1, 87, 3, 6, 732, 10, 0, 0, 0], .null, []),
  (75, .aload_n 0, 1, [0], .null, []),
  (76, .iload_n 2, 1, [2], .null, []),
  (77, .invokevirtual 216, 3, [1, 135, 1, 5, 817, 11, 1, 0, 0], .null, []),
  (80, .lstore 9, 2, [9], .null, []),
  (82, .lload 6, 2, [6], .null, []),
  (84, .lload 9, 2, [9], .null, []),
  (86, .ladd, 1, [], .null, []),
  (87, .lstore 6, 2, [6], .null, []),
  (89, .iload 8, 2, [8], .null, []),
  (91, .iload_n 1, 1, [1], .null, []),
  (92, .if_icmp .ne 7, 3, [99], .null, []),
  (95, .lload 9, 2, [9], .null, []),
  (97, .lstore 4, 2, [4], .null, []),
  (99, .iinc 8 1, 3, [8], .int 1, []),
  (102, .goto (-58), 3, [44], .null, []),
  (105, .lload 4, 2, [4], .null, []),
  (107, .lload 6, 2, [6], .null, []),
  (109, .iload_n 3, 1, [3], .null, []),
  (110, .invokestatic 220, 3, [1, 137, 3, 9, 821, 11, 1, 0, 0], .null, []),
  (113, .lreturn, 1, [], .null, [])]
abbrev kX11_odds : Nat := 106
abbrev zq_m106 : zq_T := (yX11_odds, cX11_odds, 11, (some .long), zq_c106, (0, 0), [810, 81, 808, 809])
def zq_c107 : List zq_I := [
  (0, .iload_n 1, 1, [1], .null, []),
  (1, .invokestatic 96, 3, [1, 127, 1, 1, 476, 11, 1, 0, 0], .null, []),
  (4, .ifCond .ne 6, 3, [10], .null, []),
  (7, .bipush (-2), 2, [], .int (-2), []),
  (9, .ireturn, 1, [], .null, []),
  (10, .aload_n 0, 1, [0], .null, []),
  (11, .getfield 72, 3, [11, 8, 2, 0, 39, 443], .null, []),
  (14, .iload_n 1, 1, [1], .null, []),
  (15, .invokevirtual 224, 3, [1, 15, 1, 2, 831, 3, 1, 0, 0], .null, []),
  (18, .ireturn, 1, [], .null, [])]
abbrev kX11_peg : Nat := 107
abbrev zq_m107 : zq_T := (yX11_peg, cX11_peg, 2, (some .int), zq_c107, (0, 0), [830, 81, 828, 829])
def zq_c108 : List zq_I := [
  (0, .aload_n 0, 1, [0], .null, []),
  (1, .getfield 12, 3, [11, 0, 2, 0, 2, 435], .null, []),
  (4, .iload_n 1, 1, [1], .null, []),
  (5, .invokevirtual 115, 3, [1, 58, 1, 2, 510, 7, 1, 0, 0], .null, []),
  (8, .ifCond .eq 10, 3, [18], .null, []),
  (11, .iload_n 2, 1, [2], .null, []),
  (12, .invokestatic 226, 3, [1, 130, 1, 1, 839, 11, 1, 0, 0], .null, []),
  (15, .ifCond .ne 6, 3, [21], .null, []),
  (18, .bipush (-2), 2, [], .int (-2), []),
  (20, .ireturn, 1, [], .null, []),
  (21, .aload_n 0, 1, [0], .null, []),
  (22, .getfield 72, 3, [11, 8, 2, 0, 39, 443], .null, []),
  (25, .aload_n 0, 1, [0], .null, []),
  (26, .getfield 12, 3, [11, 0, 2, 0, 2, 435], .null, []),
  (29, .getfield 122, 3, [7, 1, 2, 1, 4, 119], .null, []),
  (32, .iload_n 1, 1, [1], .null, []),
  (33, .iaload, 1, [], .null, []),
  (34, .iload_n 2, 1, [2], .null, []),
  (35, .invokevirtual 229, 3, [1, 16, 2, 3, 842, 3, 1, 0, 0], .null, []),
  (38, .invokestatic 137, 3, [1, 125, 1, 1, 530, 11, 1, 0, 0], .null, []),
  (41, .ireturn, 1, [], .null, [])]
abbrev kX11_holds : Nat := 108
abbrev zq_m108 : zq_T := (yX11_holds, cX11_holds, 3, (some .int), zq_c108, (0, 0), [838, 81, 836, 837])
def zq_c109 : List zq_I := [
  (0, .aload_n 0, 1, [0], .null, []),
  (1, .getfield 26, 3, [11, 2, 2, 0, 11, 437], .null, []),
  (4, .iload_n 1, 1, [1], .null, []),
  (5, .invokevirtual 125, 3, [1, 1, 1, 2, 518, 0, 1, 0, 0], .null, []),
  (8, .ifCond .eq 10, 3, [18], .null, []),
  (11, .iload_n 2, 1, [2], .null, []),
  (12, .invokestatic 226, 3, [1, 130, 1, 1, 839, 11, 1, 0, 0], .null, []),
  (15, .ifCond .ne 6, 3, [21], .null, []),
  (18, .bipush (-2), 2, [], .int (-2), []),
  (20, .ireturn, 1, [], .null, []),
  (21, .aload_n 0, 1, [0], .null, []),
  (22, .getfield 58, 3, [11, 6, 2, 0, 26, 441], .null, []),
  (25, .iload_n 1, 1, [1], .null, []),
  (26, .iconst 0, 1, [], .int 0, []),
  (27, .aload_n 0, 1, [0], .null, []),
  (28, .getfield 19, 3, [11, 1, 2, 0, 6, 436], .null, []),
  (31, .getfield 206, 3, [2, 4, 0, 5, 0, 160], .null, []),
  (34, .iconst 1, 1, [], .int 1, []),
  (35, .isub, 1, [], .null, []),
  (36, .invokevirtual 179, 3, [1, 87, 3, 6, 732, 10, 0, 0, 0], .null, []),
  (39, .iconst 0, 1, [], .int 0, []),
  (40, .istore_n 3, 1, [3], .null, []),
  (41, .iconst 0, 1, [], .int 0, []),
  (42, .istore 4, 2, [4], .null, []),
  (44, .iload 4, 2, [4], .null, [true, false, true, true, true]),
  (46, .aload_n 0, 1, [0], .null, []),
  (47, .getfield 12, 3, [11, 0, 2, 0, 2, 435], .null, []),
  (50, .getfield 192, 3, [7, 3, 0, 1, 0, 124], .null, []),
  (53, .if_icmp .ge 53, 3, [106], .null, []),
  (56, .aload_n 0, 1, [0], .null, []),
  (57, .getfield 72, 3, [11, 8, 2, 0, 39, 443], .null, []),
  (60, .aload_n 0, 1, [0], .null, []),
  (61, .getfield 12, 3, [11, 0, 2, 0, 2, 435], .null, []),
  (64, .getfield 122, 3, [7, 1, 2, 1, 4, 119], .null, []),
  (67, .iload 4, 2, [4], .null, []),
  (69, .iaload, 1, [], .null, []),
  (70, .iload_n 2, 1, [2], .null, []),
  (71, .invokevirtual 229, 3, [1, 16, 2, 3, 842, 3, 1, 0, 0], .null, []),
  (74, .ifCond .eq 26, 3, [100], .null, []),
  (77, .aload_n 0, 1, [0], .null, []),
  (78, .getfield 72, 3, [11, 8, 2, 0, 39, 443], .null, []),
  (81, .aload_n 0, 1, [0], .null, []),
  (82, .getfield 58, 3, [11, 6, 2, 0, 26, 441], .null, []),
  (85, .getfield 186, 3, [10, 0, 2, 25, 27, 303], .null, []),
  (88, .iload 4, 2, [4], .null, []),
  (90, .iaload, 1, [], .null, []),
  (91, .invokevirtual 233, 3, [1, 18, 1, 2, 854, 3, 1, 0, 0], .null, []),
  (94, .ifCond .eq 6, 3, [100], .null, []),
  (97, .iinc 3 1, 3, [3], .int 1, []),
  (100, .iinc 4 1, 3, [4], .int 1, []),
  (103, .goto (-59), 3, [44], .null, []),
  (106, .iload_n 3, 1, [3], .null, []),
  (107, .ireturn, 1, [], .null, [])]
abbrev kX11_bars : Nat := 109
abbrev zq_m109 : zq_T := (yX11_bars, cX11_bars, 5, (some .int), zq_c109, (0, 0), [853, 81, 851, 852])
def zq_c110 : List zq_I := [
  (0, .aload_n 0, 1, [0], .null, []),
  (1, .getfield 26, 3, [11, 2, 2, 0, 11, 437], .null, []),
  (4, .iload_n 1, 1, [1], .null, []),
  (5, .invokevirtual 125, 3, [1, 1, 1, 2, 518, 0, 1, 0, 0], .null, []),
  (8, .ifCond .ne 7, 3, [15], .null, []),
  (11, .ldc2_w 213, 3, [2, 816], .long (-4611686018427387904), []),
  (14, .lreturn, 1, [], .null, []),
  (15, .iload_n 2, 1, [2], .null, []),
  (16, .tableswitch 98 0 5 #[40, 50, 60, 60, 76, 87], 40, [114, 56, 66, 76, 76, 92, 103], .null, []),
  (56, .aload_n 0, 1, [0], .null, []),
  (57, .getfield 49, 3, [11, 5, 2, 0, 25, 440], .null, []),
  (60, .iload_n 1, 1, [1], .null, []),
  (61, .invokevirtual 236, 3, [1, 23, 1, 4, 866, 4, 1, 0, 0], .null, []),
  (64, .i2l, 1, [], .null, []),
  (65, .lreturn, 1, [], .null, []),
  (66, .aload_n 0, 1, [0], .null, []),
  (67, .getfield 49, 3, [11, 5, 2, 0, 25, 440], .null, []),
  (70, .iload_n 1, 1, [1], .null, []),
  (71, .invokevirtual 239, 3, [1, 24, 1, 5, 876, 4, 1, 0, 0], .null, []),
  (74, .i2l, 1, [], .null, []),
  (75, .lreturn, 1, [], .null, []),
  (76, .aload_n 0, 1, [0], .null, []),
  (77, .aload_n 0, 1, [0], .null, []),
  (78, .getfield 49, 3, [11, 5, 2, 0, 25, 440], .null, []),
  (81, .iload_n 1, 1, [1], .null, []),
  (82, .invokevirtual 236, 3, [1, 23, 1, 4, 866, 4, 1, 0, 0], .null, []),
  (85, .iload_n 2, 1, [2], .null, []),
  (86, .iconst 2, 1, [], .int 2, []),
  (87, .isub, 1, [], .null, []),
  (88, .invokevirtual 242, 3, [1, 136, 2, 3, 880, 11, 1, 0, 0], .null, []),
  (91, .lreturn, 1, [], .null, []),
  (92, .aload_n 0, 1, [0], .null, []),
  (93, .getfield 49, 3, [11, 5, 2, 0, 25, 440], .null, []),
  (96, .iload_n 1, 1, [1], .null, []),
  (97, .iconst 0, 1, [], .int 0, []),
  (98, .invokevirtual 246, 3, [1, 25, 2, 6, 884, 4, 1, 0, 0], .null, []),
  (101, .i2l, 1, [], .null, []),
  (102, .lreturn, 1, [], .null, []),
  (103, .aload_n 0, 1, [0], .null, []),
  (104, .getfield 49, 3, [11, 5, 2, 0, 25, 440], .null, []),
  (107, .iload_n 1, 1, [1], .null, []),
  (108, .iconst 1, 1, [], .int 1, []),
  (109, .invokevirtual 246, 3, [1, 25, 2, 6, 884, 4, 1, 0, 0], .null, []),
  (112, .i2l, 1, [], .null, []),
  (113, .lreturn, 1, [], .null, []),
  (114, .ldc2_w 213, 3, [2, 816], .long (-4611686018427387904), []),
  (117, .lreturn, 1, [], .null, [])]
abbrev kX11_seldom : Nat := 110
abbrev zq_m110 : zq_T := (yX11_seldom, cX11_seldom, 3, (some .long), zq_c110, (0, 0), [865, 81, 863, 864])
def zq_c111 : List zq_I := [
  (0, .aload_n 0, 1, [0], .null, []),
  (1, .getfield 26, 3, [11, 2, 2, 0, 11, 437], .null, []),
  (4, .iload_n 1, 1, [1], .null, []),
  (5, .invokevirtual 125, 3, [1, 1, 1, 2, 518, 0, 1, 0, 0], .null, []),
  (8, .ifCond .eq 14, 3, [22], .null, []),
  (11, .aload_n 0, 1, [0], .null, []),
  (12, .getfield 12, 3, [11, 0, 2, 0, 2, 435], .null, []),
  (15, .iload_n 2, 1, [2], .null, []),
  (16, .invokevirtual 115, 3, [1, 58, 1, 2, 510, 7, 1, 0, 0], .null, []),
  (19, .ifCond .ne 7, 3, [26], .null, []),
  (22, .ldc2_w 213, 3, [2, 816], .long (-4611686018427387904), []),
  (25, .lreturn, 1, [], .null, []),
  (26, .lconst 0, 1, [], .long 0, []),
  (27, .lstore_n 3, 1, [3], .null, []),
  (28, .iconst 0, 1, [], .int 0, []),
  (29, .istore 5, 2, [5], .null, []),
  (31, .iload 5, 2, [5], .null, [true, true, true, true, false, true]),
  (33, .aload_n 0, 1, [0], .null, []),
  (34, .getfield 19, 3, [11, 1, 2, 0, 6, 436], .null, []),
  (37, .getfield 206, 3, [2, 4, 0, 5, 0, 160], .null, []),
  (40, .if_icmp .ge 30, 3, [70], .null, []),
  (43, .aload_n 0, 1, [0], .null, []),
  (44, .getfield 58, 3, [11, 6, 2, 0, 26, 441], .null, []),
  (47, .iload_n 1, 1, [1], .null, []),
  (48, .iload_n 2, 1, [2], .null, []),
  (49, .iload 5, 2, [5], .null, []),
  (51, .invokevirtual 250, 3, [1, 89, 3, 4, 901, 10, 1, 0, 0], .null, []),
  (54, .ifCond .eq 10, 3, [64], .null, []),
  (57, .lload_n 3, 1, [3], .null, []),
  (58, .lconst 1, 1, [], .long 1, []),
  (59, .iload 5, 2, [5], .null, []),
  (61, .lshl, 1, [], .null, []),
  (62, .lor, 1, [], .null, []),
  (63, .lstore_n 3, 1, [3], .null, []),
  (64, .iinc 5 1, 3, [5], .int 1, []),
  (67, .goto (-36), 3, [31], .null, []),
  (70, .lload_n 3, 1, [3], .null, []),
  (71, .lreturn, 1, [], .null, [])]
abbrev kX11_when : Nat := 111
abbrev zq_m111 : zq_T := (yX11_when, cX11_when, 6, (some .long), zq_c111, (0, 0), [900, 81, 898, 899])
def zq_c112 : List zq_I := [
  (0, .aload_n 0, 1, [0], .null, []),
  (1, .getfield 65, 3, [11, 7, 2, 0, 31, 442], .null, []),
  (4, .iload_n 1, 1, [1], .null, []),
  (5, .invokevirtual 196, 3, [1, 74, 1, 2, 771, 9, 1, 0, 0], .null, []),
  (8, .ifCond .eq 19, 3, [27], .null, []),
  (11, .aload_n 0, 1, [0], .null, []),
  (12, .getfield 65, 3, [11, 7, 2, 0, 31, 442], .null, []),
  (15, .iload_n 2, 1, [2], .null, []),
  (16, .invokevirtual 196, 3, [1, 74, 1, 2, 771, 9, 1, 0, 0], .null, []),
  (19, .ifCond .eq 8, 3, [27], .null, []),
  (22, .iload_n 1, 1, [1], .null, []),
  (23, .iload_n 2, 1, [2], .null, []),
  (24, .if_icmp .ne 6, 3, [30], .null, []),
  (27, .bipush (-2), 2, [], .int (-2), []),
  (29, .ireturn, 1, [], .null, []),
  (30, .aload_n 0, 1, [0], .null, []),
  (31, .getfield 65, 3, [11, 7, 2, 0, 31, 442], .null, []),
  (34, .iload_n 1, 1, [1], .null, []),
  (35, .iload_n 2, 1, [2], .null, []),
  (36, .invokevirtual 253, 3, [1, 77, 2, 3, 909, 9, 1, 0, 0], .null, []),
  (39, .ireturn, 1, [], .null, [])]
abbrev kX11_cross : Nat := 112
abbrev zq_m112 : zq_T := (yX11_cross, cX11_cross, 3, (some .int), zq_c112, (0, 0), [908, 81, 906, 907])
def zq_c113 : List zq_I := [
  (0, .aload_n 0, 1, [0], .null, []),
  (1, .getfield 65, 3, [11, 7, 2, 0, 31, 442], .null, []),
  (4, .iload_n 1, 1, [1], .null, []),
  (5, .invokevirtual 196, 3, [1, 74, 1, 2, 771, 9, 1, 0, 0], .null, []),
  (8, .ifCond .ne 6, 3, [14], .null, []),
  (11, .bipush (-2), 2, [], .int (-2), []),
  (13, .ireturn, 1, [], .null, []),
  (14, .aload_n 0, 1, [0], .null, []),
  (15, .getfield 65, 3, [11, 7, 2, 0, 31, 442], .null, []),
  (18, .iload_n 1, 1, [1], .null, []),
  (19, .invokevirtual 256, 3, [1, 83, 1, 4, 917, 9, 1, 0, 0], .null, []),
  (22, .ireturn, 1, [], .null, [])]
abbrev kX11_order : Nat := 113
abbrev zq_m113 : zq_T := (yX11_order, cX11_order, 2, (some .int), zq_c113, (0, 0), [916, 81, 914, 915])
def zq_c114 : List zq_I := [
  (0, .iload_n 1, 1, [1], .null, []),
  (1, .ifCond .lt 18, 3, [19], .null, []),
  (4, .iload_n 1, 1, [1], .null, []),
  (5, .bipush 99, 2, [], .int 99, []),
  (7, .if_icmp .gt 12, 3, [19], .null, []),
  (10, .iload_n 2, 1, [2], .null, []),
  (11, .ifCond .lt 8, 3, [19], .null, []),
  (14, .iload_n 2, 1, [2], .null, []),
  (15, .iconst 2, 1, [], .int 2, []),
  (16, .if_icmp .le 6, 3, [22], .null, []),
  (19, .bipush (-2), 2, [], .int (-2), []),
  (21, .ireturn, 1, [], .null, []),
  (22, .aload_n 0, 1, [0], .null, []),
  (23, .getfield 81, 3, [11, 9, 2, 0, 42, 444], .null, []),
  (26, .iload_n 1, 1, [1], .null, []),
  (27, .invokevirtual 259, 3, [1, 8, 1, 4, 933, 1, 1, 0, 0], .null, []),
  (30, .istore_n 3, 1, [3], .null, []),
  (31, .iload_n 2, 1, [2], .null, []),
  (32, .ifCond .ne 13, 3, [45], .null, []),
  (35, .aload_n 0, 1, [0], .null, []),
  (36, .getfield 81, 3, [11, 9, 2, 0, 42, 444], .null, []),
  (39, .getfield 262, 3, [1, 1, 2, 41, 44, 405], .null, []),
  (42, .iload_n 3, 1, [3], .null, []),
  (43, .iaload, 1, [], .null, []),
  (44, .ireturn, 1, [], .null, []),
  (45, .iload_n 2, 1, [2], .null, []),
  (46, .iconst 1, 1, [], .int 1, []),
  (47, .if_icmp .ne 15, 3, [62], .null, []),
  (50, .aload_n 0, 1, [0], .null, []),
  (51, .getfield 81, 3, [11, 9, 2, 0, 42, 444], .null, []),
  (54, .getfield 265, 3, [1, 0, 2, 41, 43, 403], .null, []),
  (57, .iload_n 3, 1, [3], .null, []),
  (58, .iaload, 1, [], .null, []),
  (59, .goto 4, 3, [63], .null, []),
  (62, .iload_n 3, 1, [3], .null, []),
  (63, .ireturn, 1, [], .null, [])]
abbrev kX11_look : Nat := 114
abbrev zq_m114 : zq_T := (yX11_look, cX11_look, 4, (some .int), zq_c114, (0, 0), [932, 81, 930, 931])
def zq_c115 : List zq_I := [
  (0, .aload_n 0, 1, [0], .null, []),
  (1, .getfield 26, 3, [11, 2, 2, 0, 11, 437], .null, []),
  (4, .iload_n 1, 1, [1], .null, []),
  (5, .invokevirtual 125, 3, [1, 1, 1, 2, 518, 0, 1, 0, 0], .null, []),
  (8, .ifCond .eq 14, 3, [22], .null, []),
  (11, .aload_n 0, 1, [0], .null, []),
  (12, .getfield 19, 3, [11, 1, 2, 0, 6, 436], .null, []),
  (15, .iload_n 2, 1, [2], .null, []),
  (16, .invokevirtual 126, 3, [1, 11, 1, 2, 522, 2, 1, 0, 0], .null, []),
  (19, .ifCond .ne 6, 3, [25], .null, []),
  (22, .bipush (-2), 2, [], .int (-2), []),
  (24, .ireturn, 1, [], .null, []),
  (25, .iconst 0, 1, [], .int 0, []),
  (26, .istore_n 3, 1, [3], .null, []),
  (27, .iconst 0, 1, [], .int 0, []),
  (28, .istore 4, 2, [4], .null, []),
  (30, .iload 4, 2, [4], .null, [true, true, true, true, true]),
  (32, .aload_n 0, 1, [0], .null, []),
  (33, .getfield 12, 3, [11, 0, 2, 0, 2, 435], .null, []),
  (36, .getfield 192, 3, [7, 3, 0, 1, 0, 124], .null, []),
  (39, .if_icmp .ge 30, 3, [69], .null, []),
  (42, .aload_n 0, 1, [0], .null, []),
  (43, .getfield 58, 3, [11, 6, 2, 0, 26, 441], .null, []),
  (46, .iload_n 1, 1, [1], .null, []),
  (47, .iload 4, 2, [4], .null, []),
  (49, .iload_n 2, 1, [2], .null, []),
  (50, .invokevirtual 250, 3, [1, 89, 3, 4, 901, 10, 1, 0, 0], .null, []),
  (53, .ifCond .eq 10, 3, [63], .null, []),
  (56, .iload_n 3, 1, [3], .null, []),
  (57, .iconst 1, 1, [], .int 1, []),
  (58, .iload 4, 2, [4], .null, []),
  (60, .ishl, 1, [], .null, []),
  (61, .ior, 1, [], .null, []),
  (62, .istore_n 3, 1, [3], .null, []),
  (63, .iinc 4 1, 3, [4], .int 1, []),
  (66, .goto (-36), 3, [30], .null, []),
  (69, .iload_n 3, 1, [3], .null, []),
  (70, .ireturn, 1, [], .null, [])]
abbrev kX11_foretold : Nat := 115
abbrev zq_m115 : zq_T := (yX11_foretold, cX11_foretold, 5, (some .int), zq_c115, (0, 0), [948, 81, 946, 947])
def zq_c116 : List zq_I := [
  (0, .aload_n 0, 1, [0], .null, []),
  (1, .getfield 26, 3, [11, 2, 2, 0, 11, 437], .null, []),
  (4, .iload_n 1, 1, [1], .null, []),
  (5, .invokevirtual 125, 3, [1, 1, 1, 2, 518, 0, 1, 0, 0], .null, []),
  (8, .ifCond .eq 21, 3, [29], .null, []),
  (11, .aload_n 0, 1, [0], .null, []),
  (12, .getfield 19, 3, [11, 1, 2, 0, 6, 436], .null, []),
  (15, .iload_n 2, 1, [2], .null, []),
  (16, .invokevirtual 126, 3, [1, 11, 1, 2, 522, 2, 1, 0, 0], .null, []),
  (19, .ifCond .eq 10, 3, [29], .null, []),
  (22, .iload_n 3, 1, [3], .null, []),
  (23, .invokestatic 268, 3, [1, 131, 1, 1, 953, 11, 1, 0, 0], .null, []),
  (26, .ifCond .ne 6, 3, [32], .null, []),
  (29, .bipush (-2), 2, [], .int (-2), []),
  (31, .ireturn, 1, [], .null, []),
  (32, .aload_n 0, 1, [0], .null, []),
  (33, .getfield 88, 3, [11, 10, 2, 0, 45, 445], .null, []),
  (36, .iload_n 3, 1, [3], .null, []),
  (37, .invokevirtual 271, 3, [1, 49, 1, 2, 956, 6, 1, 0, 0], .null, []),
  (40, .ifCond .eq 6, 3, [46], .null, []),
  (43, .bipush (-11), 2, [], .int (-11), []),
  (45, .ireturn, 1, [], .null, []),
  (46, .aload_n 0, 1, [0], .null, []),
  (47, .getfield 88, 3, [11, 10, 2, 0, 45, 445], .null, []),
  (50, .getfield 274, 3, [6, 2, 2, 44, 48, 427], .null, []),
  (53, .iload_n 3, 1, [3], .null, []),
  (54, .iaload, 1, [], .null, []),
  (55, .aload_n 0, 1, [0], .null, []),
  (56, .getfield 12, 3, [11, 0, 2, 0, 2, 435], .null, []),
  (59, .getfield 192, 3, [7, 3, 0, 1, 0, 124], .null, []),
  (62, .if_icmp .eq 6, 3, [68], .null, []),
  (65, .bipush (-2), 2, [], .int (-2), []),
  (67, .ireturn, 1, [], .null, []),
  (68, .iconst 0, 1, [], .int 0, []),
  (69, .istore 4, 2, [4], .null, []),
  (71, .iload 4, 2, [4], .null, [true, true, true, true, true]),
  (73, .aload_n 0, 1, [0], .null, []),
  (74, .getfield 12, 3, [11, 0, 2, 0, 2, 435], .null, []),
  (77, .getfield 192, 3, [7, 3, 0, 1, 0, 124], .null, []),
  (80, .if_icmp .ge 39, 3, [119], .null, []),
  (83, .aload_n 0, 1, [0], .null, []),
  (84, .getfield 88, 3, [11, 10, 2, 0, 45, 445], .null, []),
  (87, .iload_n 3, 1, [3], .null, []),
  (88, .iload 4, 2, [4], .null, []),
  (90, .invokevirtual 277, 3, [1, 54, 2, 3, 960, 6, 1, 0, 0], .null, []),
  (93, .aload_n 0, 1, [0], .null, []),
  (94, .getfield 58, 3, [11, 6, 2, 0, 26, 441], .null, []),
  (97, .iload_n 1, 1, [1], .null, []),
  (98, .iload 4, 2, [4], .null, []),
  (100, .iload_n 2, 1, [2], .null, []),
  (101, .invokevirtual 250, 3, [1, 89, 3, 4, 901, 10, 1, 0, 0], .null, []),
  (104, .invokestatic 137, 3, [1, 125, 1, 1, 530, 11, 1, 0, 0], .null, []),
  (107, .if_icmp .eq 6, 3, [113], .null, []),
  (110, .iload 4, 2, [4], .null, []),
  (112, .ireturn, 1, [], .null, []),
  (113, .iinc 4 1, 3, [4], .int 1, []),
  (116, .goto (-45), 3, [71], .null, []),
  (119, .iconst (-1), 1, [], .int (-1), []),
  (120, .ireturn, 1, [], .null, [])]
abbrev kX11_held : Nat := 116
abbrev zq_m116 : zq_T := (yX11_held, cX11_held, 5, (some .int), zq_c116, (0, 0), [952, 81, 950, 951])
def zq_c117 : List zq_I := [
  (0, .aload_n 0, 1, [0], .null, []),
  (1, .getfield 12, 3, [11, 0, 2, 0, 2, 435], .null, []),
  (4, .invokevirtual 280, 3, [1, 62, 0, 1, 968, 7, 0, 0, 0], .null, []),
  (7, .aload_n 0, 1, [0], .null, []),
  (8, .getfield 33, 3, [11, 3, 2, 0, 14, 438], .null, []),
  (11, .aload_n 0, 1, [0], .null, []),
  (12, .getfield 33, 3, [11, 3, 2, 0, 14, 438], .null, []),
  (15, .getfield 173, 3, [8, 5, 0, 13, 0, 226], .null, []),
  (18, .putfield 283, 3, [8, 6, 0, 13, 0, 227], .null, []),
  (21, .aload_n 0, 1, [0], .null, []),
  (22, .getfield 65, 3, [11, 7, 2, 0, 31, 442], .null, []),
  (25, .invokevirtual 286, 3, [1, 78, 0, 1, 973, 9, 0, 0, 0], .null, []),
  (28, .aload_n 0, 1, [0], .null, []),
  (29, .getfield 72, 3, [11, 8, 2, 0, 39, 443], .null, []),
  (32, .aload_n 0, 1, [0], .null, []),
  (33, .getfield 72, 3, [11, 8, 2, 0, 39, 443], .null, []),
  (36, .getfield 289, 3, [3, 2, 0, 38, 0, 385], .null, []),
  (39, .putfield 290, 3, [3, 3, 0, 38, 0, 386], .null, []),
  (42, .aload_n 0, 1, [0], .null, []),
  (43, .iconst 1, 1, [], .int 1, []),
  (44, .putfield 92, 3, [11, 11, 1, 0, 0, 446], .null, []),
  (47, .aload_n 0, 1, [0], .null, []),
  (48, .getfield 12, 3, [11, 0, 2, 0, 2, 435], .null, []),
  (51, .getfield 192, 3, [7, 3, 0, 1, 0, 124], .null, []),
  (54, .ireturn, 1, [], .null, [])]
abbrev kX11_image : Nat := 117
abbrev zq_m117 : zq_T := (yX11_image, cX11_image, 1, (some .int), zq_c117, (0, 0), [967, 81, 965, 966])
def zq_c118 : List zq_I := [
  (0, .aload_n 0, 1, [0], .null, []),
  (1, .getfield 92, 3, [11, 11, 1, 0, 0, 446], .null, []),
  (4, .ifCond .ne 6, 3, [10], .null, []),
  (7, .bipush (-3), 2, [], .int (-3), []),
  (9, .ireturn, 1, [], .null, []),
  (10, .aload_n 0, 1, [0], .null, []),
  (11, .getfield 12, 3, [11, 0, 2, 0, 2, 435], .null, []),
  (14, .invokevirtual 293, 3, [1, 63, 0, 1, 981, 7, 0, 0, 0], .null, []),
  (17, .aload_n 0, 1, [0], .null, []),
  (18, .getfield 33, 3, [11, 3, 2, 0, 14, 438], .null, []),
  (21, .aload_n 0, 1, [0], .null, []),
  (22, .getfield 33, 3, [11, 3, 2, 0, 14, 438], .null, []),
  (25, .getfield 283, 3, [8, 6, 0, 13, 0, 227], .null, []),
  (28, .putfield 173, 3, [8, 5, 0, 13, 0, 226], .null, []),
  (31, .aload_n 0, 1, [0], .null, []),
  (32, .getfield 65, 3, [11, 7, 2, 0, 31, 442], .null, []),
  (35, .invokevirtual 296, 3, [1, 79, 0, 1, 985, 9, 0, 0, 0], .null, []),
  (38, .aload_n 0, 1, [0], .null, []),
  (39, .getfield 72, 3, [11, 8, 2, 0, 39, 443], .null, []),
  (42, .aload_n 0, 1, [0], .null, []),
  (43, .getfield 72, 3, [11, 8, 2, 0, 39, 443], .null, []),
  (46, .getfield 290, 3, [3, 3, 0, 38, 0, 386], .null, []),
  (49, .putfield 289, 3, [3, 2, 0, 38, 0, 385], .null, []),
  (52, .aload_n 0, 1, [0], .null, []),
  (53, .getfield 12, 3, [11, 0, 2, 0, 2, 435], .null, []),
  (56, .getfield 192, 3, [7, 3, 0, 1, 0, 124], .null, []),
  (59, .ireturn, 1, [], .null, [])]
abbrev kX11_back : Nat := 118
abbrev zq_m118 : zq_T := (yX11_back, cX11_back, 1, (some .int), zq_c118, (0, 0), [980, 81, 978, 979])
def zq_c119 : List zq_I := [
  (0, .iload_n 1, 1, [1], .null, []),
  (1, .tableswitch 123 0 8 #[51, 59, 67, 75, 83, 91, 99, 107, 115], 51, [124, 52, 60, 68, 76, 84, 92, 100, 108, 116], .null, []),
  (52, .aload_n 0, 1, [0], .null, []),
  (53, .getfield 12, 3, [11, 0, 2, 0, 2, 435], .null, []),
  (56, .getfield 192, 3, [7, 3, 0, 1, 0, 124], .null, []),
  (59, .ireturn, 1, [], .null, []),
  (60, .aload_n 0, 1, [0], .null, []),
  (61, .getfield 19, 3, [11, 1, 2, 0, 6, 436], .null, []),
  (64, .getfield 206, 3, [2, 4, 0, 5, 0, 160], .null, []),
  (67, .ireturn, 1, [], .null, []),
  (68, .aload_n 0, 1, [0], .null, []),
  (69, .getfield 26, 3, [11, 2, 2, 0, 11, 437], .null, []),
  (72, .getfield 215, 3, [0, 2, 0, 10, 0, 184], .null, []),
  (75, .ireturn, 1, [], .null, []),
  (76, .aload_n 0, 1, [0], .null, []),
  (77, .getfield 65, 3, [11, 7, 2, 0, 31, 442], .null, []),
  (80, .getfield 299, 3, [9, 7, 0, 30, 0, 347], .null, []),
  (83, .ireturn, 1, [], .null, []),
  (84, .aload_n 0, 1, [0], .null, []),
  (85, .getfield 72, 3, [11, 8, 2, 0, 39, 443], .null, []),
  (88, .getfield 289, 3, [3, 2, 0, 38, 0, 385], .null, []),
  (91, .ireturn, 1, [], .null, []),
  (92, .aload_n 0, 1, [0], .null, []),
  (93, .getfield 65, 3, [11, 7, 2, 0, 31, 442], .null, []),
  (96, .getfield 300, 3, [9, 8, 0, 30, 0, 349], .null, []),
  (99, .ireturn, 1, [], .null, []),
  (100, .aload_n 0, 1, [0], .null, []),
  (101, .getfield 33, 3, [11, 3, 2, 0, 14, 438], .null, []),
  (104, .getfield 155, 3, [8, 4, 0, 13, 0, 224], .null, []),
  (107, .ireturn, 1, [], .null, []),
  (108, .aload_n 0, 1, [0], .null, []),
  (109, .getfield 40, 3, [11, 4, 2, 0, 19, 439], .null, []),
  (112, .getfield 303, 3, [5, 5, 0, 18, 0, 257], .null, []),
  (115, .ireturn, 1, [], .null, []),
  (116, .aload_n 0, 1, [0], .null, []),
  (117, .getfield 33, 3, [11, 3, 2, 0, 14, 438], .null, []),
  (120, .getfield 173, 3, [8, 5, 0, 13, 0, 226], .null, []),
  (123, .ireturn, 1, [], .null, []),
  (124, .bipush (-2), 2, [], .int (-2), []),
  (126, .ireturn, 1, [], .null, [])]
abbrev kX11_count : Nat := 119
abbrev zq_m119 : zq_T := (yX11_count, cX11_count, 2, (some .int), zq_c119, (0, 0), [992, 81, 990, 991])
end
section
def zq_c120 : List zq_I := [
  (0, .iload_n 1, 1, [1], .null, []),
  (1, .invokestatic 268, 3, [1, 131, 1, 1, 953, 11, 1, 0, 0], .null, []),
  (4, .ifCond .eq 15, 3, [19], .null, []),
  (7, .iload_n 2, 1, [2], .null, []),
  (8, .iconst (-1), 1, [], .int (-1), []),
  (9, .if_icmp .eq 13, 3, [22], .null, []),
  (12, .iload_n 2, 1, [2], .null, []),
  (13, .invokestatic 304, 3, [1, 132, 1, 1, 997, 11, 1, 0, 0], .null, []),
  (16, .ifCond .ne 6, 3, [22], .null, []),
  (19, .bipush (-2), 2, [], .int (-2), []),
  (21, .ireturn, 1, [], .null, []),
  (22, .iload_n 2, 1, [2], .null, []),
  (23, .iconst (-1), 1, [], .int (-1), []),
  (24, .if_icmp .ne 13, 3, [37], .null, []),
  (27, .aload_n 0, 1, [0], .null, []),
  (28, .getfield 88, 3, [11, 10, 2, 0, 45, 445], .null, []),
  (31, .iload_n 1, 1, [1], .null, []),
  (32, .invokevirtual 307, 3, [1, 50, 1, 2, 1000, 6, 0, 0, 0], .null, []),
  (35, .iconst 1, 1, [], .int 1, []),
  (36, .ireturn, 1, [], .null, []),
  (37, .iload_n 3, 1, [3], .null, []),
  (38, .bipush 40, 2, [], .int 40, []),
  (40, .if_icmp .le 6, 3, [46], .null, []),
  (43, .bipush (-2), 2, [], .int (-2), []),
  (45, .ireturn, 1, [], .null, []),
  (46, .iload_n 3, 1, [3], .null, []),
  (47, .ifCond .ge 6, 3, [53], .null, []),
  (50, .bipush (-14), 2, [], .int (-14), []),
  (52, .ireturn, 1, [], .null, []),
  (53, .aload_n 0, 1, [0], .null, []),
  (54, .getfield 88, 3, [11, 10, 2, 0, 45, 445], .null, []),
  (57, .iload_n 1, 1, [1], .null, []),
  (58, .iload_n 2, 1, [2], .null, []),
  (59, .iload_n 3, 1, [3], .null, []),
  (60, .invokevirtual 311, 3, [1, 51, 3, 5, 1004, 6, 0, 0, 0], .null, []),
  (63, .iconst 1, 1, [], .int 1, []),
  (64, .ireturn, 1, [], .null, [])]
abbrev kX11_sheet : Nat := 120
abbrev zq_m120 : zq_T := (yX11_sheet, cX11_sheet, 4, (some .int), zq_c120, (0, 0), [996, 81, 994, 995])
def zq_c121 : List zq_I := [
  (0, .iload_n 1, 1, [1], .null, []),
  (1, .invokestatic 268, 3, [1, 131, 1, 1, 953, 11, 1, 0, 0], .null, []),
  (4, .ifCond .ne 6, 3, [10], .null, []),
  (7, .bipush (-2), 2, [], .int (-2), []),
  (9, .ireturn, 1, [], .null, []),
  (10, .aload_n 0, 1, [0], .null, []),
  (11, .getfield 88, 3, [11, 10, 2, 0, 45, 445], .null, []),
  (14, .iload_n 1, 1, [1], .null, []),
  (15, .invokevirtual 271, 3, [1, 49, 1, 2, 956, 6, 1, 0, 0], .null, []),
  (18, .ifCond .eq 6, 3, [24], .null, []),
  (21, .bipush (-11), 2, [], .int (-11), []),
  (23, .ireturn, 1, [], .null, []),
  (24, .aload_n 0, 1, [0], .null, []),
  (25, .getfield 88, 3, [11, 10, 2, 0, 45, 445], .null, []),
  (28, .iload_n 1, 1, [1], .null, []),
  (29, .iload_n 2, 1, [2], .null, []),
  (30, .invokevirtual 314, 3, [1, 52, 2, 3, 1012, 6, 1, 0, 0], .null, []),
  (33, .ifCond .ne 6, 3, [39], .null, []),
  (36, .bipush (-12), 2, [], .int (-12), []),
  (38, .ireturn, 1, [], .null, []),
  (39, .aload_n 0, 1, [0], .null, []),
  (40, .getfield 88, 3, [11, 10, 2, 0, 45, 445], .null, []),
  (43, .iload_n 1, 1, [1], .null, []),
  (44, .iload_n 2, 1, [2], .null, []),
  (45, .iload_n 3, 1, [3], .null, []),
  (46, .invokevirtual 317, 3, [1, 55, 3, 5, 1016, 6, 0, 0, 0], .null, []),
  (49, .iconst 1, 1, [], .int 1, []),
  (50, .ireturn, 1, [], .null, [])]
abbrev kX11_cell : Nat := 121
abbrev zq_m121 : zq_T := (yX11_cell, cX11_cell, 4, (some .int), zq_c121, (0, 0), [1011, 81, 1009, 1010])
def zq_c122 : List zq_I := [
  (0, .iload_n 1, 1, [1], .null, []),
  (1, .invokestatic 268, 3, [1, 131, 1, 1, 953, 11, 1, 0, 0], .null, []),
  (4, .ifCond .eq 10, 3, [14], .null, []),
  (7, .iload_n 3, 1, [3], .null, []),
  (8, .invokestatic 268, 3, [1, 131, 1, 1, 953, 11, 1, 0, 0], .null, []),
  (11, .ifCond .ne 6, 3, [17], .null, []),
  (14, .bipush (-2), 2, [], .int (-2), []),
  (16, .ireturn, 1, [], .null, []),
  (17, .aload_n 0, 1, [0], .null, []),
  (18, .getfield 88, 3, [11, 10, 2, 0, 45, 445], .null, []),
  (21, .iload_n 1, 1, [1], .null, []),
  (22, .invokevirtual 271, 3, [1, 49, 1, 2, 956, 6, 1, 0, 0], .null, []),
  (25, .ifCond .ne 14, 3, [39], .null, []),
  (28, .aload_n 0, 1, [0], .null, []),
  (29, .getfield 88, 3, [11, 10, 2, 0, 45, 445], .null, []),
  (32, .iload_n 3, 1, [3], .null, []),
  (33, .invokevirtual 271, 3, [1, 49, 1, 2, 956, 6, 1, 0, 0], .null, []),
  (36, .ifCond .eq 6, 3, [42], .null, []),
  (39, .bipush (-11), 2, [], .int (-11), []),
  (41, .ireturn, 1, [], .null, []),
  (42, .aload_n 0, 1, [0], .null, []),
  (43, .getfield 88, 3, [11, 10, 2, 0, 45, 445], .null, []),
  (46, .getfield 320, 3, [6, 1, 2, 44, 47, 425], .null, []),
  (49, .iload_n 1, 1, [1], .null, []),
  (50, .iaload, 1, [], .null, []),
  (51, .aload_n 0, 1, [0], .null, []),
  (52, .getfield 88, 3, [11, 10, 2, 0, 45, 445], .null, []),
  (55, .getfield 320, 3, [6, 1, 2, 44, 47, 425], .null, []),
  (58, .iload_n 3, 1, [3], .null, []),
  (59, .iaload, 1, [], .null, []),
  (60, .if_icmp .eq 6, 3, [66], .null, []),
  (63, .bipush (-13), 2, [], .int (-13), []),
  (65, .ireturn, 1, [], .null, []),
  (66, .aload_n 0, 1, [0], .null, []),
  (67, .getfield 88, 3, [11, 10, 2, 0, 45, 445], .null, []),
  (70, .iload_n 1, 1, [1], .null, []),
  (71, .iload_n 2, 1, [2], .null, []),
  (72, .iload 5, 2, [5], .null, []),
  (74, .invokevirtual 323, 3, [1, 53, 3, 4, 1024, 6, 1, 0, 0], .null, []),
  (77, .ifCond .eq 18, 3, [95], .null, []),
  (80, .aload_n 0, 1, [0], .null, []),
  (81, .getfield 88, 3, [11, 10, 2, 0, 45, 445], .null, []),
  (84, .iload_n 3, 1, [3], .null, []),
  (85, .iload 4, 2, [4], .null, []),
  (87, .iload 5, 2, [5], .null, []),
  (89, .invokevirtual 323, 3, [1, 53, 3, 4, 1024, 6, 1, 0, 0], .null, []),
  (92, .ifCond .ne 6, 3, [98], .null, []),
  (95, .bipush (-12), 2, [], .int (-12), []),
  (97, .ireturn, 1, [], .null, []),
  (98, .aload_n 0, 1, [0], .null, []),
  (99, .getfield 88, 3, [11, 10, 2, 0, 45, 445], .null, []),
  (102, .iload_n 1, 1, [1], .null, []),
  (103, .iload_n 2, 1, [2], .null, []),
  (104, .iload_n 3, 1, [3], .null, []),
  (105, .iload 4, 2, [4], .null, []),
  (107, .iload 5, 2, [5], .null, []),
  (109, .invokevirtual 326, 3, [1, 56, 5, 6, 1028, 6, 0, 0, 0], .null, []),
  (112, .iload 5, 2, [5], .null, []),
  (114, .ireturn, 1, [], .null, [])]
abbrev kX11_copy : Nat := 122
abbrev zq_m122 : zq_T := (yX11_copy, cX11_copy, 6, (some .int), zq_c122, (0, 0), [1023, 81, 1021, 1022])
def zq_c123 : List zq_I := [
  (0, .iload_n 1, 1, [1], .null, []),
  (1, .invokestatic 268, 3, [1, 131, 1, 1, 953, 11, 1, 0, 0], .null, []),
  (4, .ifCond .eq 22, 3, [26], .null, []),
  (7, .iload_n 2, 1, [2], .null, []),
  (8, .invokestatic 304, 3, [1, 132, 1, 1, 997, 11, 1, 0, 0], .null, []),
  (11, .ifCond .eq 15, 3, [26], .null, []),
  (14, .iload 4, 2, [4], .null, []),
  (16, .ifCond .lt 10, 3, [26], .null, []),
  (19, .iload 4, 2, [4], .null, []),
  (21, .bipush 20, 2, [], .int 20, []),
  (23, .if_icmp .le 6, 3, [29], .null, []),
  (26, .bipush (-2), 2, [], .int (-2), []),
  (28, .ireturn, 1, [], .null, []),
  (29, .aload_n 0, 1, [0], .null, []),
  (30, .getfield 88, 3, [11, 10, 2, 0, 45, 445], .null, []),
  (33, .iload_n 1, 1, [1], .null, []),
  (34, .invokevirtual 271, 3, [1, 49, 1, 2, 956, 6, 1, 0, 0], .null, []),
  (37, .ifCond .ne 19, 3, [56], .null, []),
  (40, .aload_n 0, 1, [0], .null, []),
  (41, .getfield 88, 3, [11, 10, 2, 0, 45, 445], .null, []),
  (44, .getfield 320, 3, [6, 1, 2, 44, 47, 425], .null, []),
  (47, .iload_n 1, 1, [1], .null, []),
  (48, .iaload, 1, [], .null, []),
  (49, .iload_n 2, 1, [2], .null, []),
  (50, .if_icmp .eq 6, 3, [56], .null, []),
  (53, .bipush (-13), 2, [], .int (-13), []),
  (55, .ireturn, 1, [], .null, []),
  (56, .aload_n 0, 1, [0], .null, []),
  (57, .getfield 88, 3, [11, 10, 2, 0, 45, 445], .null, []),
  (60, .iload_n 1, 1, [1], .null, []),
  (61, .invokevirtual 271, 3, [1, 49, 1, 2, 956, 6, 1, 0, 0], .null, []),
  (64, .ifCond .eq 6, 3, [70], .null, []),
  (67, .bipush (-11), 2, [], .int (-11), []),
  (69, .ireturn, 1, [], .null, []),
  (70, .iconst 0, 1, [], .int 0, []),
  (71, .istore 5, 2, [5], .null, []),
  (73, .iconst 0, 1, [], .int 0, []),
  (74, .istore 6, 2, [6], .null, []),
  (76, .iload 6, 2, [6], .null, [true, true, false, true, true, true, true]),
  (78, .iload 4, 2, [4], .null, []),
  (80, .if_icmp .ge 52, 3, [132], .null, []),
  (83, .aload_n 0, 1, [0], .null, []),
  (84, .getfield 88, 3, [11, 10, 2, 0, 45, 445], .null, []),
  (87, .iload_n 1, 1, [1], .null, []),
  (88, .iload_n 3, 1, [3], .null, []),
  (89, .iload 6, 2, [6], .null, []),
  (91, .iadd, 1, [], .null, []),
  (92, .invokevirtual 314, 3, [1, 52, 2, 3, 1012, 6, 1, 0, 0], .null, []),
  (95, .ifCond .ne 6, 3, [101], .null, []),
  (98, .bipush (-12), 2, [], .int (-12), []),
  (100, .ireturn, 1, [], .null, []),
  (101, .aload_n 0, 1, [0], .null, []),
  (102, .getfield 19, 3, [11, 1, 2, 0, 6, 436], .null, []),
  (105, .aload_n 0, 1, [0], .null, []),
  (106, .getfield 88, 3, [11, 10, 2, 0, 45, 445], .null, []),
  (109, .iload_n 1, 1, [1], .null, []),
  (110, .iload_n 3, 1, [3], .null, []),
  (111, .iload 6, 2, [6], .null, []),
  (113, .iadd, 1, [], .null, []),
  (114, .invokevirtual 277, 3, [1, 54, 2, 3, 960, 6, 1, 0, 0], .null, []),
  (117, .invokevirtual 107, 3, [1, 13, 1, 2, 491, 2, 1, 0, 0], .null, []),
  (120, .ifCond .lt 6, 3, [126], .null, []),
  (123, .iinc 5 1, 3, [5], .int 1, []),
  (126, .iinc 6 1, 3, [6], .int 1, []),
  (129, .goto (-53), 3, [76], .null, []),
  (132, .iload 5, 2, [5], .null, []),
  (134, .ireturn, 1, [], .null, [])]
abbrev kX11_nights : Nat := 123
abbrev zq_m123 : zq_T := (yX11_nights, cX11_nights, 7, (some .int), zq_c123, (0, 0), [1036, 81, 1034, 1035])
def zq_c124 : List zq_I := [
  (0, .iload_n 2, 1, [2], .null, []),
  (1, .invokestatic 111, 3, [1, 128, 1, 1, 499, 11, 1, 0, 0], .null, []),
  (4, .ifCond .ne 6, 3, [10], .null, []),
  (7, .bipush (-2), 2, [], .int (-2), []),
  (9, .ireturn, 1, [], .null, []),
  (10, .aload_n 0, 1, [0], .null, []),
  (11, .getfield 26, 3, [11, 2, 2, 0, 11, 437], .null, []),
  (14, .iload_n 1, 1, [1], .null, []),
  (15, .invokevirtual 125, 3, [1, 1, 1, 2, 518, 0, 1, 0, 0], .null, []),
  (18, .ifCond .ne 6, 3, [24], .null, []),
  (21, .bipush (-11), 2, [], .int (-11), []),
  (23, .ireturn, 1, [], .null, []),
  (24, .aload_n 0, 1, [0], .null, []),
  (25, .getfield 26, 3, [11, 2, 2, 0, 11, 437], .null, []),
  (28, .getfield 330, 3, [0, 0, 2, 10, 12, 179], .null, []),
  (31, .iload_n 1, 1, [1], .null, []),
  (32, .iaload, 1, [], .null, []),
  (33, .iload_n 2, 1, [2], .null, []),
  (34, .invokestatic 333, 3, [1, 133, 2, 4, 1041, 11, 1, 0, 0], .null, []),
  (37, .ifCond .eq 15, 3, [52], .null, []),
  (40, .aload_n 0, 1, [0], .null, []),
  (41, .getfield 26, 3, [11, 2, 2, 0, 11, 437], .null, []),
  (44, .getfield 336, 3, [0, 1, 2, 10, 13, 182], .null, []),
  (47, .iload_n 1, 1, [1], .null, []),
  (48, .iaload, 1, [], .null, []),
  (49, .goto 5, 3, [54], .null, []),
  (52, .bipush (-13), 2, [], .int (-13), []),
  (54, .ireturn, 1, [], .null, [])]
abbrev kX11_taken : Nat := 124
abbrev zq_m124 : zq_T := (yX11_taken, cX11_taken, 3, (some .int), zq_c124, (0, 0), [1040, 81, 1038, 1039])
def zq_c125 : List zq_I := [
  (0, .iload_n 0, 1, [0], .null, []),
  (1, .ifCond .eq 7, 3, [8], .null, []),
  (4, .iconst 1, 1, [], .int 1, []),
  (5, .goto 4, 3, [9], .null, []),
  (8, .iconst 0, 1, [], .int 0, []),
  (9, .ireturn, 1, [], .null, [])]
abbrev kX11_bit : Nat := 125
abbrev zq_m125 : zq_T := (yX11_bit, cX11_bit, 1, (some .int), zq_c125, (0, 0), [532, 81, 531, 0])
def zq_c126 : List zq_I := [
  (0, .iload_n 1, 1, [1], .null, []),
  (1, .iload_n 2, 1, [2], .null, []),
  (2, .iload_n 0, 1, [0], .null, []),
  (3, .invokestatic 339, 3, [3, 212], .null, []),
  (6, .invokestatic 344, 3, [2, 213], .null, []),
  (9, .ireturn, 1, [], .null, [])]
abbrev kX11_within : Nat := 126
abbrev zq_m126 : zq_T := (yX11_within, cX11_within, 3, (some .int), zq_c126, (0, 0), [211, 81, 210, 0])
def zq_c127 : List zq_I := [
  (0, .iload_n 0, 1, [0], .null, []),
  (1, .ifCond .lt 14, 3, [15], .null, []),
  (4, .iload_n 0, 1, [0], .null, []),
  (5, .sipush 4096, 3, [], .int 4096, []),
  (8, .if_icmp .ge 7, 3, [15], .null, []),
  (11, .iconst 1, 1, [], .int 1, []),
  (12, .goto 4, 3, [16], .null, []),
  (15, .iconst 0, 1, [], .int 0, []),
  (16, .ireturn, 1, [], .null, [])]
abbrev kX11_isPlace : Nat := 127
abbrev zq_m127 : zq_T := (yX11_isPlace, cX11_isPlace, 1, (some .boolean), zq_c127, (0, 0), [478, 81, 477, 0])
def zq_c128 : List zq_I := [
  (0, .iload_n 0, 1, [0], .null, []),
  (1, .ifCond .lt 12, 3, [13], .null, []),
  (4, .iload_n 0, 1, [0], .null, []),
  (5, .iconst 5, 1, [], .int 5, []),
  (6, .if_icmp .gt 7, 3, [13], .null, []),
  (9, .iconst 1, 1, [], .int 1, []),
  (10, .goto 4, 3, [14], .null, []),
  (13, .iconst 0, 1, [], .int 0, []),
  (14, .ireturn, 1, [], .null, [])]
abbrev kX11_isKind : Nat := 128
abbrev zq_m128 : zq_T := (yX11_isKind, cX11_isKind, 1, (some .boolean), zq_c128, (0, 0), [501, 81, 500, 0])
def zq_c129 : List zq_I := [
  (0, .iload_n 0, 1, [0], .null, []),
  (1, .ifCond .lt 13, 3, [14], .null, []),
  (4, .iload_n 0, 1, [0], .null, []),
  (5, .bipush 99, 2, [], .int 99, []),
  (7, .if_icmp .gt 7, 3, [14], .null, []),
  (10, .iconst 1, 1, [], .int 1, []),
  (11, .goto 4, 3, [15], .null, []),
  (14, .iconst 0, 1, [], .int 0, []),
  (15, .ireturn, 1, [], .null, [])]
abbrev kX11_isOff : Nat := 129
abbrev zq_m129 : zq_T := (yX11_isOff, cX11_isOff, 1, (some .boolean), zq_c129, (0, 0), [777, 81, 776, 0])
def zq_c130 : List zq_I := [
  (0, .iload_n 0, 1, [0], .null, []),
  (1, .ifCond .lt 13, 3, [14], .null, []),
  (4, .iload_n 0, 1, [0], .null, []),
  (5, .bipush 63, 2, [], .int 63, []),
  (7, .if_icmp .gt 7, 3, [14], .null, []),
  (10, .iconst 1, 1, [], .int 1, []),
  (11, .goto 4, 3, [15], .null, []),
  (14, .iconst 0, 1, [], .int 0, []),
  (15, .ireturn, 1, [], .null, [])]
abbrev kX11_isFar : Nat := 130
abbrev zq_m130 : zq_T := (yX11_isFar, cX11_isFar, 1, (some .boolean), zq_c130, (0, 0), [841, 81, 840, 0])
def zq_c131 : List zq_I := [
  (0, .iload_n 0, 1, [0], .null, []),
  (1, .ifCond .lt 12, 3, [13], .null, []),
  (4, .iload_n 0, 1, [0], .null, []),
  (5, .iconst 4, 1, [], .int 4, []),
  (6, .if_icmp .ge 7, 3, [13], .null, []),
  (9, .iconst 1, 1, [], .int 1, []),
  (10, .goto 4, 3, [14], .null, []),
  (13, .iconst 0, 1, [], .int 0, []),
  (14, .ireturn, 1, [], .null, [])]
abbrev kX11_isSheet : Nat := 131
abbrev zq_m131 : zq_T := (yX11_isSheet, cX11_isSheet, 1, (some .boolean), zq_c131, (0, 0), [955, 81, 954, 0])
def zq_c132 : List zq_I := [
  (0, .iload_n 0, 1, [0], .null, []),
  (1, .ifCond .lt 12, 3, [13], .null, []),
  (4, .iload_n 0, 1, [0], .null, []),
  (5, .iconst 2, 1, [], .int 2, []),
  (6, .if_icmp .gt 7, 3, [13], .null, []),
  (9, .iconst 1, 1, [], .int 1, []),
  (10, .goto 4, 3, [14], .null, []),
  (13, .iconst 0, 1, [], .int 0, []),
  (14, .ireturn, 1, [], .null, [])]
abbrev kX11_isSort : Nat := 132
abbrev zq_m132 : zq_T := (yX11_isSort, cX11_isSort, 1, (some .boolean), zq_c132, (0, 0), [999, 81, 998, 0])
def zq_c133 : List zq_I := [
  (0, .iload_n 0, 1, [0], .null, []),
  (1, .istore_n 2, 1, [2], .null, []),
  (2, .iconst 0, 1, [], .int 0, []),
  (3, .istore_n 3, 1, [3], .null, []),
  (4, .iload_n 3, 1, [3], .null, [false, true, true, true]),
  (5, .getstatic 347, 3, [0, 0, 1044], .null, []),
  (8, .arraylength, 1, [], .null, []),
  (9, .if_icmp .ge 29, 3, [38], .null, []),
  (12, .iload_n 2, 1, [2], .null, []),
  (13, .invokestatic 111, 3, [1, 128, 1, 1, 499, 11, 1, 0, 0], .null, []),
  (16, .ifCond .eq 22, 3, [38], .null, []),
  (19, .iload_n 2, 1, [2], .null, []),
  (20, .iload_n 1, 1, [1], .null, []),
  (21, .if_icmp .ne 5, 3, [26], .null, []),
  (24, .iconst 1, 1, [], .int 1, []),
  (25, .ireturn, 1, [], .null, []),
  (26, .getstatic 347, 3, [0, 0, 1044], .null, []),
  (29, .iload_n 2, 1, [2], .null, []),
  (30, .iaload, 1, [], .null, []),
  (31, .istore_n 2, 1, [2], .null, []),
  (32, .iinc 3 1, 3, [3], .int 1, []),
  (35, .goto (-31), 3, [4], .null, []),
  (38, .iconst 0, 1, [], .int 0, []),
  (39, .ireturn, 1, [], .null, [])]
abbrev kX11_isUnder : Nat := 133
abbrev zq_m133 : zq_T := (yX11_isUnder, cX11_isUnder, 4, (some .boolean), zq_c133, (0, 0), [1043, 81, 1042, 0])
def zq_c134 : List zq_I := [
  (0, .aload_n 0, 1, [0], .null, []),
  (1, .getfield 65, 3, [11, 7, 2, 0, 31, 442], .null, []),
  (4, .getfield 350, 3, [9, 0, 2, 30, 32, 337], .null, []),
  (7, .iload_n 1, 1, [1], .null, []),
  (8, .iaload, 1, [], .null, []),
  (9, .istore_n 2, 1, [2], .null, []),
  (10, .aload_n 0, 1, [0], .null, []),
  (11, .getfield 65, 3, [11, 7, 2, 0, 31, 442], .null, []),
  (14, .getfield 353, 3, [9, 1, 2, 30, 33, 339], .null, []),
  (17, .iload_n 1, 1, [1], .null, []),
  (18, .iaload, 1, [], .null, []),
  (19, .aload_n 0, 1, [0], .null, []),
  (20, .getfield 58, 3, [11, 6, 2, 0, 26, 441], .null, []),
  (23, .getfield 183, 3, [10, 1, 2, 25, 28, 305], .null, []),
  (26, .iload_n 2, 1, [2], .null, []),
  (27, .iaload, 1, [], .null, []),
  (28, .isub, 1, [], .null, []),
  (29, .invokestatic 356, 3, [4, 806], .null, []),
  (32, .istore_n 3, 1, [3], .null, []),
  (33, .aload_n 0, 1, [0], .null, []),
  (34, .getfield 65, 3, [11, 7, 2, 0, 31, 442], .null, []),
  (37, .getfield 359, 3, [9, 2, 2, 30, 34, 341], .null, []),
  (40, .iload_n 1, 1, [1], .null, []),
  (41, .iaload, 1, [], .null, []),
  (42, .aload_n 0, 1, [0], .null, []),
  (43, .getfield 58, 3, [11, 6, 2, 0, 26, 441], .null, []),
  (46, .getfield 189, 3, [10, 2, 2, 25, 29, 307], .null, []),
  (49, .iload_n 2, 1, [2], .null, []),
  (50, .iaload, 1, [], .null, []),
  (51, .isub, 1, [], .null, []),
  (52, .invokestatic 356, 3, [4, 806], .null, []),
  (55, .istore 4, 2, [4], .null, []),
  (57, .iconst 1, 1, [], .int 1, []),
  (58, .bipush 9, 2, [], .int 9, []),
  (60, .iload_n 3, 1, [3], .null, []),
  (61, .isub, 1, [], .null, []),
  (62, .iconst 3, 1, [], .int 3, []),
  (63, .iload 4, 2, [4], .null, []),
  (65, .imul, 1, [], .null, []),
  (66, .isub, 1, [], .null, []),
  (67, .invokestatic 344, 3, [2, 213], .null, []),
  (70, .ireturn, 1, [], .null, [])]
abbrev kX11_fitOfWalk : Nat := 134
abbrev zq_m134 : zq_T := (yX11_fitOfWalk, cX11_fitOfWalk, 5, (some .int), zq_c134, (0, 0), [805, 81, 804, 15])
def zq_c135 : List zq_I := [
  (0, .lconst 1, 1, [], .long 1, []),
  (1, .lstore_n 2, 1, [2], .null, []),
  (2, .iconst 0, 1, [], .int 0, []),
  (3, .istore 4, 2, [4], .null, []),
  (5, .iload 4, 2, [4], .null, [true, true, true, false, true]),
  (7, .bipush 16, 2, [], .int 16, []),
  (9, .if_icmp .ge 29, 3, [38], .null, []),
  (12, .iload_n 1, 1, [1], .null, []),
  (13, .iload 4, 2, [4], .null, []),
  (15, .ishr, 1, [], .null, []),
  (16, .iconst 1, 1, [], .int 1, []),
  (17, .iand, 1, [], .null, []),
  (18, .iconst 1, 1, [], .int 1, []),
  (19, .if_icmp .ne 13, 3, [32], .null, []),
  (22, .lload_n 2, 1, [2], .null, []),
  (23, .aload_n 0, 1, [0], .null, []),
  (24, .iload 4, 2, [4], .null, []),
  (26, .invokevirtual 207, 3, [1, 134, 1, 5, 802, 11, 1, 0, 0], .null, []),
  (29, .i2l, 1, [], .null, []),
  (30, .lmul, 1, [], .null, []),
  (31, .lstore_n 2, 1, [2], .null, []),
  (32, .iinc 4 1, 3, [4], .int 1, []),
  (35, .goto (-30), 3, [5], .null, []),
  (38, .lload_n 2, 1, [2], .null, []),
  (39, .lreturn, 1, [], .null, [])]
abbrev kX11_productOfFits : Nat := 135
abbrev zq_m135 : zq_T := (yX11_productOfFits, cX11_productOfFits, 5, (some .long), zq_c135, (0, 0), [820, 81, 819, 16])
def zq_c136 : List zq_I := [
  (0, .iload_n 1, 1, [1], .null, []),
  (1, .ifCond .ne 6, 3, [7], .null, []),
  (4, .iload_n 2, 1, [2], .null, []),
  (5, .i2l, 1, [], .null, []),
  (6, .lreturn, 1, [], .null, []),
  (7, .aload_n 0, 1, [0], .null, []),
  (8, .getfield 19, 3, [11, 1, 2, 0, 6, 436], .null, []),
  (11, .getfield 206, 3, [2, 4, 0, 5, 0, 160], .null, []),
  (14, .i2l, 1, [], .null, []),
  (15, .iload_n 1, 1, [1], .null, []),
  (16, .i2l, 1, [], .null, []),
  (17, .iload_n 2, 1, [2], .null, []),
  (18, .invokestatic 220, 3, [1, 137, 3, 9, 821, 11, 1, 0, 0], .null, []),
  (21, .lreturn, 1, [], .null, [])]
abbrev kX11_partOfWait : Nat := 136
abbrev zq_m136 : zq_T := (yX11_partOfWait, cX11_partOfWait, 3, (some .long), zq_c136, (0, 0), [883, 81, 882, 19])
def zq_c137 : List zq_I := [
  (0, .lload_n 0, 1, [0], .null, []),
  (1, .lload_n 2, 1, [2], .null, []),
  (2, .invokestatic 360, 3, [1, 138, 2, 11, 824, 11, 1, 0, 0], .null, []),
  (5, .lstore 5, 2, [5], .null, []),
  (7, .iload 4, 2, [4], .null, []),
  (9, .ifCond .ne 7, 3, [16], .null, []),
  (12, .lload_n 0, 1, [0], .null, []),
  (13, .goto 4, 3, [17], .null, []),
  (16, .lload_n 2, 1, [2], .null, []),
  (17, .lstore 7, 2, [7], .null, []),
  (19, .lload 5, 2, [5], .null, []),
  (21, .lconst 0, 1, [], .long 0, []),
  (22, .lcmp, 1, [], .null, []),
  (23, .ifCond .ne 8, 3, [31], .null, []),
  (26, .lload 7, 2, [7], .null, []),
  (28, .goto 8, 3, [36], .null, []),
  (31, .lload 7, 2, [7], .null, []),
  (33, .lload 5, 2, [5], .null, []),
  (35, .ldiv, 1, [], .null, []),
  (36, .lreturn, 1, [], .null, [])]
abbrev kX11_partOfFraction : Nat := 137
abbrev zq_m137 : zq_T := (yX11_partOfFraction, cX11_partOfFraction, 9, (some .long), zq_c137, (0, 0), [823, 81, 822, 0])
def zq_c138 : List zq_I := [
  (0, .lload_n 0, 1, [0], .null, []),
  (1, .lstore 4, 2, [4], .null, []),
  (3, .lload_n 2, 1, [2], .null, []),
  (4, .lstore 6, 2, [6], .null, []),
  (6, .iconst 0, 1, [], .int 0, []),
  (7, .istore 8, 2, [8], .null, []),
  (9, .iload 8, 2, [8], .null, [false, false, false, false, true, false, true, false, true, false, false]),
  (11, .sipush 130, 3, [], .int 130, []),
  (14, .if_icmp .ge 31, 3, [45], .null, []),
  (17, .lload 6, 2, [6], .null, []),
  (19, .lconst 0, 1, [], .long 0, []),
  (20, .lcmp, 1, [], .null, []),
  (21, .ifCond .eq 24, 3, [45], .null, []),
  (24, .lload 4, 2, [4], .null, []),
  (26, .lload 6, 2, [6], .null, []),
  (28, .lrem, 1, [], .null, []),
  (29, .lstore 9, 2, [9], .null, []),
  (31, .lload 6, 2, [6], .null, []),
  (33, .lstore 4, 2, [4], .null, []),
  (35, .lload 9, 2, [9], .null, []),
  (37, .lstore 6, 2, [6], .null, []),
  (39, .iinc 8 1, 3, [8], .int 1, []),
  (42, .goto (-33), 3, [9], .null, []),
  (45, .lload 4, 2, [4], .null, []),
  (47, .lreturn, 1, [], .null, [])]
abbrev kX11_commonDivisor : Nat := 138
abbrev zq_m138 : zq_T := (yX11_commonDivisor, cX11_commonDivisor, 11, (some .long), zq_c138, (0, 0), [826, 81, 825, 0])
def zq_c139 : List zq_I := [
  (0, .iload_n 1, 1, [1], .null, []),
  (1, .iload_n 2, 1, [2], .null, []),
  (2, .if_icmp .lt 12, 3, [14], .null, []),
  (5, .iload_n 1, 1, [1], .null, []),
  (6, .iload_n 3, 1, [3], .null, []),
  (7, .if_icmp .gt 7, 3, [14], .null, []),
  (10, .iconst 1, 1, [], .int 1, []),
  (11, .goto 4, 3, [15], .null, []),
  (14, .iconst 0, 1, [], .int 0, []),
  (15, .ireturn, 1, [], .null, [])]
abbrev kX12_in : Nat := 139
abbrev zq_m139 : zq_T := (yX12_in, cX12_in, 4, (some .boolean), zq_c139, (0, 0), [1054, 95, 1052, 24])
def zq_c140 : List zq_I := [
  (0, .aload_n 0, 1, [0], .null, []),
  (1, .iload_n 1, 1, [1], .null, []),
  (2, .iconst 0, 1, [], .int 0, []),
  (3, .aload_n 0, 1, [0], .null, []),
  (4, .getfield 1, 3, [12, 0, 0, 48, 0, 1085], .null, []),
  (7, .iconst 1, 1, [], .int 1, []),
  (8, .isub, 1, [], .null, []),
  (9, .invokevirtual 7, 3, [1, 139, 3, 4, 1050, 12, 1, 0, 0], .null, []),
  (12, .ireturn, 1, [], .null, [])]
abbrev kX12_isStone : Nat := 140
abbrev zq_m140 : zq_T := (yX12_isStone, cX12_isStone, 2, (some .boolean), zq_c140, (0, 0), [1079, 95, 1078, 27])
def zq_c141 : List zq_I := [
  (0, .aload_n 0, 1, [0], .null, []),
  (1, .iload_n 1, 1, [1], .null, []),
  (2, .iconst 0, 1, [], .int 0, []),
  (3, .aload_n 0, 1, [0], .null, []),
  (4, .getfield 11, 3, [12, 1, 0, 48, 0, 1086], .null, []),
  (7, .iconst 1, 1, [], .int 1, []),
  (8, .isub, 1, [], .null, []),
  (9, .invokevirtual 7, 3, [1, 139, 3, 4, 1050, 12, 1, 0, 0], .null, []),
  (12, .ireturn, 1, [], .null, [])]
abbrev kX12_isNight : Nat := 141
abbrev zq_m141 : zq_T := (yX12_isNight, cX12_isNight, 2, (some .boolean), zq_c141, (0, 0), [1350, 95, 1349, 47])
def zq_c142 : List zq_I := [
  (0, .aload_n 0, 1, [0], .null, []),
  (1, .iload_n 1, 1, [1], .null, []),
  (2, .iconst 0, 1, [], .int 0, []),
  (3, .aload_n 0, 1, [0], .null, []),
  (4, .getfield 14, 3, [12, 2, 0, 48, 0, 1087], .null, []),
  (7, .iconst 1, 1, [], .int 1, []),
  (8, .isub, 1, [], .null, []),
  (9, .invokevirtual 7, 3, [1, 139, 3, 4, 1050, 12, 1, 0, 0], .null, []),
  (12, .ireturn, 1, [], .null, [])]
abbrev kX12_isHow : Nat := 142
abbrev zq_m142 : zq_T := (yX12_isHow, cX12_isHow, 2, (some .boolean), zq_c142, (0, 0), [1346, 95, 1345, 46])
def zq_c143 : List zq_I := [
  (0, .aload_n 0, 1, [0], .null, []),
  (1, .iload_n 1, 1, [1], .null, []),
  (2, .iconst 1, 1, [], .int 1, []),
  (3, .bipush 99, 2, [], .int 99, []),
  (5, .invokevirtual 7, 3, [1, 139, 3, 4, 1050, 12, 1, 0, 0], .null, []),
  (8, .ifCond .eq 15, 3, [23], .null, []),
  (11, .aload_n 0, 1, [0], .null, []),
  (12, .iload_n 2, 1, [2], .null, []),
  (13, .iconst 0, 1, [], .int 0, []),
  (14, .sipush 4095, 3, [], .int 4095, []),
  (17, .invokevirtual 7, 3, [1, 139, 3, 4, 1050, 12, 1, 0, 0], .null, []),
  (20, .ifCond .ne 6, 3, [26], .null, []),
  (23, .bipush (-2), 2, [], .int (-2), []),
  (25, .ireturn, 1, [], .null, []),
  (26, .iconst 0, 1, [], .int 0, []),
  (27, .istore_n 3, 1, [3], .null, []),
  (28, .iload_n 3, 1, [3], .null, [true, true, true, true]),
  (29, .aload_n 0, 1, [0], .null, []),
  (30, .getfield 1, 3, [12, 0, 0, 48, 0, 1085], .null, []),
  (33, .if_icmp .ge 22, 3, [55], .null, []),
  (36, .aload_n 0, 1, [0], .null, []),
  (37, .getfield 17, 3, [12, 4, 2, 48, 51, 1089], .null, []),
  (40, .iload_n 3, 1, [3], .null, []),
  (41, .iaload, 1, [], .null, []),
  (42, .iload_n 2, 1, [2], .null, []),
  (43, .if_icmp .ne 6, 3, [49], .null, []),
  (46, .bipush (-3), 2, [], .int (-3), []),
  (48, .ireturn, 1, [], .null, []),
  (49, .iinc 3 1, 3, [3], .int 1, []),
  (52, .goto (-24), 3, [28], .null, []),
  (55, .aload_n 0, 1, [0], .null, []),
  (56, .getfield 1, 3, [12, 0, 0, 48, 0, 1085], .null, []),
  (59, .bipush 10, 2, [], .int 10, []),
  (61, .if_icmp .ne 6, 3, [67], .null, []),
  (64, .bipush (-4), 2, [], .int (-4), []),
  (66, .ireturn, 1, [], .null, []),
  (67, .aload_n 0, 1, [0], .null, []),
  (68, .getfield 21, 3, [12, 3, 2, 48, 50, 1088], .null, []),
  (71, .aload_n 0, 1, [0], .null, []),
  (72, .getfield 1, 3, [12, 0, 0, 48, 0, 1085], .null, []),
  (75, .iload_n 1, 1, [1], .null, []),
  (76, .iastore, 1, [], .null, []),
  (77, .aload_n 0, 1, [0], .null, []),
  (78, .getfield 17, 3, [12, 4, 2, 48, 51, 1089], .null, []),
  (81, .aload_n 0, 1, [0], .null, []),
  (82, .getfield 1, 3, [12, 0, 0, 48, 0, 1085], .null, []),
  (85, .iload_n 2, 1, [2], .null, []),
  (86, .iastore, 1, [], .null, []),
  (87, .aload_n 0, 1, [0], .null, []),
  (88, .dup, 1, [], .null, []),
  (89, .getfield 1, 3, [12, 0, 0, 48, 0, 1085], .null, []),
  (92, .iconst 1, 1, [], .int 1, []),
  (93, .iadd, 1, [], .null, []),
  (94, .putfield 1, 3, [12, 0, 0, 48, 0, 1085], .null, []),
  (97, .aload_n 0, 1, [0], .null, []),
  (98, .getfield 1, 3, [12, 0, 0, 48, 0, 1085], .null, []),
  (101, .iconst 1, 1, [], .int 1, []),
  (102, .isub, 1, [], .null, []),
  (103, .ireturn, 1, [], .null, [])]
abbrev kX12_stone : Nat := 143
abbrev zq_m143 : zq_T := (yX12_stone, cX12_stone, 4, (some .int), zq_c143, (0, 0), [1049, 95, 1047, 1048])
def zq_c144 : List zq_I := [
  (0, .aload_n 0, 1, [0], .null, []),
  (1, .iload_n 1, 1, [1], .null, []),
  (2, .iconst 0, 1, [], .int 0, []),
  (3, .ldc 24, 2, [0, 1063], .int 99999, []),
  (5, .invokevirtual 7, 3, [1, 139, 3, 4, 1050, 12, 1, 0, 0], .null, []),
  (8, .ifCond .eq 15, 3, [23], .null, []),
  (11, .iload_n 1, 1, [1], .null, []),
  (12, .bipush 10, 2, [], .int 10, []),
  (14, .irem, 1, [], .null, []),
  (15, .iconst 4, 1, [], .int 4, []),
  (16, .if_icmp .ge 7, 3, [23], .null, []),
  (19, .iconst 1, 1, [], .int 1, []),
  (20, .goto 4, 3, [24], .null, []),
  (23, .iconst 0, 1, [], .int 0, []),
  (24, .ireturn, 1, [], .null, [])]
abbrev kX12_isWeather : Nat := 144
abbrev zq_m144 : zq_T := (yX12_isWeather, cX12_isWeather, 2, (some .boolean), zq_c144, (0, 0), [1062, 95, 1061, 25])
def zq_c145 : List zq_I := [
  (0, .aload_n 0, 1, [0], .null, []),
  (1, .getfield 25, 3, [12, 5, 2, 48, 52, 1090], .null, []),
  (4, .aload_n 0, 1, [0], .null, []),
  (5, .getfield 11, 3, [12, 1, 0, 48, 0, 1086], .null, []),
  (8, .iload_n 1, 1, [1], .null, []),
  (9, .sipush 10000, 3, [], .int 10000, []),
  (12, .idiv, 1, [], .null, []),
  (13, .iastore, 1, [], .null, []),
  (14, .aload_n 0, 1, [0], .null, []),
  (15, .getfield 28, 3, [12, 6, 2, 48, 53, 1091], .null, []),
  (18, .aload_n 0, 1, [0], .null, []),
  (19, .getfield 11, 3, [12, 1, 0, 48, 0, 1086], .null, []),
  (22, .iload_n 1, 1, [1], .null, []),
  (23, .sipush 1000, 3, [], .int 1000, []),
  (26, .idiv, 1, [], .null, []),
  (27, .bipush 10, 2, [], .int 10, []),
  (29, .irem, 1, [], .null, []),
  (30, .iastore, 1, [], .null, []),
  (31, .aload_n 0, 1, [0], .null, []),
  (32, .getfield 31, 3, [12, 7, 2, 48, 54, 1092], .null, []),
  (35, .aload_n 0, 1, [0], .null, []),
  (36, .getfield 11, 3, [12, 1, 0, 48, 0, 1086], .null, []),
  (39, .iload_n 1, 1, [1], .null, []),
  (40, .bipush 10, 2, [], .int 10, []),
  (42, .idiv, 1, [], .null, []),
  (43, .bipush 100, 2, [], .int 100, []),
  (45, .irem, 1, [], .null, []),
  (46, .iastore, 1, [], .null, []),
  (47, .aload_n 0, 1, [0], .null, []),
  (48, .getfield 34, 3, [12, 8, 2, 48, 55, 1093], .null, []),
  (51, .aload_n 0, 1, [0], .null, []),
  (52, .getfield 11, 3, [12, 1, 0, 48, 0, 1086], .null, []),
  (55, .iload_n 1, 1, [1], .null, []),
  (56, .bipush 10, 2, [], .int 10, []),
  (58, .irem, 1, [], .null, []),
  (59, .iastore, 1, [], .null, []),
  (60, .aload_n 0, 1, [0], .null, []),
  (61, .dup, 1, [], .null, []),
  (62, .getfield 11, 3, [12, 1, 0, 48, 0, 1086], .null, []),
  (65, .iconst 1, 1, [], .int 1, []),
  (66, .iadd, 1, [], .null, []),
  (67, .putfield 11, 3, [12, 1, 0, 48, 0, 1086], .null, []),
  (70, .return_, 1, [], .null, [])]
abbrev kX12_comes : Nat := 145
abbrev zq_m145 : zq_T := (yX12_comes, cX12_comes, 2, none, zq_c145, (0, 0), [1067, 95, 1066, 26])
def zq_c146 : List zq_I := [
  (0, .aload_n 0, 1, [0], .null, []),
  (1, .iload_n 1, 1, [1], .null, []),
  (2, .invokevirtual 37, 3, [1, 144, 1, 2, 1059, 12, 1, 0, 0], .null, []),
  (5, .ifCond .ne 6, 3, [11], .null, []),
  (8, .bipush (-2), 2, [], .int (-2), []),
  (10, .ireturn, 1, [], .null, []),
  (11, .aload_n 0, 1, [0], .null, []),
  (12, .getfield 11, 3, [12, 1, 0, 48, 0, 1086], .null, []),
  (15, .bipush 60, 2, [], .int 60, []),
  (17, .if_icmp .ne 6, 3, [23], .null, []),
  (20, .bipush (-4), 2, [], .int (-4), []),
  (22, .ireturn, 1, [], .null, []),
  (23, .aload_n 0, 1, [0], .null, []),
  (24, .iload_n 1, 1, [1], .null, []),
  (25, .invokevirtual 41, 3, [1, 145, 1, 2, 1064, 12, 0, 0, 0], .null, []),
  (28, .aload_n 0, 1, [0], .null, []),
  (29, .getfield 11, 3, [12, 1, 0, 48, 0, 1086], .null, []),
  (32, .iconst 1, 1, [], .int 1, []),
  (33, .isub, 1, [], .null, []),
  (34, .ireturn, 1, [], .null, [])]
abbrev kX12_night : Nat := 146
abbrev zq_m146 : zq_T := (yX12_night, cX12_night, 2, (some .int), zq_c146, (0, 0), [1058, 95, 1056, 1057])
def zq_c147 : List zq_I := [
  (0, .aload_n 0, 1, [0], .null, []),
  (1, .iload_n 1, 1, [1], .null, []),
  (2, .iconst 0, 1, [], .int 0, []),
  (3, .iconst 5, 1, [], .int 5, []),
  (4, .invokevirtual 7, 3, [1, 139, 3, 4, 1050, 12, 1, 0, 0], .null, []),
  (7, .ifCond .eq 14, 3, [21], .null, []),
  (10, .aload_n 0, 1, [0], .null, []),
  (11, .iload_n 2, 1, [2], .null, []),
  (12, .iconst 0, 1, [], .int 0, []),
  (13, .bipush 20, 2, [], .int 20, []),
  (15, .invokevirtual 7, 3, [1, 139, 3, 4, 1050, 12, 1, 0, 0], .null, []),
  (18, .ifCond .ne 6, 3, [24], .null, []),
  (21, .bipush (-2), 2, [], .int (-2), []),
  (23, .ireturn, 1, [], .null, []),
  (24, .aload_n 0, 1, [0], .null, []),
  (25, .getfield 14, 3, [12, 2, 0, 48, 0, 1087], .null, []),
  (28, .bipush 8, 2, [], .int 8, []),
  (30, .if_icmp .ne 6, 3, [36], .null, []),
  (33, .bipush (-4), 2, [], .int (-4), []),
  (35, .ireturn, 1, [], .null, []),
  (36, .aload_n 0, 1, [0], .null, []),
  (37, .getfield 45, 3, [12, 9, 2, 48, 56, 1094], .null, []),
  (40, .aload_n 0, 1, [0], .null, []),
  (41, .getfield 14, 3, [12, 2, 0, 48, 0, 1087], .null, []),
  (44, .iload_n 1, 1, [1], .null, []),
  (45, .iastore, 1, [], .null, []),
  (46, .aload_n 0, 1, [0], .null, []),
  (47, .getfield 48, 3, [12, 10, 2, 48, 57, 1095], .null, []),
  (50, .aload_n 0, 1, [0], .null, []),
  (51, .getfield 14, 3, [12, 2, 0, 48, 0, 1087], .null, []),
  (54, .iload_n 2, 1, [2], .null, []),
  (55, .iastore, 1, [], .null, []),
  (56, .aload_n 0, 1, [0], .null, []),
  (57, .dup, 1, [], .null, []),
  (58, .getfield 14, 3, [12, 2, 0, 48, 0, 1087], .null, []),
  (61, .iconst 1, 1, [], .int 1, []),
  (62, .iadd, 1, [], .null, []),
  (63, .putfield 14, 3, [12, 2, 0, 48, 0, 1087], .null, []),
  (66, .aload_n 0, 1, [0], .null, []),
  (67, .getfield 14, 3, [12, 2, 0, 48, 0, 1087], .null, []),
  (70, .iconst 1, 1, [], .int 1, []),
  (71, .isub, 1, [], .null, []),
  (72, .ireturn, 1, [], .null, [])]
abbrev kX12_how : Nat := 147
abbrev zq_m147 : zq_T := (yX12_how, cX12_how, 3, (some .int), zq_c147, (0, 0), [1071, 95, 1069, 1070])
def zq_c148 : List zq_I := [
  (0, .aload_n 0, 1, [0], .null, []),
  (1, .iload_n 1, 1, [1], .null, []),
  (2, .invokevirtual 51, 3, [1, 140, 1, 2, 1076, 12, 1, 0, 0], .null, []),
  (5, .ifCond .eq 13, 3, [18], .null, []),
  (8, .aload_n 0, 1, [0], .null, []),
  (9, .iload_n 2, 1, [2], .null, []),
  (10, .iconst 0, 1, [], .int 0, []),
  (11, .iconst 1, 1, [], .int 1, []),
  (12, .invokevirtual 7, 3, [1, 139, 3, 4, 1050, 12, 1, 0, 0], .null, []),
  (15, .ifCond .ne 6, 3, [21], .null, []),
  (18, .bipush (-5), 2, [], .int (-5), []),
  (20, .ireturn, 1, [], .null, []),
  (21, .iload_n 2, 1, [2], .null, []),
  (22, .ifCond .ne 12, 3, [34], .null, []),
  (25, .aload_n 0, 1, [0], .null, []),
  (26, .getfield 21, 3, [12, 3, 2, 48, 50, 1088], .null, []),
  (29, .iload_n 1, 1, [1], .null, []),
  (30, .iaload, 1, [], .null, []),
  (31, .goto 9, 3, [40], .null, []),
  (34, .aload_n 0, 1, [0], .null, []),
  (35, .getfield 17, 3, [12, 4, 2, 48, 51, 1089], .null, []),
  (38, .iload_n 1, 1, [1], .null, []),
  (39, .iaload, 1, [], .null, []),
  (40, .ireturn, 1, [], .null, [])]
abbrev kX12_stoneTold : Nat := 148
abbrev zq_m148 : zq_T := (yX12_stoneTold, cX12_stoneTold, 3, (some .int), zq_c148, (0, 0), [1075, 95, 1073, 1074])
def zq_c149 : List zq_I := [
  (0, .aload_n 0, 1, [0], .null, []),
  (1, .invokespecial 54, 3, [0, 1084], .null, []),
  (4, .aload_n 0, 1, [0], .null, []),
  (5, .iconst 0, 1, [], .int 0, []),
  (6, .putfield 1, 3, [12, 0, 0, 48, 0, 1085], .null, []),
  (9, .aload_n 0, 1, [0], .null, []),
  (10, .iconst 0, 1, [], .int 0, []),
  (11, .putfield 11, 3, [12, 1, 0, 48, 0, 1086], .null, []),
  (14, .aload_n 0, 1, [0], .null, []),
  (15, .iconst 0, 1, [], .int 0, []),
  (16, .putfield 14, 3, [12, 2, 0, 48, 0, 1087], .null, []),
  (19, .aload_n 0, 1, [0], .null, []),
  (20, .bipush 10, 2, [], .int 10, []),
  (22, .newarray .int, 2, [137], .null, []),
  (24, .putfield 21, 3, [12, 3, 2, 48, 50, 1088], .null, []),
  (27, .aload_n 0, 1, [0], .null, []),
  (28, .bipush 10, 2, [], .int 10, []),
  (30, .newarray .int, 2, [137], .null, []),
  (32, .putfield 17, 3, [12, 4, 2, 48, 51, 1089], .null, []),
  (35, .aload_n 0, 1, [0], .null, []),
  (36, .bipush 60, 2, [], .int 60, []),
  (38, .newarray .int, 2, [137], .null, []),
  (40, .putfield 25, 3, [12, 5, 2, 48, 52, 1090], .null, []),
  (43, .aload_n 0, 1, [0], .null, []),
  (44, .bipush 60, 2, [], .int 60, []),
  (46, .newarray .int, 2, [137], .null, []),
  (48, .putfield 28, 3, [12, 6, 2, 48, 53, 1091], .null, []),
  (51, .aload_n 0, 1, [0], .null, []),
  (52, .bipush 60, 2, [], .int 60, []),
  (54, .newarray .int, 2, [137], .null, []),
  (56, .putfield 31, 3, [12, 7, 2, 48, 54, 1092], .null, []),
  (59, .aload_n 0, 1, [0], .null, []),
  (60, .bipush 60, 2, [], .int 60, []),
  (62, .newarray .int, 2, [137], .null, []),
  (64, .putfield 34, 3, [12, 8, 2, 48, 55, 1093], .null, []),
  (67, .aload_n 0, 1, [0], .null, []),
  (68, .bipush 8, 2, [], .int 8, []),
  (70, .newarray .int, 2, [137], .null, []),
  (72, .putfield 45, 3, [12, 9, 2, 48, 56, 1094], .null, []),
  (75, .aload_n 0, 1, [0], .null, []),
  (76, .bipush 8, 2, [], .int 8, []),
  (78, .newarray .int, 2, [137], .null, []),
  (80, .putfield 48, 3, [12, 10, 2, 48, 57, 1095], .null, []),
  (83, .aload_n 0, 1, [0], .null, []),
  (84, .iconst 0, 1, [], .int 0, []),
  (85, .putfield 60, 3, [12, 11, 0, 48, 0, 1096], .null, []),
  (88, .aload_n 0, 1, [0], .null, []),
  (89, .iconst 0, 1, [], .int 0, []),
  (90, .putfield 63, 3, [12, 12, 0, 48, 0, 1097], .null, []),
  (93, .aload_n 0, 1, [0], .null, []),
  (94, .iconst 0, 1, [], .int 0, []),
  (95, .putfield 66, 3, [12, 13, 0, 48, 0, 1098], .null, []),
  (98, .aload_n 0, 1, [0], .null, []),
  (99, .iconst 0, 1, [], .int 0, []),
  (100, .putfield 69, 3, [12, 14, 0, 48, 0, 1099], .null, []),
  (103, .aload_n 0, 1, [0], .null, []),
  (104, .iconst 0, 1, [], .int 0, []),
  (105, .putfield 72, 3, [12, 15, 0, 48, 0, 1100], .null, []),
  (108, .aload_n 0, 1, [0], .null, []),
  (109, .iconst 0, 1, [], .int 0, []),
  (110, .putfield 75, 3, [12, 16, 0, 48, 0, 1101], .null, []),
  (113, .aload_n 0, 1, [0], .null, []),
  (114, .iconst 0, 1, [], .int 0, []),
  (115, .putfield 78, 3, [12, 17, 0, 48, 0, 1102], .null, []),
  (118, .aload_n 0, 1, [0], .null, []),
  (119, .iconst 0, 1, [], .int 0, []),
  (120, .putfield 81, 3, [12, 18, 0, 48, 0, 1103], .null, []),
  (123, .aload_n 0, 1, [0], .null, []),
  (124, .iconst 0, 1, [], .int 0, []),
  (125, .putfield 84, 3, [12, 19, 0, 48, 0, 1104], .null, []),
  (128, .aload_n 0, 1, [0], .null, []),
  (129, .iconst 0, 1, [], .int 0, []),
  (130, .putfield 87, 3, [12, 20, 0, 48, 0, 1105], .null, []),
  (133, .aload_n 0, 1, [0], .null, []),
  (134, .sipush 160, 3, [], .int 160, []),
  (137, .newarray .int, 2, [137], .null, []),
  (139, .putfield 90, 3, [12, 21, 2, 48, 58, 1106], .null, []),
  (142, .aload_n 0, 1, [0], .null, []),
  (143, .sipush 2880, 3, [], .int 2880, []),
  (146, .newarray .int, 2, [137], .null, []),
  (148, .putfield 93, 3, [12, 22, 2, 48, 59, 1107], .null, []),
  (151, .aload_n 0, 1, [0], .null, []),
  (152, .sipush 2880, 3, [], .int 2880, []),
  (155, .newarray .int, 2, [137], .null, []),
  (157, .putfield 96, 3, [12, 23, 2, 48, 60, 1108], .null, []),
  (160, .aload_n 0, 1, [0], .null, []),
  (161, .bipush 18, 2, [], .int 18, []),
  (163, .newarray .int, 2, [137], .null, []),
  (165, .putfield 99, 3, [12, 24, 2, 48, 61, 1109], .null, []),
  (168, .aload_n 0, 1, [0], .null, []),
  (169, .sipush 161, 3, [], .int 161, []),
  (172, .newarray .int, 2, [137], .null, []),
  (174, .putfield 102, 3, [12, 25, 2, 48, 62, 1110], .null, []),
  (177, .aload_n 0, 1, [0], .null, []),
  (178, .sipush 161, 3, [], .int 161, []),
  (181, .newarray .int, 2, [137], .null, []),
  (183, .putfield 105, 3, [12, 26, 2, 48, 63, 1111], .null, []),
  (186, .aload_n 0, 1, [0], .null, []),
  (187, .iconst (-1), 1, [], .int (-1), []),
  (188, .putfield 108, 3, [12, 27, 0, 48, 0, 1112], .null, []),
  (191, .aload_n 0, 1, [0], .null, []),
  (192, .bipush 10, 2, [], .int 10, []),
  (194, .newarray .int, 2, [137], .null, []),
  (196, .putfield 111, 3, [12, 28, 2, 48, 64, 1113], .null, []),
  (199, .aload_n 0, 1, [0], .null, []),
  (200, .bipush 10, 2, [], .int 10, []),
  (202, .newarray .int, 2, [137], .null, []),
  (204, .putfield 114, 3, [12, 29, 2, 48, 65, 1114], .null, []),
  (207, .aload_n 0, 1, [0], .null, []),
  (208, .bipush 10, 2, [], .int 10, []),
  (210, .newarray .int, 2, [137], .null, []),
  (212, .putfield 117, 3, [12, 30, 2, 48, 66, 1115], .null, []),
  (215, .aload_n 0, 1, [0], .null, []),
  (216, .bipush 10, 2, [], .int 10, []),
  (218, .newarray .int, 2, [137], .null, []),
  (220, .putfield 120, 3, [12, 31, 2, 48, 67, 1116], .null, []),
  (223, .aload_n 0, 1, [0], .null, []),
  (224, .iconst 0, 1, [], .int 0, []),
  (225, .putfield 123, 3, [12, 32, 0, 48, 0, 1117], .null, []),
  (228, .aload_n 0, 1, [0], .null, []),
  (229, .bipush 24, 2, [], .int 24, []),
  (231, .newarray .int, 2, [137], .null, []),
  (233, .putfield 126, 3, [12, 33, 2, 48, 68, 1118], .null, []),
  (236, .aload_n 0, 1, [0], .null, []),
  (237, .bipush 24, 2, [], .int 24, []),
  (239, .newarray .int, 2, [137], .null, []),
  (241, .putfield 129, 3, [12, 34, 2, 48, 69, 1119], .null, []),
  (244, .aload_n 0, 1, [0], .null, []),
  (245, .bipush 24, 2, [], .int 24, []),
  (247, .newarray .int, 2, [137], .null, []),
  (249, .putfield 132, 3, [12, 35, 2, 48, 70, 1120], .null, []),
  (252, .aload_n 0, 1, [0], .null, []),
  (253, .bipush 24, 2, [], .int 24, []),
  (255, .newarray .int, 2, [137], .null, []),
  (257, .putfield 135, 3, [12, 36, 2, 48, 71, 1121], .null, []),
  (260, .aload_n 0, 1, [0], .null, []),
  (261, .iconst 0, 1, [], .int 0, []),
  (262, .putfield 138, 3, [12, 37, 0, 48, 0, 1122], .null, []),
  (265, .aload_n 0, 1, [0], .null, []),
  (266, .bipush 8, 2, [], .int 8, []),
  (268, .newarray .int, 2, [137], .null, []),
  (270, .putfield 141, 3, [12, 38, 2, 48, 72, 1123], .null, []),
  (273, .aload_n 0, 1, [0], .null, []),
  (274, .iconst 0, 1, [], .int 0, []),
  (275, .putfield 144, 3, [12, 39, 0, 48, 0, 1124], .null, []),
  (278, .aload_n 0, 1, [0], .null, []),
  (279, .bipush 20, 2, [], .int 20, []),
  (281, .newarray .int, 2, [137], .null, []),
  (283, .putfield 147, 3, [12, 40, 2, 48, 73, 1125], .null, []),
  (286, .aload_n 0, 1, [0], .null, []),
  (287, .bipush 20, 2, [], .int 20, []),
  (289, .newarray .int, 2, [137], .null, []),
  (291, .putfield 150, 3, [12, 41, 2, 48, 74, 1126], .null, []),
  (294, .aload_n 0, 1, [0], .null, []),
  (295, .iconst 0, 1, [], .int 0, []),
  (296, .putfield 153, 3, [12, 42, 1, 48, 0, 1127], .null, []),
  (299, .aload_n 0, 1, [0], .null, []),
  (300, .iconst 0, 1, [], .int 0, []),
  (301, .putfield 157, 3, [12, 43, 0, 48, 0, 1128], .null, []),
  (304, .aload_n 0, 1, [0], .null, []),
  (305, .iconst 0, 1, [], .int 0, []),
  (306, .putfield 160, 3, [12, 44, 0, 48, 0, 1129], .null, []),
  (309, .aload_n 0, 1, [0], .null, []),
  (310, .iconst 0, 1, [], .int 0, []),
  (311, .putfield 163, 3, [12, 45, 0, 48, 0, 1130], .null, []),
  (314, .aload_n 0, 1, [0], .null, []),
  (315, .iconst 0, 1, [], .int 0, []),
  (316, .putfield 166, 3, [12, 46, 0, 48, 0, 1131], .null, []),
  (319, .aload_n 0, 1, [0], .null, []),
  (320, .iconst 0, 1, [], .int 0, []),
  (321, .putfield 169, 3, [12, 47, 0, 48, 0, 1132], .null, []),
  (324, .aload_n 0, 1, [0], .null, []),
  (325, .bipush 10, 2, [], .int 10, []),
  (327, .newarray .int, 2, [137], .null, []),
  (329, .putfield 172, 3, [12, 48, 2, 48, 75, 1133], .null, []),
  (332, .aload_n 0, 1, [0], .null, []),
  (333, .iconst 4, 1, [], .int 4, []),
  (334, .newarray .int, 2, [137], .null, []),
  (336, .dup, 1, [], .null, []),
  (337, .iconst 0, 1, [], .int 0, []),
  (338, .iconst (-1), 1, [], .int (-1), []),
  (339, .iastore, 1, [], .null, []),
  (340, .dup, 1, [], .null, []),
  (341, .iconst 1, 1, [], .int 1, []),
  (342, .iconst (-1), 1, [], .int (-1), []),
  (343, .iastore, 1, [], .null, []),
  (344, .dup, 1, [], .null, []),
  (345, .iconst 2, 1, [], .int 2, []),
  (346, .iconst (-1), 1, [], .int (-1), []),
  (347, .iastore, 1, [], .null, []),
  (348, .dup, 1, [], .null, []),
  (349, .iconst 3, 1, [], .int 3, []),
  (350, .iconst (-1), 1, [], .int (-1), []),
  (351, .iastore, 1, [], .null, []),
  (352, .putfield 175, 3, [12, 49, 2, 48, 76, 1134], .null, []),
  (355, .aload_n 0, 1, [0], .null, []),
  (356, .iconst 4, 1, [], .int 4, []),
  (357, .newarray .int, 2, [137], .null, []),
  (359, .putfield 178, 3, [12, 50, 2, 48, 77, 1135], .null, []),
  (362, .aload_n 0, 1, [0], .null, []),
  (363, .sipush 160, 3, [], .int 160, []),
  (366, .newarray .int, 2, [137], .null, []),
  (368, .putfield 181, 3, [12, 51, 2, 48, 78, 1136], .null, []),
  (371, .aload_n 0, 1, [0], .null, []),
  (372, .bipush 40, 2, [], .int 40, []),
  (374, .newarray .int, 2, [137], .null, []),
  (376, .putfield 184, 3, [12, 52, 2, 48, 79, 1137], .null, []),
  (379, .aload_n 0, 1, [0], .null, []),
  (380, .bipush 12, 2, [], .int 12, []),
  (382, .newarray .int, 2, [137], .null, []),
  (384, .putfield 187, 3, [12, 53, 2, 48, 80, 1138], .null, []),
  (387, .aload_n 0, 1, [0], .null, []),
  (388, .getfield 99, 3, [12, 24, 2, 48, 61, 1109], .null, []),
  (391, .iconst 0, 1, [], .int 0, []),
  (392, .iconst 1, 1, [], .int 1, []),
  (393, .iastore, 1, [], .null, []),
  (394, .aload_n 0, 1, [0], .null, []),
  (395, .getfield 99, 3, [12, 24, 2, 48, 61, 1109], .null, []),
  (398, .iconst 1, 1, [], .int 1, []),
  (399, .iconst 3, 1, [], .int 3, []),
  (400, .iastore, 1, [], .null, []),
  (401, .aload_n 0, 1, [0], .null, []),
  (402, .getfield 93, 3, [12, 22, 2, 48, 59, 1107], .null, []),
  (405, .sipush 161, 3, [], .int 161, []),
  (408, .iconst 1, 1, [], .int 1, []),
  (409, .iastore, 1, [], .null, []),
  (410, .aload_n 0, 1, [0], .null, []),
  (411, .getfield 96, 3, [12, 23, 2, 48, 60, 1108], .null, []),
  (414, .sipush 161, 3, [], .int 161, []),
  (417, .iconst 2, 1, [], .int 2, []),
  (418, .iastore, 1, [], .null, []),
  (419, .aload_n 0, 1, [0], .null, []),
  (420, .getfield 93, 3, [12, 22, 2, 48, 59, 1107], .null, []),
  (423, .sipush 162, 3, [], .int 162, []),
  (426, .iconst 5, 1, [], .int 5, []),
  (427, .iastore, 1, [], .null, []),
  (428, .aload_n 0, 1, [0], .null, []),
  (429, .getfield 99, 3, [12, 24, 2, 48, 61, 1109], .null, []),
  (432, .iconst 2, 1, [], .int 2, []),
  (433, .iconst 1, 1, [], .int 1, []),
  (434, .iastore, 1, [], .null, []),
  (435, .aload_n 0, 1, [0], .null, []),
  (436, .getfield 93, 3, [12, 22, 2, 48, 59, 1107], .null, []),
  (439, .sipush 320, 3, [], .int 320, []),
  (442, .iconst 1, 1, [], .int 1, []),
  (443, .iastore, 1, [], .null, []),
  (444, .aload_n 0, 1, [0], .null, []),
  (445, .getfield 96, 3, [12, 23, 2, 48, 60, 1108], .null, []),
  (448, .sipush 320, 3, [], .int 320, []),
  (451, .iconst 3, 1, [], .int 3, []),
  (452, .iastore, 1, [], .null, []),
  (453, .aload_n 0, 1, [0], .null, []),
  (454, .iconst 1, 1, [], .int 1, []),
  (455, .putfield 60, 3, [12, 11, 0, 48, 0, 1096], .null, []),
  (458, .return_, 1, [], .null, [])]
abbrev kX12_init : Nat := 149
abbrev zq_m149 : zq_T := (yX12_init, cX12_init, 1, none, zq_c149, (31, 6950), [1083, 95, 1082, 0])
def zq_c150 : List zq_I := [
  (0, .aload_n 0, 1, [0], .null, []),
  (1, .iload_n 1, 1, [1], .null, []),
  (2, .iconst 1, 1, [], .int 1, []),
  (3, .bipush 8, 2, [], .int 8, []),
  (5, .invokevirtual 7, 3, [1, 139, 3, 4, 1050, 12, 1, 0, 0], .null, []),
  (8, .ifCond .ne 6, 3, [14], .null, []),
  (11, .bipush (-2), 2, [], .int (-2), []),
  (13, .ireturn, 1, [], .null, []),
  (14, .aload_n 0, 1, [0], .null, []),
  (15, .getfield 66, 3, [12, 13, 0, 48, 0, 1098], .null, []),
  (18, .iload_n 1, 1, [1], .null, []),
  (19, .iadd, 1, [], .null, []),
  (20, .sipush 160, 3, [], .int 160, []),
  (23, .if_icmp .le 6, 3, [29], .null, []),
  (26, .bipush (-4), 2, [], .int (-4), []),
  (28, .ireturn, 1, [], .null, []),
  (29, .iconst 0, 1, [], .int 0, []),
  (30, .istore 4, 2, [4], .null, []),
  (32, .iload 4, 2, [4], .null, [true, true, true, false, true]),
  (34, .iload_n 1, 1, [1], .null, []),
  (35, .if_icmp .ge 40, 3, [75], .null, []),
  (38, .aload_n 0, 1, [0], .null, []),
  (39, .getfield 90, 3, [12, 21, 2, 48, 58, 1106], .null, []),
  (42, .aload_n 0, 1, [0], .null, []),
  (43, .getfield 66, 3, [12, 13, 0, 48, 0, 1098], .null, []),
  (46, .lload_n 2, 1, [2], .null, []),
  (47, .bipush 8, 2, [], .int 8, []),
  (49, .iload 4, 2, [4], .null, []),
  (51, .imul, 1, [], .null, []),
  (52, .lshr, 1, [], .null, []),
  (53, .ldc2_w 190, 3, [2, 1252], .long 255, []),
  (56, .land, 1, [], .null, []),
  (57, .l2i, 1, [], .null, []),
  (58, .iastore, 1, [], .null, []),
  (59, .aload_n 0, 1, [0], .null, []),
  (60, .dup, 1, [], .null, []),
  (61, .getfield 66, 3, [12, 13, 0, 48, 0, 1098], .null, []),
  (64, .iconst 1, 1, [], .int 1, []),
  (65, .iadd, 1, [], .null, []),
  (66, .putfield 66, 3, [12, 13, 0, 48, 0, 1098], .null, []),
  (69, .iinc 4 1, 3, [4], .int 1, []),
  (72, .goto (-40), 3, [32], .null, []),
  (75, .aload_n 0, 1, [0], .null, []),
  (76, .getfield 66, 3, [12, 13, 0, 48, 0, 1098], .null, []),
  (79, .ireturn, 1, [], .null, [])]
abbrev kX12_feed : Nat := 150
abbrev zq_m150 : zq_T := (yX12_feed, cX12_feed, 5, (some .int), zq_c150, (0, 0), [1251, 95, 1249, 1250])
def zq_c151 : List zq_I := [
  (0, .iload_n 1, 1, [1], .null, []),
  (1, .aload_n 0, 1, [0], .null, []),
  (2, .getfield 66, 3, [12, 13, 0, 48, 0, 1098], .null, []),
  (5, .if_icmp .ge 12, 3, [17], .null, []),
  (8, .aload_n 0, 1, [0], .null, []),
  (9, .getfield 90, 3, [12, 21, 2, 48, 58, 1106], .null, []),
  (12, .iload_n 1, 1, [1], .null, []),
  (13, .iaload, 1, [], .null, []),
  (14, .goto 4, 3, [18], .null, []),
  (17, .iconst (-1), 1, [], .int (-1), []),
  (18, .ireturn, 1, [], .null, [])]
abbrev kX12_byteAt : Nat := 151
abbrev zq_m151 : zq_T := (yX12_byteAt, cX12_byteAt, 2, (some .int), zq_c151, (0, 0), [1264, 95, 1263, 29])
def zq_c152 : List zq_I := [
  (0, .aload_n 0, 1, [0], .null, []),
  (1, .iload_n 1, 1, [1], .null, []),
  (2, .bipush 97, 2, [], .int 97, []),
  (4, .bipush 122, 2, [], .int 122, []),
  (6, .invokevirtual 7, 3, [1, 139, 3, 4, 1050, 12, 1, 0, 0], .null, []),
  (9, .ireturn, 1, [], .null, [])]
abbrev kX12_isLetter : Nat := 152
abbrev zq_m152 : zq_T := (yX12_isLetter, cX12_isLetter, 2, (some .boolean), zq_c152, (0, 0), [1272, 95, 1271, 31])
def zq_c153 : List zq_I := [
  (0, .aload_n 0, 1, [0], .null, []),
  (1, .iload_n 1, 1, [1], .null, []),
  (2, .bipush 48, 2, [], .int 48, []),
  (4, .bipush 57, 2, [], .int 57, []),
  (6, .invokevirtual 7, 3, [1, 139, 3, 4, 1050, 12, 1, 0, 0], .null, []),
  (9, .ireturn, 1, [], .null, [])]
abbrev kX12_isDigit : Nat := 153
abbrev zq_m153 : zq_T := (yX12_isDigit, cX12_isDigit, 2, (some .boolean), zq_c153, (0, 0), [1268, 95, 1267, 30])
def zq_c154 : List zq_I := [
  (0, .aload_n 0, 1, [0], .null, [true, false]),
  (1, .aload_n 0, 1, [0], .null, []),
  (2, .getfield 69, 3, [12, 14, 0, 48, 0, 1099], .null, []),
  (5, .invokevirtual 192, 3, [1, 151, 1, 2, 1261, 12, 1, 0, 0], .null, []),
  (8, .bipush 32, 2, [], .int 32, []),
  (10, .if_icmp .eq 16, 3, [26], .null, []),
  (13, .aload_n 0, 1, [0], .null, []),
  (14, .aload_n 0, 1, [0], .null, []),
  (15, .getfield 69, 3, [12, 14, 0, 48, 0, 1099], .null, []),
  (18, .invokevirtual 192, 3, [1, 151, 1, 2, 1261, 12, 1, 0, 0], .null, []),
  (21, .bipush 10, 2, [], .int 10, []),
  (23, .if_icmp .ne 16, 3, [39], .null, []),
  (26, .aload_n 0, 1, [0], .null, []),
  (27, .dup, 1, [], .null, []),
  (28, .getfield 69, 3, [12, 14, 0, 48, 0, 1099], .null, []),
  (31, .iconst 1, 1, [], .int 1, []),
  (32, .iadd, 1, [], .null, []),
  (33, .putfield 69, 3, [12, 14, 0, 48, 0, 1099], .null, []),
  (36, .goto (-36), 3, [0], .null, []),
  (39, .aload_n 0, 1, [0], .null, []),
  (40, .aload_n 0, 1, [0], .null, []),
  (41, .getfield 69, 3, [12, 14, 0, 48, 0, 1099], .null, []),
  (44, .invokevirtual 192, 3, [1, 151, 1, 2, 1261, 12, 1, 0, 0], .null, []),
  (47, .istore_n 1, 1, [1], .null, []),
  (48, .aload_n 0, 1, [0], .null, []),
  (49, .iconst 1, 1, [], .int 1, []),
  (50, .putfield 78, 3, [12, 17, 0, 48, 0, 1102], .null, []),
  (53, .aload_n 0, 1, [0], .null, []),
  (54, .iconst 0, 1, [], .int 0, []),
  (55, .putfield 75, 3, [12, 16, 0, 48, 0, 1101], .null, []),
  (58, .aload_n 0, 1, [0], .null, []),
  (59, .iload_n 1, 1, [1], .null, []),
  (60, .invokevirtual 196, 3, [1, 153, 1, 2, 1265, 12, 1, 0, 0], .null, []),
  (63, .ifCond .eq 110, 3, [173], .null, []),
  (66, .aload_n 0, 1, [0], .null, []),
  (67, .iconst 1, 1, [], .int 1, []),
  (68, .putfield 72, 3, [12, 15, 0, 48, 0, 1100], .null, []),
  (71, .aload_n 0, 1, [0], .null, []),
  (72, .iconst 0, 1, [], .int 0, []),
  (73, .putfield 78, 3, [12, 17, 0, 48, 0, 1102], .null, []),
  (76, .aload_n 0, 1, [0], .null, [true, false]),
  (77, .aload_n 0, 1, [0], .null, []),
  (78, .aload_n 0, 1, [0], .null, []),
  (79, .getfield 69, 3, [12, 14, 0, 48, 0, 1099], .null, []),
  (82, .aload_n 0, 1, [0], .null, []),
  (83, .getfield 78, 3, [12, 17, 0, 48, 0, 1102], .null, []),
  (86, .iadd, 1, [], .null, []),
  (87, .invokevirtual 192, 3, [1, 151, 1, 2, 1261, 12, 1, 0, 0], .null, []),
  (90, .invokevirtual 196, 3, [1, 153, 1, 2, 1265, 12, 1, 0, 0], .null, []),
  (93, .ifCond .eq 59, 3, [152], .null, []),
  (96, .aload_n 0, 1, [0], .null, []),
  (97, .aload_n 0, 1, [0], .null, []),
  (98, .getfield 78, 3, [12, 17, 0, 48, 0, 1102], .null, []),
  (101, .iconst 4, 1, [], .int 4, []),
  (102, .if_icmp .ge 30, 3, [132], .null, []),
  (105, .bipush 10, 2, [], .int 10, []),
  (107, .aload_n 0, 1, [0], .null, []),
  (108, .getfield 75, 3, [12, 16, 0, 48, 0, 1101], .null, []),
  (111, .imul, 1, [], .null, []),
  (112, .aload_n 0, 1, [0], .null, []),
  (113, .aload_n 0, 1, [0], .null, []),
  (114, .getfield 69, 3, [12, 14, 0, 48, 0, 1099], .null, []),
  (117, .aload_n 0, 1, [0], .null, []),
  (118, .getfield 78, 3, [12, 17, 0, 48, 0, 1102], .null, []),
  (121, .iadd, 1, [], .null, []),
  (122, .invokevirtual 192, 3, [1, 151, 1, 2, 1261, 12, 1, 0, 0], .null, []),
  (125, .iadd, 1, [], .null, []),
  (126, .bipush 48, 2, [], .int 48, []),
  (128, .isub, 1, [], .null, []),
  (129, .goto 7, 3, [136], .null, []),
  (132, .aload_n 0, 1, [0], .null, []),
  (133, .getfield 75, 3, [12, 16, 0, 48, 0, 1101], .null, []),
  (136, .putfield 75, 3, [12, 16, 0, 48, 0, 1101], .null, []),
  (139, .aload_n 0, 1, [0], .null, []),
  (140, .dup, 1, [], .null, []),
  (141, .getfield 78, 3, [12, 17, 0, 48, 0, 1102], .null, []),
  (144, .iconst 1, 1, [], .int 1, []),
  (145, .iadd, 1, [], .null, []),
  (146, .putfield 78, 3, [12, 17, 0, 48, 0, 1102], .null, []),
  (149, .goto (-73), 3, [76], .null, []),
  (152, .aload_n 0, 1, [0], .null, []),
  (153, .aload_n 0, 1, [0], .null, []),
  (154, .getfield 78, 3, [12, 17, 0, 48, 0, 1102], .null, []),
  (157, .iconst 4, 1, [], .int 4, []),
  (158, .if_icmp .le 8, 3, [166], .null, []),
  (161, .bipush (-2), 2, [], .int (-2), []),
  (163, .goto 4, 3, [167], .null, []),
  (166, .iconst 1, 1, [], .int 1, []),
  (167, .putfield 72, 3, [12, 15, 0, 48, 0, 1100], .null, []),
  (170, .goto 212, 3, [382], .null, []),
  (173, .aload_n 0, 1, [0], .null, []),
  (174, .iload_n 1, 1, [1], .null, []),
  (175, .invokevirtual 199, 3, [1, 152, 1, 2, 1269, 12, 1, 0, 0], .null, []),
  (178, .ifCond .eq 138, 3, [316], .null, []),
  (181, .aload_n 0, 1, [0], .null, []),
  (182, .iconst 0, 1, [], .int 0, []),
  (183, .putfield 78, 3, [12, 17, 0, 48, 0, 1102], .null, []),
  (186, .aload_n 0, 1, [0], .null, [true, false]),
  (187, .aload_n 0, 1, [0], .null, []),
  (188, .aload_n 0, 1, [0], .null, []),
  (189, .getfield 69, 3, [12, 14, 0, 48, 0, 1099], .null, []),
  (192, .aload_n 0, 1, [0], .null, []),
  (193, .getfield 78, 3, [12, 17, 0, 48, 0, 1102], .null, []),
  (196, .iadd, 1, [], .null, []),
  (197, .invokevirtual 192, 3, [1, 151, 1, 2, 1261, 12, 1, 0, 0], .null, []),
  (200, .invokevirtual 199, 3, [1, 152, 1, 2, 1269, 12, 1, 0, 0], .null, []),
  (203, .ifCond .eq 57, 3, [260], .null, []),
  (206, .aload_n 0, 1, [0], .null, []),
  (207, .aload_n 0, 1, [0], .null, []),
  (208, .getfield 78, 3, [12, 17, 0, 48, 0, 1102], .null, []),
  (211, .bipush 6, 2, [], .int 6, []),
  (213, .if_icmp .ge 30, 3, [243], .null, []),
  (216, .bipush 32, 2, [], .int 32, []),
  (218, .aload_n 0, 1, [0], .null, []),
  (219, .getfield 75, 3, [12, 16, 0, 48, 0, 1101], .null, []),
  (222, .imul, 1, [], .null, []),
  (223, .aload_n 0, 1, [0], .null, []),
  (224, .aload_n 0, 1, [0], .null, []),
  (225, .getfield 69, 3, [12, 14, 0, 48, 0, 1099], .null, []),
  (228, .aload_n 0, 1, [0], .null, []),
  (229, .getfield 78, 3, [12, 17, 0, 48, 0, 1102], .null, []),
  (232, .iadd, 1, [], .null, []),
  (233, .invokevirtual 192, 3, [1, 151, 1, 2, 1261, 12, 1, 0, 0], .null, []),
  (236, .iadd, 1, [], .null, []),
  (237, .bipush 96, 2, [], .int 96, []),
  (239, .isub, 1, [], .null, []),
  (240, .goto 4, 3, [244], .null, []),
  (243, .iconst 0, 1, [], .int 0, []),
  (244, .putfield 75, 3, [12, 16, 0, 48, 0, 1101], .null, []),
  (247, .aload_n 0, 1, [0], .null, []),
  (248, .dup, 1, [], .null, []),
  (249, .getfield 78, 3, [12, 17, 0, 48, 0, 1102], .null, []),
  (252, .iconst 1, 1, [], .int 1, []),
  (253, .iadd, 1, [], .null, []),
  (254, .putfield 78, 3, [12, 17, 0, 48, 0, 1102], .null, []),
  (257, .goto (-71), 3, [186], .null, []),
  (260, .aload_n 0, 1, [0], .null, []),
  (261, .aload_n 0, 1, [0], .null, []),
  (262, .getfield 78, 3, [12, 17, 0, 48, 0, 1102], .null, []),
  (265, .bipush 6, 2, [], .int 6, []),
  (267, .if_icmp .le 7, 3, [274], .null, []),
  (270, .iconst 0, 1, [], .int 0, []),
  (271, .goto 7, 3, [278], .null, []),
  (274, .aload_n 0, 1, [0], .null, []),
  (275, .getfield 75, 3, [12, 16, 0, 48, 0, 1101], .null, []),
  (278, .putfield 75, 3, [12, 16, 0, 48, 0, 1101], .null, []),
  (281, .aload_n 0, 1, [0], .null, []),
  (282, .aload_n 0, 1, [0], .null, []),
  (283, .aload_n 0, 1, [0], .null, []),
  (284, .getfield 75, 3, [12, 16, 0, 48, 0, 1101], .null, []),
  (287, .invokevirtual 202, 3, [1, 158, 1, 2, 1273, 12, 1, 0, 0], .null, []),
  (290, .ifCond .ge 14, 3, [304], .null, []),
  (293, .aload_n 0, 1, [0], .null, []),
  (294, .aload_n 0, 1, [0], .null, []),
  (295, .getfield 75, 3, [12, 16, 0, 48, 0, 1101], .null, []),
  (298, .invokevirtual 205, 3, [1, 157, 1, 2, 1281, 12, 1, 0, 0], .null, []),
  (301, .ifCond .eq 7, 3, [308], .null, []),
  (304, .iconst 2, 1, [], .int 2, []),
  (305, .goto 5, 3, [310], .null, []),
  (308, .bipush (-2), 2, [], .int (-2), []),
  (310, .putfield 72, 3, [12, 15, 0, 48, 0, 1100], .null, []),
  (313, .goto 69, 3, [382], .null, []),
  (316, .aload_n 0, 1, [0], .null, []),
  (317, .iload_n 1, 1, [1], .null, []),
  (318, .bipush 40, 2, [], .int 40, []),
  (320, .if_icmp .eq 45, 3, [365], .null, []),
  (323, .iload_n 1, 1, [1], .null, []),
  (324, .bipush 41, 2, [], .int 41, []),
  (326, .if_icmp .eq 39, 3, [365], .null, []),
  (329, .iload_n 1, 1, [1], .null, []),
  (330, .bipush 59, 2, [], .int 59, []),
  (332, .if_icmp .eq 33, 3, [365], .null, []),
  (335, .iload_n 1, 1, [1], .null, []),
  (336, .bipush 43, 2, [], .int 43, []),
  (338, .if_icmp .eq 27, 3, [365], .null, []),
  (341, .iload_n 1, 1, [1], .null, []),
  (342, .bipush 45, 2, [], .int 45, []),
  (344, .if_icmp .eq 21, 3, [365], .null, []),
  (347, .iload_n 1, 1, [1], .null, []),
  (348, .bipush 42, 2, [], .int 42, []),
  (350, .if_icmp .eq 15, 3, [365], .null, []),
  (353, .iload_n 1, 1, [1], .null, []),
  (354, .bipush 60, 2, [], .int 60, []),
  (356, .if_icmp .eq 9, 3, [365], .null, []),
  (359, .iload_n 1, 1, [1], .null, []),
  (360, .bipush 61, 2, [], .int 61, []),
  (362, .if_icmp .ne 7, 3, [369], .null, []),
  (365, .iload_n 1, 1, [1], .null, []),
  (366, .goto 13, 3, [379], .null, []),
  (369, .iload_n 1, 1, [1], .null, []),
  (370, .ifCond .ge 7, 3, [377], .null, []),
  (373, .iconst (-1), 1, [], .int (-1), []),
  (374, .goto 5, 3, [379], .null, []),
  (377, .bipush (-2), 2, [], .int (-2), []),
  (379, .putfield 72, 3, [12, 15, 0, 48, 0, 1100], .null, []),
  (382, .return_, 1, [], .null, [])]
abbrev kX12_look : Nat := 154
abbrev zq_m154 : zq_T := (yX12_look, cX12_look, 2, none, zq_c154, (0, 0), [1260, 95, 1259, 28])
def zq_c155 : List zq_I := [
  (0, .aload_n 0, 1, [0], .null, []),
  (1, .dup, 1, [], .null, []),
  (2, .getfield 69, 3, [12, 14, 0, 48, 0, 1099], .null, []),
  (5, .aload_n 0, 1, [0], .null, []),
  (6, .getfield 78, 3, [12, 17, 0, 48, 0, 1102], .null, []),
  (9, .iadd, 1, [], .null, []),
  (10, .putfield 69, 3, [12, 14, 0, 48, 0, 1099], .null, []),
  (13, .aload_n 0, 1, [0], .null, []),
  (14, .invokevirtual 208, 3, [1, 154, 0, 2, 1257, 12, 0, 0, 0], .null, []),
  (17, .return_, 1, [], .null, [])]
abbrev kX12_goOn : Nat := 155
abbrev zq_m155 : zq_T := (yX12_goOn, cX12_goOn, 1, none, zq_c155, (0, 0), [1298, 95, 1297, 36])
def zq_c156 : List zq_I := [
  (0, .aload_n 0, 1, [0], .null, []),
  (1, .getfield 72, 3, [12, 15, 0, 48, 0, 1100], .null, []),
  (4, .iconst 2, 1, [], .int 2, []),
  (5, .if_icmp .ne 15, 3, [20], .null, []),
  (8, .aload_n 0, 1, [0], .null, []),
  (9, .getfield 75, 3, [12, 16, 0, 48, 0, 1101], .null, []),
  (12, .iload_n 1, 1, [1], .null, []),
  (13, .if_icmp .ne 7, 3, [20], .null, []),
  (16, .iconst 1, 1, [], .int 1, []),
  (17, .goto 4, 3, [21], .null, []),
  (20, .iconst 0, 1, [], .int 0, []),
  (21, .ireturn, 1, [], .null, [])]
abbrev kX12_isWord : Nat := 156
abbrev zq_m156 : zq_T := (yX12_isWord, cX12_isWord, 2, (some .boolean), zq_c156, (0, 0), [1294, 95, 1293, 35])
def zq_c157 : List zq_I := [
  (0, .iload_n 1, 1, [1], .null, []),
  (1, .sipush 1156, 3, [], .int 1156, []),
  (4, .if_icmp .eq 36, 3, [40], .null, []),
  (7, .iload_n 1, 1, [1], .null, []),
  (8, .ldc 211, 2, [0, 1285], .int 99724, []),
  (10, .if_icmp .eq 30, 3, [40], .null, []),
  (13, .iload_n 1, 1, [1], .null, []),
  (14, .ldc 212, 2, [0, 1286], .int 24627848, []),
  (16, .if_icmp .eq 24, 3, [40], .null, []),
  (19, .iload_n 1, 1, [1], .null, []),
  (20, .sipush 498, 3, [], .int 498, []),
  (23, .if_icmp .eq 17, 3, [40], .null, []),
  (26, .iload_n 1, 1, [1], .null, []),
  (27, .sipush 1476, 3, [], .int 1476, []),
  (30, .if_icmp .eq 10, 3, [40], .null, []),
  (33, .iload_n 1, 1, [1], .null, []),
  (34, .sipush 14836, 3, [], .int 14836, []),
  (37, .if_icmp .ne 7, 3, [44], .null, []),
  (40, .iconst 1, 1, [], .int 1, []),
  (41, .goto 4, 3, [45], .null, []),
  (44, .iconst 0, 1, [], .int 0, []),
  (45, .ireturn, 1, [], .null, [])]
abbrev kX12_isKey : Nat := 157
abbrev zq_m157 : zq_T := (yX12_isKey, cX12_isKey, 2, (some .boolean), zq_c157, (0, 0), [1284, 95, 1283, 33])
def zq_c158 : List zq_I := [
  (0, .iload_n 1, 1, [1], .null, []),
  (1, .ldc 213, 2, [0, 1277], .int 777297172, []),
  (3, .if_icmp .ne 7, 3, [10], .null, []),
  (6, .iconst 0, 1, [], .int 0, []),
  (7, .goto 56, 3, [63], .null, []),
  (10, .iload_n 1, 1, [1], .null, []),
  (11, .sipush 23732, 3, [], .int 23732, []),
  (14, .if_icmp .ne 7, 3, [21], .null, []),
  (17, .iconst 1, 1, [], .int 1, []),
  (18, .goto 45, 3, [63], .null, []),
  (21, .iload_n 1, 1, [1], .null, []),
  (22, .sipush 9317, 3, [], .int 9317, []),
  (25, .if_icmp .ne 7, 3, [32], .null, []),
  (28, .iconst 2, 1, [], .int 2, []),
  (29, .goto 34, 3, [63], .null, []),
  (32, .iload_n 1, 1, [1], .null, []),
  (33, .ldc 214, 2, [0, 1278], .int 763332, []),
  (35, .if_icmp .ne 7, 3, [42], .null, []),
  (38, .iconst 3, 1, [], .int 3, []),
  (39, .goto 24, 3, [63], .null, []),
  (42, .iload_n 1, 1, [1], .null, []),
  (43, .ldc 215, 2, [0, 1279], .int 492210354, []),
  (45, .if_icmp .ne 7, 3, [52], .null, []),
  (48, .iconst 4, 1, [], .int 4, []),
  (49, .goto 14, 3, [63], .null, []),
  (52, .iload_n 1, 1, [1], .null, []),
  (53, .ldc 216, 2, [0, 1280], .int 14982420, []),
  (55, .if_icmp .ne 7, 3, [62], .null, []),
  (58, .iconst 5, 1, [], .int 5, []),
  (59, .goto 4, 3, [63], .null, []),
  (62, .iconst (-1), 1, [], .int (-1), []),
  (63, .ireturn, 1, [], .null, [])]
abbrev kX12_nameOf : Nat := 158
abbrev zq_m158 : zq_T := (yX12_nameOf, cX12_nameOf, 2, (some .int), zq_c158, (0, 0), [1276, 95, 1275, 32])
def zq_c159 : List zq_I := [
  (0, .aload_n 0, 1, [0], .null, []),
  (1, .getfield 93, 3, [12, 22, 2, 48, 59, 1107], .null, []),
  (4, .aload_n 0, 1, [0], .null, []),
  (5, .getfield 87, 3, [12, 20, 0, 48, 0, 1105], .null, []),
  (8, .iload_n 1, 1, [1], .null, []),
  (9, .iastore, 1, [], .null, []),
  (10, .aload_n 0, 1, [0], .null, []),
  (11, .getfield 96, 3, [12, 23, 2, 48, 60, 1108], .null, []),
  (14, .aload_n 0, 1, [0], .null, []),
  (15, .getfield 87, 3, [12, 20, 0, 48, 0, 1105], .null, []),
  (18, .iload_n 2, 1, [2], .null, []),
  (19, .iastore, 1, [], .null, []),
  (20, .aload_n 0, 1, [0], .null, []),
  (21, .dup, 1, [], .null, []),
  (22, .getfield 87, 3, [12, 20, 0, 48, 0, 1105], .null, []),
  (25, .iconst 1, 1, [], .int 1, []),
  (26, .iadd, 1, [], .null, []),
  (27, .putfield 87, 3, [12, 20, 0, 48, 0, 1105], .null, []),
  (30, .return_, 1, [], .null, [])]
abbrev kX12_put : Nat := 159
abbrev zq_m159 : zq_T := (yX12_put, cX12_put, 3, none, zq_c159, (0, 0), [1318, 95, 1317, 41])
def zq_c160 : List zq_I := [
  (0, .aload_n 0, 1, [0], .null, []),
  (1, .getfield 84, 3, [12, 19, 0, 48, 0, 1104], .null, []),
  (4, .ifCond .le 17, 3, [21], .null, []),
  (7, .aload_n 0, 1, [0], .null, []),
  (8, .getfield 102, 3, [12, 25, 2, 48, 62, 1110], .null, []),
  (11, .aload_n 0, 1, [0], .null, []),
  (12, .getfield 84, 3, [12, 19, 0, 48, 0, 1104], .null, []),
  (15, .iconst 1, 1, [], .int 1, []),
  (16, .isub, 1, [], .null, []),
  (17, .iaload, 1, [], .null, []),
  (18, .goto 4, 3, [22], .null, []),
  (21, .iconst (-1), 1, [], .int (-1), []),
  (22, .ireturn, 1, [], .null, [])]
abbrev kX12_top : Nat := 160
abbrev zq_m160 : zq_T := (yX12_top, cX12_top, 1, (some .int), zq_c160, (0, 0), [1310, 95, 1309, 39])
def zq_c161 : List zq_I := [
  (0, .aload_n 0, 1, [0], .null, []),
  (1, .getfield 102, 3, [12, 25, 2, 48, 62, 1110], .null, []),
  (4, .aload_n 0, 1, [0], .null, []),
  (5, .getfield 84, 3, [12, 19, 0, 48, 0, 1104], .null, []),
  (8, .iload_n 1, 1, [1], .null, []),
  (9, .iastore, 1, [], .null, []),
  (10, .aload_n 0, 1, [0], .null, []),
  (11, .dup, 1, [], .null, []),
  (12, .getfield 84, 3, [12, 19, 0, 48, 0, 1104], .null, []),
  (15, .iconst 1, 1, [], .int 1, []),
  (16, .iadd, 1, [], .null, []),
  (17, .putfield 84, 3, [12, 19, 0, 48, 0, 1104], .null, []),
  (20, .return_, 1, [], .null, [])]
abbrev kX12_pushSign : Nat := 161
abbrev zq_m161 : zq_T := (yX12_pushSign, cX12_pushSign, 2, none, zq_c161, (0, 0), [1330, 95, 1329, 44])
def zq_c162 : List zq_I := [
  (0, .iload_n 1, 1, [1], .null, []),
  (1, .iconst 2, 1, [], .int 2, []),
  (2, .if_icmp .ne 7, 3, [9], .null, []),
  (5, .iconst 1, 1, [], .int 1, []),
  (6, .goto 75, 3, [81], .null, []),
  (9, .iload_n 1, 1, [1], .null, []),
  (10, .iconst 3, 1, [], .int 3, []),
  (11, .if_icmp .ne 7, 3, [18], .null, []),
  (14, .iconst 2, 1, [], .int 2, []),
  (15, .goto 66, 3, [81], .null, []),
  (18, .iload_n 1, 1, [1], .null, []),
  (19, .iconst 4, 1, [], .int 4, []),
  (20, .if_icmp .ne 7, 3, [27], .null, []),
  (23, .iconst 3, 1, [], .int 3, []),
  (24, .goto 57, 3, [81], .null, []),
  (27, .iload_n 1, 1, [1], .null, []),
  (28, .iconst 5, 1, [], .int 5, []),
  (29, .if_icmp .eq 9, 3, [38], .null, []),
  (32, .iload_n 1, 1, [1], .null, []),
  (33, .bipush 6, 2, [], .int 6, []),
  (35, .if_icmp .ne 7, 3, [42], .null, []),
  (38, .iconst 4, 1, [], .int 4, []),
  (39, .goto 42, 3, [81], .null, []),
  (42, .iload_n 1, 1, [1], .null, []),
  (43, .bipush 7, 2, [], .int 7, []),
  (45, .if_icmp .eq 9, 3, [54], .null, []),
  (48, .iload_n 1, 1, [1], .null, []),
  (49, .bipush 8, 2, [], .int 8, []),
  (51, .if_icmp .ne 7, 3, [58], .null, []),
  (54, .iconst 5, 1, [], .int 5, []),
  (55, .goto 26, 3, [81], .null, []),
  (58, .iload_n 1, 1, [1], .null, []),
  (59, .bipush 9, 2, [], .int 9, []),
  (61, .if_icmp .ne 8, 3, [69], .null, []),
  (64, .bipush 6, 2, [], .int 6, []),
  (66, .goto 15, 3, [81], .null, []),
  (69, .iload_n 1, 1, [1], .null, []),
  (70, .bipush 10, 2, [], .int 10, []),
  (72, .if_icmp .ne 8, 3, [80], .null, []),
  (75, .bipush 7, 2, [], .int 7, []),
  (77, .goto 4, 3, [81], .null, []),
  (80, .iconst 0, 1, [], .int 0, []),
  (81, .ireturn, 1, [], .null, [])]
abbrev kX12_strength : Nat := 162
abbrev zq_m162 : zq_T := (yX12_strength, cX12_strength, 2, (some .int), zq_c162, (0, 0), [1314, 95, 1313, 40])
def zq_c163 : List zq_I := [
  (0, .aload_n 0, 1, [0], .null, [true, true, false]),
  (1, .getfield 84, 3, [12, 19, 0, 48, 0, 1104], .null, []),
  (4, .ifCond .le 69, 3, [73], .null, []),
  (7, .aload_n 0, 1, [0], .null, []),
  (8, .aload_n 0, 1, [0], .null, []),
  (9, .invokevirtual 217, 3, [1, 160, 0, 1, 1307, 12, 1, 0, 0], .null, []),
  (12, .invokevirtual 221, 3, [1, 162, 1, 2, 1311, 12, 1, 0, 0], .null, []),
  (15, .iload_n 1, 1, [1], .null, []),
  (16, .if_icmp .lt 57, 3, [73], .null, []),
  (19, .aload_n 0, 1, [0], .null, []),
  (20, .dup, 1, [], .null, []),
  (21, .getfield 84, 3, [12, 19, 0, 48, 0, 1104], .null, []),
  (24, .iconst 1, 1, [], .int 1, []),
  (25, .isub, 1, [], .null, []),
  (26, .putfield 84, 3, [12, 19, 0, 48, 0, 1104], .null, []),
  (29, .aload_n 0, 1, [0], .null, []),
  (30, .getfield 102, 3, [12, 25, 2, 48, 62, 1110], .null, []),
  (33, .aload_n 0, 1, [0], .null, []),
  (34, .getfield 84, 3, [12, 19, 0, 48, 0, 1104], .null, []),
  (37, .iaload, 1, [], .null, []),
  (38, .istore_n 2, 1, [2], .null, []),
  (39, .aload_n 0, 1, [0], .null, []),
  (40, .dup, 1, [], .null, []),
  (41, .getfield 81, 3, [12, 18, 0, 48, 0, 1103], .null, []),
  (44, .iload_n 2, 1, [2], .null, []),
  (45, .iconst 4, 1, [], .int 4, []),
  (46, .if_icmp .eq 9, 3, [55], .null, []),
  (49, .iload_n 2, 1, [2], .null, []),
  (50, .bipush 10, 2, [], .int 10, []),
  (52, .if_icmp .ne 7, 3, [59], .null, []),
  (55, .iconst 1, 1, [], .int 1, []),
  (56, .goto 4, 3, [60], .null, []),
  (59, .iconst 0, 1, [], .int 0, []),
  (60, .isub, 1, [], .null, []),
  (61, .putfield 81, 3, [12, 18, 0, 48, 0, 1103], .null, []),
  (64, .aload_n 0, 1, [0], .null, []),
  (65, .iload_n 2, 1, [2], .null, []),
  (66, .iconst 0, 1, [], .int 0, []),
  (67, .invokevirtual 224, 3, [1, 159, 2, 3, 1315, 12, 0, 0, 0], .null, []),
  (70, .goto (-70), 3, [0], .null, []),
  (73, .return_, 1, [], .null, [])]
abbrev kX12_settle : Nat := 163
abbrev zq_m163 : zq_T := (yX12_settle, cX12_settle, 3, none, zq_c163, (0, 0), [1306, 95, 1305, 38])
def zq_c164 : List zq_I := [
  (0, .aload_n 0, 1, [0], .null, []),
  (1, .getfield 81, 3, [12, 18, 0, 48, 0, 1103], .null, []),
  (4, .iconst 5, 1, [], .int 5, []),
  (5, .if_icmp .ne 5, 3, [10], .null, []),
  (8, .iconst 0, 1, [], .int 0, []),
  (9, .ireturn, 1, [], .null, []),
  (10, .aload_n 0, 1, [0], .null, []),
  (11, .dup, 1, [], .null, []),
  (12, .getfield 81, 3, [12, 18, 0, 48, 0, 1103], .null, []),
  (15, .iconst 1, 1, [], .int 1, []),
  (16, .iadd, 1, [], .null, []),
  (17, .putfield 81, 3, [12, 18, 0, 48, 0, 1103], .null, []),
  (20, .aload_n 0, 1, [0], .null, []),
  (21, .iload_n 1, 1, [1], .null, []),
  (22, .invokevirtual 228, 3, [1, 161, 1, 2, 1327, 12, 0, 0, 0], .null, []),
  (25, .iconst 1, 1, [], .int 1, []),
  (26, .ireturn, 1, [], .null, [])]
abbrev kX12_opens : Nat := 164
abbrev zq_m164 : zq_T := (yX12_opens, cX12_opens, 2, (some .boolean), zq_c164, (0, 0), [1326, 95, 1325, 43])
def zq_c165 : List zq_I := [
  (0, .aload_n 0, 1, [0], .null, []),
  (1, .getfield 72, 3, [12, 15, 0, 48, 0, 1100], .null, []),
  (4, .iconst 1, 1, [], .int 1, []),
  (5, .if_icmp .eq 22, 3, [27], .null, []),
  (8, .aload_n 0, 1, [0], .null, []),
  (9, .getfield 72, 3, [12, 15, 0, 48, 0, 1100], .null, []),
  (12, .iconst 2, 1, [], .int 2, []),
  (13, .if_icmp .ne 62, 3, [75], .null, []),
  (16, .aload_n 0, 1, [0], .null, []),
  (17, .aload_n 0, 1, [0], .null, []),
  (18, .getfield 75, 3, [12, 16, 0, 48, 0, 1101], .null, []),
  (21, .invokevirtual 202, 3, [1, 158, 1, 2, 1273, 12, 1, 0, 0], .null, []),
  (24, .ifCond .lt 51, 3, [75], .null, []),
  (27, .aload_n 0, 1, [0], .null, [true, false]),
  (28, .aload_n 0, 1, [0], .null, []),
  (29, .getfield 72, 3, [12, 15, 0, 48, 0, 1100], .null, []),
  (32, .iconst 1, 1, [], .int 1, []),
  (33, .if_icmp .ne 7, 3, [40], .null, []),
  (36, .iconst 0, 1, [], .int 0, []),
  (37, .goto 4, 3, [41], .null, []),
  (40, .iconst 1, 1, [], .int 1, []),
  (41, .aload_n 0, 1, [0], .null, [true, false]),
  (42, .getfield 72, 3, [12, 15, 0, 48, 0, 1100], .null, []),
  (45, .iconst 1, 1, [], .int 1, []),
  (46, .if_icmp .ne 10, 3, [56], .null, []),
  (49, .aload_n 0, 1, [0], .null, []),
  (50, .getfield 75, 3, [12, 16, 0, 48, 0, 1101], .null, []),
  (53, .goto 11, 3, [64], .null, []),
  (56, .aload_n 0, 1, [0], .null, []),
  (57, .aload_n 0, 1, [0], .null, []),
  (58, .getfield 75, 3, [12, 16, 0, 48, 0, 1101], .null, []),
  (61, .invokevirtual 202, 3, [1, 158, 1, 2, 1273, 12, 1, 0, 0], .null, []),
  (64, .invokevirtual 224, 3, [1, 159, 2, 3, 1315, 12, 0, 0, 0], .null, [true, false]),
  (67, .aload_n 0, 1, [0], .null, []),
  (68, .bipush 7, 2, [], .int 7, []),
  (70, .invokevirtual 231, 3, [1, 163, 1, 3, 1303, 12, 0, 0, 0], .null, []),
  (73, .iconst 2, 1, [], .int 2, []),
  (74, .ireturn, 1, [], .null, []),
  (75, .aload_n 0, 1, [0], .null, [true, true]),
  (76, .getfield 72, 3, [12, 15, 0, 48, 0, 1100], .null, []),
  (79, .bipush 45, 2, [], .int 45, []),
  (81, .if_icmp .ne 18, 3, [99], .null, []),
  (84, .aload_n 0, 1, [0], .null, []),
  (85, .bipush 10, 2, [], .int 10, []),
  (87, .invokevirtual 234, 3, [1, 164, 1, 2, 1323, 12, 1, 0, 0], .null, []),
  (90, .ifCond .eq 7, 3, [97], .null, []),
  (93, .iconst 1, 1, [], .int 1, []),
  (94, .goto 4, 3, [98], .null, []),
  (97, .iconst 0, 1, [], .int 0, []),
  (98, .ireturn, 1, [], .null, []),
  (99, .aload_n 0, 1, [0], .null, []),
  (100, .getfield 72, 3, [12, 15, 0, 48, 0, 1100], .null, []),
  (103, .bipush 40, 2, [], .int 40, []),
  (105, .if_icmp .ne 18, 3, [123], .null, []),
  (108, .aload_n 0, 1, [0], .null, []),
  (109, .bipush 20, 2, [], .int 20, []),
  (111, .invokevirtual 234, 3, [1, 164, 1, 2, 1323, 12, 1, 0, 0], .null, []),
  (114, .ifCond .eq 7, 3, [121], .null, []),
  (117, .iconst 1, 1, [], .int 1, []),
  (118, .goto 4, 3, [122], .null, []),
  (121, .iconst 0, 1, [], .int 0, []),
  (122, .ireturn, 1, [], .null, []),
  (123, .aload_n 0, 1, [0], .null, []),
  (124, .sipush 14836, 3, [], .int 14836, []),
  (127, .invokevirtual 237, 3, [1, 156, 1, 2, 1291, 12, 1, 0, 0], .null, []),
  (130, .ifCond .eq 19, 3, [149], .null, []),
  (133, .iload_n 1, 1, [1], .null, []),
  (134, .ifCond .eq 15, 3, [149], .null, []),
  (137, .aload_n 0, 1, [0], .null, []),
  (138, .iconst 4, 1, [], .int 4, []),
  (139, .invokevirtual 234, 3, [1, 164, 1, 2, 1323, 12, 1, 0, 0], .null, []),
  (142, .ifCond .eq 7, 3, [149], .null, []),
  (145, .iconst 1, 1, [], .int 1, []),
  (146, .goto 4, 3, [150], .null, []),
  (149, .iconst 0, 1, [], .int 0, []),
  (150, .ireturn, 1, [], .null, [])]
abbrev kX12_takesOne : Nat := 165
abbrev zq_m165 : zq_T := (yX12_takesOne, cX12_takesOne, 2, (some .int), zq_c165, (0, 0), [1322, 95, 1321, 42])
def zq_c166 : List zq_I := [
  (0, .aload_n 0, 1, [0], .null, []),
  (1, .getfield 72, 3, [12, 15, 0, 48, 0, 1100], .null, []),
  (4, .bipush 42, 2, [], .int 42, []),
  (6, .if_icmp .ne 8, 3, [14], .null, []),
  (9, .bipush 9, 2, [], .int 9, []),
  (11, .goto 87, 3, [98], .null, []),
  (14, .aload_n 0, 1, [0], .null, []),
  (15, .getfield 72, 3, [12, 15, 0, 48, 0, 1100], .null, []),
  (18, .bipush 43, 2, [], .int 43, []),
  (20, .if_icmp .ne 8, 3, [28], .null, []),
  (23, .bipush 7, 2, [], .int 7, []),
  (25, .goto 73, 3, [98], .null, []),
  (28, .aload_n 0, 1, [0], .null, []),
  (29, .getfield 72, 3, [12, 15, 0, 48, 0, 1100], .null, []),
  (32, .bipush 45, 2, [], .int 45, []),
  (34, .if_icmp .ne 8, 3, [42], .null, []),
  (37, .bipush 8, 2, [], .int 8, []),
  (39, .goto 59, 3, [98], .null, []),
  (42, .aload_n 0, 1, [0], .null, []),
  (43, .getfield 72, 3, [12, 15, 0, 48, 0, 1100], .null, []),
  (46, .bipush 60, 2, [], .int 60, []),
  (48, .if_icmp .ne 7, 3, [55], .null, []),
  (51, .iconst 5, 1, [], .int 5, []),
  (52, .goto 46, 3, [98], .null, []),
  (55, .aload_n 0, 1, [0], .null, []),
  (56, .getfield 72, 3, [12, 15, 0, 48, 0, 1100], .null, []),
  (59, .bipush 61, 2, [], .int 61, []),
  (61, .if_icmp .ne 8, 3, [69], .null, []),
  (64, .bipush 6, 2, [], .int 6, []),
  (66, .goto 32, 3, [98], .null, []),
  (69, .aload_n 0, 1, [0], .null, []),
  (70, .sipush 1476, 3, [], .int 1476, []),
  (73, .invokevirtual 237, 3, [1, 156, 1, 2, 1291, 12, 1, 0, 0], .null, []),
  (76, .ifCond .eq 7, 3, [83], .null, []),
  (79, .iconst 3, 1, [], .int 3, []),
  (80, .goto 18, 3, [98], .null, []),
  (83, .aload_n 0, 1, [0], .null, []),
  (84, .sipush 498, 3, [], .int 498, []),
  (87, .invokevirtual 237, 3, [1, 156, 1, 2, 1291, 12, 1, 0, 0], .null, []),
  (90, .ifCond .eq 7, 3, [97], .null, []),
  (93, .iconst 2, 1, [], .int 2, []),
  (94, .goto 4, 3, [98], .null, []),
  (97, .iconst (-1), 1, [], .int (-1), []),
  (98, .istore_n 1, 1, [1], .null, [true, false]),
  (99, .iload_n 1, 1, [1], .null, []),
  (100, .ifCond .lt 59, 3, [159], .null, []),
  (103, .aload_n 0, 1, [0], .null, []),
  (104, .iload_n 1, 1, [1], .null, []),
  (105, .iconst 5, 1, [], .int 5, []),
  (106, .if_icmp .eq 9, 3, [115], .null, []),
  (109, .iload_n 1, 1, [1], .null, []),
  (110, .bipush 6, 2, [], .int 6, []),
  (112, .if_icmp .ne 7, 3, [119], .null, []),
  (115, .iconst 5, 1, [], .int 5, []),
  (116, .goto 8, 3, [124], .null, []),
  (119, .aload_n 0, 1, [0], .null, []),
  (120, .iload_n 1, 1, [1], .null, []),
  (121, .invokevirtual 221, 3, [1, 162, 1, 2, 1311, 12, 1, 0, 0], .null, []),
  (124, .invokevirtual 231, 3, [1, 163, 1, 3, 1303, 12, 0, 0, 0], .null, [true, true]),
  (127, .iload_n 1, 1, [1], .null, []),
  (128, .iconst 5, 1, [], .int 5, []),
  (129, .if_icmp .eq 9, 3, [138], .null, []),
  (132, .iload_n 1, 1, [1], .null, []),
  (133, .bipush 6, 2, [], .int 6, []),
  (135, .if_icmp .ne 17, 3, [152], .null, []),
  (138, .aload_n 0, 1, [0], .null, [true, true]),
  (139, .aload_n 0, 1, [0], .null, []),
  (140, .invokevirtual 217, 3, [1, 160, 0, 1, 1307, 12, 1, 0, 0], .null, []),
  (143, .invokevirtual 221, 3, [1, 162, 1, 2, 1311, 12, 1, 0, 0], .null, []),
  (146, .iconst 4, 1, [], .int 4, []),
  (147, .if_icmp .ne 5, 3, [152], .null, []),
  (150, .iconst 0, 1, [], .int 0, []),
  (151, .ireturn, 1, [], .null, []),
  (152, .aload_n 0, 1, [0], .null, [true, true]),
  (153, .iload_n 1, 1, [1], .null, []),
  (154, .invokevirtual 228, 3, [1, 161, 1, 2, 1327, 12, 0, 0, 0], .null, []),
  (157, .iconst 1, 1, [], .int 1, []),
  (158, .ireturn, 1, [], .null, []),
  (159, .aload_n 0, 1, [0], .null, []),
  (160, .getfield 72, 3, [12, 15, 0, 48, 0, 1100], .null, []),
  (163, .bipush 41, 2, [], .int 41, []),
  (165, .if_icmp .eq 5, 3, [170], .null, []),
  (168, .iconst 0, 1, [], .int 0, []),
  (169, .ireturn, 1, [], .null, []),
  (170, .aload_n 0, 1, [0], .null, []),
  (171, .iconst 1, 1, [], .int 1, []),
  (172, .invokevirtual 231, 3, [1, 163, 1, 3, 1303, 12, 0, 0, 0], .null, []),
  (175, .aload_n 0, 1, [0], .null, []),
  (176, .invokevirtual 217, 3, [1, 160, 0, 1, 1307, 12, 1, 0, 0], .null, []),
  (179, .bipush 20, 2, [], .int 20, []),
  (181, .if_icmp .eq 5, 3, [186], .null, []),
  (184, .iconst 0, 1, [], .int 0, []),
  (185, .ireturn, 1, [], .null, []),
  (186, .aload_n 0, 1, [0], .null, []),
  (187, .dup, 1, [], .null, []),
  (188, .getfield 84, 3, [12, 19, 0, 48, 0, 1104], .null, []),
  (191, .iconst 1, 1, [], .int 1, []),
  (192, .isub, 1, [], .null, []),
  (193, .putfield 84, 3, [12, 19, 0, 48, 0, 1104], .null, []),
  (196, .aload_n 0, 1, [0], .null, []),
  (197, .dup, 1, [], .null, []),
  (198, .getfield 81, 3, [12, 18, 0, 48, 0, 1103], .null, []),
  (201, .iconst 1, 1, [], .int 1, []),
  (202, .isub, 1, [], .null, []),
  (203, .putfield 81, 3, [12, 18, 0, 48, 0, 1103], .null, []),
  (206, .aload_n 0, 1, [0], .null, []),
  (207, .bipush 7, 2, [], .int 7, []),
  (209, .invokevirtual 231, 3, [1, 163, 1, 3, 1303, 12, 0, 0, 0], .null, []),
  (212, .iconst 2, 1, [], .int 2, []),
  (213, .ireturn, 1, [], .null, [])]
abbrev kX12_takesSign : Nat := 166
abbrev zq_m166 : zq_T := (yX12_takesSign, cX12_takesSign, 2, (some .int), zq_c166, (0, 0), [1334, 95, 1333, 45])
def zq_c167 : List zq_I := [
  (0, .aload_n 0, 1, [0], .null, []),
  (1, .iload_n 1, 1, [1], .null, []),
  (2, .putfield 87, 3, [12, 20, 0, 48, 0, 1105], .null, []),
  (5, .aload_n 0, 1, [0], .null, []),
  (6, .iconst 0, 1, [], .int 0, []),
  (7, .putfield 84, 3, [12, 19, 0, 48, 0, 1104], .null, []),
  (10, .aload_n 0, 1, [0], .null, []),
  (11, .iconst 0, 1, [], .int 0, []),
  (12, .putfield 81, 3, [12, 18, 0, 48, 0, 1103], .null, []),
  (15, .iconst 1, 1, [], .int 1, []),
  (16, .istore_n 2, 1, [2], .null, []),
  (17, .iconst 1, 1, [], .int 1, []),
  (18, .istore_n 3, 1, [3], .null, []),
  (19, .iload_n 2, 1, [2], .null, [true, false, true, true, false, false, false, false]),
  (20, .ifCond .ne 55, 3, [75], .null, []),
  (23, .aload_n 0, 1, [0], .null, []),
  (24, .getfield 72, 3, [12, 15, 0, 48, 0, 1100], .null, []),
  (27, .bipush 41, 2, [], .int 41, []),
  (29, .if_icmp .eq 46, 3, [75], .null, []),
  (32, .aload_n 0, 1, [0], .null, []),
  (33, .getfield 72, 3, [12, 15, 0, 48, 0, 1100], .null, []),
  (36, .bipush 59, 2, [], .int 59, []),
  (38, .if_icmp .eq 10, 3, [48], .null, []),
  (41, .aload_n 0, 1, [0], .null, []),
  (42, .getfield 72, 3, [12, 15, 0, 48, 0, 1100], .null, []),
  (45, .ifCond .ge 30, 3, [75], .null, []),
  (48, .aload_n 0, 1, [0], .null, []),
  (49, .iconst 1, 1, [], .int 1, []),
  (50, .invokevirtual 231, 3, [1, 163, 1, 3, 1303, 12, 0, 0, 0], .null, []),
  (53, .aload_n 0, 1, [0], .null, []),
  (54, .getfield 84, 3, [12, 19, 0, 48, 0, 1104], .null, []),
  (57, .ifCond .ne 16, 3, [73], .null, []),
  (60, .aload_n 0, 1, [0], .null, []),
  (61, .getfield 72, 3, [12, 15, 0, 48, 0, 1100], .null, []),
  (64, .bipush 59, 2, [], .int 59, []),
  (66, .if_icmp .ne 7, 3, [73], .null, []),
  (69, .iconst 1, 1, [], .int 1, []),
  (70, .goto 4, 3, [74], .null, []),
  (73, .iconst 0, 1, [], .int 0, []),
  (74, .ireturn, 1, [], .null, []),
  (75, .aload_n 0, 1, [0], .null, [true, false, true, true, false, false, false, false]),
  (76, .sipush 14836, 3, [], .int 14836, []),
  (79, .invokevirtual 237, 3, [1, 156, 1, 2, 1291, 12, 1, 0, 0], .null, []),
  (82, .istore 4, 2, [4], .null, []),
  (84, .aload_n 0, 1, [0], .null, []),
  (85, .getfield 72, 3, [12, 15, 0, 48, 0, 1100], .null, []),
  (88, .bipush 40, 2, [], .int 40, []),
  (90, .if_icmp .ne 7, 3, [97], .null, []),
  (93, .iconst 1, 1, [], .int 1, []),
  (94, .goto 4, 3, [98], .null, []),
  (97, .iconst 0, 1, [], .int 0, []),
  (98, .istore 5, 2, [5], .null, [true, false, true, true, true, false, false, false]),
  (100, .aload_n 0, 1, [0], .null, []),
  (101, .getfield 72, 3, [12, 15, 0, 48, 0, 1100], .null, []),
  (104, .iconst 2, 1, [], .int 2, []),
  (105, .if_icmp .ne 7, 3, [112], .null, []),
  (108, .iconst 1, 1, [], .int 1, []),
  (109, .goto 4, 3, [113], .null, []),
  (112, .iconst 0, 1, [], .int 0, []),
  (113, .istore 6, 2, [6], .null, [true, false, true, true, true, true, false, false]),
  (115, .iload_n 2, 1, [2], .null, []),
  (116, .ifCond .eq 11, 3, [127], .null, []),
  (119, .aload_n 0, 1, [0], .null, []),
  (120, .iload_n 3, 1, [3], .null, []),
  (121, .invokevirtual 240, 3, [1, 165, 1, 2, 1319, 12, 1, 0, 0], .null, []),
  (124, .goto 7, 3, [131], .null, []),
  (127, .aload_n 0, 1, [0], .null, []),
  (128, .invokevirtual 244, 3, [1, 166, 0, 2, 1331, 12, 1, 0, 0], .null, []),
  (131, .istore 7, 2, [7], .null, [true, false, true, false, true, true, true, false]),
  (133, .iload 7, 2, [7], .null, []),
  (135, .ifCond .ne 5, 3, [140], .null, []),
  (138, .iconst 0, 1, [], .int 0, []),
  (139, .ireturn, 1, [], .null, []),
  (140, .iload_n 2, 1, [2], .null, []),
  (141, .ifCond .eq 21, 3, [162], .null, []),
  (144, .iload 4, 2, [4], .null, []),
  (146, .ifCond .ne 8, 3, [154], .null, []),
  (149, .iload 5, 2, [5], .null, []),
  (151, .ifCond .eq 7, 3, [158], .null, []),
  (154, .iconst 1, 1, [], .int 1, []),
  (155, .goto 9, 3, [164], .null, []),
  (158, .iconst 0, 1, [], .int 0, []),
  (159, .goto 5, 3, [164], .null, []),
  (162, .iload 6, 2, [6], .null, []),
  (164, .istore_n 3, 1, [3], .null, [true, false, false, false, false, false, false, true]),
  (165, .iload 7, 2, [7], .null, []),
  (167, .iconst 1, 1, [], .int 1, []),
  (168, .if_icmp .ne 7, 3, [175], .null, []),
  (171, .iconst 1, 1, [], .int 1, []),
  (172, .goto 4, 3, [176], .null, []),
  (175, .iconst 0, 1, [], .int 0, []),
  (176, .istore_n 2, 1, [2], .null, [true, false, false, true, false, false, false, false]),
  (177, .aload_n 0, 1, [0], .null, []),
  (178, .invokevirtual 247, 3, [1, 155, 0, 1, 1295, 12, 0, 0, 0], .null, []),
  (181, .goto (-162), 3, [19], .null, [])]
abbrev kX12_takesE : Nat := 167
abbrev zq_m167 : zq_T := (yX12_takesE, cX12_takesE, 8, (some .boolean), zq_c167, (0, 0), [1302, 95, 1301, 37])
def zq_c168 : List zq_I := [
  (0, .aload_n 0, 1, [0], .null, []),
  (1, .iload_n 3, 1, [3], .null, []),
  (2, .invokevirtual 237, 3, [1, 156, 1, 2, 1291, 12, 1, 0, 0], .null, []),
  (5, .ifCond .ne 5, 3, [10], .null, []),
  (8, .iconst 0, 1, [], .int 0, []),
  (9, .ireturn, 1, [], .null, []),
  (10, .aload_n 0, 1, [0], .null, []),
  (11, .invokevirtual 247, 3, [1, 155, 0, 1, 1295, 12, 0, 0, 0], .null, []),
  (14, .sipush 480, 3, [], .int 480, []),
  (17, .iload_n 1, 1, [1], .null, []),
  (18, .imul, 1, [], .null, []),
  (19, .sipush 160, 3, [], .int 160, []),
  (22, .iload_n 2, 1, [2], .null, []),
  (23, .imul, 1, [], .null, []),
  (24, .iadd, 1, [], .null, []),
  (25, .istore 4, 2, [4], .null, []),
  (27, .aload_n 0, 1, [0], .null, []),
  (28, .iload 4, 2, [4], .null, []),
  (30, .invokevirtual 250, 3, [1, 167, 1, 8, 1299, 12, 1, 0, 0], .null, []),
  (33, .ifCond .ne 5, 3, [38], .null, []),
  (36, .iconst 0, 1, [], .int 0, []),
  (37, .ireturn, 1, [], .null, []),
  (38, .aload_n 0, 1, [0], .null, []),
  (39, .getfield 99, 3, [12, 24, 2, 48, 61, 1109], .null, []),
  (42, .iconst 3, 1, [], .int 3, []),
  (43, .iload_n 1, 1, [1], .null, []),
  (44, .imul, 1, [], .null, []),
  (45, .iload_n 2, 1, [2], .null, []),
  (46, .iadd, 1, [], .null, []),
  (47, .aload_n 0, 1, [0], .null, []),
  (48, .getfield 87, 3, [12, 20, 0, 48, 0, 1105], .null, []),
  (51, .iload 4, 2, [4], .null, []),
  (53, .isub, 1, [], .null, []),
  (54, .iastore, 1, [], .null, []),
  (55, .aload_n 0, 1, [0], .null, []),
  (56, .invokevirtual 247, 3, [1, 155, 0, 1, 1295, 12, 0, 0, 0], .null, []),
  (59, .iconst 1, 1, [], .int 1, []),
  (60, .ireturn, 1, [], .null, [])]
abbrev kX12_takesPart : Nat := 168
abbrev zq_m168 : zq_T := (yX12_takesPart, cX12_takesPart, 5, (some .boolean), zq_c168, (0, 0), [1290, 95, 1289, 34])
def zq_c169 : List zq_I := [
  (0, .aload_n 0, 1, [0], .null, []),
  (1, .getfield 60, 3, [12, 11, 0, 48, 0, 1096], .null, []),
  (4, .bipush 6, 2, [], .int 6, []),
  (6, .if_icmp .ne 6, 3, [12], .null, []),
  (9, .bipush (-4), 2, [], .int (-4), []),
  (11, .ireturn, 1, [], .null, []),
  (12, .aload_n 0, 1, [0], .null, []),
  (13, .iconst 0, 1, [], .int 0, []),
  (14, .putfield 69, 3, [12, 14, 0, 48, 0, 1099], .null, []),
  (17, .aload_n 0, 1, [0], .null, []),
  (18, .invokevirtual 208, 3, [1, 154, 0, 2, 1257, 12, 0, 0, 0], .null, []),
  (21, .aload_n 0, 1, [0], .null, []),
  (22, .aload_n 0, 1, [0], .null, []),
  (23, .getfield 60, 3, [12, 11, 0, 48, 0, 1096], .null, []),
  (26, .iconst 0, 1, [], .int 0, []),
  (27, .sipush 1156, 3, [], .int 1156, []),
  (30, .invokevirtual 253, 3, [1, 168, 3, 5, 1287, 12, 1, 0, 0], .null, []),
  (33, .ifCond .eq 43, 3, [76], .null, []),
  (36, .aload_n 0, 1, [0], .null, []),
  (37, .aload_n 0, 1, [0], .null, []),
  (38, .getfield 60, 3, [12, 11, 0, 48, 0, 1096], .null, []),
  (41, .iconst 1, 1, [], .int 1, []),
  (42, .ldc 211, 2, [0, 1285], .int 99724, []),
  (44, .invokevirtual 253, 3, [1, 168, 3, 5, 1287, 12, 1, 0, 0], .null, []),
  (47, .ifCond .eq 29, 3, [76], .null, []),
  (50, .aload_n 0, 1, [0], .null, []),
  (51, .aload_n 0, 1, [0], .null, []),
  (52, .getfield 60, 3, [12, 11, 0, 48, 0, 1096], .null, []),
  (55, .iconst 2, 1, [], .int 2, []),
  (56, .ldc 212, 2, [0, 1286], .int 24627848, []),
  (58, .invokevirtual 253, 3, [1, 168, 3, 5, 1287, 12, 1, 0, 0], .null, []),
  (61, .ifCond .eq 15, 3, [76], .null, []),
  (64, .aload_n 0, 1, [0], .null, []),
  (65, .getfield 72, 3, [12, 15, 0, 48, 0, 1100], .null, []),
  (68, .iconst (-1), 1, [], .int (-1), []),
  (69, .if_icmp .ne 7, 3, [76], .null, []),
  (72, .iconst 1, 1, [], .int 1, []),
  (73, .goto 4, 3, [77], .null, []),
  (76, .iconst 0, 1, [], .int 0, []),
  (77, .istore_n 1, 1, [1], .null, []),
  (78, .aload_n 0, 1, [0], .null, []),
  (79, .iconst 0, 1, [], .int 0, []),
  (80, .putfield 66, 3, [12, 13, 0, 48, 0, 1098], .null, []),
  (83, .iload_n 1, 1, [1], .null, []),
  (84, .ifCond .ne 11, 3, [95], .null, []),
  (87, .bipush (-100), 2, [], .int (-100), []),
  (89, .aload_n 0, 1, [0], .null, []),
  (90, .getfield 69, 3, [12, 14, 0, 48, 0, 1099], .null, []),
  (93, .isub, 1, [], .null, []),
  (94, .ireturn, 1, [], .null, []),
  (95, .aload_n 0, 1, [0], .null, []),
  (96, .dup, 1, [], .null, []),
  (97, .getfield 60, 3, [12, 11, 0, 48, 0, 1096], .null, []),
  (100, .iconst 1, 1, [], .int 1, []),
  (101, .iadd, 1, [], .null, []),
  (102, .putfield 60, 3, [12, 11, 0, 48, 0, 1096], .null, []),
  (105, .aload_n 0, 1, [0], .null, []),
  (106, .getfield 60, 3, [12, 11, 0, 48, 0, 1096], .null, []),
  (109, .iconst 1, 1, [], .int 1, []),
  (110, .isub, 1, [], .null, []),
  (111, .ireturn, 1, [], .null, [])]
abbrev kX12_text : Nat := 169
abbrev zq_m169 : zq_T := (yX12_text, cX12_text, 2, (some .int), zq_c169, (0, 0), [1256, 95, 1254, 1255])
def zq_c170 : List zq_I := [
  (0, .aload_n 0, 1, [0], .null, []),
  (1, .iload_n 1, 1, [1], .null, []),
  (2, .iconst 0, 1, [], .int 0, []),
  (3, .aload_n 0, 1, [0], .null, []),
  (4, .getfield 60, 3, [12, 11, 0, 48, 0, 1096], .null, []),
  (7, .iconst 1, 1, [], .int 1, []),
  (8, .isub, 1, [], .null, []),
  (9, .invokevirtual 7, 3, [1, 139, 3, 4, 1050, 12, 1, 0, 0], .null, []),
  (12, .ifCond .ne 6, 3, [18], .null, []),
  (15, .bipush (-2), 2, [], .int (-2), []),
  (17, .ireturn, 1, [], .null, []),
  (18, .aload_n 0, 1, [0], .null, []),
  (19, .getfield 63, 3, [12, 12, 0, 48, 0, 1097], .null, []),
  (22, .istore_n 2, 1, [2], .null, []),
  (23, .aload_n 0, 1, [0], .null, []),
  (24, .iload_n 1, 1, [1], .null, []),
  (25, .putfield 63, 3, [12, 12, 0, 48, 0, 1097], .null, []),
  (28, .iload_n 2, 1, [2], .null, []),
  (29, .ireturn, 1, [], .null, [])]
abbrev kX12_force : Nat := 170
abbrev zq_m170 : zq_T := (yX12_force, cX12_force, 3, (some .int), zq_c170, (0, 0), [1338, 95, 1336, 1337])
end
section
def zq_c171 : List zq_I := [
  (0, .iload_n 1, 1, [1], .null, []),
  (1, .tableswitch 74 0 4 #[35, 37, 44, 51, 57], 35, [75, 36, 38, 45, 52, 58], .null, []),
  (36, .iload_n 2, 1, [2], .null, []),
  (37, .ireturn, 1, [], .null, []),
  (38, .aload_n 0, 1, [0], .null, []),
  (39, .getfield 25, 3, [12, 5, 2, 48, 52, 1090], .null, []),
  (42, .iload_n 3, 1, [3], .null, []),
  (43, .iaload, 1, [], .null, []),
  (44, .ireturn, 1, [], .null, []),
  (45, .aload_n 0, 1, [0], .null, []),
  (46, .getfield 28, 3, [12, 6, 2, 48, 53, 1091], .null, []),
  (49, .iload_n 3, 1, [3], .null, []),
  (50, .iaload, 1, [], .null, []),
  (51, .ireturn, 1, [], .null, []),
  (52, .aload_n 0, 1, [0], .null, []),
  (53, .iload_n 3, 1, [3], .null, []),
  (54, .invokevirtual 256, 3, [1, 174, 1, 2, 1367, 12, 1, 0, 0], .null, []),
  (57, .ireturn, 1, [], .null, []),
  (58, .iload 4, 2, [4], .null, []),
  (60, .ifCond .ge 7, 3, [67], .null, []),
  (63, .iconst 0, 1, [], .int 0, []),
  (64, .goto 10, 3, [74], .null, []),
  (67, .aload_n 0, 1, [0], .null, []),
  (68, .getfield 48, 3, [12, 10, 2, 48, 57, 1095], .null, []),
  (71, .iload 4, 2, [4], .null, []),
  (73, .iaload, 1, [], .null, []),
  (74, .ireturn, 1, [], .null, []),
  (75, .iload_n 3, 1, [3], .null, []),
  (76, .ireturn, 1, [], .null, [])]
abbrev kX12_nameValue : Nat := 171
abbrev zq_m171 : zq_T := (yX12_nameValue, cX12_nameValue, 5, (some .int), zq_c171, (0, 0), [1378, 95, 1377, 54])
def zq_c172 : List zq_I := [
  (0, .iload_n 1, 1, [1], .null, []),
  (1, .tableswitch 101 2 8 #[43, 57, 101, 71, 82, 93, 97], 43, [102, 44, 58, 102, 72, 83, 94, 98], .null, []),
  (44, .iload_n 2, 1, [2], .null, []),
  (45, .ifCond .ne 7, 3, [52], .null, []),
  (48, .iload_n 3, 1, [3], .null, []),
  (49, .ifCond .eq 7, 3, [56], .null, []),
  (52, .iconst 1, 1, [], .int 1, []),
  (53, .goto 4, 3, [57], .null, []),
  (56, .iconst 0, 1, [], .int 0, []),
  (57, .ireturn, 1, [], .null, []),
  (58, .iload_n 2, 1, [2], .null, []),
  (59, .ifCond .eq 11, 3, [70], .null, []),
  (62, .iload_n 3, 1, [3], .null, []),
  (63, .ifCond .eq 7, 3, [70], .null, []),
  (66, .iconst 1, 1, [], .int 1, []),
  (67, .goto 4, 3, [71], .null, []),
  (70, .iconst 0, 1, [], .int 0, []),
  (71, .ireturn, 1, [], .null, []),
  (72, .iload_n 2, 1, [2], .null, []),
  (73, .iload_n 3, 1, [3], .null, []),
  (74, .if_icmp .ge 7, 3, [81], .null, []),
  (77, .iconst 1, 1, [], .int 1, []),
  (78, .goto 4, 3, [82], .null, []),
  (81, .iconst 0, 1, [], .int 0, []),
  (82, .ireturn, 1, [], .null, []),
  (83, .iload_n 2, 1, [2], .null, []),
  (84, .iload_n 3, 1, [3], .null, []),
  (85, .if_icmp .ne 7, 3, [92], .null, []),
  (88, .iconst 1, 1, [], .int 1, []),
  (89, .goto 4, 3, [93], .null, []),
  (92, .iconst 0, 1, [], .int 0, []),
  (93, .ireturn, 1, [], .null, []),
  (94, .iload_n 2, 1, [2], .null, []),
  (95, .iload_n 3, 1, [3], .null, []),
  (96, .iadd, 1, [], .null, []),
  (97, .ireturn, 1, [], .null, []),
  (98, .iload_n 2, 1, [2], .null, []),
  (99, .iload_n 3, 1, [3], .null, []),
  (100, .isub, 1, [], .null, []),
  (101, .ireturn, 1, [], .null, []),
  (102, .iload_n 2, 1, [2], .null, []),
  (103, .iload_n 3, 1, [3], .null, []),
  (104, .imul, 1, [], .null, []),
  (105, .ireturn, 1, [], .null, [])]
abbrev kX12_done : Nat := 172
abbrev zq_m172 : zq_T := (yX12_done, cX12_done, 4, (some .int), zq_c172, (0, 0), [1382, 95, 1381, 55])
def zq_c173 : List zq_I := [
  (0, .sipush 480, 3, [], .int 480, []),
  (3, .aload_n 0, 1, [0], .null, []),
  (4, .getfield 63, 3, [12, 12, 0, 48, 0, 1097], .null, []),
  (7, .imul, 1, [], .null, []),
  (8, .sipush 160, 3, [], .int 160, []),
  (11, .iload_n 1, 1, [1], .null, []),
  (12, .imul, 1, [], .null, []),
  (13, .iadd, 1, [], .null, []),
  (14, .istore 5, 2, [5], .null, []),
  (16, .iconst 0, 1, [], .int 0, []),
  (17, .istore 6, 2, [6], .null, []),
  (19, .iload 5, 2, [5], .null, []),
  (21, .istore 7, 2, [7], .null, []),
  (23, .iload 7, 2, [7], .null, [true, true, true, true, true, true, true, true, false]),
  (25, .iload 5, 2, [5], .null, []),
  (27, .aload_n 0, 1, [0], .null, []),
  (28, .getfield 99, 3, [12, 24, 2, 48, 61, 1109], .null, []),
  (31, .iconst 3, 1, [], .int 3, []),
  (32, .aload_n 0, 1, [0], .null, []),
  (33, .getfield 63, 3, [12, 12, 0, 48, 0, 1097], .null, []),
  (36, .imul, 1, [], .null, []),
  (37, .iload_n 1, 1, [1], .null, []),
  (38, .iadd, 1, [], .null, []),
  (39, .iaload, 1, [], .null, []),
  (40, .iadd, 1, [], .null, []),
  (41, .if_icmp .ge 168, 3, [209], .null, []),
  (44, .aload_n 0, 1, [0], .null, []),
  (45, .getfield 93, 3, [12, 22, 2, 48, 59, 1107], .null, []),
  (48, .iload 7, 2, [7], .null, []),
  (50, .iaload, 1, [], .null, []),
  (51, .istore 8, 2, [8], .null, []),
  (53, .iload 8, 2, [8], .null, []),
  (55, .ifCond .eq 9, 3, [64], .null, []),
  (58, .iload 8, 2, [8], .null, []),
  (60, .iconst 1, 1, [], .int 1, []),
  (61, .if_icmp .ne 46, 3, [107], .null, []),
  (64, .aload_n 0, 1, [0], .null, []),
  (65, .getfield 105, 3, [12, 26, 2, 48, 63, 1111], .null, []),
  (68, .iload 6, 2, [6], .null, []),
  (70, .iload 8, 2, [8], .null, []),
  (72, .ifCond .ne 13, 3, [85], .null, []),
  (75, .aload_n 0, 1, [0], .null, []),
  (76, .getfield 96, 3, [12, 23, 2, 48, 60, 1108], .null, []),
  (79, .iload 7, 2, [7], .null, []),
  (81, .iaload, 1, [], .null, []),
  (82, .goto 18, 3, [100], .null, []),
  (85, .aload_n 0, 1, [0], .null, []),
  (86, .aload_n 0, 1, [0], .null, []),
  (87, .getfield 96, 3, [12, 23, 2, 48, 60, 1108], .null, []),
  (90, .iload 7, 2, [7], .null, []),
  (92, .iaload, 1, [], .null, []),
  (93, .iload_n 2, 1, [2], .null, []),
  (94, .iload_n 3, 1, [3], .null, []),
  (95, .iload 4, 2, [4], .null, []),
  (97, .invokevirtual 259, 3, [1, 171, 4, 5, 1375, 12, 1, 0, 0], .null, []),
  (100, .iastore, 1, [], .null, []),
  (101, .iinc 6 1, 3, [6], .int 1, []),
  (104, .goto 99, 3, [203], .null, []),
  (107, .iload 8, 2, [8], .null, []),
  (109, .iconst 4, 1, [], .int 4, []),
  (110, .if_icmp .eq 10, 3, [120], .null, []),
  (113, .iload 8, 2, [8], .null, []),
  (115, .bipush 10, 2, [], .int 10, []),
  (117, .if_icmp .ne 52, 3, [169], .null, []),
  (120, .aload_n 0, 1, [0], .null, []),
  (121, .getfield 105, 3, [12, 26, 2, 48, 63, 1111], .null, []),
  (124, .iload 6, 2, [6], .null, []),
  (126, .iconst 1, 1, [], .int 1, []),
  (127, .isub, 1, [], .null, []),
  (128, .iload 8, 2, [8], .null, []),
  (130, .bipush 10, 2, [], .int 10, []),
  (132, .if_icmp .ne 16, 3, [148], .null, []),
  (135, .aload_n 0, 1, [0], .null, []),
  (136, .getfield 105, 3, [12, 26, 2, 48, 63, 1111], .null, []),
  (139, .iload 6, 2, [6], .null, []),
  (141, .iconst 1, 1, [], .int 1, []),
  (142, .isub, 1, [], .null, []),
  (143, .iaload, 1, [], .null, []),
  (144, .ineg, 1, [], .null, []),
  (145, .goto 20, 3, [165], .null, []),
  (148, .aload_n 0, 1, [0], .null, []),
  (149, .getfield 105, 3, [12, 26, 2, 48, 63, 1111], .null, []),
  (152, .iload 6, 2, [6], .null, []),
  (154, .iconst 1, 1, [], .int 1, []),
  (155, .isub, 1, [], .null, []),
  (156, .iaload, 1, [], .null, []),
  (157, .ifCond .ne 7, 3, [164], .null, []),
  (160, .iconst 1, 1, [], .int 1, []),
  (161, .goto 4, 3, [165], .null, []),
  (164, .iconst 0, 1, [], .int 0, []),
  (165, .iastore, 1, [], .null, []),
  (166, .goto 37, 3, [203], .null, []),
  (169, .iinc 6 (-1), 3, [6], .int (-1), []),
  (172, .aload_n 0, 1, [0], .null, []),
  (173, .getfield 105, 3, [12, 26, 2, 48, 63, 1111], .null, []),
  (176, .iload 6, 2, [6], .null, []),
  (178, .iconst 1, 1, [], .int 1, []),
  (179, .isub, 1, [], .null, []),
  (180, .aload_n 0, 1, [0], .null, []),
  (181, .iload 8, 2, [8], .null, []),
  (183, .aload_n 0, 1, [0], .null, []),
  (184, .getfield 105, 3, [12, 26, 2, 48, 63, 1111], .null, []),
  (187, .iload 6, 2, [6], .null, []),
  (189, .iconst 1, 1, [], .int 1, []),
  (190, .isub, 1, [], .null, []),
  (191, .iaload, 1, [], .null, []),
  (192, .aload_n 0, 1, [0], .null, []),
  (193, .getfield 105, 3, [12, 26, 2, 48, 63, 1111], .null, []),
  (196, .iload 6, 2, [6], .null, []),
  (198, .iaload, 1, [], .null, []),
  (199, .invokevirtual 263, 3, [1, 172, 3, 4, 1379, 12, 1, 0, 0], .null, []),
  (202, .iastore, 1, [], .null, []),
  (203, .iinc 7 1, 3, [7], .int 1, []),
  (206, .goto (-183), 3, [23], .null, []),
  (209, .aload_n 0, 1, [0], .null, []),
  (210, .getfield 105, 3, [12, 26, 2, 48, 63, 1111], .null, []),
  (213, .iconst 0, 1, [], .int 0, []),
  (214, .iaload, 1, [], .null, []),
  (215, .ireturn, 1, [], .null, [])]
abbrev kX12_tellsRule : Nat := 173
abbrev zq_m173 : zq_T := (yX12_tellsRule, cX12_tellsRule, 9, (some .int), zq_c173, (0, 0), [1374, 95, 1373, 53])
def zq_c174 : List zq_I := [
  (0, .aload_n 0, 1, [0], .null, []),
  (1, .getfield 108, 3, [12, 27, 0, 48, 0, 1112], .null, []),
  (4, .ifCond .ge 12, 3, [16], .null, []),
  (7, .aload_n 0, 1, [0], .null, []),
  (8, .getfield 31, 3, [12, 7, 2, 48, 54, 1092], .null, []),
  (11, .iload_n 1, 1, [1], .null, []),
  (12, .iaload, 1, [], .null, []),
  (13, .goto 7, 3, [20], .null, []),
  (16, .aload_n 0, 1, [0], .null, []),
  (17, .getfield 108, 3, [12, 27, 0, 48, 0, 1112], .null, []),
  (20, .ireturn, 1, [], .null, [])]
abbrev kX12_windNow : Nat := 174
abbrev zq_m174 : zq_T := (yX12_windNow, cX12_windNow, 2, (some .int), zq_c174, (0, 0), [1370, 95, 1369, 52])
def zq_c175 : List zq_I := [
  (0, .aload_n 0, 1, [0], .null, []),
  (1, .getfield 25, 3, [12, 5, 2, 48, 52, 1090], .null, []),
  (4, .iload_n 2, 1, [2], .null, []),
  (5, .iaload, 1, [], .null, []),
  (6, .ifCond .ne 5, 3, [11], .null, []),
  (9, .iconst 0, 1, [], .int 0, []),
  (10, .ireturn, 1, [], .null, []),
  (11, .aload_n 0, 1, [0], .null, []),
  (12, .getfield 45, 3, [12, 9, 2, 48, 56, 1094], .null, []),
  (15, .iload_n 1, 1, [1], .null, []),
  (16, .iaload, 1, [], .null, []),
  (17, .tableswitch 72 2 4 #[27, 43, 59], 27, [89, 44, 60, 76], .null, []),
  (44, .aload_n 0, 1, [0], .null, []),
  (45, .getfield 28, 3, [12, 6, 2, 48, 53, 1091], .null, []),
  (48, .iload_n 2, 1, [2], .null, []),
  (49, .iaload, 1, [], .null, []),
  (50, .iconst 2, 1, [], .int 2, []),
  (51, .if_icmp .le 7, 3, [58], .null, []),
  (54, .iconst 1, 1, [], .int 1, []),
  (55, .goto 4, 3, [59], .null, []),
  (58, .iconst 0, 1, [], .int 0, []),
  (59, .ireturn, 1, [], .null, []),
  (60, .aload_n 0, 1, [0], .null, []),
  (61, .getfield 28, 3, [12, 6, 2, 48, 53, 1091], .null, []),
  (64, .iload_n 2, 1, [2], .null, []),
  (65, .iaload, 1, [], .null, []),
  (66, .iconst 5, 1, [], .int 5, []),
  (67, .if_icmp .le 7, 3, [74], .null, []),
  (70, .iconst 1, 1, [], .int 1, []),
  (71, .goto 4, 3, [75], .null, []),
  (74, .iconst 0, 1, [], .int 0, []),
  (75, .ireturn, 1, [], .null, []),
  (76, .aload_n 0, 1, [0], .null, []),
  (77, .aload_n 0, 1, [0], .null, []),
  (78, .getfield 28, 3, [12, 6, 2, 48, 53, 1091], .null, []),
  (81, .iload_n 2, 1, [2], .null, []),
  (82, .iaload, 1, [], .null, []),
  (83, .iconst 1, 1, [], .int 1, []),
  (84, .iconst 4, 1, [], .int 4, []),
  (85, .invokevirtual 7, 3, [1, 139, 3, 4, 1050, 12, 1, 0, 0], .null, []),
  (88, .ireturn, 1, [], .null, []),
  (89, .iconst 1, 1, [], .int 1, []),
  (90, .ireturn, 1, [], .null, [])]
abbrev kX12_may : Nat := 175
abbrev zq_m175 : zq_T := (yX12_may, cX12_may, 3, (some .boolean), zq_c175, (0, 0), [1354, 95, 1353, 48])
def zq_c176 : List zq_I := [
  (0, .iconst 2, 1, [], .int 2, []),
  (1, .aload_n 0, 1, [0], .null, []),
  (2, .getfield 21, 3, [12, 3, 2, 48, 50, 1088], .null, []),
  (5, .iload_n 2, 1, [2], .null, []),
  (6, .iaload, 1, [], .null, []),
  (7, .imul, 1, [], .null, []),
  (8, .aload_n 0, 1, [0], .null, []),
  (9, .getfield 48, 3, [12, 10, 2, 48, 57, 1095], .null, []),
  (12, .iload_n 1, 1, [1], .null, []),
  (13, .iaload, 1, [], .null, []),
  (14, .iadd, 1, [], .null, []),
  (15, .istore_n 3, 1, [3], .null, []),
  (16, .aload_n 0, 1, [0], .null, []),
  (17, .getfield 45, 3, [12, 9, 2, 48, 56, 1094], .null, []),
  (20, .iload_n 1, 1, [1], .null, []),
  (21, .iaload, 1, [], .null, []),
  (22, .tableswitch 62 0 4 #[34, 43, 45, 49, 56], 34, [84, 56, 65, 67, 71, 78], .null, []),
  (56, .iconst 2, 1, [], .int 2, []),
  (57, .aload_n 0, 1, [0], .null, []),
  (58, .getfield 21, 3, [12, 3, 2, 48, 50, 1088], .null, []),
  (61, .iload_n 2, 1, [2], .null, []),
  (62, .iaload, 1, [], .null, []),
  (63, .imul, 1, [], .null, []),
  (64, .ireturn, 1, [], .null, []),
  (65, .iload_n 3, 1, [3], .null, []),
  (66, .ireturn, 1, [], .null, []),
  (67, .iload_n 3, 1, [3], .null, []),
  (68, .iconst 4, 1, [], .int 4, []),
  (69, .idiv, 1, [], .null, []),
  (70, .ireturn, 1, [], .null, []),
  (71, .aload_n 0, 1, [0], .null, []),
  (72, .getfield 48, 3, [12, 10, 2, 48, 57, 1095], .null, []),
  (75, .iload_n 1, 1, [1], .null, []),
  (76, .iaload, 1, [], .null, []),
  (77, .ireturn, 1, [], .null, []),
  (78, .iload_n 3, 1, [3], .null, []),
  (79, .iconst 4, 1, [], .int 4, []),
  (80, .idiv, 1, [], .null, []),
  (81, .iconst 2, 1, [], .int 2, []),
  (82, .idiv, 1, [], .null, []),
  (83, .ireturn, 1, [], .null, []),
  (84, .iconst 0, 1, [], .int 0, []),
  (85, .ireturn, 1, [], .null, [])]
abbrev kX12_drag : Nat := 176
abbrev zq_m176 : zq_T := (yX12_drag, cX12_drag, 4, (some .int), zq_c176, (0, 0), [1358, 95, 1357, 49])
def zq_c177 : List zq_I := [
  (0, .aload_n 0, 1, [0], .null, []),
  (1, .iload_n 1, 1, [1], .null, []),
  (2, .iload_n 3, 1, [3], .null, []),
  (3, .invokevirtual 267, 3, [1, 175, 2, 3, 1351, 12, 1, 0, 0], .null, []),
  (6, .ifCond .ne 5, 3, [11], .null, []),
  (9, .iconst 0, 1, [], .int 0, []),
  (10, .ireturn, 1, [], .null, []),
  (11, .aload_n 0, 1, [0], .null, []),
  (12, .getfield 45, 3, [12, 9, 2, 48, 56, 1094], .null, []),
  (15, .iload_n 1, 1, [1], .null, []),
  (16, .iaload, 1, [], .null, []),
  (17, .iconst 5, 1, [], .int 5, []),
  (18, .if_icmp .ne 26, 3, [44], .null, []),
  (21, .aload_n 0, 1, [0], .null, []),
  (22, .getfield 48, 3, [12, 10, 2, 48, 57, 1095], .null, []),
  (25, .iload_n 1, 1, [1], .null, []),
  (26, .iaload, 1, [], .null, []),
  (27, .aload_n 0, 1, [0], .null, []),
  (28, .getfield 21, 3, [12, 3, 2, 48, 50, 1088], .null, []),
  (31, .iload_n 2, 1, [2], .null, []),
  (32, .iaload, 1, [], .null, []),
  (33, .iconst 5, 1, [], .int 5, []),
  (34, .idiv, 1, [], .null, []),
  (35, .if_icmp .le 7, 3, [42], .null, []),
  (38, .iconst 1, 1, [], .int 1, []),
  (39, .goto 4, 3, [43], .null, []),
  (42, .iconst 0, 1, [], .int 0, []),
  (43, .ireturn, 1, [], .null, []),
  (44, .aload_n 0, 1, [0], .null, []),
  (45, .iload_n 3, 1, [3], .null, []),
  (46, .invokevirtual 256, 3, [1, 174, 1, 2, 1367, 12, 1, 0, 0], .null, []),
  (49, .aload_n 0, 1, [0], .null, []),
  (50, .iload_n 1, 1, [1], .null, []),
  (51, .iload_n 2, 1, [2], .null, []),
  (52, .invokevirtual 271, 3, [1, 176, 2, 4, 1355, 12, 1, 0, 0], .null, []),
  (55, .isub, 1, [], .null, []),
  (56, .bipush 10, 2, [], .int 10, []),
  (58, .idiv, 1, [], .null, []),
  (59, .istore 4, 2, [4], .null, []),
  (61, .iload 4, 2, [4], .null, []),
  (63, .ifCond .gt 5, 3, [68], .null, []),
  (66, .iconst 0, 1, [], .int 0, []),
  (67, .ireturn, 1, [], .null, []),
  (68, .aload_n 0, 1, [0], .null, []),
  (69, .getfield 45, 3, [12, 9, 2, 48, 56, 1094], .null, []),
  (72, .iload_n 1, 1, [1], .null, []),
  (73, .iaload, 1, [], .null, []),
  (74, .iconst 3, 1, [], .int 3, []),
  (75, .if_icmp .ne 20, 3, [95], .null, []),
  (78, .iload 4, 2, [4], .null, []),
  (80, .bipush 9, 2, [], .int 9, []),
  (82, .if_icmp .le 8, 3, [90], .null, []),
  (85, .bipush 9, 2, [], .int 9, []),
  (87, .goto 27, 3, [114], .null, []),
  (90, .iload 4, 2, [4], .null, []),
  (92, .goto 22, 3, [114], .null, []),
  (95, .aload_n 0, 1, [0], .null, []),
  (96, .getfield 45, 3, [12, 9, 2, 48, 56, 1094], .null, []),
  (99, .iload_n 1, 1, [1], .null, []),
  (100, .iaload, 1, [], .null, []),
  (101, .iconst 4, 1, [], .int 4, []),
  (102, .if_icmp .ne 10, 3, [112], .null, []),
  (105, .iload 4, 2, [4], .null, []),
  (107, .iconst 1, 1, [], .int 1, []),
  (108, .iadd, 1, [], .null, []),
  (109, .goto 5, 3, [114], .null, []),
  (112, .iload 4, 2, [4], .null, []),
  (114, .ireturn, 1, [], .null, [])]
abbrev kX12_plainPush : Nat := 177
abbrev zq_m177 : zq_T := (yX12_plainPush, cX12_plainPush, 5, (some .int), zq_c177, (0, 0), [1366, 95, 1365, 51])
def zq_c178 : List zq_I := [
  (0, .aload_n 0, 1, [0], .null, []),
  (1, .iload_n 1, 1, [1], .null, []),
  (2, .iload_n 2, 1, [2], .null, []),
  (3, .iload_n 3, 1, [3], .null, []),
  (4, .invokevirtual 275, 3, [1, 177, 3, 5, 1363, 12, 1, 0, 0], .null, []),
  (7, .istore 4, 2, [4], .null, []),
  (9, .iload 4, 2, [4], .null, []),
  (11, .ifCond .ne 5, 3, [16], .null, []),
  (14, .iconst 0, 1, [], .int 0, []),
  (15, .ireturn, 1, [], .null, []),
  (16, .aload_n 0, 1, [0], .null, []),
  (17, .iconst 0, 1, [], .int 0, []),
  (18, .aload_n 0, 1, [0], .null, []),
  (19, .getfield 21, 3, [12, 3, 2, 48, 50, 1088], .null, []),
  (22, .iload_n 2, 1, [2], .null, []),
  (23, .iaload, 1, [], .null, []),
  (24, .iload_n 3, 1, [3], .null, []),
  (25, .iload_n 1, 1, [1], .null, []),
  (26, .invokevirtual 278, 3, [1, 173, 4, 9, 1371, 12, 1, 0, 0], .null, []),
  (29, .istore 5, 2, [5], .null, []),
  (31, .iload 4, 2, [4], .null, []),
  (33, .iload 5, 2, [5], .null, []),
  (35, .bipush 9, 2, [], .int 9, []),
  (37, .if_icmp .le 8, 3, [45], .null, []),
  (40, .bipush 9, 2, [], .int 9, []),
  (42, .goto 17, 3, [59], .null, []),
  (45, .iload 5, 2, [5], .null, []),
  (47, .bipush (-9), 2, [], .int (-9), []),
  (49, .if_icmp .ge 8, 3, [57], .null, []),
  (52, .bipush (-9), 2, [], .int (-9), []),
  (54, .goto 5, 3, [59], .null, []),
  (57, .iload 5, 2, [5], .null, []),
  (59, .iadd, 1, [], .null, []),
  (60, .istore 4, 2, [4], .null, []),
  (62, .iload 4, 2, [4], .null, []),
  (64, .ifCond .ge 7, 3, [71], .null, []),
  (67, .iconst 0, 1, [], .int 0, []),
  (68, .goto 5, 3, [73], .null, []),
  (71, .iload 4, 2, [4], .null, []),
  (73, .ireturn, 1, [], .null, [])]
abbrev kX12_pushes : Nat := 178
abbrev zq_m178 : zq_T := (yX12_pushes, cX12_pushes, 6, (some .int), zq_c178, (0, 0), [1362, 95, 1361, 50])
def zq_c179 : List zq_I := [
  (0, .aload_n 0, 1, [0], .null, []),
  (1, .getfield 45, 3, [12, 9, 2, 48, 56, 1094], .null, []),
  (4, .iload_n 1, 1, [1], .null, []),
  (5, .iaload, 1, [], .null, []),
  (6, .iconst 5, 1, [], .int 5, []),
  (7, .if_icmp .ne 7, 3, [14], .null, []),
  (10, .iconst 1, 1, [], .int 1, []),
  (11, .goto 9, 3, [20], .null, []),
  (14, .aload_n 0, 1, [0], .null, []),
  (15, .getfield 34, 3, [12, 8, 2, 48, 55, 1093], .null, []),
  (18, .iload_n 2, 1, [2], .null, []),
  (19, .iaload, 1, [], .null, []),
  (20, .ireturn, 1, [], .null, [])]
abbrev kX12_wayOf : Nat := 179
abbrev zq_m179 : zq_T := (yX12_wayOf, cX12_wayOf, 3, (some .int), zq_c179, (0, 0), [1410, 95, 1409, 60])
def zq_c180 : List zq_I := [
  (0, .aload_n 0, 1, [0], .null, []),
  (1, .iload_n 1, 1, [1], .null, []),
  (2, .invokevirtual 281, 3, [1, 142, 1, 2, 1343, 12, 1, 0, 0], .null, []),
  (5, .ifCond .eq 30, 3, [35], .null, []),
  (8, .aload_n 0, 1, [0], .null, []),
  (9, .iload_n 2, 1, [2], .null, []),
  (10, .invokevirtual 51, 3, [1, 140, 1, 2, 1076, 12, 1, 0, 0], .null, []),
  (13, .ifCond .eq 22, 3, [35], .null, []),
  (16, .aload_n 0, 1, [0], .null, []),
  (17, .iload_n 3, 1, [3], .null, []),
  (18, .invokevirtual 284, 3, [1, 141, 1, 2, 1347, 12, 1, 0, 0], .null, []),
  (21, .ifCond .eq 14, 3, [35], .null, []),
  (24, .aload_n 0, 1, [0], .null, []),
  (25, .iload 4, 2, [4], .null, []),
  (27, .iconst 0, 1, [], .int 0, []),
  (28, .iconst 2, 1, [], .int 2, []),
  (29, .invokevirtual 7, 3, [1, 139, 3, 4, 1050, 12, 1, 0, 0], .null, []),
  (32, .ifCond .ne 6, 3, [38], .null, []),
  (35, .bipush (-2), 2, [], .int (-2), []),
  (37, .ireturn, 1, [], .null, []),
  (38, .iload 4, 2, [4], .null, []),
  (40, .ifCond .ne 20, 3, [60], .null, []),
  (43, .aload_n 0, 1, [0], .null, []),
  (44, .iload_n 1, 1, [1], .null, []),
  (45, .iload_n 3, 1, [3], .null, []),
  (46, .invokevirtual 267, 3, [1, 175, 2, 3, 1351, 12, 1, 0, 0], .null, []),
  (49, .ifCond .eq 7, 3, [56], .null, []),
  (52, .iconst 1, 1, [], .int 1, []),
  (53, .goto 29, 3, [82], .null, []),
  (56, .iconst 0, 1, [], .int 0, []),
  (57, .goto 25, 3, [82], .null, []),
  (60, .iload 4, 2, [4], .null, []),
  (62, .iconst 1, 1, [], .int 1, []),
  (63, .if_icmp .ne 12, 3, [75], .null, []),
  (66, .aload_n 0, 1, [0], .null, []),
  (67, .iload_n 1, 1, [1], .null, []),
  (68, .iload_n 2, 1, [2], .null, []),
  (69, .invokevirtual 271, 3, [1, 176, 2, 4, 1355, 12, 1, 0, 0], .null, []),
  (72, .goto 10, 3, [82], .null, []),
  (75, .aload_n 0, 1, [0], .null, []),
  (76, .iload_n 1, 1, [1], .null, []),
  (77, .iload_n 2, 1, [2], .null, []),
  (78, .iload_n 3, 1, [3], .null, []),
  (79, .invokevirtual 287, 3, [1, 178, 3, 6, 1359, 12, 1, 0, 0], .null, []),
  (82, .ireturn, 1, [], .null, [])]
abbrev kX12_told : Nat := 180
abbrev zq_m180 : zq_T := (yX12_told, cX12_told, 5, (some .int), zq_c180, (0, 0), [1342, 95, 1340, 1341])
def zq_c181 : List zq_I := [
  (0, .aload_n 0, 1, [0], .null, []),
  (1, .iload_n 1, 1, [1], .null, []),
  (2, .invokevirtual 281, 3, [1, 142, 1, 2, 1343, 12, 1, 0, 0], .null, []),
  (5, .ifCond .eq 19, 3, [24], .null, []),
  (8, .aload_n 0, 1, [0], .null, []),
  (9, .iload_n 2, 1, [2], .null, []),
  (10, .invokevirtual 51, 3, [1, 140, 1, 2, 1076, 12, 1, 0, 0], .null, []),
  (13, .ifCond .eq 11, 3, [24], .null, []),
  (16, .aload_n 0, 1, [0], .null, []),
  (17, .iload_n 3, 1, [3], .null, []),
  (18, .invokevirtual 284, 3, [1, 141, 1, 2, 1347, 12, 1, 0, 0], .null, []),
  (21, .ifCond .ne 6, 3, [27], .null, []),
  (24, .bipush (-2), 2, [], .int (-2), []),
  (26, .ireturn, 1, [], .null, []),
  (27, .iconst (-1), 1, [], .int (-1), []),
  (28, .istore 4, 2, [4], .null, []),
  (30, .bipush 99, 2, [], .int 99, []),
  (32, .istore 5, 2, [5], .null, []),
  (34, .iload 5, 2, [5], .null, [true, true, true, true, true, true]),
  (36, .ifCond .lt 29, 3, [65], .null, []),
  (39, .aload_n 0, 1, [0], .null, []),
  (40, .iload 5, 2, [5], .null, []),
  (42, .putfield 108, 3, [12, 27, 0, 48, 0, 1112], .null, []),
  (45, .aload_n 0, 1, [0], .null, []),
  (46, .iload_n 1, 1, [1], .null, []),
  (47, .iload_n 2, 1, [2], .null, []),
  (48, .iload_n 3, 1, [3], .null, []),
  (49, .invokevirtual 287, 3, [1, 178, 3, 6, 1359, 12, 1, 0, 0], .null, []),
  (52, .ifCond .le 7, 3, [59], .null, []),
  (55, .iload 5, 2, [5], .null, []),
  (57, .istore 4, 2, [4], .null, []),
  (59, .iinc 5 (-1), 3, [5], .int (-1), []),
  (62, .goto (-28), 3, [34], .null, []),
  (65, .aload_n 0, 1, [0], .null, []),
  (66, .iconst (-1), 1, [], .int (-1), []),
  (67, .putfield 108, 3, [12, 27, 0, 48, 0, 1112], .null, []),
  (70, .iload 4, 2, [4], .null, []),
  (72, .ireturn, 1, [], .null, [])]
abbrev kX12_needs : Nat := 181
abbrev zq_m181 : zq_T := (yX12_needs, cX12_needs, 6, (some .int), zq_c181, (0, 0), [1386, 95, 1384, 1385])
def zq_c182 : List zq_I := [
  (0, .iconst 0, 1, [], .int 0, []),
  (1, .istore_n 2, 1, [2], .null, []),
  (2, .iload_n 2, 1, [2], .null, [true, true, true]),
  (3, .aload_n 0, 1, [0], .null, []),
  (4, .getfield 1, 3, [12, 0, 0, 48, 0, 1085], .null, []),
  (7, .if_icmp .ge 21, 3, [28], .null, []),
  (10, .aload_n 0, 1, [0], .null, []),
  (11, .getfield 111, 3, [12, 28, 2, 48, 64, 1113], .null, []),
  (14, .iload_n 2, 1, [2], .null, []),
  (15, .iaload, 1, [], .null, []),
  (16, .iload_n 1, 1, [1], .null, []),
  (17, .if_icmp .ne 5, 3, [22], .null, []),
  (20, .iconst 0, 1, [], .int 0, []),
  (21, .ireturn, 1, [], .null, []),
  (22, .iinc 2 1, 3, [2], .int 1, []),
  (25, .goto (-23), 3, [2], .null, []),
  (28, .iconst 1, 1, [], .int 1, []),
  (29, .ireturn, 1, [], .null, [])]
abbrev kX12_isFree : Nat := 182
abbrev zq_m182 : zq_T := (yX12_isFree, cX12_isFree, 3, (some .boolean), zq_c182, (0, 0), [1418, 95, 1417, 62])
def zq_c183 : List zq_I := [
  (0, .iload_n 1, 1, [1], .null, []),
  (1, .bipush 64, 2, [], .int 64, []),
  (3, .irem, 1, [], .null, []),
  (4, .iload_n 2, 1, [2], .null, []),
  (5, .ifCond .ne 7, 3, [12], .null, []),
  (8, .iconst 1, 1, [], .int 1, []),
  (9, .goto 13, 3, [22], .null, []),
  (12, .iload_n 2, 1, [2], .null, []),
  (13, .iconst 2, 1, [], .int 2, []),
  (14, .if_icmp .ne 7, 3, [21], .null, []),
  (17, .iconst (-1), 1, [], .int (-1), []),
  (18, .goto 4, 3, [22], .null, []),
  (21, .iconst 0, 1, [], .int 0, []),
  (22, .iadd, 1, [], .null, [true, true, true, false, false]),
  (23, .istore_n 3, 1, [3], .null, []),
  (24, .iload_n 1, 1, [1], .null, []),
  (25, .bipush 64, 2, [], .int 64, []),
  (27, .idiv, 1, [], .null, []),
  (28, .iload_n 2, 1, [2], .null, []),
  (29, .iconst 1, 1, [], .int 1, []),
  (30, .if_icmp .ne 7, 3, [37], .null, []),
  (33, .iconst 1, 1, [], .int 1, []),
  (34, .goto 13, 3, [47], .null, []),
  (37, .iload_n 2, 1, [2], .null, []),
  (38, .iconst 3, 1, [], .int 3, []),
  (39, .if_icmp .ne 7, 3, [46], .null, []),
  (42, .iconst (-1), 1, [], .int (-1), []),
  (43, .goto 4, 3, [47], .null, []),
  (46, .iconst 0, 1, [], .int 0, []),
  (47, .iadd, 1, [], .null, [true, false, false, true, false]),
  (48, .istore 4, 2, [4], .null, []),
  (50, .aload_n 0, 1, [0], .null, []),
  (51, .iload_n 3, 1, [3], .null, []),
  (52, .iconst 0, 1, [], .int 0, []),
  (53, .bipush 63, 2, [], .int 63, []),
  (55, .invokevirtual 7, 3, [1, 139, 3, 4, 1050, 12, 1, 0, 0], .null, []),
  (58, .ifCond .eq 25, 3, [83], .null, []),
  (61, .aload_n 0, 1, [0], .null, []),
  (62, .iload 4, 2, [4], .null, []),
  (64, .iconst 0, 1, [], .int 0, []),
  (65, .bipush 63, 2, [], .int 63, []),
  (67, .invokevirtual 7, 3, [1, 139, 3, 4, 1050, 12, 1, 0, 0], .null, []),
  (70, .ifCond .eq 13, 3, [83], .null, []),
  (73, .bipush 64, 2, [], .int 64, []),
  (75, .iload 4, 2, [4], .null, []),
  (77, .imul, 1, [], .null, []),
  (78, .iload_n 3, 1, [3], .null, []),
  (79, .iadd, 1, [], .null, []),
  (80, .goto 4, 3, [84], .null, []),
  (83, .iconst (-1), 1, [], .int (-1), []),
  (84, .ireturn, 1, [], .null, [])]
abbrev kX12_ahead : Nat := 183
abbrev zq_m183 : zq_T := (yX12_ahead, cX12_ahead, 5, (some .int), zq_c183, (0, 0), [1414, 95, 1413, 61])
def zq_c184 : List zq_I := [
  (0, .iconst 0, 1, [], .int 0, []),
  (1, .istore_n 1, 1, [1], .null, []),
  (2, .iload_n 1, 1, [1], .null, [true, true]),
  (3, .aload_n 0, 1, [0], .null, []),
  (4, .getfield 1, 3, [12, 0, 0, 48, 0, 1085], .null, []),
  (7, .if_icmp .ge 42, 3, [49], .null, []),
  (10, .aload_n 0, 1, [0], .null, []),
  (11, .getfield 111, 3, [12, 28, 2, 48, 64, 1113], .null, []),
  (14, .iload_n 1, 1, [1], .null, []),
  (15, .aload_n 0, 1, [0], .null, []),
  (16, .getfield 17, 3, [12, 4, 2, 48, 51, 1089], .null, []),
  (19, .iload_n 1, 1, [1], .null, []),
  (20, .iaload, 1, [], .null, []),
  (21, .iastore, 1, [], .null, []),
  (22, .aload_n 0, 1, [0], .null, []),
  (23, .getfield 114, 3, [12, 29, 2, 48, 65, 1114], .null, []),
  (26, .iload_n 1, 1, [1], .null, []),
  (27, .iconst 0, 1, [], .int 0, []),
  (28, .iastore, 1, [], .null, []),
  (29, .aload_n 0, 1, [0], .null, []),
  (30, .getfield 117, 3, [12, 30, 2, 48, 66, 1115], .null, []),
  (33, .iload_n 1, 1, [1], .null, []),
  (34, .iconst 0, 1, [], .int 0, []),
  (35, .iastore, 1, [], .null, []),
  (36, .aload_n 0, 1, [0], .null, []),
  (37, .getfield 120, 3, [12, 31, 2, 48, 67, 1116], .null, []),
  (40, .iload_n 1, 1, [1], .null, []),
  (41, .iconst (-1), 1, [], .int (-1), []),
  (42, .iastore, 1, [], .null, []),
  (43, .iinc 1 1, 3, [1], .int 1, []),
  (46, .goto (-44), 3, [2], .null, []),
  (49, .return_, 1, [], .null, [])]
abbrev kX12_begin : Nat := 184
abbrev zq_m184 : zq_T := (yX12_begin, cX12_begin, 2, none, zq_c184, (0, 0), [1402, 95, 1401, 58])
def zq_c185 : List zq_I := [
  (0, .aload_n 0, 1, [0], .null, []),
  (1, .iload_n 1, 1, [1], .null, []),
  (2, .iload_n 2, 1, [2], .null, []),
  (3, .invokevirtual 290, 3, [1, 179, 2, 3, 1407, 12, 1, 0, 0], .null, []),
  (6, .istore_n 3, 1, [3], .null, []),
  (7, .iconst 0, 1, [], .int 0, []),
  (8, .istore 4, 2, [4], .null, []),
  (10, .iload 4, 2, [4], .null, [true, true, true, true, true, false, false, false]),
  (12, .aload_n 0, 1, [0], .null, []),
  (13, .getfield 1, 3, [12, 0, 0, 48, 0, 1085], .null, []),
  (16, .if_icmp .ge 145, 3, [161], .null, []),
  (19, .aload_n 0, 1, [0], .null, []),
  (20, .iload_n 1, 1, [1], .null, []),
  (21, .iload 4, 2, [4], .null, []),
  (23, .iload_n 2, 1, [2], .null, []),
  (24, .invokevirtual 287, 3, [1, 178, 3, 6, 1359, 12, 1, 0, 0], .null, []),
  (27, .istore 5, 2, [5], .null, []),
  (29, .aload_n 0, 1, [0], .null, []),
  (30, .aload_n 0, 1, [0], .null, []),
  (31, .getfield 111, 3, [12, 28, 2, 48, 64, 1113], .null, []),
  (34, .iload 4, 2, [4], .null, []),
  (36, .iaload, 1, [], .null, []),
  (37, .iload_n 3, 1, [3], .null, []),
  (38, .invokevirtual 293, 3, [1, 183, 2, 5, 1411, 12, 1, 0, 0], .null, []),
  (41, .istore 6, 2, [6], .null, []),
  (43, .iconst 0, 1, [], .int 0, []),
  (44, .istore 7, 2, [7], .null, []),
  (46, .iload 5, 2, [5], .null, [true, true, true, true, true, true, true, true]),
  (48, .ifCond .le 55, 3, [103], .null, []),
  (51, .iload 6, 2, [6], .null, []),
  (53, .ifCond .lt 50, 3, [103], .null, []),
  (56, .aload_n 0, 1, [0], .null, []),
  (57, .iload 6, 2, [6], .null, []),
  (59, .invokevirtual 296, 3, [1, 182, 1, 3, 1415, 12, 1, 0, 0], .null, []),
  (62, .ifCond .eq 41, 3, [103], .null, []),
  (65, .aload_n 0, 1, [0], .null, []),
  (66, .getfield 111, 3, [12, 28, 2, 48, 64, 1113], .null, []),
  (69, .iload 4, 2, [4], .null, []),
  (71, .iload 6, 2, [6], .null, []),
  (73, .iastore, 1, [], .null, []),
  (74, .aload_n 0, 1, [0], .null, []),
  (75, .getfield 114, 3, [12, 29, 2, 48, 65, 1114], .null, []),
  (78, .iload 4, 2, [4], .null, []),
  (80, .dup2, 1, [], .null, []),
  (81, .iaload, 1, [], .null, []),
  (82, .iconst 1, 1, [], .int 1, []),
  (83, .iadd, 1, [], .null, []),
  (84, .iastore, 1, [], .null, []),
  (85, .iconst 1, 1, [], .int 1, []),
  (86, .istore 7, 2, [7], .null, []),
  (88, .iinc 5 (-1), 3, [5], .int (-1), []),
  (91, .aload_n 0, 1, [0], .null, []),
  (92, .iload 6, 2, [6], .null, []),
  (94, .iload_n 3, 1, [3], .null, []),
  (95, .invokevirtual 293, 3, [1, 183, 2, 5, 1411, 12, 1, 0, 0], .null, []),
  (98, .istore 6, 2, [6], .null, []),
  (100, .goto (-54), 3, [46], .null, []),
  (103, .iload 7, 2, [7], .null, [true, true, true, true, true, false, false, true]),
  (105, .ifCond .ne 6, 3, [111], .null, []),
  (108, .goto 47, 3, [155], .null, []),
  (111, .aload_n 0, 1, [0], .null, []),
  (112, .getfield 117, 3, [12, 30, 2, 48, 66, 1115], .null, []),
  (115, .iload 4, 2, [4], .null, []),
  (117, .dup2, 1, [], .null, []),
  (118, .iaload, 1, [], .null, []),
  (119, .aload_n 0, 1, [0], .null, []),
  (120, .getfield 120, 3, [12, 31, 2, 48, 67, 1116], .null, []),
  (123, .iload 4, 2, [4], .null, []),
  (125, .iaload, 1, [], .null, []),
  (126, .ifCond .lt 18, 3, [144], .null, []),
  (129, .aload_n 0, 1, [0], .null, []),
  (130, .getfield 120, 3, [12, 31, 2, 48, 67, 1116], .null, []),
  (133, .iload 4, 2, [4], .null, []),
  (135, .iaload, 1, [], .null, []),
  (136, .iload_n 3, 1, [3], .null, []),
  (137, .if_icmp .eq 7, 3, [144], .null, []),
  (140, .iconst 1, 1, [], .int 1, []),
  (141, .goto 4, 3, [145], .null, []),
  (144, .iconst 0, 1, [], .int 0, []),
  (145, .iadd, 1, [], .null, [true, true, true, true, true, false, false, false]),
  (146, .iastore, 1, [], .null, []),
  (147, .aload_n 0, 1, [0], .null, []),
  (148, .getfield 120, 3, [12, 31, 2, 48, 67, 1116], .null, []),
  (151, .iload 4, 2, [4], .null, []),
  (153, .iload_n 3, 1, [3], .null, []),
  (154, .iastore, 1, [], .null, []),
  (155, .iinc 4 1, 3, [4], .int 1, []),
  (158, .goto (-148), 3, [10], .null, []),
  (161, .return_, 1, [], .null, [])]
abbrev kX12_goNight : Nat := 185
abbrev zq_m185 : zq_T := (yX12_goNight, cX12_goNight, 8, none, zq_c185, (0, 0), [1406, 95, 1405, 59])
def zq_c186 : List zq_I := [
  (0, .aload_n 0, 1, [0], .null, []),
  (1, .invokevirtual 299, 3, [1, 184, 0, 2, 1399, 12, 0, 0, 0], .null, []),
  (4, .iconst 0, 1, [], .int 0, []),
  (5, .istore_n 2, 1, [2], .null, []),
  (6, .iload_n 2, 1, [2], .null, [true, true, true]),
  (7, .aload_n 0, 1, [0], .null, []),
  (8, .getfield 11, 3, [12, 1, 0, 48, 0, 1086], .null, []),
  (11, .if_icmp .ge 15, 3, [26], .null, []),
  (14, .aload_n 0, 1, [0], .null, []),
  (15, .iload_n 1, 1, [1], .null, []),
  (16, .iload_n 2, 1, [2], .null, []),
  (17, .invokevirtual 302, 3, [1, 185, 2, 8, 1403, 12, 0, 0, 0], .null, []),
  (20, .iinc 2 1, 3, [2], .int 1, []),
  (23, .goto (-17), 3, [6], .null, []),
  (26, .return_, 1, [], .null, [])]
abbrev kX12_goAll : Nat := 186
abbrev zq_m186 : zq_T := (yX12_goAll, cX12_goAll, 3, none, zq_c186, (0, 0), [1454, 95, 1453, 66])
def zq_c187 : List zq_I := [
  (0, .aload_n 0, 1, [0], .null, []),
  (1, .iload_n 1, 1, [1], .null, []),
  (2, .iconst 0, 1, [], .int 0, []),
  (3, .sipush 5959, 3, [], .int 5959, []),
  (6, .invokevirtual 7, 3, [1, 139, 3, 4, 1050, 12, 1, 0, 0], .null, []),
  (9, .ifCond .eq 40, 3, [49], .null, []),
  (12, .aload_n 0, 1, [0], .null, []),
  (13, .iload_n 1, 1, [1], .null, []),
  (14, .bipush 100, 2, [], .int 100, []),
  (16, .idiv, 1, [], .null, []),
  (17, .invokevirtual 284, 3, [1, 141, 1, 2, 1347, 12, 1, 0, 0], .null, []),
  (20, .ifCond .eq 29, 3, [49], .null, []),
  (23, .aload_n 0, 1, [0], .null, []),
  (24, .iload_n 1, 1, [1], .null, []),
  (25, .bipush 100, 2, [], .int 100, []),
  (27, .irem, 1, [], .null, []),
  (28, .invokevirtual 284, 3, [1, 141, 1, 2, 1347, 12, 1, 0, 0], .null, []),
  (31, .ifCond .eq 18, 3, [49], .null, []),
  (34, .iload_n 1, 1, [1], .null, []),
  (35, .bipush 100, 2, [], .int 100, []),
  (37, .idiv, 1, [], .null, []),
  (38, .iload_n 1, 1, [1], .null, []),
  (39, .bipush 100, 2, [], .int 100, []),
  (41, .irem, 1, [], .null, []),
  (42, .if_icmp .gt 7, 3, [49], .null, []),
  (45, .iconst 1, 1, [], .int 1, []),
  (46, .goto 4, 3, [50], .null, []),
  (49, .iconst 0, 1, [], .int 0, []),
  (50, .ireturn, 1, [], .null, [])]
abbrev kX12_isRow : Nat := 187
abbrev zq_m187 : zq_T := (yX12_isRow, cX12_isRow, 2, (some .boolean), zq_c187, (0, 0), [1394, 95, 1393, 56])
def zq_c188 : List zq_I := [
  (0, .aload_n 0, 1, [0], .null, []),
  (1, .invokevirtual 299, 3, [1, 184, 0, 2, 1399, 12, 0, 0, 0], .null, []),
  (4, .iload_n 2, 1, [2], .null, []),
  (5, .bipush 100, 2, [], .int 100, []),
  (7, .idiv, 1, [], .null, []),
  (8, .istore_n 3, 1, [3], .null, []),
  (9, .iload_n 3, 1, [3], .null, [true, true, true, true]),
  (10, .iload_n 2, 1, [2], .null, []),
  (11, .bipush 100, 2, [], .int 100, []),
  (13, .irem, 1, [], .null, []),
  (14, .if_icmp .gt 15, 3, [29], .null, []),
  (17, .aload_n 0, 1, [0], .null, []),
  (18, .iload_n 1, 1, [1], .null, []),
  (19, .iload_n 3, 1, [3], .null, []),
  (20, .invokevirtual 302, 3, [1, 185, 2, 8, 1403, 12, 0, 0, 0], .null, []),
  (23, .iinc 3 1, 3, [3], .int 1, []),
  (26, .goto (-17), 3, [9], .null, []),
  (29, .return_, 1, [], .null, [])]
abbrev kX12_goRow : Nat := 188
abbrev zq_m188 : zq_T := (yX12_goRow, cX12_goRow, 4, none, zq_c188, (0, 0), [1398, 95, 1397, 57])
def zq_c189 : List zq_I := [
  (0, .aload_n 0, 1, [0], .null, []),
  (1, .iload_n 1, 1, [1], .null, []),
  (2, .invokevirtual 281, 3, [1, 142, 1, 2, 1343, 12, 1, 0, 0], .null, []),
  (5, .ifCond .eq 30, 3, [35], .null, []),
  (8, .aload_n 0, 1, [0], .null, []),
  (9, .iload_n 2, 1, [2], .null, []),
  (10, .invokevirtual 305, 3, [1, 187, 1, 2, 1391, 12, 1, 0, 0], .null, []),
  (13, .ifCond .eq 22, 3, [35], .null, []),
  (16, .aload_n 0, 1, [0], .null, []),
  (17, .iload_n 3, 1, [3], .null, []),
  (18, .invokevirtual 51, 3, [1, 140, 1, 2, 1076, 12, 1, 0, 0], .null, []),
  (21, .ifCond .eq 14, 3, [35], .null, []),
  (24, .aload_n 0, 1, [0], .null, []),
  (25, .iload 4, 2, [4], .null, []),
  (27, .iconst 0, 1, [], .int 0, []),
  (28, .iconst 2, 1, [], .int 2, []),
  (29, .invokevirtual 7, 3, [1, 139, 3, 4, 1050, 12, 1, 0, 0], .null, []),
  (32, .ifCond .ne 6, 3, [38], .null, []),
  (35, .bipush (-2), 2, [], .int (-2), []),
  (37, .ireturn, 1, [], .null, []),
  (38, .aload_n 0, 1, [0], .null, []),
  (39, .iload_n 1, 1, [1], .null, []),
  (40, .iload_n 2, 1, [2], .null, []),
  (41, .invokevirtual 308, 3, [1, 188, 2, 4, 1395, 12, 0, 0, 0], .null, []),
  (44, .iload 4, 2, [4], .null, []),
  (46, .ifCond .ne 12, 3, [58], .null, []),
  (49, .aload_n 0, 1, [0], .null, []),
  (50, .getfield 114, 3, [12, 29, 2, 48, 65, 1114], .null, []),
  (53, .iload_n 3, 1, [3], .null, []),
  (54, .iaload, 1, [], .null, []),
  (55, .goto 24, 3, [79], .null, []),
  (58, .iload 4, 2, [4], .null, []),
  (60, .iconst 1, 1, [], .int 1, []),
  (61, .if_icmp .ne 12, 3, [73], .null, []),
  (64, .aload_n 0, 1, [0], .null, []),
  (65, .getfield 111, 3, [12, 28, 2, 48, 64, 1113], .null, []),
  (68, .iload_n 3, 1, [3], .null, []),
  (69, .iaload, 1, [], .null, []),
  (70, .goto 9, 3, [79], .null, []),
  (73, .aload_n 0, 1, [0], .null, []),
  (74, .getfield 117, 3, [12, 30, 2, 48, 66, 1115], .null, []),
  (77, .iload_n 3, 1, [3], .null, []),
  (78, .iaload, 1, [], .null, []),
  (79, .ireturn, 1, [], .null, [])]
abbrev kX12_run : Nat := 189
abbrev zq_m189 : zq_T := (yX12_run, cX12_run, 5, (some .int), zq_c189, (0, 0), [1390, 95, 1388, 1389])
def zq_c190 : List zq_I := [
  (0, .aload_n 0, 1, [0], .null, []),
  (1, .iload_n 1, 1, [1], .null, []),
  (2, .invokevirtual 281, 3, [1, 142, 1, 2, 1343, 12, 1, 0, 0], .null, []),
  (5, .ifCond .eq 11, 3, [16], .null, []),
  (8, .aload_n 0, 1, [0], .null, []),
  (9, .iload_n 2, 1, [2], .null, []),
  (10, .invokevirtual 305, 3, [1, 187, 1, 2, 1391, 12, 1, 0, 0], .null, []),
  (13, .ifCond .ne 6, 3, [19], .null, []),
  (16, .bipush (-2), 2, [], .int (-2), []),
  (18, .ireturn, 1, [], .null, []),
  (19, .aload_n 0, 1, [0], .null, []),
  (20, .iload_n 1, 1, [1], .null, []),
  (21, .iload_n 2, 1, [2], .null, []),
  (22, .invokevirtual 308, 3, [1, 188, 2, 4, 1395, 12, 0, 0, 0], .null, []),
  (25, .iconst 0, 1, [], .int 0, []),
  (26, .istore_n 3, 1, [3], .null, []),
  (27, .iconst 0, 1, [], .int 0, []),
  (28, .istore 4, 2, [4], .null, []),
  (30, .iload 4, 2, [4], .null, [true, false, false, true, true]),
  (32, .aload_n 0, 1, [0], .null, []),
  (33, .getfield 1, 3, [12, 0, 0, 48, 0, 1085], .null, []),
  (36, .if_icmp .ge 33, 3, [69], .null, []),
  (39, .aload_n 0, 1, [0], .null, []),
  (40, .getfield 17, 3, [12, 4, 2, 48, 51, 1089], .null, []),
  (43, .iload 4, 2, [4], .null, []),
  (45, .aload_n 0, 1, [0], .null, []),
  (46, .getfield 111, 3, [12, 28, 2, 48, 64, 1113], .null, []),
  (49, .iload 4, 2, [4], .null, []),
  (51, .iaload, 1, [], .null, []),
  (52, .iastore, 1, [], .null, []),
  (53, .iload_n 3, 1, [3], .null, []),
  (54, .aload_n 0, 1, [0], .null, []),
  (55, .getfield 114, 3, [12, 29, 2, 48, 65, 1114], .null, []),
  (58, .iload 4, 2, [4], .null, []),
  (60, .iaload, 1, [], .null, []),
  (61, .iadd, 1, [], .null, []),
  (62, .istore_n 3, 1, [3], .null, []),
  (63, .iinc 4 1, 3, [4], .int 1, []),
  (66, .goto (-36), 3, [30], .null, []),
  (69, .iload_n 3, 1, [3], .null, []),
  (70, .ireturn, 1, [], .null, [])]
abbrev kX12_lay : Nat := 190
abbrev zq_m190 : zq_T := (yX12_lay, cX12_lay, 5, (some .int), zq_c190, (0, 0), [1422, 95, 1420, 1421])
def zq_c191 : List zq_I := [
  (0, .aload_n 0, 1, [0], .null, []),
  (1, .iload_n 1, 1, [1], .null, []),
  (2, .iconst 0, 1, [], .int 0, []),
  (3, .aload_n 0, 1, [0], .null, []),
  (4, .getfield 123, 3, [12, 32, 0, 48, 0, 1117], .null, []),
  (7, .iconst 1, 1, [], .int 1, []),
  (8, .isub, 1, [], .null, []),
  (9, .invokevirtual 7, 3, [1, 139, 3, 4, 1050, 12, 1, 0, 0], .null, []),
  (12, .ireturn, 1, [], .null, [])]
abbrev kX12_isTrack : Nat := 191
abbrev zq_m191 : zq_T := (yX12_isTrack, cX12_isTrack, 2, (some .boolean), zq_c191, (0, 0), [1434, 95, 1433, 63])
def zq_c192 : List zq_I := [
  (0, .aload_n 0, 1, [0], .null, []),
  (1, .iload_n 1, 1, [1], .null, []),
  (2, .invokevirtual 51, 3, [1, 140, 1, 2, 1076, 12, 1, 0, 0], .null, []),
  (5, .ifCond .eq 26, 3, [31], .null, []),
  (8, .aload_n 0, 1, [0], .null, []),
  (9, .iload_n 2, 1, [2], .null, []),
  (10, .iconst 0, 1, [], .int 0, []),
  (11, .sipush 999, 3, [], .int 999, []),
  (14, .invokevirtual 7, 3, [1, 139, 3, 4, 1050, 12, 1, 0, 0], .null, []),
  (17, .ifCond .eq 14, 3, [31], .null, []),
  (20, .aload_n 0, 1, [0], .null, []),
  (21, .iload_n 3, 1, [3], .null, []),
  (22, .iconst 0, 1, [], .int 0, []),
  (23, .bipush 99, 2, [], .int 99, []),
  (25, .invokevirtual 7, 3, [1, 139, 3, 4, 1050, 12, 1, 0, 0], .null, []),
  (28, .ifCond .ne 6, 3, [34], .null, []),
  (31, .bipush (-2), 2, [], .int (-2), []),
  (33, .ireturn, 1, [], .null, []),
  (34, .aload_n 0, 1, [0], .null, []),
  (35, .getfield 123, 3, [12, 32, 0, 48, 0, 1117], .null, []),
  (38, .bipush 24, 2, [], .int 24, []),
  (40, .if_icmp .ne 6, 3, [46], .null, []),
  (43, .bipush (-4), 2, [], .int (-4), []),
  (45, .ireturn, 1, [], .null, []),
  (46, .aload_n 0, 1, [0], .null, []),
  (47, .getfield 126, 3, [12, 33, 2, 48, 68, 1118], .null, []),
  (50, .aload_n 0, 1, [0], .null, []),
  (51, .getfield 123, 3, [12, 32, 0, 48, 0, 1117], .null, []),
  (54, .iload_n 1, 1, [1], .null, []),
  (55, .iastore, 1, [], .null, []),
  (56, .aload_n 0, 1, [0], .null, []),
  (57, .getfield 129, 3, [12, 34, 2, 48, 69, 1119], .null, []),
  (60, .aload_n 0, 1, [0], .null, []),
  (61, .getfield 123, 3, [12, 32, 0, 48, 0, 1117], .null, []),
  (64, .iload_n 2, 1, [2], .null, []),
  (65, .iastore, 1, [], .null, []),
  (66, .aload_n 0, 1, [0], .null, []),
  (67, .getfield 132, 3, [12, 35, 2, 48, 70, 1120], .null, []),
  (70, .aload_n 0, 1, [0], .null, []),
  (71, .getfield 123, 3, [12, 32, 0, 48, 0, 1117], .null, []),
  (74, .iload_n 3, 1, [3], .null, []),
  (75, .iastore, 1, [], .null, []),
  (76, .aload_n 0, 1, [0], .null, []),
  (77, .dup, 1, [], .null, []),
  (78, .getfield 123, 3, [12, 32, 0, 48, 0, 1117], .null, []),
  (81, .iconst 1, 1, [], .int 1, []),
  (82, .iadd, 1, [], .null, []),
  (83, .putfield 123, 3, [12, 32, 0, 48, 0, 1117], .null, []),
  (86, .aload_n 0, 1, [0], .null, []),
  (87, .getfield 123, 3, [12, 32, 0, 48, 0, 1117], .null, []),
  (90, .iconst 1, 1, [], .int 1, []),
  (91, .isub, 1, [], .null, []),
  (92, .ireturn, 1, [], .null, [])]
abbrev kX12_track : Nat := 192
abbrev zq_m192 : zq_T := (yX12_track, cX12_track, 4, (some .int), zq_c192, (0, 0), [1426, 95, 1424, 1425])
def zq_c193 : List zq_I := [
  (0, .iload_n 1, 1, [1], .null, []),
  (1, .iload_n 2, 1, [2], .null, []),
  (2, .if_icmp .ge 9, 3, [11], .null, []),
  (5, .iload_n 2, 1, [2], .null, []),
  (6, .iload_n 1, 1, [1], .null, []),
  (7, .isub, 1, [], .null, []),
  (8, .goto 6, 3, [14], .null, []),
  (11, .iload_n 1, 1, [1], .null, []),
  (12, .iload_n 2, 1, [2], .null, []),
  (13, .isub, 1, [], .null, []),
  (14, .ireturn, 1, [], .null, [])]
abbrev kX12_apart : Nat := 193
abbrev zq_m193 : zq_T := (yX12_apart, cX12_apart, 3, (some .int), zq_c193, (0, 0), [1442, 95, 1441, 65])
def zq_c194 : List zq_I := [
  (0, .aload_n 0, 1, [0], .null, []),
  (1, .getfield 132, 3, [12, 35, 2, 48, 70, 1120], .null, []),
  (4, .iload_n 1, 1, [1], .null, []),
  (5, .iaload, 1, [], .null, []),
  (6, .aload_n 0, 1, [0], .null, []),
  (7, .getfield 132, 3, [12, 35, 2, 48, 70, 1120], .null, []),
  (10, .iload_n 2, 1, [2], .null, []),
  (11, .iaload, 1, [], .null, []),
  (12, .if_icmp .ne 27, 3, [39], .null, []),
  (15, .aload_n 0, 1, [0], .null, []),
  (16, .aload_n 0, 1, [0], .null, []),
  (17, .getfield 129, 3, [12, 34, 2, 48, 69, 1119], .null, []),
  (20, .iload_n 1, 1, [1], .null, []),
  (21, .iaload, 1, [], .null, []),
  (22, .aload_n 0, 1, [0], .null, []),
  (23, .getfield 129, 3, [12, 34, 2, 48, 69, 1119], .null, []),
  (26, .iload_n 2, 1, [2], .null, []),
  (27, .iaload, 1, [], .null, []),
  (28, .invokevirtual 311, 3, [1, 193, 2, 3, 1439, 12, 1, 0, 0], .null, []),
  (31, .iload_n 3, 1, [3], .null, []),
  (32, .if_icmp .gt 7, 3, [39], .null, []),
  (35, .iconst 1, 1, [], .int 1, []),
  (36, .goto 4, 3, [40], .null, []),
  (39, .iconst 0, 1, [], .int 0, []),
  (40, .ireturn, 1, [], .null, [])]
abbrev kX12_areTogether : Nat := 194
abbrev zq_m194 : zq_T := (yX12_areTogether, cX12_areTogether, 4, (some .boolean), zq_c194, (0, 0), [1438, 95, 1437, 64])
def zq_c195 : List zq_I := [
  (0, .aload_n 0, 1, [0], .null, []),
  (1, .iload_n 1, 1, [1], .null, []),
  (2, .invokevirtual 314, 3, [1, 191, 1, 2, 1431, 12, 1, 0, 0], .null, []),
  (5, .ifCond .eq 27, 3, [32], .null, []),
  (8, .aload_n 0, 1, [0], .null, []),
  (9, .iload_n 2, 1, [2], .null, []),
  (10, .invokevirtual 314, 3, [1, 191, 1, 2, 1431, 12, 1, 0, 0], .null, []),
  (13, .ifCond .eq 19, 3, [32], .null, []),
  (16, .iload_n 1, 1, [1], .null, []),
  (17, .iload_n 2, 1, [2], .null, []),
  (18, .if_icmp .eq 14, 3, [32], .null, []),
  (21, .aload_n 0, 1, [0], .null, []),
  (22, .iload_n 3, 1, [3], .null, []),
  (23, .iconst 0, 1, [], .int 0, []),
  (24, .bipush 99, 2, [], .int 99, []),
  (26, .invokevirtual 7, 3, [1, 139, 3, 4, 1050, 12, 1, 0, 0], .null, []),
  (29, .ifCond .ne 6, 3, [35], .null, []),
  (32, .bipush (-2), 2, [], .int (-2), []),
  (34, .ireturn, 1, [], .null, []),
  (35, .aload_n 0, 1, [0], .null, []),
  (36, .iload_n 1, 1, [1], .null, []),
  (37, .iload_n 2, 1, [2], .null, []),
  (38, .iload_n 3, 1, [3], .null, []),
  (39, .invokevirtual 317, 3, [1, 194, 3, 4, 1435, 12, 1, 0, 0], .null, []),
  (42, .ifCond .eq 7, 3, [49], .null, []),
  (45, .iconst 1, 1, [], .int 1, []),
  (46, .goto 4, 3, [50], .null, []),
  (49, .iconst 0, 1, [], .int 0, []),
  (50, .ireturn, 1, [], .null, [])]
abbrev kX12_together : Nat := 195
abbrev zq_m195 : zq_T := (yX12_together, cX12_together, 4, (some .int), zq_c195, (0, 0), [1430, 95, 1428, 1429])
def zq_c196 : List zq_I := [
  (0, .aload_n 0, 1, [0], .null, []),
  (1, .iload_n 1, 1, [1], .null, []),
  (2, .iconst 0, 1, [], .int 0, []),
  (3, .bipush 99, 2, [], .int 99, []),
  (5, .invokevirtual 7, 3, [1, 139, 3, 4, 1050, 12, 1, 0, 0], .null, []),
  (8, .ifCond .ne 6, 3, [14], .null, []),
  (11, .bipush (-2), 2, [], .int (-2), []),
  (13, .ireturn, 1, [], .null, []),
  (14, .iconst 0, 1, [], .int 0, []),
  (15, .istore_n 2, 1, [2], .null, []),
  (16, .iload_n 2, 1, [2], .null, [true, true, true, false, false, false, false]),
  (17, .aload_n 0, 1, [0], .null, []),
  (18, .getfield 123, 3, [12, 32, 0, 48, 0, 1117], .null, []),
  (21, .if_icmp .ge 16, 3, [37], .null, []),
  (24, .aload_n 0, 1, [0], .null, []),
  (25, .getfield 135, 3, [12, 36, 2, 48, 71, 1121], .null, []),
  (28, .iload_n 2, 1, [2], .null, []),
  (29, .iload_n 2, 1, [2], .null, []),
  (30, .iastore, 1, [], .null, []),
  (31, .iinc 2 1, 3, [2], .int 1, []),
  (34, .goto (-18), 3, [16], .null, []),
  (37, .aload_n 0, 1, [0], .null, []),
  (38, .getfield 123, 3, [12, 32, 0, 48, 0, 1117], .null, []),
  (41, .istore_n 2, 1, [2], .null, []),
  (42, .iconst 0, 1, [], .int 0, []),
  (43, .istore_n 3, 1, [3], .null, []),
  (44, .iload_n 3, 1, [3], .null, [true, true, true, true, false, false, false]),
  (45, .aload_n 0, 1, [0], .null, []),
  (46, .getfield 123, 3, [12, 32, 0, 48, 0, 1117], .null, []),
  (49, .if_icmp .ge 119, 3, [168], .null, []),
  (52, .iconst 0, 1, [], .int 0, []),
  (53, .istore 4, 2, [4], .null, []),
  (55, .iload 4, 2, [4], .null, [true, true, true, true, true, false, false]),
  (57, .iload_n 3, 1, [3], .null, []),
  (58, .if_icmp .ge 104, 3, [162], .null, []),
  (61, .aload_n 0, 1, [0], .null, []),
  (62, .iload_n 3, 1, [3], .null, []),
  (63, .iload 4, 2, [4], .null, []),
  (65, .iload_n 1, 1, [1], .null, []),
  (66, .invokevirtual 317, 3, [1, 194, 3, 4, 1435, 12, 1, 0, 0], .null, []),
  (69, .ifCond .eq 87, 3, [156], .null, []),
  (72, .aload_n 0, 1, [0], .null, []),
  (73, .getfield 135, 3, [12, 36, 2, 48, 71, 1121], .null, []),
  (76, .iload_n 3, 1, [3], .null, []),
  (77, .iaload, 1, [], .null, []),
  (78, .aload_n 0, 1, [0], .null, []),
  (79, .getfield 135, 3, [12, 36, 2, 48, 71, 1121], .null, []),
  (82, .iload 4, 2, [4], .null, []),
  (84, .iaload, 1, [], .null, []),
  (85, .if_icmp .ne 6, 3, [91], .null, []),
  (88, .goto 68, 3, [156], .null, []),
  (91, .aload_n 0, 1, [0], .null, []),
  (92, .getfield 135, 3, [12, 36, 2, 48, 71, 1121], .null, []),
  (95, .iload_n 3, 1, [3], .null, []),
  (96, .iaload, 1, [], .null, []),
  (97, .istore 5, 2, [5], .null, []),
  (99, .iconst 0, 1, [], .int 0, []),
  (100, .istore 6, 2, [6], .null, []),
  (102, .iload 6, 2, [6], .null, [true, true, true, true, true, true, true]),
  (104, .aload_n 0, 1, [0], .null, []),
  (105, .getfield 123, 3, [12, 32, 0, 48, 0, 1117], .null, []),
  (108, .if_icmp .ge 45, 3, [153], .null, []),
  (111, .aload_n 0, 1, [0], .null, []),
  (112, .getfield 135, 3, [12, 36, 2, 48, 71, 1121], .null, []),
  (115, .iload 6, 2, [6], .null, []),
  (117, .aload_n 0, 1, [0], .null, []),
  (118, .getfield 135, 3, [12, 36, 2, 48, 71, 1121], .null, []),
  (121, .iload 6, 2, [6], .null, []),
  (123, .iaload, 1, [], .null, []),
  (124, .iload 5, 2, [5], .null, []),
  (126, .if_icmp .ne 13, 3, [139], .null, []),
  (129, .aload_n 0, 1, [0], .null, []),
  (130, .getfield 135, 3, [12, 36, 2, 48, 71, 1121], .null, []),
  (133, .iload 4, 2, [4], .null, []),
  (135, .iaload, 1, [], .null, []),
  (136, .goto 10, 3, [146], .null, []),
  (139, .aload_n 0, 1, [0], .null, []),
  (140, .getfield 135, 3, [12, 36, 2, 48, 71, 1121], .null, []),
  (143, .iload 6, 2, [6], .null, []),
  (145, .iaload, 1, [], .null, []),
  (146, .iastore, 1, [], .null, []),
  (147, .iinc 6 1, 3, [6], .int 1, []),
  (150, .goto (-48), 3, [102], .null, []),
  (153, .iinc 2 (-1), 3, [2], .int (-1), []),
  (156, .iinc 4 1, 3, [4], .int 1, []),
  (159, .goto (-104), 3, [55], .null, []),
  (162, .iinc 3 1, 3, [3], .int 1, []),
  (165, .goto (-121), 3, [44], .null, []),
  (168, .iload_n 2, 1, [2], .null, []),
  (169, .ireturn, 1, [], .null, [])]
abbrev kX12_groups : Nat := 196
abbrev zq_m196 : zq_T := (yX12_groups, cX12_groups, 7, (some .int), zq_c196, (0, 0), [1446, 95, 1444, 1445])
def zq_c197 : List zq_I := [
  (0, .aload_n 0, 1, [0], .null, []),
  (1, .getfield 126, 3, [12, 33, 2, 48, 68, 1118], .null, []),
  (4, .iload_n 1, 1, [1], .null, []),
  (5, .iaload, 1, [], .null, []),
  (6, .istore_n 2, 1, [2], .null, []),
  (7, .bipush 9, 2, [], .int 9, []),
  (9, .aload_n 0, 1, [0], .null, []),
  (10, .aload_n 0, 1, [0], .null, []),
  (11, .getfield 129, 3, [12, 34, 2, 48, 69, 1119], .null, []),
  (14, .iload_n 1, 1, [1], .null, []),
  (15, .iaload, 1, [], .null, []),
  (16, .aload_n 0, 1, [0], .null, []),
  (17, .getfield 114, 3, [12, 29, 2, 48, 65, 1114], .null, []),
  (20, .iload_n 2, 1, [2], .null, []),
  (21, .iaload, 1, [], .null, []),
  (22, .invokevirtual 311, 3, [1, 193, 2, 3, 1439, 12, 1, 0, 0], .null, []),
  (25, .isub, 1, [], .null, []),
  (26, .iconst 3, 1, [], .int 3, []),
  (27, .aload_n 0, 1, [0], .null, []),
  (28, .aload_n 0, 1, [0], .null, []),
  (29, .getfield 132, 3, [12, 35, 2, 48, 70, 1120], .null, []),
  (32, .iload_n 1, 1, [1], .null, []),
  (33, .iaload, 1, [], .null, []),
  (34, .aload_n 0, 1, [0], .null, []),
  (35, .getfield 117, 3, [12, 30, 2, 48, 66, 1115], .null, []),
  (38, .iload_n 2, 1, [2], .null, []),
  (39, .iaload, 1, [], .null, []),
  (40, .invokevirtual 311, 3, [1, 193, 2, 3, 1439, 12, 1, 0, 0], .null, []),
  (43, .imul, 1, [], .null, []),
  (44, .isub, 1, [], .null, []),
  (45, .istore_n 3, 1, [3], .null, []),
  (46, .iload_n 3, 1, [3], .null, []),
  (47, .iconst 1, 1, [], .int 1, []),
  (48, .if_icmp .ge 7, 3, [55], .null, []),
  (51, .iconst 1, 1, [], .int 1, []),
  (52, .goto 4, 3, [56], .null, []),
  (55, .iload_n 3, 1, [3], .null, []),
  (56, .ireturn, 1, [], .null, [])]
abbrev kX12_fitting : Nat := 197
abbrev zq_m197 : zq_T := (yX12_fitting, cX12_fitting, 4, (some .int), zq_c197, (0, 0), [1458, 95, 1457, 67])
def zq_c198 : List zq_I := [
  (0, .aload_n 0, 1, [0], .null, []),
  (1, .iload_n 1, 1, [1], .null, []),
  (2, .invokevirtual 314, 3, [1, 191, 1, 2, 1431, 12, 1, 0, 0], .null, []),
  (5, .ifCond .eq 11, 3, [16], .null, []),
  (8, .aload_n 0, 1, [0], .null, []),
  (9, .iload_n 2, 1, [2], .null, []),
  (10, .invokevirtual 281, 3, [1, 142, 1, 2, 1343, 12, 1, 0, 0], .null, []),
  (13, .ifCond .ne 6, 3, [19], .null, []),
  (16, .bipush (-2), 2, [], .int (-2), []),
  (18, .ireturn, 1, [], .null, []),
  (19, .aload_n 0, 1, [0], .null, []),
  (20, .iload_n 2, 1, [2], .null, []),
  (21, .invokevirtual 320, 3, [1, 186, 1, 3, 1451, 12, 0, 0, 0], .null, []),
  (24, .aload_n 0, 1, [0], .null, []),
  (25, .iload_n 1, 1, [1], .null, []),
  (26, .invokevirtual 323, 3, [1, 197, 1, 4, 1455, 12, 1, 0, 0], .null, []),
  (29, .ireturn, 1, [], .null, [])]
abbrev kX12_fits : Nat := 198
abbrev zq_m198 : zq_T := (yX12_fits, cX12_fits, 3, (some .int), zq_c198, (0, 0), [1450, 95, 1448, 1449])
def zq_c199 : List zq_I := [
  (0, .aload_n 0, 1, [0], .null, []),
  (1, .iload_n 1, 1, [1], .null, []),
  (2, .invokevirtual 320, 3, [1, 186, 1, 3, 1451, 12, 0, 0, 0], .null, []),
  (5, .lconst 1, 1, [], .long 1, []),
  (6, .lstore_n 3, 1, [3], .null, []),
  (7, .iconst 0, 1, [], .int 0, []),
  (8, .istore 5, 2, [5], .null, []),
  (10, .iload 5, 2, [5], .null, [true, false, true, true, false, true]),
  (12, .aload_n 0, 1, [0], .null, []),
  (13, .getfield 123, 3, [12, 32, 0, 48, 0, 1117], .null, []),
  (16, .if_icmp .ge 40, 3, [56], .null, []),
  (19, .iload 5, 2, [5], .null, []),
  (21, .bipush 16, 2, [], .int 16, []),
  (23, .if_icmp .ge 33, 3, [56], .null, []),
  (26, .lload_n 3, 1, [3], .null, []),
  (27, .iload_n 2, 1, [2], .null, []),
  (28, .iload 5, 2, [5], .null, []),
  (30, .ishr, 1, [], .null, []),
  (31, .iconst 1, 1, [], .int 1, []),
  (32, .iand, 1, [], .null, []),
  (33, .iconst 1, 1, [], .int 1, []),
  (34, .if_icmp .ne 13, 3, [47], .null, []),
  (37, .aload_n 0, 1, [0], .null, []),
  (38, .iload 5, 2, [5], .null, []),
  (40, .invokevirtual 323, 3, [1, 197, 1, 4, 1455, 12, 1, 0, 0], .null, []),
  (43, .i2l, 1, [], .null, []),
  (44, .goto 4, 3, [48], .null, []),
  (47, .lconst 1, 1, [], .long 1, []),
  (48, .lmul, 1, [], .null, []),
  (49, .lstore_n 3, 1, [3], .null, []),
  (50, .iinc 5 1, 3, [5], .int 1, []),
  (53, .goto (-43), 3, [10], .null, []),
  (56, .lload_n 3, 1, [3], .null, []),
  (57, .lreturn, 1, [], .null, [])]
abbrev kX12_product : Nat := 199
abbrev zq_m199 : zq_T := (yX12_product, cX12_product, 6, (some .long), zq_c199, (0, 0), [1467, 95, 1466, 68])
def zq_c200 : List zq_I := [
  (0, .lload_n 1, 1, [1], .null, []),
  (1, .lstore 5, 2, [5], .null, []),
  (3, .lload_n 3, 1, [3], .null, []),
  (4, .lstore 7, 2, [7], .null, []),
  (6, .lload 7, 2, [7], .null, [false, false, false, false, false, true, false, true, false, false, false]),
  (8, .lconst 0, 1, [], .long 0, []),
  (9, .lcmp, 1, [], .null, []),
  (10, .ifCond .eq 21, 3, [31], .null, []),
  (13, .lload 5, 2, [5], .null, []),
  (15, .lload 7, 2, [7], .null, []),
  (17, .lrem, 1, [], .null, []),
  (18, .lstore 9, 2, [9], .null, []),
  (20, .lload 7, 2, [7], .null, []),
  (22, .lstore 5, 2, [5], .null, []),
  (24, .lload 9, 2, [9], .null, []),
  (26, .lstore 7, 2, [7], .null, []),
  (28, .goto (-22), 3, [6], .null, []),
  (31, .lload 5, 2, [5], .null, []),
  (33, .lreturn, 1, [], .null, [])]
abbrev kX12_divisor : Nat := 200
abbrev zq_m200 : zq_T := (yX12_divisor, cX12_divisor, 11, (some .long), zq_c200, (0, 0), [1471, 95, 1470, 69])
def zq_c201 : List zq_I := [
  (0, .aload_n 0, 1, [0], .null, []),
  (1, .getfield 123, 3, [12, 32, 0, 48, 0, 1117], .null, []),
  (4, .bipush 16, 2, [], .int 16, []),
  (6, .if_icmp .ge 10, 3, [16], .null, []),
  (9, .aload_n 0, 1, [0], .null, []),
  (10, .getfield 123, 3, [12, 32, 0, 48, 0, 1117], .null, []),
  (13, .goto 5, 3, [18], .null, []),
  (16, .bipush 16, 2, [], .int 16, []),
  (18, .istore 4, 2, [4], .null, []),
  (20, .aload_n 0, 1, [0], .null, []),
  (21, .iload_n 1, 1, [1], .null, []),
  (22, .invokevirtual 281, 3, [1, 142, 1, 2, 1343, 12, 1, 0, 0], .null, []),
  (25, .ifCond .eq 28, 3, [53], .null, []),
  (28, .aload_n 0, 1, [0], .null, []),
  (29, .iload_n 2, 1, [2], .null, []),
  (30, .iconst 0, 1, [], .int 0, []),
  (31, .iconst 1, 1, [], .int 1, []),
  (32, .iload 4, 2, [4], .null, []),
  (34, .ishl, 1, [], .null, []),
  (35, .iconst 1, 1, [], .int 1, []),
  (36, .isub, 1, [], .null, []),
  (37, .invokevirtual 7, 3, [1, 139, 3, 4, 1050, 12, 1, 0, 0], .null, []),
  (40, .ifCond .eq 13, 3, [53], .null, []),
  (43, .aload_n 0, 1, [0], .null, []),
  (44, .iload_n 3, 1, [3], .null, []),
  (45, .iconst 0, 1, [], .int 0, []),
  (46, .iconst 1, 1, [], .int 1, []),
  (47, .invokevirtual 7, 3, [1, 139, 3, 4, 1050, 12, 1, 0, 0], .null, []),
  (50, .ifCond .ne 7, 3, [57], .null, []),
  (53, .ldc2_w 326, 3, [2, 1463], .long (-4611686018427387904), []),
  (56, .lreturn, 1, [], .null, []),
  (57, .lconst 0, 1, [], .long 0, []),
  (58, .lstore 5, 2, [5], .null, []),
  (60, .iconst 0, 1, [], .int 0, []),
  (61, .istore 7, 2, [7], .null, []),
  (63, .iload 7, 2, [7], .null, [true, true, true, true, false, true, false, true, false, false, false]),
  (65, .aload_n 0, 1, [0], .null, []),
  (66, .getfield 14, 3, [12, 2, 0, 48, 0, 1087], .null, []),
  (69, .if_icmp .ge 21, 3, [90], .null, []),
  (72, .lload 5, 2, [5], .null, []),
  (74, .aload_n 0, 1, [0], .null, []),
  (75, .iload 7, 2, [7], .null, []),
  (77, .iload_n 2, 1, [2], .null, []),
  (78, .invokevirtual 328, 3, [1, 199, 2, 6, 1464, 12, 1, 0, 0], .null, []),
  (81, .ladd, 1, [], .null, []),
  (82, .lstore 5, 2, [5], .null, []),
  (84, .iinc 7 1, 3, [7], .int 1, []),
  (87, .goto (-24), 3, [63], .null, []),
  (90, .aload_n 0, 1, [0], .null, []),
  (91, .iload_n 1, 1, [1], .null, []),
  (92, .iload_n 2, 1, [2], .null, []),
  (93, .invokevirtual 328, 3, [1, 199, 2, 6, 1464, 12, 1, 0, 0], .null, []),
  (96, .lstore 7, 2, [7], .null, []),
  (98, .aload_n 0, 1, [0], .null, []),
  (99, .lload 7, 2, [7], .null, []),
  (101, .lload 5, 2, [5], .null, []),
  (103, .invokevirtual 332, 3, [1, 200, 2, 11, 1468, 12, 1, 0, 0], .null, []),
  (106, .lstore 9, 2, [9], .null, []),
  (108, .iload_n 3, 1, [3], .null, []),
  (109, .ifCond .ne 11, 3, [120], .null, []),
  (112, .lload 7, 2, [7], .null, []),
  (114, .lload 9, 2, [9], .null, []),
  (116, .ldiv, 1, [], .null, []),
  (117, .goto 8, 3, [125], .null, []),
  (120, .lload 5, 2, [5], .null, []),
  (122, .lload 9, 2, [9], .null, []),
  (124, .ldiv, 1, [], .null, []),
  (125, .lreturn, 1, [], .null, [])]
abbrev kX12_odds : Nat := 201
abbrev zq_m201 : zq_T := (yX12_odds, cX12_odds, 11, (some .long), zq_c201, (0, 0), [1462, 95, 1460, 1461])
def zq_c202 : List zq_I := [
  (0, .aload_n 0, 1, [0], .null, []),
  (1, .iload_n 1, 1, [1], .null, []),
  (2, .iconst 0, 1, [], .int 0, []),
  (3, .sipush 4095, 3, [], .int 4095, []),
  (6, .invokevirtual 7, 3, [1, 139, 3, 4, 1050, 12, 1, 0, 0], .null, []),
  (9, .ifCond .ne 6, 3, [15], .null, []),
  (12, .bipush (-2), 2, [], .int (-2), []),
  (14, .ireturn, 1, [], .null, []),
  (15, .aload_n 0, 1, [0], .null, []),
  (16, .getfield 138, 3, [12, 37, 0, 48, 0, 1122], .null, []),
  (19, .bipush 8, 2, [], .int 8, []),
  (21, .if_icmp .ne 6, 3, [27], .null, []),
  (24, .bipush (-4), 2, [], .int (-4), []),
  (26, .ireturn, 1, [], .null, []),
  (27, .aload_n 0, 1, [0], .null, []),
  (28, .getfield 141, 3, [12, 38, 2, 48, 72, 1123], .null, []),
  (31, .aload_n 0, 1, [0], .null, []),
  (32, .getfield 138, 3, [12, 37, 0, 48, 0, 1122], .null, []),
  (35, .iload_n 1, 1, [1], .null, []),
  (36, .iastore, 1, [], .null, []),
  (37, .aload_n 0, 1, [0], .null, []),
  (38, .dup, 1, [], .null, []),
  (39, .getfield 138, 3, [12, 37, 0, 48, 0, 1122], .null, []),
  (42, .iconst 1, 1, [], .int 1, []),
  (43, .iadd, 1, [], .null, []),
  (44, .putfield 138, 3, [12, 37, 0, 48, 0, 1122], .null, []),
  (47, .aload_n 0, 1, [0], .null, []),
  (48, .getfield 138, 3, [12, 37, 0, 48, 0, 1122], .null, []),
  (51, .ireturn, 1, [], .null, [])]
abbrev kX12_peg : Nat := 202
abbrev zq_m202 : zq_T := (yX12_peg, cX12_peg, 2, (some .int), zq_c202, (0, 0), [1475, 95, 1473, 1474])
def zq_c203 : List zq_I := [
  (0, .iconst 0, 1, [], .int 0, []),
  (1, .istore_n 3, 1, [3], .null, []),
  (2, .iconst 0, 1, [], .int 0, []),
  (3, .istore 4, 2, [4], .null, []),
  (5, .iconst 0, 1, [], .int 0, []),
  (6, .istore 5, 2, [5], .null, []),
  (8, .iconst 0, 1, [], .int 0, []),
  (9, .istore 6, 2, [6], .null, []),
  (11, .iconst 0, 1, [], .int 0, []),
  (12, .istore 7, 2, [7], .null, []),
  (14, .iload 7, 2, [7], .null, [true, true, true, true, true, true, true, true, false, false]),
  (16, .aload_n 0, 1, [0], .null, []),
  (17, .getfield 138, 3, [12, 37, 0, 48, 0, 1122], .null, []),
  (20, .if_icmp .ge 145, 3, [165], .null, []),
  (23, .aload_n 0, 1, [0], .null, []),
  (24, .getfield 141, 3, [12, 38, 2, 48, 72, 1123], .null, []),
  (27, .iload 7, 2, [7], .null, []),
  (29, .iaload, 1, [], .null, []),
  (30, .bipush 64, 2, [], .int 64, []),
  (32, .irem, 1, [], .null, []),
  (33, .aload_n 0, 1, [0], .null, []),
  (34, .getfield 17, 3, [12, 4, 2, 48, 51, 1089], .null, []),
  (37, .iload_n 1, 1, [1], .null, []),
  (38, .iaload, 1, [], .null, []),
  (39, .bipush 64, 2, [], .int 64, []),
  (41, .irem, 1, [], .null, []),
  (42, .isub, 1, [], .null, []),
  (43, .istore 8, 2, [8], .null, []),
  (45, .aload_n 0, 1, [0], .null, []),
  (46, .getfield 141, 3, [12, 38, 2, 48, 72, 1123], .null, []),
  (49, .iload 7, 2, [7], .null, []),
  (51, .iaload, 1, [], .null, []),
  (52, .bipush 64, 2, [], .int 64, []),
  (54, .idiv, 1, [], .null, []),
  (55, .aload_n 0, 1, [0], .null, []),
  (56, .getfield 17, 3, [12, 4, 2, 48, 51, 1089], .null, []),
  (59, .iload_n 1, 1, [1], .null, []),
  (60, .iaload, 1, [], .null, []),
  (61, .bipush 64, 2, [], .int 64, []),
  (63, .idiv, 1, [], .null, []),
  (64, .isub, 1, [], .null, []),
  (65, .istore 9, 2, [9], .null, []),
  (67, .iload_n 3, 1, [3], .null, []),
  (68, .ifCond .ne 15, 3, [83], .null, []),
  (71, .aload_n 0, 1, [0], .null, []),
  (72, .iload 8, 2, [8], .null, []),
  (74, .ineg, 1, [], .null, []),
  (75, .iconst 1, 1, [], .int 1, []),
  (76, .iload_n 2, 1, [2], .null, []),
  (77, .invokevirtual 7, 3, [1, 139, 3, 4, 1050, 12, 1, 0, 0], .null, []),
  (80, .ifCond .eq 7, 3, [87], .null, []),
  (83, .iconst 1, 1, [], .int 1, []),
  (84, .goto 4, 3, [88], .null, []),
  (87, .iconst 0, 1, [], .int 0, []),
  (88, .istore_n 3, 1, [3], .null, [true, true, true, false, true, true, true, true, true, true]),
  (89, .iload 4, 2, [4], .null, []),
  (91, .ifCond .ne 14, 3, [105], .null, []),
  (94, .aload_n 0, 1, [0], .null, []),
  (95, .iload 8, 2, [8], .null, []),
  (97, .iconst 1, 1, [], .int 1, []),
  (98, .iload_n 2, 1, [2], .null, []),
  (99, .invokevirtual 7, 3, [1, 139, 3, 4, 1050, 12, 1, 0, 0], .null, []),
  (102, .ifCond .eq 7, 3, [109], .null, []),
  (105, .iconst 1, 1, [], .int 1, []),
  (106, .goto 4, 3, [110], .null, []),
  (109, .iconst 0, 1, [], .int 0, []),
  (110, .istore 4, 2, [4], .null, [true, true, true, true, false, true, true, true, false, true]),
  (112, .iload 5, 2, [5], .null, []),
  (114, .ifCond .ne 15, 3, [129], .null, []),
  (117, .aload_n 0, 1, [0], .null, []),
  (118, .iload 9, 2, [9], .null, []),
  (120, .ineg, 1, [], .null, []),
  (121, .iconst 1, 1, [], .int 1, []),
  (122, .iload_n 2, 1, [2], .null, []),
  (123, .invokevirtual 7, 3, [1, 139, 3, 4, 1050, 12, 1, 0, 0], .null, []),
  (126, .ifCond .eq 7, 3, [133], .null, []),
  (129, .iconst 1, 1, [], .int 1, []),
  (130, .goto 4, 3, [134], .null, []),
  (133, .iconst 0, 1, [], .int 0, []),
  (134, .istore 5, 2, [5], .null, [true, true, true, true, true, false, true, true, false, true]),
  (136, .iload 6, 2, [6], .null, []),
  (138, .ifCond .ne 14, 3, [152], .null, []),
  (141, .aload_n 0, 1, [0], .null, []),
  (142, .iload 9, 2, [9], .null, []),
  (144, .iconst 1, 1, [], .int 1, []),
  (145, .iload_n 2, 1, [2], .null, []),
  (146, .invokevirtual 7, 3, [1, 139, 3, 4, 1050, 12, 1, 0, 0], .null, []),
  (149, .ifCond .eq 7, 3, [156], .null, []),
  (152, .iconst 1, 1, [], .int 1, []),
  (153, .goto 4, 3, [157], .null, []),
  (156, .iconst 0, 1, [], .int 0, []),
  (157, .istore 6, 2, [6], .null, [true, true, true, true, true, true, false, true, false, false]),
  (159, .iinc 7 1, 3, [7], .int 1, []),
  (162, .goto (-148), 3, [14], .null, []),
  (165, .iload_n 3, 1, [3], .null, []),
  (166, .ifCond .eq 22, 3, [188], .null, []),
  (169, .iload 4, 2, [4], .null, []),
  (171, .ifCond .eq 17, 3, [188], .null, []),
  (174, .iload 5, 2, [5], .null, []),
  (176, .ifCond .eq 12, 3, [188], .null, []),
  (179, .iload 6, 2, [6], .null, []),
  (181, .ifCond .eq 7, 3, [188], .null, []),
  (184, .iconst 1, 1, [], .int 1, []),
  (185, .goto 4, 3, [189], .null, []),
  (188, .iconst 0, 1, [], .int 0, []),
  (189, .ireturn, 1, [], .null, [])]
abbrev kX12_isHeld : Nat := 203
abbrev zq_m203 : zq_T := (yX12_isHeld, cX12_isHeld, 10, (some .boolean), zq_c203, (0, 0), [1483, 95, 1482, 70])
def zq_c204 : List zq_I := [
  (0, .aload_n 0, 1, [0], .null, []),
  (1, .iload_n 1, 1, [1], .null, []),
  (2, .invokevirtual 51, 3, [1, 140, 1, 2, 1076, 12, 1, 0, 0], .null, []),
  (5, .ifCond .eq 14, 3, [19], .null, []),
  (8, .aload_n 0, 1, [0], .null, []),
  (9, .iload_n 2, 1, [2], .null, []),
  (10, .iconst 0, 1, [], .int 0, []),
  (11, .bipush 63, 2, [], .int 63, []),
  (13, .invokevirtual 7, 3, [1, 139, 3, 4, 1050, 12, 1, 0, 0], .null, []),
  (16, .ifCond .ne 6, 3, [22], .null, []),
  (19, .bipush (-2), 2, [], .int (-2), []),
  (21, .ireturn, 1, [], .null, []),
  (22, .aload_n 0, 1, [0], .null, []),
  (23, .iload_n 1, 1, [1], .null, []),
  (24, .iload_n 2, 1, [2], .null, []),
  (25, .invokevirtual 336, 3, [1, 203, 2, 10, 1480, 12, 1, 0, 0], .null, []),
  (28, .ifCond .eq 7, 3, [35], .null, []),
  (31, .iconst 1, 1, [], .int 1, []),
  (32, .goto 4, 3, [36], .null, []),
  (35, .iconst 0, 1, [], .int 0, []),
  (36, .ireturn, 1, [], .null, [])]
abbrev kX12_holds : Nat := 204
abbrev zq_m204 : zq_T := (yX12_holds, cX12_holds, 3, (some .int), zq_c204, (0, 0), [1479, 95, 1477, 1478])
def zq_c205 : List zq_I := [
  (0, .iconst 1, 1, [], .int 1, []),
  (1, .istore_n 2, 1, [2], .null, []),
  (2, .iconst 1, 1, [], .int 1, []),
  (3, .istore_n 3, 1, [3], .null, []),
  (4, .iconst 1, 1, [], .int 1, []),
  (5, .istore 4, 2, [4], .null, []),
  (7, .iconst 1, 1, [], .int 1, []),
  (8, .istore 5, 2, [5], .null, []),
  (10, .iconst 0, 1, [], .int 0, []),
  (11, .istore 6, 2, [6], .null, []),
  (13, .iload 6, 2, [6], .null, [true, true, true, true, true, true, true]),
  (15, .aload_n 0, 1, [0], .null, []),
  (16, .getfield 138, 3, [12, 37, 0, 48, 0, 1122], .null, []),
  (19, .if_icmp .ge 121, 3, [140], .null, []),
  (22, .iload_n 2, 1, [2], .null, []),
  (23, .ifCond .eq 24, 3, [47], .null, []),
  (26, .iload_n 1, 1, [1], .null, []),
  (27, .bipush 64, 2, [], .int 64, []),
  (29, .irem, 1, [], .null, []),
  (30, .aload_n 0, 1, [0], .null, []),
  (31, .getfield 141, 3, [12, 38, 2, 48, 72, 1123], .null, []),
  (34, .iload 6, 2, [6], .null, []),
  (36, .iaload, 1, [], .null, []),
  (37, .bipush 64, 2, [], .int 64, []),
  (39, .irem, 1, [], .null, []),
  (40, .if_icmp .ge 7, 3, [47], .null, []),
  (43, .iconst 1, 1, [], .int 1, []),
  (44, .goto 4, 3, [48], .null, []),
  (47, .iconst 0, 1, [], .int 0, []),
  (48, .istore_n 2, 1, [2], .null, [true, true, false, true, true, true, true]),
  (49, .iload_n 3, 1, [3], .null, []),
  (50, .ifCond .eq 24, 3, [74], .null, []),
  (53, .iload_n 1, 1, [1], .null, []),
  (54, .bipush 64, 2, [], .int 64, []),
  (56, .irem, 1, [], .null, []),
  (57, .aload_n 0, 1, [0], .null, []),
  (58, .getfield 141, 3, [12, 38, 2, 48, 72, 1123], .null, []),
  (61, .iload 6, 2, [6], .null, []),
  (63, .iaload, 1, [], .null, []),
  (64, .bipush 64, 2, [], .int 64, []),
  (66, .irem, 1, [], .null, []),
  (67, .if_icmp .le 7, 3, [74], .null, []),
  (70, .iconst 1, 1, [], .int 1, []),
  (71, .goto 4, 3, [75], .null, []),
  (74, .iconst 0, 1, [], .int 0, []),
  (75, .istore_n 3, 1, [3], .null, [true, true, true, false, true, true, true]),
  (76, .iload 4, 2, [4], .null, []),
  (78, .ifCond .eq 24, 3, [102], .null, []),
  (81, .iload_n 1, 1, [1], .null, []),
  (82, .bipush 64, 2, [], .int 64, []),
  (84, .idiv, 1, [], .null, []),
  (85, .aload_n 0, 1, [0], .null, []),
  (86, .getfield 141, 3, [12, 38, 2, 48, 72, 1123], .null, []),
  (89, .iload 6, 2, [6], .null, []),
  (91, .iaload, 1, [], .null, []),
  (92, .bipush 64, 2, [], .int 64, []),
  (94, .idiv, 1, [], .null, []),
  (95, .if_icmp .ge 7, 3, [102], .null, []),
  (98, .iconst 1, 1, [], .int 1, []),
  (99, .goto 4, 3, [103], .null, []),
  (102, .iconst 0, 1, [], .int 0, []),
  (103, .istore 4, 2, [4], .null, [true, true, true, true, false, true, true]),
  (105, .iload 5, 2, [5], .null, []),
  (107, .ifCond .eq 24, 3, [131], .null, []),
  (110, .iload_n 1, 1, [1], .null, []),
  (111, .bipush 64, 2, [], .int 64, []),
  (113, .idiv, 1, [], .null, []),
  (114, .aload_n 0, 1, [0], .null, []),
  (115, .getfield 141, 3, [12, 38, 2, 48, 72, 1123], .null, []),
  (118, .iload 6, 2, [6], .null, []),
  (120, .iaload, 1, [], .null, []),
  (121, .bipush 64, 2, [], .int 64, []),
  (123, .idiv, 1, [], .null, []),
  (124, .if_icmp .le 7, 3, [131], .null, []),
  (127, .iconst 1, 1, [], .int 1, []),
  (128, .goto 4, 3, [132], .null, []),
  (131, .iconst 0, 1, [], .int 0, []),
  (132, .istore 5, 2, [5], .null, [true, true, true, true, true, false, true]),
  (134, .iinc 6 1, 3, [6], .int 1, []),
  (137, .goto (-124), 3, [13], .null, []),
  (140, .iload_n 2, 1, [2], .null, []),
  (141, .ifCond .ne 17, 3, [158], .null, []),
  (144, .iload_n 3, 1, [3], .null, []),
  (145, .ifCond .ne 13, 3, [158], .null, []),
  (148, .iload 4, 2, [4], .null, []),
  (150, .ifCond .ne 8, 3, [158], .null, []),
  (153, .iload 5, 2, [5], .null, []),
  (155, .ifCond .eq 7, 3, [162], .null, []),
  (158, .iconst 1, 1, [], .int 1, []),
  (159, .goto 4, 3, [163], .null, []),
  (162, .iconst 0, 1, [], .int 0, []),
  (163, .ireturn, 1, [], .null, [])]
abbrev kX12_isOut : Nat := 205
abbrev zq_m205 : zq_T := (yX12_isOut, cX12_isOut, 7, (some .boolean), zq_c205, (0, 0), [1491, 95, 1490, 71])
def zq_c206 : List zq_I := [
  (0, .aload_n 0, 1, [0], .null, []),
  (1, .iload_n 1, 1, [1], .null, []),
  (2, .invokevirtual 281, 3, [1, 142, 1, 2, 1343, 12, 1, 0, 0], .null, []),
  (5, .ifCond .eq 14, 3, [19], .null, []),
  (8, .aload_n 0, 1, [0], .null, []),
  (9, .iload_n 2, 1, [2], .null, []),
  (10, .iconst 0, 1, [], .int 0, []),
  (11, .bipush 63, 2, [], .int 63, []),
  (13, .invokevirtual 7, 3, [1, 139, 3, 4, 1050, 12, 1, 0, 0], .null, []),
  (16, .ifCond .ne 6, 3, [22], .null, []),
  (19, .bipush (-2), 2, [], .int (-2), []),
  (21, .ireturn, 1, [], .null, []),
  (22, .aload_n 0, 1, [0], .null, []),
  (23, .iload_n 1, 1, [1], .null, []),
  (24, .invokevirtual 320, 3, [1, 186, 1, 3, 1451, 12, 0, 0, 0], .null, []),
  (27, .iconst 0, 1, [], .int 0, []),
  (28, .istore_n 3, 1, [3], .null, []),
  (29, .iconst 0, 1, [], .int 0, []),
  (30, .istore 4, 2, [4], .null, []),
  (32, .iload 4, 2, [4], .null, [true, false, true, true, true]),
  (34, .aload_n 0, 1, [0], .null, []),
  (35, .getfield 1, 3, [12, 0, 0, 48, 0, 1085], .null, []),
  (38, .if_icmp .ge 41, 3, [79], .null, []),
  (41, .iload_n 3, 1, [3], .null, []),
  (42, .aload_n 0, 1, [0], .null, []),
  (43, .iload 4, 2, [4], .null, []),
  (45, .iload_n 2, 1, [2], .null, []),
  (46, .invokevirtual 336, 3, [1, 203, 2, 10, 1480, 12, 1, 0, 0], .null, []),
  (49, .ifCond .eq 21, 3, [70], .null, []),
  (52, .aload_n 0, 1, [0], .null, []),
  (53, .aload_n 0, 1, [0], .null, []),
  (54, .getfield 111, 3, [12, 28, 2, 48, 64, 1113], .null, []),
  (57, .iload 4, 2, [4], .null, []),
  (59, .iaload, 1, [], .null, []),
  (60, .invokevirtual 339, 3, [1, 205, 1, 7, 1488, 12, 1, 0, 0], .null, []),
  (63, .ifCond .eq 7, 3, [70], .null, []),
  (66, .iconst 1, 1, [], .int 1, []),
  (67, .goto 4, 3, [71], .null, []),
  (70, .iconst 0, 1, [], .int 0, []),
  (71, .iadd, 1, [], .null, []),
  (72, .istore_n 3, 1, [3], .null, []),
  (73, .iinc 4 1, 3, [4], .int 1, []),
  (76, .goto (-44), 3, [32], .null, []),
  (79, .iload_n 3, 1, [3], .null, []),
  (80, .ireturn, 1, [], .null, [])]
abbrev kX12_bars : Nat := 206
abbrev zq_m206 : zq_T := (yX12_bars, cX12_bars, 5, (some .int), zq_c206, (0, 0), [1487, 95, 1485, 1486])
def zq_c207 : List zq_I := [
  (0, .iconst 0, 1, [], .int 0, []),
  (1, .istore_n 3, 1, [3], .null, []),
  (2, .iload_n 3, 1, [3], .null, [true, true, true, true]),
  (3, .aload_n 0, 1, [0], .null, []),
  (4, .getfield 1, 3, [12, 0, 0, 48, 0, 1085], .null, []),
  (7, .if_icmp .ge 21, 3, [28], .null, []),
  (10, .aload_n 0, 1, [0], .null, []),
  (11, .iload_n 1, 1, [1], .null, []),
  (12, .iload_n 3, 1, [3], .null, []),
  (13, .iload_n 2, 1, [2], .null, []),
  (14, .invokevirtual 287, 3, [1, 178, 3, 6, 1359, 12, 1, 0, 0], .null, []),
  (17, .ifCond .le 5, 3, [22], .null, []),
  (20, .iconst 1, 1, [], .int 1, []),
  (21, .ireturn, 1, [], .null, []),
  (22, .iinc 3 1, 3, [3], .int 1, []),
  (25, .goto (-23), 3, [2], .null, []),
  (28, .iconst 0, 1, [], .int 0, []),
  (29, .ireturn, 1, [], .null, [])]
abbrev kX12_pushesSome : Nat := 207
abbrev zq_m207 : zq_T := (yX12_pushesSome, cX12_pushesSome, 4, (some .boolean), zq_c207, (0, 0), [1499, 95, 1498, 72])
def zq_c208 : List zq_I := [
  (0, .iconst 0, 1, [], .int 0, []),
  (1, .istore_n 1, 1, [1], .null, []),
  (2, .iconst 0, 1, [], .int 0, []),
  (3, .istore_n 2, 1, [2], .null, []),
  (4, .iload_n 2, 1, [2], .null, [true, true, true]),
  (5, .aload_n 0, 1, [0], .null, []),
  (6, .getfield 1, 3, [12, 0, 0, 48, 0, 1085], .null, []),
  (9, .if_icmp .ge 34, 3, [43], .null, []),
  (12, .iload_n 1, 1, [1], .null, []),
  (13, .ifCond .eq 13, 3, [26], .null, []),
  (16, .aload_n 0, 1, [0], .null, []),
  (17, .getfield 21, 3, [12, 3, 2, 48, 50, 1088], .null, []),
  (20, .iload_n 2, 1, [2], .null, []),
  (21, .iaload, 1, [], .null, []),
  (22, .iload_n 1, 1, [1], .null, []),
  (23, .if_icmp .ge 12, 3, [35], .null, []),
  (26, .aload_n 0, 1, [0], .null, []),
  (27, .getfield 21, 3, [12, 3, 2, 48, 50, 1088], .null, []),
  (30, .iload_n 2, 1, [2], .null, []),
  (31, .iaload, 1, [], .null, []),
  (32, .goto 4, 3, [36], .null, []),
  (35, .iload_n 1, 1, [1], .null, []),
  (36, .istore_n 1, 1, [1], .null, []),
  (37, .iinc 2 1, 3, [2], .int 1, []),
  (40, .goto (-36), 3, [4], .null, []),
  (43, .iload_n 1, 1, [1], .null, []),
  (44, .ireturn, 1, [], .null, [])]
abbrev kX12_lightest : Nat := 208
abbrev zq_m208 : zq_T := (yX12_lightest, cX12_lightest, 3, (some .int), zq_c208, (0, 0), [1503, 95, 1502, 73])
def zq_c209 : List zq_I := [
  (0, .aload_n 0, 1, [0], .null, []),
  (1, .iload_n 1, 1, [1], .null, []),
  (2, .invokevirtual 281, 3, [1, 142, 1, 2, 1343, 12, 1, 0, 0], .null, []),
  (5, .ifCond .eq 13, 3, [18], .null, []),
  (8, .aload_n 0, 1, [0], .null, []),
  (9, .iload_n 2, 1, [2], .null, []),
  (10, .iconst 0, 1, [], .int 0, []),
  (11, .iconst 5, 1, [], .int 5, []),
  (12, .invokevirtual 7, 3, [1, 139, 3, 4, 1050, 12, 1, 0, 0], .null, []),
  (15, .ifCond .ne 7, 3, [22], .null, []),
  (18, .ldc2_w 326, 3, [2, 1463], .long (-4611686018427387904), []),
  (21, .lreturn, 1, [], .null, []),
  (22, .iconst 0, 1, [], .int 0, []),
  (23, .istore_n 3, 1, [3], .null, []),
  (24, .iconst 0, 1, [], .int 0, []),
  (25, .istore 4, 2, [4], .null, []),
  (27, .iconst 0, 1, [], .int 0, []),
  (28, .istore 5, 2, [5], .null, []),
  (30, .iconst 0, 1, [], .int 0, []),
  (31, .istore 6, 2, [6], .null, []),
  (33, .iconst 0, 1, [], .int 0, []),
  (34, .istore 7, 2, [7], .null, []),
  (36, .iconst 0, 1, [], .int 0, []),
  (37, .istore 8, 2, [8], .null, []),
  (39, .iload 8, 2, [8], .null, [true, true, true, true, true, true, true, true, true, false, false, false, false, false]),
  (41, .aload_n 0, 1, [0], .null, []),
  (42, .getfield 11, 3, [12, 1, 0, 48, 0, 1086], .null, []),
  (45, .if_icmp .ge 119, 3, [164], .null, []),
  (48, .aload_n 0, 1, [0], .null, []),
  (49, .iload_n 1, 1, [1], .null, []),
  (50, .iload 8, 2, [8], .null, []),
  (52, .invokevirtual 342, 3, [1, 207, 2, 4, 1496, 12, 1, 0, 0], .null, []),
  (55, .istore 9, 2, [9], .null, []),
  (57, .aload_n 0, 1, [0], .null, []),
  (58, .iconst 1, 1, [], .int 1, []),
  (59, .aload_n 0, 1, [0], .null, []),
  (60, .invokevirtual 345, 3, [1, 208, 0, 3, 1500, 12, 1, 0, 0], .null, []),
  (63, .iload 8, 2, [8], .null, []),
  (65, .iload_n 1, 1, [1], .null, []),
  (66, .invokevirtual 278, 3, [1, 173, 4, 9, 1371, 12, 1, 0, 0], .null, []),
  (69, .ifCond .eq 7, 3, [76], .null, []),
  (72, .iconst 1, 1, [], .int 1, []),
  (73, .goto 4, 3, [77], .null, []),
  (76, .iconst 0, 1, [], .int 0, []),
  (77, .istore 10, 2, [10], .null, [true, true, true, true, true, true, true, true, true, true, false, false, false, false]),
  (79, .iload_n 3, 1, [3], .null, []),
  (80, .iload 9, 2, [9], .null, []),
  (82, .ifCond .eq 7, 3, [89], .null, []),
  (85, .iconst 1, 1, [], .int 1, []),
  (86, .goto 4, 3, [90], .null, []),
  (89, .iconst 0, 1, [], .int 0, []),
  (90, .iadd, 1, [], .null, [true, true, true, false, true, true, true, true, true, true, true, false, false, false]),
  (91, .istore_n 3, 1, [3], .null, []),
  (92, .iload 9, 2, [9], .null, []),
  (94, .ifCond .eq 7, 3, [101], .null, []),
  (97, .iconst 0, 1, [], .int 0, []),
  (98, .goto 7, 3, [105], .null, []),
  (101, .iload 4, 2, [4], .null, []),
  (103, .iconst 1, 1, [], .int 1, []),
  (104, .iadd, 1, [], .null, []),
  (105, .istore 4, 2, [4], .null, [true, true, true, true, false, true, true, true, true, true, true, false, false, false]),
  (107, .iload 4, 2, [4], .null, []),
  (109, .iload 5, 2, [5], .null, []),
  (111, .if_icmp .le 8, 3, [119], .null, []),
  (114, .iload 4, 2, [4], .null, []),
  (116, .goto 5, 3, [121], .null, []),
  (119, .iload 5, 2, [5], .null, []),
  (121, .istore 5, 2, [5], .null, [true, true, true, true, true, false, true, true, true, true, true, false, false, false]),
  (123, .iload 6, 2, [6], .null, []),
  (125, .iload 10, 2, [10], .null, []),
  (127, .ifCond .eq 7, 3, [134], .null, []),
  (130, .iconst 1, 1, [], .int 1, []),
  (131, .goto 4, 3, [135], .null, []),
  (134, .iconst 0, 1, [], .int 0, []),
  (135, .iadd, 1, [], .null, [true, true, true, true, true, true, false, true, true, true, true, false, false, false]),
  (136, .istore 6, 2, [6], .null, []),
  (138, .iload 7, 2, [7], .null, []),
  (140, .iload 10, 2, [10], .null, []),
  (142, .ifCond .eq 12, 3, [154], .null, []),
  (145, .iload 9, 2, [9], .null, []),
  (147, .ifCond .eq 7, 3, [154], .null, []),
  (150, .iconst 1, 1, [], .int 1, []),
  (151, .goto 4, 3, [155], .null, []),
  (154, .iconst 0, 1, [], .int 0, []),
  (155, .iadd, 1, [], .null, [true, true, true, true, true, true, true, false, true, false, false, false, false, false]),
  (156, .istore 7, 2, [7], .null, []),
  (158, .iinc 8 1, 3, [8], .int 1, []),
  (161, .goto (-122), 3, [39], .null, []),
  (164, .iload_n 3, 1, [3], .null, []),
  (165, .ifCond .ne 7, 3, [172], .null, []),
  (168, .lconst 0, 1, [], .long 0, []),
  (169, .goto 8, 3, [177], .null, []),
  (172, .aload_n 0, 1, [0], .null, []),
  (173, .getfield 11, 3, [12, 1, 0, 48, 0, 1086], .null, []),
  (176, .i2l, 1, [], .null, []),
  (177, .lstore 8, 2, [8], .null, [true, false, true, true, false, true, true, true, false, false, false, false, false, false]),
  (179, .iload_n 3, 1, [3], .null, []),
  (180, .ifCond .ne 7, 3, [187], .null, []),
  (183, .lconst 1, 1, [], .long 1, []),
  (184, .goto 5, 3, [189], .null, []),
  (187, .iload_n 3, 1, [3], .null, []),
  (188, .i2l, 1, [], .null, []),
  (189, .lstore 10, 2, [10], .null, [true, false, true, true, false, true, true, true, true, false, false, false, false, false]),
  (191, .aload_n 0, 1, [0], .null, []),
  (192, .lload 8, 2, [8], .null, []),
  (194, .lload 10, 2, [10], .null, []),
  (196, .invokevirtual 332, 3, [1, 200, 2, 11, 1468, 12, 1, 0, 0], .null, []),
  (199, .lstore 12, 2, [12], .null, []),
  (201, .iload_n 2, 1, [2], .null, []),
  (202, .tableswitch 57 0 4 #[34, 37, 41, 47, 53], 34, [259, 236, 239, 243, 249, 255], .null, []),
  (236, .iload_n 3, 1, [3], .null, []),
  (237, .i2l, 1, [], .null, []),
  (238, .lreturn, 1, [], .null, []),
  (239, .iload 5, 2, [5], .null, []),
  (241, .i2l, 1, [], .null, []),
  (242, .lreturn, 1, [], .null, []),
  (243, .lload 8, 2, [8], .null, []),
  (245, .lload 12, 2, [12], .null, []),
  (247, .ldiv, 1, [], .null, []),
  (248, .lreturn, 1, [], .null, []),
  (249, .lload 10, 2, [10], .null, []),
  (251, .lload 12, 2, [12], .null, []),
  (253, .ldiv, 1, [], .null, []),
  (254, .lreturn, 1, [], .null, []),
  (255, .iload 6, 2, [6], .null, []),
  (257, .i2l, 1, [], .null, []),
  (258, .lreturn, 1, [], .null, []),
  (259, .iload 7, 2, [7], .null, []),
  (261, .i2l, 1, [], .null, []),
  (262, .lreturn, 1, [], .null, [])]
abbrev kX12_seldom : Nat := 209
abbrev zq_m209 : zq_T := (yX12_seldom, cX12_seldom, 14, (some .long), zq_c209, (0, 0), [1495, 95, 1493, 1494])
def zq_c210 : List zq_I := [
  (0, .aload_n 0, 1, [0], .null, []),
  (1, .aload_n 0, 1, [0], .null, []),
  (2, .getfield 17, 3, [12, 4, 2, 48, 51, 1089], .null, []),
  (5, .iload_n 2, 1, [2], .null, []),
  (6, .iaload, 1, [], .null, []),
  (7, .aload_n 0, 1, [0], .null, []),
  (8, .iload_n 1, 1, [1], .null, []),
  (9, .iload_n 3, 1, [3], .null, []),
  (10, .invokevirtual 290, 3, [1, 179, 2, 3, 1407, 12, 1, 0, 0], .null, []),
  (13, .invokevirtual 293, 3, [1, 183, 2, 5, 1411, 12, 1, 0, 0], .null, []),
  (16, .istore 4, 2, [4], .null, []),
  (18, .aload_n 0, 1, [0], .null, []),
  (19, .iload_n 1, 1, [1], .null, []),
  (20, .iload_n 2, 1, [2], .null, []),
  (21, .iload_n 3, 1, [3], .null, []),
  (22, .invokevirtual 287, 3, [1, 178, 3, 6, 1359, 12, 1, 0, 0], .null, []),
  (25, .ifCond .le 21, 3, [46], .null, []),
  (28, .iload 4, 2, [4], .null, []),
  (30, .ifCond .lt 16, 3, [46], .null, []),
  (33, .aload_n 0, 1, [0], .null, []),
  (34, .iload 4, 2, [4], .null, []),
  (36, .invokevirtual 296, 3, [1, 182, 1, 3, 1415, 12, 1, 0, 0], .null, []),
  (39, .ifCond .eq 7, 3, [46], .null, []),
  (42, .iconst 1, 1, [], .int 1, []),
  (43, .goto 4, 3, [47], .null, []),
  (46, .iconst 0, 1, [], .int 0, []),
  (47, .ireturn, 1, [], .null, [])]
abbrev kX12_canGo : Nat := 210
abbrev zq_m210 : zq_T := (yX12_canGo, cX12_canGo, 5, (some .boolean), zq_c210, (0, 0), [1511, 95, 1510, 74])
def zq_c211 : List zq_I := [
  (0, .aload_n 0, 1, [0], .null, []),
  (1, .iload_n 1, 1, [1], .null, []),
  (2, .invokevirtual 281, 3, [1, 142, 1, 2, 1343, 12, 1, 0, 0], .null, []),
  (5, .ifCond .eq 11, 3, [16], .null, []),
  (8, .aload_n 0, 1, [0], .null, []),
  (9, .iload_n 2, 1, [2], .null, []),
  (10, .invokevirtual 51, 3, [1, 140, 1, 2, 1076, 12, 1, 0, 0], .null, []),
  (13, .ifCond .ne 7, 3, [20], .null, []),
  (16, .ldc2_w 326, 3, [2, 1463], .long (-4611686018427387904), []),
  (19, .lreturn, 1, [], .null, []),
  (20, .aload_n 0, 1, [0], .null, []),
  (21, .invokevirtual 299, 3, [1, 184, 0, 2, 1399, 12, 0, 0, 0], .null, []),
  (24, .lconst 0, 1, [], .long 0, []),
  (25, .lstore_n 3, 1, [3], .null, []),
  (26, .iconst 0, 1, [], .int 0, []),
  (27, .istore 5, 2, [5], .null, []),
  (29, .iload 5, 2, [5], .null, [true, true, true, true, false, true]),
  (31, .aload_n 0, 1, [0], .null, []),
  (32, .getfield 11, 3, [12, 1, 0, 48, 0, 1086], .null, []),
  (35, .if_icmp .ge 31, 3, [66], .null, []),
  (38, .lload_n 3, 1, [3], .null, []),
  (39, .aload_n 0, 1, [0], .null, []),
  (40, .iload_n 1, 1, [1], .null, []),
  (41, .iload_n 2, 1, [2], .null, []),
  (42, .iload 5, 2, [5], .null, []),
  (44, .invokevirtual 348, 3, [1, 210, 3, 5, 1508, 12, 1, 0, 0], .null, []),
  (47, .ifCond .eq 10, 3, [57], .null, []),
  (50, .lconst 1, 1, [], .long 1, []),
  (51, .iload 5, 2, [5], .null, []),
  (53, .lshl, 1, [], .null, []),
  (54, .goto 4, 3, [58], .null, []),
  (57, .lconst 0, 1, [], .long 0, []),
  (58, .lor, 1, [], .null, []),
  (59, .lstore_n 3, 1, [3], .null, []),
  (60, .iinc 5 1, 3, [5], .int 1, []),
  (63, .goto (-34), 3, [29], .null, []),
  (66, .lload_n 3, 1, [3], .null, []),
  (67, .lreturn, 1, [], .null, [])]
abbrev kX12_when : Nat := 211
abbrev zq_m211 : zq_T := (yX12_when, cX12_when, 6, (some .long), zq_c211, (0, 0), [1507, 95, 1505, 1506])
def zq_c212 : List zq_I := [
  (0, .aload_n 0, 1, [0], .null, []),
  (1, .iload_n 1, 1, [1], .null, []),
  (2, .invokevirtual 314, 3, [1, 191, 1, 2, 1431, 12, 1, 0, 0], .null, []),
  (5, .ifCond .eq 16, 3, [21], .null, []),
  (8, .aload_n 0, 1, [0], .null, []),
  (9, .iload_n 2, 1, [2], .null, []),
  (10, .invokevirtual 314, 3, [1, 191, 1, 2, 1431, 12, 1, 0, 0], .null, []),
  (13, .ifCond .eq 8, 3, [21], .null, []),
  (16, .iload_n 1, 1, [1], .null, []),
  (17, .iload_n 2, 1, [2], .null, []),
  (18, .if_icmp .ne 6, 3, [24], .null, []),
  (21, .bipush (-2), 2, [], .int (-2), []),
  (23, .ireturn, 1, [], .null, []),
  (24, .aload_n 0, 1, [0], .null, []),
  (25, .getfield 144, 3, [12, 39, 0, 48, 0, 1124], .null, []),
  (28, .bipush 20, 2, [], .int 20, []),
  (30, .if_icmp .ne 6, 3, [36], .null, []),
  (33, .bipush (-4), 2, [], .int (-4), []),
  (35, .ireturn, 1, [], .null, []),
  (36, .aload_n 0, 1, [0], .null, []),
  (37, .getfield 147, 3, [12, 40, 2, 48, 73, 1125], .null, []),
  (40, .aload_n 0, 1, [0], .null, []),
  (41, .getfield 144, 3, [12, 39, 0, 48, 0, 1124], .null, []),
  (44, .iload_n 1, 1, [1], .null, []),
  (45, .iastore, 1, [], .null, []),
  (46, .aload_n 0, 1, [0], .null, []),
  (47, .getfield 150, 3, [12, 41, 2, 48, 74, 1126], .null, []),
  (50, .aload_n 0, 1, [0], .null, []),
  (51, .getfield 144, 3, [12, 39, 0, 48, 0, 1124], .null, []),
  (54, .iload_n 2, 1, [2], .null, []),
  (55, .iastore, 1, [], .null, []),
  (56, .aload_n 0, 1, [0], .null, []),
  (57, .dup, 1, [], .null, []),
  (58, .getfield 144, 3, [12, 39, 0, 48, 0, 1124], .null, []),
  (61, .iconst 1, 1, [], .int 1, []),
  (62, .iadd, 1, [], .null, []),
  (63, .putfield 144, 3, [12, 39, 0, 48, 0, 1124], .null, []),
  (66, .aload_n 0, 1, [0], .null, []),
  (67, .getfield 144, 3, [12, 39, 0, 48, 0, 1124], .null, []),
  (70, .ireturn, 1, [], .null, [])]
abbrev kX12_cross : Nat := 212
abbrev zq_m212 : zq_T := (yX12_cross, cX12_cross, 3, (some .int), zq_c212, (0, 0), [1515, 95, 1513, 1514])
def zq_c213 : List zq_I := [
  (0, .iconst 0, 1, [], .int 0, []),
  (1, .istore_n 2, 1, [2], .null, []),
  (2, .iload_n 2, 1, [2], .null, [true, true, true, false, false]),
  (3, .aload_n 0, 1, [0], .null, []),
  (4, .getfield 123, 3, [12, 32, 0, 48, 0, 1117], .null, []),
  (7, .if_icmp .ge 82, 3, [89], .null, []),
  (10, .iload_n 1, 1, [1], .null, []),
  (11, .iload_n 2, 1, [2], .null, []),
  (12, .ishr, 1, [], .null, []),
  (13, .iconst 1, 1, [], .int 1, []),
  (14, .iand, 1, [], .null, []),
  (15, .ifCond .ne 7, 3, [22], .null, []),
  (18, .iconst 1, 1, [], .int 1, []),
  (19, .goto 4, 3, [23], .null, []),
  (22, .iconst 0, 1, [], .int 0, []),
  (23, .istore_n 3, 1, [3], .null, []),
  (24, .iconst 0, 1, [], .int 0, []),
  (25, .istore 4, 2, [4], .null, []),
  (27, .iload 4, 2, [4], .null, [true, true, true, true, true]),
  (29, .aload_n 0, 1, [0], .null, []),
  (30, .getfield 144, 3, [12, 39, 0, 48, 0, 1124], .null, []),
  (33, .if_icmp .ge 44, 3, [77], .null, []),
  (36, .iload_n 3, 1, [3], .null, []),
  (37, .ifCond .eq 32, 3, [69], .null, []),
  (40, .aload_n 0, 1, [0], .null, []),
  (41, .getfield 147, 3, [12, 40, 2, 48, 73, 1125], .null, []),
  (44, .iload 4, 2, [4], .null, []),
  (46, .iaload, 1, [], .null, []),
  (47, .iload_n 2, 1, [2], .null, []),
  (48, .if_icmp .ne 17, 3, [65], .null, []),
  (51, .iload_n 1, 1, [1], .null, []),
  (52, .aload_n 0, 1, [0], .null, []),
  (53, .getfield 150, 3, [12, 41, 2, 48, 74, 1126], .null, []),
  (56, .iload 4, 2, [4], .null, []),
  (58, .iaload, 1, [], .null, []),
  (59, .ishr, 1, [], .null, []),
  (60, .iconst 1, 1, [], .int 1, []),
  (61, .iand, 1, [], .null, []),
  (62, .ifCond .eq 7, 3, [69], .null, []),
  (65, .iconst 1, 1, [], .int 1, []),
  (66, .goto 4, 3, [70], .null, []),
  (69, .iconst 0, 1, [], .int 0, []),
  (70, .istore_n 3, 1, [3], .null, []),
  (71, .iinc 4 1, 3, [4], .int 1, []),
  (74, .goto (-47), 3, [27], .null, []),
  (77, .iload_n 3, 1, [3], .null, []),
  (78, .ifCond .eq 5, 3, [83], .null, []),
  (81, .iload_n 2, 1, [2], .null, []),
  (82, .ireturn, 1, [], .null, []),
  (83, .iinc 2 1, 3, [2], .int 1, []),
  (86, .goto (-84), 3, [2], .null, []),
  (89, .iconst (-1), 1, [], .int (-1), []),
  (90, .ireturn, 1, [], .null, [])]
abbrev kX12_eldest : Nat := 213
abbrev zq_m213 : zq_T := (yX12_eldest, cX12_eldest, 5, (some .int), zq_c213, (0, 0), [1523, 95, 1522, 75])
def zq_c214 : List zq_I := [
  (0, .aload_n 0, 1, [0], .null, []),
  (1, .iload_n 1, 1, [1], .null, []),
  (2, .invokevirtual 314, 3, [1, 191, 1, 2, 1431, 12, 1, 0, 0], .null, []),
  (5, .ifCond .ne 6, 3, [11], .null, []),
  (8, .bipush (-2), 2, [], .int (-2), []),
  (10, .ireturn, 1, [], .null, []),
  (11, .iconst 0, 1, [], .int 0, []),
  (12, .istore_n 2, 1, [2], .null, []),
  (13, .iconst (-1), 1, [], .int (-1), []),
  (14, .istore_n 3, 1, [3], .null, []),
  (15, .iconst 0, 1, [], .int 0, []),
  (16, .istore 4, 2, [4], .null, []),
  (18, .iload 4, 2, [4], .null, [true, true, true, true, true]),
  (20, .iload_n 1, 1, [1], .null, []),
  (21, .if_icmp .gt 27, 3, [48], .null, []),
  (24, .aload_n 0, 1, [0], .null, []),
  (25, .iload_n 2, 1, [2], .null, []),
  (26, .invokevirtual 351, 3, [1, 213, 1, 5, 1520, 12, 1, 0, 0], .null, []),
  (29, .istore_n 3, 1, [3], .null, []),
  (30, .iload_n 3, 1, [3], .null, []),
  (31, .ifCond .ge 5, 3, [36], .null, []),
  (34, .iconst (-1), 1, [], .int (-1), []),
  (35, .ireturn, 1, [], .null, []),
  (36, .iload_n 2, 1, [2], .null, []),
  (37, .iconst 1, 1, [], .int 1, []),
  (38, .iload_n 3, 1, [3], .null, []),
  (39, .ishl, 1, [], .null, []),
  (40, .ior, 1, [], .null, []),
  (41, .istore_n 2, 1, [2], .null, []),
  (42, .iinc 4 1, 3, [4], .int 1, []),
  (45, .goto (-27), 3, [18], .null, []),
  (48, .iload_n 3, 1, [3], .null, []),
  (49, .ireturn, 1, [], .null, [])]
abbrev kX12_order : Nat := 214
abbrev zq_m214 : zq_T := (yX12_order, cX12_order, 5, (some .int), zq_c214, (0, 0), [1519, 95, 1517, 1518])
def zq_c215 : List zq_I := [
  (0, .aload_n 0, 1, [0], .null, []),
  (1, .iconst 2, 1, [], .int 2, []),
  (2, .iconst 0, 1, [], .int 0, []),
  (3, .iload_n 1, 1, [1], .null, []),
  (4, .iconst (-1), 1, [], .int (-1), []),
  (5, .invokevirtual 278, 3, [1, 173, 4, 9, 1371, 12, 1, 0, 0], .null, []),
  (8, .istore_n 2, 1, [2], .null, []),
  (9, .iload_n 2, 1, [2], .null, []),
  (10, .ifCond .ge 7, 3, [17], .null, []),
  (13, .iconst 0, 1, [], .int 0, []),
  (14, .goto 15, 3, [29], .null, []),
  (17, .iload_n 2, 1, [2], .null, []),
  (18, .bipush 99, 2, [], .int 99, []),
  (20, .if_icmp .le 8, 3, [28], .null, []),
  (23, .bipush 99, 2, [], .int 99, []),
  (25, .goto 4, 3, [29], .null, []),
  (28, .iload_n 2, 1, [2], .null, []),
  (29, .ireturn, 1, [], .null, [])]
abbrev kX12_worthOf : Nat := 215
abbrev zq_m215 : zq_T := (yX12_worthOf, cX12_worthOf, 3, (some .int), zq_c215, (0, 0), [1531, 95, 1530, 76])
end
section
def zq_c216 : List zq_I := [
  (0, .aload_n 0, 1, [0], .null, []),
  (1, .iload_n 1, 1, [1], .null, []),
  (2, .iconst 0, 1, [], .int 0, []),
  (3, .bipush 99, 2, [], .int 99, []),
  (5, .invokevirtual 7, 3, [1, 139, 3, 4, 1050, 12, 1, 0, 0], .null, []),
  (8, .ifCond .eq 13, 3, [21], .null, []),
  (11, .aload_n 0, 1, [0], .null, []),
  (12, .iload_n 2, 1, [2], .null, []),
  (13, .iconst 0, 1, [], .int 0, []),
  (14, .iconst 2, 1, [], .int 2, []),
  (15, .invokevirtual 7, 3, [1, 139, 3, 4, 1050, 12, 1, 0, 0], .null, []),
  (18, .ifCond .ne 6, 3, [24], .null, []),
  (21, .bipush (-2), 2, [], .int (-2), []),
  (23, .ireturn, 1, [], .null, []),
  (24, .aload_n 0, 1, [0], .null, []),
  (25, .getfield 11, 3, [12, 1, 0, 48, 0, 1086], .null, []),
  (28, .bipush 12, 2, [], .int 12, []),
  (30, .if_icmp .ge 10, 3, [40], .null, []),
  (33, .aload_n 0, 1, [0], .null, []),
  (34, .getfield 11, 3, [12, 1, 0, 48, 0, 1086], .null, []),
  (37, .goto 5, 3, [42], .null, []),
  (40, .bipush 12, 2, [], .int 12, []),
  (42, .istore_n 3, 1, [3], .null, []),
  (43, .iconst 0, 1, [], .int 0, []),
  (44, .istore 4, 2, [4], .null, []),
  (46, .iload 4, 2, [4], .null, [true, true, true, true, true, false, false, false, false, false, false]),
  (48, .iload_n 3, 1, [3], .null, []),
  (49, .if_icmp .ge 22, 3, [71], .null, []),
  (52, .aload_n 0, 1, [0], .null, []),
  (53, .getfield 187, 3, [12, 53, 2, 48, 80, 1138], .null, []),
  (56, .iload 4, 2, [4], .null, []),
  (58, .aload_n 0, 1, [0], .null, []),
  (59, .iload 4, 2, [4], .null, []),
  (61, .invokevirtual 354, 3, [1, 215, 1, 3, 1528, 12, 1, 0, 0], .null, []),
  (64, .iastore, 1, [], .null, []),
  (65, .iinc 4 1, 3, [4], .int 1, []),
  (68, .goto (-22), 3, [46], .null, []),
  (71, .iconst 0, 1, [], .int 0, []),
  (72, .istore 4, 2, [4], .null, []),
  (74, .iconst 0, 1, [], .int 0, []),
  (75, .istore 5, 2, [5], .null, []),
  (77, .iconst 0, 1, [], .int 0, []),
  (78, .istore 6, 2, [6], .null, []),
  (80, .iconst 1, 1, [], .int 1, []),
  (81, .istore 7, 2, [7], .null, []),
  (83, .iload 7, 2, [7], .null, [true, true, true, true, true, true, true, true, false, false, false]),
  (85, .iconst 1, 1, [], .int 1, []),
  (86, .iload_n 3, 1, [3], .null, []),
  (87, .ishl, 1, [], .null, []),
  (88, .if_icmp .ge 111, 3, [199], .null, []),
  (91, .iconst 0, 1, [], .int 0, []),
  (92, .istore 8, 2, [8], .null, []),
  (94, .iconst 0, 1, [], .int 0, []),
  (95, .istore 9, 2, [9], .null, []),
  (97, .iconst 0, 1, [], .int 0, []),
  (98, .istore 10, 2, [10], .null, []),
  (100, .iload 10, 2, [10], .null, [true, true, true, true, true, true, true, true, true, true, true]),
  (102, .iload_n 3, 1, [3], .null, []),
  (103, .if_icmp .ge 48, 3, [151], .null, []),
  (106, .iload 7, 2, [7], .null, []),
  (108, .iload 10, 2, [10], .null, []),
  (110, .ishr, 1, [], .null, []),
  (111, .iconst 1, 1, [], .int 1, []),
  (112, .iand, 1, [], .null, []),
  (113, .ifCond .ne 6, 3, [119], .null, []),
  (116, .goto 29, 3, [145], .null, []),
  (119, .iload 8, 2, [8], .null, []),
  (121, .iconst 3, 1, [], .int 3, []),
  (122, .aload_n 0, 1, [0], .null, []),
  (123, .getfield 28, 3, [12, 6, 2, 48, 53, 1091], .null, []),
  (126, .iload 10, 2, [10], .null, []),
  (128, .iaload, 1, [], .null, []),
  (129, .iadd, 1, [], .null, []),
  (130, .iadd, 1, [], .null, []),
  (131, .istore 8, 2, [8], .null, []),
  (133, .iload 9, 2, [9], .null, []),
  (135, .aload_n 0, 1, [0], .null, []),
  (136, .getfield 187, 3, [12, 53, 2, 48, 80, 1138], .null, []),
  (139, .iload 10, 2, [10], .null, []),
  (141, .iaload, 1, [], .null, []),
  (142, .iadd, 1, [], .null, []),
  (143, .istore 9, 2, [9], .null, []),
  (145, .iinc 10 1, 3, [10], .int 1, []),
  (148, .goto (-48), 3, [100], .null, []),
  (151, .iload 8, 2, [8], .null, []),
  (153, .iload_n 1, 1, [1], .null, []),
  (154, .if_icmp .gt 39, 3, [193], .null, []),
  (157, .iload 9, 2, [9], .null, []),
  (159, .iload 5, 2, [5], .null, []),
  (161, .if_icmp .lt 32, 3, [193], .null, []),
  (164, .iload 9, 2, [9], .null, []),
  (166, .iload 5, 2, [5], .null, []),
  (168, .if_icmp .ne 13, 3, [181], .null, []),
  (171, .iload 8, 2, [8], .null, []),
  (173, .iload 6, 2, [6], .null, []),
  (175, .if_icmp .lt 6, 3, [181], .null, []),
  (178, .goto 15, 3, [193], .null, []),
  (181, .iload 7, 2, [7], .null, []),
  (183, .istore 4, 2, [4], .null, []),
  (185, .iload 9, 2, [9], .null, []),
  (187, .istore 5, 2, [5], .null, []),
  (189, .iload 8, 2, [8], .null, []),
  (191, .istore 6, 2, [6], .null, []),
  (193, .iinc 7 1, 3, [7], .int 1, []),
  (196, .goto (-113), 3, [83], .null, []),
  (199, .iload_n 2, 1, [2], .null, []),
  (200, .ifCond .ne 8, 3, [208], .null, []),
  (203, .iload 4, 2, [4], .null, []),
  (205, .goto 15, 3, [220], .null, []),
  (208, .iload_n 2, 1, [2], .null, []),
  (209, .iconst 1, 1, [], .int 1, []),
  (210, .if_icmp .ne 8, 3, [218], .null, []),
  (213, .iload 5, 2, [5], .null, []),
  (215, .goto 5, 3, [220], .null, []),
  (218, .iload 6, 2, [6], .null, []),
  (220, .ireturn, 1, [], .null, [])]
abbrev kX12_look_ : Nat := 216
abbrev zq_m216 : zq_T := (yX12_look_, cX12_look_, 11, (some .int), zq_c216, (0, 0), [1527, 95, 1525, 1526])
def zq_c217 : List zq_I := [
  (0, .aload_n 0, 1, [0], .null, []),
  (1, .invokevirtual 299, 3, [1, 184, 0, 2, 1399, 12, 0, 0, 0], .null, []),
  (4, .iconst 0, 1, [], .int 0, []),
  (5, .istore_n 3, 1, [3], .null, []),
  (6, .iconst 0, 1, [], .int 0, []),
  (7, .istore 4, 2, [4], .null, []),
  (9, .iload 4, 2, [4], .null, [true, true, true, true, true]),
  (11, .aload_n 0, 1, [0], .null, []),
  (12, .getfield 1, 3, [12, 0, 0, 48, 0, 1085], .null, []),
  (15, .if_icmp .ge 31, 3, [46], .null, []),
  (18, .iload_n 3, 1, [3], .null, []),
  (19, .aload_n 0, 1, [0], .null, []),
  (20, .iload_n 1, 1, [1], .null, []),
  (21, .iload 4, 2, [4], .null, []),
  (23, .iload_n 2, 1, [2], .null, []),
  (24, .invokevirtual 348, 3, [1, 210, 3, 5, 1508, 12, 1, 0, 0], .null, []),
  (27, .ifCond .eq 10, 3, [37], .null, []),
  (30, .iconst 1, 1, [], .int 1, []),
  (31, .iload 4, 2, [4], .null, []),
  (33, .ishl, 1, [], .null, []),
  (34, .goto 4, 3, [38], .null, []),
  (37, .iconst 0, 1, [], .int 0, []),
  (38, .ior, 1, [], .null, []),
  (39, .istore_n 3, 1, [3], .null, []),
  (40, .iinc 4 1, 3, [4], .int 1, []),
  (43, .goto (-34), 3, [9], .null, []),
  (46, .iload_n 3, 1, [3], .null, []),
  (47, .ireturn, 1, [], .null, [])]
abbrev kX12_goers : Nat := 217
abbrev zq_m217 : zq_T := (yX12_goers, cX12_goers, 5, (some .int), zq_c217, (0, 0), [1539, 95, 1538, 77])
def zq_c218 : List zq_I := [
  (0, .aload_n 0, 1, [0], .null, []),
  (1, .iload_n 1, 1, [1], .null, []),
  (2, .invokevirtual 281, 3, [1, 142, 1, 2, 1343, 12, 1, 0, 0], .null, []),
  (5, .ifCond .eq 20, 3, [25], .null, []),
  (8, .aload_n 0, 1, [0], .null, []),
  (9, .iload_n 2, 1, [2], .null, []),
  (10, .invokevirtual 284, 3, [1, 141, 1, 2, 1347, 12, 1, 0, 0], .null, []),
  (13, .ifCond .eq 12, 3, [25], .null, []),
  (16, .aload_n 0, 1, [0], .null, []),
  (17, .iload_n 1, 1, [1], .null, []),
  (18, .iload_n 2, 1, [2], .null, []),
  (19, .invokevirtual 357, 3, [1, 217, 2, 5, 1536, 12, 1, 0, 0], .null, []),
  (22, .goto 5, 3, [27], .null, []),
  (25, .bipush (-2), 2, [], .int (-2), []),
  (27, .ireturn, 1, [], .null, [])]
abbrev kX12_foretold : Nat := 218
abbrev zq_m218 : zq_T := (yX12_foretold, cX12_foretold, 3, (some .int), zq_c218, (0, 0), [1535, 95, 1533, 1534])
def zq_c219 : List zq_I := [
  (0, .aload_n 0, 1, [0], .null, []),
  (1, .iload_n 1, 1, [1], .null, []),
  (2, .invokevirtual 281, 3, [1, 142, 1, 2, 1343, 12, 1, 0, 0], .null, []),
  (5, .ifCond .eq 19, 3, [24], .null, []),
  (8, .aload_n 0, 1, [0], .null, []),
  (9, .iload_n 2, 1, [2], .null, []),
  (10, .invokevirtual 284, 3, [1, 141, 1, 2, 1347, 12, 1, 0, 0], .null, []),
  (13, .ifCond .eq 11, 3, [24], .null, []),
  (16, .aload_n 0, 1, [0], .null, []),
  (17, .iload_n 3, 1, [3], .null, []),
  (18, .invokevirtual 360, 3, [1, 223, 1, 2, 1544, 12, 1, 0, 0], .null, []),
  (21, .ifCond .ne 6, 3, [27], .null, []),
  (24, .bipush (-2), 2, [], .int (-2), []),
  (26, .ireturn, 1, [], .null, []),
  (27, .aload_n 0, 1, [0], .null, []),
  (28, .getfield 175, 3, [12, 49, 2, 48, 76, 1134], .null, []),
  (31, .iload_n 3, 1, [3], .null, []),
  (32, .iaload, 1, [], .null, []),
  (33, .ifCond .ge 6, 3, [39], .null, []),
  (36, .bipush (-11), 2, [], .int (-11), []),
  (38, .ireturn, 1, [], .null, []),
  (39, .aload_n 0, 1, [0], .null, []),
  (40, .getfield 178, 3, [12, 50, 2, 48, 77, 1135], .null, []),
  (43, .iload_n 3, 1, [3], .null, []),
  (44, .iaload, 1, [], .null, []),
  (45, .aload_n 0, 1, [0], .null, []),
  (46, .getfield 1, 3, [12, 0, 0, 48, 0, 1085], .null, []),
  (49, .if_icmp .eq 6, 3, [55], .null, []),
  (52, .bipush (-2), 2, [], .int (-2), []),
  (54, .ireturn, 1, [], .null, []),
  (55, .aload_n 0, 1, [0], .null, []),
  (56, .iload_n 1, 1, [1], .null, []),
  (57, .iload_n 2, 1, [2], .null, []),
  (58, .invokevirtual 357, 3, [1, 217, 2, 5, 1536, 12, 1, 0, 0], .null, []),
  (61, .istore 4, 2, [4], .null, []),
  (63, .iconst 0, 1, [], .int 0, []),
  (64, .istore 5, 2, [5], .null, []),
  (66, .iload 5, 2, [5], .null, [true, false, false, true, true, true]),
  (68, .aload_n 0, 1, [0], .null, []),
  (69, .getfield 1, 3, [12, 0, 0, 48, 0, 1085], .null, []),
  (72, .if_icmp .ge 34, 3, [106], .null, []),
  (75, .aload_n 0, 1, [0], .null, []),
  (76, .getfield 181, 3, [12, 51, 2, 48, 78, 1136], .null, []),
  (79, .bipush 40, 2, [], .int 40, []),
  (81, .iload_n 3, 1, [3], .null, []),
  (82, .imul, 1, [], .null, []),
  (83, .iload 5, 2, [5], .null, []),
  (85, .iadd, 1, [], .null, []),
  (86, .iaload, 1, [], .null, []),
  (87, .iload 4, 2, [4], .null, []),
  (89, .iload 5, 2, [5], .null, []),
  (91, .ishr, 1, [], .null, []),
  (92, .iconst 1, 1, [], .int 1, []),
  (93, .iand, 1, [], .null, []),
  (94, .if_icmp .eq 6, 3, [100], .null, []),
  (97, .iload 5, 2, [5], .null, []),
  (99, .ireturn, 1, [], .null, []),
  (100, .iinc 5 1, 3, [5], .int 1, []),
  (103, .goto (-37), 3, [66], .null, []),
  (106, .iconst (-1), 1, [], .int (-1), []),
  (107, .ireturn, 1, [], .null, [])]
abbrev kX12_held : Nat := 219
abbrev zq_m219 : zq_T := (yX12_held, cX12_held, 6, (some .int), zq_c219, (0, 0), [1543, 95, 1541, 1542])
def zq_c220 : List zq_I := [
  (0, .aload_n 0, 1, [0], .null, []),
  (1, .iconst 1, 1, [], .int 1, []),
  (2, .putfield 153, 3, [12, 42, 1, 48, 0, 1127], .null, []),
  (5, .aload_n 0, 1, [0], .null, []),
  (6, .aload_n 0, 1, [0], .null, []),
  (7, .getfield 1, 3, [12, 0, 0, 48, 0, 1085], .null, []),
  (10, .putfield 157, 3, [12, 43, 0, 48, 0, 1128], .null, []),
  (13, .aload_n 0, 1, [0], .null, []),
  (14, .aload_n 0, 1, [0], .null, []),
  (15, .getfield 63, 3, [12, 12, 0, 48, 0, 1097], .null, []),
  (18, .putfield 160, 3, [12, 44, 0, 48, 0, 1129], .null, []),
  (21, .aload_n 0, 1, [0], .null, []),
  (22, .aload_n 0, 1, [0], .null, []),
  (23, .getfield 123, 3, [12, 32, 0, 48, 0, 1117], .null, []),
  (26, .putfield 163, 3, [12, 45, 0, 48, 0, 1130], .null, []),
  (29, .aload_n 0, 1, [0], .null, []),
  (30, .aload_n 0, 1, [0], .null, []),
  (31, .getfield 144, 3, [12, 39, 0, 48, 0, 1124], .null, []),
  (34, .putfield 166, 3, [12, 46, 0, 48, 0, 1131], .null, []),
  (37, .aload_n 0, 1, [0], .null, []),
  (38, .aload_n 0, 1, [0], .null, []),
  (39, .getfield 138, 3, [12, 37, 0, 48, 0, 1122], .null, []),
  (42, .putfield 169, 3, [12, 47, 0, 48, 0, 1132], .null, []),
  (45, .iconst 0, 1, [], .int 0, []),
  (46, .istore_n 1, 1, [1], .null, []),
  (47, .iload_n 1, 1, [1], .null, [true, true]),
  (48, .aload_n 0, 1, [0], .null, []),
  (49, .getfield 1, 3, [12, 0, 0, 48, 0, 1085], .null, []),
  (52, .if_icmp .ge 21, 3, [73], .null, []),
  (55, .aload_n 0, 1, [0], .null, []),
  (56, .getfield 172, 3, [12, 48, 2, 48, 75, 1133], .null, []),
  (59, .iload_n 1, 1, [1], .null, []),
  (60, .aload_n 0, 1, [0], .null, []),
  (61, .getfield 17, 3, [12, 4, 2, 48, 51, 1089], .null, []),
  (64, .iload_n 1, 1, [1], .null, []),
  (65, .iaload, 1, [], .null, []),
  (66, .iastore, 1, [], .null, []),
  (67, .iinc 1 1, 3, [1], .int 1, []),
  (70, .goto (-23), 3, [47], .null, []),
  (73, .aload_n 0, 1, [0], .null, []),
  (74, .getfield 1, 3, [12, 0, 0, 48, 0, 1085], .null, []),
  (77, .ireturn, 1, [], .null, [])]
abbrev kX12_image : Nat := 220
abbrev zq_m220 : zq_T := (yX12_image, cX12_image, 2, (some .int), zq_c220, (0, 0), [1551, 95, 1549, 1550])
def zq_c221 : List zq_I := [
  (0, .aload_n 0, 1, [0], .null, []),
  (1, .getfield 153, 3, [12, 42, 1, 48, 0, 1127], .null, []),
  (4, .ifCond .ne 6, 3, [10], .null, []),
  (7, .bipush (-3), 2, [], .int (-3), []),
  (9, .ireturn, 1, [], .null, []),
  (10, .aload_n 0, 1, [0], .null, []),
  (11, .aload_n 0, 1, [0], .null, []),
  (12, .getfield 160, 3, [12, 44, 0, 48, 0, 1129], .null, []),
  (15, .putfield 63, 3, [12, 12, 0, 48, 0, 1097], .null, []),
  (18, .aload_n 0, 1, [0], .null, []),
  (19, .aload_n 0, 1, [0], .null, []),
  (20, .getfield 163, 3, [12, 45, 0, 48, 0, 1130], .null, []),
  (23, .putfield 123, 3, [12, 32, 0, 48, 0, 1117], .null, []),
  (26, .aload_n 0, 1, [0], .null, []),
  (27, .aload_n 0, 1, [0], .null, []),
  (28, .getfield 166, 3, [12, 46, 0, 48, 0, 1131], .null, []),
  (31, .putfield 144, 3, [12, 39, 0, 48, 0, 1124], .null, []),
  (34, .aload_n 0, 1, [0], .null, []),
  (35, .aload_n 0, 1, [0], .null, []),
  (36, .getfield 169, 3, [12, 47, 0, 48, 0, 1132], .null, []),
  (39, .putfield 138, 3, [12, 37, 0, 48, 0, 1122], .null, []),
  (42, .iconst 0, 1, [], .int 0, []),
  (43, .istore_n 1, 1, [1], .null, []),
  (44, .iload_n 1, 1, [1], .null, [true, true]),
  (45, .aload_n 0, 1, [0], .null, []),
  (46, .getfield 157, 3, [12, 43, 0, 48, 0, 1128], .null, []),
  (49, .if_icmp .ge 21, 3, [70], .null, []),
  (52, .aload_n 0, 1, [0], .null, []),
  (53, .getfield 17, 3, [12, 4, 2, 48, 51, 1089], .null, []),
  (56, .iload_n 1, 1, [1], .null, []),
  (57, .aload_n 0, 1, [0], .null, []),
  (58, .getfield 172, 3, [12, 48, 2, 48, 75, 1133], .null, []),
  (61, .iload_n 1, 1, [1], .null, []),
  (62, .iaload, 1, [], .null, []),
  (63, .iastore, 1, [], .null, []),
  (64, .iinc 1 1, 3, [1], .int 1, []),
  (67, .goto (-23), 3, [44], .null, []),
  (70, .aload_n 0, 1, [0], .null, []),
  (71, .getfield 1, 3, [12, 0, 0, 48, 0, 1085], .null, []),
  (74, .ireturn, 1, [], .null, [])]
abbrev kX12_back : Nat := 221
abbrev zq_m221 : zq_T := (yX12_back, cX12_back, 2, (some .int), zq_c221, (0, 0), [1555, 95, 1553, 1554])
def zq_c222 : List zq_I := [
  (0, .iload_n 1, 1, [1], .null, []),
  (1, .tableswitch 96 0 8 #[51, 56, 61, 66, 71, 76, 81, 86, 91], 51, [97, 52, 57, 62, 67, 72, 77, 82, 87, 92], .null, []),
  (52, .aload_n 0, 1, [0], .null, []),
  (53, .getfield 1, 3, [12, 0, 0, 48, 0, 1085], .null, []),
  (56, .ireturn, 1, [], .null, []),
  (57, .aload_n 0, 1, [0], .null, []),
  (58, .getfield 11, 3, [12, 1, 0, 48, 0, 1086], .null, []),
  (61, .ireturn, 1, [], .null, []),
  (62, .aload_n 0, 1, [0], .null, []),
  (63, .getfield 14, 3, [12, 2, 0, 48, 0, 1087], .null, []),
  (66, .ireturn, 1, [], .null, []),
  (67, .aload_n 0, 1, [0], .null, []),
  (68, .getfield 123, 3, [12, 32, 0, 48, 0, 1117], .null, []),
  (71, .ireturn, 1, [], .null, []),
  (72, .aload_n 0, 1, [0], .null, []),
  (73, .getfield 138, 3, [12, 37, 0, 48, 0, 1122], .null, []),
  (76, .ireturn, 1, [], .null, []),
  (77, .aload_n 0, 1, [0], .null, []),
  (78, .getfield 144, 3, [12, 39, 0, 48, 0, 1124], .null, []),
  (81, .ireturn, 1, [], .null, []),
  (82, .aload_n 0, 1, [0], .null, []),
  (83, .getfield 60, 3, [12, 11, 0, 48, 0, 1096], .null, []),
  (86, .ireturn, 1, [], .null, []),
  (87, .aload_n 0, 1, [0], .null, []),
  (88, .getfield 66, 3, [12, 13, 0, 48, 0, 1098], .null, []),
  (91, .ireturn, 1, [], .null, []),
  (92, .aload_n 0, 1, [0], .null, []),
  (93, .getfield 63, 3, [12, 12, 0, 48, 0, 1097], .null, []),
  (96, .ireturn, 1, [], .null, []),
  (97, .bipush (-2), 2, [], .int (-2), []),
  (99, .ireturn, 1, [], .null, [])]
abbrev kX12_count : Nat := 222
abbrev zq_m222 : zq_T := (yX12_count, cX12_count, 2, (some .int), zq_c222, (0, 0), [1559, 95, 1557, 1558])
def zq_c223 : List zq_I := [
  (0, .aload_n 0, 1, [0], .null, []),
  (1, .iload_n 1, 1, [1], .null, []),
  (2, .iconst 0, 1, [], .int 0, []),
  (3, .iconst 3, 1, [], .int 3, []),
  (4, .invokevirtual 7, 3, [1, 139, 3, 4, 1050, 12, 1, 0, 0], .null, []),
  (7, .ireturn, 1, [], .null, [])]
abbrev kX12_isSheet : Nat := 223
abbrev zq_m223 : zq_T := (yX12_isSheet, cX12_isSheet, 2, (some .boolean), zq_c223, (0, 0), [1547, 95, 1546, 78])
def zq_c224 : List zq_I := [
  (0, .aload_n 0, 1, [0], .null, []),
  (1, .iload_n 1, 1, [1], .null, []),
  (2, .invokevirtual 360, 3, [1, 223, 1, 2, 1544, 12, 1, 0, 0], .null, []),
  (5, .ifCond .eq 23, 3, [28], .null, []),
  (8, .aload_n 0, 1, [0], .null, []),
  (9, .iload_n 2, 1, [2], .null, []),
  (10, .iconst (-1), 1, [], .int (-1), []),
  (11, .iconst 2, 1, [], .int 2, []),
  (12, .invokevirtual 7, 3, [1, 139, 3, 4, 1050, 12, 1, 0, 0], .null, []),
  (15, .ifCond .eq 13, 3, [28], .null, []),
  (18, .iload_n 2, 1, [2], .null, []),
  (19, .ifCond .lt 12, 3, [31], .null, []),
  (22, .iload_n 3, 1, [3], .null, []),
  (23, .bipush 40, 2, [], .int 40, []),
  (25, .if_icmp .le 6, 3, [31], .null, []),
  (28, .bipush (-2), 2, [], .int (-2), []),
  (30, .ireturn, 1, [], .null, []),
  (31, .iload_n 2, 1, [2], .null, []),
  (32, .ifCond .lt 10, 3, [42], .null, []),
  (35, .iload_n 3, 1, [3], .null, []),
  (36, .ifCond .ge 6, 3, [42], .null, []),
  (39, .bipush (-14), 2, [], .int (-14), []),
  (41, .ireturn, 1, [], .null, []),
  (42, .aload_n 0, 1, [0], .null, []),
  (43, .getfield 175, 3, [12, 49, 2, 48, 76, 1134], .null, []),
  (46, .iload_n 1, 1, [1], .null, []),
  (47, .iload_n 2, 1, [2], .null, []),
  (48, .iastore, 1, [], .null, []),
  (49, .aload_n 0, 1, [0], .null, []),
  (50, .getfield 178, 3, [12, 50, 2, 48, 77, 1135], .null, []),
  (53, .iload_n 1, 1, [1], .null, []),
  (54, .iload_n 2, 1, [2], .null, []),
  (55, .ifCond .ge 7, 3, [62], .null, []),
  (58, .iconst 0, 1, [], .int 0, []),
  (59, .goto 4, 3, [63], .null, []),
  (62, .iload_n 3, 1, [3], .null, []),
  (63, .iastore, 1, [], .null, []),
  (64, .iconst 0, 1, [], .int 0, []),
  (65, .istore 4, 2, [4], .null, []),
  (67, .iload 4, 2, [4], .null, [true, true, false, false, true]),
  (69, .bipush 40, 2, [], .int 40, []),
  (71, .if_icmp .ge 22, 3, [93], .null, []),
  (74, .aload_n 0, 1, [0], .null, []),
  (75, .getfield 181, 3, [12, 51, 2, 48, 78, 1136], .null, []),
  (78, .bipush 40, 2, [], .int 40, []),
  (80, .iload_n 1, 1, [1], .null, []),
  (81, .imul, 1, [], .null, []),
  (82, .iload 4, 2, [4], .null, []),
  (84, .iadd, 1, [], .null, []),
  (85, .iconst 0, 1, [], .int 0, []),
  (86, .iastore, 1, [], .null, []),
  (87, .iinc 4 1, 3, [4], .int 1, []),
  (90, .goto (-23), 3, [67], .null, []),
  (93, .iconst 1, 1, [], .int 1, []),
  (94, .ireturn, 1, [], .null, [])]
abbrev kX12_sheet : Nat := 224
abbrev zq_m224 : zq_T := (yX12_sheet, cX12_sheet, 5, (some .int), zq_c224, (0, 0), [1563, 95, 1561, 1562])
def zq_c225 : List zq_I := [
  (0, .aload_n 0, 1, [0], .null, []),
  (1, .iload_n 1, 1, [1], .null, []),
  (2, .invokevirtual 360, 3, [1, 223, 1, 2, 1544, 12, 1, 0, 0], .null, []),
  (5, .ifCond .ne 6, 3, [11], .null, []),
  (8, .bipush (-2), 2, [], .int (-2), []),
  (10, .ireturn, 1, [], .null, []),
  (11, .aload_n 0, 1, [0], .null, []),
  (12, .getfield 175, 3, [12, 49, 2, 48, 76, 1134], .null, []),
  (15, .iload_n 1, 1, [1], .null, []),
  (16, .iaload, 1, [], .null, []),
  (17, .ifCond .ge 6, 3, [23], .null, []),
  (20, .bipush (-11), 2, [], .int (-11), []),
  (22, .ireturn, 1, [], .null, []),
  (23, .aload_n 0, 1, [0], .null, []),
  (24, .iload_n 2, 1, [2], .null, []),
  (25, .iconst 0, 1, [], .int 0, []),
  (26, .aload_n 0, 1, [0], .null, []),
  (27, .getfield 178, 3, [12, 50, 2, 48, 77, 1135], .null, []),
  (30, .iload_n 1, 1, [1], .null, []),
  (31, .iaload, 1, [], .null, []),
  (32, .iconst 1, 1, [], .int 1, []),
  (33, .isub, 1, [], .null, []),
  (34, .invokevirtual 7, 3, [1, 139, 3, 4, 1050, 12, 1, 0, 0], .null, []),
  (37, .ifCond .ne 6, 3, [43], .null, []),
  (40, .bipush (-12), 2, [], .int (-12), []),
  (42, .ireturn, 1, [], .null, []),
  (43, .aload_n 0, 1, [0], .null, []),
  (44, .getfield 181, 3, [12, 51, 2, 48, 78, 1136], .null, []),
  (47, .bipush 40, 2, [], .int 40, []),
  (49, .iload_n 1, 1, [1], .null, []),
  (50, .imul, 1, [], .null, []),
  (51, .iload_n 2, 1, [2], .null, []),
  (52, .iadd, 1, [], .null, []),
  (53, .aload_n 0, 1, [0], .null, []),
  (54, .getfield 175, 3, [12, 49, 2, 48, 76, 1134], .null, []),
  (57, .iload_n 1, 1, [1], .null, []),
  (58, .iaload, 1, [], .null, []),
  (59, .ifCond .ne 8, 3, [67], .null, []),
  (62, .iload_n 3, 1, [3], .null, []),
  (63, .i2b, 1, [], .null, []),
  (64, .goto 19, 3, [83], .null, []),
  (67, .aload_n 0, 1, [0], .null, []),
  (68, .getfield 175, 3, [12, 49, 2, 48, 76, 1134], .null, []),
  (71, .iload_n 1, 1, [1], .null, []),
  (72, .iaload, 1, [], .null, []),
  (73, .iconst 1, 1, [], .int 1, []),
  (74, .if_icmp .ne 8, 3, [82], .null, []),
  (77, .iload_n 3, 1, [3], .null, []),
  (78, .i2s, 1, [], .null, []),
  (79, .goto 4, 3, [83], .null, []),
  (82, .iload_n 3, 1, [3], .null, []),
  (83, .iastore, 1, [], .null, []),
  (84, .iconst 1, 1, [], .int 1, []),
  (85, .ireturn, 1, [], .null, [])]
abbrev kX12_cell : Nat := 225
abbrev zq_m225 : zq_T := (yX12_cell, cX12_cell, 4, (some .int), zq_c225, (0, 0), [1567, 95, 1565, 1566])
def zq_c226 : List zq_I := [
  (0, .aload_n 0, 1, [0], .null, []),
  (1, .iload_n 1, 1, [1], .null, []),
  (2, .invokevirtual 360, 3, [1, 223, 1, 2, 1544, 12, 1, 0, 0], .null, []),
  (5, .ifCond .eq 11, 3, [16], .null, []),
  (8, .aload_n 0, 1, [0], .null, []),
  (9, .iload_n 3, 1, [3], .null, []),
  (10, .invokevirtual 360, 3, [1, 223, 1, 2, 1544, 12, 1, 0, 0], .null, []),
  (13, .ifCond .ne 6, 3, [19], .null, []),
  (16, .bipush (-2), 2, [], .int (-2), []),
  (18, .ireturn, 1, [], .null, []),
  (19, .aload_n 0, 1, [0], .null, []),
  (20, .getfield 175, 3, [12, 49, 2, 48, 76, 1134], .null, []),
  (23, .iload_n 1, 1, [1], .null, []),
  (24, .iaload, 1, [], .null, []),
  (25, .ifCond .lt 12, 3, [37], .null, []),
  (28, .aload_n 0, 1, [0], .null, []),
  (29, .getfield 175, 3, [12, 49, 2, 48, 76, 1134], .null, []),
  (32, .iload_n 3, 1, [3], .null, []),
  (33, .iaload, 1, [], .null, []),
  (34, .ifCond .ge 6, 3, [40], .null, []),
  (37, .bipush (-11), 2, [], .int (-11), []),
  (39, .ireturn, 1, [], .null, []),
  (40, .aload_n 0, 1, [0], .null, []),
  (41, .getfield 175, 3, [12, 49, 2, 48, 76, 1134], .null, []),
  (44, .iload_n 1, 1, [1], .null, []),
  (45, .iaload, 1, [], .null, []),
  (46, .aload_n 0, 1, [0], .null, []),
  (47, .getfield 175, 3, [12, 49, 2, 48, 76, 1134], .null, []),
  (50, .iload_n 3, 1, [3], .null, []),
  (51, .iaload, 1, [], .null, []),
  (52, .if_icmp .eq 6, 3, [58], .null, []),
  (55, .bipush (-13), 2, [], .int (-13), []),
  (57, .ireturn, 1, [], .null, []),
  (58, .iload 5, 2, [5], .null, []),
  (60, .ifCond .lt 39, 3, [99], .null, []),
  (63, .iload_n 2, 1, [2], .null, []),
  (64, .ifCond .lt 35, 3, [99], .null, []),
  (67, .iload 4, 2, [4], .null, []),
  (69, .ifCond .lt 30, 3, [99], .null, []),
  (72, .iload_n 2, 1, [2], .null, []),
  (73, .aload_n 0, 1, [0], .null, []),
  (74, .getfield 178, 3, [12, 50, 2, 48, 77, 1135], .null, []),
  (77, .iload_n 1, 1, [1], .null, []),
  (78, .iaload, 1, [], .null, []),
  (79, .iload 5, 2, [5], .null, []),
  (81, .isub, 1, [], .null, []),
  (82, .if_icmp .gt 17, 3, [99], .null, []),
  (85, .iload 4, 2, [4], .null, []),
  (87, .aload_n 0, 1, [0], .null, []),
  (88, .getfield 178, 3, [12, 50, 2, 48, 77, 1135], .null, []),
  (91, .iload_n 3, 1, [3], .null, []),
  (92, .iaload, 1, [], .null, []),
  (93, .iload 5, 2, [5], .null, []),
  (95, .isub, 1, [], .null, []),
  (96, .if_icmp .le 6, 3, [102], .null, []),
  (99, .bipush (-12), 2, [], .int (-12), []),
  (101, .ireturn, 1, [], .null, []),
  (102, .iconst 0, 1, [], .int 0, []),
  (103, .istore 6, 2, [6], .null, []),
  (105, .iload 6, 2, [6], .null, [true, true, true, true, true, true, true]),
  (107, .iload 5, 2, [5], .null, []),
  (109, .if_icmp .ge 30, 3, [139], .null, []),
  (112, .aload_n 0, 1, [0], .null, []),
  (113, .getfield 184, 3, [12, 52, 2, 48, 79, 1137], .null, []),
  (116, .iload 6, 2, [6], .null, []),
  (118, .aload_n 0, 1, [0], .null, []),
  (119, .getfield 181, 3, [12, 51, 2, 48, 78, 1136], .null, []),
  (122, .bipush 40, 2, [], .int 40, []),
  (124, .iload_n 1, 1, [1], .null, []),
  (125, .imul, 1, [], .null, []),
  (126, .iload_n 2, 1, [2], .null, []),
  (127, .iadd, 1, [], .null, []),
  (128, .iload 6, 2, [6], .null, []),
  (130, .iadd, 1, [], .null, []),
  (131, .iaload, 1, [], .null, []),
  (132, .iastore, 1, [], .null, []),
  (133, .iinc 6 1, 3, [6], .int 1, []),
  (136, .goto (-31), 3, [105], .null, []),
  (139, .iconst 0, 1, [], .int 0, []),
  (140, .istore 6, 2, [6], .null, []),
  (142, .iload 6, 2, [6], .null, [true, false, false, true, true, true, true]),
  (144, .iload 5, 2, [5], .null, []),
  (146, .if_icmp .ge 31, 3, [177], .null, []),
  (149, .aload_n 0, 1, [0], .null, []),
  (150, .getfield 181, 3, [12, 51, 2, 48, 78, 1136], .null, []),
  (153, .bipush 40, 2, [], .int 40, []),
  (155, .iload_n 3, 1, [3], .null, []),
  (156, .imul, 1, [], .null, []),
  (157, .iload 4, 2, [4], .null, []),
  (159, .iadd, 1, [], .null, []),
  (160, .iload 6, 2, [6], .null, []),
  (162, .iadd, 1, [], .null, []),
  (163, .aload_n 0, 1, [0], .null, []),
  (164, .getfield 184, 3, [12, 52, 2, 48, 79, 1137], .null, []),
  (167, .iload 6, 2, [6], .null, []),
  (169, .iaload, 1, [], .null, []),
  (170, .iastore, 1, [], .null, []),
  (171, .iinc 6 1, 3, [6], .int 1, []),
  (174, .goto (-32), 3, [142], .null, []),
  (177, .iload 5, 2, [5], .null, []),
  (179, .ireturn, 1, [], .null, [])]
abbrev kX12_copy : Nat := 226
abbrev zq_m226 : zq_T := (yX12_copy, cX12_copy, 7, (some .int), zq_c226, (0, 0), [1571, 95, 1569, 1570])
def zq_c227 : List zq_I := [
  (0, .aload_n 0, 1, [0], .null, []),
  (1, .iload_n 1, 1, [1], .null, []),
  (2, .invokevirtual 360, 3, [1, 223, 1, 2, 1544, 12, 1, 0, 0], .null, []),
  (5, .ifCond .eq 25, 3, [30], .null, []),
  (8, .aload_n 0, 1, [0], .null, []),
  (9, .iload_n 2, 1, [2], .null, []),
  (10, .iconst 0, 1, [], .int 0, []),
  (11, .iconst 2, 1, [], .int 2, []),
  (12, .invokevirtual 7, 3, [1, 139, 3, 4, 1050, 12, 1, 0, 0], .null, []),
  (15, .ifCond .eq 15, 3, [30], .null, []),
  (18, .aload_n 0, 1, [0], .null, []),
  (19, .iload 4, 2, [4], .null, []),
  (21, .iconst 0, 1, [], .int 0, []),
  (22, .bipush 20, 2, [], .int 20, []),
  (24, .invokevirtual 7, 3, [1, 139, 3, 4, 1050, 12, 1, 0, 0], .null, []),
  (27, .ifCond .ne 6, 3, [33], .null, []),
  (30, .bipush (-2), 2, [], .int (-2), []),
  (32, .ireturn, 1, [], .null, []),
  (33, .aload_n 0, 1, [0], .null, []),
  (34, .getfield 175, 3, [12, 49, 2, 48, 76, 1134], .null, []),
  (37, .iload_n 1, 1, [1], .null, []),
  (38, .iaload, 1, [], .null, []),
  (39, .ifCond .ge 6, 3, [45], .null, []),
  (42, .bipush (-11), 2, [], .int (-11), []),
  (44, .ireturn, 1, [], .null, []),
  (45, .aload_n 0, 1, [0], .null, []),
  (46, .getfield 175, 3, [12, 49, 2, 48, 76, 1134], .null, []),
  (49, .iload_n 1, 1, [1], .null, []),
  (50, .iaload, 1, [], .null, []),
  (51, .iload_n 2, 1, [2], .null, []),
  (52, .if_icmp .eq 6, 3, [58], .null, []),
  (55, .bipush (-13), 2, [], .int (-13), []),
  (57, .ireturn, 1, [], .null, []),
  (58, .iconst 0, 1, [], .int 0, []),
  (59, .istore 5, 2, [5], .null, []),
  (61, .iconst 0, 1, [], .int 0, []),
  (62, .istore 6, 2, [6], .null, []),
  (64, .iload 6, 2, [6], .null, [true, true, false, true, true, true, true, false]),
  (66, .iload 4, 2, [4], .null, []),
  (68, .if_icmp .ge 77, 3, [145], .null, []),
  (71, .iload_n 3, 1, [3], .null, []),
  (72, .ifCond .lt 18, 3, [90], .null, []),
  (75, .iload_n 3, 1, [3], .null, []),
  (76, .aload_n 0, 1, [0], .null, []),
  (77, .getfield 178, 3, [12, 50, 2, 48, 77, 1135], .null, []),
  (80, .iload_n 1, 1, [1], .null, []),
  (81, .iaload, 1, [], .null, []),
  (82, .iload 6, 2, [6], .null, []),
  (84, .isub, 1, [], .null, []),
  (85, .iconst 1, 1, [], .int 1, []),
  (86, .isub, 1, [], .null, []),
  (87, .if_icmp .le 6, 3, [93], .null, []),
  (90, .bipush (-12), 2, [], .int (-12), []),
  (92, .ireturn, 1, [], .null, []),
  (93, .aload_n 0, 1, [0], .null, []),
  (94, .getfield 181, 3, [12, 51, 2, 48, 78, 1136], .null, []),
  (97, .bipush 40, 2, [], .int 40, []),
  (99, .iload_n 1, 1, [1], .null, []),
  (100, .imul, 1, [], .null, []),
  (101, .iload_n 3, 1, [3], .null, []),
  (102, .iadd, 1, [], .null, []),
  (103, .iload 6, 2, [6], .null, []),
  (105, .iadd, 1, [], .null, []),
  (106, .iaload, 1, [], .null, []),
  (107, .istore 7, 2, [7], .null, []),
  (109, .aload_n 0, 1, [0], .null, []),
  (110, .iload 7, 2, [7], .null, []),
  (112, .invokevirtual 37, 3, [1, 144, 1, 2, 1059, 12, 1, 0, 0], .null, []),
  (115, .ifCond .eq 24, 3, [139], .null, []),
  (118, .aload_n 0, 1, [0], .null, []),
  (119, .getfield 11, 3, [12, 1, 0, 48, 0, 1086], .null, []),
  (122, .bipush 60, 2, [], .int 60, []),
  (124, .if_icmp .ne 6, 3, [130], .null, []),
  (127, .goto 12, 3, [139], .null, []),
  (130, .aload_n 0, 1, [0], .null, []),
  (131, .iload 7, 2, [7], .null, []),
  (133, .invokevirtual 41, 3, [1, 145, 1, 2, 1064, 12, 0, 0, 0], .null, []),
  (136, .iinc 5 1, 3, [5], .int 1, []),
  (139, .iinc 6 1, 3, [6], .int 1, []),
  (142, .goto (-78), 3, [64], .null, []),
  (145, .iload 5, 2, [5], .null, []),
  (147, .ireturn, 1, [], .null, [])]
abbrev kX12_nights : Nat := 227
abbrev zq_m227 : zq_T := (yX12_nights, cX12_nights, 8, (some .int), zq_c227, (0, 0), [1575, 95, 1573, 1574])
def zq_c228 : List zq_I := [
  (0, .iload_n 2, 1, [2], .null, []),
  (1, .ifCond .eq 8, 3, [9], .null, []),
  (4, .iload_n 1, 1, [1], .null, []),
  (5, .iload_n 2, 1, [2], .null, []),
  (6, .if_icmp .ne 5, 3, [11], .null, []),
  (9, .iconst 1, 1, [], .int 1, []),
  (10, .ireturn, 1, [], .null, []),
  (11, .iload_n 2, 1, [2], .null, []),
  (12, .iconst 1, 1, [], .int 1, []),
  (13, .if_icmp .ne 11, 3, [24], .null, []),
  (16, .aload_n 0, 1, [0], .null, []),
  (17, .iload_n 1, 1, [1], .null, []),
  (18, .iconst 2, 1, [], .int 2, []),
  (19, .iconst 4, 1, [], .int 4, []),
  (20, .invokevirtual 7, 3, [1, 139, 3, 4, 1050, 12, 1, 0, 0], .null, []),
  (23, .ireturn, 1, [], .null, []),
  (24, .iload_n 2, 1, [2], .null, []),
  (25, .iconst 2, 1, [], .int 2, []),
  (26, .if_icmp .ne 17, 3, [43], .null, []),
  (29, .aload_n 0, 1, [0], .null, []),
  (30, .iload_n 1, 1, [1], .null, []),
  (31, .iconst 3, 1, [], .int 3, []),
  (32, .iconst 4, 1, [], .int 4, []),
  (33, .invokevirtual 7, 3, [1, 139, 3, 4, 1050, 12, 1, 0, 0], .null, []),
  (36, .ifCond .eq 7, 3, [43], .null, []),
  (39, .iconst 1, 1, [], .int 1, []),
  (40, .goto 4, 3, [44], .null, []),
  (43, .iconst 0, 1, [], .int 0, []),
  (44, .ireturn, 1, [], .null, [])]
abbrev kX12_isUnder : Nat := 228
abbrev zq_m228 : zq_T := (yX12_isUnder, cX12_isUnder, 3, (some .boolean), zq_c228, (0, 0), [1583, 95, 1582, 79])
def zq_c229 : List zq_I := [
  (0, .aload_n 0, 1, [0], .null, []),
  (1, .iload_n 2, 1, [2], .null, []),
  (2, .iconst 0, 1, [], .int 0, []),
  (3, .iconst 5, 1, [], .int 5, []),
  (4, .invokevirtual 7, 3, [1, 139, 3, 4, 1050, 12, 1, 0, 0], .null, []),
  (7, .ifCond .ne 6, 3, [13], .null, []),
  (10, .bipush (-2), 2, [], .int (-2), []),
  (12, .ireturn, 1, [], .null, []),
  (13, .aload_n 0, 1, [0], .null, []),
  (14, .iload_n 1, 1, [1], .null, []),
  (15, .invokevirtual 281, 3, [1, 142, 1, 2, 1343, 12, 1, 0, 0], .null, []),
  (18, .ifCond .ne 6, 3, [24], .null, []),
  (21, .bipush (-11), 2, [], .int (-11), []),
  (23, .ireturn, 1, [], .null, []),
  (24, .aload_n 0, 1, [0], .null, []),
  (25, .aload_n 0, 1, [0], .null, []),
  (26, .getfield 45, 3, [12, 9, 2, 48, 56, 1094], .null, []),
  (29, .iload_n 1, 1, [1], .null, []),
  (30, .iaload, 1, [], .null, []),
  (31, .iload_n 2, 1, [2], .null, []),
  (32, .invokevirtual 363, 3, [1, 228, 2, 3, 1580, 12, 1, 0, 0], .null, []),
  (35, .ifCond .eq 12, 3, [47], .null, []),
  (38, .aload_n 0, 1, [0], .null, []),
  (39, .getfield 48, 3, [12, 10, 2, 48, 57, 1095], .null, []),
  (42, .iload_n 1, 1, [1], .null, []),
  (43, .iaload, 1, [], .null, []),
  (44, .goto 5, 3, [49], .null, []),
  (47, .bipush (-13), 2, [], .int (-13), []),
  (49, .ireturn, 1, [], .null, [])]
abbrev kX12_taken : Nat := 229
abbrev zq_m229 : zq_T := (yX12_taken, cX12_taken, 3, (some .int), zq_c229, (0, 0), [1579, 95, 1577, 1578])
def zq_c230 : List zq_I := [
  (0, .new 7, 3, [11, 12, 100, 101, 81], .null, []),
  (3, .dup, 1, [], .null, []),
  (4, .invokespecial 9, 3, [1, 90, 0, 1, 102, 11, 0, 47, 2601], .null, []),
  (7, .astore_n 1, 1, [1], .null, []),
  (8, .new 10, 3, [12, 54, 1080, 1053, 95], .null, []),
  (11, .dup, 1, [], .null, []),
  (12, .invokespecial 12, 3, [1, 149, 0, 1, 1081, 12, 0, 31, 6950], .null, []),
  (15, .astore_n 2, 1, [2], .null, []),
  (16, .iconst 0, 1, [], .int 0, []),
  (17, .istore_n 3, 1, [3], .null, []),
  (18, .iload_n 3, 1, [3], .null, [true, true, true, true]),
  (19, .aload_n 0, 1, [0], .null, []),
  (20, .arraylength, 1, [], .null, []),
  (21, .bipush 6, 2, [], .int 6, []),
  (23, .isub, 1, [], .null, []),
  (24, .if_icmp .gt 1361, 3, [1385], .null, []),
  (27, .aload_n 0, 1, [0], .null, []),
  (28, .iload_n 3, 1, [3], .null, []),
  (29, .iaload, 1, [], .null, []),
  (30, .bipush 63, 2, [], .int 63, []),
  (32, .iand, 1, [], .null, []),
  (33, .tableswitch 1346 0 33 #[151, 184, 207, 240, 273, 326, 369, 432, 445, 468, 521, 554, 597, 640, 663, 696, 740, 763, 796, 829, 863, 897, 930, 953, 986, 1019, 1062, 1075, 1088, 1111, 1154, 1197, 1260, 1313], 151, [1379, 184, 217, 240, 273, 306, 359, 402, 465, 478, 501, 554, 587, 630, 673, 696, 729, 773, 796, 829, 862, 896, 930, 963, 986, 1019, 1052, 1095, 1108, 1121, 1144, 1187, 1230, 1293, 1346], .null, []),
  (184, .aload_n 1, 1, [1], .null, []),
  (185, .aload_n 0, 1, [0], .null, []),
  (186, .iload_n 3, 1, [3], .null, []),
  (187, .iconst 1, 1, [], .int 1, []),
  (188, .iadd, 1, [], .null, []),
  (189, .iaload, 1, [], .null, []),
  (190, .aload_n 0, 1, [0], .null, []),
  (191, .iload_n 3, 1, [3], .null, []),
  (192, .iconst 2, 1, [], .int 2, []),
  (193, .iadd, 1, [], .null, []),
  (194, .iaload, 1, [], .null, []),
  (195, .invokevirtual 13, 3, [1, 91, 2, 3, 472, 11, 1, 0, 0], .null, []),
  (198, .aload_n 2, 1, [2], .null, []),
  (199, .aload_n 0, 1, [0], .null, []),
  (200, .iload_n 3, 1, [3], .null, []),
  (201, .iconst 1, 1, [], .int 1, []),
  (202, .iadd, 1, [], .null, []),
  (203, .iaload, 1, [], .null, []),
  (204, .aload_n 0, 1, [0], .null, []),
  (205, .iload_n 3, 1, [3], .null, []),
  (206, .iconst 2, 1, [], .int 2, []),
  (207, .iadd, 1, [], .null, []),
  (208, .iaload, 1, [], .null, []),
  (209, .invokevirtual 17, 3, [1, 143, 2, 4, 1046, 12, 1, 0, 0], .null, []),
  (212, .if_icmp .eq 1167, 3, [1379], .null, []),
  (215, .iconst 0, 1, [], .int 0, []),
  (216, .ireturn, 1, [], .null, []),
  (217, .aload_n 1, 1, [1], .null, []),
  (218, .aload_n 0, 1, [0], .null, []),
  (219, .iload_n 3, 1, [3], .null, []),
  (220, .iconst 1, 1, [], .int 1, []),
  (221, .iadd, 1, [], .null, []),
  (222, .iaload, 1, [], .null, []),
  (223, .invokevirtual 18, 3, [1, 92, 1, 2, 487, 11, 1, 0, 0], .null, []),
  (226, .aload_n 2, 1, [2], .null, []),
  (227, .aload_n 0, 1, [0], .null, []),
  (228, .iload_n 3, 1, [3], .null, []),
  (229, .iconst 1, 1, [], .int 1, []),
  (230, .iadd, 1, [], .null, []),
  (231, .iaload, 1, [], .null, []),
  (232, .invokevirtual 22, 3, [1, 146, 1, 2, 1055, 12, 1, 0, 0], .null, []),
  (235, .if_icmp .eq 1144, 3, [1379], .null, []),
  (238, .iconst 0, 1, [], .int 0, []),
  (239, .ireturn, 1, [], .null, []),
  (240, .aload_n 1, 1, [1], .null, []),
  (241, .aload_n 0, 1, [0], .null, []),
  (242, .iload_n 3, 1, [3], .null, []),
  (243, .iconst 1, 1, [], .int 1, []),
  (244, .iadd, 1, [], .null, []),
  (245, .iaload, 1, [], .null, []),
  (246, .aload_n 0, 1, [0], .null, []),
  (247, .iload_n 3, 1, [3], .null, []),
  (248, .iconst 2, 1, [], .int 2, []),
  (249, .iadd, 1, [], .null, []),
  (250, .iaload, 1, [], .null, []),
  (251, .invokevirtual 23, 3, [1, 93, 2, 3, 495, 11, 1, 0, 0], .null, []),
  (254, .aload_n 2, 1, [2], .null, []),
  (255, .aload_n 0, 1, [0], .null, []),
  (256, .iload_n 3, 1, [3], .null, []),
  (257, .iconst 1, 1, [], .int 1, []),
  (258, .iadd, 1, [], .null, []),
  (259, .iaload, 1, [], .null, []),
  (260, .aload_n 0, 1, [0], .null, []),
  (261, .iload_n 3, 1, [3], .null, []),
  (262, .iconst 2, 1, [], .int 2, []),
  (263, .iadd, 1, [], .null, []),
  (264, .iaload, 1, [], .null, []),
  (265, .invokevirtual 26, 3, [1, 147, 2, 3, 1068, 12, 1, 0, 0], .null, []),
  (268, .if_icmp .eq 1111, 3, [1379], .null, []),
  (271, .iconst 0, 1, [], .int 0, []),
  (272, .ireturn, 1, [], .null, []),
  (273, .aload_n 1, 1, [1], .null, []),
  (274, .aload_n 0, 1, [0], .null, []),
  (275, .iload_n 3, 1, [3], .null, []),
  (276, .iconst 1, 1, [], .int 1, []),
  (277, .iadd, 1, [], .null, []),
  (278, .iaload, 1, [], .null, []),
  (279, .aload_n 0, 1, [0], .null, []),
  (280, .iload_n 3, 1, [3], .null, []),
  (281, .iconst 2, 1, [], .int 2, []),
  (282, .iadd, 1, [], .null, []),
  (283, .iaload, 1, [], .null, []),
  (284, .invokevirtual 27, 3, [1, 94, 2, 3, 506, 11, 1, 0, 0], .null, []),
  (287, .aload_n 2, 1, [2], .null, []),
  (288, .aload_n 0, 1, [0], .null, []),
  (289, .iload_n 3, 1, [3], .null, []),
  (290, .iconst 1, 1, [], .int 1, []),
  (291, .iadd, 1, [], .null, []),
  (292, .iaload, 1, [], .null, []),
  (293, .aload_n 0, 1, [0], .null, []),
  (294, .iload_n 3, 1, [3], .null, []),
  (295, .iconst 2, 1, [], .int 2, []),
  (296, .iadd, 1, [], .null, []),
  (297, .iaload, 1, [], .null, []),
  (298, .invokevirtual 30, 3, [1, 148, 2, 3, 1072, 12, 1, 0, 0], .null, []),
  (301, .if_icmp .eq 1078, 3, [1379], .null, []),
  (304, .iconst 0, 1, [], .int 0, []),
  (305, .ireturn, 1, [], .null, []),
  (306, .aload_n 1, 1, [1], .null, []),
  (307, .aload_n 0, 1, [0], .null, []),
  (308, .iload_n 3, 1, [3], .null, []),
  (309, .iconst 1, 1, [], .int 1, []),
  (310, .iadd, 1, [], .null, []),
  (311, .iaload, 1, [], .null, []),
  (312, .aload_n 0, 1, [0], .null, []),
  (313, .iload_n 3, 1, [3], .null, []),
  (314, .iconst 2, 1, [], .int 2, []),
  (315, .iadd, 1, [], .null, []),
  (316, .iaload, 1, [], .null, []),
  (317, .aload_n 0, 1, [0], .null, []),
  (318, .iload_n 3, 1, [3], .null, []),
  (319, .iconst 3, 1, [], .int 3, []),
  (320, .iadd, 1, [], .null, []),
  (321, .iaload, 1, [], .null, []),
  (322, .aload_n 0, 1, [0], .null, []),
  (323, .iload_n 3, 1, [3], .null, []),
  (324, .iconst 4, 1, [], .int 4, []),
  (325, .iadd, 1, [], .null, []),
  (326, .iaload, 1, [], .null, []),
  (327, .invokevirtual 31, 3, [1, 95, 4, 5, 514, 11, 1, 0, 0], .null, []),
  (330, .aload_n 2, 1, [2], .null, []),
  (331, .aload_n 0, 1, [0], .null, []),
  (332, .iload_n 3, 1, [3], .null, []),
  (333, .iconst 1, 1, [], .int 1, []),
  (334, .iadd, 1, [], .null, []),
  (335, .iaload, 1, [], .null, []),
  (336, .aload_n 0, 1, [0], .null, []),
  (337, .iload_n 3, 1, [3], .null, []),
  (338, .iconst 2, 1, [], .int 2, []),
  (339, .iadd, 1, [], .null, []),
  (340, .iaload, 1, [], .null, []),
  (341, .aload_n 0, 1, [0], .null, []),
  (342, .iload_n 3, 1, [3], .null, []),
  (343, .iconst 3, 1, [], .int 3, []),
  (344, .iadd, 1, [], .null, []),
  (345, .iaload, 1, [], .null, []),
  (346, .aload_n 0, 1, [0], .null, []),
  (347, .iload_n 3, 1, [3], .null, []),
  (348, .iconst 4, 1, [], .int 4, []),
  (349, .iadd, 1, [], .null, []),
  (350, .iaload, 1, [], .null, []),
  (351, .invokevirtual 35, 3, [1, 180, 4, 5, 1339, 12, 1, 0, 0], .null, []),
  (354, .if_icmp .eq 1025, 3, [1379], .null, []),
  (357, .iconst 0, 1, [], .int 0, []),
  (358, .ireturn, 1, [], .null, []),
  (359, .aload_n 1, 1, [1], .null, []),
  (360, .aload_n 0, 1, [0], .null, []),
  (361, .iload_n 3, 1, [3], .null, []),
  (362, .iconst 1, 1, [], .int 1, []),
  (363, .iadd, 1, [], .null, []),
  (364, .iaload, 1, [], .null, []),
  (365, .aload_n 0, 1, [0], .null, []),
  (366, .iload_n 3, 1, [3], .null, []),
  (367, .iconst 2, 1, [], .int 2, []),
  (368, .iadd, 1, [], .null, []),
  (369, .iaload, 1, [], .null, []),
  (370, .aload_n 0, 1, [0], .null, []),
  (371, .iload_n 3, 1, [3], .null, []),
  (372, .iconst 3, 1, [], .int 3, []),
  (373, .iadd, 1, [], .null, []),
  (374, .iaload, 1, [], .null, []),
  (375, .invokevirtual 36, 3, [1, 96, 3, 5, 572, 11, 1, 0, 0], .null, []),
  (378, .aload_n 2, 1, [2], .null, []),
  (379, .aload_n 0, 1, [0], .null, []),
  (380, .iload_n 3, 1, [3], .null, []),
  (381, .iconst 1, 1, [], .int 1, []),
  (382, .iadd, 1, [], .null, []),
  (383, .iaload, 1, [], .null, []),
  (384, .aload_n 0, 1, [0], .null, []),
  (385, .iload_n 3, 1, [3], .null, []),
  (386, .iconst 2, 1, [], .int 2, []),
  (387, .iadd, 1, [], .null, []),
  (388, .iaload, 1, [], .null, []),
  (389, .aload_n 0, 1, [0], .null, []),
  (390, .iload_n 3, 1, [3], .null, []),
  (391, .iconst 3, 1, [], .int 3, []),
  (392, .iadd, 1, [], .null, []),
  (393, .iaload, 1, [], .null, []),
  (394, .invokevirtual 40, 3, [1, 181, 3, 6, 1383, 12, 1, 0, 0], .null, []),
  (397, .if_icmp .eq 982, 3, [1379], .null, []),
  (400, .iconst 0, 1, [], .int 0, []),
  (401, .ireturn, 1, [], .null, []),
  (402, .aload_n 1, 1, [1], .null, []),
  (403, .aload_n 0, 1, [0], .null, []),
  (404, .iload_n 3, 1, [3], .null, []),
  (405, .iconst 1, 1, [], .int 1, []),
  (406, .iadd, 1, [], .null, []),
  (407, .iaload, 1, [], .null, []),
  (408, .aload_n 0, 1, [0], .null, []),
  (409, .iload_n 3, 1, [3], .null, []),
  (410, .iconst 2, 1, [], .int 2, []),
  (411, .iadd, 1, [], .null, []),
  (412, .iaload, 1, [], .null, []),
  (413, .i2l, 1, [], .null, []),
  (414, .bipush 32, 2, [], .int 32, []),
  (416, .lshl, 1, [], .null, []),
  (417, .aload_n 0, 1, [0], .null, []),
  (418, .iload_n 3, 1, [3], .null, []),
  (419, .iconst 3, 1, [], .int 3, []),
  (420, .iadd, 1, [], .null, []),
  (421, .iaload, 1, [], .null, []),
  (422, .i2l, 1, [], .null, []),
  (423, .ldc2_w 41, 3, [2, 1584], .long 4294967295, []),
  (426, .land, 1, [], .null, []),
  (427, .lor, 1, [], .null, []),
  (428, .invokevirtual 43, 3, [1, 97, 2, 4, 576, 11, 1, 0, 0], .null, []),
  (431, .aload_n 2, 1, [2], .null, []),
  (432, .aload_n 0, 1, [0], .null, []),
  (433, .iload_n 3, 1, [3], .null, []),
  (434, .iconst 1, 1, [], .int 1, []),
  (435, .iadd, 1, [], .null, []),
  (436, .iaload, 1, [], .null, []),
  (437, .aload_n 0, 1, [0], .null, []),
  (438, .iload_n 3, 1, [3], .null, []),
  (439, .iconst 2, 1, [], .int 2, []),
  (440, .iadd, 1, [], .null, []),
  (441, .iaload, 1, [], .null, []),
  (442, .i2l, 1, [], .null, []),
  (443, .bipush 32, 2, [], .int 32, []),
  (445, .lshl, 1, [], .null, []),
  (446, .aload_n 0, 1, [0], .null, []),
  (447, .iload_n 3, 1, [3], .null, []),
  (448, .iconst 3, 1, [], .int 3, []),
  (449, .iadd, 1, [], .null, []),
  (450, .iaload, 1, [], .null, []),
  (451, .i2l, 1, [], .null, []),
  (452, .ldc2_w 41, 3, [2, 1584], .long 4294967295, []),
  (455, .land, 1, [], .null, []),
  (456, .lor, 1, [], .null, []),
  (457, .invokevirtual 47, 3, [1, 150, 2, 5, 1248, 12, 1, 0, 0], .null, []),
  (460, .if_icmp .eq 919, 3, [1379], .null, []),
  (463, .iconst 0, 1, [], .int 0, []),
  (464, .ireturn, 1, [], .null, []),
  (465, .aload_n 1, 1, [1], .null, []),
  (466, .invokevirtual 48, 3, [1, 98, 0, 2, 584, 11, 1, 0, 0], .null, []),
  (469, .aload_n 2, 1, [2], .null, []),
  (470, .invokevirtual 52, 3, [1, 169, 0, 2, 1253, 12, 1, 0, 0], .null, []),
  (473, .if_icmp .eq 906, 3, [1379], .null, []),
  (476, .iconst 0, 1, [], .int 0, []),
  (477, .ireturn, 1, [], .null, []),
  (478, .aload_n 1, 1, [1], .null, []),
  (479, .aload_n 0, 1, [0], .null, []),
  (480, .iload_n 3, 1, [3], .null, []),
  (481, .iconst 1, 1, [], .int 1, []),
  (482, .iadd, 1, [], .null, []),
  (483, .iaload, 1, [], .null, []),
  (484, .invokevirtual 53, 3, [1, 99, 1, 3, 719, 11, 1, 0, 0], .null, []),
  (487, .aload_n 2, 1, [2], .null, []),
  (488, .aload_n 0, 1, [0], .null, []),
  (489, .iload_n 3, 1, [3], .null, []),
  (490, .iconst 1, 1, [], .int 1, []),
  (491, .iadd, 1, [], .null, []),
  (492, .iaload, 1, [], .null, []),
  (493, .invokevirtual 56, 3, [1, 170, 1, 3, 1335, 12, 1, 0, 0], .null, []),
  (496, .if_icmp .eq 883, 3, [1379], .null, []),
  (499, .iconst 0, 1, [], .int 0, []),
  (500, .ireturn, 1, [], .null, []),
  (501, .aload_n 1, 1, [1], .null, []),
  (502, .aload_n 0, 1, [0], .null, []),
  (503, .iload_n 3, 1, [3], .null, []),
  (504, .iconst 1, 1, [], .int 1, []),
  (505, .iadd, 1, [], .null, []),
  (506, .iaload, 1, [], .null, []),
  (507, .aload_n 0, 1, [0], .null, []),
  (508, .iload_n 3, 1, [3], .null, []),
  (509, .iconst 2, 1, [], .int 2, []),
  (510, .iadd, 1, [], .null, []),
  (511, .iaload, 1, [], .null, []),
  (512, .aload_n 0, 1, [0], .null, []),
  (513, .iload_n 3, 1, [3], .null, []),
  (514, .iconst 3, 1, [], .int 3, []),
  (515, .iadd, 1, [], .null, []),
  (516, .iaload, 1, [], .null, []),
  (517, .aload_n 0, 1, [0], .null, []),
  (518, .iload_n 3, 1, [3], .null, []),
  (519, .iconst 4, 1, [], .int 4, []),
  (520, .iadd, 1, [], .null, []),
  (521, .iaload, 1, [], .null, []),
  (522, .invokevirtual 57, 3, [1, 100, 4, 5, 723, 11, 1, 0, 0], .null, []),
  (525, .aload_n 2, 1, [2], .null, []),
  (526, .aload_n 0, 1, [0], .null, []),
  (527, .iload_n 3, 1, [3], .null, []),
  (528, .iconst 1, 1, [], .int 1, []),
  (529, .iadd, 1, [], .null, []),
  (530, .iaload, 1, [], .null, []),
  (531, .aload_n 0, 1, [0], .null, []),
  (532, .iload_n 3, 1, [3], .null, []),
  (533, .iconst 2, 1, [], .int 2, []),
  (534, .iadd, 1, [], .null, []),
  (535, .iaload, 1, [], .null, []),
  (536, .aload_n 0, 1, [0], .null, []),
  (537, .iload_n 3, 1, [3], .null, []),
  (538, .iconst 3, 1, [], .int 3, []),
  (539, .iadd, 1, [], .null, []),
  (540, .iaload, 1, [], .null, []),
  (541, .aload_n 0, 1, [0], .null, []),
  (542, .iload_n 3, 1, [3], .null, []),
  (543, .iconst 4, 1, [], .int 4, []),
  (544, .iadd, 1, [], .null, []),
  (545, .iaload, 1, [], .null, []),
  (546, .invokevirtual 60, 3, [1, 189, 4, 5, 1387, 12, 1, 0, 0], .null, []),
  (549, .if_icmp .eq 830, 3, [1379], .null, []),
  (552, .iconst 0, 1, [], .int 0, []),
  (553, .ireturn, 1, [], .null, []),
  (554, .aload_n 1, 1, [1], .null, []),
  (555, .aload_n 0, 1, [0], .null, []),
  (556, .iload_n 3, 1, [3], .null, []),
  (557, .iconst 1, 1, [], .int 1, []),
  (558, .iadd, 1, [], .null, []),
  (559, .iaload, 1, [], .null, []),
  (560, .aload_n 0, 1, [0], .null, []),
  (561, .iload_n 3, 1, [3], .null, []),
  (562, .iconst 2, 1, [], .int 2, []),
  (563, .iadd, 1, [], .null, []),
  (564, .iaload, 1, [], .null, []),
  (565, .invokevirtual 61, 3, [1, 101, 2, 5, 755, 11, 1, 0, 0], .null, []),
  (568, .aload_n 2, 1, [2], .null, []),
  (569, .aload_n 0, 1, [0], .null, []),
  (570, .iload_n 3, 1, [3], .null, []),
  (571, .iconst 1, 1, [], .int 1, []),
  (572, .iadd, 1, [], .null, []),
  (573, .iaload, 1, [], .null, []),
  (574, .aload_n 0, 1, [0], .null, []),
  (575, .iload_n 3, 1, [3], .null, []),
  (576, .iconst 2, 1, [], .int 2, []),
  (577, .iadd, 1, [], .null, []),
  (578, .iaload, 1, [], .null, []),
  (579, .invokevirtual 64, 3, [1, 190, 2, 5, 1419, 12, 1, 0, 0], .null, []),
  (582, .if_icmp .eq 797, 3, [1379], .null, []),
  (585, .iconst 0, 1, [], .int 0, []),
  (586, .ireturn, 1, [], .null, []),
  (587, .aload_n 1, 1, [1], .null, []),
  (588, .aload_n 0, 1, [0], .null, []),
  (589, .iload_n 3, 1, [3], .null, []),
  (590, .iconst 1, 1, [], .int 1, []),
  (591, .iadd, 1, [], .null, []),
  (592, .iaload, 1, [], .null, []),
  (593, .aload_n 0, 1, [0], .null, []),
  (594, .iload_n 3, 1, [3], .null, []),
  (595, .iconst 2, 1, [], .int 2, []),
  (596, .iadd, 1, [], .null, []),
  (597, .iaload, 1, [], .null, []),
  (598, .aload_n 0, 1, [0], .null, []),
  (599, .iload_n 3, 1, [3], .null, []),
  (600, .iconst 3, 1, [], .int 3, []),
  (601, .iadd, 1, [], .null, []),
  (602, .iaload, 1, [], .null, []),
  (603, .invokevirtual 65, 3, [1, 102, 3, 4, 759, 11, 1, 0, 0], .null, []),
  (606, .aload_n 2, 1, [2], .null, []),
  (607, .aload_n 0, 1, [0], .null, []),
  (608, .iload_n 3, 1, [3], .null, []),
  (609, .iconst 1, 1, [], .int 1, []),
  (610, .iadd, 1, [], .null, []),
  (611, .iaload, 1, [], .null, []),
  (612, .aload_n 0, 1, [0], .null, []),
  (613, .iload_n 3, 1, [3], .null, []),
  (614, .iconst 2, 1, [], .int 2, []),
  (615, .iadd, 1, [], .null, []),
  (616, .iaload, 1, [], .null, []),
  (617, .aload_n 0, 1, [0], .null, []),
  (618, .iload_n 3, 1, [3], .null, []),
  (619, .iconst 3, 1, [], .int 3, []),
  (620, .iadd, 1, [], .null, []),
  (621, .iaload, 1, [], .null, []),
  (622, .invokevirtual 68, 3, [1, 192, 3, 4, 1423, 12, 1, 0, 0], .null, []),
  (625, .if_icmp .eq 754, 3, [1379], .null, []),
  (628, .iconst 0, 1, [], .int 0, []),
  (629, .ireturn, 1, [], .null, []),
  (630, .aload_n 1, 1, [1], .null, []),
  (631, .aload_n 0, 1, [0], .null, []),
  (632, .iload_n 3, 1, [3], .null, []),
  (633, .iconst 1, 1, [], .int 1, []),
  (634, .iadd, 1, [], .null, []),
  (635, .iaload, 1, [], .null, []),
  (636, .aload_n 0, 1, [0], .null, []),
  (637, .iload_n 3, 1, [3], .null, []),
  (638, .iconst 2, 1, [], .int 2, []),
  (639, .iadd, 1, [], .null, []),
  (640, .iaload, 1, [], .null, []),
  (641, .aload_n 0, 1, [0], .null, []),
  (642, .iload_n 3, 1, [3], .null, []),
  (643, .iconst 3, 1, [], .int 3, []),
  (644, .iadd, 1, [], .null, []),
  (645, .iaload, 1, [], .null, []),
  (646, .invokevirtual 69, 3, [1, 103, 3, 4, 767, 11, 1, 0, 0], .null, []),
  (649, .aload_n 2, 1, [2], .null, []),
  (650, .aload_n 0, 1, [0], .null, []),
  (651, .iload_n 3, 1, [3], .null, []),
  (652, .iconst 1, 1, [], .int 1, []),
  (653, .iadd, 1, [], .null, []),
  (654, .iaload, 1, [], .null, []),
  (655, .aload_n 0, 1, [0], .null, []),
  (656, .iload_n 3, 1, [3], .null, []),
  (657, .iconst 2, 1, [], .int 2, []),
  (658, .iadd, 1, [], .null, []),
  (659, .iaload, 1, [], .null, []),
  (660, .aload_n 0, 1, [0], .null, []),
  (661, .iload_n 3, 1, [3], .null, []),
  (662, .iconst 3, 1, [], .int 3, []),
  (663, .iadd, 1, [], .null, []),
  (664, .iaload, 1, [], .null, []),
  (665, .invokevirtual 72, 3, [1, 195, 3, 4, 1427, 12, 1, 0, 0], .null, []),
  (668, .if_icmp .eq 711, 3, [1379], .null, []),
  (671, .iconst 0, 1, [], .int 0, []),
  (672, .ireturn, 1, [], .null, []),
  (673, .aload_n 1, 1, [1], .null, []),
  (674, .aload_n 0, 1, [0], .null, []),
  (675, .iload_n 3, 1, [3], .null, []),
  (676, .iconst 1, 1, [], .int 1, []),
  (677, .iadd, 1, [], .null, []),
  (678, .iaload, 1, [], .null, []),
  (679, .invokevirtual 73, 3, [1, 104, 1, 2, 785, 11, 1, 0, 0], .null, []),
  (682, .aload_n 2, 1, [2], .null, []),
  (683, .aload_n 0, 1, [0], .null, []),
  (684, .iload_n 3, 1, [3], .null, []),
  (685, .iconst 1, 1, [], .int 1, []),
  (686, .iadd, 1, [], .null, []),
  (687, .iaload, 1, [], .null, []),
  (688, .invokevirtual 76, 3, [1, 196, 1, 7, 1443, 12, 1, 0, 0], .null, []),
  (691, .if_icmp .eq 688, 3, [1379], .null, []),
  (694, .iconst 0, 1, [], .int 0, []),
  (695, .ireturn, 1, [], .null, []),
  (696, .aload_n 1, 1, [1], .null, []),
  (697, .aload_n 0, 1, [0], .null, []),
  (698, .iload_n 3, 1, [3], .null, []),
  (699, .iconst 1, 1, [], .int 1, []),
  (700, .iadd, 1, [], .null, []),
  (701, .iaload, 1, [], .null, []),
  (702, .aload_n 0, 1, [0], .null, []),
  (703, .iload_n 3, 1, [3], .null, []),
  (704, .iconst 2, 1, [], .int 2, []),
  (705, .iadd, 1, [], .null, []),
  (706, .iaload, 1, [], .null, []),
  (707, .invokevirtual 77, 3, [1, 105, 2, 3, 798, 11, 1, 0, 0], .null, []),
  (710, .aload_n 2, 1, [2], .null, []),
  (711, .aload_n 0, 1, [0], .null, []),
  (712, .iload_n 3, 1, [3], .null, []),
  (713, .iconst 1, 1, [], .int 1, []),
  (714, .iadd, 1, [], .null, []),
  (715, .iaload, 1, [], .null, []),
  (716, .aload_n 0, 1, [0], .null, []),
  (717, .iload_n 3, 1, [3], .null, []),
  (718, .iconst 2, 1, [], .int 2, []),
  (719, .iadd, 1, [], .null, []),
  (720, .iaload, 1, [], .null, []),
  (721, .invokevirtual 80, 3, [1, 198, 2, 3, 1447, 12, 1, 0, 0], .null, []),
  (724, .if_icmp .eq 655, 3, [1379], .null, []),
  (727, .iconst 0, 1, [], .int 0, []),
  (728, .ireturn, 1, [], .null, []),
  (729, .aload_n 1, 1, [1], .null, []),
  (730, .aload_n 0, 1, [0], .null, []),
  (731, .iload_n 3, 1, [3], .null, []),
  (732, .iconst 1, 1, [], .int 1, []),
  (733, .iadd, 1, [], .null, []),
  (734, .iaload, 1, [], .null, []),
  (735, .aload_n 0, 1, [0], .null, []),
  (736, .iload_n 3, 1, [3], .null, []),
  (737, .iconst 2, 1, [], .int 2, []),
  (738, .iadd, 1, [], .null, []),
  (739, .iaload, 1, [], .null, []),
  (740, .aload_n 0, 1, [0], .null, []),
  (741, .iload_n 3, 1, [3], .null, []),
  (742, .iconst 3, 1, [], .int 3, []),
  (743, .iadd, 1, [], .null, []),
  (744, .iaload, 1, [], .null, []),
  (745, .invokevirtual 81, 3, [1, 106, 3, 11, 807, 11, 1, 0, 0], .null, []),
  (748, .aload_n 2, 1, [2], .null, []),
  (749, .aload_n 0, 1, [0], .null, []),
  (750, .iload_n 3, 1, [3], .null, []),
  (751, .iconst 1, 1, [], .int 1, []),
  (752, .iadd, 1, [], .null, []),
  (753, .iaload, 1, [], .null, []),
  (754, .aload_n 0, 1, [0], .null, []),
  (755, .iload_n 3, 1, [3], .null, []),
  (756, .iconst 2, 1, [], .int 2, []),
  (757, .iadd, 1, [], .null, []),
  (758, .iaload, 1, [], .null, []),
  (759, .aload_n 0, 1, [0], .null, []),
  (760, .iload_n 3, 1, [3], .null, []),
  (761, .iconst 3, 1, [], .int 3, []),
  (762, .iadd, 1, [], .null, []),
  (763, .iaload, 1, [], .null, []),
  (764, .invokevirtual 85, 3, [1, 201, 3, 11, 1459, 12, 1, 0, 0], .null, []),
  (767, .lcmp, 1, [], .null, []),
  (768, .ifCond .eq 611, 3, [1379], .null, []),
  (771, .iconst 0, 1, [], .int 0, []),
  (772, .ireturn, 1, [], .null, []),
  (773, .aload_n 1, 1, [1], .null, []),
  (774, .aload_n 0, 1, [0], .null, []),
  (775, .iload_n 3, 1, [3], .null, []),
  (776, .iconst 1, 1, [], .int 1, []),
  (777, .iadd, 1, [], .null, []),
  (778, .iaload, 1, [], .null, []),
  (779, .invokevirtual 86, 3, [1, 107, 1, 2, 827, 11, 1, 0, 0], .null, []),
  (782, .aload_n 2, 1, [2], .null, []),
  (783, .aload_n 0, 1, [0], .null, []),
  (784, .iload_n 3, 1, [3], .null, []),
  (785, .iconst 1, 1, [], .int 1, []),
  (786, .iadd, 1, [], .null, []),
  (787, .iaload, 1, [], .null, []),
  (788, .invokevirtual 89, 3, [1, 202, 1, 2, 1472, 12, 1, 0, 0], .null, []),
  (791, .if_icmp .eq 588, 3, [1379], .null, []),
  (794, .iconst 0, 1, [], .int 0, []),
  (795, .ireturn, 1, [], .null, []),
  (796, .aload_n 1, 1, [1], .null, []),
  (797, .aload_n 0, 1, [0], .null, []),
  (798, .iload_n 3, 1, [3], .null, []),
  (799, .iconst 1, 1, [], .int 1, []),
  (800, .iadd, 1, [], .null, []),
  (801, .iaload, 1, [], .null, []),
  (802, .aload_n 0, 1, [0], .null, []),
  (803, .iload_n 3, 1, [3], .null, []),
  (804, .iconst 2, 1, [], .int 2, []),
  (805, .iadd, 1, [], .null, []),
  (806, .iaload, 1, [], .null, []),
  (807, .invokevirtual 90, 3, [1, 108, 2, 3, 835, 11, 1, 0, 0], .null, []),
  (810, .aload_n 2, 1, [2], .null, []),
  (811, .aload_n 0, 1, [0], .null, []),
  (812, .iload_n 3, 1, [3], .null, []),
  (813, .iconst 1, 1, [], .int 1, []),
  (814, .iadd, 1, [], .null, []),
  (815, .iaload, 1, [], .null, []),
  (816, .aload_n 0, 1, [0], .null, []),
  (817, .iload_n 3, 1, [3], .null, []),
  (818, .iconst 2, 1, [], .int 2, []),
  (819, .iadd, 1, [], .null, []),
  (820, .iaload, 1, [], .null, []),
  (821, .invokevirtual 93, 3, [1, 204, 2, 3, 1476, 12, 1, 0, 0], .null, []),
  (824, .if_icmp .eq 555, 3, [1379], .null, []),
  (827, .iconst 0, 1, [], .int 0, []),
  (828, .ireturn, 1, [], .null, []),
  (829, .aload_n 1, 1, [1], .null, []),
  (830, .aload_n 0, 1, [0], .null, []),
  (831, .iload_n 3, 1, [3], .null, []),
  (832, .iconst 1, 1, [], .int 1, []),
  (833, .iadd, 1, [], .null, []),
  (834, .iaload, 1, [], .null, []),
  (835, .aload_n 0, 1, [0], .null, []),
  (836, .iload_n 3, 1, [3], .null, []),
  (837, .iconst 2, 1, [], .int 2, []),
  (838, .iadd, 1, [], .null, []),
  (839, .iaload, 1, [], .null, []),
  (840, .invokevirtual 94, 3, [1, 109, 2, 5, 850, 11, 1, 0, 0], .null, []),
  (843, .aload_n 2, 1, [2], .null, []),
  (844, .aload_n 0, 1, [0], .null, []),
  (845, .iload_n 3, 1, [3], .null, []),
  (846, .iconst 1, 1, [], .int 1, []),
  (847, .iadd, 1, [], .null, []),
  (848, .iaload, 1, [], .null, []),
  (849, .aload_n 0, 1, [0], .null, []),
  (850, .iload_n 3, 1, [3], .null, []),
  (851, .iconst 2, 1, [], .int 2, []),
  (852, .iadd, 1, [], .null, []),
  (853, .iaload, 1, [], .null, []),
  (854, .invokevirtual 97, 3, [1, 206, 2, 5, 1484, 12, 1, 0, 0], .null, []),
  (857, .if_icmp .eq 522, 3, [1379], .null, []),
  (860, .iconst 0, 1, [], .int 0, []),
  (861, .ireturn, 1, [], .null, []),
  (862, .aload_n 1, 1, [1], .null, []),
  (863, .aload_n 0, 1, [0], .null, []),
  (864, .iload_n 3, 1, [3], .null, []),
  (865, .iconst 1, 1, [], .int 1, []),
  (866, .iadd, 1, [], .null, []),
  (867, .iaload, 1, [], .null, []),
  (868, .aload_n 0, 1, [0], .null, []),
  (869, .iload_n 3, 1, [3], .null, []),
  (870, .iconst 2, 1, [], .int 2, []),
  (871, .iadd, 1, [], .null, []),
  (872, .iaload, 1, [], .null, []),
  (873, .invokevirtual 98, 3, [1, 110, 2, 3, 862, 11, 1, 0, 0], .null, []),
  (876, .aload_n 2, 1, [2], .null, []),
  (877, .aload_n 0, 1, [0], .null, []),
  (878, .iload_n 3, 1, [3], .null, []),
  (879, .iconst 1, 1, [], .int 1, []),
  (880, .iadd, 1, [], .null, []),
  (881, .iaload, 1, [], .null, []),
  (882, .aload_n 0, 1, [0], .null, []),
  (883, .iload_n 3, 1, [3], .null, []),
  (884, .iconst 2, 1, [], .int 2, []),
  (885, .iadd, 1, [], .null, []),
  (886, .iaload, 1, [], .null, []),
  (887, .invokevirtual 102, 3, [1, 209, 2, 14, 1492, 12, 1, 0, 0], .null, []),
  (890, .lcmp, 1, [], .null, []),
  (891, .ifCond .eq 488, 3, [1379], .null, []),
  (894, .iconst 0, 1, [], .int 0, []),
  (895, .ireturn, 1, [], .null, []),
  (896, .aload_n 1, 1, [1], .null, []),
  (897, .aload_n 0, 1, [0], .null, []),
  (898, .iload_n 3, 1, [3], .null, []),
  (899, .iconst 1, 1, [], .int 1, []),
  (900, .iadd, 1, [], .null, []),
  (901, .iaload, 1, [], .null, []),
  (902, .aload_n 0, 1, [0], .null, []),
  (903, .iload_n 3, 1, [3], .null, []),
  (904, .iconst 2, 1, [], .int 2, []),
  (905, .iadd, 1, [], .null, []),
  (906, .iaload, 1, [], .null, []),
  (907, .invokevirtual 103, 3, [1, 111, 2, 6, 897, 11, 1, 0, 0], .null, []),
  (910, .aload_n 2, 1, [2], .null, []),
  (911, .aload_n 0, 1, [0], .null, []),
  (912, .iload_n 3, 1, [3], .null, []),
  (913, .iconst 1, 1, [], .int 1, []),
  (914, .iadd, 1, [], .null, []),
  (915, .iaload, 1, [], .null, []),
  (916, .aload_n 0, 1, [0], .null, []),
  (917, .iload_n 3, 1, [3], .null, []),
  (918, .iconst 2, 1, [], .int 2, []),
  (919, .iadd, 1, [], .null, []),
  (920, .iaload, 1, [], .null, []),
  (921, .invokevirtual 106, 3, [1, 211, 2, 6, 1504, 12, 1, 0, 0], .null, []),
  (924, .lcmp, 1, [], .null, []),
  (925, .ifCond .eq 454, 3, [1379], .null, []),
  (928, .iconst 0, 1, [], .int 0, []),
  (929, .ireturn, 1, [], .null, []),
  (930, .aload_n 1, 1, [1], .null, []),
  (931, .aload_n 0, 1, [0], .null, []),
  (932, .iload_n 3, 1, [3], .null, []),
  (933, .iconst 1, 1, [], .int 1, []),
  (934, .iadd, 1, [], .null, []),
  (935, .iaload, 1, [], .null, []),
  (936, .aload_n 0, 1, [0], .null, []),
  (937, .iload_n 3, 1, [3], .null, []),
  (938, .iconst 2, 1, [], .int 2, []),
  (939, .iadd, 1, [], .null, []),
  (940, .iaload, 1, [], .null, []),
  (941, .invokevirtual 107, 3, [1, 112, 2, 3, 905, 11, 1, 0, 0], .null, []),
  (944, .aload_n 2, 1, [2], .null, []),
  (945, .aload_n 0, 1, [0], .null, []),
  (946, .iload_n 3, 1, [3], .null, []),
  (947, .iconst 1, 1, [], .int 1, []),
  (948, .iadd, 1, [], .null, []),
  (949, .iaload, 1, [], .null, []),
  (950, .aload_n 0, 1, [0], .null, []),
  (951, .iload_n 3, 1, [3], .null, []),
  (952, .iconst 2, 1, [], .int 2, []),
  (953, .iadd, 1, [], .null, []),
  (954, .iaload, 1, [], .null, []),
  (955, .invokevirtual 110, 3, [1, 212, 2, 3, 1512, 12, 1, 0, 0], .null, []),
  (958, .if_icmp .eq 421, 3, [1379], .null, []),
  (961, .iconst 0, 1, [], .int 0, []),
  (962, .ireturn, 1, [], .null, []),
  (963, .aload_n 1, 1, [1], .null, []),
  (964, .aload_n 0, 1, [0], .null, []),
  (965, .iload_n 3, 1, [3], .null, []),
  (966, .iconst 1, 1, [], .int 1, []),
  (967, .iadd, 1, [], .null, []),
  (968, .iaload, 1, [], .null, []),
  (969, .invokevirtual 111, 3, [1, 113, 1, 2, 913, 11, 1, 0, 0], .null, []),
  (972, .aload_n 2, 1, [2], .null, []),
  (973, .aload_n 0, 1, [0], .null, []),
  (974, .iload_n 3, 1, [3], .null, []),
  (975, .iconst 1, 1, [], .int 1, []),
  (976, .iadd, 1, [], .null, []),
  (977, .iaload, 1, [], .null, []),
  (978, .invokevirtual 114, 3, [1, 214, 1, 5, 1516, 12, 1, 0, 0], .null, []),
  (981, .if_icmp .eq 398, 3, [1379], .null, []),
  (984, .iconst 0, 1, [], .int 0, []),
  (985, .ireturn, 1, [], .null, []),
  (986, .aload_n 1, 1, [1], .null, []),
  (987, .aload_n 0, 1, [0], .null, []),
  (988, .iload_n 3, 1, [3], .null, []),
  (989, .iconst 1, 1, [], .int 1, []),
  (990, .iadd, 1, [], .null, []),
  (991, .iaload, 1, [], .null, []),
  (992, .aload_n 0, 1, [0], .null, []),
  (993, .iload_n 3, 1, [3], .null, []),
  (994, .iconst 2, 1, [], .int 2, []),
  (995, .iadd, 1, [], .null, []),
  (996, .iaload, 1, [], .null, []),
  (997, .invokevirtual 115, 3, [1, 114, 2, 4, 929, 11, 1, 0, 0], .null, []),
  (1000, .aload_n 2, 1, [2], .null, []),
  (1001, .aload_n 0, 1, [0], .null, []),
  (1002, .iload_n 3, 1, [3], .null, []),
  (1003, .iconst 1, 1, [], .int 1, []),
  (1004, .iadd, 1, [], .null, []),
  (1005, .iaload, 1, [], .null, []),
  (1006, .aload_n 0, 1, [0], .null, []),
  (1007, .iload_n 3, 1, [3], .null, []),
  (1008, .iconst 2, 1, [], .int 2, []),
  (1009, .iadd, 1, [], .null, []),
  (1010, .iaload, 1, [], .null, []),
  (1011, .invokevirtual 118, 3, [1, 216, 2, 11, 1524, 12, 1, 0, 0], .null, []),
  (1014, .if_icmp .eq 365, 3, [1379], .null, []),
  (1017, .iconst 0, 1, [], .int 0, []),
  (1018, .ireturn, 1, [], .null, []),
  (1019, .aload_n 1, 1, [1], .null, []),
  (1020, .aload_n 0, 1, [0], .null, []),
  (1021, .iload_n 3, 1, [3], .null, []),
  (1022, .iconst 1, 1, [], .int 1, []),
  (1023, .iadd, 1, [], .null, []),
  (1024, .iaload, 1, [], .null, []),
  (1025, .aload_n 0, 1, [0], .null, []),
  (1026, .iload_n 3, 1, [3], .null, []),
  (1027, .iconst 2, 1, [], .int 2, []),
  (1028, .iadd, 1, [], .null, []),
  (1029, .iaload, 1, [], .null, []),
  (1030, .invokevirtual 119, 3, [1, 115, 2, 5, 945, 11, 1, 0, 0], .null, []),
  (1033, .aload_n 2, 1, [2], .null, []),
  (1034, .aload_n 0, 1, [0], .null, []),
  (1035, .iload_n 3, 1, [3], .null, []),
  (1036, .iconst 1, 1, [], .int 1, []),
  (1037, .iadd, 1, [], .null, []),
  (1038, .iaload, 1, [], .null, []),
  (1039, .aload_n 0, 1, [0], .null, []),
  (1040, .iload_n 3, 1, [3], .null, []),
  (1041, .iconst 2, 1, [], .int 2, []),
  (1042, .iadd, 1, [], .null, []),
  (1043, .iaload, 1, [], .null, []),
  (1044, .invokevirtual 122, 3, [1, 218, 2, 3, 1532, 12, 1, 0, 0], .null, []),
  (1047, .if_icmp .eq 332, 3, [1379], .null, []),
  (1050, .iconst 0, 1, [], .int 0, []),
  (1051, .ireturn, 1, [], .null, []),
  (1052, .aload_n 1, 1, [1], .null, []),
  (1053, .aload_n 0, 1, [0], .null, []),
  (1054, .iload_n 3, 1, [3], .null, []),
  (1055, .iconst 1, 1, [], .int 1, []),
  (1056, .iadd, 1, [], .null, []),
  (1057, .iaload, 1, [], .null, []),
  (1058, .aload_n 0, 1, [0], .null, []),
  (1059, .iload_n 3, 1, [3], .null, []),
  (1060, .iconst 2, 1, [], .int 2, []),
  (1061, .iadd, 1, [], .null, []),
  (1062, .iaload, 1, [], .null, []),
  (1063, .aload_n 0, 1, [0], .null, []),
  (1064, .iload_n 3, 1, [3], .null, []),
  (1065, .iconst 3, 1, [], .int 3, []),
  (1066, .iadd, 1, [], .null, []),
  (1067, .iaload, 1, [], .null, []),
  (1068, .invokevirtual 123, 3, [1, 116, 3, 5, 949, 11, 1, 0, 0], .null, []),
  (1071, .aload_n 2, 1, [2], .null, []),
  (1072, .aload_n 0, 1, [0], .null, []),
  (1073, .iload_n 3, 1, [3], .null, []),
  (1074, .iconst 1, 1, [], .int 1, []),
  (1075, .iadd, 1, [], .null, []),
  (1076, .iaload, 1, [], .null, []),
  (1077, .aload_n 0, 1, [0], .null, []),
  (1078, .iload_n 3, 1, [3], .null, []),
  (1079, .iconst 2, 1, [], .int 2, []),
  (1080, .iadd, 1, [], .null, []),
  (1081, .iaload, 1, [], .null, []),
  (1082, .aload_n 0, 1, [0], .null, []),
  (1083, .iload_n 3, 1, [3], .null, []),
  (1084, .iconst 3, 1, [], .int 3, []),
  (1085, .iadd, 1, [], .null, []),
  (1086, .iaload, 1, [], .null, []),
  (1087, .invokevirtual 126, 3, [1, 219, 3, 6, 1540, 12, 1, 0, 0], .null, []),
  (1090, .if_icmp .eq 289, 3, [1379], .null, []),
  (1093, .iconst 0, 1, [], .int 0, []),
  (1094, .ireturn, 1, [], .null, []),
  (1095, .aload_n 1, 1, [1], .null, []),
  (1096, .invokevirtual 127, 3, [1, 117, 0, 1, 964, 11, 1, 0, 0], .null, []),
  (1099, .aload_n 2, 1, [2], .null, []),
  (1100, .invokevirtual 130, 3, [1, 220, 0, 2, 1548, 12, 1, 0, 0], .null, []),
  (1103, .if_icmp .eq 276, 3, [1379], .null, []),
  (1106, .iconst 0, 1, [], .int 0, []),
  (1107, .ireturn, 1, [], .null, []),
  (1108, .aload_n 1, 1, [1], .null, []),
  (1109, .invokevirtual 131, 3, [1, 118, 0, 1, 977, 11, 1, 0, 0], .null, []),
  (1112, .aload_n 2, 1, [2], .null, []),
  (1113, .invokevirtual 134, 3, [1, 221, 0, 2, 1552, 12, 1, 0, 0], .null, []),
  (1116, .if_icmp .eq 263, 3, [1379], .null, []),
  (1119, .iconst 0, 1, [], .int 0, []),
  (1120, .ireturn, 1, [], .null, []),
  (1121, .aload_n 1, 1, [1], .null, []),
  (1122, .aload_n 0, 1, [0], .null, []),
  (1123, .iload_n 3, 1, [3], .null, []),
  (1124, .iconst 1, 1, [], .int 1, []),
  (1125, .iadd, 1, [], .null, []),
  (1126, .iaload, 1, [], .null, []),
  (1127, .invokevirtual 135, 3, [1, 119, 1, 2, 989, 11, 1, 0, 0], .null, []),
  (1130, .aload_n 2, 1, [2], .null, []),
  (1131, .aload_n 0, 1, [0], .null, []),
  (1132, .iload_n 3, 1, [3], .null, []),
  (1133, .iconst 1, 1, [], .int 1, []),
  (1134, .iadd, 1, [], .null, []),
  (1135, .iaload, 1, [], .null, []),
  (1136, .invokevirtual 138, 3, [1, 222, 1, 2, 1556, 12, 1, 0, 0], .null, []),
  (1139, .if_icmp .eq 240, 3, [1379], .null, []),
  (1142, .iconst 0, 1, [], .int 0, []),
  (1143, .ireturn, 1, [], .null, []),
  (1144, .aload_n 1, 1, [1], .null, []),
  (1145, .aload_n 0, 1, [0], .null, []),
  (1146, .iload_n 3, 1, [3], .null, []),
  (1147, .iconst 1, 1, [], .int 1, []),
  (1148, .iadd, 1, [], .null, []),
  (1149, .iaload, 1, [], .null, []),
  (1150, .aload_n 0, 1, [0], .null, []),
  (1151, .iload_n 3, 1, [3], .null, []),
  (1152, .iconst 2, 1, [], .int 2, []),
  (1153, .iadd, 1, [], .null, []),
  (1154, .iaload, 1, [], .null, []),
  (1155, .aload_n 0, 1, [0], .null, []),
  (1156, .iload_n 3, 1, [3], .null, []),
  (1157, .iconst 3, 1, [], .int 3, []),
  (1158, .iadd, 1, [], .null, []),
  (1159, .iaload, 1, [], .null, []),
  (1160, .invokevirtual 139, 3, [1, 120, 3, 4, 993, 11, 1, 0, 0], .null, []),
  (1163, .aload_n 2, 1, [2], .null, []),
  (1164, .aload_n 0, 1, [0], .null, []),
  (1165, .iload_n 3, 1, [3], .null, []),
  (1166, .iconst 1, 1, [], .int 1, []),
  (1167, .iadd, 1, [], .null, []),
  (1168, .iaload, 1, [], .null, []),
  (1169, .aload_n 0, 1, [0], .null, []),
  (1170, .iload_n 3, 1, [3], .null, []),
  (1171, .iconst 2, 1, [], .int 2, []),
  (1172, .iadd, 1, [], .null, []),
  (1173, .iaload, 1, [], .null, []),
  (1174, .aload_n 0, 1, [0], .null, []),
  (1175, .iload_n 3, 1, [3], .null, []),
  (1176, .iconst 3, 1, [], .int 3, []),
  (1177, .iadd, 1, [], .null, []),
  (1178, .iaload, 1, [], .null, []),
  (1179, .invokevirtual 142, 3, [1, 224, 3, 5, 1560, 12, 1, 0, 0], .null, []),
  (1182, .if_icmp .eq 197, 3, [1379], .null, []),
  (1185, .iconst 0, 1, [], .int 0, []),
  (1186, .ireturn, 1, [], .null, []),
  (1187, .aload_n 1, 1, [1], .null, []),
  (1188, .aload_n 0, 1, [0], .null, []),
  (1189, .iload_n 3, 1, [3], .null, []),
  (1190, .iconst 1, 1, [], .int 1, []),
  (1191, .iadd, 1, [], .null, []),
  (1192, .iaload, 1, [], .null, []),
  (1193, .aload_n 0, 1, [0], .null, []),
  (1194, .iload_n 3, 1, [3], .null, []),
  (1195, .iconst 2, 1, [], .int 2, []),
  (1196, .iadd, 1, [], .null, []),
  (1197, .iaload, 1, [], .null, []),
  (1198, .aload_n 0, 1, [0], .null, []),
  (1199, .iload_n 3, 1, [3], .null, []),
  (1200, .iconst 3, 1, [], .int 3, []),
  (1201, .iadd, 1, [], .null, []),
  (1202, .iaload, 1, [], .null, []),
  (1203, .invokevirtual 143, 3, [1, 121, 3, 4, 1008, 11, 1, 0, 0], .null, []),
  (1206, .aload_n 2, 1, [2], .null, []),
  (1207, .aload_n 0, 1, [0], .null, []),
  (1208, .iload_n 3, 1, [3], .null, []),
  (1209, .iconst 1, 1, [], .int 1, []),
  (1210, .iadd, 1, [], .null, []),
  (1211, .iaload, 1, [], .null, []),
  (1212, .aload_n 0, 1, [0], .null, []),
  (1213, .iload_n 3, 1, [3], .null, []),
  (1214, .iconst 2, 1, [], .int 2, []),
  (1215, .iadd, 1, [], .null, []),
  (1216, .iaload, 1, [], .null, []),
  (1217, .aload_n 0, 1, [0], .null, []),
  (1218, .iload_n 3, 1, [3], .null, []),
  (1219, .iconst 3, 1, [], .int 3, []),
  (1220, .iadd, 1, [], .null, []),
  (1221, .iaload, 1, [], .null, []),
  (1222, .invokevirtual 146, 3, [1, 225, 3, 4, 1564, 12, 1, 0, 0], .null, []),
  (1225, .if_icmp .eq 154, 3, [1379], .null, []),
  (1228, .iconst 0, 1, [], .int 0, []),
  (1229, .ireturn, 1, [], .null, []),
  (1230, .aload_n 1, 1, [1], .null, []),
  (1231, .aload_n 0, 1, [0], .null, []),
  (1232, .iload_n 3, 1, [3], .null, []),
  (1233, .iconst 1, 1, [], .int 1, []),
  (1234, .iadd, 1, [], .null, []),
  (1235, .iaload, 1, [], .null, []),
  (1236, .aload_n 0, 1, [0], .null, []),
  (1237, .iload_n 3, 1, [3], .null, []),
  (1238, .iconst 2, 1, [], .int 2, []),
  (1239, .iadd, 1, [], .null, []),
  (1240, .iaload, 1, [], .null, []),
  (1241, .aload_n 0, 1, [0], .null, []),
  (1242, .iload_n 3, 1, [3], .null, []),
  (1243, .iconst 3, 1, [], .int 3, []),
  (1244, .iadd, 1, [], .null, []),
  (1245, .iaload, 1, [], .null, []),
  (1246, .aload_n 0, 1, [0], .null, []),
  (1247, .iload_n 3, 1, [3], .null, []),
  (1248, .iconst 4, 1, [], .int 4, []),
  (1249, .iadd, 1, [], .null, []),
  (1250, .iaload, 1, [], .null, []),
  (1251, .aload_n 0, 1, [0], .null, []),
  (1252, .iload_n 3, 1, [3], .null, []),
  (1253, .iconst 5, 1, [], .int 5, []),
  (1254, .iadd, 1, [], .null, []),
  (1255, .iaload, 1, [], .null, []),
  (1256, .invokevirtual 147, 3, [1, 122, 5, 6, 1020, 11, 1, 0, 0], .null, []),
  (1259, .aload_n 2, 1, [2], .null, []),
  (1260, .aload_n 0, 1, [0], .null, []),
  (1261, .iload_n 3, 1, [3], .null, []),
  (1262, .iconst 1, 1, [], .int 1, []),
  (1263, .iadd, 1, [], .null, []),
  (1264, .iaload, 1, [], .null, []),
  (1265, .aload_n 0, 1, [0], .null, []),
  (1266, .iload_n 3, 1, [3], .null, []),
  (1267, .iconst 2, 1, [], .int 2, []),
  (1268, .iadd, 1, [], .null, []),
  (1269, .iaload, 1, [], .null, []),
  (1270, .aload_n 0, 1, [0], .null, []),
  (1271, .iload_n 3, 1, [3], .null, []),
  (1272, .iconst 3, 1, [], .int 3, []),
  (1273, .iadd, 1, [], .null, []),
  (1274, .iaload, 1, [], .null, []),
  (1275, .aload_n 0, 1, [0], .null, []),
  (1276, .iload_n 3, 1, [3], .null, []),
  (1277, .iconst 4, 1, [], .int 4, []),
  (1278, .iadd, 1, [], .null, []),
  (1279, .iaload, 1, [], .null, []),
  (1280, .aload_n 0, 1, [0], .null, []),
  (1281, .iload_n 3, 1, [3], .null, []),
  (1282, .iconst 5, 1, [], .int 5, []),
  (1283, .iadd, 1, [], .null, []),
  (1284, .iaload, 1, [], .null, []),
  (1285, .invokevirtual 151, 3, [1, 226, 5, 7, 1568, 12, 1, 0, 0], .null, []),
  (1288, .if_icmp .eq 91, 3, [1379], .null, []),
  (1291, .iconst 0, 1, [], .int 0, []),
  (1292, .ireturn, 1, [], .null, []),
  (1293, .aload_n 1, 1, [1], .null, []),
  (1294, .aload_n 0, 1, [0], .null, []),
  (1295, .iload_n 3, 1, [3], .null, []),
  (1296, .iconst 1, 1, [], .int 1, []),
  (1297, .iadd, 1, [], .null, []),
  (1298, .iaload, 1, [], .null, []),
  (1299, .aload_n 0, 1, [0], .null, []),
  (1300, .iload_n 3, 1, [3], .null, []),
  (1301, .iconst 2, 1, [], .int 2, []),
  (1302, .iadd, 1, [], .null, []),
  (1303, .iaload, 1, [], .null, []),
  (1304, .aload_n 0, 1, [0], .null, []),
  (1305, .iload_n 3, 1, [3], .null, []),
  (1306, .iconst 3, 1, [], .int 3, []),
  (1307, .iadd, 1, [], .null, []),
  (1308, .iaload, 1, [], .null, []),
  (1309, .aload_n 0, 1, [0], .null, []),
  (1310, .iload_n 3, 1, [3], .null, []),
  (1311, .iconst 4, 1, [], .int 4, []),
  (1312, .iadd, 1, [], .null, []),
  (1313, .iaload, 1, [], .null, []),
  (1314, .invokevirtual 152, 3, [1, 123, 4, 7, 1033, 11, 1, 0, 0], .null, []),
  (1317, .aload_n 2, 1, [2], .null, []),
  (1318, .aload_n 0, 1, [0], .null, []),
  (1319, .iload_n 3, 1, [3], .null, []),
  (1320, .iconst 1, 1, [], .int 1, []),
  (1321, .iadd, 1, [], .null, []),
  (1322, .iaload, 1, [], .null, []),
  (1323, .aload_n 0, 1, [0], .null, []),
  (1324, .iload_n 3, 1, [3], .null, []),
  (1325, .iconst 2, 1, [], .int 2, []),
  (1326, .iadd, 1, [], .null, []),
  (1327, .iaload, 1, [], .null, []),
  (1328, .aload_n 0, 1, [0], .null, []),
  (1329, .iload_n 3, 1, [3], .null, []),
  (1330, .iconst 3, 1, [], .int 3, []),
  (1331, .iadd, 1, [], .null, []),
  (1332, .iaload, 1, [], .null, []),
  (1333, .aload_n 0, 1, [0], .null, []),
  (1334, .iload_n 3, 1, [3], .null, []),
  (1335, .iconst 4, 1, [], .int 4, []),
  (1336, .iadd, 1, [], .null, []),
  (1337, .iaload, 1, [], .null, []),
  (1338, .invokevirtual 155, 3, [1, 227, 4, 8, 1572, 12, 1, 0, 0], .null, []),
  (1341, .if_icmp .eq 38, 3, [1379], .null, []),
  (1344, .iconst 0, 1, [], .int 0, []),
  (1345, .ireturn, 1, [], .null, []),
  (1346, .aload_n 1, 1, [1], .null, []),
  (1347, .aload_n 0, 1, [0], .null, []),
  (1348, .iload_n 3, 1, [3], .null, []),
  (1349, .iconst 1, 1, [], .int 1, []),
  (1350, .iadd, 1, [], .null, []),
  (1351, .iaload, 1, [], .null, []),
  (1352, .aload_n 0, 1, [0], .null, []),
  (1353, .iload_n 3, 1, [3], .null, []),
  (1354, .iconst 2, 1, [], .int 2, []),
  (1355, .iadd, 1, [], .null, []),
  (1356, .iaload, 1, [], .null, []),
  (1357, .invokevirtual 156, 3, [1, 124, 2, 3, 1037, 11, 1, 0, 0], .null, []),
  (1360, .aload_n 2, 1, [2], .null, []),
  (1361, .aload_n 0, 1, [0], .null, []),
  (1362, .iload_n 3, 1, [3], .null, []),
  (1363, .iconst 1, 1, [], .int 1, []),
  (1364, .iadd, 1, [], .null, []),
  (1365, .iaload, 1, [], .null, []),
  (1366, .aload_n 0, 1, [0], .null, []),
  (1367, .iload_n 3, 1, [3], .null, []),
  (1368, .iconst 2, 1, [], .int 2, []),
  (1369, .iadd, 1, [], .null, []),
  (1370, .iaload, 1, [], .null, []),
  (1371, .invokevirtual 159, 3, [1, 229, 2, 3, 1576, 12, 1, 0, 0], .null, []),
  (1374, .if_icmp .eq 5, 3, [1379], .null, []),
  (1377, .iconst 0, 1, [], .int 0, []),
  (1378, .ireturn, 1, [], .null, []),
  (1379, .iinc 3 6, 3, [3], .int 6, []),
  (1382, .goto (-1364), 3, [18], .null, []),
  (1385, .iconst 1, 1, [], .int 1, []),
  (1386, .ireturn, 1, [], .null, [])]
abbrev kL_law : Nat := 230
abbrev zq_m230 : zq_T := (yL_law, cL_law, 4, (some .boolean), zq_c230, (80, 9617), [0, 0, 0, 0])
end
section
def zq_mta : List zq_T := [zq_m0, zq_m1, zq_m2, zq_m3, zq_m4, zq_m5, zq_m6, zq_m7, zq_m8, zq_m9, zq_m10, zq_m11, zq_m12, zq_m13, zq_m14, zq_m15, zq_m16, zq_m17, zq_m18, zq_m19, zq_m20, zq_m21, zq_m22, zq_m23, zq_m24, zq_m25, zq_m26, zq_m27, zq_m28, zq_m29, zq_m30, zq_m31, zq_m32, zq_m33, zq_m34, zq_m35, zq_m36, zq_m37, zq_m38, zq_m39, zq_m40, zq_m41, zq_m42, zq_m43, zq_m44, zq_m45, zq_m46, zq_m47, zq_m48, zq_m49, zq_m50, zq_m51, zq_m52, zq_m53, zq_m54, zq_m55, zq_m56, zq_m57, zq_m58, zq_m59, zq_m60, zq_m61, zq_m62, zq_m63, zq_m64, zq_m65, zq_m66, zq_m67, zq_m68, zq_m69, zq_m70, zq_m71, zq_m72, zq_m73, zq_m74, zq_m75, zq_m76, zq_m77, zq_m78, zq_m79, zq_m80, zq_m81, zq_m82, zq_m83, zq_m84, zq_m85, zq_m86, zq_m87, zq_m88, zq_m89, zq_m90, zq_m91, zq_m92, zq_m93, zq_m94, zq_m95, zq_m96, zq_m97, zq_m98, zq_m99, zq_m100, zq_m101, zq_m102, zq_m103, zq_m104, zq_m105, zq_m106, zq_m107, zq_m108, zq_m109, zq_m110, zq_m111, zq_m112, zq_m113, zq_m114, zq_m115, zq_m116, zq_m117, zq_m118, zq_m119, zq_m120, zq_m121, zq_m122, zq_m123, zq_m124, zq_m125, zq_m126, zq_m127, zq_m128, zq_m129, zq_m130, zq_m131, zq_m132, zq_m133, zq_m134, zq_m135, zq_m136, zq_m137, zq_m138, zq_m139, zq_m140, zq_m141, zq_m142, zq_m143, zq_m144, zq_m145, zq_m146, zq_m147, zq_m148, zq_m149, zq_m150, zq_m151, zq_m152, zq_m153, zq_m154, zq_m155, zq_m156, zq_m157, zq_m158, zq_m159, zq_m160, zq_m161, zq_m162, zq_m163, zq_m164, zq_m165, zq_m166, zq_m167, zq_m168, zq_m169, zq_m170, zq_m171, zq_m172, zq_m173, zq_m174, zq_m175, zq_m176, zq_m177, zq_m178, zq_m179, zq_m180, zq_m181, zq_m182, zq_m183, zq_m184, zq_m185, zq_m186, zq_m187, zq_m188, zq_m189, zq_m190, zq_m191, zq_m192, zq_m193, zq_m194, zq_m195, zq_m196, zq_m197, zq_m198, zq_m199, zq_m200, zq_m201, zq_m202, zq_m203, zq_m204, zq_m205, zq_m206, zq_m207, zq_m208, zq_m209, zq_m210, zq_m211, zq_m212, zq_m213, zq_m214, zq_m215, zq_m216, zq_m217, zq_m218, zq_m219, zq_m220, zq_m221, zq_m222, zq_m223, zq_m224, zq_m225, zq_m226, zq_m227, zq_m228, zq_m229]
def zq_mt : List zq_T := zq_mta ++ [zq_m230]
def zq_nm : List (String × Nat × MethodName × String) := [("WalkingStones", 11, yX7_init, "WalkingStones"), ("WalkingStones", 18, yX2_init, "WalkingStones"), ("WalkingStones", 25, yX0_init, "WalkingStones"), ("WalkingStones$Texts", 44, yX11_within, "WalkingStones"), ("WalkingStones", 39, yX5_init, "WalkingStones"), ("WalkingStones", 64, yX9_init, "WalkingStones"), ("WalkingStones", 71, yX3_init, "WalkingStones"), ("WalkingStones", 87, yX6_init, "WalkingStones"), ("WalkingStones$Hows", 22, yX11_bit, "WalkingStones"), ("WalkingStones$Texts", 60, yX11_bit, "WalkingStones"), ("WalkingStones$Pushes", 68, yX11_within, "WalkingStones"), ("WalkingStones$Pushes", 93, yX11_bit, "WalkingStones")]
def zq_nf : List (String × Nat × String × String × String × String) := [("WalkingStones$Texts", 24, "WalkingStones", "FIRST_CODE", "[I", "WalkingStones"), ("WalkingStones$Texts", 27, "WalkingStones", "FIRST_ENDS", "[I", "WalkingStones"), ("WalkingStones$Reader", 44, "WalkingStones", "PART_KEYS", "[I", "WalkingStones"), ("WalkingStones$Walk", 82, "WalkingStones", "STRIDES", "[I", "WalkingStones")]
def zq_ss : List (String × Nat × String) := [("WalkingStones$Reader", 93, "add"), ("WalkingStones$Reader", 99, "call"), ("WalkingStones$Reader", 101, "worth"), ("WalkingStones$Reader", 103, "or"), ("WalkingStones$Reader", 105, "and"), ("WalkingStones$Reader", 107, "not"), ("WalkingStones$Reader", 109, "weight"), ("WalkingStones$Reader", 111, "wet"), ("WalkingStones$Reader", 113, "ice"), ("WalkingStones$Reader", 115, "wind"), ("WalkingStones$Reader", 117, "number"), ("WalkingStones$Reader", 119, "night")]
def zq_sl : List Nat := [3, 4, 5, 2, 3, 3, 6, 3, 3, 4, 6, 5]
def zq_sb : List (List Int32) := [[97, 100, 100], [99, 97, 108, 108], [119, 111, 114, 116, 104], [111, 114], [97, 110, 100], [110, 111, 116], [119, 101, 105, 103, 104, 116], [119, 101, 116], [105, 99, 101], [119, 105, 110, 100], [110, 117, 109, 98, 101, 114], [110, 105, 103, 104, 116]]
def zq_sn : List String := ["ABOVE", "STRIDES", "FIRST_CODE", "FIRST_ENDS", "PART_KEYS"]
def zq_sv : List (List Int32) := [[(-1), 0, 1, 2, 2, 0], [1, 64, (-1), (-64)], [0, 0, (-3), (-10), (-4)], [1, 4, 5], [(-19), (-20), (-21)]]
def zq_df : List (List Value) := [[.null, .null, .int 0], [.null, .null, .null, .null], [.null, .null, .null, .null, .int 0], [.null, .null, .int 0, .int 0], [.null, .null, .null, .null], [.null, .null, .null, .null, .null, .int 0, .int 0, .int 0], [.null, .null, .null], [.null, .null, .null, .int 0, .int 0], [.null, .null, .null, .null, .int 0, .int 0, .int 0], [.null, .null, .null, .null, .null, .null, .null, .int 0, .int 0, .int 0, .int 0], [.null, .null, .null, .null, .null, .null, .null, .null], [.null, .null, .null, .null, .null, .null, .null, .null, .null, .null, .null, .int 0], [.int 0, .int 0, .int 0, .null, .null, .null, .null, .null, .null, .null, .null, .int 0, .int 0, .int 0, .int 0, .int 0, .int 0, .int 0, .int 0, .int 0, .int 0, .null, .null, .null, .null, .null, .null, .int 0, .null, .null, .null, .null, .int 0, .null, .null, .null, .null, .int 0, .null, .int 0, .null, .null, .int 0, .int 0, .int 0, .int 0, .int 0, .int 0, .null, .null, .null, .null, .null, .null]]
def zq_sh : List ((Bool × Nat) ⊕ (Nat × List (Option Nat))) := [.inr (11, [some 1, some 5, some 10, some 13, some 18, some 24, some 25, some 30, some 38, some 41, some 44, none]),
  .inr (7, [some 2, some 3, some 4, none, none]),
  .inl (false, 10),
  .inl (false, 10),
  .inl (false, 10),
  .inr (2, [some 6, some 7, some 8, some 9, none]),
  .inl (false, 60),
  .inl (false, 60),
  .inl (false, 60),
  .inl (false, 60),
  .inr (0, [some 11, some 12, none]),
  .inl (false, 8),
  .inl (false, 8),
  .inr (8, [some 14, some 15, some 16, some 17, none, none, none]),
  .inl (false, 960),
  .inl (false, 18),
  .inl (false, 6),
  .inl (false, 40),
  .inr (5, [some 19, some 20, some 21, some 22, some 23, none, none, none]),
  .inl (false, 160),
  .inl (false, 3),
  .inl (false, 160),
  .inl (false, 161),
  .inl (false, 161),
  .inr (4, [some 1, some 5, some 10, some 13]),
  .inr (10, [some 26, some 27, some 28, some 29, some 1, some 5, some 10, some 24]),
  .inl (false, 10),
  .inl (false, 10),
  .inl (false, 10),
  .inl (false, 10),
  .inr (9, [some 31, some 32, some 33, some 34, some 35, some 36, some 37, none, none, none, none]),
  .inl (false, 24),
  .inl (false, 24),
  .inl (false, 24),
  .inl (false, 20),
  .inl (false, 20),
  .inl (false, 24),
  .inl (true, 24),
  .inr (3, [some 39, some 40, none, none]),
  .inl (false, 8),
  .inl (false, 8),
  .inr (1, [some 42, some 43, some 5, some 24]),
  .inl (false, 100),
  .inl (false, 100),
  .inr (6, [some 45, some 46, some 47]),
  .inl (false, 160),
  .inl (false, 4),
  .inl (false, 4),
  .inr (12, [none, none, none, some 49, some 50, some 51, some 52, some 53, some 54, some 55, some 56, none, none, none, none, none, none, none, none, none, none, some 57, some 58, some 59, some 60, some 61, some 62, none, some 63, some 64, some 65, some 66, none, some 67, some 68, some 69, some 70, none, some 71, none, some 72, some 73, none, none, none, none, none, none, some 74, some 75, some 76, some 77, some 78, some 79]),
  .inl (false, 10),
  .inl (false, 10),
  .inl (false, 60),
  .inl (false, 60),
  .inl (false, 60),
  .inl (false, 60),
  .inl (false, 8),
  .inl (false, 8),
  .inl (false, 160),
  .inl (false, 2880),
  .inl (false, 2880),
  .inl (false, 18),
  .inl (false, 161),
  .inl (false, 161),
  .inl (false, 10),
  .inl (false, 10),
  .inl (false, 10),
  .inl (false, 10),
  .inl (false, 24),
  .inl (false, 24),
  .inl (false, 24),
  .inl (false, 24),
  .inl (false, 8),
  .inl (false, 20),
  .inl (false, 20),
  .inl (false, 10),
  .inl (false, 4),
  .inl (false, 4),
  .inl (false, 160),
  .inl (false, 40),
  .inl (false, 12)]
end
section
/-- the words that every method may rest on -/
def zq_tb : List Jvm.Cond := lw_tbl.filter goodWord
def zq_ix : List Nat → Nat → Nat
  | [], _ => 0
  | a :: _, 0 => a
  | _ :: r, n + 1 => zq_ix r n
/-! what a program checks of the lists -/
def zq_is (i : Nat) (w : Jvm.Cond) : Bool := decide (lw_tbl[i]? = some w) && goodWord w
theorem zq_is_in {i : Nat} {w : Jvm.Cond} (h : zq_is i w = true) : w ∈ zq_tb := by
  simp only [zq_is, Bool.and_eq_true, decide_eq_true_eq] at h
  exact List.mem_filter.mpr ⟨List.mem_of_getElem? h.1, h.2⟩
def zq_ax (aux : List Nat) : Bool := match zq_sh[zq_ix aux 3]? with
  | some (.inr q) => Nat.beq (zq_ix aux 0) q.1 && (match q.2[zq_ix aux 1]? with
    | some none => Nat.beq (zq_ix aux 4) 0
    | some (some r) => Nat.beq (zq_ix aux 4) (r + 1)
    | none => false)
  | _ => false
def zq_fk (t : zq_T) (aux : List Nat) (i : Nat) : Bool := match vwCl[zq_ix aux 0]? with
  | some q => (Nat.blt (zq_ix aux 1) q.2.2 && zq_is (zq_ix aux 5) (.fieldLink t.1.cls i (q.2.1 (zq_ix aux 1)).1 (q.2.1 (zq_ix aux 1)).2.1 (q.2.1 (zq_ix aux 1)).2.2.1)) && zq_ax aux
  | none => false
def zq_fp (t : zq_T) (aux : List Nat) : Bool := match vwCl[zq_ix aux 0]? with
  | some q => (!(q.2.1 (zq_ix aux 1)).2.2.2 || (decide (t.1.name = "<init>") && decide ((q.2.1 (zq_ix aux 1)).1 = t.1.cls))) && (match zq_ix aux 2, parseFieldDescriptor (q.2.1 (zq_ix aux 1)).2.2.1 with
    | 0, some .int => true
    | 1, some .boolean => true
    | 2, some (.object _) => true
    | 2, some (.array _) => true
    | _, _ => false)
  | none => false
/-- a method's own words -/
def zq_mc (u : zq_T) : Bool := zq_is (zq_ix u.2.2.2.2.2.2 0) (.code u.1 u.2.1 u.2.2.1 u.2.2.2.1) && (zq_is (zq_ix u.2.2.2.2.2.2 1) (.initialized u.1.cls) && (plainName u.1.cls && (decide (u.1.cls ≠ "java/lang/invoke/MethodHandle") && (decide (u.1.cls ≠ "java/lang/invoke/VarHandle") && Nat.ble u.2.2.1 45))))
/-- a call's resolution -/
def zq_ck (u : zq_T) (aux : List Nat) : Bool := decide ((parseMethodDescriptor u.1.desc).map (fun d => d.parameters.length) = some (zq_ix aux 2)) && (Nat.beq (zq_ix aux 3) u.2.2.1 && (Nat.beq (zq_ix aux 7) u.2.2.2.2.2.1.1 && (Nat.beq (zq_ix aux 8) u.2.2.2.2.2.1.2 && Nat.blt (zq_ix aux 1) 230)))
def zq_vk (t : zq_T) (aux : List Nat) (i : Nat) : Bool := match zq_mt[zq_ix aux 1]? with
  | some u => zq_ck u aux && (zq_is (zq_ix aux 4) (.methodLink t.1.cls i u.1) && (zq_is (zq_ix u.2.2.2.2.2.2 2) (.instanceMethod u.1) && (zq_is (zq_ix u.2.2.2.2.2.2 3) (.selects u.1.cls u.1 u.1) && (decide ((vwCl[zq_ix aux 5]?).map (fun q => q.1) = some u.1.cls) && (Nat.beq (zq_ix aux 7) 0 && Nat.beq (zq_ix aux 8) 0)))))
  | none => false
def zq_ik (t : zq_T) (aux : List Nat) (i : Nat) : Bool := match zq_mt[zq_ix aux 1]? with
  | some u => zq_ck u aux && (zq_is (zq_ix u.2.2.2.2.2.2 2) (.instanceMethod u.1) && (decide (u.1.name = "<init>") && (decide (u.2.2.2.1 = none) && (match zq_ix aux 0 with
    | 1 => zq_is (zq_ix aux 4) (.methodLink t.1.cls i u.1)
    | 8 => decide ((zq_nm[zq_ix aux 4]?).map (fun q => (q.1, q.2.1, q.2.2.1)) = some (t.1.cls, i, u.1))
    | _ => false))))
  | none => false
def zq_sk (t : zq_T) (aux : List Nat) (i : Nat) : Bool := match zq_mt[zq_ix aux 1]? with
  | some u => zq_ck u aux && (zq_is (zq_ix u.2.2.2.2.2.2 2) (.static u.1) && ((Nat.beq (zq_ix aux 7) 0 && Nat.beq (zq_ix aux 8) 0) && (match zq_ix aux 0 with
    | 1 => zq_is (zq_ix aux 4) (.methodLink t.1.cls i u.1)
    | 8 => decide ((zq_nm[zq_ix aux 4]?).map (fun q => (q.1, q.2.1, q.2.2.1)) = some (t.1.cls, i, u.1))
    | _ => false)))
  | none => false
def zq_lk (t : zq_T) (pc : Nat) (ins : Instr) (len : Nat) (aux : List Nat) (cst : Value) : Bool := match ins with
  | .iconst n => decide (cst = .int (Int32.ofInt n)) && Nat.beq len 1
  | .bipush n => decide (cst = .int (Int8.ofInt n).toInt32) && Nat.beq len 2
  | .sipush n => decide (cst = .int (Int16.ofInt n).toInt32) && Nat.beq len 3
  | .lconst n => decide (cst = .long (Int64.ofNat n.val)) && Nat.beq len 1
  | .ldc2_w i => (match cst with
    | .long v => zq_is (zq_ix aux 1) (.constantLong t.1.cls i v)
    | _ => false) && Nat.beq len 3
  | .ldc i => (match aux with
    | [1, j] => decide ((zq_ss[j]?).map (fun q => (q.1, q.2.1)) = some (t.1.cls, i))
    | _ => match cst with
      | .int v => zq_is (zq_ix aux 1) (.constant t.1.cls i v)
      | _ => false) && Nat.beq len 2
  | .iload i => Nat.beq (zq_ix aux 0) i && Nat.beq len 2
  | .lload i => Nat.beq (zq_ix aux 0) i && Nat.beq len 2
  | .aload i => Nat.beq (zq_ix aux 0) i && Nat.beq len 2
  | .iload_n i => Nat.beq (zq_ix aux 0) i.val && Nat.beq len 1
  | .lload_n i => Nat.beq (zq_ix aux 0) i.val && Nat.beq len 1
  | .aload_n i => Nat.beq (zq_ix aux 0) i.val && Nat.beq len 1
  | .istore i => (Nat.beq (zq_ix aux 0) i && Nat.blt i t.2.2.1) && Nat.beq len 2
  | .astore i => (Nat.beq (zq_ix aux 0) i && Nat.blt i t.2.2.1) && Nat.beq len 2
  | .lstore i => (Nat.beq (zq_ix aux 0) i && Nat.blt (i + 1) t.2.2.1) && Nat.beq len 2
  | .istore_n i => (Nat.beq (zq_ix aux 0) i.val && Nat.blt i.val t.2.2.1) && Nat.beq len 1
  | .astore_n i => (Nat.beq (zq_ix aux 0) i.val && Nat.blt i.val t.2.2.1) && Nat.beq len 1
  | .lstore_n i => (Nat.beq (zq_ix aux 0) i.val && Nat.blt (i.val + 1) t.2.2.1) && Nat.beq len 1
  | .iinc i n => ((Nat.beq (zq_ix aux 0) i && Nat.blt i t.2.2.1) && decide (cst = .int (Int32.ofInt n))) && Nat.beq len 3
  | .ifCond _ off => decide ((pc : Int) + off = ((zq_ix aux 0 : Nat) : Int)) && Nat.beq len 3
  | .if_icmp _ off => decide ((pc : Int) + off = ((zq_ix aux 0 : Nat) : Int)) && Nat.beq len 3
  | .goto off => decide ((pc : Int) + off = ((zq_ix aux 0 : Nat) : Int)) && Nat.beq len 3
  | .tableswitch dflt lo hi offs => decide ((pc : Int) + dflt = ((zq_ix aux 0 : Nat) : Int)) && (decide (offs.toList.map (fun o => (pc : Int) + o) = (aux.drop 1).map (fun n : Nat => (n : Int))) && (decide (hi + 1 = lo + (aux.drop 1).length) && decide (0 < (aux.drop 1).length)))
  | .getfield i => zq_fk t aux i && Nat.beq len 3
  | .putfield i => (zq_fk t aux i && zq_fp t aux) && Nat.beq len 3
  | .getstatic i => (Nat.blt (zq_ix aux 0) 5 && (match zq_ix aux 1 with
    | 0 => zq_is (zq_ix aux 2) (.fieldLink t.1.cls i "WalkingStones" (zq_sn.getD (zq_ix aux 0) "") "[I")
    | _ => decide ((zq_nf[zq_ix aux 2]?).map (fun q => (q.1, q.2.1, q.2.2.1, q.2.2.2.1, q.2.2.2.2.1)) = some (t.1.cls, i, "WalkingStones", zq_sn.getD (zq_ix aux 0) "", "[I")))) && Nat.beq len 3
  | .newarray ty => zq_is (zq_ix aux 0) (.arrayClass (newarray.typeOf ty)) && Nat.beq len 2
  | .new i => (match vwCl[zq_ix aux 0]? with
    | some q => Nat.beq (zq_ix aux 1) q.2.2 && (zq_is (zq_ix aux 2) (.classLink t.1.cls i q.1) && (zq_is (zq_ix aux 3) (.instantiable q.1 q.2.2) && zq_is (zq_ix aux 4) (.initialized q.1)))
    | none => false) && Nat.beq len 3
  | .invokevirtual i => (match zq_ix aux 0 with
    | 1 => zq_vk t aux i
    | 6 => zq_is (zq_ix aux 1) (.methodLink t.1.cls i ⟨"java/lang/String", "length", "()I"⟩)
    | 7 => zq_is (zq_ix aux 1) (.methodLink t.1.cls i ⟨"java/lang/String", "charAt", "(I)C"⟩)
    | _ => false) && Nat.beq len 3
  | .invokespecial i => (match zq_ix aux 0 with
    | 0 => zq_is (zq_ix aux 1) (.methodLink t.1.cls i objectInit)
    | _ => zq_ik t aux i) && Nat.beq len 3
  | .invokestatic i => (match zq_ix aux 0 with
    | 2 => zq_is (zq_ix aux 1) (.methodLink t.1.cls i Lib.Math.max.name)
    | 3 => zq_is (zq_ix aux 1) (.methodLink t.1.cls i Lib.Math.min.name)
    | 4 => zq_is (zq_ix aux 1) (.methodLink t.1.cls i Lib.Math.abs.name)
    | 5 => zq_is (zq_ix aux 1) (.methodLink t.1.cls i arraycopyName)
    | _ => zq_sk t aux i) && Nat.beq len 3
  | _ => true && Nat.beq len 1
def zq_ek (t : zq_T) (e : zq_I) : Bool := (match decode t.2.1 e.1 with
  | .ok r => decide (r = (e.2.1, e.2.2.1))
  | .error _ => false) && zq_lk t e.1 e.2.1 e.2.2.1 e.2.2.2.1 e.2.2.2.2.1
def zq_ch : List zq_I → Bool
  | e :: r => match r with
    | [] => true
    | e' :: _ => Nat.beq e'.1 (e.1 + e.2.2.1) && zq_ch r
  | [] => true
def zq_ok (t : zq_T) (tl : List zq_I) : Prop := (∀ e ∈ tl, zq_ek t e = true) ∧ zq_ch tl = true
end
section
set_option maxRecDepth 100000 in
theorem zq_e0 : (zq_c0.all (zq_ek zq_m0) && zq_ch zq_c0) = true := by decide +kernel
set_option maxRecDepth 100000 in
theorem zq_q0 : zq_mc zq_m0 = true := by decide +kernel
set_option maxRecDepth 100000 in
theorem zq_e1 : (zq_c1.all (zq_ek zq_m1) && zq_ch zq_c1) = true := by decide +kernel
set_option maxRecDepth 100000 in
theorem zq_q1 : zq_mc zq_m1 = true := by decide +kernel
set_option maxRecDepth 100000 in
theorem zq_e2 : (zq_c2.all (zq_ek zq_m2) && zq_ch zq_c2) = true := by decide +kernel
set_option maxRecDepth 100000 in
theorem zq_q2 : zq_mc zq_m2 = true := by decide +kernel
set_option maxRecDepth 100000 in
theorem zq_e3 : (zq_c3.all (zq_ek zq_m3) && zq_ch zq_c3) = true := by decide +kernel
set_option maxRecDepth 100000 in
theorem zq_q3 : zq_mc zq_m3 = true := by decide +kernel
set_option maxRecDepth 100000 in
theorem zq_e4 : (zq_c4.all (zq_ek zq_m4) && zq_ch zq_c4) = true := by decide +kernel
set_option maxRecDepth 100000 in
theorem zq_q4 : zq_mc zq_m4 = true := by decide +kernel
set_option maxRecDepth 100000 in
theorem zq_e5 : (zq_c5.all (zq_ek zq_m5) && zq_ch zq_c5) = true := by decide +kernel
set_option maxRecDepth 100000 in
theorem zq_q5 : zq_mc zq_m5 = true := by decide +kernel
set_option maxRecDepth 100000 in
theorem zq_e6 : (zq_c6.all (zq_ek zq_m6) && zq_ch zq_c6) = true := by decide +kernel
set_option maxRecDepth 100000 in
theorem zq_q6 : zq_mc zq_m6 = true := by decide +kernel
set_option maxRecDepth 100000 in
theorem zq_e7 : (zq_c7.all (zq_ek zq_m7) && zq_ch zq_c7) = true := by decide +kernel
set_option maxRecDepth 100000 in
theorem zq_q7 : zq_mc zq_m7 = true := by decide +kernel
set_option maxRecDepth 100000 in
theorem zq_e8 : (zq_c8.all (zq_ek zq_m8) && zq_ch zq_c8) = true := by decide +kernel
set_option maxRecDepth 100000 in
theorem zq_q8 : zq_mc zq_m8 = true := by decide +kernel
set_option maxRecDepth 100000 in
theorem zq_e9 : (zq_c9.all (zq_ek zq_m9) && zq_ch zq_c9) = true := by decide +kernel
set_option maxRecDepth 100000 in
theorem zq_q9 : zq_mc zq_m9 = true := by decide +kernel
set_option maxRecDepth 100000 in
theorem zq_e10 : (zq_c10.all (zq_ek zq_m10) && zq_ch zq_c10) = true := by decide +kernel
set_option maxRecDepth 100000 in
theorem zq_q10 : zq_mc zq_m10 = true := by decide +kernel
set_option maxRecDepth 100000 in
theorem zq_e11 : (zq_c11.all (zq_ek zq_m11) && zq_ch zq_c11) = true := by decide +kernel
set_option maxRecDepth 100000 in
theorem zq_q11 : zq_mc zq_m11 = true := by decide +kernel
set_option maxRecDepth 100000 in
theorem zq_e12 : (zq_c12.all (zq_ek zq_m12) && zq_ch zq_c12) = true := by decide +kernel
set_option maxRecDepth 100000 in
theorem zq_q12 : zq_mc zq_m12 = true := by decide +kernel
set_option maxRecDepth 100000 in
theorem zq_e13 : (zq_c13.all (zq_ek zq_m13) && zq_ch zq_c13) = true := by decide +kernel
set_option maxRecDepth 100000 in
theorem zq_q13 : zq_mc zq_m13 = true := by decide +kernel
set_option maxRecDepth 100000 in
theorem zq_e14 : (zq_c14.all (zq_ek zq_m14) && zq_ch zq_c14) = true := by decide +kernel
set_option maxRecDepth 100000 in
theorem zq_q14 : zq_mc zq_m14 = true := by decide +kernel
set_option maxRecDepth 100000 in
theorem zq_e15 : (zq_c15.all (zq_ek zq_m15) && zq_ch zq_c15) = true := by decide +kernel
set_option maxRecDepth 100000 in
theorem zq_q15 : zq_mc zq_m15 = true := by decide +kernel
set_option maxRecDepth 100000 in
theorem zq_e16 : (zq_c16.all (zq_ek zq_m16) && zq_ch zq_c16) = true := by decide +kernel
set_option maxRecDepth 100000 in
theorem zq_q16 : zq_mc zq_m16 = true := by decide +kernel
set_option maxRecDepth 100000 in
theorem zq_e17 : (zq_c17.all (zq_ek zq_m17) && zq_ch zq_c17) = true := by decide +kernel
set_option maxRecDepth 100000 in
theorem zq_q17 : zq_mc zq_m17 = true := by decide +kernel
set_option maxRecDepth 100000 in
theorem zq_e18 : (zq_c18.all (zq_ek zq_m18) && zq_ch zq_c18) = true := by decide +kernel
set_option maxRecDepth 100000 in
theorem zq_q18 : zq_mc zq_m18 = true := by decide +kernel
set_option maxRecDepth 100000 in
theorem zq_e19 : (zq_c19.all (zq_ek zq_m19) && zq_ch zq_c19) = true := by decide +kernel
set_option maxRecDepth 100000 in
theorem zq_q19 : zq_mc zq_m19 = true := by decide +kernel
set_option maxRecDepth 100000 in
theorem zq_e20 : (zq_c20.all (zq_ek zq_m20) && zq_ch zq_c20) = true := by decide +kernel
set_option maxRecDepth 100000 in
theorem zq_q20 : zq_mc zq_m20 = true := by decide +kernel
set_option maxRecDepth 100000 in
theorem zq_e21 : (zq_c21.all (zq_ek zq_m21) && zq_ch zq_c21) = true := by decide +kernel
set_option maxRecDepth 100000 in
theorem zq_q21 : zq_mc zq_m21 = true := by decide +kernel
set_option maxRecDepth 100000 in
theorem zq_e22 : (zq_c22.all (zq_ek zq_m22) && zq_ch zq_c22) = true := by decide +kernel
set_option maxRecDepth 100000 in
theorem zq_q22 : zq_mc zq_m22 = true := by decide +kernel
end
section
set_option maxRecDepth 100000 in
theorem zq_e23 : (zq_c23.all (zq_ek zq_m23) && zq_ch zq_c23) = true := by decide +kernel
set_option maxRecDepth 100000 in
theorem zq_q23 : zq_mc zq_m23 = true := by decide +kernel
set_option maxRecDepth 100000 in
theorem zq_e24 : (zq_c24.all (zq_ek zq_m24) && zq_ch zq_c24) = true := by decide +kernel
set_option maxRecDepth 100000 in
theorem zq_q24 : zq_mc zq_m24 = true := by decide +kernel
set_option maxRecDepth 100000 in
theorem zq_e25 : (zq_c25.all (zq_ek zq_m25) && zq_ch zq_c25) = true := by decide +kernel
set_option maxRecDepth 100000 in
theorem zq_q25 : zq_mc zq_m25 = true := by decide +kernel
set_option maxRecDepth 100000 in
theorem zq_e26 : (zq_c26.all (zq_ek zq_m26) && zq_ch zq_c26) = true := by decide +kernel
set_option maxRecDepth 100000 in
theorem zq_q26 : zq_mc zq_m26 = true := by decide +kernel
set_option maxRecDepth 100000 in
theorem zq_e27 : (zq_c27.all (zq_ek zq_m27) && zq_ch zq_c27) = true := by decide +kernel
set_option maxRecDepth 100000 in
theorem zq_q27 : zq_mc zq_m27 = true := by decide +kernel
set_option maxRecDepth 100000 in
theorem zq_e28 : (zq_c28.all (zq_ek zq_m28) && zq_ch zq_c28) = true := by decide +kernel
set_option maxRecDepth 100000 in
theorem zq_q28 : zq_mc zq_m28 = true := by decide +kernel
set_option maxRecDepth 100000 in
theorem zq_e29 : (zq_c29.all (zq_ek zq_m29) && zq_ch zq_c29) = true := by decide +kernel
set_option maxRecDepth 100000 in
theorem zq_q29 : zq_mc zq_m29 = true := by decide +kernel
set_option maxRecDepth 100000 in
theorem zq_e30 : (zq_c30.all (zq_ek zq_m30) && zq_ch zq_c30) = true := by decide +kernel
set_option maxRecDepth 100000 in
theorem zq_q30 : zq_mc zq_m30 = true := by decide +kernel
set_option maxRecDepth 100000 in
theorem zq_e31 : (zq_c31.all (zq_ek zq_m31) && zq_ch zq_c31) = true := by decide +kernel
set_option maxRecDepth 100000 in
theorem zq_q31 : zq_mc zq_m31 = true := by decide +kernel
set_option maxRecDepth 100000 in
theorem zq_e32 : (zq_c32.all (zq_ek zq_m32) && zq_ch zq_c32) = true := by decide +kernel
set_option maxRecDepth 100000 in
theorem zq_q32 : zq_mc zq_m32 = true := by decide +kernel
set_option maxRecDepth 100000 in
theorem zq_e33 : (zq_c33.all (zq_ek zq_m33) && zq_ch zq_c33) = true := by decide +kernel
set_option maxRecDepth 100000 in
theorem zq_q33 : zq_mc zq_m33 = true := by decide +kernel
set_option maxRecDepth 100000 in
theorem zq_e34 : (zq_c34.all (zq_ek zq_m34) && zq_ch zq_c34) = true := by decide +kernel
set_option maxRecDepth 100000 in
theorem zq_q34 : zq_mc zq_m34 = true := by decide +kernel
set_option maxRecDepth 100000 in
theorem zq_e35 : (zq_c35.all (zq_ek zq_m35) && zq_ch zq_c35) = true := by decide +kernel
set_option maxRecDepth 100000 in
theorem zq_q35 : zq_mc zq_m35 = true := by decide +kernel
set_option maxRecDepth 100000 in
theorem zq_e36 : (zq_c36.all (zq_ek zq_m36) && zq_ch zq_c36) = true := by decide +kernel
set_option maxRecDepth 100000 in
theorem zq_q36 : zq_mc zq_m36 = true := by decide +kernel
set_option maxRecDepth 100000 in
theorem zq_e37 : (zq_c37.all (zq_ek zq_m37) && zq_ch zq_c37) = true := by decide +kernel
set_option maxRecDepth 100000 in
theorem zq_q37 : zq_mc zq_m37 = true := by decide +kernel
set_option maxRecDepth 100000 in
theorem zq_e38 : (zq_c38.all (zq_ek zq_m38) && zq_ch zq_c38) = true := by decide +kernel
set_option maxRecDepth 100000 in
theorem zq_q38 : zq_mc zq_m38 = true := by decide +kernel
set_option maxRecDepth 100000 in
theorem zq_e39 : (zq_c39.all (zq_ek zq_m39) && zq_ch zq_c39) = true := by decide +kernel
set_option maxRecDepth 100000 in
theorem zq_q39 : zq_mc zq_m39 = true := by decide +kernel
set_option maxRecDepth 100000 in
theorem zq_e40 : (zq_c40.all (zq_ek zq_m40) && zq_ch zq_c40) = true := by decide +kernel
set_option maxRecDepth 100000 in
theorem zq_q40 : zq_mc zq_m40 = true := by decide +kernel
set_option maxRecDepth 100000 in
theorem zq_e41 : (zq_c41.all (zq_ek zq_m41) && zq_ch zq_c41) = true := by decide +kernel
set_option maxRecDepth 100000 in
theorem zq_q41 : zq_mc zq_m41 = true := by decide +kernel
set_option maxRecDepth 100000 in
theorem zq_e42 : (zq_c42.all (zq_ek zq_m42) && zq_ch zq_c42) = true := by decide +kernel
set_option maxRecDepth 100000 in
theorem zq_q42 : zq_mc zq_m42 = true := by decide +kernel
end
section
set_option maxRecDepth 100000 in
theorem zq_e43 : (zq_c43.all (zq_ek zq_m43) && zq_ch zq_c43) = true := by decide +kernel
set_option maxRecDepth 100000 in
theorem zq_q43 : zq_mc zq_m43 = true := by decide +kernel
set_option maxRecDepth 100000 in
theorem zq_e44 : (zq_c44.all (zq_ek zq_m44) && zq_ch zq_c44) = true := by decide +kernel
set_option maxRecDepth 100000 in
theorem zq_q44 : zq_mc zq_m44 = true := by decide +kernel
set_option maxRecDepth 100000 in
theorem zq_e45 : (zq_c45.all (zq_ek zq_m45) && zq_ch zq_c45) = true := by decide +kernel
set_option maxRecDepth 100000 in
theorem zq_q45 : zq_mc zq_m45 = true := by decide +kernel
set_option maxRecDepth 100000 in
theorem zq_e46 : (zq_c46.all (zq_ek zq_m46) && zq_ch zq_c46) = true := by decide +kernel
set_option maxRecDepth 100000 in
theorem zq_q46 : zq_mc zq_m46 = true := by decide +kernel
set_option maxRecDepth 100000 in
theorem zq_e47 : (zq_c47.all (zq_ek zq_m47) && zq_ch zq_c47) = true := by decide +kernel
set_option maxRecDepth 100000 in
theorem zq_q47 : zq_mc zq_m47 = true := by decide +kernel
set_option maxRecDepth 100000 in
theorem zq_e48 : (zq_c48.all (zq_ek zq_m48) && zq_ch zq_c48) = true := by decide +kernel
set_option maxRecDepth 100000 in
theorem zq_q48 : zq_mc zq_m48 = true := by decide +kernel
set_option maxRecDepth 100000 in
theorem zq_e49 : (zq_c49.all (zq_ek zq_m49) && zq_ch zq_c49) = true := by decide +kernel
set_option maxRecDepth 100000 in
theorem zq_q49 : zq_mc zq_m49 = true := by decide +kernel
set_option maxRecDepth 100000 in
theorem zq_e50 : (zq_c50.all (zq_ek zq_m50) && zq_ch zq_c50) = true := by decide +kernel
set_option maxRecDepth 100000 in
theorem zq_q50 : zq_mc zq_m50 = true := by decide +kernel
set_option maxRecDepth 100000 in
theorem zq_e51 : (zq_c51.all (zq_ek zq_m51) && zq_ch zq_c51) = true := by decide +kernel
set_option maxRecDepth 100000 in
theorem zq_q51 : zq_mc zq_m51 = true := by decide +kernel
set_option maxRecDepth 100000 in
theorem zq_e52 : (zq_c52.all (zq_ek zq_m52) && zq_ch zq_c52) = true := by decide +kernel
set_option maxRecDepth 100000 in
theorem zq_q52 : zq_mc zq_m52 = true := by decide +kernel
set_option maxRecDepth 100000 in
theorem zq_e53 : (zq_c53.all (zq_ek zq_m53) && zq_ch zq_c53) = true := by decide +kernel
set_option maxRecDepth 100000 in
theorem zq_q53 : zq_mc zq_m53 = true := by decide +kernel
set_option maxRecDepth 100000 in
theorem zq_e54 : (zq_c54.all (zq_ek zq_m54) && zq_ch zq_c54) = true := by decide +kernel
set_option maxRecDepth 100000 in
theorem zq_q54 : zq_mc zq_m54 = true := by decide +kernel
set_option maxRecDepth 100000 in
theorem zq_e55 : (zq_c55.all (zq_ek zq_m55) && zq_ch zq_c55) = true := by decide +kernel
set_option maxRecDepth 100000 in
theorem zq_q55 : zq_mc zq_m55 = true := by decide +kernel
set_option maxRecDepth 100000 in
theorem zq_e56 : (zq_c56.all (zq_ek zq_m56) && zq_ch zq_c56) = true := by decide +kernel
set_option maxRecDepth 100000 in
theorem zq_q56 : zq_mc zq_m56 = true := by decide +kernel
set_option maxRecDepth 100000 in
theorem zq_e57 : (zq_c57.all (zq_ek zq_m57) && zq_ch zq_c57) = true := by decide +kernel
set_option maxRecDepth 100000 in
theorem zq_q57 : zq_mc zq_m57 = true := by decide +kernel
set_option maxRecDepth 100000 in
theorem zq_e58 : (zq_c58.all (zq_ek zq_m58) && zq_ch zq_c58) = true := by decide +kernel
set_option maxRecDepth 100000 in
theorem zq_q58 : zq_mc zq_m58 = true := by decide +kernel
set_option maxRecDepth 100000 in
theorem zq_e59 : (zq_c59.all (zq_ek zq_m59) && zq_ch zq_c59) = true := by decide +kernel
set_option maxRecDepth 100000 in
theorem zq_q59 : zq_mc zq_m59 = true := by decide +kernel
set_option maxRecDepth 100000 in
theorem zq_e60 : (zq_c60.all (zq_ek zq_m60) && zq_ch zq_c60) = true := by decide +kernel
set_option maxRecDepth 100000 in
theorem zq_q60 : zq_mc zq_m60 = true := by decide +kernel
set_option maxRecDepth 100000 in
theorem zq_e61 : (zq_c61.all (zq_ek zq_m61) && zq_ch zq_c61) = true := by decide +kernel
set_option maxRecDepth 100000 in
theorem zq_q61 : zq_mc zq_m61 = true := by decide +kernel
set_option maxRecDepth 100000 in
theorem zq_e62 : (zq_c62.all (zq_ek zq_m62) && zq_ch zq_c62) = true := by decide +kernel
set_option maxRecDepth 100000 in
theorem zq_q62 : zq_mc zq_m62 = true := by decide +kernel
set_option maxRecDepth 100000 in
theorem zq_e63 : (zq_c63.all (zq_ek zq_m63) && zq_ch zq_c63) = true := by decide +kernel
set_option maxRecDepth 100000 in
theorem zq_q63 : zq_mc zq_m63 = true := by decide +kernel
set_option maxRecDepth 100000 in
theorem zq_e64 : (zq_c64.all (zq_ek zq_m64) && zq_ch zq_c64) = true := by decide +kernel
set_option maxRecDepth 100000 in
theorem zq_q64 : zq_mc zq_m64 = true := by decide +kernel
set_option maxRecDepth 100000 in
theorem zq_e65 : (zq_c65.all (zq_ek zq_m65) && zq_ch zq_c65) = true := by decide +kernel
set_option maxRecDepth 100000 in
theorem zq_q65 : zq_mc zq_m65 = true := by decide +kernel
set_option maxRecDepth 100000 in
theorem zq_e66 : (zq_c66.all (zq_ek zq_m66) && zq_ch zq_c66) = true := by decide +kernel
set_option maxRecDepth 100000 in
theorem zq_q66 : zq_mc zq_m66 = true := by decide +kernel
set_option maxRecDepth 100000 in
theorem zq_e67 : (zq_c67.all (zq_ek zq_m67) && zq_ch zq_c67) = true := by decide +kernel
set_option maxRecDepth 100000 in
theorem zq_q67 : zq_mc zq_m67 = true := by decide +kernel
set_option maxRecDepth 100000 in
theorem zq_e68 : (zq_c68.all (zq_ek zq_m68) && zq_ch zq_c68) = true := by decide +kernel
set_option maxRecDepth 100000 in
theorem zq_q68 : zq_mc zq_m68 = true := by decide +kernel
set_option maxRecDepth 100000 in
theorem zq_e69 : (zq_c69.all (zq_ek zq_m69) && zq_ch zq_c69) = true := by decide +kernel
set_option maxRecDepth 100000 in
theorem zq_q69 : zq_mc zq_m69 = true := by decide +kernel
set_option maxRecDepth 100000 in
theorem zq_e70 : (zq_c70.all (zq_ek zq_m70) && zq_ch zq_c70) = true := by decide +kernel
set_option maxRecDepth 100000 in
theorem zq_q70 : zq_mc zq_m70 = true := by decide +kernel
set_option maxRecDepth 100000 in
theorem zq_e71 : (zq_c71.all (zq_ek zq_m71) && zq_ch zq_c71) = true := by decide +kernel
set_option maxRecDepth 100000 in
theorem zq_q71 : zq_mc zq_m71 = true := by decide +kernel
end
section
set_option maxRecDepth 100000 in
theorem zq_e72 : (zq_c72.all (zq_ek zq_m72) && zq_ch zq_c72) = true := by decide +kernel
set_option maxRecDepth 100000 in
theorem zq_q72 : zq_mc zq_m72 = true := by decide +kernel
set_option maxRecDepth 100000 in
theorem zq_e73 : (zq_c73.all (zq_ek zq_m73) && zq_ch zq_c73) = true := by decide +kernel
set_option maxRecDepth 100000 in
theorem zq_q73 : zq_mc zq_m73 = true := by decide +kernel
set_option maxRecDepth 100000 in
theorem zq_e74 : (zq_c74.all (zq_ek zq_m74) && zq_ch zq_c74) = true := by decide +kernel
set_option maxRecDepth 100000 in
theorem zq_q74 : zq_mc zq_m74 = true := by decide +kernel
set_option maxRecDepth 100000 in
theorem zq_e75 : (zq_c75.all (zq_ek zq_m75) && zq_ch zq_c75) = true := by decide +kernel
set_option maxRecDepth 100000 in
theorem zq_q75 : zq_mc zq_m75 = true := by decide +kernel
set_option maxRecDepth 100000 in
theorem zq_e76 : (zq_c76.all (zq_ek zq_m76) && zq_ch zq_c76) = true := by decide +kernel
set_option maxRecDepth 100000 in
theorem zq_q76 : zq_mc zq_m76 = true := by decide +kernel
set_option maxRecDepth 100000 in
theorem zq_e77 : (zq_c77.all (zq_ek zq_m77) && zq_ch zq_c77) = true := by decide +kernel
set_option maxRecDepth 100000 in
theorem zq_q77 : zq_mc zq_m77 = true := by decide +kernel
set_option maxRecDepth 100000 in
theorem zq_e78 : (zq_c78.all (zq_ek zq_m78) && zq_ch zq_c78) = true := by decide +kernel
set_option maxRecDepth 100000 in
theorem zq_q78 : zq_mc zq_m78 = true := by decide +kernel
set_option maxRecDepth 100000 in
theorem zq_e79 : (zq_c79.all (zq_ek zq_m79) && zq_ch zq_c79) = true := by decide +kernel
set_option maxRecDepth 100000 in
theorem zq_q79 : zq_mc zq_m79 = true := by decide +kernel
set_option maxRecDepth 100000 in
theorem zq_e80 : (zq_c80.all (zq_ek zq_m80) && zq_ch zq_c80) = true := by decide +kernel
set_option maxRecDepth 100000 in
theorem zq_q80 : zq_mc zq_m80 = true := by decide +kernel
set_option maxRecDepth 100000 in
theorem zq_e81 : (zq_c81.all (zq_ek zq_m81) && zq_ch zq_c81) = true := by decide +kernel
set_option maxRecDepth 100000 in
theorem zq_q81 : zq_mc zq_m81 = true := by decide +kernel
set_option maxRecDepth 100000 in
theorem zq_e82 : (zq_c82.all (zq_ek zq_m82) && zq_ch zq_c82) = true := by decide +kernel
set_option maxRecDepth 100000 in
theorem zq_q82 : zq_mc zq_m82 = true := by decide +kernel
set_option maxRecDepth 100000 in
theorem zq_e83 : (zq_c83.all (zq_ek zq_m83) && zq_ch zq_c83) = true := by decide +kernel
set_option maxRecDepth 100000 in
theorem zq_q83 : zq_mc zq_m83 = true := by decide +kernel
set_option maxRecDepth 100000 in
theorem zq_e84 : (zq_c84.all (zq_ek zq_m84) && zq_ch zq_c84) = true := by decide +kernel
set_option maxRecDepth 100000 in
theorem zq_q84 : zq_mc zq_m84 = true := by decide +kernel
set_option maxRecDepth 100000 in
theorem zq_e85 : (zq_c85.all (zq_ek zq_m85) && zq_ch zq_c85) = true := by decide +kernel
set_option maxRecDepth 100000 in
theorem zq_q85 : zq_mc zq_m85 = true := by decide +kernel
set_option maxRecDepth 100000 in
theorem zq_e86 : (zq_c86.all (zq_ek zq_m86) && zq_ch zq_c86) = true := by decide +kernel
set_option maxRecDepth 100000 in
theorem zq_q86 : zq_mc zq_m86 = true := by decide +kernel
set_option maxRecDepth 100000 in
theorem zq_e87 : (zq_c87.all (zq_ek zq_m87) && zq_ch zq_c87) = true := by decide +kernel
set_option maxRecDepth 100000 in
theorem zq_q87 : zq_mc zq_m87 = true := by decide +kernel
set_option maxRecDepth 100000 in
theorem zq_e88 : (zq_c88.all (zq_ek zq_m88) && zq_ch zq_c88) = true := by decide +kernel
set_option maxRecDepth 100000 in
theorem zq_q88 : zq_mc zq_m88 = true := by decide +kernel
set_option maxRecDepth 100000 in
theorem zq_e89 : (zq_c89.all (zq_ek zq_m89) && zq_ch zq_c89) = true := by decide +kernel
set_option maxRecDepth 100000 in
theorem zq_q89 : zq_mc zq_m89 = true := by decide +kernel
set_option maxRecDepth 100000 in
theorem zq_e90 : (zq_c90.all (zq_ek zq_m90) && zq_ch zq_c90) = true := by decide +kernel
set_option maxRecDepth 100000 in
theorem zq_q90 : zq_mc zq_m90 = true := by decide +kernel
set_option maxRecDepth 100000 in
theorem zq_e91 : (zq_c91.all (zq_ek zq_m91) && zq_ch zq_c91) = true := by decide +kernel
set_option maxRecDepth 100000 in
theorem zq_q91 : zq_mc zq_m91 = true := by decide +kernel
set_option maxRecDepth 100000 in
theorem zq_e92 : (zq_c92.all (zq_ek zq_m92) && zq_ch zq_c92) = true := by decide +kernel
set_option maxRecDepth 100000 in
theorem zq_q92 : zq_mc zq_m92 = true := by decide +kernel
set_option maxRecDepth 100000 in
theorem zq_e93 : (zq_c93.all (zq_ek zq_m93) && zq_ch zq_c93) = true := by decide +kernel
set_option maxRecDepth 100000 in
theorem zq_q93 : zq_mc zq_m93 = true := by decide +kernel
set_option maxRecDepth 100000 in
theorem zq_e94 : (zq_c94.all (zq_ek zq_m94) && zq_ch zq_c94) = true := by decide +kernel
set_option maxRecDepth 100000 in
theorem zq_q94 : zq_mc zq_m94 = true := by decide +kernel
end
section
set_option maxRecDepth 100000 in
theorem zq_e95 : (zq_c95.all (zq_ek zq_m95) && zq_ch zq_c95) = true := by decide +kernel
set_option maxRecDepth 100000 in
theorem zq_q95 : zq_mc zq_m95 = true := by decide +kernel
set_option maxRecDepth 100000 in
theorem zq_e96 : (zq_c96.all (zq_ek zq_m96) && zq_ch zq_c96) = true := by decide +kernel
set_option maxRecDepth 100000 in
theorem zq_q96 : zq_mc zq_m96 = true := by decide +kernel
set_option maxRecDepth 100000 in
theorem zq_e97 : (zq_c97.all (zq_ek zq_m97) && zq_ch zq_c97) = true := by decide +kernel
set_option maxRecDepth 100000 in
theorem zq_q97 : zq_mc zq_m97 = true := by decide +kernel
set_option maxRecDepth 100000 in
theorem zq_e98 : (zq_c98.all (zq_ek zq_m98) && zq_ch zq_c98) = true := by decide +kernel
set_option maxRecDepth 100000 in
theorem zq_q98 : zq_mc zq_m98 = true := by decide +kernel
set_option maxRecDepth 100000 in
theorem zq_e99 : (zq_c99.all (zq_ek zq_m99) && zq_ch zq_c99) = true := by decide +kernel
set_option maxRecDepth 100000 in
theorem zq_q99 : zq_mc zq_m99 = true := by decide +kernel
set_option maxRecDepth 100000 in
theorem zq_e100 : (zq_c100.all (zq_ek zq_m100) && zq_ch zq_c100) = true := by decide +kernel
set_option maxRecDepth 100000 in
theorem zq_q100 : zq_mc zq_m100 = true := by decide +kernel
set_option maxRecDepth 100000 in
theorem zq_e101 : (zq_c101.all (zq_ek zq_m101) && zq_ch zq_c101) = true := by decide +kernel
set_option maxRecDepth 100000 in
theorem zq_q101 : zq_mc zq_m101 = true := by decide +kernel
set_option maxRecDepth 100000 in
theorem zq_e102 : (zq_c102.all (zq_ek zq_m102) && zq_ch zq_c102) = true := by decide +kernel
set_option maxRecDepth 100000 in
theorem zq_q102 : zq_mc zq_m102 = true := by decide +kernel
set_option maxRecDepth 100000 in
theorem zq_e103 : (zq_c103.all (zq_ek zq_m103) && zq_ch zq_c103) = true := by decide +kernel
set_option maxRecDepth 100000 in
theorem zq_q103 : zq_mc zq_m103 = true := by decide +kernel
set_option maxRecDepth 100000 in
theorem zq_e104 : (zq_c104.all (zq_ek zq_m104) && zq_ch zq_c104) = true := by decide +kernel
set_option maxRecDepth 100000 in
theorem zq_q104 : zq_mc zq_m104 = true := by decide +kernel
set_option maxRecDepth 100000 in
theorem zq_e105 : (zq_c105.all (zq_ek zq_m105) && zq_ch zq_c105) = true := by decide +kernel
set_option maxRecDepth 100000 in
theorem zq_q105 : zq_mc zq_m105 = true := by decide +kernel
set_option maxRecDepth 100000 in
theorem zq_e106 : (zq_c106.all (zq_ek zq_m106) && zq_ch zq_c106) = true := by decide +kernel
set_option maxRecDepth 100000 in
theorem zq_q106 : zq_mc zq_m106 = true := by decide +kernel
set_option maxRecDepth 100000 in
theorem zq_e107 : (zq_c107.all (zq_ek zq_m107) && zq_ch zq_c107) = true := by decide +kernel
set_option maxRecDepth 100000 in
theorem zq_q107 : zq_mc zq_m107 = true := by decide +kernel
set_option maxRecDepth 100000 in
theorem zq_e108 : (zq_c108.all (zq_ek zq_m108) && zq_ch zq_c108) = true := by decide +kernel
set_option maxRecDepth 100000 in
theorem zq_q108 : zq_mc zq_m108 = true := by decide +kernel
set_option maxRecDepth 100000 in
theorem zq_e109 : (zq_c109.all (zq_ek zq_m109) && zq_ch zq_c109) = true := by decide +kernel
set_option maxRecDepth 100000 in
theorem zq_q109 : zq_mc zq_m109 = true := by decide +kernel
set_option maxRecDepth 100000 in
theorem zq_e110 : (zq_c110.all (zq_ek zq_m110) && zq_ch zq_c110) = true := by decide +kernel
set_option maxRecDepth 100000 in
theorem zq_q110 : zq_mc zq_m110 = true := by decide +kernel
set_option maxRecDepth 100000 in
theorem zq_e111 : (zq_c111.all (zq_ek zq_m111) && zq_ch zq_c111) = true := by decide +kernel
set_option maxRecDepth 100000 in
theorem zq_q111 : zq_mc zq_m111 = true := by decide +kernel
set_option maxRecDepth 100000 in
theorem zq_e112 : (zq_c112.all (zq_ek zq_m112) && zq_ch zq_c112) = true := by decide +kernel
set_option maxRecDepth 100000 in
theorem zq_q112 : zq_mc zq_m112 = true := by decide +kernel
set_option maxRecDepth 100000 in
theorem zq_e113 : (zq_c113.all (zq_ek zq_m113) && zq_ch zq_c113) = true := by decide +kernel
set_option maxRecDepth 100000 in
theorem zq_q113 : zq_mc zq_m113 = true := by decide +kernel
set_option maxRecDepth 100000 in
theorem zq_e114 : (zq_c114.all (zq_ek zq_m114) && zq_ch zq_c114) = true := by decide +kernel
set_option maxRecDepth 100000 in
theorem zq_q114 : zq_mc zq_m114 = true := by decide +kernel
set_option maxRecDepth 100000 in
theorem zq_e115 : (zq_c115.all (zq_ek zq_m115) && zq_ch zq_c115) = true := by decide +kernel
set_option maxRecDepth 100000 in
theorem zq_q115 : zq_mc zq_m115 = true := by decide +kernel
set_option maxRecDepth 100000 in
theorem zq_e116 : (zq_c116.all (zq_ek zq_m116) && zq_ch zq_c116) = true := by decide +kernel
set_option maxRecDepth 100000 in
theorem zq_q116 : zq_mc zq_m116 = true := by decide +kernel
end
section
set_option maxRecDepth 100000 in
theorem zq_e117 : (zq_c117.all (zq_ek zq_m117) && zq_ch zq_c117) = true := by decide +kernel
set_option maxRecDepth 100000 in
theorem zq_q117 : zq_mc zq_m117 = true := by decide +kernel
set_option maxRecDepth 100000 in
theorem zq_e118 : (zq_c118.all (zq_ek zq_m118) && zq_ch zq_c118) = true := by decide +kernel
set_option maxRecDepth 100000 in
theorem zq_q118 : zq_mc zq_m118 = true := by decide +kernel
set_option maxRecDepth 100000 in
theorem zq_e119 : (zq_c119.all (zq_ek zq_m119) && zq_ch zq_c119) = true := by decide +kernel
set_option maxRecDepth 100000 in
theorem zq_q119 : zq_mc zq_m119 = true := by decide +kernel
set_option maxRecDepth 100000 in
theorem zq_e120 : (zq_c120.all (zq_ek zq_m120) && zq_ch zq_c120) = true := by decide +kernel
set_option maxRecDepth 100000 in
theorem zq_q120 : zq_mc zq_m120 = true := by decide +kernel
set_option maxRecDepth 100000 in
theorem zq_e121 : (zq_c121.all (zq_ek zq_m121) && zq_ch zq_c121) = true := by decide +kernel
set_option maxRecDepth 100000 in
theorem zq_q121 : zq_mc zq_m121 = true := by decide +kernel
set_option maxRecDepth 100000 in
theorem zq_e122 : (zq_c122.all (zq_ek zq_m122) && zq_ch zq_c122) = true := by decide +kernel
set_option maxRecDepth 100000 in
theorem zq_q122 : zq_mc zq_m122 = true := by decide +kernel
set_option maxRecDepth 100000 in
theorem zq_e123 : (zq_c123.all (zq_ek zq_m123) && zq_ch zq_c123) = true := by decide +kernel
set_option maxRecDepth 100000 in
theorem zq_q123 : zq_mc zq_m123 = true := by decide +kernel
set_option maxRecDepth 100000 in
theorem zq_e124 : (zq_c124.all (zq_ek zq_m124) && zq_ch zq_c124) = true := by decide +kernel
set_option maxRecDepth 100000 in
theorem zq_q124 : zq_mc zq_m124 = true := by decide +kernel
set_option maxRecDepth 100000 in
theorem zq_e125 : (zq_c125.all (zq_ek zq_m125) && zq_ch zq_c125) = true := by decide +kernel
set_option maxRecDepth 100000 in
theorem zq_q125 : zq_mc zq_m125 = true := by decide +kernel
set_option maxRecDepth 100000 in
theorem zq_e126 : (zq_c126.all (zq_ek zq_m126) && zq_ch zq_c126) = true := by decide +kernel
set_option maxRecDepth 100000 in
theorem zq_q126 : zq_mc zq_m126 = true := by decide +kernel
set_option maxRecDepth 100000 in
theorem zq_e127 : (zq_c127.all (zq_ek zq_m127) && zq_ch zq_c127) = true := by decide +kernel
set_option maxRecDepth 100000 in
theorem zq_q127 : zq_mc zq_m127 = true := by decide +kernel
set_option maxRecDepth 100000 in
theorem zq_e128 : (zq_c128.all (zq_ek zq_m128) && zq_ch zq_c128) = true := by decide +kernel
set_option maxRecDepth 100000 in
theorem zq_q128 : zq_mc zq_m128 = true := by decide +kernel
set_option maxRecDepth 100000 in
theorem zq_e129 : (zq_c129.all (zq_ek zq_m129) && zq_ch zq_c129) = true := by decide +kernel
set_option maxRecDepth 100000 in
theorem zq_q129 : zq_mc zq_m129 = true := by decide +kernel
set_option maxRecDepth 100000 in
theorem zq_e130 : (zq_c130.all (zq_ek zq_m130) && zq_ch zq_c130) = true := by decide +kernel
set_option maxRecDepth 100000 in
theorem zq_q130 : zq_mc zq_m130 = true := by decide +kernel
set_option maxRecDepth 100000 in
theorem zq_e131 : (zq_c131.all (zq_ek zq_m131) && zq_ch zq_c131) = true := by decide +kernel
set_option maxRecDepth 100000 in
theorem zq_q131 : zq_mc zq_m131 = true := by decide +kernel
set_option maxRecDepth 100000 in
theorem zq_e132 : (zq_c132.all (zq_ek zq_m132) && zq_ch zq_c132) = true := by decide +kernel
set_option maxRecDepth 100000 in
theorem zq_q132 : zq_mc zq_m132 = true := by decide +kernel
set_option maxRecDepth 100000 in
theorem zq_e133 : (zq_c133.all (zq_ek zq_m133) && zq_ch zq_c133) = true := by decide +kernel
set_option maxRecDepth 100000 in
theorem zq_q133 : zq_mc zq_m133 = true := by decide +kernel
set_option maxRecDepth 100000 in
theorem zq_e134 : (zq_c134.all (zq_ek zq_m134) && zq_ch zq_c134) = true := by decide +kernel
set_option maxRecDepth 100000 in
theorem zq_q134 : zq_mc zq_m134 = true := by decide +kernel
set_option maxRecDepth 100000 in
theorem zq_e135 : (zq_c135.all (zq_ek zq_m135) && zq_ch zq_c135) = true := by decide +kernel
set_option maxRecDepth 100000 in
theorem zq_q135 : zq_mc zq_m135 = true := by decide +kernel
set_option maxRecDepth 100000 in
theorem zq_e136 : (zq_c136.all (zq_ek zq_m136) && zq_ch zq_c136) = true := by decide +kernel
set_option maxRecDepth 100000 in
theorem zq_q136 : zq_mc zq_m136 = true := by decide +kernel
set_option maxRecDepth 100000 in
theorem zq_e137 : (zq_c137.all (zq_ek zq_m137) && zq_ch zq_c137) = true := by decide +kernel
set_option maxRecDepth 100000 in
theorem zq_q137 : zq_mc zq_m137 = true := by decide +kernel
set_option maxRecDepth 100000 in
theorem zq_e138 : (zq_c138.all (zq_ek zq_m138) && zq_ch zq_c138) = true := by decide +kernel
set_option maxRecDepth 100000 in
theorem zq_q138 : zq_mc zq_m138 = true := by decide +kernel
set_option maxRecDepth 100000 in
theorem zq_e139 : (zq_c139.all (zq_ek zq_m139) && zq_ch zq_c139) = true := by decide +kernel
set_option maxRecDepth 100000 in
theorem zq_q139 : zq_mc zq_m139 = true := by decide +kernel
set_option maxRecDepth 100000 in
theorem zq_e140 : (zq_c140.all (zq_ek zq_m140) && zq_ch zq_c140) = true := by decide +kernel
set_option maxRecDepth 100000 in
theorem zq_q140 : zq_mc zq_m140 = true := by decide +kernel
set_option maxRecDepth 100000 in
theorem zq_e141 : (zq_c141.all (zq_ek zq_m141) && zq_ch zq_c141) = true := by decide +kernel
set_option maxRecDepth 100000 in
theorem zq_q141 : zq_mc zq_m141 = true := by decide +kernel
set_option maxRecDepth 100000 in
theorem zq_e142 : (zq_c142.all (zq_ek zq_m142) && zq_ch zq_c142) = true := by decide +kernel
set_option maxRecDepth 100000 in
theorem zq_q142 : zq_mc zq_m142 = true := by decide +kernel
set_option maxRecDepth 100000 in
theorem zq_e143 : (zq_c143.all (zq_ek zq_m143) && zq_ch zq_c143) = true := by decide +kernel
set_option maxRecDepth 100000 in
theorem zq_q143 : zq_mc zq_m143 = true := by decide +kernel
set_option maxRecDepth 100000 in
theorem zq_e144 : (zq_c144.all (zq_ek zq_m144) && zq_ch zq_c144) = true := by decide +kernel
set_option maxRecDepth 100000 in
theorem zq_q144 : zq_mc zq_m144 = true := by decide +kernel
set_option maxRecDepth 100000 in
theorem zq_e145 : (zq_c145.all (zq_ek zq_m145) && zq_ch zq_c145) = true := by decide +kernel
set_option maxRecDepth 100000 in
theorem zq_q145 : zq_mc zq_m145 = true := by decide +kernel
set_option maxRecDepth 100000 in
theorem zq_e146 : (zq_c146.all (zq_ek zq_m146) && zq_ch zq_c146) = true := by decide +kernel
set_option maxRecDepth 100000 in
theorem zq_q146 : zq_mc zq_m146 = true := by decide +kernel
end
section
set_option maxRecDepth 100000 in
theorem zq_e147 : (zq_c147.all (zq_ek zq_m147) && zq_ch zq_c147) = true := by decide +kernel
set_option maxRecDepth 100000 in
theorem zq_q147 : zq_mc zq_m147 = true := by decide +kernel
set_option maxRecDepth 100000 in
theorem zq_e148 : (zq_c148.all (zq_ek zq_m148) && zq_ch zq_c148) = true := by decide +kernel
set_option maxRecDepth 100000 in
theorem zq_q148 : zq_mc zq_m148 = true := by decide +kernel
set_option maxRecDepth 100000 in
theorem zq_e149 : (zq_c149.all (zq_ek zq_m149) && zq_ch zq_c149) = true := by decide +kernel
set_option maxRecDepth 100000 in
theorem zq_q149 : zq_mc zq_m149 = true := by decide +kernel
set_option maxRecDepth 100000 in
theorem zq_e150 : (zq_c150.all (zq_ek zq_m150) && zq_ch zq_c150) = true := by decide +kernel
set_option maxRecDepth 100000 in
theorem zq_q150 : zq_mc zq_m150 = true := by decide +kernel
set_option maxRecDepth 100000 in
theorem zq_e151 : (zq_c151.all (zq_ek zq_m151) && zq_ch zq_c151) = true := by decide +kernel
set_option maxRecDepth 100000 in
theorem zq_q151 : zq_mc zq_m151 = true := by decide +kernel
set_option maxRecDepth 100000 in
theorem zq_e152 : (zq_c152.all (zq_ek zq_m152) && zq_ch zq_c152) = true := by decide +kernel
set_option maxRecDepth 100000 in
theorem zq_q152 : zq_mc zq_m152 = true := by decide +kernel
set_option maxRecDepth 100000 in
theorem zq_e153 : (zq_c153.all (zq_ek zq_m153) && zq_ch zq_c153) = true := by decide +kernel
set_option maxRecDepth 100000 in
theorem zq_q153 : zq_mc zq_m153 = true := by decide +kernel
set_option maxRecDepth 100000 in
theorem zq_e154 : (zq_c154.all (zq_ek zq_m154) && zq_ch zq_c154) = true := by decide +kernel
set_option maxRecDepth 100000 in
theorem zq_q154 : zq_mc zq_m154 = true := by decide +kernel
set_option maxRecDepth 100000 in
theorem zq_e155 : (zq_c155.all (zq_ek zq_m155) && zq_ch zq_c155) = true := by decide +kernel
set_option maxRecDepth 100000 in
theorem zq_q155 : zq_mc zq_m155 = true := by decide +kernel
set_option maxRecDepth 100000 in
theorem zq_e156 : (zq_c156.all (zq_ek zq_m156) && zq_ch zq_c156) = true := by decide +kernel
set_option maxRecDepth 100000 in
theorem zq_q156 : zq_mc zq_m156 = true := by decide +kernel
set_option maxRecDepth 100000 in
theorem zq_e157 : (zq_c157.all (zq_ek zq_m157) && zq_ch zq_c157) = true := by decide +kernel
set_option maxRecDepth 100000 in
theorem zq_q157 : zq_mc zq_m157 = true := by decide +kernel
set_option maxRecDepth 100000 in
theorem zq_e158 : (zq_c158.all (zq_ek zq_m158) && zq_ch zq_c158) = true := by decide +kernel
set_option maxRecDepth 100000 in
theorem zq_q158 : zq_mc zq_m158 = true := by decide +kernel
set_option maxRecDepth 100000 in
theorem zq_e159 : (zq_c159.all (zq_ek zq_m159) && zq_ch zq_c159) = true := by decide +kernel
set_option maxRecDepth 100000 in
theorem zq_q159 : zq_mc zq_m159 = true := by decide +kernel
set_option maxRecDepth 100000 in
theorem zq_e160 : (zq_c160.all (zq_ek zq_m160) && zq_ch zq_c160) = true := by decide +kernel
set_option maxRecDepth 100000 in
theorem zq_q160 : zq_mc zq_m160 = true := by decide +kernel
set_option maxRecDepth 100000 in
theorem zq_e161 : (zq_c161.all (zq_ek zq_m161) && zq_ch zq_c161) = true := by decide +kernel
set_option maxRecDepth 100000 in
theorem zq_q161 : zq_mc zq_m161 = true := by decide +kernel
end
section
set_option maxRecDepth 100000 in
theorem zq_e162 : (zq_c162.all (zq_ek zq_m162) && zq_ch zq_c162) = true := by decide +kernel
set_option maxRecDepth 100000 in
theorem zq_q162 : zq_mc zq_m162 = true := by decide +kernel
set_option maxRecDepth 100000 in
theorem zq_e163 : (zq_c163.all (zq_ek zq_m163) && zq_ch zq_c163) = true := by decide +kernel
set_option maxRecDepth 100000 in
theorem zq_q163 : zq_mc zq_m163 = true := by decide +kernel
set_option maxRecDepth 100000 in
theorem zq_e164 : (zq_c164.all (zq_ek zq_m164) && zq_ch zq_c164) = true := by decide +kernel
set_option maxRecDepth 100000 in
theorem zq_q164 : zq_mc zq_m164 = true := by decide +kernel
set_option maxRecDepth 100000 in
theorem zq_e165 : (zq_c165.all (zq_ek zq_m165) && zq_ch zq_c165) = true := by decide +kernel
set_option maxRecDepth 100000 in
theorem zq_q165 : zq_mc zq_m165 = true := by decide +kernel
set_option maxRecDepth 100000 in
theorem zq_e166 : (zq_c166.all (zq_ek zq_m166) && zq_ch zq_c166) = true := by decide +kernel
set_option maxRecDepth 100000 in
theorem zq_q166 : zq_mc zq_m166 = true := by decide +kernel
set_option maxRecDepth 100000 in
theorem zq_e167 : (zq_c167.all (zq_ek zq_m167) && zq_ch zq_c167) = true := by decide +kernel
set_option maxRecDepth 100000 in
theorem zq_q167 : zq_mc zq_m167 = true := by decide +kernel
set_option maxRecDepth 100000 in
theorem zq_e168 : (zq_c168.all (zq_ek zq_m168) && zq_ch zq_c168) = true := by decide +kernel
set_option maxRecDepth 100000 in
theorem zq_q168 : zq_mc zq_m168 = true := by decide +kernel
set_option maxRecDepth 100000 in
theorem zq_e169 : (zq_c169.all (zq_ek zq_m169) && zq_ch zq_c169) = true := by decide +kernel
set_option maxRecDepth 100000 in
theorem zq_q169 : zq_mc zq_m169 = true := by decide +kernel
set_option maxRecDepth 100000 in
theorem zq_e170 : (zq_c170.all (zq_ek zq_m170) && zq_ch zq_c170) = true := by decide +kernel
set_option maxRecDepth 100000 in
theorem zq_q170 : zq_mc zq_m170 = true := by decide +kernel
set_option maxRecDepth 100000 in
theorem zq_e171 : (zq_c171.all (zq_ek zq_m171) && zq_ch zq_c171) = true := by decide +kernel
set_option maxRecDepth 100000 in
theorem zq_q171 : zq_mc zq_m171 = true := by decide +kernel
set_option maxRecDepth 100000 in
theorem zq_e172 : (zq_c172.all (zq_ek zq_m172) && zq_ch zq_c172) = true := by decide +kernel
set_option maxRecDepth 100000 in
theorem zq_q172 : zq_mc zq_m172 = true := by decide +kernel
set_option maxRecDepth 100000 in
theorem zq_e173 : (zq_c173.all (zq_ek zq_m173) && zq_ch zq_c173) = true := by decide +kernel
set_option maxRecDepth 100000 in
theorem zq_q173 : zq_mc zq_m173 = true := by decide +kernel
set_option maxRecDepth 100000 in
theorem zq_e174 : (zq_c174.all (zq_ek zq_m174) && zq_ch zq_c174) = true := by decide +kernel
set_option maxRecDepth 100000 in
theorem zq_q174 : zq_mc zq_m174 = true := by decide +kernel
end
section
set_option maxRecDepth 100000 in
theorem zq_e175 : (zq_c175.all (zq_ek zq_m175) && zq_ch zq_c175) = true := by decide +kernel
set_option maxRecDepth 100000 in
theorem zq_q175 : zq_mc zq_m175 = true := by decide +kernel
set_option maxRecDepth 100000 in
theorem zq_e176 : (zq_c176.all (zq_ek zq_m176) && zq_ch zq_c176) = true := by decide +kernel
set_option maxRecDepth 100000 in
theorem zq_q176 : zq_mc zq_m176 = true := by decide +kernel
set_option maxRecDepth 100000 in
theorem zq_e177 : (zq_c177.all (zq_ek zq_m177) && zq_ch zq_c177) = true := by decide +kernel
set_option maxRecDepth 100000 in
theorem zq_q177 : zq_mc zq_m177 = true := by decide +kernel
set_option maxRecDepth 100000 in
theorem zq_e178 : (zq_c178.all (zq_ek zq_m178) && zq_ch zq_c178) = true := by decide +kernel
set_option maxRecDepth 100000 in
theorem zq_q178 : zq_mc zq_m178 = true := by decide +kernel
set_option maxRecDepth 100000 in
theorem zq_e179 : (zq_c179.all (zq_ek zq_m179) && zq_ch zq_c179) = true := by decide +kernel
set_option maxRecDepth 100000 in
theorem zq_q179 : zq_mc zq_m179 = true := by decide +kernel
set_option maxRecDepth 100000 in
theorem zq_e180 : (zq_c180.all (zq_ek zq_m180) && zq_ch zq_c180) = true := by decide +kernel
set_option maxRecDepth 100000 in
theorem zq_q180 : zq_mc zq_m180 = true := by decide +kernel
set_option maxRecDepth 100000 in
theorem zq_e181 : (zq_c181.all (zq_ek zq_m181) && zq_ch zq_c181) = true := by decide +kernel
set_option maxRecDepth 100000 in
theorem zq_q181 : zq_mc zq_m181 = true := by decide +kernel
set_option maxRecDepth 100000 in
theorem zq_e182 : (zq_c182.all (zq_ek zq_m182) && zq_ch zq_c182) = true := by decide +kernel
set_option maxRecDepth 100000 in
theorem zq_q182 : zq_mc zq_m182 = true := by decide +kernel
set_option maxRecDepth 100000 in
theorem zq_e183 : (zq_c183.all (zq_ek zq_m183) && zq_ch zq_c183) = true := by decide +kernel
set_option maxRecDepth 100000 in
theorem zq_q183 : zq_mc zq_m183 = true := by decide +kernel
set_option maxRecDepth 100000 in
theorem zq_e184 : (zq_c184.all (zq_ek zq_m184) && zq_ch zq_c184) = true := by decide +kernel
set_option maxRecDepth 100000 in
theorem zq_q184 : zq_mc zq_m184 = true := by decide +kernel
set_option maxRecDepth 100000 in
theorem zq_e185 : (zq_c185.all (zq_ek zq_m185) && zq_ch zq_c185) = true := by decide +kernel
set_option maxRecDepth 100000 in
theorem zq_q185 : zq_mc zq_m185 = true := by decide +kernel
set_option maxRecDepth 100000 in
theorem zq_e186 : (zq_c186.all (zq_ek zq_m186) && zq_ch zq_c186) = true := by decide +kernel
set_option maxRecDepth 100000 in
theorem zq_q186 : zq_mc zq_m186 = true := by decide +kernel
set_option maxRecDepth 100000 in
theorem zq_e187 : (zq_c187.all (zq_ek zq_m187) && zq_ch zq_c187) = true := by decide +kernel
set_option maxRecDepth 100000 in
theorem zq_q187 : zq_mc zq_m187 = true := by decide +kernel
set_option maxRecDepth 100000 in
theorem zq_e188 : (zq_c188.all (zq_ek zq_m188) && zq_ch zq_c188) = true := by decide +kernel
set_option maxRecDepth 100000 in
theorem zq_q188 : zq_mc zq_m188 = true := by decide +kernel
set_option maxRecDepth 100000 in
theorem zq_e189 : (zq_c189.all (zq_ek zq_m189) && zq_ch zq_c189) = true := by decide +kernel
set_option maxRecDepth 100000 in
theorem zq_q189 : zq_mc zq_m189 = true := by decide +kernel
set_option maxRecDepth 100000 in
theorem zq_e190 : (zq_c190.all (zq_ek zq_m190) && zq_ch zq_c190) = true := by decide +kernel
set_option maxRecDepth 100000 in
theorem zq_q190 : zq_mc zq_m190 = true := by decide +kernel
set_option maxRecDepth 100000 in
theorem zq_e191 : (zq_c191.all (zq_ek zq_m191) && zq_ch zq_c191) = true := by decide +kernel
set_option maxRecDepth 100000 in
theorem zq_q191 : zq_mc zq_m191 = true := by decide +kernel
set_option maxRecDepth 100000 in
theorem zq_e192 : (zq_c192.all (zq_ek zq_m192) && zq_ch zq_c192) = true := by decide +kernel
set_option maxRecDepth 100000 in
theorem zq_q192 : zq_mc zq_m192 = true := by decide +kernel
set_option maxRecDepth 100000 in
theorem zq_e193 : (zq_c193.all (zq_ek zq_m193) && zq_ch zq_c193) = true := by decide +kernel
set_option maxRecDepth 100000 in
theorem zq_q193 : zq_mc zq_m193 = true := by decide +kernel
set_option maxRecDepth 100000 in
theorem zq_e194 : (zq_c194.all (zq_ek zq_m194) && zq_ch zq_c194) = true := by decide +kernel
set_option maxRecDepth 100000 in
theorem zq_q194 : zq_mc zq_m194 = true := by decide +kernel
end
section
set_option maxRecDepth 100000 in
theorem zq_e195 : (zq_c195.all (zq_ek zq_m195) && zq_ch zq_c195) = true := by decide +kernel
set_option maxRecDepth 100000 in
theorem zq_q195 : zq_mc zq_m195 = true := by decide +kernel
set_option maxRecDepth 100000 in
theorem zq_e196 : (zq_c196.all (zq_ek zq_m196) && zq_ch zq_c196) = true := by decide +kernel
set_option maxRecDepth 100000 in
theorem zq_q196 : zq_mc zq_m196 = true := by decide +kernel
set_option maxRecDepth 100000 in
theorem zq_e197 : (zq_c197.all (zq_ek zq_m197) && zq_ch zq_c197) = true := by decide +kernel
set_option maxRecDepth 100000 in
theorem zq_q197 : zq_mc zq_m197 = true := by decide +kernel
set_option maxRecDepth 100000 in
theorem zq_e198 : (zq_c198.all (zq_ek zq_m198) && zq_ch zq_c198) = true := by decide +kernel
set_option maxRecDepth 100000 in
theorem zq_q198 : zq_mc zq_m198 = true := by decide +kernel
set_option maxRecDepth 100000 in
theorem zq_e199 : (zq_c199.all (zq_ek zq_m199) && zq_ch zq_c199) = true := by decide +kernel
set_option maxRecDepth 100000 in
theorem zq_q199 : zq_mc zq_m199 = true := by decide +kernel
set_option maxRecDepth 100000 in
theorem zq_e200 : (zq_c200.all (zq_ek zq_m200) && zq_ch zq_c200) = true := by decide +kernel
set_option maxRecDepth 100000 in
theorem zq_q200 : zq_mc zq_m200 = true := by decide +kernel
set_option maxRecDepth 100000 in
theorem zq_e201 : (zq_c201.all (zq_ek zq_m201) && zq_ch zq_c201) = true := by decide +kernel
set_option maxRecDepth 100000 in
theorem zq_q201 : zq_mc zq_m201 = true := by decide +kernel
set_option maxRecDepth 100000 in
theorem zq_e202 : (zq_c202.all (zq_ek zq_m202) && zq_ch zq_c202) = true := by decide +kernel
set_option maxRecDepth 100000 in
theorem zq_q202 : zq_mc zq_m202 = true := by decide +kernel
set_option maxRecDepth 100000 in
theorem zq_e203 : (zq_c203.all (zq_ek zq_m203) && zq_ch zq_c203) = true := by decide +kernel
set_option maxRecDepth 100000 in
theorem zq_q203 : zq_mc zq_m203 = true := by decide +kernel
set_option maxRecDepth 100000 in
theorem zq_e204 : (zq_c204.all (zq_ek zq_m204) && zq_ch zq_c204) = true := by decide +kernel
set_option maxRecDepth 100000 in
theorem zq_q204 : zq_mc zq_m204 = true := by decide +kernel
set_option maxRecDepth 100000 in
theorem zq_e205 : (zq_c205.all (zq_ek zq_m205) && zq_ch zq_c205) = true := by decide +kernel
set_option maxRecDepth 100000 in
theorem zq_q205 : zq_mc zq_m205 = true := by decide +kernel
set_option maxRecDepth 100000 in
theorem zq_e206 : (zq_c206.all (zq_ek zq_m206) && zq_ch zq_c206) = true := by decide +kernel
set_option maxRecDepth 100000 in
theorem zq_q206 : zq_mc zq_m206 = true := by decide +kernel
set_option maxRecDepth 100000 in
theorem zq_e207 : (zq_c207.all (zq_ek zq_m207) && zq_ch zq_c207) = true := by decide +kernel
set_option maxRecDepth 100000 in
theorem zq_q207 : zq_mc zq_m207 = true := by decide +kernel
set_option maxRecDepth 100000 in
theorem zq_e208 : (zq_c208.all (zq_ek zq_m208) && zq_ch zq_c208) = true := by decide +kernel
set_option maxRecDepth 100000 in
theorem zq_q208 : zq_mc zq_m208 = true := by decide +kernel
set_option maxRecDepth 100000 in
theorem zq_e209 : (zq_c209.all (zq_ek zq_m209) && zq_ch zq_c209) = true := by decide +kernel
set_option maxRecDepth 100000 in
theorem zq_q209 : zq_mc zq_m209 = true := by decide +kernel
end
section
set_option maxRecDepth 100000 in
theorem zq_e210 : (zq_c210.all (zq_ek zq_m210) && zq_ch zq_c210) = true := by decide +kernel
set_option maxRecDepth 100000 in
theorem zq_q210 : zq_mc zq_m210 = true := by decide +kernel
set_option maxRecDepth 100000 in
theorem zq_e211 : (zq_c211.all (zq_ek zq_m211) && zq_ch zq_c211) = true := by decide +kernel
set_option maxRecDepth 100000 in
theorem zq_q211 : zq_mc zq_m211 = true := by decide +kernel
set_option maxRecDepth 100000 in
theorem zq_e212 : (zq_c212.all (zq_ek zq_m212) && zq_ch zq_c212) = true := by decide +kernel
set_option maxRecDepth 100000 in
theorem zq_q212 : zq_mc zq_m212 = true := by decide +kernel
set_option maxRecDepth 100000 in
theorem zq_e213 : (zq_c213.all (zq_ek zq_m213) && zq_ch zq_c213) = true := by decide +kernel
set_option maxRecDepth 100000 in
theorem zq_q213 : zq_mc zq_m213 = true := by decide +kernel
set_option maxRecDepth 100000 in
theorem zq_e214 : (zq_c214.all (zq_ek zq_m214) && zq_ch zq_c214) = true := by decide +kernel
set_option maxRecDepth 100000 in
theorem zq_q214 : zq_mc zq_m214 = true := by decide +kernel
set_option maxRecDepth 100000 in
theorem zq_e215 : (zq_c215.all (zq_ek zq_m215) && zq_ch zq_c215) = true := by decide +kernel
set_option maxRecDepth 100000 in
theorem zq_q215 : zq_mc zq_m215 = true := by decide +kernel
set_option maxRecDepth 100000 in
theorem zq_e216 : (zq_c216.all (zq_ek zq_m216) && zq_ch zq_c216) = true := by decide +kernel
set_option maxRecDepth 100000 in
theorem zq_q216 : zq_mc zq_m216 = true := by decide +kernel
set_option maxRecDepth 100000 in
theorem zq_e217 : (zq_c217.all (zq_ek zq_m217) && zq_ch zq_c217) = true := by decide +kernel
set_option maxRecDepth 100000 in
theorem zq_q217 : zq_mc zq_m217 = true := by decide +kernel
set_option maxRecDepth 100000 in
theorem zq_e218 : (zq_c218.all (zq_ek zq_m218) && zq_ch zq_c218) = true := by decide +kernel
set_option maxRecDepth 100000 in
theorem zq_q218 : zq_mc zq_m218 = true := by decide +kernel
set_option maxRecDepth 100000 in
theorem zq_e219 : (zq_c219.all (zq_ek zq_m219) && zq_ch zq_c219) = true := by decide +kernel
set_option maxRecDepth 100000 in
theorem zq_q219 : zq_mc zq_m219 = true := by decide +kernel
set_option maxRecDepth 100000 in
theorem zq_e220 : (zq_c220.all (zq_ek zq_m220) && zq_ch zq_c220) = true := by decide +kernel
set_option maxRecDepth 100000 in
theorem zq_q220 : zq_mc zq_m220 = true := by decide +kernel
set_option maxRecDepth 100000 in
theorem zq_e221 : (zq_c221.all (zq_ek zq_m221) && zq_ch zq_c221) = true := by decide +kernel
set_option maxRecDepth 100000 in
theorem zq_q221 : zq_mc zq_m221 = true := by decide +kernel
set_option maxRecDepth 100000 in
theorem zq_e222 : (zq_c222.all (zq_ek zq_m222) && zq_ch zq_c222) = true := by decide +kernel
set_option maxRecDepth 100000 in
theorem zq_q222 : zq_mc zq_m222 = true := by decide +kernel
set_option maxRecDepth 100000 in
theorem zq_e223 : (zq_c223.all (zq_ek zq_m223) && zq_ch zq_c223) = true := by decide +kernel
set_option maxRecDepth 100000 in
theorem zq_q223 : zq_mc zq_m223 = true := by decide +kernel
set_option maxRecDepth 100000 in
theorem zq_e224 : (zq_c224.all (zq_ek zq_m224) && zq_ch zq_c224) = true := by decide +kernel
set_option maxRecDepth 100000 in
theorem zq_q224 : zq_mc zq_m224 = true := by decide +kernel
set_option maxRecDepth 100000 in
theorem zq_e225 : (zq_c225.all (zq_ek zq_m225) && zq_ch zq_c225) = true := by decide +kernel
set_option maxRecDepth 100000 in
theorem zq_q225 : zq_mc zq_m225 = true := by decide +kernel
set_option maxRecDepth 100000 in
theorem zq_e226 : (zq_c226.all (zq_ek zq_m226) && zq_ch zq_c226) = true := by decide +kernel
set_option maxRecDepth 100000 in
theorem zq_q226 : zq_mc zq_m226 = true := by decide +kernel
end
section
set_option maxRecDepth 100000 in
theorem zq_e227 : (zq_c227.all (zq_ek zq_m227) && zq_ch zq_c227) = true := by decide +kernel
set_option maxRecDepth 100000 in
theorem zq_q227 : zq_mc zq_m227 = true := by decide +kernel
set_option maxRecDepth 100000 in
theorem zq_e228 : (zq_c228.all (zq_ek zq_m228) && zq_ch zq_c228) = true := by decide +kernel
set_option maxRecDepth 100000 in
theorem zq_q228 : zq_mc zq_m228 = true := by decide +kernel
set_option maxRecDepth 100000 in
theorem zq_e229 : (zq_c229.all (zq_ek zq_m229) && zq_ch zq_c229) = true := by decide +kernel
set_option maxRecDepth 100000 in
theorem zq_q229 : zq_mc zq_m229 = true := by decide +kernel
end
section
set_option maxRecDepth 100000 in
theorem zq_el0 : ((zq_c230.drop 0).take 50).all (zq_ek zq_m230) = true := by decide +kernel
set_option maxRecDepth 100000 in
theorem zq_el50 : ((zq_c230.drop 50).take 50).all (zq_ek zq_m230) = true := by decide +kernel
set_option maxRecDepth 100000 in
theorem zq_el100 : ((zq_c230.drop 100).take 50).all (zq_ek zq_m230) = true := by decide +kernel
set_option maxRecDepth 100000 in
theorem zq_el150 : ((zq_c230.drop 150).take 50).all (zq_ek zq_m230) = true := by decide +kernel
set_option maxRecDepth 100000 in
theorem zq_el200 : ((zq_c230.drop 200).take 50).all (zq_ek zq_m230) = true := by decide +kernel
set_option maxRecDepth 100000 in
theorem zq_el250 : ((zq_c230.drop 250).take 50).all (zq_ek zq_m230) = true := by decide +kernel
set_option maxRecDepth 100000 in
theorem zq_el300 : ((zq_c230.drop 300).take 50).all (zq_ek zq_m230) = true := by decide +kernel
set_option maxRecDepth 100000 in
theorem zq_el350 : ((zq_c230.drop 350).take 50).all (zq_ek zq_m230) = true := by decide +kernel
set_option maxRecDepth 100000 in
theorem zq_el400 : ((zq_c230.drop 400).take 50).all (zq_ek zq_m230) = true := by decide +kernel
set_option maxRecDepth 100000 in
theorem zq_el450 : ((zq_c230.drop 450).take 50).all (zq_ek zq_m230) = true := by decide +kernel
set_option maxRecDepth 100000 in
theorem zq_el500 : ((zq_c230.drop 500).take 50).all (zq_ek zq_m230) = true := by decide +kernel
set_option maxRecDepth 100000 in
theorem zq_el550 : ((zq_c230.drop 550).take 50).all (zq_ek zq_m230) = true := by decide +kernel
set_option maxRecDepth 100000 in
theorem zq_el600 : ((zq_c230.drop 600).take 50).all (zq_ek zq_m230) = true := by decide +kernel
set_option maxRecDepth 100000 in
theorem zq_el650 : ((zq_c230.drop 650).take 50).all (zq_ek zq_m230) = true := by decide +kernel
set_option maxRecDepth 100000 in
theorem zq_el700 : ((zq_c230.drop 700).take 50).all (zq_ek zq_m230) = true := by decide +kernel
set_option maxRecDepth 100000 in
theorem zq_el750 : ((zq_c230.drop 750).take 50).all (zq_ek zq_m230) = true := by decide +kernel
set_option maxRecDepth 100000 in
theorem zq_el800 : ((zq_c230.drop 800).take 50).all (zq_ek zq_m230) = true := by decide +kernel
set_option maxRecDepth 100000 in
theorem zq_el850 : ((zq_c230.drop 850).take 50).all (zq_ek zq_m230) = true := by decide +kernel
set_option maxRecDepth 100000 in
theorem zq_el900 : ((zq_c230.drop 900).take 50).all (zq_ek zq_m230) = true := by decide +kernel
set_option maxRecDepth 100000 in
theorem zq_el950 : ((zq_c230.drop 950).take 50).all (zq_ek zq_m230) = true := by decide +kernel
set_option maxRecDepth 100000 in
theorem zq_el1000 : ((zq_c230.drop 1000).take 50).all (zq_ek zq_m230) = true := by decide +kernel
set_option maxRecDepth 100000 in
theorem zq_elc : zq_ch zq_c230 = true := by decide +kernel
end
section
theorem zq_all50 {p : zq_I → Bool} {l : List zq_I} {n : Nat} (h1 : ((l.drop n).take 50).all p = true) (h2 : (l.drop (n + 50)).all p = true) : (l.drop n).all p = true := by
  rw [← List.take_append_drop 50 (l.drop n), List.all_append, h1, List.drop_drop, Bool.true_and]
  exact h2
theorem zq_elnil : (zq_c230.drop 1050).all (zq_ek zq_m230) = true := by rw [List.drop_of_length_le (by decide +kernel)]; rfl
theorem zq_ef1000 : (zq_c230.drop 1000).all (zq_ek zq_m230) = true := zq_all50 (n := 1000) zq_el1000 zq_elnil
theorem zq_ef950 : (zq_c230.drop 950).all (zq_ek zq_m230) = true := zq_all50 (n := 950) zq_el950 zq_ef1000
theorem zq_ef900 : (zq_c230.drop 900).all (zq_ek zq_m230) = true := zq_all50 (n := 900) zq_el900 zq_ef950
theorem zq_ef850 : (zq_c230.drop 850).all (zq_ek zq_m230) = true := zq_all50 (n := 850) zq_el850 zq_ef900
theorem zq_ef800 : (zq_c230.drop 800).all (zq_ek zq_m230) = true := zq_all50 (n := 800) zq_el800 zq_ef850
theorem zq_ef750 : (zq_c230.drop 750).all (zq_ek zq_m230) = true := zq_all50 (n := 750) zq_el750 zq_ef800
theorem zq_ef700 : (zq_c230.drop 700).all (zq_ek zq_m230) = true := zq_all50 (n := 700) zq_el700 zq_ef750
theorem zq_ef650 : (zq_c230.drop 650).all (zq_ek zq_m230) = true := zq_all50 (n := 650) zq_el650 zq_ef700
theorem zq_ef600 : (zq_c230.drop 600).all (zq_ek zq_m230) = true := zq_all50 (n := 600) zq_el600 zq_ef650
theorem zq_ef550 : (zq_c230.drop 550).all (zq_ek zq_m230) = true := zq_all50 (n := 550) zq_el550 zq_ef600
theorem zq_ef500 : (zq_c230.drop 500).all (zq_ek zq_m230) = true := zq_all50 (n := 500) zq_el500 zq_ef550
theorem zq_ef450 : (zq_c230.drop 450).all (zq_ek zq_m230) = true := zq_all50 (n := 450) zq_el450 zq_ef500
theorem zq_ef400 : (zq_c230.drop 400).all (zq_ek zq_m230) = true := zq_all50 (n := 400) zq_el400 zq_ef450
theorem zq_ef350 : (zq_c230.drop 350).all (zq_ek zq_m230) = true := zq_all50 (n := 350) zq_el350 zq_ef400
theorem zq_ef300 : (zq_c230.drop 300).all (zq_ek zq_m230) = true := zq_all50 (n := 300) zq_el300 zq_ef350
theorem zq_ef250 : (zq_c230.drop 250).all (zq_ek zq_m230) = true := zq_all50 (n := 250) zq_el250 zq_ef300
theorem zq_ef200 : (zq_c230.drop 200).all (zq_ek zq_m230) = true := zq_all50 (n := 200) zq_el200 zq_ef250
theorem zq_ef150 : (zq_c230.drop 150).all (zq_ek zq_m230) = true := zq_all50 (n := 150) zq_el150 zq_ef200
theorem zq_ef100 : (zq_c230.drop 100).all (zq_ek zq_m230) = true := zq_all50 (n := 100) zq_el100 zq_ef150
theorem zq_ef50 : (zq_c230.drop 50).all (zq_ek zq_m230) = true := zq_all50 (n := 50) zq_el50 zq_ef100
theorem zq_ef0 : (zq_c230.drop 0).all (zq_ek zq_m230) = true := zq_all50 (n := 0) zq_el0 zq_ef50
theorem zq_ela : zq_c230.all (zq_ek zq_m230) = true := zq_ef0
theorem zq_ok_of {t : zq_T} (h : (t.2.2.2.2.1.all (zq_ek t) && zq_ch t.2.2.2.2.1) = true) : zq_ok t t.2.2.2.2.1 := by
  rw [Bool.and_eq_true] at h
  exact ⟨fun e he => List.all_eq_true.mp h.1 e he, h.2⟩
theorem zq_ge0 : ∀ t ∈ ([zq_m0, zq_m1, zq_m2, zq_m3, zq_m4, zq_m5, zq_m6, zq_m7, zq_m8, zq_m9, zq_m10, zq_m11, zq_m12, zq_m13, zq_m14, zq_m15, zq_m16, zq_m17, zq_m18, zq_m19, zq_m20, zq_m21, zq_m22, zq_m23, zq_m24, zq_m25, zq_m26, zq_m27, zq_m28, zq_m29, zq_m30, zq_m31, zq_m32, zq_m33, zq_m34, zq_m35, zq_m36, zq_m37, zq_m38, zq_m39] : List zq_T), zq_ok t t.2.2.2.2.1 ∧ zq_mc t = true := List.forall_mem_cons.mpr ⟨⟨zq_ok_of zq_e0, zq_q0⟩, List.forall_mem_cons.mpr ⟨⟨zq_ok_of zq_e1, zq_q1⟩, List.forall_mem_cons.mpr ⟨⟨zq_ok_of zq_e2, zq_q2⟩, List.forall_mem_cons.mpr ⟨⟨zq_ok_of zq_e3, zq_q3⟩, List.forall_mem_cons.mpr ⟨⟨zq_ok_of zq_e4, zq_q4⟩, List.forall_mem_cons.mpr ⟨⟨zq_ok_of zq_e5, zq_q5⟩, List.forall_mem_cons.mpr ⟨⟨zq_ok_of zq_e6, zq_q6⟩, List.forall_mem_cons.mpr ⟨⟨zq_ok_of zq_e7, zq_q7⟩, List.forall_mem_cons.mpr ⟨⟨zq_ok_of zq_e8, zq_q8⟩, List.forall_mem_cons.mpr ⟨⟨zq_ok_of zq_e9, zq_q9⟩, List.forall_mem_cons.mpr ⟨⟨zq_ok_of zq_e10, zq_q10⟩, List.forall_mem_cons.mpr ⟨⟨zq_ok_of zq_e11, zq_q11⟩, List.forall_mem_cons.mpr ⟨⟨zq_ok_of zq_e12, zq_q12⟩, List.forall_mem_cons.mpr ⟨⟨zq_ok_of zq_e13, zq_q13⟩, List.forall_mem_cons.mpr ⟨⟨zq_ok_of zq_e14, zq_q14⟩, List.forall_mem_cons.mpr ⟨⟨zq_ok_of zq_e15, zq_q15⟩, List.forall_mem_cons.mpr ⟨⟨zq_ok_of zq_e16, zq_q16⟩, List.forall_mem_cons.mpr ⟨⟨zq_ok_of zq_e17, zq_q17⟩, List.forall_mem_cons.mpr ⟨⟨zq_ok_of zq_e18, zq_q18⟩, List.forall_mem_cons.mpr ⟨⟨zq_ok_of zq_e19, zq_q19⟩, List.forall_mem_cons.mpr ⟨⟨zq_ok_of zq_e20, zq_q20⟩, List.forall_mem_cons.mpr ⟨⟨zq_ok_of zq_e21, zq_q21⟩, List.forall_mem_cons.mpr ⟨⟨zq_ok_of zq_e22, zq_q22⟩, List.forall_mem_cons.mpr ⟨⟨zq_ok_of zq_e23, zq_q23⟩, List.forall_mem_cons.mpr ⟨⟨zq_ok_of zq_e24, zq_q24⟩, List.forall_mem_cons.mpr ⟨⟨zq_ok_of zq_e25, zq_q25⟩, List.forall_mem_cons.mpr ⟨⟨zq_ok_of zq_e26, zq_q26⟩, List.forall_mem_cons.mpr ⟨⟨zq_ok_of zq_e27, zq_q27⟩, List.forall_mem_cons.mpr ⟨⟨zq_ok_of zq_e28, zq_q28⟩, List.forall_mem_cons.mpr ⟨⟨zq_ok_of zq_e29, zq_q29⟩, List.forall_mem_cons.mpr ⟨⟨zq_ok_of zq_e30, zq_q30⟩, List.forall_mem_cons.mpr ⟨⟨zq_ok_of zq_e31, zq_q31⟩, List.forall_mem_cons.mpr ⟨⟨zq_ok_of zq_e32, zq_q32⟩, List.forall_mem_cons.mpr ⟨⟨zq_ok_of zq_e33, zq_q33⟩, List.forall_mem_cons.mpr ⟨⟨zq_ok_of zq_e34, zq_q34⟩, List.forall_mem_cons.mpr ⟨⟨zq_ok_of zq_e35, zq_q35⟩, List.forall_mem_cons.mpr ⟨⟨zq_ok_of zq_e36, zq_q36⟩, List.forall_mem_cons.mpr ⟨⟨zq_ok_of zq_e37, zq_q37⟩, List.forall_mem_cons.mpr ⟨⟨zq_ok_of zq_e38, zq_q38⟩, List.forall_mem_cons.mpr ⟨⟨zq_ok_of zq_e39, zq_q39⟩, fun _ h => absurd h List.not_mem_nil⟩⟩⟩⟩⟩⟩⟩⟩⟩⟩⟩⟩⟩⟩⟩⟩⟩⟩⟩⟩⟩⟩⟩⟩⟩⟩⟩⟩⟩⟩⟩⟩⟩⟩⟩⟩⟩⟩⟩⟩
theorem zq_ge1 : ∀ t ∈ ([zq_m40, zq_m41, zq_m42, zq_m43, zq_m44, zq_m45, zq_m46, zq_m47, zq_m48, zq_m49, zq_m50, zq_m51, zq_m52, zq_m53, zq_m54, zq_m55, zq_m56, zq_m57, zq_m58, zq_m59, zq_m60, zq_m61, zq_m62, zq_m63, zq_m64, zq_m65, zq_m66, zq_m67, zq_m68, zq_m69, zq_m70, zq_m71, zq_m72, zq_m73, zq_m74, zq_m75, zq_m76, zq_m77, zq_m78, zq_m79] : List zq_T), zq_ok t t.2.2.2.2.1 ∧ zq_mc t = true := List.forall_mem_cons.mpr ⟨⟨zq_ok_of zq_e40, zq_q40⟩, List.forall_mem_cons.mpr ⟨⟨zq_ok_of zq_e41, zq_q41⟩, List.forall_mem_cons.mpr ⟨⟨zq_ok_of zq_e42, zq_q42⟩, List.forall_mem_cons.mpr ⟨⟨zq_ok_of zq_e43, zq_q43⟩, List.forall_mem_cons.mpr ⟨⟨zq_ok_of zq_e44, zq_q44⟩, List.forall_mem_cons.mpr ⟨⟨zq_ok_of zq_e45, zq_q45⟩, List.forall_mem_cons.mpr ⟨⟨zq_ok_of zq_e46, zq_q46⟩, List.forall_mem_cons.mpr ⟨⟨zq_ok_of zq_e47, zq_q47⟩, List.forall_mem_cons.mpr ⟨⟨zq_ok_of zq_e48, zq_q48⟩, List.forall_mem_cons.mpr ⟨⟨zq_ok_of zq_e49, zq_q49⟩, List.forall_mem_cons.mpr ⟨⟨zq_ok_of zq_e50, zq_q50⟩, List.forall_mem_cons.mpr ⟨⟨zq_ok_of zq_e51, zq_q51⟩, List.forall_mem_cons.mpr ⟨⟨zq_ok_of zq_e52, zq_q52⟩, List.forall_mem_cons.mpr ⟨⟨zq_ok_of zq_e53, zq_q53⟩, List.forall_mem_cons.mpr ⟨⟨zq_ok_of zq_e54, zq_q54⟩, List.forall_mem_cons.mpr ⟨⟨zq_ok_of zq_e55, zq_q55⟩, List.forall_mem_cons.mpr ⟨⟨zq_ok_of zq_e56, zq_q56⟩, List.forall_mem_cons.mpr ⟨⟨zq_ok_of zq_e57, zq_q57⟩, List.forall_mem_cons.mpr ⟨⟨zq_ok_of zq_e58, zq_q58⟩, List.forall_mem_cons.mpr ⟨⟨zq_ok_of zq_e59, zq_q59⟩, List.forall_mem_cons.mpr ⟨⟨zq_ok_of zq_e60, zq_q60⟩, List.forall_mem_cons.mpr ⟨⟨zq_ok_of zq_e61, zq_q61⟩, List.forall_mem_cons.mpr ⟨⟨zq_ok_of zq_e62, zq_q62⟩, List.forall_mem_cons.mpr ⟨⟨zq_ok_of zq_e63, zq_q63⟩, List.forall_mem_cons.mpr ⟨⟨zq_ok_of zq_e64, zq_q64⟩, List.forall_mem_cons.mpr ⟨⟨zq_ok_of zq_e65, zq_q65⟩, List.forall_mem_cons.mpr ⟨⟨zq_ok_of zq_e66, zq_q66⟩, List.forall_mem_cons.mpr ⟨⟨zq_ok_of zq_e67, zq_q67⟩, List.forall_mem_cons.mpr ⟨⟨zq_ok_of zq_e68, zq_q68⟩, List.forall_mem_cons.mpr ⟨⟨zq_ok_of zq_e69, zq_q69⟩, List.forall_mem_cons.mpr ⟨⟨zq_ok_of zq_e70, zq_q70⟩, List.forall_mem_cons.mpr ⟨⟨zq_ok_of zq_e71, zq_q71⟩, List.forall_mem_cons.mpr ⟨⟨zq_ok_of zq_e72, zq_q72⟩, List.forall_mem_cons.mpr ⟨⟨zq_ok_of zq_e73, zq_q73⟩, List.forall_mem_cons.mpr ⟨⟨zq_ok_of zq_e74, zq_q74⟩, List.forall_mem_cons.mpr ⟨⟨zq_ok_of zq_e75, zq_q75⟩, List.forall_mem_cons.mpr ⟨⟨zq_ok_of zq_e76, zq_q76⟩, List.forall_mem_cons.mpr ⟨⟨zq_ok_of zq_e77, zq_q77⟩, List.forall_mem_cons.mpr ⟨⟨zq_ok_of zq_e78, zq_q78⟩, List.forall_mem_cons.mpr ⟨⟨zq_ok_of zq_e79, zq_q79⟩, fun _ h => absurd h List.not_mem_nil⟩⟩⟩⟩⟩⟩⟩⟩⟩⟩⟩⟩⟩⟩⟩⟩⟩⟩⟩⟩⟩⟩⟩⟩⟩⟩⟩⟩⟩⟩⟩⟩⟩⟩⟩⟩⟩⟩⟩⟩
theorem zq_ge2 : ∀ t ∈ ([zq_m80, zq_m81, zq_m82, zq_m83, zq_m84, zq_m85, zq_m86, zq_m87, zq_m88, zq_m89, zq_m90, zq_m91, zq_m92, zq_m93, zq_m94, zq_m95, zq_m96, zq_m97, zq_m98, zq_m99, zq_m100, zq_m101, zq_m102, zq_m103, zq_m104, zq_m105, zq_m106, zq_m107, zq_m108, zq_m109, zq_m110, zq_m111, zq_m112, zq_m113, zq_m114, zq_m115, zq_m116, zq_m117, zq_m118, zq_m119] : List zq_T), zq_ok t t.2.2.2.2.1 ∧ zq_mc t = true := List.forall_mem_cons.mpr ⟨⟨zq_ok_of zq_e80, zq_q80⟩, List.forall_mem_cons.mpr ⟨⟨zq_ok_of zq_e81, zq_q81⟩, List.forall_mem_cons.mpr ⟨⟨zq_ok_of zq_e82, zq_q82⟩, List.forall_mem_cons.mpr ⟨⟨zq_ok_of zq_e83, zq_q83⟩, List.forall_mem_cons.mpr ⟨⟨zq_ok_of zq_e84, zq_q84⟩, List.forall_mem_cons.mpr ⟨⟨zq_ok_of zq_e85, zq_q85⟩, List.forall_mem_cons.mpr ⟨⟨zq_ok_of zq_e86, zq_q86⟩, List.forall_mem_cons.mpr ⟨⟨zq_ok_of zq_e87, zq_q87⟩, List.forall_mem_cons.mpr ⟨⟨zq_ok_of zq_e88, zq_q88⟩, List.forall_mem_cons.mpr ⟨⟨zq_ok_of zq_e89, zq_q89⟩, List.forall_mem_cons.mpr ⟨⟨zq_ok_of zq_e90, zq_q90⟩, List.forall_mem_cons.mpr ⟨⟨zq_ok_of zq_e91, zq_q91⟩, List.forall_mem_cons.mpr ⟨⟨zq_ok_of zq_e92, zq_q92⟩, List.forall_mem_cons.mpr ⟨⟨zq_ok_of zq_e93, zq_q93⟩, List.forall_mem_cons.mpr ⟨⟨zq_ok_of zq_e94, zq_q94⟩, List.forall_mem_cons.mpr ⟨⟨zq_ok_of zq_e95, zq_q95⟩, List.forall_mem_cons.mpr ⟨⟨zq_ok_of zq_e96, zq_q96⟩, List.forall_mem_cons.mpr ⟨⟨zq_ok_of zq_e97, zq_q97⟩, List.forall_mem_cons.mpr ⟨⟨zq_ok_of zq_e98, zq_q98⟩, List.forall_mem_cons.mpr ⟨⟨zq_ok_of zq_e99, zq_q99⟩, List.forall_mem_cons.mpr ⟨⟨zq_ok_of zq_e100, zq_q100⟩, List.forall_mem_cons.mpr ⟨⟨zq_ok_of zq_e101, zq_q101⟩, List.forall_mem_cons.mpr ⟨⟨zq_ok_of zq_e102, zq_q102⟩, List.forall_mem_cons.mpr ⟨⟨zq_ok_of zq_e103, zq_q103⟩, List.forall_mem_cons.mpr ⟨⟨zq_ok_of zq_e104, zq_q104⟩, List.forall_mem_cons.mpr ⟨⟨zq_ok_of zq_e105, zq_q105⟩, List.forall_mem_cons.mpr ⟨⟨zq_ok_of zq_e106, zq_q106⟩, List.forall_mem_cons.mpr ⟨⟨zq_ok_of zq_e107, zq_q107⟩, List.forall_mem_cons.mpr ⟨⟨zq_ok_of zq_e108, zq_q108⟩, List.forall_mem_cons.mpr ⟨⟨zq_ok_of zq_e109, zq_q109⟩, List.forall_mem_cons.mpr ⟨⟨zq_ok_of zq_e110, zq_q110⟩, List.forall_mem_cons.mpr ⟨⟨zq_ok_of zq_e111, zq_q111⟩, List.forall_mem_cons.mpr ⟨⟨zq_ok_of zq_e112, zq_q112⟩, List.forall_mem_cons.mpr ⟨⟨zq_ok_of zq_e113, zq_q113⟩, List.forall_mem_cons.mpr ⟨⟨zq_ok_of zq_e114, zq_q114⟩, List.forall_mem_cons.mpr ⟨⟨zq_ok_of zq_e115, zq_q115⟩, List.forall_mem_cons.mpr ⟨⟨zq_ok_of zq_e116, zq_q116⟩, List.forall_mem_cons.mpr ⟨⟨zq_ok_of zq_e117, zq_q117⟩, List.forall_mem_cons.mpr ⟨⟨zq_ok_of zq_e118, zq_q118⟩, List.forall_mem_cons.mpr ⟨⟨zq_ok_of zq_e119, zq_q119⟩, fun _ h => absurd h List.not_mem_nil⟩⟩⟩⟩⟩⟩⟩⟩⟩⟩⟩⟩⟩⟩⟩⟩⟩⟩⟩⟩⟩⟩⟩⟩⟩⟩⟩⟩⟩⟩⟩⟩⟩⟩⟩⟩⟩⟩⟩⟩
theorem zq_ge3 : ∀ t ∈ ([zq_m120, zq_m121, zq_m122, zq_m123, zq_m124, zq_m125, zq_m126, zq_m127, zq_m128, zq_m129, zq_m130, zq_m131, zq_m132, zq_m133, zq_m134, zq_m135, zq_m136, zq_m137, zq_m138, zq_m139, zq_m140, zq_m141, zq_m142, zq_m143, zq_m144, zq_m145, zq_m146, zq_m147, zq_m148, zq_m149, zq_m150, zq_m151, zq_m152, zq_m153, zq_m154, zq_m155, zq_m156, zq_m157, zq_m158, zq_m159] : List zq_T), zq_ok t t.2.2.2.2.1 ∧ zq_mc t = true := List.forall_mem_cons.mpr ⟨⟨zq_ok_of zq_e120, zq_q120⟩, List.forall_mem_cons.mpr ⟨⟨zq_ok_of zq_e121, zq_q121⟩, List.forall_mem_cons.mpr ⟨⟨zq_ok_of zq_e122, zq_q122⟩, List.forall_mem_cons.mpr ⟨⟨zq_ok_of zq_e123, zq_q123⟩, List.forall_mem_cons.mpr ⟨⟨zq_ok_of zq_e124, zq_q124⟩, List.forall_mem_cons.mpr ⟨⟨zq_ok_of zq_e125, zq_q125⟩, List.forall_mem_cons.mpr ⟨⟨zq_ok_of zq_e126, zq_q126⟩, List.forall_mem_cons.mpr ⟨⟨zq_ok_of zq_e127, zq_q127⟩, List.forall_mem_cons.mpr ⟨⟨zq_ok_of zq_e128, zq_q128⟩, List.forall_mem_cons.mpr ⟨⟨zq_ok_of zq_e129, zq_q129⟩, List.forall_mem_cons.mpr ⟨⟨zq_ok_of zq_e130, zq_q130⟩, List.forall_mem_cons.mpr ⟨⟨zq_ok_of zq_e131, zq_q131⟩, List.forall_mem_cons.mpr ⟨⟨zq_ok_of zq_e132, zq_q132⟩, List.forall_mem_cons.mpr ⟨⟨zq_ok_of zq_e133, zq_q133⟩, List.forall_mem_cons.mpr ⟨⟨zq_ok_of zq_e134, zq_q134⟩, List.forall_mem_cons.mpr ⟨⟨zq_ok_of zq_e135, zq_q135⟩, List.forall_mem_cons.mpr ⟨⟨zq_ok_of zq_e136, zq_q136⟩, List.forall_mem_cons.mpr ⟨⟨zq_ok_of zq_e137, zq_q137⟩, List.forall_mem_cons.mpr ⟨⟨zq_ok_of zq_e138, zq_q138⟩, List.forall_mem_cons.mpr ⟨⟨zq_ok_of zq_e139, zq_q139⟩, List.forall_mem_cons.mpr ⟨⟨zq_ok_of zq_e140, zq_q140⟩, List.forall_mem_cons.mpr ⟨⟨zq_ok_of zq_e141, zq_q141⟩, List.forall_mem_cons.mpr ⟨⟨zq_ok_of zq_e142, zq_q142⟩, List.forall_mem_cons.mpr ⟨⟨zq_ok_of zq_e143, zq_q143⟩, List.forall_mem_cons.mpr ⟨⟨zq_ok_of zq_e144, zq_q144⟩, List.forall_mem_cons.mpr ⟨⟨zq_ok_of zq_e145, zq_q145⟩, List.forall_mem_cons.mpr ⟨⟨zq_ok_of zq_e146, zq_q146⟩, List.forall_mem_cons.mpr ⟨⟨zq_ok_of zq_e147, zq_q147⟩, List.forall_mem_cons.mpr ⟨⟨zq_ok_of zq_e148, zq_q148⟩, List.forall_mem_cons.mpr ⟨⟨zq_ok_of zq_e149, zq_q149⟩, List.forall_mem_cons.mpr ⟨⟨zq_ok_of zq_e150, zq_q150⟩, List.forall_mem_cons.mpr ⟨⟨zq_ok_of zq_e151, zq_q151⟩, List.forall_mem_cons.mpr ⟨⟨zq_ok_of zq_e152, zq_q152⟩, List.forall_mem_cons.mpr ⟨⟨zq_ok_of zq_e153, zq_q153⟩, List.forall_mem_cons.mpr ⟨⟨zq_ok_of zq_e154, zq_q154⟩, List.forall_mem_cons.mpr ⟨⟨zq_ok_of zq_e155, zq_q155⟩, List.forall_mem_cons.mpr ⟨⟨zq_ok_of zq_e156, zq_q156⟩, List.forall_mem_cons.mpr ⟨⟨zq_ok_of zq_e157, zq_q157⟩, List.forall_mem_cons.mpr ⟨⟨zq_ok_of zq_e158, zq_q158⟩, List.forall_mem_cons.mpr ⟨⟨zq_ok_of zq_e159, zq_q159⟩, fun _ h => absurd h List.not_mem_nil⟩⟩⟩⟩⟩⟩⟩⟩⟩⟩⟩⟩⟩⟩⟩⟩⟩⟩⟩⟩⟩⟩⟩⟩⟩⟩⟩⟩⟩⟩⟩⟩⟩⟩⟩⟩⟩⟩⟩⟩
theorem zq_ge4 : ∀ t ∈ ([zq_m160, zq_m161, zq_m162, zq_m163, zq_m164, zq_m165, zq_m166, zq_m167, zq_m168, zq_m169, zq_m170, zq_m171, zq_m172, zq_m173, zq_m174, zq_m175, zq_m176, zq_m177, zq_m178, zq_m179, zq_m180, zq_m181, zq_m182, zq_m183, zq_m184, zq_m185, zq_m186, zq_m187, zq_m188, zq_m189, zq_m190, zq_m191, zq_m192, zq_m193, zq_m194, zq_m195, zq_m196, zq_m197, zq_m198, zq_m199] : List zq_T), zq_ok t t.2.2.2.2.1 ∧ zq_mc t = true := List.forall_mem_cons.mpr ⟨⟨zq_ok_of zq_e160, zq_q160⟩, List.forall_mem_cons.mpr ⟨⟨zq_ok_of zq_e161, zq_q161⟩, List.forall_mem_cons.mpr ⟨⟨zq_ok_of zq_e162, zq_q162⟩, List.forall_mem_cons.mpr ⟨⟨zq_ok_of zq_e163, zq_q163⟩, List.forall_mem_cons.mpr ⟨⟨zq_ok_of zq_e164, zq_q164⟩, List.forall_mem_cons.mpr ⟨⟨zq_ok_of zq_e165, zq_q165⟩, List.forall_mem_cons.mpr ⟨⟨zq_ok_of zq_e166, zq_q166⟩, List.forall_mem_cons.mpr ⟨⟨zq_ok_of zq_e167, zq_q167⟩, List.forall_mem_cons.mpr ⟨⟨zq_ok_of zq_e168, zq_q168⟩, List.forall_mem_cons.mpr ⟨⟨zq_ok_of zq_e169, zq_q169⟩, List.forall_mem_cons.mpr ⟨⟨zq_ok_of zq_e170, zq_q170⟩, List.forall_mem_cons.mpr ⟨⟨zq_ok_of zq_e171, zq_q171⟩, List.forall_mem_cons.mpr ⟨⟨zq_ok_of zq_e172, zq_q172⟩, List.forall_mem_cons.mpr ⟨⟨zq_ok_of zq_e173, zq_q173⟩, List.forall_mem_cons.mpr ⟨⟨zq_ok_of zq_e174, zq_q174⟩, List.forall_mem_cons.mpr ⟨⟨zq_ok_of zq_e175, zq_q175⟩, List.forall_mem_cons.mpr ⟨⟨zq_ok_of zq_e176, zq_q176⟩, List.forall_mem_cons.mpr ⟨⟨zq_ok_of zq_e177, zq_q177⟩, List.forall_mem_cons.mpr ⟨⟨zq_ok_of zq_e178, zq_q178⟩, List.forall_mem_cons.mpr ⟨⟨zq_ok_of zq_e179, zq_q179⟩, List.forall_mem_cons.mpr ⟨⟨zq_ok_of zq_e180, zq_q180⟩, List.forall_mem_cons.mpr ⟨⟨zq_ok_of zq_e181, zq_q181⟩, List.forall_mem_cons.mpr ⟨⟨zq_ok_of zq_e182, zq_q182⟩, List.forall_mem_cons.mpr ⟨⟨zq_ok_of zq_e183, zq_q183⟩, List.forall_mem_cons.mpr ⟨⟨zq_ok_of zq_e184, zq_q184⟩, List.forall_mem_cons.mpr ⟨⟨zq_ok_of zq_e185, zq_q185⟩, List.forall_mem_cons.mpr ⟨⟨zq_ok_of zq_e186, zq_q186⟩, List.forall_mem_cons.mpr ⟨⟨zq_ok_of zq_e187, zq_q187⟩, List.forall_mem_cons.mpr ⟨⟨zq_ok_of zq_e188, zq_q188⟩, List.forall_mem_cons.mpr ⟨⟨zq_ok_of zq_e189, zq_q189⟩, List.forall_mem_cons.mpr ⟨⟨zq_ok_of zq_e190, zq_q190⟩, List.forall_mem_cons.mpr ⟨⟨zq_ok_of zq_e191, zq_q191⟩, List.forall_mem_cons.mpr ⟨⟨zq_ok_of zq_e192, zq_q192⟩, List.forall_mem_cons.mpr ⟨⟨zq_ok_of zq_e193, zq_q193⟩, List.forall_mem_cons.mpr ⟨⟨zq_ok_of zq_e194, zq_q194⟩, List.forall_mem_cons.mpr ⟨⟨zq_ok_of zq_e195, zq_q195⟩, List.forall_mem_cons.mpr ⟨⟨zq_ok_of zq_e196, zq_q196⟩, List.forall_mem_cons.mpr ⟨⟨zq_ok_of zq_e197, zq_q197⟩, List.forall_mem_cons.mpr ⟨⟨zq_ok_of zq_e198, zq_q198⟩, List.forall_mem_cons.mpr ⟨⟨zq_ok_of zq_e199, zq_q199⟩, fun _ h => absurd h List.not_mem_nil⟩⟩⟩⟩⟩⟩⟩⟩⟩⟩⟩⟩⟩⟩⟩⟩⟩⟩⟩⟩⟩⟩⟩⟩⟩⟩⟩⟩⟩⟩⟩⟩⟩⟩⟩⟩⟩⟩⟩⟩
theorem zq_ge5 : ∀ t ∈ ([zq_m200, zq_m201, zq_m202, zq_m203, zq_m204, zq_m205, zq_m206, zq_m207, zq_m208, zq_m209, zq_m210, zq_m211, zq_m212, zq_m213, zq_m214, zq_m215, zq_m216, zq_m217, zq_m218, zq_m219, zq_m220, zq_m221, zq_m222, zq_m223, zq_m224, zq_m225, zq_m226, zq_m227, zq_m228, zq_m229] : List zq_T), zq_ok t t.2.2.2.2.1 ∧ zq_mc t = true := List.forall_mem_cons.mpr ⟨⟨zq_ok_of zq_e200, zq_q200⟩, List.forall_mem_cons.mpr ⟨⟨zq_ok_of zq_e201, zq_q201⟩, List.forall_mem_cons.mpr ⟨⟨zq_ok_of zq_e202, zq_q202⟩, List.forall_mem_cons.mpr ⟨⟨zq_ok_of zq_e203, zq_q203⟩, List.forall_mem_cons.mpr ⟨⟨zq_ok_of zq_e204, zq_q204⟩, List.forall_mem_cons.mpr ⟨⟨zq_ok_of zq_e205, zq_q205⟩, List.forall_mem_cons.mpr ⟨⟨zq_ok_of zq_e206, zq_q206⟩, List.forall_mem_cons.mpr ⟨⟨zq_ok_of zq_e207, zq_q207⟩, List.forall_mem_cons.mpr ⟨⟨zq_ok_of zq_e208, zq_q208⟩, List.forall_mem_cons.mpr ⟨⟨zq_ok_of zq_e209, zq_q209⟩, List.forall_mem_cons.mpr ⟨⟨zq_ok_of zq_e210, zq_q210⟩, List.forall_mem_cons.mpr ⟨⟨zq_ok_of zq_e211, zq_q211⟩, List.forall_mem_cons.mpr ⟨⟨zq_ok_of zq_e212, zq_q212⟩, List.forall_mem_cons.mpr ⟨⟨zq_ok_of zq_e213, zq_q213⟩, List.forall_mem_cons.mpr ⟨⟨zq_ok_of zq_e214, zq_q214⟩, List.forall_mem_cons.mpr ⟨⟨zq_ok_of zq_e215, zq_q215⟩, List.forall_mem_cons.mpr ⟨⟨zq_ok_of zq_e216, zq_q216⟩, List.forall_mem_cons.mpr ⟨⟨zq_ok_of zq_e217, zq_q217⟩, List.forall_mem_cons.mpr ⟨⟨zq_ok_of zq_e218, zq_q218⟩, List.forall_mem_cons.mpr ⟨⟨zq_ok_of zq_e219, zq_q219⟩, List.forall_mem_cons.mpr ⟨⟨zq_ok_of zq_e220, zq_q220⟩, List.forall_mem_cons.mpr ⟨⟨zq_ok_of zq_e221, zq_q221⟩, List.forall_mem_cons.mpr ⟨⟨zq_ok_of zq_e222, zq_q222⟩, List.forall_mem_cons.mpr ⟨⟨zq_ok_of zq_e223, zq_q223⟩, List.forall_mem_cons.mpr ⟨⟨zq_ok_of zq_e224, zq_q224⟩, List.forall_mem_cons.mpr ⟨⟨zq_ok_of zq_e225, zq_q225⟩, List.forall_mem_cons.mpr ⟨⟨zq_ok_of zq_e226, zq_q226⟩, List.forall_mem_cons.mpr ⟨⟨zq_ok_of zq_e227, zq_q227⟩, List.forall_mem_cons.mpr ⟨⟨zq_ok_of zq_e228, zq_q228⟩, List.forall_mem_cons.mpr ⟨⟨zq_ok_of zq_e229, zq_q229⟩, fun _ h => absurd h List.not_mem_nil⟩⟩⟩⟩⟩⟩⟩⟩⟩⟩⟩⟩⟩⟩⟩⟩⟩⟩⟩⟩⟩⟩⟩⟩⟩⟩⟩⟩⟩⟩
theorem zq_gall : ∀ t ∈ zq_mta, zq_ok t t.2.2.2.2.1 ∧ zq_mc t = true := by
  show ∀ t ∈ ([zq_m0, zq_m1, zq_m2, zq_m3, zq_m4, zq_m5, zq_m6, zq_m7, zq_m8, zq_m9, zq_m10, zq_m11, zq_m12, zq_m13, zq_m14, zq_m15, zq_m16, zq_m17, zq_m18, zq_m19, zq_m20, zq_m21, zq_m22, zq_m23, zq_m24, zq_m25, zq_m26, zq_m27, zq_m28, zq_m29, zq_m30, zq_m31, zq_m32, zq_m33, zq_m34, zq_m35, zq_m36, zq_m37, zq_m38, zq_m39] : List zq_T) ++ (([zq_m40, zq_m41, zq_m42, zq_m43, zq_m44, zq_m45, zq_m46, zq_m47, zq_m48, zq_m49, zq_m50, zq_m51, zq_m52, zq_m53, zq_m54, zq_m55, zq_m56, zq_m57, zq_m58, zq_m59, zq_m60, zq_m61, zq_m62, zq_m63, zq_m64, zq_m65, zq_m66, zq_m67, zq_m68, zq_m69, zq_m70, zq_m71, zq_m72, zq_m73, zq_m74, zq_m75, zq_m76, zq_m77, zq_m78, zq_m79] : List zq_T) ++ (([zq_m80, zq_m81, zq_m82, zq_m83, zq_m84, zq_m85, zq_m86, zq_m87, zq_m88, zq_m89, zq_m90, zq_m91, zq_m92, zq_m93, zq_m94, zq_m95, zq_m96, zq_m97, zq_m98, zq_m99, zq_m100, zq_m101, zq_m102, zq_m103, zq_m104, zq_m105, zq_m106, zq_m107, zq_m108, zq_m109, zq_m110, zq_m111, zq_m112, zq_m113, zq_m114, zq_m115, zq_m116, zq_m117, zq_m118, zq_m119] : List zq_T) ++ (([zq_m120, zq_m121, zq_m122, zq_m123, zq_m124, zq_m125, zq_m126, zq_m127, zq_m128, zq_m129, zq_m130, zq_m131, zq_m132, zq_m133, zq_m134, zq_m135, zq_m136, zq_m137, zq_m138, zq_m139, zq_m140, zq_m141, zq_m142, zq_m143, zq_m144, zq_m145, zq_m146, zq_m147, zq_m148, zq_m149, zq_m150, zq_m151, zq_m152, zq_m153, zq_m154, zq_m155, zq_m156, zq_m157, zq_m158, zq_m159] : List zq_T) ++ (([zq_m160, zq_m161, zq_m162, zq_m163, zq_m164, zq_m165, zq_m166, zq_m167, zq_m168, zq_m169, zq_m170, zq_m171, zq_m172, zq_m173, zq_m174, zq_m175, zq_m176, zq_m177, zq_m178, zq_m179, zq_m180, zq_m181, zq_m182, zq_m183, zq_m184, zq_m185, zq_m186, zq_m187, zq_m188, zq_m189, zq_m190, zq_m191, zq_m192, zq_m193, zq_m194, zq_m195, zq_m196, zq_m197, zq_m198, zq_m199] : List zq_T) ++ (([zq_m200, zq_m201, zq_m202, zq_m203, zq_m204, zq_m205, zq_m206, zq_m207, zq_m208, zq_m209, zq_m210, zq_m211, zq_m212, zq_m213, zq_m214, zq_m215, zq_m216, zq_m217, zq_m218, zq_m219, zq_m220, zq_m221, zq_m222, zq_m223, zq_m224, zq_m225, zq_m226, zq_m227, zq_m228, zq_m229] : List zq_T)))))), _
  exact List.forall_mem_append.mpr ⟨zq_ge0, List.forall_mem_append.mpr ⟨zq_ge1, List.forall_mem_append.mpr ⟨zq_ge2, List.forall_mem_append.mpr ⟨zq_ge3, List.forall_mem_append.mpr ⟨zq_ge4, zq_ge5⟩⟩⟩⟩⟩
theorem zq_mta_len : zq_mta.length = 230 := by decide +kernel
theorem zq_eall : ∀ (k : Nat) (t : zq_T), zq_mt[k]? = some t → zq_ok t t.2.2.2.2.1 := by
  intro k t h
  rcases List.mem_append.mp (List.mem_of_getElem? h) with h | h
  · exact (zq_gall t h).1
  · rw [List.mem_singleton.mp h]
    exact zq_ok_of (by rw [show zq_m230.2.2.2.2.1 = zq_c230 from rfl, zq_ela, zq_elc]; rfl)
theorem zq_mall : ∀ (k : Nat) (u : zq_T), zq_mt[k]? = some u → k < 230 → zq_mc u = true := by
  intro k u h hk
  unfold zq_mt at h
  rw [List.getElem?_append_left (by rw [zq_mta_len]; exact hk)] at h
  exact (zq_gall u (List.mem_of_getElem? h)).2
end
section
/-! THE WALK AS A FUNCTION. A method's instructions are a list; zq_st does one of them on abstract locals, stack and memory and says what is left to show; zq_ok (below) says that the machine does the same. -/
abbrev zq_G : Type := Launch × va_G × ClassId × ClassId × (Nat → Nat) × Nat × Nat × (Nat → Int32) × (Nat → Nat)
abbrev zq_l (g : zq_G) : Launch := g.1
abbrev zq_D (g : zq_G) : va_G := g.2.1
abbrev zq_cI (g : zq_G) : ClassId := g.2.2.1
abbrev zq_cZ (g : zq_G) : ClassId := g.2.2.2.1
abbrev zq_ad (g : zq_G) : Nat → Nat := g.2.2.2.2.1
abbrev zq_B (g : zq_G) : Nat := g.2.2.2.2.2.1
abbrev zq_L (g : zq_G) : Nat := g.2.2.2.2.2.2.1
abbrev zq_xs (g : zq_G) : Nat → Int32 := g.2.2.2.2.2.2.2.1
abbrev zq_av (g : zq_G) : Nat → Nat := g.2.2.2.2.2.2.2.2
abbrev zq_ty (g : zq_G) : List (ClassId × FieldType) := [(zq_cI g, .int), (zq_cZ g, .boolean)]
abbrev zq_F (g : zq_G) : Nat → Prop := fun q => zq_B g ≤ q
/-- an abstract value is the value, but a reference is the number of a cell -/
def zq_c (g : zq_G) : Value → Value
  | .ref k => .ref (zq_ad g k)
  | v => v
def zq_ce (g : zq_G) : zq_E → va_E
  | .inl a => .inl (bif a.1 then zq_cZ g else zq_cI g, a.2.1, .inl a.2.2)
  | .inr o => .inr (o.1, o.2.map (zq_c g))
def zq_w (g : zq_G) : Nat → List zq_E → va_W
  | _, [] => []
  | i, e :: h => (zq_ad g i, zq_ce g e) :: zq_w g (i + 1) h
theorem zq_w_get (g : zq_G) : ∀ (h : List zq_E) (i k : Nat), (zq_w g i h)[k]? = (h[k]?).map (fun e => (zq_ad g (i + k), zq_ce g e))
  | [], i, k => by simp [zq_w]
  | e :: h, i, 0 => by simp [zq_w]
  | e :: h, i, k + 1 => by
    rw [zq_w, List.getElem?_cons_succ, List.getElem?_cons_succ, zq_w_get g h (i + 1) k, show i + 1 + k = i + (k + 1) by omega]
theorem zq_w_at {g : zq_G} {h : List zq_E} {k : Nat} {e : zq_E} (hk : h[k]? = some e) : (zq_w g 0 h)[k]? = some (zq_ad g k, zq_ce g e) := by
  rw [zq_w_get, hk, Option.map_some, Nat.zero_add]
theorem zq_w_set (g : zq_G) (e : zq_E) : ∀ (h : List zq_E) (i k : Nat), (zq_w g i h).set k (zq_ad g (i + k), zq_ce g e) = zq_w g i (h.set k e)
  | [], i, k => by simp [zq_w]
  | e' :: h, i, 0 => by simp [zq_w]
  | e' :: h, i, k + 1 => by
    rw [zq_w, List.set_cons_succ, List.set_cons_succ, zq_w, ← zq_w_set g e h (i + 1) k, show i + 1 + k = i + (k + 1) by omega]
theorem zq_w_app (g : zq_G) (e : zq_E) : ∀ (h : List zq_E) (i : Nat), zq_w g i (h ++ [e]) = zq_w g i h ++ [(zq_ad g (i + h.length), zq_ce g e)]
  | [], i => by simp [zq_w]
  | e' :: h, i => by
    rw [List.cons_append, zq_w, zq_w_app g e h (i + 1), zq_w, List.cons_append, List.length_cons, show i + 1 + h.length = i + (h.length + 1) by omega]
theorem zq_wD {g : zq_G} {h : List zq_E} (ha : ∀ k, k < 1000 → zq_ad g k = zq_B g + k) (hl : h.length ≤ 999) : va_D (zq_F g) (zq_w g 0 h) := by
  have key : ∀ (i : Nat) (p : Nat × va_E), (zq_w g 0 h)[i]? = some p → i < h.length ∧ p.1 = zq_B g + i := by
    intro i p hp
    rw [zq_w_get] at hp
    cases hi : h[i]? with
    | none => rw [hi] at hp; cases hp
    | some e =>
      rw [hi] at hp
      have hlt : i < h.length := (List.getElem?_eq_some_iff.mp hi).1
      cases hp
      exact ⟨hlt, by show zq_ad g (0 + i) = _; rw [Nat.zero_add, ha i (by omega)]⟩
  refine ⟨fun i j p q hi hj e => ?_, fun k q hk => ?_⟩
  · have h1 := (key i p hi).2
    have h2 := (key j q hj).2
    omega
  · have h1 := (key k q hk).2
    show zq_B g ≤ q.1
    omega
/-! locals -/
def zq_lv (g : zq_G) : Nat → List Value → List (Nat × Value)
  | _, [] => []
  | i, v :: r => if v = .null then zq_lv g (i + 1) r else (i, zq_c g v) :: zq_lv g (i + 1) r
theorem zq_lv_mem (g : zq_G) : ∀ (ls : List Value) (i : Nat) (q : Nat × Value), q ∈ zq_lv g i ls ↔ ∃ (j : Nat) (v : Value), ls[j]? = some v ∧ v ≠ .null ∧ q = (i + j, zq_c g v)
  | [], i, q => by simp [zq_lv]
  | w :: r, i, q => by
    rw [zq_lv]
    by_cases hw : w = .null
    · rw [if_pos hw, zq_lv_mem g r (i + 1) q]
      constructor
      · rintro ⟨j, v, h1, h2, h3⟩
        exact ⟨j + 1, v, by simpa using h1, h2, by rw [h3, show i + 1 + j = i + (j + 1) by omega]⟩
      · rintro ⟨j, v, h1, h2, h3⟩
        cases j with
        | zero => simp at h1; exact absurd (h1.symm.trans hw) h2
        | succ j => exact ⟨j, v, by simpa using h1, h2, by rw [h3, show i + 1 + j = i + (j + 1) by omega]⟩
    · rw [if_neg hw, List.mem_cons, zq_lv_mem g r (i + 1) q]
      constructor
      · rintro (h | ⟨j, v, h1, h2, h3⟩)
        · exact ⟨0, w, rfl, hw, h⟩
        · exact ⟨j + 1, v, by simpa using h1, h2, by rw [h3, show i + 1 + j = i + (j + 1) by omega]⟩
      · rintro ⟨j, v, h1, h2, h3⟩
        cases j with
        | zero => simp at h1; left; rw [h3, ← h1]; rfl
        | succ j => exact Or.inr ⟨j, v, by simpa using h1, h2, by rw [h3, show i + 1 + j = i + (j + 1) by omega]⟩
def zq_at : List Value → Nat → Value
  | [], _ => .null
  | v :: _, 0 => v
  | _ :: r, n + 1 => zq_at r n
def zq_se : List Value → Nat → Value → List Value
  | [], _, _ => []
  | _ :: r, 0, v => v :: r
  | w :: r, n + 1, v => w :: zq_se r n v
/-- a store takes away the long that reaches into the place -/
def zq_kl (ls : List Value) : Nat → List Value
  | 0 => ls
  | j + 1 => match zq_at ls j with
    | .long _ => zq_se ls j .null
    | .double _ => zq_se ls j .null
    | _ => ls
theorem zq_at_get : ∀ (ls : List Value) (i : Nat) (v : Value), zq_at ls i = v → v ≠ .null → ls[i]? = some v
  | [], i, v, h, hv => absurd h.symm hv
  | w :: r, 0, v, h, hv => by simpa [zq_at] using h
  | w :: r, i + 1, v, h, hv => by simpa using zq_at_get r i v h hv
theorem zq_se_get : ∀ (ls : List Value) (i : Nat) (v : Value) (j : Nat), (zq_se ls i v)[j]? = if j = i then (if i < ls.length then some v else none) else ls[j]?
  | [], i, v, j => by simp [zq_se]
  | w :: r, 0, v, 0 => by simp [zq_se]
  | w :: r, 0, v, j + 1 => by simp [zq_se]
  | w :: r, i + 1, v, 0 => by simp [zq_se]
  | w :: r, i + 1, v, j + 1 => by
    simp only [zq_se, List.getElem?_cons_succ, zq_se_get r i v j, List.length_cons]
    by_cases h : j = i
    · subst h; simp
    · rw [if_neg h, if_neg (by omega)]
theorem zq_kl_get (ls : List Value) (i j : Nat) (v : Value) (h : (zq_kl ls i)[j]? = some v) (hv : v ≠ .null) : ls[j]? = some v ∧ ¬ (j + 1 = i ∧ v.category = 2) := by
  cases i with
  | zero => exact ⟨h, by omega⟩
  | succ i =>
    have plain : ls[j]? = some v → (∀ w, zq_at ls i = w → w.category = 1) → ls[j]? = some v ∧ ¬ (j + 1 = i + 1 ∧ v.category = 2) := by
      intro h1 h2
      refine ⟨h1, fun ⟨e, hc⟩ => ?_⟩
      have e : j = i := by omega
      subst e
      have : zq_at ls j = v := by
        have : ∀ (l : List Value) (n : Nat), l[n]? = some v → zq_at l n = v := by
          intro l
          induction l with
          | nil => intro n h; simp at h
          | cons a l ih => intro n h; cases n with
            | zero => simpa [zq_at] using h
            | succ n => exact ih n (by simpa using h)
        exact this ls j h1
      have h3 := h2 v this
      omega
    have killed : (zq_se ls i .null)[j]? = some v → ls[j]? = some v ∧ ¬ (j + 1 = i + 1 ∧ v.category = 2) := by
      intro h1
      rw [zq_se_get] at h1
      by_cases e : j = i
      · rw [if_pos e] at h1
        split at h1
        · cases h1; exact absurd rfl hv
        · cases h1
      · rw [if_neg e] at h1
        exact ⟨h1, by omega⟩
    have h : (match zq_at ls i with
      | .long _ => zq_se ls i .null
      | .double _ => zq_se ls i .null
      | _ => ls)[j]? = some v := h
    split at h
    · exact killed h
    · exact killed h
    · next h1 h2 => 
      refine plain h (fun w hw => ?_)
      cases w with
      | long v => exact absurd hw (h1 v)
      | double v => exact absurd hw (h2 v)
      | _ => rfl
/-- arguments as locals -/
def zq_fl : List Value → List Value
  | [] => []
  | .long v :: r => .long v :: .null :: zq_fl r
  | .double v :: r => .double v :: .null :: zq_fl r
  | v :: r => v :: zq_fl r
def zq_pd : Nat → List Value → List Value
  | 0, l => l
  | n + 1, [] => .null :: zq_pd n []
  | n + 1, v :: r => v :: zq_pd n r
def zq_mk : List Bool → List Value → List Value
  | true :: b, v :: l => v :: zq_mk b l
  | false :: b, _ :: l => .null :: zq_mk b l
  | _, _ => []
/-! abstract stacks: n arguments, the rest -/
def zq_sp : Nat → List Value → List Value → Option (List Value × List Value)
  | 0, acc, st => some (acc, st)
  | n + 1, acc, v :: st => zq_sp n (v :: acc) st
  | _ + 1, _, [] => none
def zq_cat (st : List Value) : Nat := (st.map fun v => v.category).sum
/-! what is read only: 1000 the script, 1001 .. the static rows, 2000 .. the texts -/
def zq_rl (g : zq_G) : Nat → Nat
  | 0 => zq_L g
  | j + 1 => (zq_sv.getD j []).length
def zq_rf (g : zq_G) : Nat → Nat → Int32
  | 0 => zq_xs g
  | j + 1 => fun i => (zq_sv.getD j []).getD i 0
def zq_ro (g : zq_G) (U : State) (H : Heap) : Prop :=
  (∀ j, j < 6 → va_X (zq_ad g (1000 + j)) (zq_rl g j) (zq_rf g j) U H ∧ zq_ad g (1000 + j) < zq_B g) ∧
  (∀ j, j < 5 → va_Z "WalkingStones" (zq_sn.getD j "") "[I" (.ref (zq_ad g (1001 + j))) (zq_F g) U H) ∧
  (∀ q ∈ zq_nm, va_Nw (.methodLinkNest q.1 q.2.1 q.2.2.1 q.2.2.2) U) ∧
  (∀ q ∈ zq_nf, va_Nw (.fieldLinkNest q.1 q.2.1 q.2.2.1 q.2.2.2.1 q.2.2.2.2.1 q.2.2.2.2.2) U) ∧
  vk_S 12 zq_sl zq_sb (fun i => zq_ad g (2000 + i)) (zq_av g) (zq_F g) U H ∧
  (∀ i q, zq_ss[i]? = some q → vk_R q.1 q.2.1 q.2.2 (zq_ad g (2000 + i)) U) ∧
  va_Z "java/lang/String" "COMPACT_STRINGS" "Z" (.int 1) (zq_F g) U H ∧
  va_Zq "jdk/internal/util/Preconditions" "SIOOBE_FORMATTER" "Ljava/util/function/BiFunction;" (zq_F g) U H
theorem zq_ro.go {g : zq_G} {s U : State} {H : Heap} (h : zq_ro g s s.heap) (hB : zq_B g ≤ s.heap.size) (hW : s.WarmedH U.vm) (hH : ∀ q : Nat, q < s.heap.size → ¬ zq_F g q → H[q]? = s.heap[q]?) : zq_ro g U H := by
  obtain ⟨h1, h2, h3, h4, h5, h6, h7, h8⟩ := h
  refine ⟨fun j hj => ⟨((h1 j hj).1.kept (hH _ ?_ ?_)).moved hW.alike, (h1 j hj).2⟩, fun j hj => ((h2 j hj).kept hH).moved hW.alike, fun q hq => (h3 q hq).warmM hW, fun q hq => (h4 q hq).warmF hW, (h5.kept hH).moved hW.alike, fun i q hq => (h6 i q hq).warm hW, (h7.kept hH).moved hW.alike, (h8.kept hH).moved hW.alike⟩
  · have := (h1 j hj).2
    omega
  · have := (h1 j hj).2
    show ¬ zq_B g ≤ _
    omega
/-! judgements -/
def zq_wd (g : zq_G) (s : State) (cs : Nat × Nat) (h : List zq_E) (H : Heap) (locs : List Loc) : Prop :=
  h.length ≤ 999 ∧ s.heap.size + cs.1 ≤ zq_B g + h.length ∧ va_P (zq_D g) vwCl (zq_w g 0 h) H ∧ va_S (zq_F g) s.heap H locs
def zq_act (g : zq_G) (t : zq_T) (d : Nat) (p : Program) (R : Room) (s : State) (m : MethodId) (args : Array Value) (meth : Method) (c : Code) : Prop :=
  (d ≤ R.frames ∧ 64 * d ≤ R.locals ∧ t.2.2.2.2.2.1.1 ≤ R.cells ∧ t.2.2.2.2.2.1.2 ≤ R.slots) ∧ p.tables.exec = Jvm.exec ∧ c.code = t.2.1 ∧ meth.sig.returnType = t.2.2.2.1 ∧ c.maxLocals = t.2.2.1 ∧ s.vm.findClass t.1.cls = some m.cls ∧ (∀ w ∈ zq_tb, w.before args s = true) ∧ meth.locks = false ∧ (t.1.name = "<init>" → meth.name = "<init>") ∧ va_K (zq_D g) vwCl (zq_ty g) s ∧ zq_ro g s s.heap ∧ zq_B g ≤ s.heap.size ∧ ∀ k, k < 1000 → zq_ad g k = zq_B g + k
/-- an instruction that ends the method with this answer -/
def zq_rk (t : zq_T) (r : Option Value) (pc : Nat) : Prop := match r with
  | none => decode t.2.1 pc = .ok (.return_, 1) ∧ t.2.2.2.1 = none
  | some (.int v) => decode t.2.1 pc = .ok (.ireturn, 1) ∧ ∃ ty, t.2.2.2.1 = some ty ∧ narrow ty (.int v) = .int v
  | some (.long _) => decode t.2.1 pc = .ok (.lreturn, 1) ∧ t.2.2.2.1 = some .long
  | _ => False
def zq_rt (g : zq_G) (t : zq_T) (p : Program) (e : Env) (R : Room) (s : State) (m : MethodId) (args : Array Value) (below : List Frame) (meth : Method) (c : Code) (Q : Option Value → List zq_E → Prop) (Z : State → Prop) : Prop :=
  ∀ (r : Option Value) (h : List zq_E) (H : Heap) (locs : List Loc) (la : Array Slot) (pc : Nat) (cs : Nat × Nat), Q r h → zq_rk t r pc → zq_wd g s cs h H locs → cs.1 = t.2.2.2.2.2.1.1 → cs.2 ≤ t.2.2.2.2.2.1.2 →
    W p (zq_l g) e R s m args below meth c H locs cs.1 cs.2 Z (F0 m pc la ((r.map (zq_c g)).toList))
/-- method k, at depth d, at pc: it goes on and ends with an answer and cells that Q has -/
def zq_g (g : zq_G) (d k pc : Nat) (ls st : List Value) (cs : Nat × Nat) (h : List zq_E) (Q : Option Value → List zq_E → Prop) : Prop :=
  ∀ t, zq_mt[k]? = some t → ∀ (p : Program) (e : Env) (R : Room) (s : State) (m : MethodId) (args : Array Value) (below : List Frame) (meth : Method) (c : Code) (Z : State → Prop), zq_act g t d p R s m args meth c → zq_rt g t p e R s m args below meth c Q Z →
    ∀ (H : Heap) (locs : List Loc) (la : Array Slot), zq_wd g s cs h H locs → lv_has la t.2.2.1 (zq_lv g 0 ls) → W p (zq_l g) e R s m args below meth c H locs cs.1 cs.2 Z (F0 m pc la (st.map (zq_c g)))
theorem zq_g.mono {g : zq_G} {d k pc : Nat} {ls st : List Value} {cs : Nat × Nat} {h : List zq_E} {Q Q' : Option Value → List zq_E → Prop} (hq : ∀ r h, Q r h → Q' r h) (hg : zq_g g d k pc ls st cs h Q) : zq_g g d k pc ls st cs h Q' :=
  fun t ht p e R s m args below meth c Z ha hr => hg t ht p e R s m args below meth c Z ha (fun r h H locs la pc cs h1 h2 h3 h4 h5 => hr r h H locs la pc cs (hq r h h1) h2 h3 h4 h5)
/-- memory: a kind of memory, what cells it stands for, how it is read and written -/
abbrev zq_O (X : Type) : Type := (X → List Nat → Nat → Option Value) × (X → List Nat → Nat → Value → Option X) × (X → Nat → Option zq_A) × (X → Nat → (Nat → Int32) → X) × (X → Nat → Option (Nat × X)) × (X → Bool → Nat → Option (Nat × X)) × (X → Nat → Option Nat)
def zq_x {X : Type} (g : zq_G) (rep : X → List zq_E) (d k pc : Nat) (ls st : List Value) (cs : Nat × Nat) (x : X) (Q : Option Value → X → Prop) : Prop :=
  zq_g g d k pc ls st cs (rep x) (fun r h => ∃ x', h = rep x' ∧ Q r x')
end
section
/-- from a place on -/
def zq_sf : List zq_I → Nat → List zq_I
  | [], _ => []
  | e :: r, pc => match Nat.beq e.1 pc with
    | true => e :: r
    | false => zq_sf r pc
/-- a row of ints: a cell, or one that is read only -/
def zq_al {X : Type} (g : zq_G) (O : zq_O X) (x : X) (a : Nat) : Option (Nat × (Nat → Int32)) := match Nat.ble 1000 a with
  | true => match Nat.ble a 1005 with
    | true => some (zq_rl g (a - 1000), zq_rf g (a - 1000))
    | false => none
  | false => match O.2.2.1 x a with
    | some (false, n, f) => some (n, f)
    | _ => none
def zq_b (v : Int32) : Prop := v = 0 ∨ v = 1
/-- the cases of a switch -/
def zq_tw (z : Int32) (f : Nat → Prop) : Int → List Nat → Prop
  | _, [] => True
  | i, a :: r => match r with
    | [] => z.toInt = i → f a
    | _ => (z.toInt = i → f a) ∧ zq_tw z f (i + 1) r
def zq_le (cs bd : Nat × Nat) : Bool := match Nat.ble cs.1 bd.1 with
  | true => Nat.ble cs.2 bd.2
  | false => false
/-- behind a call: the answer on the stack -/
def zq_af {X : Type} (f : List Value → X → Prop) (rest : List Value) (rv : Nat) : Option Value → X → Prop := fun r x => match rv, r with
  | 0, none => f rest x
  | _ + 1, some v => f (v :: rest) x
  | _, _ => False
/-- a call of method k' -/
def zq_cl {X : Type} (g : zq_G) (rep : X → List zq_E) (d : Nat) (k' ml : Nat) (as rest : List Value) (x : X) (f : Option Value → X → Prop) : Prop := match d with
  | 0 => False
  | d' + 1 => match Nat.ble (zq_fl as).length ml, Nat.ble (zq_cat rest) 8 with
    | true, true => zq_x g rep d' k' 0 (zq_pd ml (zq_fl as)) [] (0, 0) x f
    | _, _ => False
def zq_st {X : Type} (g : zq_G) (O : zq_O X) (rep : X → List zq_E) (code : List zq_I) (rt : Option FieldType) (bd : Nat × Nat) (d : Nat) (Q : Option Value → X → Prop) (nx : List zq_I → List Value → List Value → Nat × Nat → X → Prop) (ny : Nat → List Value → List Value → Nat × Nat → X → Prop) (tail : List zq_I) (ls st : List Value) (cs : Nat × Nat) (x : X) : Prop :=
  match tail with
  | [] => False
  | (pc, ins, _, aux, cst, _) :: tl =>
  match ins with
  | .iconst _ => nx tl ls (cst :: st) cs x
  | .bipush _ => nx tl ls (cst :: st) cs x
  | .sipush _ => nx tl ls (cst :: st) cs x
  | .lconst _ => nx tl ls (cst :: st) cs x
  | .ldc2_w _ => nx tl ls (cst :: st) cs x
  | .ldc _ => match aux with
    | [1, j] => nx tl ls (.ref (2000 + j) :: st) cs x
    | _ => nx tl ls (cst :: st) cs x
  | .iload _ => match zq_at ls (zq_ix aux 0) with
    | .int v => nx tl ls (.int v :: st) cs x
    | _ => False
  | .iload_n _ => match zq_at ls (zq_ix aux 0) with
    | .int v => nx tl ls (.int v :: st) cs x
    | _ => False
  | .lload _ => match zq_at ls (zq_ix aux 0) with
    | .long v => nx tl ls (.long v :: st) cs x
    | _ => False
  | .lload_n _ => match zq_at ls (zq_ix aux 0) with
    | .long v => nx tl ls (.long v :: st) cs x
    | _ => False
  | .aload _ => match zq_at ls (zq_ix aux 0) with
    | .ref v => nx tl ls (.ref v :: st) cs x
    | _ => False
  | .aload_n _ => match zq_at ls (zq_ix aux 0) with
    | .ref v => nx tl ls (.ref v :: st) cs x
    | _ => False
  | .istore _ => match st with
    | .int v :: st => nx tl (zq_se (zq_kl ls (zq_ix aux 0)) (zq_ix aux 0) (.int v)) st cs x
    | _ => False
  | .istore_n _ => match st with
    | .int v :: st => nx tl (zq_se (zq_kl ls (zq_ix aux 0)) (zq_ix aux 0) (.int v)) st cs x
    | _ => False
  | .astore _ => match st with
    | .ref v :: st => nx tl (zq_se (zq_kl ls (zq_ix aux 0)) (zq_ix aux 0) (.ref v)) st cs x
    | _ => False
  | .astore_n _ => match st with
    | .ref v :: st => nx tl (zq_se (zq_kl ls (zq_ix aux 0)) (zq_ix aux 0) (.ref v)) st cs x
    | _ => False
  | .lstore _ => match st with
    | .long v :: st => nx tl (zq_se (zq_se (zq_kl ls (zq_ix aux 0)) (zq_ix aux 0) (.long v)) (zq_ix aux 0 + 1) .null) st cs x
    | _ => False
  | .lstore_n _ => match st with
    | .long v :: st => nx tl (zq_se (zq_se (zq_kl ls (zq_ix aux 0)) (zq_ix aux 0) (.long v)) (zq_ix aux 0 + 1) .null) st cs x
    | _ => False
  | .iinc _ _ => match zq_at ls (zq_ix aux 0), cst with
    | .int v, .int n => nx tl (zq_se (zq_kl ls (zq_ix aux 0)) (zq_ix aux 0) (.int (v + n))) st cs x
    | _, _ => False
  | .iadd => match st with
    | .int y :: .int z :: st => nx tl ls (.int (z + y) :: st) cs x
    | _ => False
  | .isub => match st with
    | .int y :: .int z :: st => nx tl ls (.int (z - y) :: st) cs x
    | _ => False
  | .imul => match st with
    | .int y :: .int z :: st => nx tl ls (.int (z * y) :: st) cs x
    | _ => False
  | .iand => match st with
    | .int y :: .int z :: st => nx tl ls (.int (z &&& y) :: st) cs x
    | _ => False
  | .ior => match st with
    | .int y :: .int z :: st => nx tl ls (.int (z ||| y) :: st) cs x
    | _ => False
  | .ishl => match st with
    | .int y :: .int z :: st => nx tl ls (.int (z <<< (y &&& 31)) :: st) cs x
    | _ => False
  | .ishr => match st with
    | .int y :: .int z :: st => nx tl ls (.int (z >>> (y &&& 31)) :: st) cs x
    | _ => False
  | .ladd => match st with
    | .long y :: .long z :: st => nx tl ls (.long (z + y) :: st) cs x
    | _ => False
  | .lsub => match st with
    | .long y :: .long z :: st => nx tl ls (.long (z - y) :: st) cs x
    | _ => False
  | .lmul => match st with
    | .long y :: .long z :: st => nx tl ls (.long (z * y) :: st) cs x
    | _ => False
  | .land => match st with
    | .long y :: .long z :: st => nx tl ls (.long (z &&& y) :: st) cs x
    | _ => False
  | .lor => match st with
    | .long y :: .long z :: st => nx tl ls (.long (z ||| y) :: st) cs x
    | _ => False
  | .idiv => match st with
    | .int y :: .int z :: st => ¬ y = 0 ∧ nx tl ls (.int (z / y) :: st) cs x
    | _ => False
  | .irem => match st with
    | .int y :: .int z :: st => ¬ y = 0 ∧ nx tl ls (.int (z - z / y * y) :: st) cs x
    | _ => False
  | .ldiv => match st with
    | .long y :: .long z :: st => ¬ y = 0 ∧ nx tl ls (.long (z / y) :: st) cs x
    | _ => False
  | .lrem => match st with
    | .long y :: .long z :: st => ¬ y = 0 ∧ nx tl ls (.long (z - z / y * y) :: st) cs x
    | _ => False
  | .ineg => match st with
    | .int z :: st => nx tl ls (.int (-z) :: st) cs x
    | _ => False
  | .i2l => match st with
    | .int z :: st => nx tl ls (.long z.toInt64 :: st) cs x
    | _ => False
  | .l2i => match st with
    | .long z :: st => nx tl ls (.int z.toInt32 :: st) cs x
    | _ => False
  | .i2b => match st with
    | .int z :: st => nx tl ls (.int z.toInt8.toInt32 :: st) cs x
    | _ => False
  | .i2s => match st with
    | .int z :: st => nx tl ls (.int z.toInt16.toInt32 :: st) cs x
    | _ => False
  | .lshl => match st with
    | .int y :: .long z :: st => nx tl ls (.long (z <<< (y.toInt64 &&& 63)) :: st) cs x
    | _ => False
  | .lshr => match st with
    | .int y :: .long z :: st => nx tl ls (.long (z >>> (y.toInt64 &&& 63)) :: st) cs x
    | _ => False
  | .lcmp => match st with
    | .long y :: .long z :: st => nx tl ls (.int (lg_cmp z y) :: st) cs x
    | _ => False
  | .dup => match st with
    | .int v :: st => nx tl ls (.int v :: .int v :: st) cs x
    | .ref v :: st => nx tl ls (.ref v :: .ref v :: st) cs x
    | _ => False
  | .pop => match st with
    | .int _ :: st => nx tl ls st cs x
    | .ref _ :: st => nx tl ls st cs x
    | _ => False
  | .dup2 => match st with
    | .int u :: .ref v :: st => nx tl ls (.int u :: .ref v :: .int u :: .ref v :: st) cs x
    | _ => False
  | .ifCond .eq _ => match st with
    | .int z :: st => (z = 0 → nx (zq_sf code (zq_ix aux 0)) ls st cs x) ∧ (¬ z = 0 → nx tl ls st cs x)
    | _ => False
  | .ifCond .ne _ => match st with
    | .int z :: st => (¬ z = 0 → nx (zq_sf code (zq_ix aux 0)) ls st cs x) ∧ (z = 0 → nx tl ls st cs x)
    | _ => False
  | .ifCond .lt _ => match st with
    | .int z :: st => (z < 0 → nx (zq_sf code (zq_ix aux 0)) ls st cs x) ∧ (¬ z < 0 → nx tl ls st cs x)
    | _ => False
  | .ifCond .ge _ => match st with
    | .int z :: st => (0 ≤ z → nx (zq_sf code (zq_ix aux 0)) ls st cs x) ∧ (¬ 0 ≤ z → nx tl ls st cs x)
    | _ => False
  | .ifCond .gt _ => match st with
    | .int z :: st => (0 < z → nx (zq_sf code (zq_ix aux 0)) ls st cs x) ∧ (¬ 0 < z → nx tl ls st cs x)
    | _ => False
  | .ifCond .le _ => match st with
    | .int z :: st => (z ≤ 0 → nx (zq_sf code (zq_ix aux 0)) ls st cs x) ∧ (¬ z ≤ 0 → nx tl ls st cs x)
    | _ => False
  | .if_icmp .eq _ => match st with
    | .int y :: .int z :: st => (z = y → nx (zq_sf code (zq_ix aux 0)) ls st cs x) ∧ (¬ z = y → nx tl ls st cs x)
    | _ => False
  | .if_icmp .ne _ => match st with
    | .int y :: .int z :: st => (¬ z = y → nx (zq_sf code (zq_ix aux 0)) ls st cs x) ∧ (z = y → nx tl ls st cs x)
    | _ => False
  | .if_icmp .lt _ => match st with
    | .int y :: .int z :: st => (z < y → nx (zq_sf code (zq_ix aux 0)) ls st cs x) ∧ (¬ z < y → nx tl ls st cs x)
    | _ => False
  | .if_icmp .ge _ => match st with
    | .int y :: .int z :: st => (y ≤ z → nx (zq_sf code (zq_ix aux 0)) ls st cs x) ∧ (¬ y ≤ z → nx tl ls st cs x)
    | _ => False
  | .if_icmp .gt _ => match st with
    | .int y :: .int z :: st => (y < z → nx (zq_sf code (zq_ix aux 0)) ls st cs x) ∧ (¬ y < z → nx tl ls st cs x)
    | _ => False
  | .if_icmp .le _ => match st with
    | .int y :: .int z :: st => (z ≤ y → nx (zq_sf code (zq_ix aux 0)) ls st cs x) ∧ (¬ z ≤ y → nx tl ls st cs x)
    | _ => False
  | .goto _ => nx (zq_sf code (zq_ix aux 0)) ls st cs x
  | .tableswitch _ lo hi _ => match st with
    | .int z :: st => ((z.toInt < lo ∨ hi < z.toInt) → nx (zq_sf code (zq_ix aux 0)) ls st cs x) ∧ zq_tw z (fun a => nx (zq_sf code a) ls st cs x) lo (aux.drop 1)
    | _ => False
  | .getfield _ => match st with
    | .ref o :: st => match O.1 x aux o with
      | some v => nx tl ls (v :: st) cs x
      | none => False
    | _ => False
  | .putfield _ => match st with
    | v :: .ref o :: st => match O.2.1 x aux o v with
      | some x' => match zq_ix aux 2, v with
        | 0, .int _ => nx tl ls st cs x'
        | 1, .int u => zq_b u ∧ nx tl ls st cs x'
        | 2, .ref _ => nx tl ls st cs x'
        | _, _ => False
      | none => False
    | _ => False
  | .getstatic _ => nx tl ls (.ref (1001 + zq_ix aux 0) :: st) cs x
  | .iaload => match st with
    | .int i :: .ref a :: st => match zq_al g O x a with
      | some (n, f) => vp_in i n ∧ nx tl ls (.int (f i.toNatClampNeg) :: st) cs x
      | none => False
    | _ => False
  | .arraylength => match st with
    | .ref a :: st => match zq_al g O x a with
      | some (n, _) => nx tl ls (.int (nI n) :: st) cs x
      | none => False
    | _ => False
  | .iastore => match st with
    | .int v :: .int i :: .ref a :: st => match Nat.ble 1000 a, O.2.2.1 x a with
      | false, some (false, n, f) => vp_in i n ∧ nx tl ls st cs (O.2.2.2.1 x a (upd f i.toNatClampNeg v))
      | _, _ => False
    | _ => False
  | .baload => match st with
    | .int i :: .ref a :: st => match Nat.ble 1000 a, O.2.2.1 x a with
      | false, some (true, n, f) => vp_in i n ∧ nx tl ls (.int (f i.toNatClampNeg) :: st) cs x
      | _, _ => False
    | _ => False
  | .bastore => match st with
    | .int v :: .int i :: .ref a :: st => match Nat.ble 1000 a, O.2.2.1 x a with
      | false, some (true, n, f) => vp_in i n ∧ nx tl ls st cs (O.2.2.2.1 x a (upd f i.toNatClampNeg (vp_nar .boolean v)))
      | _, _ => False
    | _ => False
  | .newarray ty => match st with
    | .int n :: st => match ty, Nat.ble (cs.1 + 1) bd.1, Nat.ble (cs.2 + n.toNatClampNeg) bd.2 with
      | .int, true, true => match O.2.2.2.2.2.1 x false n.toNatClampNeg with
        | some (a, x') => (¬ n < 0 ∧ n.toNatClampNeg ≤ 10000) ∧ nx tl ls (.ref a :: st) (cs.1 + 1, cs.2 + n.toNatClampNeg) x'
        | none => False
      | .boolean, true, true => match O.2.2.2.2.2.1 x true n.toNatClampNeg with
        | some (a, x') => (¬ n < 0 ∧ n.toNatClampNeg ≤ 10000) ∧ nx tl ls (.ref a :: st) (cs.1 + 1, cs.2 + n.toNatClampNeg) x'
        | none => False
      | _, _, _ => False
    | _ => False
  | .new _ => match Nat.ble (cs.1 + 1) bd.1, Nat.ble (cs.2 + zq_ix aux 1) bd.2, O.2.2.2.2.1 x (zq_ix aux 0) with
    | true, true, some (o, x') => nx tl ls (.ref o :: st) (cs.1 + 1, cs.2 + zq_ix aux 1) x'
    | _, _, _ => False
  | .invokevirtual _ => match zq_le cs bd with
    | false => False
    | true => match zq_ix aux 0 with
    | 1 => match zq_sp (zq_ix aux 2) [] st with
      | some (as, .ref o :: rest) => match O.2.2.2.2.2.2 x o with
        | some ci => match Nat.beq ci (zq_ix aux 5) with
          | true => zq_cl g rep d (zq_ix aux 1) (zq_ix aux 3) (.ref o :: as) rest x (zq_af (fun st x => ny (pc + 3) ls st cs x) rest (zq_ix aux 6))
          | false => False
        | none => False
      | _ => False
    | 6 => match st with
      | .ref o :: rest => match Nat.ble 2000 o, Nat.ble o 2011, d, Nat.ble (zq_cat rest) 8 with
        | true, true, _ + 5, true => nx tl ls (.int (nI (zq_sl.getD (o - 2000) 0)) :: rest) cs x
        | _, _, _, _ => False
      | _ => False
    | 7 => match st with
      | .int i :: .ref o :: rest => match Nat.ble 2000 o, Nat.ble o 2011, d, Nat.ble (zq_cat rest) 8 with
        | true, true, _ + 5, true => vp_in i (zq_sl.getD (o - 2000) 0) ∧ nx tl ls (.int ((zq_sb.getD (o - 2000) []).getD i.toNatClampNeg 0) :: rest) cs x
        | _, _, _, _ => False
      | _ => False
    | _ => False
  | .invokespecial _ => match zq_le cs bd with
    | false => False
    | true => match zq_ix aux 0 with
    | 0 => match st with
      | .ref _ :: rest => match d, Nat.ble (zq_cat rest) 8 with
        | _ + 1, true => nx tl ls rest cs x
        | _, _ => False
      | _ => False
    | _ => match zq_sp (zq_ix aux 2) [] st with
      | some (as, .ref o :: rest) => match Nat.ble (cs.1 + zq_ix aux 7) bd.1, Nat.ble (cs.2 + zq_ix aux 8) bd.2 with
        | true, true => zq_cl g rep d (zq_ix aux 1) (zq_ix aux 3) (.ref o :: as) rest x (zq_af (fun st x => ny (pc + 3) ls st (cs.1 + zq_ix aux 7, cs.2 + zq_ix aux 8) x) rest (zq_ix aux 6))
        | _, _ => False
      | _ => False
  | .invokestatic _ => match zq_le cs bd with
    | false => False
    | true => match zq_ix aux 0 with
    | 2 => match st with
      | .int y :: .int z :: rest => match d, Nat.ble (zq_cat rest) 8 with
        | _ + 1, true => nx tl ls (.int (if z < y then y else z) :: rest) cs x
        | _, _ => False
      | _ => False
    | 3 => match st with
      | .int y :: .int z :: rest => match d, Nat.ble (zq_cat rest) 8 with
        | _ + 1, true => nx tl ls (.int (if y < z then y else z) :: rest) cs x
        | _, _ => False
      | _ => False
    | 4 => match st with
      | .int z :: rest => match d, Nat.ble (zq_cat rest) 8 with
        | _ + 1, true => nx tl ls (.int (if 0 ≤ z then z else 0 - z) :: rest) cs x
        | _, _ => False
      | _ => False
    | 5 => match st with
      | .int n :: .int dp :: .ref a :: .int sp :: .ref b :: rest => match zq_al g O x b, Nat.ble 1000 a, O.2.2.1 x a, d, Nat.ble (zq_cat rest) 8 with
        | some (n0, f), false, some (false, n1, e), _ + 1, true => (¬ sp < 0 ∧ ¬ dp < 0 ∧ ¬ n < 0 ∧ sp.toNatClampNeg + n.toNatClampNeg ≤ n0 ∧ dp.toNatClampNeg + n.toNatClampNeg ≤ n1) ∧ nx tl ls rest cs (O.2.2.2.1 x a (va_cpy f e sp.toNatClampNeg dp.toNatClampNeg n.toNatClampNeg))
        | _, _, _, _, _ => False
      | _ => False
    | _ => match zq_sp (zq_ix aux 2) [] st with
      | some (as, rest) => zq_cl g rep d (zq_ix aux 1) (zq_ix aux 3) as rest x (zq_af (fun st x => ny (pc + 3) ls st cs x) rest (zq_ix aux 6))
      | none => False
  | .ireturn => match st with
    | [.int v] => match Nat.beq cs.1 bd.1, Nat.ble cs.2 bd.2, rt with
      | true, true, some .int => Q (some (.int v)) x
      | true, true, some .boolean => zq_b v ∧ Q (some (.int v)) x
      | _, _, _ => False
    | _ => False
  | .lreturn => match st with
    | [.long v] => match Nat.beq cs.1 bd.1, Nat.ble cs.2 bd.2, rt with
      | true, true, some .long => Q (some (.long v)) x
      | _, _, _ => False
    | _ => False
  | .return_ => match st with
    | [] => match Nat.beq cs.1 bd.1, Nat.ble cs.2 bd.2, rt with
      | true, true, none => Q none x
      | _, _, _ => False
    | _ => False
  | _ => False
/-- where a walk is cut, what is left is the judgement itself -/
def zq_nx {X : Type} (g : zq_G) (rep : X → List zq_E) (d k : Nat) (Q : Option Value → X → Prop) (go : List zq_I → List Value → List Value → Nat × Nat → X → Prop) (tail : List zq_I) (ls st : List Value) (cs : Nat × Nat) (x : X) : Prop :=
  match tail with
  | [] => False
  | (pc, _, _, _, _, mask) :: _ => match mask with
    | [] => go tail ls st cs x
    | _ => zq_x g rep d k pc (zq_mk mask ls) st cs x Q
/-- n instructions on -/
def zq_wp {X : Type} (g : zq_G) (O : zq_O X) (rep : X → List zq_E) (code : List zq_I) (rt : Option FieldType) (bd : Nat × Nat) (d k : Nat) (Q : Option Value → X → Prop) : Nat → List zq_I → List Value → List Value → Nat × Nat → X → Prop
  | 0, _, _, _, _, _ => False
  | n + 1, tail, ls, st, cs, x => zq_st g O rep code rt bd d Q (fun tl ls st cs x => zq_nx g rep d k Q (zq_wp g O rep code rt bd d k Q n) tl ls st cs x) (fun pc ls st cs x => zq_nx g rep d k Q (zq_wp g O rep code rt bd d k Q n) (zq_sf code pc) ls st cs x) tail ls st cs x
end
section
theorem zq_ek_dec {t : zq_T} {e : zq_I} (h : zq_ek t e = true) : decode t.2.1 e.1 = .ok (e.2.1, e.2.2.1) ∧ zq_lk t e.1 e.2.1 e.2.2.1 e.2.2.2.1 e.2.2.2.2.1 = true := by
  simp only [zq_ek, Bool.and_eq_true] at h
  refine ⟨?_, h.2⟩
  have h1 := h.1
  split at h1
  · next r hr => rw [hr, of_decide_eq_true h1]
  · cases h1
/-! a tail of a method's list -/
def zq_pc : List zq_I → Nat
  | [] => 0
  | e :: _ => e.1
theorem zq_ok.tail {t : zq_T} {e : zq_I} {tl : List zq_I} (h : zq_ok t (e :: tl)) : zq_ok t tl ∧ (tl ≠ [] → zq_pc tl = e.1 + e.2.2.1) := by
  obtain ⟨h1, h2⟩ := h
  cases tl with
  | nil => exact ⟨⟨fun _ h => by simp at h, rfl⟩, fun h => absurd rfl h⟩
  | cons e' r =>
    have h2 : (Nat.beq e'.1 (e.1 + e.2.2.1) && zq_ch (e' :: r)) = true := h2
    rw [Bool.and_eq_true] at h2
    exact ⟨⟨fun x hx => h1 x (List.mem_cons_of_mem _ hx), h2.2⟩, fun _ => Nat.eq_of_beq_eq_true h2.1⟩
theorem zq_ok.sf {t : zq_T} : ∀ {tl : List zq_I} (pc : Nat), zq_ok t tl → zq_ok t (zq_sf tl pc) ∧ (zq_sf tl pc ≠ [] → zq_pc (zq_sf tl pc) = pc)
  | [], pc, h => ⟨h, fun q => absurd rfl q⟩
  | e :: r, pc, h => by
    unfold zq_sf
    cases hb : Nat.beq e.1 pc with
    | true => exact ⟨h, fun _ => Nat.eq_of_beq_eq_true hb⟩
    | false => exact zq_ok.sf pc h.tail.1
/-! arguments -/
theorem zq_c_cat (g : zq_G) (v : Value) : (zq_c g v).category = v.category := by cases v <;> rfl
theorem zq_cat_map (g : zq_G) (st : List Value) : ((st.map (zq_c g)).map fun v => v.category).sum = zq_cat st := by
  unfold zq_cat
  rw [List.map_map]
  congr 1
  apply List.map_congr_left
  intro v _
  exact zq_c_cat g v
theorem zq_fl_cons (v : Value) (r : List Value) : zq_fl (v :: r) = (if v.category = 2 then [v, .null] else [v]) ++ zq_fl r := by
  cases v <;> rfl
theorem zq_fl_len (g : zq_G) : ∀ as : List Value, (lg_sl (as.map (zq_c g))).length = (zq_fl as).length
  | [] => rfl
  | v :: r => by
    have ih := zq_fl_len g r
    rw [zq_fl_cons]
    simp only [lg_sl, List.map_cons, List.flatMap_cons, List.length_append, zq_c_cat] at ih ⊢
    rw [ih]
    split <;> rfl
theorem zq_lv_pd (g : zq_G) : ∀ (n : Nat) (l : List Value) (i : Nat), zq_lv g i (zq_pd n l) = zq_lv g i l
  | 0, l, i => rfl
  | n + 1, [], i => by
    show (if Value.null = Value.null then zq_lv g (i + 1) (zq_pd n []) else _) = []
    rw [if_pos rfl, zq_lv_pd g n [] (i + 1)]
    rfl
  | n + 1, v :: r, i => by
    rw [zq_pd, zq_lv, zq_lv, zq_lv_pd g n r (i + 1)]
theorem zq_lv_args (g : zq_G) : ∀ (as : List Value) (i : Nat) (q : Nat × Value), q ∈ zq_lv g i (zq_fl as) → q ∈ lv_args i (as.map (zq_c g))
  | [], i, q, h => by simp [zq_fl, zq_lv] at h
  | v :: r, i, q, h => by
    rw [zq_fl_cons] at h
    rw [List.map_cons, lv_args, zq_c_cat]
    by_cases hc : v.category = 2
    · rw [if_pos hc] at h ⊢
      have hv : v ≠ .null := fun e => by rw [e] at hc; cases hc
      rw [List.cons_append, zq_lv, if_neg hv, List.cons_append, List.nil_append, zq_lv, if_pos rfl] at h
      rcases List.mem_cons.mp h with h | h
      · rw [h]; exact List.mem_cons_self
      · exact List.mem_cons_of_mem _ (zq_lv_args g r (i + 1 + 1) q h)
    · rw [if_neg hc] at h ⊢
      rw [List.cons_append, List.nil_append, zq_lv] at h
      by_cases hv : v = .null
      · rw [if_pos hv] at h
        exact List.mem_cons_of_mem _ (zq_lv_args g r (i + 1) q h)
      · rw [if_neg hv] at h
        rcases List.mem_cons.mp h with h | h
        · rw [h]; exact List.mem_cons_self
        · exact List.mem_cons_of_mem _ (zq_lv_args g r (i + 1) q h)
theorem zq_sp_spec : ∀ (n : Nat) (acc st as rest : List Value), zq_sp n acc st = some (as, rest) → as.reverse ++ rest = acc.reverse ++ st ∧ as.length = n + acc.length
  | 0, acc, st, as, rest, h => by
    have h : some (acc, st) = some (as, rest) := h
    cases h
    exact ⟨rfl, by omega⟩
  | n + 1, acc, [], as, rest, h => by cases h
  | n + 1, acc, v :: st, as, rest, h => by
    obtain ⟨h1, h2⟩ := zq_sp_spec n (v :: acc) st as rest h
    exact ⟨by rw [h1]; simp, by rw [h2]; simp; omega⟩
theorem zq_mk_get : ∀ (b : List Bool) (ls : List Value) (j : Nat) (v : Value), (zq_mk b ls)[j]? = some v → v ≠ .null → ls[j]? = some v
  | [], ls, j, v, h, _ => by simp [zq_mk] at h
  | true :: b, [], j, v, h, _ => by simp [zq_mk] at h
  | false :: b, [], j, v, h, _ => by simp [zq_mk] at h
  | true :: b, w :: ls, 0, v, h, _ => by simpa [zq_mk] using h
  | false :: b, w :: ls, 0, v, h, hv => by
    have : Value.null = v := by simpa [zq_mk] using h
    exact absurd this.symm hv
  | true :: b, w :: ls, j + 1, v, h, hv => by simpa using zq_mk_get b ls j v (by simpa [zq_mk] using h) hv
  | false :: b, w :: ls, j + 1, v, h, hv => by simpa using zq_mk_get b ls j v (by simpa [zq_mk] using h) hv
/-- fewer locals -/
theorem zq_lv_le {g : zq_G} {la : Array Slot} {n : Nat} {l : List (Nat × Value)} {ls : List Value} (h : lv_has la n l) (hs : ∀ (j : Nat) (v : Value), ls[j]? = some v → v ≠ .null → (j, zq_c g v) ∈ l) : lv_has la n (zq_lv g 0 ls) := by
  refine ⟨h.1, h.2.1, fun q hq => ?_⟩
  obtain ⟨j, v, h1, h2, h3⟩ := (zq_lv_mem g ls 0 q).mp hq
  rw [h3, Nat.zero_add]
  exact h.2.2 _ (hs j v h1 h2)
theorem zq_lv_of {g : zq_G} {ls : List Value} {j : Nat} {v : Value} (h : ls[j]? = some v) (hv : v ≠ .null) : (j, zq_c g v) ∈ zq_lv g 0 ls := (zq_lv_mem g ls 0 _).mpr ⟨j, v, h, hv, by rw [Nat.zero_add]⟩
theorem zq_g.mask {g : zq_G} {d k pc : Nat} {b : List Bool} {ls st : List Value} {cs : Nat × Nat} {h : List zq_E} {Q : Option Value → List zq_E → Prop} (hg : zq_g g d k pc (zq_mk b ls) st cs h Q) : zq_g g d k pc ls st cs h Q :=
  fun t ht p e R s m args below meth c Z ha hr H locs la hw hl => hg t ht p e R s m args below meth c Z ha hr H locs la hw (zq_lv_le hl (fun j v h1 h2 => zq_lv_of (zq_mk_get b ls j v h1 h2) h2))
/-! a method's contract out of its walk -/
def zq_ws (t : zq_T) : List Jvm.Cond := Jvm.Cond.code t.1 t.2.1 t.2.2.1 t.2.2.2.1 :: zq_tb
def zq_rm (d : Nat) (t : zq_T) : Room := { frames := d, cells := t.2.2.2.2.2.1.1, slots := t.2.2.2.2.2.1.2, locals := 64 * d }
def zq_Pc (g : zq_G) (as : List Value) (h : List zq_E) : Array Value → State → Prop := va_Pc (as.map (zq_c g)) (fun U => h.length ≤ 999 ∧ U.heap.size ≤ zq_B g + h.length ∧ va_P (zq_D g) vwCl (zq_w g 0 h) U.heap ∧ va_K (zq_D g) vwCl (zq_ty g) U ∧ zq_ro g U U.heap ∧ zq_B g ≤ U.heap.size ∧ ∀ k, k < 1000 → zq_ad g k = zq_B g + k)
def zq_Qc (g : zq_G) (mc : Nat) (Q : Option Value → List zq_E → Prop) : Array Value → State → Outcome → State → Prop := fun _ st oc t =>
  (∃ (r : Option Value) (h : List zq_E), oc = .returned (r.map (zq_c g)) ∧ Q r h ∧ h.length ≤ 999 ∧ st.heap.size + mc ≤ zq_B g + h.length ∧ va_P (zq_D g) vwCl (zq_w g 0 h) t.heap) ∧ va_F (zq_F g) st t
theorem zq_ro.same {g : zq_G} {u U : State} {H : Heap} (hv : U.vm = u.vm) (h : zq_ro g u H) : zq_ro g U H := by
  obtain ⟨h1, h2, h3, h4, h5, h6, h7, h8⟩ := h
  have ha : u.vm.Alike U.vm := by rw [hv]; exact Vm.Alike.refl u.vm
  exact ⟨fun j hj => ⟨(h1 j hj).1.moved ha, (h1 j hj).2⟩, fun j hj => (h2 j hj).moved ha, fun q hq => (h3 q hq).same rfl hv.symm, fun q hq => (h4 q hq).same rfl hv.symm, h5.moved ha, fun i q hq => (h6 i q hq).same hv, h7.moved ha, h8.moved ha⟩
theorem zq_blind (g : zq_G) (as : List Value) (h : List zq_E) : FrameBlind (zq_Pc g as h) := by
  intro a U f mk q
  obtain ⟨q0, q1, q2, q3, q4, q5, q6, q7⟩ := q
  exact ⟨q0, q1, q2, q3, va_K.moved (u := U) (U := U.calling f mk a) (Vm.Alike.refl U.vm) q4, zq_ro.same (u := U) (U := U.calling f mk a) rfl q5, q6, q7⟩
theorem zq_mc_of {u : zq_T} (h : zq_mc u = true) : Jvm.Cond.code u.1 u.2.1 u.2.2.1 u.2.2.2.1 ∈ zq_tb ∧ Jvm.Cond.initialized u.1.cls ∈ zq_tb ∧ plainName u.1.cls = true ∧ u.1.cls ≠ "java/lang/invoke/MethodHandle" ∧ u.1.cls ≠ "java/lang/invoke/VarHandle" ∧ u.2.2.1 ≤ 45 := by
  simp only [zq_mc, Bool.and_eq_true, decide_eq_true_eq] at h
  exact ⟨zq_is_in h.1, zq_is_in h.2.1, h.2.2.1, h.2.2.2.1, h.2.2.2.2.1, Nat.le_of_ble_eq_true h.2.2.2.2.2⟩
theorem zq_met {g : zq_G} {d k : Nat} {as : List Value} {h : List zq_E} {Q : Option Value → List zq_E → Prop} {t : zq_T} (ht : zq_mt[k]? = some t) (hm : zq_mc t = true) (hfl : (zq_fl as).length ≤ t.2.2.1)
    (hG : zq_g g d k 0 (zq_pd t.2.2.1 (zq_fl as)) [] (0, 0) h Q) : Met (zq_l g) t.1 (zq_ws t) (zq_rm d t) (zq_Pc g as h) (zq_Qc g t.2.2.2.2.2.1.1 Q) t.2.2.2.2.2.1.1 t.2.2.2.2.2.1.2 (zq_F g) := by
  obtain ⟨m1, m2, m3, -, -, -⟩ := zq_mc_of hm
  refine Met.ofW (cc := t.2.1) (maxL := t.2.2.1) (ret := t.2.2.2.1) m3 rfl ?_
  intro p e s m args below meth c s₁ B hml hv
  obtain ⟨rfl, hlen, hsz, hP, hK, hro, hBs, had⟩ := hv
  have hts0 := atoms_spec (ws := zq_ws t) B.pre
  have hts : ∀ w ∈ zq_tb, w.before _ s = true := fun w hw => hts0 w (List.mem_cons_of_mem _ hw)
  have hl := lv_entry (as.map (zq_c g)) (n := t.2.2.1) (by rw [zq_fl_len]; exact hfl)
  rw [lg_entry_eq]
  generalize (lg_sl (as.map (zq_c g)) ++ List.replicate (t.2.2.1 - (lg_sl (as.map (zq_c g))).length) Slot.unset).toArray = la at hl ⊢
  have ha : zq_act g t d p (zq_rm d t) s m (as.map (zq_c g)).toArray meth c := ⟨⟨Nat.le_refl _, Nat.le_refl _, Nat.le_refl _, Nat.le_refl _⟩, B.exec, B.bytes, B.returns, hml, findClass_of_methodNamed B.named, hts, B.notSynchronized, fun q => (name_of_methodNamed B.named B.method).1.trans q, hK, hro, hBs, had⟩
  refine hG t ht p e (zq_rm d t) s m _ below meth c (MQ below (zq_Qc g t.2.2.2.2.2.1.1 Q) (as.map (zq_c g)).toArray s t.2.2.2.2.2.1.1 t.2.2.2.2.2.1.2 (zq_F g)) ha ?_ s.heap [] la ⟨hlen, hsz, hP, va_S.rf⟩ ?_
  · intro r h' H locs la' pc cs hQ hk hw h1 h2
    obtain ⟨w1, w2, w3, w4⟩ := hw
    refine W.widen (Nat.le_of_eq h1) h2 ?_
    have fin : ∀ t' : State, t'.heap = H → zq_Qc g t.2.2.2.2.2.1.1 Q (as.map (zq_c g)).toArray s (.returned (r.map (zq_c g))) t' := fun t' e => ⟨⟨r, h', rfl, hQ, w1, by rw [← h1]; exact w2, by rw [e]; exact w3⟩, w4.F e⟩
    match r, hk, fin with
    | none, hk, fin => exact W.vret B.exec B.bytes (B.returns.trans hk.2) (fun t' e _ => fin t' e) w4.2.2 hk.1 B.notSynchronized
    | some (.int v), hk, fin =>
      obtain ⟨k1, ty, k2, k3⟩ := hk
      exact W.zret B.exec B.bytes (B.returns.trans k2) k3 (fun t' e _ => fin t' e) w4.2.2 k1 B.notSynchronized
    | some (.long v), hk, fin => exact W.lret B.exec B.bytes (B.returns.trans hk.2) (fun t' e _ => fin t' e) w4.2.2 hk.1 B.notSynchronized
    | some (.float v), hk, _ => exact hk.elim
    | some (.double v), hk, _ => exact hk.elim
    | some .null, hk, _ => exact hk.elim
    | some (.ref v), hk, _ => exact hk.elim
    | some (.retAddr v), hk, _ => exact hk.elim
  · rw [zq_lv_pd]
    exact ⟨hl.1, hl.2.1, fun q hq => hl.2.2 q (zq_lv_args g as 0 q hq)⟩
theorem zq_low {g : zq_G} {h : List zq_E} {H : Heap} (hP : va_P (zq_D g) vwCl (zq_w g 0 h) H) (hB : zq_B g ≤ H.size) (ha : ∀ k, k < 1000 → zq_ad g k = zq_B g + k) (hl : h.length ≤ 999) : zq_B g + h.length ≤ H.size := by
  rcases Nat.eq_zero_or_pos h.length with e | e
  · omega
  · have hk : h[h.length - 1]? = some (h[h.length - 1]'(by omega)) := List.getElem?_eq_getElem (by omega)
    have h1 := (hP (h.length - 1) _ (zq_w_at hk)).lt
    have h2 := ha (h.length - 1) (by omega)
    have h3 : zq_ad g (h.length - 1) < H.size := h1
    omega
/-- the machine counts its cells -/
theorem zq_sz {p : Program} {l : Launch} {e : Env} {R : Room} {s : State} {m : MethodId} {args : Array Value} {below : List Frame} {meth : Method} {c : Code} {H : Heap} {locs : List Loc} {cells slots : Nat} {Z : State → Prop} {f : JFrame} (k : H.size ≤ s.heap.size + cells → W p l e R s m args below meth c H locs cells slots Z f) : W p l e R s m args below meth c H locs cells slots Z f :=
  fun T hT X => k (by rw [← hT]; exact X.heapSize) T hT X
/-- behind a call -/
theorem zq_back {g : zq_G} {p : Program} {e : Env} {R : Room} {s : State} {m : MethodId} {args : Array Value} {below : List Frame} {meth : Method} {c : Code} {H : Heap} {locs : List Loc} {cs : Nat × Nat} {mc ms pc : Nat} {la : Array Slot} {st0 rest : List Value} {Q : Option Value → List zq_E → Prop} {a : Array Value} {Z : State → Prop} {h0 : List zq_E}
    (hr : va_Run p (zq_l g) e R s m args below meth c H locs cs.1 cs.2 mc ms (F0 m pc la st0) rest (zq_Qc g mc Q a) (zq_F g)) (hw : zq_wd g s cs h0 H locs) (hB : zq_B g ≤ s.heap.size) (ha : ∀ k, k < 1000 → zq_ad g k = zq_B g + k)
    (kk : ∀ (r : Option Value) (h : List zq_E) (H1 : Heap) (locs1 : List Loc), Q r h → zq_wd g s (cs.1 + mc, cs.2 + ms) h H1 locs1 → W p (zq_l g) e R s m args below meth c H1 locs1 (cs.1 + mc) (cs.2 + ms) Z (F0 m (pc + 3) la ((r.map (zq_c g)).toList ++ rest))) :
    W p (zq_l g) e R s m args below meth c H locs cs.1 cs.2 Z (F0 m pc la st0) := by
  intro T hT X
  obtain ⟨v, st₀, t, T', L, h0', X', hL, e1, e2, ⟨⟨r, h, hv, hq, hl, hz, hp⟩, hfz, hfk⟩, st⟩ := hr T hT X
  cases hv
  rw [h0'] at hfz hfk hz
  obtain ⟨hl0, hc0, hP, hS⟩ := hw
  have low := zq_low hP (Nat.le_trans hB hS.1) ha hl0
  obtain ⟨t2, a1, b1⟩ := kk r h T'.heap (locs ++ L) hq ⟨hl, by show s.heap.size + (cs.1 + mc) ≤ _; omega, by rw [e1]; exact hp, Nat.le_trans hS.1 (by rw [e1]; exact hfz), fun q h1 h2 => by rw [e1, hfk q (Nat.lt_of_lt_of_le h1 hS.1) h2]; exact hS.2.1 q h1 h2, fun q hq => by
      rcases List.mem_append.mp hq with h | h
      · exact hS.2.2 q h
      · exact hL q h⟩ T' rfl X'
  exact ⟨t2, st t2 a1, b1⟩
end
section
def zq_lw {X : Type} (rep : X → List zq_E) (O : zq_O X) : Prop :=
  (∀ (x : X) (aux : List Nat) (o : Nat) (v : Value), zq_ax aux = true → O.1 x aux o = some v → ∃ fs, (rep x)[o]? = some (.inr (zq_ix aux 0, fs)) ∧ fs[zq_ix aux 1]? = some v) ∧
  (∀ (x : X) (aux : List Nat) (o : Nat) (v : Value) (x' : X), zq_ax aux = true → O.2.1 x aux o v = some x' → ∃ fs, (rep x)[o]? = some (.inr (zq_ix aux 0, fs)) ∧ zq_ix aux 1 < fs.length ∧ rep x' = (rep x).set o (.inr (zq_ix aux 0, fs.set (zq_ix aux 1) v))) ∧
  (∀ (x : X) (a : Nat) (y : zq_A), O.2.2.1 x a = some y → (rep x)[a]? = some (.inl y)) ∧
  (∀ (x : X) (a : Nat) (y : zq_A) (f : Nat → Int32), O.2.2.1 x a = some y → rep (O.2.2.2.1 x a f) = (rep x).set a (.inl (y.1, y.2.1, f))) ∧
  (∀ (x : X) (ci o : Nat) (x' : X), O.2.2.2.2.1 x ci = some (o, x') → ∃ fs, zq_df[ci]? = some fs ∧ o = (rep x).length ∧ rep x' = rep x ++ [.inr (ci, fs)] ∧ o < 999) ∧
  (∀ (x : X) (b : Bool) (n a : Nat) (x' : X), O.2.2.2.2.2.1 x b n = some (a, x') → a = (rep x).length ∧ rep x' = rep x ++ [.inl (b, n, fun _ => 0)] ∧ a < 999) ∧
  (∀ (x : X) (o ci : Nat), O.2.2.2.2.2.2 x o = some ci → ∃ fs, (rep x)[o]? = some (.inr (ci, fs)))
def zq_cx {X : Type} (g : zq_G) (O : zq_O X) (rep : X → List zq_E) (t : zq_T) (k d : Nat) (Q : Option Value → X → Prop) (nx : List zq_I → List Value → List Value → Nat × Nat → X → Prop) (ny : Nat → List Value → List Value → Nat × Nat → X → Prop) : Prop :=
  zq_lw rep O ∧ zq_mt[k]? = some t ∧ zq_ok t t.2.2.2.2.1 ∧ (∀ tl ls st cs x, zq_ok t tl → nx tl ls st cs x → tl ≠ [] ∧ zq_x g rep d k (zq_pc tl) ls st cs x Q) ∧ ∀ a ls st cs x, ny a ls st cs x → zq_x g rep d k a ls st cs x Q
theorem zq_head {X : Type} {g : zq_G} {O : zq_O X} {rep : X → List zq_E} {t : zq_T} {k d : Nat} {Q : Option Value → X → Prop} {nx : List zq_I → List Value → List Value → Nat × Nat → X → Prop} {ny : Nat → List Value → List Value → Nat × Nat → X → Prop} (C : zq_cx g O rep t k d Q nx ny) {ins : Instr} {pc len : Nat} {aux : List Nat} {cst : Value} {mask : List Bool} {tl : List zq_I}  (hg : zq_ok t ((pc, ins, len, aux, cst, mask) :: tl)) : decode t.2.1 pc = .ok (ins, len) ∧ zq_lk t pc ins len aux cst = true ∧ ∀ ls st cs x, nx tl ls st cs x → zq_x g rep d k (pc + len) ls st cs x Q := by
  obtain ⟨h1, h2⟩ := zq_ek_dec (hg.1 _ List.mem_cons_self)
  refine ⟨h1, h2, fun ls st cs x h => ?_⟩
  obtain ⟨h3, h4⟩ := C.2.2.2.1 tl ls st cs x hg.tail.1 h
  rw [hg.tail.2 h3] at h4
  exact h4
theorem zq_jump {X : Type} {g : zq_G} {O : zq_O X} {rep : X → List zq_E} {t : zq_T} {k d : Nat} {Q : Option Value → X → Prop} {nx : List zq_I → List Value → List Value → Nat × Nat → X → Prop} {ny : Nat → List Value → List Value → Nat × Nat → X → Prop} (C : zq_cx g O rep t k d Q nx ny) (a : Nat) : ∀ ls st cs x, nx (zq_sf t.2.2.2.2.1 a) ls st cs x → zq_x g rep d k a ls st cs x Q := by
  intro ls st cs x h
  obtain ⟨h1, h2⟩ := zq_ok.sf a C.2.2.1
  obtain ⟨h3, h4⟩ := C.2.2.2.1 _ ls st cs x h1 h
  rw [h2 h3] at h4
  exact h4
theorem zq_s_iconst {X : Type} {g : zq_G} {O : zq_O X} {rep : X → List zq_E} {t : zq_T} {k d : Nat} {Q : Option Value → X → Prop} {nx : List zq_I → List Value → List Value → Nat × Nat → X → Prop} {ny : Nat → List Value → List Value → Nat × Nat → X → Prop} (C : zq_cx g O rep t k d Q nx ny) {pc len : Nat} {aux : List Nat} {cst : Value} {mask : List Bool} {tl : List zq_I} {ls st : List Value} {cs : Nat × Nat} {x : X} {i : Int} (hg : zq_ok t ((pc, .iconst i, len, aux, cst, mask) :: tl)) (h : zq_st g O rep t.2.2.2.2.1 t.2.2.2.1 t.2.2.2.2.2.1 d Q nx ny ((pc, .iconst i, len, aux, cst, mask) :: tl) ls st cs x) : zq_x g rep d k pc ls st cs x Q := by
  obtain ⟨hdec, hlk, hn⟩ := zq_head C hg
  simp only [zq_lk, Bool.and_eq_true, decide_eq_true_eq] at hlk
  obtain rfl : len = 1 := Nat.eq_of_beq_eq_true hlk.2
  replace h : nx tl ls (cst :: st) cs x := h
  obtain rfl := hlk.1
  · intro t' ht' p e R s m args below meth c Z ha hr H locs la hw hl
    obtain rfl : t' = t := Option.some.inj (ht'.symm.trans C.2.1)
    exact lv_iconst ha.2.1 ha.2.2.1 hdec rfl (hn _ _ _ _ h t' ht' p e R s m args below meth c Z ha hr H locs la hw hl)
theorem zq_s_bipush {X : Type} {g : zq_G} {O : zq_O X} {rep : X → List zq_E} {t : zq_T} {k d : Nat} {Q : Option Value → X → Prop} {nx : List zq_I → List Value → List Value → Nat × Nat → X → Prop} {ny : Nat → List Value → List Value → Nat × Nat → X → Prop} (C : zq_cx g O rep t k d Q nx ny) {pc len : Nat} {aux : List Nat} {cst : Value} {mask : List Bool} {tl : List zq_I} {ls st : List Value} {cs : Nat × Nat} {x : X} {i : Int} (hg : zq_ok t ((pc, .bipush i, len, aux, cst, mask) :: tl)) (h : zq_st g O rep t.2.2.2.2.1 t.2.2.2.1 t.2.2.2.2.2.1 d Q nx ny ((pc, .bipush i, len, aux, cst, mask) :: tl) ls st cs x) : zq_x g rep d k pc ls st cs x Q := by
  obtain ⟨hdec, hlk, hn⟩ := zq_head C hg
  simp only [zq_lk, Bool.and_eq_true, decide_eq_true_eq] at hlk
  obtain rfl : len = 2 := Nat.eq_of_beq_eq_true hlk.2
  replace h : nx tl ls (cst :: st) cs x := h
  obtain rfl := hlk.1
  · intro t' ht' p e R s m args below meth c Z ha hr H locs la hw hl
    obtain rfl : t' = t := Option.some.inj (ht'.symm.trans C.2.1)
    exact lv_bipush ha.2.1 ha.2.2.1 hdec rfl (hn _ _ _ _ h t' ht' p e R s m args below meth c Z ha hr H locs la hw hl)
theorem zq_s_sipush {X : Type} {g : zq_G} {O : zq_O X} {rep : X → List zq_E} {t : zq_T} {k d : Nat} {Q : Option Value → X → Prop} {nx : List zq_I → List Value → List Value → Nat × Nat → X → Prop} {ny : Nat → List Value → List Value → Nat × Nat → X → Prop} (C : zq_cx g O rep t k d Q nx ny) {pc len : Nat} {aux : List Nat} {cst : Value} {mask : List Bool} {tl : List zq_I} {ls st : List Value} {cs : Nat × Nat} {x : X} {i : Int} (hg : zq_ok t ((pc, .sipush i, len, aux, cst, mask) :: tl)) (h : zq_st g O rep t.2.2.2.2.1 t.2.2.2.1 t.2.2.2.2.2.1 d Q nx ny ((pc, .sipush i, len, aux, cst, mask) :: tl) ls st cs x) : zq_x g rep d k pc ls st cs x Q := by
  obtain ⟨hdec, hlk, hn⟩ := zq_head C hg
  simp only [zq_lk, Bool.and_eq_true, decide_eq_true_eq] at hlk
  obtain rfl : len = 3 := Nat.eq_of_beq_eq_true hlk.2
  replace h : nx tl ls (cst :: st) cs x := h
  obtain rfl := hlk.1
  · intro t' ht' p e R s m args below meth c Z ha hr H locs la hw hl
    obtain rfl : t' = t := Option.some.inj (ht'.symm.trans C.2.1)
    exact lv_sipush ha.2.1 ha.2.2.1 hdec rfl (hn _ _ _ _ h t' ht' p e R s m args below meth c Z ha hr H locs la hw hl)
theorem zq_s_lconst {X : Type} {g : zq_G} {O : zq_O X} {rep : X → List zq_E} {t : zq_T} {k d : Nat} {Q : Option Value → X → Prop} {nx : List zq_I → List Value → List Value → Nat × Nat → X → Prop} {ny : Nat → List Value → List Value → Nat × Nat → X → Prop} (C : zq_cx g O rep t k d Q nx ny) {pc len : Nat} {aux : List Nat} {cst : Value} {mask : List Bool} {tl : List zq_I} {ls st : List Value} {cs : Nat × Nat} {x : X} {i : Fin 2} (hg : zq_ok t ((pc, .lconst i, len, aux, cst, mask) :: tl)) (h : zq_st g O rep t.2.2.2.2.1 t.2.2.2.1 t.2.2.2.2.2.1 d Q nx ny ((pc, .lconst i, len, aux, cst, mask) :: tl) ls st cs x) : zq_x g rep d k pc ls st cs x Q := by
  obtain ⟨hdec, hlk, hn⟩ := zq_head C hg
  simp only [zq_lk, Bool.and_eq_true, decide_eq_true_eq] at hlk
  obtain rfl : len = 1 := Nat.eq_of_beq_eq_true hlk.2
  replace h : nx tl ls (cst :: st) cs x := h
  obtain rfl := hlk.1
  · intro t' ht' p e R s m args below meth c Z ha hr H locs la hw hl
    obtain rfl : t' = t := Option.some.inj (ht'.symm.trans C.2.1)
    exact lv_lconst ha.2.1 ha.2.2.1 hdec rfl (hn _ _ _ _ h t' ht' p e R s m args below meth c Z ha hr H locs la hw hl)
theorem zq_s_ldc2_w {X : Type} {g : zq_G} {O : zq_O X} {rep : X → List zq_E} {t : zq_T} {k d : Nat} {Q : Option Value → X → Prop} {nx : List zq_I → List Value → List Value → Nat × Nat → X → Prop} {ny : Nat → List Value → List Value → Nat × Nat → X → Prop} (C : zq_cx g O rep t k d Q nx ny) {pc len : Nat} {aux : List Nat} {cst : Value} {mask : List Bool} {tl : List zq_I} {ls st : List Value} {cs : Nat × Nat} {x : X} {i : Nat} (hg : zq_ok t ((pc, .ldc2_w i, len, aux, cst, mask) :: tl)) (h : zq_st g O rep t.2.2.2.2.1 t.2.2.2.1 t.2.2.2.2.2.1 d Q nx ny ((pc, .ldc2_w i, len, aux, cst, mask) :: tl) ls st cs x) : zq_x g rep d k pc ls st cs x Q := by
  obtain ⟨hdec, hlk, hn⟩ := zq_head C hg
  simp only [zq_lk, Bool.and_eq_true, decide_eq_true_eq] at hlk
  obtain rfl : len = 3 := Nat.eq_of_beq_eq_true hlk.2
  replace h : nx tl ls (cst :: st) cs x := h
  have h1 := hlk.1
  split at h1
  · intro t' ht' p e R s m args below meth c Z ha hr H locs la hw hl
    obtain rfl : t' = t := Option.some.inj (ht'.symm.trans C.2.1)
    exact lv_ldc2 ha.2.1 ha.2.2.1 ha.2.2.2.2.2.1 (ha.2.2.2.2.2.2.1 _ (zq_is_in h1)) hdec (hn _ _ _ _ h t' ht' p e R s m args below meth c Z ha hr H locs la hw hl)
  · cases h1
theorem zq_s_ldc {X : Type} {g : zq_G} {O : zq_O X} {rep : X → List zq_E} {t : zq_T} {k d : Nat} {Q : Option Value → X → Prop} {nx : List zq_I → List Value → List Value → Nat × Nat → X → Prop} {ny : Nat → List Value → List Value → Nat × Nat → X → Prop} (C : zq_cx g O rep t k d Q nx ny) {pc len : Nat} {aux : List Nat} {cst : Value} {mask : List Bool} {tl : List zq_I} {ls st : List Value} {cs : Nat × Nat} {x : X} {i : Nat} (hg : zq_ok t ((pc, .ldc i, len, aux, cst, mask) :: tl)) (h : zq_st g O rep t.2.2.2.2.1 t.2.2.2.1 t.2.2.2.2.2.1 d Q nx ny ((pc, .ldc i, len, aux, cst, mask) :: tl) ls st cs x) : zq_x g rep d k pc ls st cs x Q := by
  obtain ⟨hdec, hlk, hn⟩ := zq_head C hg
  simp only [zq_lk, Bool.and_eq_true, decide_eq_true_eq] at hlk
  obtain rfl : len = 2 := Nat.eq_of_beq_eq_true hlk.2
  have h1 := hlk.1
  clear hlk
  replace h : (match (generalizing := false) aux with
    | [1, j] => nx tl ls (.ref (2000 + j) :: st) cs x
    | _ => nx tl ls (cst :: st) cs x) := h
  split at h1
  · next j =>
    replace h : nx tl ls (.ref (2000 + j) :: st) cs x := h
    intro t' ht' p e R s m args below meth c Z ha hr H locs la hw hl
    obtain rfl : t' = t := Option.some.inj (ht'.symm.trans C.2.1)
    obtain ⟨q, hq, e2⟩ := Option.map_eq_some_iff.mp (of_decide_eq_true h1)
    have hz := ha.2.2.2.2.2.2.2.2.2.2.1.2.2.2.2.2.1 j q hq
    obtain ⟨e3, e4⟩ := Prod.mk.inj e2
    rw [e3, e4] at hz
    exact va_ldcS ha.2.1 ha.2.2.1 ha.2.2.2.2.2.1 hz hdec (hn _ _ _ _ h t' ht' p e R s m args below meth c Z ha hr H locs la hw hl)
  · next hne =>
    have h2 : nx tl ls (cst :: st) cs x := by
      split at h
      · next j => exact absurd rfl (hne j)
      · exact h
    clear h
    split at h1
    · intro t' ht' p e R s m args below meth c Z ha hr H locs la hw hl
      obtain rfl : t' = t := Option.some.inj (ht'.symm.trans C.2.1)
      exact lv_ldc ha.2.1 ha.2.2.1 ha.2.2.2.2.2.1 (ha.2.2.2.2.2.2.1 _ (zq_is_in h1)) hdec (hn _ _ _ _ h2 t' ht' p e R s m args below meth c Z ha hr H locs la hw hl)
    · cases h1
theorem zq_s_iload {X : Type} {g : zq_G} {O : zq_O X} {rep : X → List zq_E} {t : zq_T} {k d : Nat} {Q : Option Value → X → Prop} {nx : List zq_I → List Value → List Value → Nat × Nat → X → Prop} {ny : Nat → List Value → List Value → Nat × Nat → X → Prop} (C : zq_cx g O rep t k d Q nx ny) {pc len : Nat} {aux : List Nat} {cst : Value} {mask : List Bool} {tl : List zq_I} {ls st : List Value} {cs : Nat × Nat} {x : X} {i : Nat} (hg : zq_ok t ((pc, .iload i, len, aux, cst, mask) :: tl)) (h : zq_st g O rep t.2.2.2.2.1 t.2.2.2.1 t.2.2.2.2.2.1 d Q nx ny ((pc, .iload i, len, aux, cst, mask) :: tl) ls st cs x) : zq_x g rep d k pc ls st cs x Q := by
  obtain ⟨hdec, hlk, hn⟩ := zq_head C hg
  simp only [zq_lk, Bool.and_eq_true, decide_eq_true_eq] at hlk
  obtain rfl : len = 2 := Nat.eq_of_beq_eq_true hlk.2
  replace h : (match (generalizing := false) zq_at ls (zq_ix aux 0) with
    | .int v => nx tl ls (.int v :: st) cs x
    | _ => False) := h
  rw [Nat.eq_of_beq_eq_true hlk.1] at h
  split at h
  · next v hv =>
    intro t' ht' p e R s m args below meth c Z ha hr H locs la hw hl
    obtain rfl : t' = t := Option.some.inj (ht'.symm.trans C.2.1)
    have hv' := zq_at_get ls _ _ hv (by intro q; cases q)
    exact lv_iload ha.2.1 ha.2.2.1 hdec (hl.2.2 _ (zq_lv_of hv' (by intro q; cases q))) (hn _ _ _ _ h t' ht' p e R s m args below meth c Z ha hr H locs la hw hl)
  · exact h.elim
theorem zq_s_iload_n {X : Type} {g : zq_G} {O : zq_O X} {rep : X → List zq_E} {t : zq_T} {k d : Nat} {Q : Option Value → X → Prop} {nx : List zq_I → List Value → List Value → Nat × Nat → X → Prop} {ny : Nat → List Value → List Value → Nat × Nat → X → Prop} (C : zq_cx g O rep t k d Q nx ny) {pc len : Nat} {aux : List Nat} {cst : Value} {mask : List Bool} {tl : List zq_I} {ls st : List Value} {cs : Nat × Nat} {x : X} {i : Fin 4} (hg : zq_ok t ((pc, .iload_n i, len, aux, cst, mask) :: tl)) (h : zq_st g O rep t.2.2.2.2.1 t.2.2.2.1 t.2.2.2.2.2.1 d Q nx ny ((pc, .iload_n i, len, aux, cst, mask) :: tl) ls st cs x) : zq_x g rep d k pc ls st cs x Q := by
  obtain ⟨hdec, hlk, hn⟩ := zq_head C hg
  simp only [zq_lk, Bool.and_eq_true, decide_eq_true_eq] at hlk
  obtain rfl : len = 1 := Nat.eq_of_beq_eq_true hlk.2
  replace h : (match (generalizing := false) zq_at ls (zq_ix aux 0) with
    | .int v => nx tl ls (.int v :: st) cs x
    | _ => False) := h
  rw [Nat.eq_of_beq_eq_true hlk.1] at h
  split at h
  · next v hv =>
    intro t' ht' p e R s m args below meth c Z ha hr H locs la hw hl
    obtain rfl : t' = t := Option.some.inj (ht'.symm.trans C.2.1)
    have hv' := zq_at_get ls _ _ hv (by intro q; cases q)
    exact lv_iload_n ha.2.1 ha.2.2.1 hdec rfl (hl.2.2 _ (zq_lv_of hv' (by intro q; cases q))) (hn _ _ _ _ h t' ht' p e R s m args below meth c Z ha hr H locs la hw hl)
  · exact h.elim
theorem zq_s_lload {X : Type} {g : zq_G} {O : zq_O X} {rep : X → List zq_E} {t : zq_T} {k d : Nat} {Q : Option Value → X → Prop} {nx : List zq_I → List Value → List Value → Nat × Nat → X → Prop} {ny : Nat → List Value → List Value → Nat × Nat → X → Prop} (C : zq_cx g O rep t k d Q nx ny) {pc len : Nat} {aux : List Nat} {cst : Value} {mask : List Bool} {tl : List zq_I} {ls st : List Value} {cs : Nat × Nat} {x : X} {i : Nat} (hg : zq_ok t ((pc, .lload i, len, aux, cst, mask) :: tl)) (h : zq_st g O rep t.2.2.2.2.1 t.2.2.2.1 t.2.2.2.2.2.1 d Q nx ny ((pc, .lload i, len, aux, cst, mask) :: tl) ls st cs x) : zq_x g rep d k pc ls st cs x Q := by
  obtain ⟨hdec, hlk, hn⟩ := zq_head C hg
  simp only [zq_lk, Bool.and_eq_true, decide_eq_true_eq] at hlk
  obtain rfl : len = 2 := Nat.eq_of_beq_eq_true hlk.2
  replace h : (match (generalizing := false) zq_at ls (zq_ix aux 0) with
    | .long v => nx tl ls (.long v :: st) cs x
    | _ => False) := h
  rw [Nat.eq_of_beq_eq_true hlk.1] at h
  split at h
  · next v hv =>
    intro t' ht' p e R s m args below meth c Z ha hr H locs la hw hl
    obtain rfl : t' = t := Option.some.inj (ht'.symm.trans C.2.1)
    have hv' := zq_at_get ls _ _ hv (by intro q; cases q)
    exact lv_lload ha.2.1 ha.2.2.1 hdec (hl.2.2 _ (zq_lv_of hv' (by intro q; cases q))) (hn _ _ _ _ h t' ht' p e R s m args below meth c Z ha hr H locs la hw hl)
  · exact h.elim
theorem zq_s_lload_n {X : Type} {g : zq_G} {O : zq_O X} {rep : X → List zq_E} {t : zq_T} {k d : Nat} {Q : Option Value → X → Prop} {nx : List zq_I → List Value → List Value → Nat × Nat → X → Prop} {ny : Nat → List Value → List Value → Nat × Nat → X → Prop} (C : zq_cx g O rep t k d Q nx ny) {pc len : Nat} {aux : List Nat} {cst : Value} {mask : List Bool} {tl : List zq_I} {ls st : List Value} {cs : Nat × Nat} {x : X} {i : Fin 4} (hg : zq_ok t ((pc, .lload_n i, len, aux, cst, mask) :: tl)) (h : zq_st g O rep t.2.2.2.2.1 t.2.2.2.1 t.2.2.2.2.2.1 d Q nx ny ((pc, .lload_n i, len, aux, cst, mask) :: tl) ls st cs x) : zq_x g rep d k pc ls st cs x Q := by
  obtain ⟨hdec, hlk, hn⟩ := zq_head C hg
  simp only [zq_lk, Bool.and_eq_true, decide_eq_true_eq] at hlk
  obtain rfl : len = 1 := Nat.eq_of_beq_eq_true hlk.2
  replace h : (match (generalizing := false) zq_at ls (zq_ix aux 0) with
    | .long v => nx tl ls (.long v :: st) cs x
    | _ => False) := h
  rw [Nat.eq_of_beq_eq_true hlk.1] at h
  split at h
  · next v hv =>
    intro t' ht' p e R s m args below meth c Z ha hr H locs la hw hl
    obtain rfl : t' = t := Option.some.inj (ht'.symm.trans C.2.1)
    have hv' := zq_at_get ls _ _ hv (by intro q; cases q)
    exact lv_lload_n ha.2.1 ha.2.2.1 hdec rfl (hl.2.2 _ (zq_lv_of hv' (by intro q; cases q))) (hn _ _ _ _ h t' ht' p e R s m args below meth c Z ha hr H locs la hw hl)
  · exact h.elim
theorem zq_s_aload {X : Type} {g : zq_G} {O : zq_O X} {rep : X → List zq_E} {t : zq_T} {k d : Nat} {Q : Option Value → X → Prop} {nx : List zq_I → List Value → List Value → Nat × Nat → X → Prop} {ny : Nat → List Value → List Value → Nat × Nat → X → Prop} (C : zq_cx g O rep t k d Q nx ny) {pc len : Nat} {aux : List Nat} {cst : Value} {mask : List Bool} {tl : List zq_I} {ls st : List Value} {cs : Nat × Nat} {x : X} {i : Nat} (hg : zq_ok t ((pc, .aload i, len, aux, cst, mask) :: tl)) (h : zq_st g O rep t.2.2.2.2.1 t.2.2.2.1 t.2.2.2.2.2.1 d Q nx ny ((pc, .aload i, len, aux, cst, mask) :: tl) ls st cs x) : zq_x g rep d k pc ls st cs x Q := by
  obtain ⟨hdec, hlk, hn⟩ := zq_head C hg
  simp only [zq_lk, Bool.and_eq_true, decide_eq_true_eq] at hlk
  obtain rfl : len = 2 := Nat.eq_of_beq_eq_true hlk.2
  replace h : (match (generalizing := false) zq_at ls (zq_ix aux 0) with
    | .ref v => nx tl ls (.ref v :: st) cs x
    | _ => False) := h
  rw [Nat.eq_of_beq_eq_true hlk.1] at h
  split at h
  · next v hv =>
    intro t' ht' p e R s m args below meth c Z ha hr H locs la hw hl
    obtain rfl : t' = t := Option.some.inj (ht'.symm.trans C.2.1)
    have hv' := zq_at_get ls _ _ hv (by intro q; cases q)
    exact lv_aload ha.2.1 ha.2.2.1 hdec (hl.2.2 _ (zq_lv_of hv' (by intro q; cases q))) (hn _ _ _ _ h t' ht' p e R s m args below meth c Z ha hr H locs la hw hl)
  · exact h.elim
theorem zq_s_aload_n {X : Type} {g : zq_G} {O : zq_O X} {rep : X → List zq_E} {t : zq_T} {k d : Nat} {Q : Option Value → X → Prop} {nx : List zq_I → List Value → List Value → Nat × Nat → X → Prop} {ny : Nat → List Value → List Value → Nat × Nat → X → Prop} (C : zq_cx g O rep t k d Q nx ny) {pc len : Nat} {aux : List Nat} {cst : Value} {mask : List Bool} {tl : List zq_I} {ls st : List Value} {cs : Nat × Nat} {x : X} {i : Fin 4} (hg : zq_ok t ((pc, .aload_n i, len, aux, cst, mask) :: tl)) (h : zq_st g O rep t.2.2.2.2.1 t.2.2.2.1 t.2.2.2.2.2.1 d Q nx ny ((pc, .aload_n i, len, aux, cst, mask) :: tl) ls st cs x) : zq_x g rep d k pc ls st cs x Q := by
  obtain ⟨hdec, hlk, hn⟩ := zq_head C hg
  simp only [zq_lk, Bool.and_eq_true, decide_eq_true_eq] at hlk
  obtain rfl : len = 1 := Nat.eq_of_beq_eq_true hlk.2
  replace h : (match (generalizing := false) zq_at ls (zq_ix aux 0) with
    | .ref v => nx tl ls (.ref v :: st) cs x
    | _ => False) := h
  rw [Nat.eq_of_beq_eq_true hlk.1] at h
  split at h
  · next v hv =>
    intro t' ht' p e R s m args below meth c Z ha hr H locs la hw hl
    obtain rfl : t' = t := Option.some.inj (ht'.symm.trans C.2.1)
    have hv' := zq_at_get ls _ _ hv (by intro q; cases q)
    exact lv_aload_n ha.2.1 ha.2.2.1 hdec rfl (hl.2.2 _ (zq_lv_of hv' (by intro q; cases q))) (hn _ _ _ _ h t' ht' p e R s m args below meth c Z ha hr H locs la hw hl)
  · exact h.elim
theorem zq_sto1 {g : zq_G} {la : Array Slot} {n i : Nat} {v : Value} {ls : List Value} (h : lv_has la n ((i, zq_c g v) :: (zq_lv g 0 ls).filter (fun q => !(q.1 == i) && !(q.1 + 1 == i && q.2.category == 2)))) : lv_has la n (zq_lv g 0 (zq_se (zq_kl ls i) i v)) := by
  refine zq_lv_le h (fun j w h1 h2 => ?_)
  rw [zq_se_get] at h1
  by_cases e : j = i
  · rw [if_pos e] at h1
    split at h1
    · cases h1; rw [e]; exact List.mem_cons_self
    · cases h1
  · rw [if_neg e] at h1
    obtain ⟨h3, h4⟩ := zq_kl_get ls i j w h1 h2
    refine List.mem_cons_of_mem _ (List.mem_filter.mpr ⟨zq_lv_of h3 h2, ?_⟩)
    have h5 : ¬ (j + 1 = i ∧ (zq_c g w).category = 2) := by rw [zq_c_cat]; exact h4
    simp [e]
    omega
theorem zq_sto2 {g : zq_G} {la : Array Slot} {n i : Nat} {v : Value} {ls : List Value} (h : lv_has la n ((i, zq_c g v) :: (zq_lv g 0 ls).filter (fun q => !(q.1 == i) && (!(q.1 == i + 1) && !(q.1 + 1 == i && q.2.category == 2))))) : lv_has la n (zq_lv g 0 (zq_se (zq_se (zq_kl ls i) i v) (i + 1) .null)) := by
  refine zq_lv_le h (fun j w h1 h2 => ?_)
  rw [zq_se_get] at h1
  by_cases e1 : j = i + 1
  · rw [if_pos e1] at h1
    split at h1
    · cases h1; exact absurd rfl h2
    · cases h1
  · rw [if_neg e1, zq_se_get] at h1
    by_cases e : j = i
    · rw [if_pos e] at h1
      split at h1
      · cases h1; rw [e]; exact List.mem_cons_self
      · cases h1
    · rw [if_neg e] at h1
      obtain ⟨h3, h4⟩ := zq_kl_get ls i j w h1 h2
      refine List.mem_cons_of_mem _ (List.mem_filter.mpr ⟨zq_lv_of h3 h2, ?_⟩)
      have h5 : ¬ (j + 1 = i ∧ (zq_c g w).category = 2) := by rw [zq_c_cat]; exact h4
      simp [e, e1]
      omega
theorem zq_s_istore {X : Type} {g : zq_G} {O : zq_O X} {rep : X → List zq_E} {t : zq_T} {k d : Nat} {Q : Option Value → X → Prop} {nx : List zq_I → List Value → List Value → Nat × Nat → X → Prop} {ny : Nat → List Value → List Value → Nat × Nat → X → Prop} (C : zq_cx g O rep t k d Q nx ny) {pc len : Nat} {aux : List Nat} {cst : Value} {mask : List Bool} {tl : List zq_I} {ls st : List Value} {cs : Nat × Nat} {x : X} {i : Nat} (hg : zq_ok t ((pc, .istore i, len, aux, cst, mask) :: tl)) (h : zq_st g O rep t.2.2.2.2.1 t.2.2.2.1 t.2.2.2.2.2.1 d Q nx ny ((pc, .istore i, len, aux, cst, mask) :: tl) ls st cs x) : zq_x g rep d k pc ls st cs x Q := by
  obtain ⟨hdec, hlk, hn⟩ := zq_head C hg
  simp only [zq_lk, Bool.and_eq_true, decide_eq_true_eq] at hlk
  obtain rfl : len = 2 := Nat.eq_of_beq_eq_true hlk.2
  replace h : (match (generalizing := false) st with
    | .int v :: st => nx tl (zq_se (zq_kl ls (zq_ix aux 0)) (zq_ix aux 0) (.int v)) st cs x
    | _ => False) := h
  rw [Nat.eq_of_beq_eq_true hlk.1.1] at h
  split at h
  · intro t' ht' p e R s m args below meth c Z ha hr H locs la hw hl
    obtain rfl : t' = t := Option.some.inj (ht'.symm.trans C.2.1)
    exact lv_istore ha.2.1 ha.2.2.1 hdec hl (Nat.le_of_ble_eq_true hlk.1.2) rfl (fun la' hl' => hn _ _ _ _ h t' ht' p e R s m args below meth c Z ha hr H locs la' hw (zq_sto1 hl'))
  · exact h.elim
theorem zq_s_istore_n {X : Type} {g : zq_G} {O : zq_O X} {rep : X → List zq_E} {t : zq_T} {k d : Nat} {Q : Option Value → X → Prop} {nx : List zq_I → List Value → List Value → Nat × Nat → X → Prop} {ny : Nat → List Value → List Value → Nat × Nat → X → Prop} (C : zq_cx g O rep t k d Q nx ny) {pc len : Nat} {aux : List Nat} {cst : Value} {mask : List Bool} {tl : List zq_I} {ls st : List Value} {cs : Nat × Nat} {x : X} {i : Fin 4} (hg : zq_ok t ((pc, .istore_n i, len, aux, cst, mask) :: tl)) (h : zq_st g O rep t.2.2.2.2.1 t.2.2.2.1 t.2.2.2.2.2.1 d Q nx ny ((pc, .istore_n i, len, aux, cst, mask) :: tl) ls st cs x) : zq_x g rep d k pc ls st cs x Q := by
  obtain ⟨hdec, hlk, hn⟩ := zq_head C hg
  simp only [zq_lk, Bool.and_eq_true, decide_eq_true_eq] at hlk
  obtain rfl : len = 1 := Nat.eq_of_beq_eq_true hlk.2
  replace h : (match (generalizing := false) st with
    | .int v :: st => nx tl (zq_se (zq_kl ls (zq_ix aux 0)) (zq_ix aux 0) (.int v)) st cs x
    | _ => False) := h
  rw [Nat.eq_of_beq_eq_true hlk.1.1] at h
  split at h
  · intro t' ht' p e R s m args below meth c Z ha hr H locs la hw hl
    obtain rfl : t' = t := Option.some.inj (ht'.symm.trans C.2.1)
    exact lv_istore_n ha.2.1 ha.2.2.1 hdec rfl hl (Nat.le_of_ble_eq_true hlk.1.2) rfl (fun la' hl' => hn _ _ _ _ h t' ht' p e R s m args below meth c Z ha hr H locs la' hw (zq_sto1 hl'))
  · exact h.elim
theorem zq_s_astore {X : Type} {g : zq_G} {O : zq_O X} {rep : X → List zq_E} {t : zq_T} {k d : Nat} {Q : Option Value → X → Prop} {nx : List zq_I → List Value → List Value → Nat × Nat → X → Prop} {ny : Nat → List Value → List Value → Nat × Nat → X → Prop} (C : zq_cx g O rep t k d Q nx ny) {pc len : Nat} {aux : List Nat} {cst : Value} {mask : List Bool} {tl : List zq_I} {ls st : List Value} {cs : Nat × Nat} {x : X} {i : Nat} (hg : zq_ok t ((pc, .astore i, len, aux, cst, mask) :: tl)) (h : zq_st g O rep t.2.2.2.2.1 t.2.2.2.1 t.2.2.2.2.2.1 d Q nx ny ((pc, .astore i, len, aux, cst, mask) :: tl) ls st cs x) : zq_x g rep d k pc ls st cs x Q := by
  obtain ⟨hdec, hlk, hn⟩ := zq_head C hg
  simp only [zq_lk, Bool.and_eq_true, decide_eq_true_eq] at hlk
  obtain rfl : len = 2 := Nat.eq_of_beq_eq_true hlk.2
  replace h : (match (generalizing := false) st with
    | .ref v :: st => nx tl (zq_se (zq_kl ls (zq_ix aux 0)) (zq_ix aux 0) (.ref v)) st cs x
    | _ => False) := h
  rw [Nat.eq_of_beq_eq_true hlk.1.1] at h
  split at h
  · intro t' ht' p e R s m args below meth c Z ha hr H locs la hw hl
    obtain rfl : t' = t := Option.some.inj (ht'.symm.trans C.2.1)
    exact lv_astore ha.2.1 ha.2.2.1 hdec hl (Nat.le_of_ble_eq_true hlk.1.2) rfl (fun la' hl' => hn _ _ _ _ h t' ht' p e R s m args below meth c Z ha hr H locs la' hw (zq_sto1 hl'))
  · exact h.elim
theorem zq_s_astore_n {X : Type} {g : zq_G} {O : zq_O X} {rep : X → List zq_E} {t : zq_T} {k d : Nat} {Q : Option Value → X → Prop} {nx : List zq_I → List Value → List Value → Nat × Nat → X → Prop} {ny : Nat → List Value → List Value → Nat × Nat → X → Prop} (C : zq_cx g O rep t k d Q nx ny) {pc len : Nat} {aux : List Nat} {cst : Value} {mask : List Bool} {tl : List zq_I} {ls st : List Value} {cs : Nat × Nat} {x : X} {i : Fin 4} (hg : zq_ok t ((pc, .astore_n i, len, aux, cst, mask) :: tl)) (h : zq_st g O rep t.2.2.2.2.1 t.2.2.2.1 t.2.2.2.2.2.1 d Q nx ny ((pc, .astore_n i, len, aux, cst, mask) :: tl) ls st cs x) : zq_x g rep d k pc ls st cs x Q := by
  obtain ⟨hdec, hlk, hn⟩ := zq_head C hg
  simp only [zq_lk, Bool.and_eq_true, decide_eq_true_eq] at hlk
  obtain rfl : len = 1 := Nat.eq_of_beq_eq_true hlk.2
  replace h : (match (generalizing := false) st with
    | .ref v :: st => nx tl (zq_se (zq_kl ls (zq_ix aux 0)) (zq_ix aux 0) (.ref v)) st cs x
    | _ => False) := h
  rw [Nat.eq_of_beq_eq_true hlk.1.1] at h
  split at h
  · intro t' ht' p e R s m args below meth c Z ha hr H locs la hw hl
    obtain rfl : t' = t := Option.some.inj (ht'.symm.trans C.2.1)
    exact lv_astore_n ha.2.1 ha.2.2.1 hdec rfl hl (Nat.le_of_ble_eq_true hlk.1.2) rfl (fun la' hl' => hn _ _ _ _ h t' ht' p e R s m args below meth c Z ha hr H locs la' hw (zq_sto1 hl'))
  · exact h.elim
theorem zq_s_lstore {X : Type} {g : zq_G} {O : zq_O X} {rep : X → List zq_E} {t : zq_T} {k d : Nat} {Q : Option Value → X → Prop} {nx : List zq_I → List Value → List Value → Nat × Nat → X → Prop} {ny : Nat → List Value → List Value → Nat × Nat → X → Prop} (C : zq_cx g O rep t k d Q nx ny) {pc len : Nat} {aux : List Nat} {cst : Value} {mask : List Bool} {tl : List zq_I} {ls st : List Value} {cs : Nat × Nat} {x : X} {i : Nat} (hg : zq_ok t ((pc, .lstore i, len, aux, cst, mask) :: tl)) (h : zq_st g O rep t.2.2.2.2.1 t.2.2.2.1 t.2.2.2.2.2.1 d Q nx ny ((pc, .lstore i, len, aux, cst, mask) :: tl) ls st cs x) : zq_x g rep d k pc ls st cs x Q := by
  obtain ⟨hdec, hlk, hn⟩ := zq_head C hg
  simp only [zq_lk, Bool.and_eq_true, decide_eq_true_eq] at hlk
  obtain rfl : len = 2 := Nat.eq_of_beq_eq_true hlk.2
  replace h : (match (generalizing := false) st with
    | .long v :: st => nx tl (zq_se (zq_se (zq_kl ls (zq_ix aux 0)) (zq_ix aux 0) (.long v)) (zq_ix aux 0 + 1) .null) st cs x
    | _ => False) := h
  rw [Nat.eq_of_beq_eq_true hlk.1.1] at h
  split at h
  · intro t' ht' p e R s m args below meth c Z ha hr H locs la hw hl
    obtain rfl : t' = t := Option.some.inj (ht'.symm.trans C.2.1)
    exact lv_lstore ha.2.1 ha.2.2.1 hdec hl (Nat.le_of_ble_eq_true hlk.1.2) rfl (fun la' hl' => hn _ _ _ _ h t' ht' p e R s m args below meth c Z ha hr H locs la' hw (zq_sto2 hl'))
  · exact h.elim
theorem zq_s_lstore_n {X : Type} {g : zq_G} {O : zq_O X} {rep : X → List zq_E} {t : zq_T} {k d : Nat} {Q : Option Value → X → Prop} {nx : List zq_I → List Value → List Value → Nat × Nat → X → Prop} {ny : Nat → List Value → List Value → Nat × Nat → X → Prop} (C : zq_cx g O rep t k d Q nx ny) {pc len : Nat} {aux : List Nat} {cst : Value} {mask : List Bool} {tl : List zq_I} {ls st : List Value} {cs : Nat × Nat} {x : X} {i : Fin 4} (hg : zq_ok t ((pc, .lstore_n i, len, aux, cst, mask) :: tl)) (h : zq_st g O rep t.2.2.2.2.1 t.2.2.2.1 t.2.2.2.2.2.1 d Q nx ny ((pc, .lstore_n i, len, aux, cst, mask) :: tl) ls st cs x) : zq_x g rep d k pc ls st cs x Q := by
  obtain ⟨hdec, hlk, hn⟩ := zq_head C hg
  simp only [zq_lk, Bool.and_eq_true, decide_eq_true_eq] at hlk
  obtain rfl : len = 1 := Nat.eq_of_beq_eq_true hlk.2
  replace h : (match (generalizing := false) st with
    | .long v :: st => nx tl (zq_se (zq_se (zq_kl ls (zq_ix aux 0)) (zq_ix aux 0) (.long v)) (zq_ix aux 0 + 1) .null) st cs x
    | _ => False) := h
  rw [Nat.eq_of_beq_eq_true hlk.1.1] at h
  split at h
  · intro t' ht' p e R s m args below meth c Z ha hr H locs la hw hl
    obtain rfl : t' = t := Option.some.inj (ht'.symm.trans C.2.1)
    exact lv_lstore_n ha.2.1 ha.2.2.1 hdec rfl hl (Nat.le_of_ble_eq_true hlk.1.2) rfl (fun la' hl' => hn _ _ _ _ h t' ht' p e R s m args below meth c Z ha hr H locs la' hw (zq_sto2 hl'))
  · exact h.elim
theorem zq_s_iinc {X : Type} {g : zq_G} {O : zq_O X} {rep : X → List zq_E} {t : zq_T} {k d : Nat} {Q : Option Value → X → Prop} {nx : List zq_I → List Value → List Value → Nat × Nat → X → Prop} {ny : Nat → List Value → List Value → Nat × Nat → X → Prop} (C : zq_cx g O rep t k d Q nx ny) {pc len : Nat} {aux : List Nat} {cst : Value} {mask : List Bool} {tl : List zq_I} {ls st : List Value} {cs : Nat × Nat} {x : X} {i : Nat} {n : Int} (hg : zq_ok t ((pc, .iinc i n, len, aux, cst, mask) :: tl)) (h : zq_st g O rep t.2.2.2.2.1 t.2.2.2.1 t.2.2.2.2.2.1 d Q nx ny ((pc, .iinc i n, len, aux, cst, mask) :: tl) ls st cs x) : zq_x g rep d k pc ls st cs x Q := by
  obtain ⟨hdec, hlk, hn⟩ := zq_head C hg
  simp only [zq_lk, Bool.and_eq_true, decide_eq_true_eq] at hlk
  obtain rfl : len = 3 := Nat.eq_of_beq_eq_true hlk.2
  replace h : (match (generalizing := false) zq_at ls (zq_ix aux 0), cst with
    | .int v, .int n => nx tl (zq_se (zq_kl ls (zq_ix aux 0)) (zq_ix aux 0) (.int (v + n))) st cs x
    | _, _ => False) := h
  rw [Nat.eq_of_beq_eq_true hlk.1.1.1] at h
  obtain rfl := hlk.1.2
  split at h
  · next v n' hv hn' =>
    cases hn'
    intro t' ht' p e R s m args below meth c Z ha hr H locs la hw hl
    obtain rfl : t' = t := Option.some.inj (ht'.symm.trans C.2.1)
    have hv' := zq_at_get ls _ _ hv (by intro q; cases q)
    obtain ⟨j, hj⟩ := List.getElem?_of_mem (zq_lv_of (g := g) hv' (by intro q; cases q))
    exact lv_iinc ha.2.1 ha.2.2.1 hdec hl hj rfl (Nat.le_of_ble_eq_true hlk.1.1.2) rfl (fun la' hl' => hn _ _ _ _ h t' ht' p e R s m args below meth c Z ha hr H locs la' hw (zq_sto1 hl'))
  · exact h.elim
theorem zq_s_iadd {X : Type} {g : zq_G} {O : zq_O X} {rep : X → List zq_E} {t : zq_T} {k d : Nat} {Q : Option Value → X → Prop} {nx : List zq_I → List Value → List Value → Nat × Nat → X → Prop} {ny : Nat → List Value → List Value → Nat × Nat → X → Prop} (C : zq_cx g O rep t k d Q nx ny) {pc len : Nat} {aux : List Nat} {cst : Value} {mask : List Bool} {tl : List zq_I} {ls st : List Value} {cs : Nat × Nat} {x : X} (hg : zq_ok t ((pc, .iadd, len, aux, cst, mask) :: tl)) (h : zq_st g O rep t.2.2.2.2.1 t.2.2.2.1 t.2.2.2.2.2.1 d Q nx ny ((pc, .iadd, len, aux, cst, mask) :: tl) ls st cs x) : zq_x g rep d k pc ls st cs x Q := by
  obtain ⟨hdec, hlk, hn⟩ := zq_head C hg
  simp only [zq_lk, Bool.and_eq_true, decide_eq_true_eq] at hlk
  obtain rfl : len = 1 := Nat.eq_of_beq_eq_true hlk.2
  replace h : (match (generalizing := false) st with
    | .int y :: .int z :: st => nx tl ls (.int (z + y) :: st) cs x
    | _ => False) := h
  split at h
  · intro t' ht' p e R s m args below meth c Z ha hr H locs la hw hl
    obtain rfl : t' = t := Option.some.inj (ht'.symm.trans C.2.1)
    exact lv_iadd ha.2.1 ha.2.2.1 hdec (hn _ _ _ _ h t' ht' p e R s m args below meth c Z ha hr H locs la hw hl)
  · exact h.elim
theorem zq_s_isub {X : Type} {g : zq_G} {O : zq_O X} {rep : X → List zq_E} {t : zq_T} {k d : Nat} {Q : Option Value → X → Prop} {nx : List zq_I → List Value → List Value → Nat × Nat → X → Prop} {ny : Nat → List Value → List Value → Nat × Nat → X → Prop} (C : zq_cx g O rep t k d Q nx ny) {pc len : Nat} {aux : List Nat} {cst : Value} {mask : List Bool} {tl : List zq_I} {ls st : List Value} {cs : Nat × Nat} {x : X} (hg : zq_ok t ((pc, .isub, len, aux, cst, mask) :: tl)) (h : zq_st g O rep t.2.2.2.2.1 t.2.2.2.1 t.2.2.2.2.2.1 d Q nx ny ((pc, .isub, len, aux, cst, mask) :: tl) ls st cs x) : zq_x g rep d k pc ls st cs x Q := by
  obtain ⟨hdec, hlk, hn⟩ := zq_head C hg
  simp only [zq_lk, Bool.and_eq_true, decide_eq_true_eq] at hlk
  obtain rfl : len = 1 := Nat.eq_of_beq_eq_true hlk.2
  replace h : (match (generalizing := false) st with
    | .int y :: .int z :: st => nx tl ls (.int (z - y) :: st) cs x
    | _ => False) := h
  split at h
  · intro t' ht' p e R s m args below meth c Z ha hr H locs la hw hl
    obtain rfl : t' = t := Option.some.inj (ht'.symm.trans C.2.1)
    exact lv_isub ha.2.1 ha.2.2.1 hdec (hn _ _ _ _ h t' ht' p e R s m args below meth c Z ha hr H locs la hw hl)
  · exact h.elim
theorem zq_s_imul {X : Type} {g : zq_G} {O : zq_O X} {rep : X → List zq_E} {t : zq_T} {k d : Nat} {Q : Option Value → X → Prop} {nx : List zq_I → List Value → List Value → Nat × Nat → X → Prop} {ny : Nat → List Value → List Value → Nat × Nat → X → Prop} (C : zq_cx g O rep t k d Q nx ny) {pc len : Nat} {aux : List Nat} {cst : Value} {mask : List Bool} {tl : List zq_I} {ls st : List Value} {cs : Nat × Nat} {x : X} (hg : zq_ok t ((pc, .imul, len, aux, cst, mask) :: tl)) (h : zq_st g O rep t.2.2.2.2.1 t.2.2.2.1 t.2.2.2.2.2.1 d Q nx ny ((pc, .imul, len, aux, cst, mask) :: tl) ls st cs x) : zq_x g rep d k pc ls st cs x Q := by
  obtain ⟨hdec, hlk, hn⟩ := zq_head C hg
  simp only [zq_lk, Bool.and_eq_true, decide_eq_true_eq] at hlk
  obtain rfl : len = 1 := Nat.eq_of_beq_eq_true hlk.2
  replace h : (match (generalizing := false) st with
    | .int y :: .int z :: st => nx tl ls (.int (z * y) :: st) cs x
    | _ => False) := h
  split at h
  · intro t' ht' p e R s m args below meth c Z ha hr H locs la hw hl
    obtain rfl : t' = t := Option.some.inj (ht'.symm.trans C.2.1)
    exact lv_imul ha.2.1 ha.2.2.1 hdec (hn _ _ _ _ h t' ht' p e R s m args below meth c Z ha hr H locs la hw hl)
  · exact h.elim
theorem zq_s_iand {X : Type} {g : zq_G} {O : zq_O X} {rep : X → List zq_E} {t : zq_T} {k d : Nat} {Q : Option Value → X → Prop} {nx : List zq_I → List Value → List Value → Nat × Nat → X → Prop} {ny : Nat → List Value → List Value → Nat × Nat → X → Prop} (C : zq_cx g O rep t k d Q nx ny) {pc len : Nat} {aux : List Nat} {cst : Value} {mask : List Bool} {tl : List zq_I} {ls st : List Value} {cs : Nat × Nat} {x : X} (hg : zq_ok t ((pc, .iand, len, aux, cst, mask) :: tl)) (h : zq_st g O rep t.2.2.2.2.1 t.2.2.2.1 t.2.2.2.2.2.1 d Q nx ny ((pc, .iand, len, aux, cst, mask) :: tl) ls st cs x) : zq_x g rep d k pc ls st cs x Q := by
  obtain ⟨hdec, hlk, hn⟩ := zq_head C hg
  simp only [zq_lk, Bool.and_eq_true, decide_eq_true_eq] at hlk
  obtain rfl : len = 1 := Nat.eq_of_beq_eq_true hlk.2
  replace h : (match (generalizing := false) st with
    | .int y :: .int z :: st => nx tl ls (.int (z &&& y) :: st) cs x
    | _ => False) := h
  split at h
  · intro t' ht' p e R s m args below meth c Z ha hr H locs la hw hl
    obtain rfl : t' = t := Option.some.inj (ht'.symm.trans C.2.1)
    exact lv_iand ha.2.1 ha.2.2.1 hdec (hn _ _ _ _ h t' ht' p e R s m args below meth c Z ha hr H locs la hw hl)
  · exact h.elim
theorem zq_s_ior {X : Type} {g : zq_G} {O : zq_O X} {rep : X → List zq_E} {t : zq_T} {k d : Nat} {Q : Option Value → X → Prop} {nx : List zq_I → List Value → List Value → Nat × Nat → X → Prop} {ny : Nat → List Value → List Value → Nat × Nat → X → Prop} (C : zq_cx g O rep t k d Q nx ny) {pc len : Nat} {aux : List Nat} {cst : Value} {mask : List Bool} {tl : List zq_I} {ls st : List Value} {cs : Nat × Nat} {x : X} (hg : zq_ok t ((pc, .ior, len, aux, cst, mask) :: tl)) (h : zq_st g O rep t.2.2.2.2.1 t.2.2.2.1 t.2.2.2.2.2.1 d Q nx ny ((pc, .ior, len, aux, cst, mask) :: tl) ls st cs x) : zq_x g rep d k pc ls st cs x Q := by
  obtain ⟨hdec, hlk, hn⟩ := zq_head C hg
  simp only [zq_lk, Bool.and_eq_true, decide_eq_true_eq] at hlk
  obtain rfl : len = 1 := Nat.eq_of_beq_eq_true hlk.2
  replace h : (match (generalizing := false) st with
    | .int y :: .int z :: st => nx tl ls (.int (z ||| y) :: st) cs x
    | _ => False) := h
  split at h
  · intro t' ht' p e R s m args below meth c Z ha hr H locs la hw hl
    obtain rfl : t' = t := Option.some.inj (ht'.symm.trans C.2.1)
    exact lv_ior ha.2.1 ha.2.2.1 hdec (hn _ _ _ _ h t' ht' p e R s m args below meth c Z ha hr H locs la hw hl)
  · exact h.elim
theorem zq_s_ishl {X : Type} {g : zq_G} {O : zq_O X} {rep : X → List zq_E} {t : zq_T} {k d : Nat} {Q : Option Value → X → Prop} {nx : List zq_I → List Value → List Value → Nat × Nat → X → Prop} {ny : Nat → List Value → List Value → Nat × Nat → X → Prop} (C : zq_cx g O rep t k d Q nx ny) {pc len : Nat} {aux : List Nat} {cst : Value} {mask : List Bool} {tl : List zq_I} {ls st : List Value} {cs : Nat × Nat} {x : X} (hg : zq_ok t ((pc, .ishl, len, aux, cst, mask) :: tl)) (h : zq_st g O rep t.2.2.2.2.1 t.2.2.2.1 t.2.2.2.2.2.1 d Q nx ny ((pc, .ishl, len, aux, cst, mask) :: tl) ls st cs x) : zq_x g rep d k pc ls st cs x Q := by
  obtain ⟨hdec, hlk, hn⟩ := zq_head C hg
  simp only [zq_lk, Bool.and_eq_true, decide_eq_true_eq] at hlk
  obtain rfl : len = 1 := Nat.eq_of_beq_eq_true hlk.2
  replace h : (match (generalizing := false) st with
    | .int y :: .int z :: st => nx tl ls (.int (z <<< (y &&& 31)) :: st) cs x
    | _ => False) := h
  split at h
  · intro t' ht' p e R s m args below meth c Z ha hr H locs la hw hl
    obtain rfl : t' = t := Option.some.inj (ht'.symm.trans C.2.1)
    exact lv_ishl ha.2.1 ha.2.2.1 hdec (hn _ _ _ _ h t' ht' p e R s m args below meth c Z ha hr H locs la hw hl)
  · exact h.elim
theorem zq_s_ishr {X : Type} {g : zq_G} {O : zq_O X} {rep : X → List zq_E} {t : zq_T} {k d : Nat} {Q : Option Value → X → Prop} {nx : List zq_I → List Value → List Value → Nat × Nat → X → Prop} {ny : Nat → List Value → List Value → Nat × Nat → X → Prop} (C : zq_cx g O rep t k d Q nx ny) {pc len : Nat} {aux : List Nat} {cst : Value} {mask : List Bool} {tl : List zq_I} {ls st : List Value} {cs : Nat × Nat} {x : X} (hg : zq_ok t ((pc, .ishr, len, aux, cst, mask) :: tl)) (h : zq_st g O rep t.2.2.2.2.1 t.2.2.2.1 t.2.2.2.2.2.1 d Q nx ny ((pc, .ishr, len, aux, cst, mask) :: tl) ls st cs x) : zq_x g rep d k pc ls st cs x Q := by
  obtain ⟨hdec, hlk, hn⟩ := zq_head C hg
  simp only [zq_lk, Bool.and_eq_true, decide_eq_true_eq] at hlk
  obtain rfl : len = 1 := Nat.eq_of_beq_eq_true hlk.2
  replace h : (match (generalizing := false) st with
    | .int y :: .int z :: st => nx tl ls (.int (z >>> (y &&& 31)) :: st) cs x
    | _ => False) := h
  split at h
  · intro t' ht' p e R s m args below meth c Z ha hr H locs la hw hl
    obtain rfl : t' = t := Option.some.inj (ht'.symm.trans C.2.1)
    exact lv_ishr ha.2.1 ha.2.2.1 hdec (hn _ _ _ _ h t' ht' p e R s m args below meth c Z ha hr H locs la hw hl)
  · exact h.elim
theorem zq_s_ladd {X : Type} {g : zq_G} {O : zq_O X} {rep : X → List zq_E} {t : zq_T} {k d : Nat} {Q : Option Value → X → Prop} {nx : List zq_I → List Value → List Value → Nat × Nat → X → Prop} {ny : Nat → List Value → List Value → Nat × Nat → X → Prop} (C : zq_cx g O rep t k d Q nx ny) {pc len : Nat} {aux : List Nat} {cst : Value} {mask : List Bool} {tl : List zq_I} {ls st : List Value} {cs : Nat × Nat} {x : X} (hg : zq_ok t ((pc, .ladd, len, aux, cst, mask) :: tl)) (h : zq_st g O rep t.2.2.2.2.1 t.2.2.2.1 t.2.2.2.2.2.1 d Q nx ny ((pc, .ladd, len, aux, cst, mask) :: tl) ls st cs x) : zq_x g rep d k pc ls st cs x Q := by
  obtain ⟨hdec, hlk, hn⟩ := zq_head C hg
  simp only [zq_lk, Bool.and_eq_true, decide_eq_true_eq] at hlk
  obtain rfl : len = 1 := Nat.eq_of_beq_eq_true hlk.2
  replace h : (match (generalizing := false) st with
    | .long y :: .long z :: st => nx tl ls (.long (z + y) :: st) cs x
    | _ => False) := h
  split at h
  · intro t' ht' p e R s m args below meth c Z ha hr H locs la hw hl
    obtain rfl : t' = t := Option.some.inj (ht'.symm.trans C.2.1)
    exact lv_ladd ha.2.1 ha.2.2.1 hdec (hn _ _ _ _ h t' ht' p e R s m args below meth c Z ha hr H locs la hw hl)
  · exact h.elim
theorem zq_s_lsub {X : Type} {g : zq_G} {O : zq_O X} {rep : X → List zq_E} {t : zq_T} {k d : Nat} {Q : Option Value → X → Prop} {nx : List zq_I → List Value → List Value → Nat × Nat → X → Prop} {ny : Nat → List Value → List Value → Nat × Nat → X → Prop} (C : zq_cx g O rep t k d Q nx ny) {pc len : Nat} {aux : List Nat} {cst : Value} {mask : List Bool} {tl : List zq_I} {ls st : List Value} {cs : Nat × Nat} {x : X} (hg : zq_ok t ((pc, .lsub, len, aux, cst, mask) :: tl)) (h : zq_st g O rep t.2.2.2.2.1 t.2.2.2.1 t.2.2.2.2.2.1 d Q nx ny ((pc, .lsub, len, aux, cst, mask) :: tl) ls st cs x) : zq_x g rep d k pc ls st cs x Q := by
  obtain ⟨hdec, hlk, hn⟩ := zq_head C hg
  simp only [zq_lk, Bool.and_eq_true, decide_eq_true_eq] at hlk
  obtain rfl : len = 1 := Nat.eq_of_beq_eq_true hlk.2
  replace h : (match (generalizing := false) st with
    | .long y :: .long z :: st => nx tl ls (.long (z - y) :: st) cs x
    | _ => False) := h
  split at h
  · intro t' ht' p e R s m args below meth c Z ha hr H locs la hw hl
    obtain rfl : t' = t := Option.some.inj (ht'.symm.trans C.2.1)
    exact lv_lsub ha.2.1 ha.2.2.1 hdec (hn _ _ _ _ h t' ht' p e R s m args below meth c Z ha hr H locs la hw hl)
  · exact h.elim
theorem zq_s_lmul {X : Type} {g : zq_G} {O : zq_O X} {rep : X → List zq_E} {t : zq_T} {k d : Nat} {Q : Option Value → X → Prop} {nx : List zq_I → List Value → List Value → Nat × Nat → X → Prop} {ny : Nat → List Value → List Value → Nat × Nat → X → Prop} (C : zq_cx g O rep t k d Q nx ny) {pc len : Nat} {aux : List Nat} {cst : Value} {mask : List Bool} {tl : List zq_I} {ls st : List Value} {cs : Nat × Nat} {x : X} (hg : zq_ok t ((pc, .lmul, len, aux, cst, mask) :: tl)) (h : zq_st g O rep t.2.2.2.2.1 t.2.2.2.1 t.2.2.2.2.2.1 d Q nx ny ((pc, .lmul, len, aux, cst, mask) :: tl) ls st cs x) : zq_x g rep d k pc ls st cs x Q := by
  obtain ⟨hdec, hlk, hn⟩ := zq_head C hg
  simp only [zq_lk, Bool.and_eq_true, decide_eq_true_eq] at hlk
  obtain rfl : len = 1 := Nat.eq_of_beq_eq_true hlk.2
  replace h : (match (generalizing := false) st with
    | .long y :: .long z :: st => nx tl ls (.long (z * y) :: st) cs x
    | _ => False) := h
  split at h
  · intro t' ht' p e R s m args below meth c Z ha hr H locs la hw hl
    obtain rfl : t' = t := Option.some.inj (ht'.symm.trans C.2.1)
    exact lv_lmul ha.2.1 ha.2.2.1 hdec (hn _ _ _ _ h t' ht' p e R s m args below meth c Z ha hr H locs la hw hl)
  · exact h.elim
theorem zq_s_land {X : Type} {g : zq_G} {O : zq_O X} {rep : X → List zq_E} {t : zq_T} {k d : Nat} {Q : Option Value → X → Prop} {nx : List zq_I → List Value → List Value → Nat × Nat → X → Prop} {ny : Nat → List Value → List Value → Nat × Nat → X → Prop} (C : zq_cx g O rep t k d Q nx ny) {pc len : Nat} {aux : List Nat} {cst : Value} {mask : List Bool} {tl : List zq_I} {ls st : List Value} {cs : Nat × Nat} {x : X} (hg : zq_ok t ((pc, .land, len, aux, cst, mask) :: tl)) (h : zq_st g O rep t.2.2.2.2.1 t.2.2.2.1 t.2.2.2.2.2.1 d Q nx ny ((pc, .land, len, aux, cst, mask) :: tl) ls st cs x) : zq_x g rep d k pc ls st cs x Q := by
  obtain ⟨hdec, hlk, hn⟩ := zq_head C hg
  simp only [zq_lk, Bool.and_eq_true, decide_eq_true_eq] at hlk
  obtain rfl : len = 1 := Nat.eq_of_beq_eq_true hlk.2
  replace h : (match (generalizing := false) st with
    | .long y :: .long z :: st => nx tl ls (.long (z &&& y) :: st) cs x
    | _ => False) := h
  split at h
  · intro t' ht' p e R s m args below meth c Z ha hr H locs la hw hl
    obtain rfl : t' = t := Option.some.inj (ht'.symm.trans C.2.1)
    exact lv_land ha.2.1 ha.2.2.1 hdec (hn _ _ _ _ h t' ht' p e R s m args below meth c Z ha hr H locs la hw hl)
  · exact h.elim
theorem zq_s_lor {X : Type} {g : zq_G} {O : zq_O X} {rep : X → List zq_E} {t : zq_T} {k d : Nat} {Q : Option Value → X → Prop} {nx : List zq_I → List Value → List Value → Nat × Nat → X → Prop} {ny : Nat → List Value → List Value → Nat × Nat → X → Prop} (C : zq_cx g O rep t k d Q nx ny) {pc len : Nat} {aux : List Nat} {cst : Value} {mask : List Bool} {tl : List zq_I} {ls st : List Value} {cs : Nat × Nat} {x : X} (hg : zq_ok t ((pc, .lor, len, aux, cst, mask) :: tl)) (h : zq_st g O rep t.2.2.2.2.1 t.2.2.2.1 t.2.2.2.2.2.1 d Q nx ny ((pc, .lor, len, aux, cst, mask) :: tl) ls st cs x) : zq_x g rep d k pc ls st cs x Q := by
  obtain ⟨hdec, hlk, hn⟩ := zq_head C hg
  simp only [zq_lk, Bool.and_eq_true, decide_eq_true_eq] at hlk
  obtain rfl : len = 1 := Nat.eq_of_beq_eq_true hlk.2
  replace h : (match (generalizing := false) st with
    | .long y :: .long z :: st => nx tl ls (.long (z ||| y) :: st) cs x
    | _ => False) := h
  split at h
  · intro t' ht' p e R s m args below meth c Z ha hr H locs la hw hl
    obtain rfl : t' = t := Option.some.inj (ht'.symm.trans C.2.1)
    exact lv_lor ha.2.1 ha.2.2.1 hdec (hn _ _ _ _ h t' ht' p e R s m args below meth c Z ha hr H locs la hw hl)
  · exact h.elim
theorem zq_s_idiv {X : Type} {g : zq_G} {O : zq_O X} {rep : X → List zq_E} {t : zq_T} {k d : Nat} {Q : Option Value → X → Prop} {nx : List zq_I → List Value → List Value → Nat × Nat → X → Prop} {ny : Nat → List Value → List Value → Nat × Nat → X → Prop} (C : zq_cx g O rep t k d Q nx ny) {pc len : Nat} {aux : List Nat} {cst : Value} {mask : List Bool} {tl : List zq_I} {ls st : List Value} {cs : Nat × Nat} {x : X} (hg : zq_ok t ((pc, .idiv, len, aux, cst, mask) :: tl)) (h : zq_st g O rep t.2.2.2.2.1 t.2.2.2.1 t.2.2.2.2.2.1 d Q nx ny ((pc, .idiv, len, aux, cst, mask) :: tl) ls st cs x) : zq_x g rep d k pc ls st cs x Q := by
  obtain ⟨hdec, hlk, hn⟩ := zq_head C hg
  simp only [zq_lk, Bool.and_eq_true, decide_eq_true_eq] at hlk
  obtain rfl : len = 1 := Nat.eq_of_beq_eq_true hlk.2
  replace h : (match (generalizing := false) st with
    | .int y :: .int z :: st => ¬ y = 0 ∧ nx tl ls (.int (z / y) :: st) cs x
    | _ => False) := h
  split at h
  · intro t' ht' p e R s m args below meth c Z ha hr H locs la hw hl
    obtain rfl : t' = t := Option.some.inj (ht'.symm.trans C.2.1)
    exact lv_idiv ha.2.1 ha.2.2.1 hdec h.1 (hn _ _ _ _ h.2 t' ht' p e R s m args below meth c Z ha hr H locs la hw hl)
  · exact h.elim
theorem zq_s_irem {X : Type} {g : zq_G} {O : zq_O X} {rep : X → List zq_E} {t : zq_T} {k d : Nat} {Q : Option Value → X → Prop} {nx : List zq_I → List Value → List Value → Nat × Nat → X → Prop} {ny : Nat → List Value → List Value → Nat × Nat → X → Prop} (C : zq_cx g O rep t k d Q nx ny) {pc len : Nat} {aux : List Nat} {cst : Value} {mask : List Bool} {tl : List zq_I} {ls st : List Value} {cs : Nat × Nat} {x : X} (hg : zq_ok t ((pc, .irem, len, aux, cst, mask) :: tl)) (h : zq_st g O rep t.2.2.2.2.1 t.2.2.2.1 t.2.2.2.2.2.1 d Q nx ny ((pc, .irem, len, aux, cst, mask) :: tl) ls st cs x) : zq_x g rep d k pc ls st cs x Q := by
  obtain ⟨hdec, hlk, hn⟩ := zq_head C hg
  simp only [zq_lk, Bool.and_eq_true, decide_eq_true_eq] at hlk
  obtain rfl : len = 1 := Nat.eq_of_beq_eq_true hlk.2
  replace h : (match (generalizing := false) st with
    | .int y :: .int z :: st => ¬ y = 0 ∧ nx tl ls (.int (z - z / y * y) :: st) cs x
    | _ => False) := h
  split at h
  · intro t' ht' p e R s m args below meth c Z ha hr H locs la hw hl
    obtain rfl : t' = t := Option.some.inj (ht'.symm.trans C.2.1)
    exact lv_irem ha.2.1 ha.2.2.1 hdec h.1 (hn _ _ _ _ h.2 t' ht' p e R s m args below meth c Z ha hr H locs la hw hl)
  · exact h.elim
theorem zq_s_ldiv {X : Type} {g : zq_G} {O : zq_O X} {rep : X → List zq_E} {t : zq_T} {k d : Nat} {Q : Option Value → X → Prop} {nx : List zq_I → List Value → List Value → Nat × Nat → X → Prop} {ny : Nat → List Value → List Value → Nat × Nat → X → Prop} (C : zq_cx g O rep t k d Q nx ny) {pc len : Nat} {aux : List Nat} {cst : Value} {mask : List Bool} {tl : List zq_I} {ls st : List Value} {cs : Nat × Nat} {x : X} (hg : zq_ok t ((pc, .ldiv, len, aux, cst, mask) :: tl)) (h : zq_st g O rep t.2.2.2.2.1 t.2.2.2.1 t.2.2.2.2.2.1 d Q nx ny ((pc, .ldiv, len, aux, cst, mask) :: tl) ls st cs x) : zq_x g rep d k pc ls st cs x Q := by
  obtain ⟨hdec, hlk, hn⟩ := zq_head C hg
  simp only [zq_lk, Bool.and_eq_true, decide_eq_true_eq] at hlk
  obtain rfl : len = 1 := Nat.eq_of_beq_eq_true hlk.2
  replace h : (match (generalizing := false) st with
    | .long y :: .long z :: st => ¬ y = 0 ∧ nx tl ls (.long (z / y) :: st) cs x
    | _ => False) := h
  split at h
  · intro t' ht' p e R s m args below meth c Z ha hr H locs la hw hl
    obtain rfl : t' = t := Option.some.inj (ht'.symm.trans C.2.1)
    exact lv_ldiv ha.2.1 ha.2.2.1 hdec h.1 (hn _ _ _ _ h.2 t' ht' p e R s m args below meth c Z ha hr H locs la hw hl)
  · exact h.elim
theorem zq_s_lrem {X : Type} {g : zq_G} {O : zq_O X} {rep : X → List zq_E} {t : zq_T} {k d : Nat} {Q : Option Value → X → Prop} {nx : List zq_I → List Value → List Value → Nat × Nat → X → Prop} {ny : Nat → List Value → List Value → Nat × Nat → X → Prop} (C : zq_cx g O rep t k d Q nx ny) {pc len : Nat} {aux : List Nat} {cst : Value} {mask : List Bool} {tl : List zq_I} {ls st : List Value} {cs : Nat × Nat} {x : X} (hg : zq_ok t ((pc, .lrem, len, aux, cst, mask) :: tl)) (h : zq_st g O rep t.2.2.2.2.1 t.2.2.2.1 t.2.2.2.2.2.1 d Q nx ny ((pc, .lrem, len, aux, cst, mask) :: tl) ls st cs x) : zq_x g rep d k pc ls st cs x Q := by
  obtain ⟨hdec, hlk, hn⟩ := zq_head C hg
  simp only [zq_lk, Bool.and_eq_true, decide_eq_true_eq] at hlk
  obtain rfl : len = 1 := Nat.eq_of_beq_eq_true hlk.2
  replace h : (match (generalizing := false) st with
    | .long y :: .long z :: st => ¬ y = 0 ∧ nx tl ls (.long (z - z / y * y) :: st) cs x
    | _ => False) := h
  split at h
  · intro t' ht' p e R s m args below meth c Z ha hr H locs la hw hl
    obtain rfl : t' = t := Option.some.inj (ht'.symm.trans C.2.1)
    exact lv_lrem ha.2.1 ha.2.2.1 hdec h.1 (hn _ _ _ _ h.2 t' ht' p e R s m args below meth c Z ha hr H locs la hw hl)
  · exact h.elim
theorem zq_s_ineg {X : Type} {g : zq_G} {O : zq_O X} {rep : X → List zq_E} {t : zq_T} {k d : Nat} {Q : Option Value → X → Prop} {nx : List zq_I → List Value → List Value → Nat × Nat → X → Prop} {ny : Nat → List Value → List Value → Nat × Nat → X → Prop} (C : zq_cx g O rep t k d Q nx ny) {pc len : Nat} {aux : List Nat} {cst : Value} {mask : List Bool} {tl : List zq_I} {ls st : List Value} {cs : Nat × Nat} {x : X} (hg : zq_ok t ((pc, .ineg, len, aux, cst, mask) :: tl)) (h : zq_st g O rep t.2.2.2.2.1 t.2.2.2.1 t.2.2.2.2.2.1 d Q nx ny ((pc, .ineg, len, aux, cst, mask) :: tl) ls st cs x) : zq_x g rep d k pc ls st cs x Q := by
  obtain ⟨hdec, hlk, hn⟩ := zq_head C hg
  simp only [zq_lk, Bool.and_eq_true, decide_eq_true_eq] at hlk
  obtain rfl : len = 1 := Nat.eq_of_beq_eq_true hlk.2
  replace h : (match (generalizing := false) st with
    | .int z :: st => nx tl ls (.int (-z) :: st) cs x
    | _ => False) := h
  split at h
  · intro t' ht' p e R s m args below meth c Z ha hr H locs la hw hl
    obtain rfl : t' = t := Option.some.inj (ht'.symm.trans C.2.1)
    exact lv_ineg ha.2.1 ha.2.2.1 hdec (hn _ _ _ _ h t' ht' p e R s m args below meth c Z ha hr H locs la hw hl)
  · exact h.elim
theorem zq_s_i2l {X : Type} {g : zq_G} {O : zq_O X} {rep : X → List zq_E} {t : zq_T} {k d : Nat} {Q : Option Value → X → Prop} {nx : List zq_I → List Value → List Value → Nat × Nat → X → Prop} {ny : Nat → List Value → List Value → Nat × Nat → X → Prop} (C : zq_cx g O rep t k d Q nx ny) {pc len : Nat} {aux : List Nat} {cst : Value} {mask : List Bool} {tl : List zq_I} {ls st : List Value} {cs : Nat × Nat} {x : X} (hg : zq_ok t ((pc, .i2l, len, aux, cst, mask) :: tl)) (h : zq_st g O rep t.2.2.2.2.1 t.2.2.2.1 t.2.2.2.2.2.1 d Q nx ny ((pc, .i2l, len, aux, cst, mask) :: tl) ls st cs x) : zq_x g rep d k pc ls st cs x Q := by
  obtain ⟨hdec, hlk, hn⟩ := zq_head C hg
  simp only [zq_lk, Bool.and_eq_true, decide_eq_true_eq] at hlk
  obtain rfl : len = 1 := Nat.eq_of_beq_eq_true hlk.2
  replace h : (match (generalizing := false) st with
    | .int z :: st => nx tl ls (.long z.toInt64 :: st) cs x
    | _ => False) := h
  split at h
  · intro t' ht' p e R s m args below meth c Z ha hr H locs la hw hl
    obtain rfl : t' = t := Option.some.inj (ht'.symm.trans C.2.1)
    exact lv_i2l ha.2.1 ha.2.2.1 hdec rfl (hn _ _ _ _ h t' ht' p e R s m args below meth c Z ha hr H locs la hw hl)
  · exact h.elim
theorem zq_s_l2i {X : Type} {g : zq_G} {O : zq_O X} {rep : X → List zq_E} {t : zq_T} {k d : Nat} {Q : Option Value → X → Prop} {nx : List zq_I → List Value → List Value → Nat × Nat → X → Prop} {ny : Nat → List Value → List Value → Nat × Nat → X → Prop} (C : zq_cx g O rep t k d Q nx ny) {pc len : Nat} {aux : List Nat} {cst : Value} {mask : List Bool} {tl : List zq_I} {ls st : List Value} {cs : Nat × Nat} {x : X} (hg : zq_ok t ((pc, .l2i, len, aux, cst, mask) :: tl)) (h : zq_st g O rep t.2.2.2.2.1 t.2.2.2.1 t.2.2.2.2.2.1 d Q nx ny ((pc, .l2i, len, aux, cst, mask) :: tl) ls st cs x) : zq_x g rep d k pc ls st cs x Q := by
  obtain ⟨hdec, hlk, hn⟩ := zq_head C hg
  simp only [zq_lk, Bool.and_eq_true, decide_eq_true_eq] at hlk
  obtain rfl : len = 1 := Nat.eq_of_beq_eq_true hlk.2
  replace h : (match (generalizing := false) st with
    | .long z :: st => nx tl ls (.int z.toInt32 :: st) cs x
    | _ => False) := h
  split at h
  · intro t' ht' p e R s m args below meth c Z ha hr H locs la hw hl
    obtain rfl : t' = t := Option.some.inj (ht'.symm.trans C.2.1)
    exact lv_l2i ha.2.1 ha.2.2.1 hdec rfl (hn _ _ _ _ h t' ht' p e R s m args below meth c Z ha hr H locs la hw hl)
  · exact h.elim
theorem zq_s_i2b {X : Type} {g : zq_G} {O : zq_O X} {rep : X → List zq_E} {t : zq_T} {k d : Nat} {Q : Option Value → X → Prop} {nx : List zq_I → List Value → List Value → Nat × Nat → X → Prop} {ny : Nat → List Value → List Value → Nat × Nat → X → Prop} (C : zq_cx g O rep t k d Q nx ny) {pc len : Nat} {aux : List Nat} {cst : Value} {mask : List Bool} {tl : List zq_I} {ls st : List Value} {cs : Nat × Nat} {x : X} (hg : zq_ok t ((pc, .i2b, len, aux, cst, mask) :: tl)) (h : zq_st g O rep t.2.2.2.2.1 t.2.2.2.1 t.2.2.2.2.2.1 d Q nx ny ((pc, .i2b, len, aux, cst, mask) :: tl) ls st cs x) : zq_x g rep d k pc ls st cs x Q := by
  obtain ⟨hdec, hlk, hn⟩ := zq_head C hg
  simp only [zq_lk, Bool.and_eq_true, decide_eq_true_eq] at hlk
  obtain rfl : len = 1 := Nat.eq_of_beq_eq_true hlk.2
  replace h : (match (generalizing := false) st with
    | .int z :: st => nx tl ls (.int z.toInt8.toInt32 :: st) cs x
    | _ => False) := h
  split at h
  · intro t' ht' p e R s m args below meth c Z ha hr H locs la hw hl
    obtain rfl : t' = t := Option.some.inj (ht'.symm.trans C.2.1)
    exact lv_i2b ha.2.1 ha.2.2.1 hdec rfl (hn _ _ _ _ h t' ht' p e R s m args below meth c Z ha hr H locs la hw hl)
  · exact h.elim
theorem zq_s_i2s {X : Type} {g : zq_G} {O : zq_O X} {rep : X → List zq_E} {t : zq_T} {k d : Nat} {Q : Option Value → X → Prop} {nx : List zq_I → List Value → List Value → Nat × Nat → X → Prop} {ny : Nat → List Value → List Value → Nat × Nat → X → Prop} (C : zq_cx g O rep t k d Q nx ny) {pc len : Nat} {aux : List Nat} {cst : Value} {mask : List Bool} {tl : List zq_I} {ls st : List Value} {cs : Nat × Nat} {x : X} (hg : zq_ok t ((pc, .i2s, len, aux, cst, mask) :: tl)) (h : zq_st g O rep t.2.2.2.2.1 t.2.2.2.1 t.2.2.2.2.2.1 d Q nx ny ((pc, .i2s, len, aux, cst, mask) :: tl) ls st cs x) : zq_x g rep d k pc ls st cs x Q := by
  obtain ⟨hdec, hlk, hn⟩ := zq_head C hg
  simp only [zq_lk, Bool.and_eq_true, decide_eq_true_eq] at hlk
  obtain rfl : len = 1 := Nat.eq_of_beq_eq_true hlk.2
  replace h : (match (generalizing := false) st with
    | .int z :: st => nx tl ls (.int z.toInt16.toInt32 :: st) cs x
    | _ => False) := h
  split at h
  · intro t' ht' p e R s m args below meth c Z ha hr H locs la hw hl
    obtain rfl : t' = t := Option.some.inj (ht'.symm.trans C.2.1)
    exact lv_i2s ha.2.1 ha.2.2.1 hdec rfl (hn _ _ _ _ h t' ht' p e R s m args below meth c Z ha hr H locs la hw hl)
  · exact h.elim
theorem zq_s_lshl {X : Type} {g : zq_G} {O : zq_O X} {rep : X → List zq_E} {t : zq_T} {k d : Nat} {Q : Option Value → X → Prop} {nx : List zq_I → List Value → List Value → Nat × Nat → X → Prop} {ny : Nat → List Value → List Value → Nat × Nat → X → Prop} (C : zq_cx g O rep t k d Q nx ny) {pc len : Nat} {aux : List Nat} {cst : Value} {mask : List Bool} {tl : List zq_I} {ls st : List Value} {cs : Nat × Nat} {x : X} (hg : zq_ok t ((pc, .lshl, len, aux, cst, mask) :: tl)) (h : zq_st g O rep t.2.2.2.2.1 t.2.2.2.1 t.2.2.2.2.2.1 d Q nx ny ((pc, .lshl, len, aux, cst, mask) :: tl) ls st cs x) : zq_x g rep d k pc ls st cs x Q := by
  obtain ⟨hdec, hlk, hn⟩ := zq_head C hg
  simp only [zq_lk, Bool.and_eq_true, decide_eq_true_eq] at hlk
  obtain rfl : len = 1 := Nat.eq_of_beq_eq_true hlk.2
  replace h : (match (generalizing := false) st with
    | .int y :: .long z :: st => nx tl ls (.long (z <<< (y.toInt64 &&& 63)) :: st) cs x
    | _ => False) := h
  split at h
  · intro t' ht' p e R s m args below meth c Z ha hr H locs la hw hl
    obtain rfl : t' = t := Option.some.inj (ht'.symm.trans C.2.1)
    exact lv_lshl ha.2.1 ha.2.2.1 hdec rfl (hn _ _ _ _ h t' ht' p e R s m args below meth c Z ha hr H locs la hw hl)
  · exact h.elim
theorem zq_s_lshr {X : Type} {g : zq_G} {O : zq_O X} {rep : X → List zq_E} {t : zq_T} {k d : Nat} {Q : Option Value → X → Prop} {nx : List zq_I → List Value → List Value → Nat × Nat → X → Prop} {ny : Nat → List Value → List Value → Nat × Nat → X → Prop} (C : zq_cx g O rep t k d Q nx ny) {pc len : Nat} {aux : List Nat} {cst : Value} {mask : List Bool} {tl : List zq_I} {ls st : List Value} {cs : Nat × Nat} {x : X} (hg : zq_ok t ((pc, .lshr, len, aux, cst, mask) :: tl)) (h : zq_st g O rep t.2.2.2.2.1 t.2.2.2.1 t.2.2.2.2.2.1 d Q nx ny ((pc, .lshr, len, aux, cst, mask) :: tl) ls st cs x) : zq_x g rep d k pc ls st cs x Q := by
  obtain ⟨hdec, hlk, hn⟩ := zq_head C hg
  simp only [zq_lk, Bool.and_eq_true, decide_eq_true_eq] at hlk
  obtain rfl : len = 1 := Nat.eq_of_beq_eq_true hlk.2
  replace h : (match (generalizing := false) st with
    | .int y :: .long z :: st => nx tl ls (.long (z >>> (y.toInt64 &&& 63)) :: st) cs x
    | _ => False) := h
  split at h
  · intro t' ht' p e R s m args below meth c Z ha hr H locs la hw hl
    obtain rfl : t' = t := Option.some.inj (ht'.symm.trans C.2.1)
    exact lv_lshr ha.2.1 ha.2.2.1 hdec rfl (hn _ _ _ _ h t' ht' p e R s m args below meth c Z ha hr H locs la hw hl)
  · exact h.elim
theorem zq_s_lcmp {X : Type} {g : zq_G} {O : zq_O X} {rep : X → List zq_E} {t : zq_T} {k d : Nat} {Q : Option Value → X → Prop} {nx : List zq_I → List Value → List Value → Nat × Nat → X → Prop} {ny : Nat → List Value → List Value → Nat × Nat → X → Prop} (C : zq_cx g O rep t k d Q nx ny) {pc len : Nat} {aux : List Nat} {cst : Value} {mask : List Bool} {tl : List zq_I} {ls st : List Value} {cs : Nat × Nat} {x : X} (hg : zq_ok t ((pc, .lcmp, len, aux, cst, mask) :: tl)) (h : zq_st g O rep t.2.2.2.2.1 t.2.2.2.1 t.2.2.2.2.2.1 d Q nx ny ((pc, .lcmp, len, aux, cst, mask) :: tl) ls st cs x) : zq_x g rep d k pc ls st cs x Q := by
  obtain ⟨hdec, hlk, hn⟩ := zq_head C hg
  simp only [zq_lk, Bool.and_eq_true, decide_eq_true_eq] at hlk
  obtain rfl : len = 1 := Nat.eq_of_beq_eq_true hlk.2
  replace h : (match (generalizing := false) st with
    | .long y :: .long z :: st => nx tl ls (.int (lg_cmp z y) :: st) cs x
    | _ => False) := h
  split at h
  · intro t' ht' p e R s m args below meth c Z ha hr H locs la hw hl
    obtain rfl : t' = t := Option.some.inj (ht'.symm.trans C.2.1)
    exact W.lcmp ha.2.1 ha.2.2.1 hdec (hn _ _ _ _ h t' ht' p e R s m args below meth c Z ha hr H locs la hw hl)
  · exact h.elim
theorem zq_s_dup {X : Type} {g : zq_G} {O : zq_O X} {rep : X → List zq_E} {t : zq_T} {k d : Nat} {Q : Option Value → X → Prop} {nx : List zq_I → List Value → List Value → Nat × Nat → X → Prop} {ny : Nat → List Value → List Value → Nat × Nat → X → Prop} (C : zq_cx g O rep t k d Q nx ny) {pc len : Nat} {aux : List Nat} {cst : Value} {mask : List Bool} {tl : List zq_I} {ls st : List Value} {cs : Nat × Nat} {x : X} (hg : zq_ok t ((pc, .dup, len, aux, cst, mask) :: tl)) (h : zq_st g O rep t.2.2.2.2.1 t.2.2.2.1 t.2.2.2.2.2.1 d Q nx ny ((pc, .dup, len, aux, cst, mask) :: tl) ls st cs x) : zq_x g rep d k pc ls st cs x Q := by
  obtain ⟨hdec, hlk, hn⟩ := zq_head C hg
  simp only [zq_lk, Bool.and_eq_true, decide_eq_true_eq] at hlk
  obtain rfl : len = 1 := Nat.eq_of_beq_eq_true hlk.2
  replace h : (match (generalizing := false) st with
    | .int v :: st => nx tl ls (.int v :: .int v :: st) cs x
    | .ref v :: st => nx tl ls (.ref v :: .ref v :: st) cs x
    | _ => False) := h
  split at h
  · intro t' ht' p e R s m args below meth c Z ha hr H locs la hw hl
    obtain rfl : t' = t := Option.some.inj (ht'.symm.trans C.2.1)
    exact lv_dup ha.2.1 ha.2.2.1 hdec rfl (hn _ _ _ _ h t' ht' p e R s m args below meth c Z ha hr H locs la hw hl)
  · intro t' ht' p e R s m args below meth c Z ha hr H locs la hw hl
    obtain rfl : t' = t := Option.some.inj (ht'.symm.trans C.2.1)
    exact lv_dup ha.2.1 ha.2.2.1 hdec rfl (hn _ _ _ _ h t' ht' p e R s m args below meth c Z ha hr H locs la hw hl)
  · exact h.elim
theorem zq_s_pop {X : Type} {g : zq_G} {O : zq_O X} {rep : X → List zq_E} {t : zq_T} {k d : Nat} {Q : Option Value → X → Prop} {nx : List zq_I → List Value → List Value → Nat × Nat → X → Prop} {ny : Nat → List Value → List Value → Nat × Nat → X → Prop} (C : zq_cx g O rep t k d Q nx ny) {pc len : Nat} {aux : List Nat} {cst : Value} {mask : List Bool} {tl : List zq_I} {ls st : List Value} {cs : Nat × Nat} {x : X} (hg : zq_ok t ((pc, .pop, len, aux, cst, mask) :: tl)) (h : zq_st g O rep t.2.2.2.2.1 t.2.2.2.1 t.2.2.2.2.2.1 d Q nx ny ((pc, .pop, len, aux, cst, mask) :: tl) ls st cs x) : zq_x g rep d k pc ls st cs x Q := by
  obtain ⟨hdec, hlk, hn⟩ := zq_head C hg
  simp only [zq_lk, Bool.and_eq_true, decide_eq_true_eq] at hlk
  obtain rfl : len = 1 := Nat.eq_of_beq_eq_true hlk.2
  replace h : (match (generalizing := false) st with
    | .int _ :: st => nx tl ls st cs x
    | .ref _ :: st => nx tl ls st cs x
    | _ => False) := h
  split at h
  · intro t' ht' p e R s m args below meth c Z ha hr H locs la hw hl
    obtain rfl : t' = t := Option.some.inj (ht'.symm.trans C.2.1)
    exact lv_pop ha.2.1 ha.2.2.1 hdec rfl (hn _ _ _ _ h t' ht' p e R s m args below meth c Z ha hr H locs la hw hl)
  · intro t' ht' p e R s m args below meth c Z ha hr H locs la hw hl
    obtain rfl : t' = t := Option.some.inj (ht'.symm.trans C.2.1)
    exact lv_pop ha.2.1 ha.2.2.1 hdec rfl (hn _ _ _ _ h t' ht' p e R s m args below meth c Z ha hr H locs la hw hl)
  · exact h.elim
theorem zq_s_dup2 {X : Type} {g : zq_G} {O : zq_O X} {rep : X → List zq_E} {t : zq_T} {k d : Nat} {Q : Option Value → X → Prop} {nx : List zq_I → List Value → List Value → Nat × Nat → X → Prop} {ny : Nat → List Value → List Value → Nat × Nat → X → Prop} (C : zq_cx g O rep t k d Q nx ny) {pc len : Nat} {aux : List Nat} {cst : Value} {mask : List Bool} {tl : List zq_I} {ls st : List Value} {cs : Nat × Nat} {x : X} (hg : zq_ok t ((pc, .dup2, len, aux, cst, mask) :: tl)) (h : zq_st g O rep t.2.2.2.2.1 t.2.2.2.1 t.2.2.2.2.2.1 d Q nx ny ((pc, .dup2, len, aux, cst, mask) :: tl) ls st cs x) : zq_x g rep d k pc ls st cs x Q := by
  obtain ⟨hdec, hlk, hn⟩ := zq_head C hg
  simp only [zq_lk, Bool.and_eq_true, decide_eq_true_eq] at hlk
  obtain rfl : len = 1 := Nat.eq_of_beq_eq_true hlk.2
  replace h : (match (generalizing := false) st with
    | .int u :: .ref v :: st => nx tl ls (.int u :: .ref v :: .int u :: .ref v :: st) cs x
    | _ => False) := h
  split at h
  · intro t' ht' p e R s m args below meth c Z ha hr H locs la hw hl
    obtain rfl : t' = t := Option.some.inj (ht'.symm.trans C.2.1)
    exact lv_dup2_11 ha.2.1 ha.2.2.1 hdec rfl rfl (hn _ _ _ _ h t' ht' p e R s m args below meth c Z ha hr H locs la hw hl)
  · exact h.elim
theorem zq_s_if_eq {X : Type} {g : zq_G} {O : zq_O X} {rep : X → List zq_E} {t : zq_T} {k d : Nat} {Q : Option Value → X → Prop} {nx : List zq_I → List Value → List Value → Nat × Nat → X → Prop} {ny : Nat → List Value → List Value → Nat × Nat → X → Prop} (C : zq_cx g O rep t k d Q nx ny) {pc len : Nat} {aux : List Nat} {cst : Value} {mask : List Bool} {tl : List zq_I} {ls st : List Value} {cs : Nat × Nat} {x : X} {off : Int} (hg : zq_ok t ((pc, .ifCond .eq off, len, aux, cst, mask) :: tl)) (h : zq_st g O rep t.2.2.2.2.1 t.2.2.2.1 t.2.2.2.2.2.1 d Q nx ny ((pc, .ifCond .eq off, len, aux, cst, mask) :: tl) ls st cs x) : zq_x g rep d k pc ls st cs x Q := by
  obtain ⟨hdec, hlk, hn⟩ := zq_head C hg
  simp only [zq_lk, Bool.and_eq_true, decide_eq_true_eq] at hlk
  obtain rfl : len = 3 := Nat.eq_of_beq_eq_true hlk.2
  replace h : (match (generalizing := false) st with
    | .int z :: st => (z = 0 → nx (zq_sf t.2.2.2.2.1 (zq_ix aux 0)) ls st cs x) ∧ (¬ z = 0 → nx tl ls st cs x)
    | _ => False) := h
  split at h
  · intro t' ht' p e R s m args below meth c Z ha hr H locs la hw hl
    obtain rfl : t' = t := Option.some.inj (ht'.symm.trans C.2.1)
    exact lv_if_eq ha.2.1 ha.2.2.1 hdec hlk.1 (fun q => zq_jump C _ _ _ _ _ (h.1 q) t' ht' p e R s m args below meth c Z ha hr H locs la hw hl) (fun q => hn _ _ _ _ (h.2 q) t' ht' p e R s m args below meth c Z ha hr H locs la hw hl)
  · exact h.elim
theorem zq_s_if_ne {X : Type} {g : zq_G} {O : zq_O X} {rep : X → List zq_E} {t : zq_T} {k d : Nat} {Q : Option Value → X → Prop} {nx : List zq_I → List Value → List Value → Nat × Nat → X → Prop} {ny : Nat → List Value → List Value → Nat × Nat → X → Prop} (C : zq_cx g O rep t k d Q nx ny) {pc len : Nat} {aux : List Nat} {cst : Value} {mask : List Bool} {tl : List zq_I} {ls st : List Value} {cs : Nat × Nat} {x : X} {off : Int} (hg : zq_ok t ((pc, .ifCond .ne off, len, aux, cst, mask) :: tl)) (h : zq_st g O rep t.2.2.2.2.1 t.2.2.2.1 t.2.2.2.2.2.1 d Q nx ny ((pc, .ifCond .ne off, len, aux, cst, mask) :: tl) ls st cs x) : zq_x g rep d k pc ls st cs x Q := by
  obtain ⟨hdec, hlk, hn⟩ := zq_head C hg
  simp only [zq_lk, Bool.and_eq_true, decide_eq_true_eq] at hlk
  obtain rfl : len = 3 := Nat.eq_of_beq_eq_true hlk.2
  replace h : (match (generalizing := false) st with
    | .int z :: st => (¬ z = 0 → nx (zq_sf t.2.2.2.2.1 (zq_ix aux 0)) ls st cs x) ∧ (z = 0 → nx tl ls st cs x)
    | _ => False) := h
  split at h
  · intro t' ht' p e R s m args below meth c Z ha hr H locs la hw hl
    obtain rfl : t' = t := Option.some.inj (ht'.symm.trans C.2.1)
    exact lv_if_ne ha.2.1 ha.2.2.1 hdec hlk.1 (fun q => zq_jump C _ _ _ _ _ (h.1 q) t' ht' p e R s m args below meth c Z ha hr H locs la hw hl) (fun q => hn _ _ _ _ (h.2 q) t' ht' p e R s m args below meth c Z ha hr H locs la hw hl)
  · exact h.elim
theorem zq_s_if_lt {X : Type} {g : zq_G} {O : zq_O X} {rep : X → List zq_E} {t : zq_T} {k d : Nat} {Q : Option Value → X → Prop} {nx : List zq_I → List Value → List Value → Nat × Nat → X → Prop} {ny : Nat → List Value → List Value → Nat × Nat → X → Prop} (C : zq_cx g O rep t k d Q nx ny) {pc len : Nat} {aux : List Nat} {cst : Value} {mask : List Bool} {tl : List zq_I} {ls st : List Value} {cs : Nat × Nat} {x : X} {off : Int} (hg : zq_ok t ((pc, .ifCond .lt off, len, aux, cst, mask) :: tl)) (h : zq_st g O rep t.2.2.2.2.1 t.2.2.2.1 t.2.2.2.2.2.1 d Q nx ny ((pc, .ifCond .lt off, len, aux, cst, mask) :: tl) ls st cs x) : zq_x g rep d k pc ls st cs x Q := by
  obtain ⟨hdec, hlk, hn⟩ := zq_head C hg
  simp only [zq_lk, Bool.and_eq_true, decide_eq_true_eq] at hlk
  obtain rfl : len = 3 := Nat.eq_of_beq_eq_true hlk.2
  replace h : (match (generalizing := false) st with
    | .int z :: st => (z < 0 → nx (zq_sf t.2.2.2.2.1 (zq_ix aux 0)) ls st cs x) ∧ (¬ z < 0 → nx tl ls st cs x)
    | _ => False) := h
  split at h
  · intro t' ht' p e R s m args below meth c Z ha hr H locs la hw hl
    obtain rfl : t' = t := Option.some.inj (ht'.symm.trans C.2.1)
    exact lv_if_lt ha.2.1 ha.2.2.1 hdec hlk.1 (fun q => zq_jump C _ _ _ _ _ (h.1 q) t' ht' p e R s m args below meth c Z ha hr H locs la hw hl) (fun q => hn _ _ _ _ (h.2 q) t' ht' p e R s m args below meth c Z ha hr H locs la hw hl)
  · exact h.elim
theorem zq_s_if_ge {X : Type} {g : zq_G} {O : zq_O X} {rep : X → List zq_E} {t : zq_T} {k d : Nat} {Q : Option Value → X → Prop} {nx : List zq_I → List Value → List Value → Nat × Nat → X → Prop} {ny : Nat → List Value → List Value → Nat × Nat → X → Prop} (C : zq_cx g O rep t k d Q nx ny) {pc len : Nat} {aux : List Nat} {cst : Value} {mask : List Bool} {tl : List zq_I} {ls st : List Value} {cs : Nat × Nat} {x : X} {off : Int} (hg : zq_ok t ((pc, .ifCond .ge off, len, aux, cst, mask) :: tl)) (h : zq_st g O rep t.2.2.2.2.1 t.2.2.2.1 t.2.2.2.2.2.1 d Q nx ny ((pc, .ifCond .ge off, len, aux, cst, mask) :: tl) ls st cs x) : zq_x g rep d k pc ls st cs x Q := by
  obtain ⟨hdec, hlk, hn⟩ := zq_head C hg
  simp only [zq_lk, Bool.and_eq_true, decide_eq_true_eq] at hlk
  obtain rfl : len = 3 := Nat.eq_of_beq_eq_true hlk.2
  replace h : (match (generalizing := false) st with
    | .int z :: st => (0 ≤ z → nx (zq_sf t.2.2.2.2.1 (zq_ix aux 0)) ls st cs x) ∧ (¬ 0 ≤ z → nx tl ls st cs x)
    | _ => False) := h
  split at h
  · intro t' ht' p e R s m args below meth c Z ha hr H locs la hw hl
    obtain rfl : t' = t := Option.some.inj (ht'.symm.trans C.2.1)
    exact lv_if_ge ha.2.1 ha.2.2.1 hdec hlk.1 (fun q => zq_jump C _ _ _ _ _ (h.1 q) t' ht' p e R s m args below meth c Z ha hr H locs la hw hl) (fun q => hn _ _ _ _ (h.2 q) t' ht' p e R s m args below meth c Z ha hr H locs la hw hl)
  · exact h.elim
theorem zq_s_if_gt {X : Type} {g : zq_G} {O : zq_O X} {rep : X → List zq_E} {t : zq_T} {k d : Nat} {Q : Option Value → X → Prop} {nx : List zq_I → List Value → List Value → Nat × Nat → X → Prop} {ny : Nat → List Value → List Value → Nat × Nat → X → Prop} (C : zq_cx g O rep t k d Q nx ny) {pc len : Nat} {aux : List Nat} {cst : Value} {mask : List Bool} {tl : List zq_I} {ls st : List Value} {cs : Nat × Nat} {x : X} {off : Int} (hg : zq_ok t ((pc, .ifCond .gt off, len, aux, cst, mask) :: tl)) (h : zq_st g O rep t.2.2.2.2.1 t.2.2.2.1 t.2.2.2.2.2.1 d Q nx ny ((pc, .ifCond .gt off, len, aux, cst, mask) :: tl) ls st cs x) : zq_x g rep d k pc ls st cs x Q := by
  obtain ⟨hdec, hlk, hn⟩ := zq_head C hg
  simp only [zq_lk, Bool.and_eq_true, decide_eq_true_eq] at hlk
  obtain rfl : len = 3 := Nat.eq_of_beq_eq_true hlk.2
  replace h : (match (generalizing := false) st with
    | .int z :: st => (0 < z → nx (zq_sf t.2.2.2.2.1 (zq_ix aux 0)) ls st cs x) ∧ (¬ 0 < z → nx tl ls st cs x)
    | _ => False) := h
  split at h
  · intro t' ht' p e R s m args below meth c Z ha hr H locs la hw hl
    obtain rfl : t' = t := Option.some.inj (ht'.symm.trans C.2.1)
    exact lv_if_gt ha.2.1 ha.2.2.1 hdec hlk.1 (fun q => zq_jump C _ _ _ _ _ (h.1 q) t' ht' p e R s m args below meth c Z ha hr H locs la hw hl) (fun q => hn _ _ _ _ (h.2 q) t' ht' p e R s m args below meth c Z ha hr H locs la hw hl)
  · exact h.elim
theorem zq_s_if_le {X : Type} {g : zq_G} {O : zq_O X} {rep : X → List zq_E} {t : zq_T} {k d : Nat} {Q : Option Value → X → Prop} {nx : List zq_I → List Value → List Value → Nat × Nat → X → Prop} {ny : Nat → List Value → List Value → Nat × Nat → X → Prop} (C : zq_cx g O rep t k d Q nx ny) {pc len : Nat} {aux : List Nat} {cst : Value} {mask : List Bool} {tl : List zq_I} {ls st : List Value} {cs : Nat × Nat} {x : X} {off : Int} (hg : zq_ok t ((pc, .ifCond .le off, len, aux, cst, mask) :: tl)) (h : zq_st g O rep t.2.2.2.2.1 t.2.2.2.1 t.2.2.2.2.2.1 d Q nx ny ((pc, .ifCond .le off, len, aux, cst, mask) :: tl) ls st cs x) : zq_x g rep d k pc ls st cs x Q := by
  obtain ⟨hdec, hlk, hn⟩ := zq_head C hg
  simp only [zq_lk, Bool.and_eq_true, decide_eq_true_eq] at hlk
  obtain rfl : len = 3 := Nat.eq_of_beq_eq_true hlk.2
  replace h : (match (generalizing := false) st with
    | .int z :: st => (z ≤ 0 → nx (zq_sf t.2.2.2.2.1 (zq_ix aux 0)) ls st cs x) ∧ (¬ z ≤ 0 → nx tl ls st cs x)
    | _ => False) := h
  split at h
  · intro t' ht' p e R s m args below meth c Z ha hr H locs la hw hl
    obtain rfl : t' = t := Option.some.inj (ht'.symm.trans C.2.1)
    exact lv_if_le ha.2.1 ha.2.2.1 hdec hlk.1 (fun q => zq_jump C _ _ _ _ _ (h.1 q) t' ht' p e R s m args below meth c Z ha hr H locs la hw hl) (fun q => hn _ _ _ _ (h.2 q) t' ht' p e R s m args below meth c Z ha hr H locs la hw hl)
  · exact h.elim
theorem zq_s_ic_eq {X : Type} {g : zq_G} {O : zq_O X} {rep : X → List zq_E} {t : zq_T} {k d : Nat} {Q : Option Value → X → Prop} {nx : List zq_I → List Value → List Value → Nat × Nat → X → Prop} {ny : Nat → List Value → List Value → Nat × Nat → X → Prop} (C : zq_cx g O rep t k d Q nx ny) {pc len : Nat} {aux : List Nat} {cst : Value} {mask : List Bool} {tl : List zq_I} {ls st : List Value} {cs : Nat × Nat} {x : X} {off : Int} (hg : zq_ok t ((pc, .if_icmp .eq off, len, aux, cst, mask) :: tl)) (h : zq_st g O rep t.2.2.2.2.1 t.2.2.2.1 t.2.2.2.2.2.1 d Q nx ny ((pc, .if_icmp .eq off, len, aux, cst, mask) :: tl) ls st cs x) : zq_x g rep d k pc ls st cs x Q := by
  obtain ⟨hdec, hlk, hn⟩ := zq_head C hg
  simp only [zq_lk, Bool.and_eq_true, decide_eq_true_eq] at hlk
  obtain rfl : len = 3 := Nat.eq_of_beq_eq_true hlk.2
  replace h : (match (generalizing := false) st with
    | .int y :: .int z :: st => (z = y → nx (zq_sf t.2.2.2.2.1 (zq_ix aux 0)) ls st cs x) ∧ (¬ z = y → nx tl ls st cs x)
    | _ => False) := h
  split at h
  · intro t' ht' p e R s m args below meth c Z ha hr H locs la hw hl
    obtain rfl : t' = t := Option.some.inj (ht'.symm.trans C.2.1)
    exact lv_icmp_eq ha.2.1 ha.2.2.1 hdec hlk.1 (fun q => zq_jump C _ _ _ _ _ (h.1 q) t' ht' p e R s m args below meth c Z ha hr H locs la hw hl) (fun q => hn _ _ _ _ (h.2 q) t' ht' p e R s m args below meth c Z ha hr H locs la hw hl)
  · exact h.elim
theorem zq_s_ic_ne {X : Type} {g : zq_G} {O : zq_O X} {rep : X → List zq_E} {t : zq_T} {k d : Nat} {Q : Option Value → X → Prop} {nx : List zq_I → List Value → List Value → Nat × Nat → X → Prop} {ny : Nat → List Value → List Value → Nat × Nat → X → Prop} (C : zq_cx g O rep t k d Q nx ny) {pc len : Nat} {aux : List Nat} {cst : Value} {mask : List Bool} {tl : List zq_I} {ls st : List Value} {cs : Nat × Nat} {x : X} {off : Int} (hg : zq_ok t ((pc, .if_icmp .ne off, len, aux, cst, mask) :: tl)) (h : zq_st g O rep t.2.2.2.2.1 t.2.2.2.1 t.2.2.2.2.2.1 d Q nx ny ((pc, .if_icmp .ne off, len, aux, cst, mask) :: tl) ls st cs x) : zq_x g rep d k pc ls st cs x Q := by
  obtain ⟨hdec, hlk, hn⟩ := zq_head C hg
  simp only [zq_lk, Bool.and_eq_true, decide_eq_true_eq] at hlk
  obtain rfl : len = 3 := Nat.eq_of_beq_eq_true hlk.2
  replace h : (match (generalizing := false) st with
    | .int y :: .int z :: st => (¬ z = y → nx (zq_sf t.2.2.2.2.1 (zq_ix aux 0)) ls st cs x) ∧ (z = y → nx tl ls st cs x)
    | _ => False) := h
  split at h
  · intro t' ht' p e R s m args below meth c Z ha hr H locs la hw hl
    obtain rfl : t' = t := Option.some.inj (ht'.symm.trans C.2.1)
    exact lv_icmp_ne ha.2.1 ha.2.2.1 hdec hlk.1 (fun q => zq_jump C _ _ _ _ _ (h.1 q) t' ht' p e R s m args below meth c Z ha hr H locs la hw hl) (fun q => hn _ _ _ _ (h.2 q) t' ht' p e R s m args below meth c Z ha hr H locs la hw hl)
  · exact h.elim
theorem zq_s_ic_lt {X : Type} {g : zq_G} {O : zq_O X} {rep : X → List zq_E} {t : zq_T} {k d : Nat} {Q : Option Value → X → Prop} {nx : List zq_I → List Value → List Value → Nat × Nat → X → Prop} {ny : Nat → List Value → List Value → Nat × Nat → X → Prop} (C : zq_cx g O rep t k d Q nx ny) {pc len : Nat} {aux : List Nat} {cst : Value} {mask : List Bool} {tl : List zq_I} {ls st : List Value} {cs : Nat × Nat} {x : X} {off : Int} (hg : zq_ok t ((pc, .if_icmp .lt off, len, aux, cst, mask) :: tl)) (h : zq_st g O rep t.2.2.2.2.1 t.2.2.2.1 t.2.2.2.2.2.1 d Q nx ny ((pc, .if_icmp .lt off, len, aux, cst, mask) :: tl) ls st cs x) : zq_x g rep d k pc ls st cs x Q := by
  obtain ⟨hdec, hlk, hn⟩ := zq_head C hg
  simp only [zq_lk, Bool.and_eq_true, decide_eq_true_eq] at hlk
  obtain rfl : len = 3 := Nat.eq_of_beq_eq_true hlk.2
  replace h : (match (generalizing := false) st with
    | .int y :: .int z :: st => (z < y → nx (zq_sf t.2.2.2.2.1 (zq_ix aux 0)) ls st cs x) ∧ (¬ z < y → nx tl ls st cs x)
    | _ => False) := h
  split at h
  · intro t' ht' p e R s m args below meth c Z ha hr H locs la hw hl
    obtain rfl : t' = t := Option.some.inj (ht'.symm.trans C.2.1)
    exact lv_icmp_lt ha.2.1 ha.2.2.1 hdec hlk.1 (fun q => zq_jump C _ _ _ _ _ (h.1 q) t' ht' p e R s m args below meth c Z ha hr H locs la hw hl) (fun q => hn _ _ _ _ (h.2 q) t' ht' p e R s m args below meth c Z ha hr H locs la hw hl)
  · exact h.elim
theorem zq_s_ic_ge {X : Type} {g : zq_G} {O : zq_O X} {rep : X → List zq_E} {t : zq_T} {k d : Nat} {Q : Option Value → X → Prop} {nx : List zq_I → List Value → List Value → Nat × Nat → X → Prop} {ny : Nat → List Value → List Value → Nat × Nat → X → Prop} (C : zq_cx g O rep t k d Q nx ny) {pc len : Nat} {aux : List Nat} {cst : Value} {mask : List Bool} {tl : List zq_I} {ls st : List Value} {cs : Nat × Nat} {x : X} {off : Int} (hg : zq_ok t ((pc, .if_icmp .ge off, len, aux, cst, mask) :: tl)) (h : zq_st g O rep t.2.2.2.2.1 t.2.2.2.1 t.2.2.2.2.2.1 d Q nx ny ((pc, .if_icmp .ge off, len, aux, cst, mask) :: tl) ls st cs x) : zq_x g rep d k pc ls st cs x Q := by
  obtain ⟨hdec, hlk, hn⟩ := zq_head C hg
  simp only [zq_lk, Bool.and_eq_true, decide_eq_true_eq] at hlk
  obtain rfl : len = 3 := Nat.eq_of_beq_eq_true hlk.2
  replace h : (match (generalizing := false) st with
    | .int y :: .int z :: st => (y ≤ z → nx (zq_sf t.2.2.2.2.1 (zq_ix aux 0)) ls st cs x) ∧ (¬ y ≤ z → nx tl ls st cs x)
    | _ => False) := h
  split at h
  · intro t' ht' p e R s m args below meth c Z ha hr H locs la hw hl
    obtain rfl : t' = t := Option.some.inj (ht'.symm.trans C.2.1)
    exact lv_icmp_ge ha.2.1 ha.2.2.1 hdec hlk.1 (fun q => zq_jump C _ _ _ _ _ (h.1 q) t' ht' p e R s m args below meth c Z ha hr H locs la hw hl) (fun q => hn _ _ _ _ (h.2 q) t' ht' p e R s m args below meth c Z ha hr H locs la hw hl)
  · exact h.elim
theorem zq_s_ic_gt {X : Type} {g : zq_G} {O : zq_O X} {rep : X → List zq_E} {t : zq_T} {k d : Nat} {Q : Option Value → X → Prop} {nx : List zq_I → List Value → List Value → Nat × Nat → X → Prop} {ny : Nat → List Value → List Value → Nat × Nat → X → Prop} (C : zq_cx g O rep t k d Q nx ny) {pc len : Nat} {aux : List Nat} {cst : Value} {mask : List Bool} {tl : List zq_I} {ls st : List Value} {cs : Nat × Nat} {x : X} {off : Int} (hg : zq_ok t ((pc, .if_icmp .gt off, len, aux, cst, mask) :: tl)) (h : zq_st g O rep t.2.2.2.2.1 t.2.2.2.1 t.2.2.2.2.2.1 d Q nx ny ((pc, .if_icmp .gt off, len, aux, cst, mask) :: tl) ls st cs x) : zq_x g rep d k pc ls st cs x Q := by
  obtain ⟨hdec, hlk, hn⟩ := zq_head C hg
  simp only [zq_lk, Bool.and_eq_true, decide_eq_true_eq] at hlk
  obtain rfl : len = 3 := Nat.eq_of_beq_eq_true hlk.2
  replace h : (match (generalizing := false) st with
    | .int y :: .int z :: st => (y < z → nx (zq_sf t.2.2.2.2.1 (zq_ix aux 0)) ls st cs x) ∧ (¬ y < z → nx tl ls st cs x)
    | _ => False) := h
  split at h
  · intro t' ht' p e R s m args below meth c Z ha hr H locs la hw hl
    obtain rfl : t' = t := Option.some.inj (ht'.symm.trans C.2.1)
    exact lv_icmp_gt ha.2.1 ha.2.2.1 hdec hlk.1 (fun q => zq_jump C _ _ _ _ _ (h.1 q) t' ht' p e R s m args below meth c Z ha hr H locs la hw hl) (fun q => hn _ _ _ _ (h.2 q) t' ht' p e R s m args below meth c Z ha hr H locs la hw hl)
  · exact h.elim
theorem zq_s_ic_le {X : Type} {g : zq_G} {O : zq_O X} {rep : X → List zq_E} {t : zq_T} {k d : Nat} {Q : Option Value → X → Prop} {nx : List zq_I → List Value → List Value → Nat × Nat → X → Prop} {ny : Nat → List Value → List Value → Nat × Nat → X → Prop} (C : zq_cx g O rep t k d Q nx ny) {pc len : Nat} {aux : List Nat} {cst : Value} {mask : List Bool} {tl : List zq_I} {ls st : List Value} {cs : Nat × Nat} {x : X} {off : Int} (hg : zq_ok t ((pc, .if_icmp .le off, len, aux, cst, mask) :: tl)) (h : zq_st g O rep t.2.2.2.2.1 t.2.2.2.1 t.2.2.2.2.2.1 d Q nx ny ((pc, .if_icmp .le off, len, aux, cst, mask) :: tl) ls st cs x) : zq_x g rep d k pc ls st cs x Q := by
  obtain ⟨hdec, hlk, hn⟩ := zq_head C hg
  simp only [zq_lk, Bool.and_eq_true, decide_eq_true_eq] at hlk
  obtain rfl : len = 3 := Nat.eq_of_beq_eq_true hlk.2
  replace h : (match (generalizing := false) st with
    | .int y :: .int z :: st => (z ≤ y → nx (zq_sf t.2.2.2.2.1 (zq_ix aux 0)) ls st cs x) ∧ (¬ z ≤ y → nx tl ls st cs x)
    | _ => False) := h
  split at h
  · intro t' ht' p e R s m args below meth c Z ha hr H locs la hw hl
    obtain rfl : t' = t := Option.some.inj (ht'.symm.trans C.2.1)
    exact lv_icmp_le ha.2.1 ha.2.2.1 hdec hlk.1 (fun q => zq_jump C _ _ _ _ _ (h.1 q) t' ht' p e R s m args below meth c Z ha hr H locs la hw hl) (fun q => hn _ _ _ _ (h.2 q) t' ht' p e R s m args below meth c Z ha hr H locs la hw hl)
  · exact h.elim
theorem zq_s_goto {X : Type} {g : zq_G} {O : zq_O X} {rep : X → List zq_E} {t : zq_T} {k d : Nat} {Q : Option Value → X → Prop} {nx : List zq_I → List Value → List Value → Nat × Nat → X → Prop} {ny : Nat → List Value → List Value → Nat × Nat → X → Prop} (C : zq_cx g O rep t k d Q nx ny) {pc len : Nat} {aux : List Nat} {cst : Value} {mask : List Bool} {tl : List zq_I} {ls st : List Value} {cs : Nat × Nat} {x : X} {off : Int} (hg : zq_ok t ((pc, .goto off, len, aux, cst, mask) :: tl)) (h : zq_st g O rep t.2.2.2.2.1 t.2.2.2.1 t.2.2.2.2.2.1 d Q nx ny ((pc, .goto off, len, aux, cst, mask) :: tl) ls st cs x) : zq_x g rep d k pc ls st cs x Q := by
  obtain ⟨hdec, hlk, hn⟩ := zq_head C hg
  simp only [zq_lk, Bool.and_eq_true, decide_eq_true_eq] at hlk
  obtain rfl : len = 3 := Nat.eq_of_beq_eq_true hlk.2
  replace h : nx (zq_sf t.2.2.2.2.1 (zq_ix aux 0)) ls st cs x := h
  · intro t' ht' p e R s m args below meth c Z ha hr H locs la hw hl
    obtain rfl : t' = t := Option.some.inj (ht'.symm.trans C.2.1)
    exact lv_goto ha.2.1 ha.2.2.1 hdec hlk.1 (zq_jump C _ _ _ _ _ h t' ht' p e R s m args below meth c Z ha hr H locs la hw hl)
end
section
theorem zq_cf0 : ∀ w ∈ u_ws RX0 TX0 3, w ∈ zq_tb := by
  intro w hw
  have h : (u_ws RX0 TX0 3).all (fun w => decide (w ∈ lw_tbl) && goodWord w) = true := by decide +kernel
  have h1 := List.all_eq_true.mp h w hw
  rw [Bool.and_eq_true] at h1
  exact List.mem_filter.mpr ⟨of_decide_eq_true h1.1, h1.2⟩
theorem zq_cd0 : ∀ fs, zq_df[0]? = some fs → (∀ j, j < 3 → defaultValue (tyX0 j) = vp_V fs j) ∧ ∀ g : zq_G, fs.map (zq_c g) = fs := by
  intro fs hfs
  cases hfs
  exact ⟨by decide +kernel, fun g => rfl⟩
theorem zq_cf1 : ∀ w ∈ u_ws RX1 TX1 4, w ∈ zq_tb := by
  intro w hw
  have h : (u_ws RX1 TX1 4).all (fun w => decide (w ∈ lw_tbl) && goodWord w) = true := by decide +kernel
  have h1 := List.all_eq_true.mp h w hw
  rw [Bool.and_eq_true] at h1
  exact List.mem_filter.mpr ⟨of_decide_eq_true h1.1, h1.2⟩
theorem zq_cd1 : ∀ fs, zq_df[1]? = some fs → (∀ j, j < 4 → defaultValue (tyX1 j) = vp_V fs j) ∧ ∀ g : zq_G, fs.map (zq_c g) = fs := by
  intro fs hfs
  cases hfs
  exact ⟨by decide +kernel, fun g => rfl⟩
theorem zq_cf2 : ∀ w ∈ u_ws RX2 TX2 5, w ∈ zq_tb := by
  intro w hw
  have h : (u_ws RX2 TX2 5).all (fun w => decide (w ∈ lw_tbl) && goodWord w) = true := by decide +kernel
  have h1 := List.all_eq_true.mp h w hw
  rw [Bool.and_eq_true] at h1
  exact List.mem_filter.mpr ⟨of_decide_eq_true h1.1, h1.2⟩
theorem zq_cd2 : ∀ fs, zq_df[2]? = some fs → (∀ j, j < 5 → defaultValue (tyX2 j) = vp_V fs j) ∧ ∀ g : zq_G, fs.map (zq_c g) = fs := by
  intro fs hfs
  cases hfs
  exact ⟨by decide +kernel, fun g => rfl⟩
theorem zq_cf3 : ∀ w ∈ u_ws RX3 TX3 4, w ∈ zq_tb := by
  intro w hw
  have h : (u_ws RX3 TX3 4).all (fun w => decide (w ∈ lw_tbl) && goodWord w) = true := by decide +kernel
  have h1 := List.all_eq_true.mp h w hw
  rw [Bool.and_eq_true] at h1
  exact List.mem_filter.mpr ⟨of_decide_eq_true h1.1, h1.2⟩
theorem zq_cd3 : ∀ fs, zq_df[3]? = some fs → (∀ j, j < 4 → defaultValue (tyX3 j) = vp_V fs j) ∧ ∀ g : zq_G, fs.map (zq_c g) = fs := by
  intro fs hfs
  cases hfs
  exact ⟨by decide +kernel, fun g => rfl⟩
theorem zq_cf4 : ∀ w ∈ u_ws RX4 TX4 4, w ∈ zq_tb := by
  intro w hw
  have h : (u_ws RX4 TX4 4).all (fun w => decide (w ∈ lw_tbl) && goodWord w) = true := by decide +kernel
  have h1 := List.all_eq_true.mp h w hw
  rw [Bool.and_eq_true] at h1
  exact List.mem_filter.mpr ⟨of_decide_eq_true h1.1, h1.2⟩
theorem zq_cd4 : ∀ fs, zq_df[4]? = some fs → (∀ j, j < 4 → defaultValue (tyX4 j) = vp_V fs j) ∧ ∀ g : zq_G, fs.map (zq_c g) = fs := by
  intro fs hfs
  cases hfs
  exact ⟨by decide +kernel, fun g => rfl⟩
theorem zq_cf5 : ∀ w ∈ u_ws RX5 TX5 8, w ∈ zq_tb := by
  intro w hw
  have h : (u_ws RX5 TX5 8).all (fun w => decide (w ∈ lw_tbl) && goodWord w) = true := by decide +kernel
  have h1 := List.all_eq_true.mp h w hw
  rw [Bool.and_eq_true] at h1
  exact List.mem_filter.mpr ⟨of_decide_eq_true h1.1, h1.2⟩
theorem zq_cd5 : ∀ fs, zq_df[5]? = some fs → (∀ j, j < 8 → defaultValue (tyX5 j) = vp_V fs j) ∧ ∀ g : zq_G, fs.map (zq_c g) = fs := by
  intro fs hfs
  cases hfs
  exact ⟨by decide +kernel, fun g => rfl⟩
theorem zq_cf6 : ∀ w ∈ u_ws RX6 TX6 3, w ∈ zq_tb := by
  intro w hw
  have h : (u_ws RX6 TX6 3).all (fun w => decide (w ∈ lw_tbl) && goodWord w) = true := by decide +kernel
  have h1 := List.all_eq_true.mp h w hw
  rw [Bool.and_eq_true] at h1
  exact List.mem_filter.mpr ⟨of_decide_eq_true h1.1, h1.2⟩
theorem zq_cd6 : ∀ fs, zq_df[6]? = some fs → (∀ j, j < 3 → defaultValue (tyX6 j) = vp_V fs j) ∧ ∀ g : zq_G, fs.map (zq_c g) = fs := by
  intro fs hfs
  cases hfs
  exact ⟨by decide +kernel, fun g => rfl⟩
theorem zq_cf7 : ∀ w ∈ u_ws RX7 TX7 5, w ∈ zq_tb := by
  intro w hw
  have h : (u_ws RX7 TX7 5).all (fun w => decide (w ∈ lw_tbl) && goodWord w) = true := by decide +kernel
  have h1 := List.all_eq_true.mp h w hw
  rw [Bool.and_eq_true] at h1
  exact List.mem_filter.mpr ⟨of_decide_eq_true h1.1, h1.2⟩
theorem zq_cd7 : ∀ fs, zq_df[7]? = some fs → (∀ j, j < 5 → defaultValue (tyX7 j) = vp_V fs j) ∧ ∀ g : zq_G, fs.map (zq_c g) = fs := by
  intro fs hfs
  cases hfs
  exact ⟨by decide +kernel, fun g => rfl⟩
theorem zq_cf8 : ∀ w ∈ u_ws RX8 TX8 7, w ∈ zq_tb := by
  intro w hw
  have h : (u_ws RX8 TX8 7).all (fun w => decide (w ∈ lw_tbl) && goodWord w) = true := by decide +kernel
  have h1 := List.all_eq_true.mp h w hw
  rw [Bool.and_eq_true] at h1
  exact List.mem_filter.mpr ⟨of_decide_eq_true h1.1, h1.2⟩
theorem zq_cd8 : ∀ fs, zq_df[8]? = some fs → (∀ j, j < 7 → defaultValue (tyX8 j) = vp_V fs j) ∧ ∀ g : zq_G, fs.map (zq_c g) = fs := by
  intro fs hfs
  cases hfs
  exact ⟨by decide +kernel, fun g => rfl⟩
theorem zq_cf9 : ∀ w ∈ u_ws RX9 TX9 11, w ∈ zq_tb := by
  intro w hw
  have h : (u_ws RX9 TX9 11).all (fun w => decide (w ∈ lw_tbl) && goodWord w) = true := by decide +kernel
  have h1 := List.all_eq_true.mp h w hw
  rw [Bool.and_eq_true] at h1
  exact List.mem_filter.mpr ⟨of_decide_eq_true h1.1, h1.2⟩
theorem zq_cd9 : ∀ fs, zq_df[9]? = some fs → (∀ j, j < 11 → defaultValue (tyX9 j) = vp_V fs j) ∧ ∀ g : zq_G, fs.map (zq_c g) = fs := by
  intro fs hfs
  cases hfs
  exact ⟨by decide +kernel, fun g => rfl⟩
theorem zq_cf10 : ∀ w ∈ u_ws RX10 TX10 8, w ∈ zq_tb := by
  intro w hw
  have h : (u_ws RX10 TX10 8).all (fun w => decide (w ∈ lw_tbl) && goodWord w) = true := by decide +kernel
  have h1 := List.all_eq_true.mp h w hw
  rw [Bool.and_eq_true] at h1
  exact List.mem_filter.mpr ⟨of_decide_eq_true h1.1, h1.2⟩
theorem zq_cd10 : ∀ fs, zq_df[10]? = some fs → (∀ j, j < 8 → defaultValue (tyX10 j) = vp_V fs j) ∧ ∀ g : zq_G, fs.map (zq_c g) = fs := by
  intro fs hfs
  cases hfs
  exact ⟨by decide +kernel, fun g => rfl⟩
theorem zq_cf11 : ∀ w ∈ u_ws RX11 TX11 12, w ∈ zq_tb := by
  intro w hw
  have h : (u_ws RX11 TX11 12).all (fun w => decide (w ∈ lw_tbl) && goodWord w) = true := by decide +kernel
  have h1 := List.all_eq_true.mp h w hw
  rw [Bool.and_eq_true] at h1
  exact List.mem_filter.mpr ⟨of_decide_eq_true h1.1, h1.2⟩
theorem zq_cd11 : ∀ fs, zq_df[11]? = some fs → (∀ j, j < 12 → defaultValue (tyX11 j) = vp_V fs j) ∧ ∀ g : zq_G, fs.map (zq_c g) = fs := by
  intro fs hfs
  cases hfs
  exact ⟨by decide +kernel, fun g => rfl⟩
theorem zq_cf12 : ∀ w ∈ u_ws RX12 TX12 54, w ∈ zq_tb := by
  intro w hw
  have h : (u_ws RX12 TX12 54).all (fun w => decide (w ∈ lw_tbl) && goodWord w) = true := by decide +kernel
  have h1 := List.all_eq_true.mp h w hw
  rw [Bool.and_eq_true] at h1
  exact List.mem_filter.mpr ⟨of_decide_eq_true h1.1, h1.2⟩
theorem zq_cd12 : ∀ fs, zq_df[12]? = some fs → (∀ j, j < 54 → defaultValue (tyX12 j) = vp_V fs j) ∧ ∀ g : zq_G, fs.map (zq_c g) = fs := by
  intro fs hfs
  cases hfs
  exact ⟨by decide +kernel, fun g => rfl⟩
theorem zq_cf : ∀ (ci : Nat) (q : vw_C), vwCl[ci]? = some q → ∃ ty : Nat → FieldType, (∀ w ∈ u_ws q.1 q.2.1 q.2.2, w ∈ zq_tb) ∧ (∀ k, k < q.2.2 → parseFieldDescriptor (q.2.1 k).2.2.1 = some (ty k)) ∧ (∀ a, a < q.2.2 → ∀ b, b < q.2.2 → a ≠ b → (q.2.1 a).2.1 ≠ (q.2.1 b).2.1) ∧ ∀ fs, zq_df[ci]? = some fs → (∀ j, j < q.2.2 → defaultValue (ty j) = vp_V fs j) ∧ ∀ g : zq_G, fs.map (zq_c g) = fs := by
  intro ci q hq
  match ci, hq with
  | 0, hq => cases hq; exact ⟨tyX0, zq_cf0, tyX0_ok, nmX0, zq_cd0⟩
  | 1, hq => cases hq; exact ⟨tyX1, zq_cf1, tyX1_ok, nmX1, zq_cd1⟩
  | 2, hq => cases hq; exact ⟨tyX2, zq_cf2, tyX2_ok, nmX2, zq_cd2⟩
  | 3, hq => cases hq; exact ⟨tyX3, zq_cf3, tyX3_ok, nmX3, zq_cd3⟩
  | 4, hq => cases hq; exact ⟨tyX4, zq_cf4, tyX4_ok, nmX4, zq_cd4⟩
  | 5, hq => cases hq; exact ⟨tyX5, zq_cf5, tyX5_ok, nmX5, zq_cd5⟩
  | 6, hq => cases hq; exact ⟨tyX6, zq_cf6, tyX6_ok, nmX6, zq_cd6⟩
  | 7, hq => cases hq; exact ⟨tyX7, zq_cf7, tyX7_ok, nmX7, zq_cd7⟩
  | 8, hq => cases hq; exact ⟨tyX8, zq_cf8, tyX8_ok, nmX8, zq_cd8⟩
  | 9, hq => cases hq; exact ⟨tyX9, zq_cf9, tyX9_ok, nmX9, zq_cd9⟩
  | 10, hq => cases hq; exact ⟨tyX10, zq_cf10, tyX10_ok, nmX10, zq_cd10⟩
  | 11, hq => cases hq; exact ⟨tyX11, zq_cf11, tyX11_ok, nmX11, zq_cd11⟩
  | 12, hq => cases hq; exact ⟨tyX12, zq_cf12, tyX12_ok, nmX12, zq_cd12⟩
  | n + 13, hq => simp [vwCl] at hq
end
section
theorem zq_tw_at (z : Int32) (f : Nat → Prop) : ∀ (l : List Nat) (i : Int) (j a : Nat), zq_tw z f i l → l[j]? = some a → z.toInt = i + j → f a
  | [], i, j, a, h, hl, hz => by simp at hl
  | b :: [], i, j, a, h, hl, hz => by
    have hj : j = 0 := by
      have := (List.getElem?_eq_some_iff.mp hl).1
      simp at this
      exact this
    subst hj
    have e : b = a := by simpa using hl
    rw [← e]
    exact h (by rw [hz]; simp)
  | b :: b' :: r, i, j, a, h, hl, hz => by
    cases j with
    | zero =>
      have e : b = a := by simpa using hl
      rw [← e]
      exact h.1 (by rw [hz]; simp)
    | succ j => exact zq_tw_at z f (b' :: r) (i + 1) j a h.2 (by simpa using hl) (by rw [hz]; push_cast; omega)
theorem zq_s_tableswitch {X : Type} {g : zq_G} {O : zq_O X} {rep : X → List zq_E} {t : zq_T} {k d : Nat} {Q : Option Value → X → Prop} {nx : List zq_I → List Value → List Value → Nat × Nat → X → Prop} {ny : Nat → List Value → List Value → Nat × Nat → X → Prop} (C : zq_cx g O rep t k d Q nx ny) {pc len : Nat} {aux : List Nat} {cst : Value} {mask : List Bool} {tl : List zq_I} {ls st : List Value} {cs : Nat × Nat} {x : X} {dflt lo hi : Int} {offs : Array Int} (hg : zq_ok t ((pc, .tableswitch dflt lo hi offs, len, aux, cst, mask) :: tl)) (h : zq_st g O rep t.2.2.2.2.1 t.2.2.2.1 t.2.2.2.2.2.1 d Q nx ny ((pc, .tableswitch dflt lo hi offs, len, aux, cst, mask) :: tl) ls st cs x) : zq_x g rep d k pc ls st cs x Q := by
  obtain ⟨hdec, hlk, hn⟩ := zq_head C hg
  simp only [zq_lk, Bool.and_eq_true, decide_eq_true_eq] at hlk
  obtain ⟨h1, h2, h3, h4⟩ := hlk
  replace h : (match (generalizing := false) st with
    | .int z :: st => ((z.toInt < lo ∨ hi < z.toInt) → nx (zq_sf t.2.2.2.2.1 (zq_ix aux 0)) ls st cs x) ∧ zq_tw z (fun a => nx (zq_sf t.2.2.2.2.1 a) ls st cs x) lo (aux.drop 1)
    | _ => False) := h
  split at h
  · next z st =>
    intro t' ht' p e R s m args below meth c Z ha hr H locs la hw hl
    obtain rfl : t' = t := Option.some.inj (ht'.symm.trans C.2.1)
    by_cases q : z.toInt < lo ∨ hi < z.toInt
    · exact lv_tableOut ha.2.1 ha.2.2.1 hdec q h1 (zq_jump C _ _ _ _ _ (h.1 q) t' ht' p e R s m args below meth c Z ha hr H locs la hw hl)
    · have q1 : ¬ z.toInt < lo := fun w => q (Or.inl w)
      have q2 : ¬ hi < z.toInt := fun w => q (Or.inr w)
      have hj : (z.toInt - lo).toNat < (aux.drop 1).length := by omega
      have e1 : (aux.drop 1)[(z.toInt - lo).toNat]? = some ((aux.drop 1)[(z.toInt - lo).toNat]) := List.getElem?_eq_getElem hj
      have e2 : (offs.toList.map (fun o => (pc : Int) + o))[(z.toInt - lo).toNat]? = some (((aux.drop 1)[(z.toInt - lo).toNat] : Nat) : Int) := by
        rw [h2, List.getElem?_map, e1]; rfl
      rw [List.getElem?_map] at e2
      obtain ⟨off, e3, e4⟩ := Option.map_eq_some_iff.mp e2
      refine lv_tableIn ha.2.1 ha.2.2.1 hdec q1 q2 (off := off) (by rw [← Array.getElem?_toList]; exact e3) e4 (zq_jump C _ _ _ _ _ (zq_tw_at z _ _ lo _ _ h.2 e1 (by omega)) t' ht' p e R s m args below meth c Z ha hr H locs la hw hl)
  · exact h.elim
theorem zq_fk_of {t : zq_T} {aux : List Nat} {i : Nat} (h : zq_fk t aux i = true) : ∃ q, vwCl[zq_ix aux 0]? = some q ∧ zq_ix aux 1 < q.2.2 ∧ Jvm.Cond.fieldLink t.1.cls i (q.2.1 (zq_ix aux 1)).1 (q.2.1 (zq_ix aux 1)).2.1 (q.2.1 (zq_ix aux 1)).2.2.1 ∈ zq_tb ∧ zq_ax aux = true := by
  unfold zq_fk at h
  split at h
  · next q hq =>
    simp only [Bool.and_eq_true] at h
    exact ⟨q, hq, Nat.le_of_ble_eq_true h.1.1, zq_is_in h.1.2, h.2⟩
  · cases h
theorem zq_s_getfield {X : Type} {g : zq_G} {O : zq_O X} {rep : X → List zq_E} {t : zq_T} {k d : Nat} {Q : Option Value → X → Prop} {nx : List zq_I → List Value → List Value → Nat × Nat → X → Prop} {ny : Nat → List Value → List Value → Nat × Nat → X → Prop} (C : zq_cx g O rep t k d Q nx ny) {pc len : Nat} {aux : List Nat} {cst : Value} {mask : List Bool} {tl : List zq_I} {ls st : List Value} {cs : Nat × Nat} {x : X} {i : Nat} (hg : zq_ok t ((pc, .getfield i, len, aux, cst, mask) :: tl)) (h : zq_st g O rep t.2.2.2.2.1 t.2.2.2.1 t.2.2.2.2.2.1 d Q nx ny ((pc, .getfield i, len, aux, cst, mask) :: tl) ls st cs x) : zq_x g rep d k pc ls st cs x Q := by
  obtain ⟨hdec, hlk, hn⟩ := zq_head C hg
  simp only [zq_lk, Bool.and_eq_true, decide_eq_true_eq] at hlk
  obtain rfl : len = 3 := Nat.eq_of_beq_eq_true hlk.2
  replace h : (match (generalizing := false) st with
    | .ref o :: st => match O.1 x aux o with
      | some v => nx tl ls (v :: st) cs x
      | none => False
    | _ => False) := h
  obtain ⟨q, hq, hk, hlink, hax⟩ := zq_fk_of hlk.1
  split at h
  · next o st =>
    split at h
    · next v hv =>
      obtain ⟨fs, hf1, hf2⟩ := C.1.1 x aux o v hax hv
      intro t' ht' p e R s m args below meth c Z ha hr H locs la hw hl
      obtain rfl : t' = t := Option.some.inj (ht'.symm.trans C.2.1)
      obtain ⟨hR, hx, hb, hrt, hml, hown, hts, hlk0, hin0, hK, hro, hB, had⟩ := id ha
      obtain ⟨hlen, hcs, hP, hS⟩ := id hw
      have hD := zq_wD had hlen
      obtain ⟨ty, c1, -⟩ := zq_cf _ q hq
      exact va_get (D := zq_D g) (cl := vwCl) (v := zq_c g v) hx hb hts c1 hown hK hP o (zq_w_at hf1) hq (zq_ix aux 1) hk (hts _ hlink) (fun _ z => z) (by rw [List.getElem?_map, hf2]; rfl) hdec (hn _ _ _ _ h t' ht' p e R s m args below meth c Z ha hr H locs la hw hl)
    · exact h.elim
  · exact h.elim
theorem zq_s_putfield {X : Type} {g : zq_G} {O : zq_O X} {rep : X → List zq_E} {t : zq_T} {k d : Nat} {Q : Option Value → X → Prop} {nx : List zq_I → List Value → List Value → Nat × Nat → X → Prop} {ny : Nat → List Value → List Value → Nat × Nat → X → Prop} (C : zq_cx g O rep t k d Q nx ny) {pc len : Nat} {aux : List Nat} {cst : Value} {mask : List Bool} {tl : List zq_I} {ls st : List Value} {cs : Nat × Nat} {x : X} {i : Nat} (hg : zq_ok t ((pc, .putfield i, len, aux, cst, mask) :: tl)) (h : zq_st g O rep t.2.2.2.2.1 t.2.2.2.1 t.2.2.2.2.2.1 d Q nx ny ((pc, .putfield i, len, aux, cst, mask) :: tl) ls st cs x) : zq_x g rep d k pc ls st cs x Q := by
  obtain ⟨hdec, hlk, hn⟩ := zq_head C hg
  simp only [zq_lk, Bool.and_eq_true, decide_eq_true_eq] at hlk
  obtain rfl : len = 3 := Nat.eq_of_beq_eq_true hlk.2
  replace h : (match (generalizing := false) st with
    | v :: .ref o :: st => match O.2.1 x aux o v with
      | some x' => match zq_ix aux 2, v with
        | 0, .int _ => nx tl ls st cs x'
        | 1, .int u => zq_b u ∧ nx tl ls st cs x'
        | 2, .ref _ => nx tl ls st cs x'
        | _, _ => False
      | none => False
    | _ => False) := h
  obtain ⟨q, hq, hk, hlink, hax⟩ := zq_fk_of hlk.1.1
  have hfp := hlk.1.2
  unfold zq_fp at hfp
  rw [hq] at hfp
  replace hfp : ((!(q.2.1 (zq_ix aux 1)).2.2.2 || (decide (t.1.name = "<init>") && decide ((q.2.1 (zq_ix aux 1)).1 = t.1.cls))) && (match zq_ix aux 2, parseFieldDescriptor (q.2.1 (zq_ix aux 1)).2.2.1 with
    | 0, some .int => true
    | 1, some .boolean => true
    | 2, some (.object _) => true
    | 2, some (.array _) => true
    | _, _ => false)) = true := hfp
  rw [Bool.and_eq_true] at hfp
  obtain ⟨hfin, hty⟩ := hfp
  obtain ⟨ty, c1, c2, c3, -⟩ := zq_cf _ q hq
  split at h
  · next v o st =>
    split at h
    · next x' hv =>
      obtain ⟨fs, hf1, hf2, hf3⟩ := C.1.2.1 x aux o v x' hax hv
      have key : nx tl ls st cs x' ∧ ∃ fty, parseFieldDescriptor (q.2.1 (zq_ix aux 1)).2.2.1 = some fty ∧ narrow fty (zq_c g v) = zq_c g v ∧ fits fty (zq_c g v) = true := by
        split at h
        · next e =>
          rw [e] at hty
          split at hty <;> first | (exfalso; omega) | (next e2 => exact ⟨h, _, e2, rfl, rfl⟩) | cases hty
        · next u e =>
          rw [e] at hty
          obtain ⟨hb, h⟩ := h
          split at hty <;> first | (exfalso; omega) | (next e2 => exact ⟨h, _, e2, by rcases hb with rfl | rfl <;> rfl, by rcases hb with rfl | rfl <;> rfl⟩) | cases hty
        · next e =>
          rw [e] at hty
          split at hty <;> first | (exfalso; omega) | (next e2 => exact ⟨h, _, e2, rfl, rfl⟩) | cases hty
        · exact h.elim
      obtain ⟨h, fty, f1, f2, f3⟩ := key
      intro t' ht' p e R s m args below meth c Z ha hr H locs la hw hl
      obtain rfl : t' = t := Option.some.inj (ht'.symm.trans C.2.1)
      obtain ⟨hR, hx, hb, hrt, hml, hown, hts, hlk0, hin0, hK, hro, hB, had⟩ := id ha
      obtain ⟨hlen, hcs, hP, hS⟩ := id hw
      have hD := zq_wD had hlen
      have fin : ∀ (H1 : Heap) (locs1 : List Loc), va_P (zq_D g) vwCl ((zq_w g 0 (rep x)).set o (zq_ad g o, .inr (zq_ix aux 0, (fs.map (zq_c g)).set (zq_ix aux 1) (zq_c g v)))) H1 → va_D (zq_F g) ((zq_w g 0 (rep x)).set o (zq_ad g o, .inr (zq_ix aux 0, (fs.map (zq_c g)).set (zq_ix aux 1) (zq_c g v)))) → va_S (zq_F g) s.heap H1 locs1 → W p (zq_l g) e R s m args below meth c H1 locs1 cs.1 cs.2 Z (F0 m (pc + 3) la (st.map (zq_c g))) := by
        intro H1 locs1 p1 p2 p3
        refine hn _ _ _ _ h t' ht' p e R s m args below meth c Z ha hr H1 locs1 la ⟨?_, ?_, ?_, p3⟩ hl
        · rw [hf3, List.length_set]; exact hlen
        · rw [hf3, List.length_set]; exact hcs
        · rw [hf3, ← zq_w_set, Nat.zero_add]
          rw [← List.map_set] at p1
          exact p1
      have hl2 : zq_ix aux 1 < (fs.map (zq_c g)).length := by rw [List.length_map]; exact hf2
      cases hf : (q.2.1 (zq_ix aux 1)).2.2.2 with
      | false => exact va_put (D := zq_D g) (cl := vwCl) hx hb hts c1 ty c2 c3 hown hK hP hD hS o (zq_w_at hf1) hq (zq_ix aux 1) hk (hts _ hlink) (fun _ z => z) hf f1 f2 f3 hl2 hdec fin
      | true =>
        rw [hf] at hfin
        simp only [Bool.not_true, Bool.false_or, Bool.and_eq_true, decide_eq_true_eq] at hfin
        exact va_putF (D := zq_D g) (cl := vwCl) hx hb hts c1 ty c2 c3 hown hK hP hD hS o (zq_w_at hf1) hq (zq_ix aux 1) hk (hts _ hlink) (fun _ z => z) hf (hin0 hfin.1) hfin.2 f1 f2 f3 hl2 hdec fin
    · exact h.elim
  · exact h.elim
theorem zq_s_getstatic {X : Type} {g : zq_G} {O : zq_O X} {rep : X → List zq_E} {t : zq_T} {k d : Nat} {Q : Option Value → X → Prop} {nx : List zq_I → List Value → List Value → Nat × Nat → X → Prop} {ny : Nat → List Value → List Value → Nat × Nat → X → Prop} (C : zq_cx g O rep t k d Q nx ny) {pc len : Nat} {aux : List Nat} {cst : Value} {mask : List Bool} {tl : List zq_I} {ls st : List Value} {cs : Nat × Nat} {x : X} {i : Nat} (hg : zq_ok t ((pc, .getstatic i, len, aux, cst, mask) :: tl)) (h : zq_st g O rep t.2.2.2.2.1 t.2.2.2.1 t.2.2.2.2.2.1 d Q nx ny ((pc, .getstatic i, len, aux, cst, mask) :: tl) ls st cs x) : zq_x g rep d k pc ls st cs x Q := by
  obtain ⟨hdec, hlk, hn⟩ := zq_head C hg
  simp only [zq_lk, Bool.and_eq_true, decide_eq_true_eq] at hlk
  obtain rfl : len = 3 := Nat.eq_of_beq_eq_true hlk.2
  replace h : nx tl ls (.ref (1001 + zq_ix aux 0) :: st) cs x := h
  obtain ⟨hj, hw1⟩ := hlk.1
  have hj := Nat.le_of_ble_eq_true hj
  · intro t' ht' p e R s m args below meth c Z ha hr H locs la hw hl
    obtain rfl : t' = t := Option.some.inj (ht'.symm.trans C.2.1)
    obtain ⟨hR, hx, hb, hrt, hml, hown, hts, hlk0, hin0, hK, hro, hB, had⟩ := id ha
    obtain ⟨hlen, hcs, hP, hS⟩ := id hw
    have hD := zq_wD had hlen
    have hz := hro.2.1 (zq_ix aux 0) hj
    split at hw1
    · exact va_gets (A := zq_F g) hx hb hz hS hown (hts _ (zq_is_in hw1)) (fun _ z => z) hdec (hn _ _ _ _ h t' ht' p e R s m args below meth c Z ha hr H locs la hw hl)
    · obtain ⟨q, hq, e2⟩ := Option.map_eq_some_iff.mp (of_decide_eq_true hw1)
      have hN := hro.2.2.2.1 q (List.mem_of_getElem? hq)
      simp only [Prod.mk.injEq] at e2
      obtain ⟨e3, e4, e5, e6, e7⟩ := e2
      rw [e3, e4, e5, e6, e7] at hN
      exact va_getsN (A := zq_F g) hx hb hz hS hown (va_Nw.use rfl hN) (fun _ z => z) hdec (hn _ _ _ _ h t' ht' p e R s m args below meth c Z ha hr H locs la hw hl)
end
section
theorem zq_al_of {X : Type} {g : zq_G} {O : zq_O X} {x : X} {a n : Nat} {f : Nat → Int32} (h : zq_al g O x a = some (n, f)) : (1000 ≤ a ∧ a ≤ 1005 ∧ n = zq_rl g (a - 1000) ∧ f = zq_rf g (a - 1000)) ∨ O.2.2.1 x a = some (false, n, f) := by
  unfold zq_al at h
  split at h
  · next h1 =>
    split at h
    · next h2 =>
      simp only [Option.some.injEq, Prod.mk.injEq] at h
      exact Or.inl ⟨Nat.le_of_ble_eq_true h1, Nat.le_of_ble_eq_true h2, h.1.symm, h.2.symm⟩
    · cases h
  · split at h
    · next h2 => cases h; exact Or.inr h2
    · cases h
theorem zq_ro_at {g : zq_G} {s : State} {a : Nat} (hro : zq_ro g s s.heap) (hB : zq_B g ≤ s.heap.size) (h1 : 1000 ≤ a) (h2 : a ≤ 1005) : va_X (zq_ad g a) (zq_rl g (a - 1000)) (zq_rf g (a - 1000)) s s.heap ∧ zq_ad g a < s.heap.size ∧ ¬ zq_F g (zq_ad g a) := by
  have h := hro.1 (a - 1000) (by omega)
  rw [show 1000 + (a - 1000) = a by omega] at h
  refine ⟨h.1, by omega, ?_⟩
  show ¬ zq_B g ≤ _
  omega
theorem zq_s_iaload {X : Type} {g : zq_G} {O : zq_O X} {rep : X → List zq_E} {t : zq_T} {k d : Nat} {Q : Option Value → X → Prop} {nx : List zq_I → List Value → List Value → Nat × Nat → X → Prop} {ny : Nat → List Value → List Value → Nat × Nat → X → Prop} (C : zq_cx g O rep t k d Q nx ny) {pc len : Nat} {aux : List Nat} {cst : Value} {mask : List Bool} {tl : List zq_I} {ls st : List Value} {cs : Nat × Nat} {x : X} (hg : zq_ok t ((pc, .iaload, len, aux, cst, mask) :: tl)) (h : zq_st g O rep t.2.2.2.2.1 t.2.2.2.1 t.2.2.2.2.2.1 d Q nx ny ((pc, .iaload, len, aux, cst, mask) :: tl) ls st cs x) : zq_x g rep d k pc ls st cs x Q := by
  obtain ⟨hdec, hlk, hn⟩ := zq_head C hg
  simp only [zq_lk, Bool.and_eq_true, decide_eq_true_eq] at hlk
  obtain rfl : len = 1 := Nat.eq_of_beq_eq_true hlk.2
  replace h : (match (generalizing := false) st with
    | .int i :: .ref a :: st => match zq_al g O x a with
      | some (n, f) => vp_in i n ∧ nx tl ls (.int (f i.toNatClampNeg) :: st) cs x
      | none => False
    | _ => False) := h
  split at h
  · next i a st =>
    split at h
    · next n f hv =>
      intro t' ht' p e R s m args below meth c Z ha hr H locs la hw hl
      obtain rfl : t' = t := Option.some.inj (ht'.symm.trans C.2.1)
      obtain ⟨hR, hx, hb, hrt, hml, hown, hts, hlk0, hin0, hK, hro, hB, had⟩ := id ha
      obtain ⟨hlen, hcs, hP, hS⟩ := id hw
      have hD := zq_wD had hlen
      rcases zq_al_of hv with ⟨a1, a2, a3, a4⟩ | hO
      · obtain ⟨r1, r2, r3⟩ := zq_ro_at hro hB a1 a2
        rw [← a3, ← a4] at r1
        exact va_sld hx hb r1 r2 r3 hS h.1 hdec (hn _ _ _ _ h.2 t' ht' p e R s m args below meth c Z ha hr H locs la hw hl)
      · exact va_iald (D := zq_D g) (cl := vwCl) (tys := zq_ty g) hx hb hK hP a 0 (zq_w_at (C.1.2.2.1 x a _ hO)) rfl h.1 hdec (hn _ _ _ _ h.2 t' ht' p e R s m args below meth c Z ha hr H locs la hw hl)
    · exact h.elim
  · exact h.elim
theorem zq_s_arraylength {X : Type} {g : zq_G} {O : zq_O X} {rep : X → List zq_E} {t : zq_T} {k d : Nat} {Q : Option Value → X → Prop} {nx : List zq_I → List Value → List Value → Nat × Nat → X → Prop} {ny : Nat → List Value → List Value → Nat × Nat → X → Prop} (C : zq_cx g O rep t k d Q nx ny) {pc len : Nat} {aux : List Nat} {cst : Value} {mask : List Bool} {tl : List zq_I} {ls st : List Value} {cs : Nat × Nat} {x : X} (hg : zq_ok t ((pc, .arraylength, len, aux, cst, mask) :: tl)) (h : zq_st g O rep t.2.2.2.2.1 t.2.2.2.1 t.2.2.2.2.2.1 d Q nx ny ((pc, .arraylength, len, aux, cst, mask) :: tl) ls st cs x) : zq_x g rep d k pc ls st cs x Q := by
  obtain ⟨hdec, hlk, hn⟩ := zq_head C hg
  simp only [zq_lk, Bool.and_eq_true, decide_eq_true_eq] at hlk
  obtain rfl : len = 1 := Nat.eq_of_beq_eq_true hlk.2
  replace h : (match (generalizing := false) st with
    | .ref a :: st => match zq_al g O x a with
      | some (n, _) => nx tl ls (.int (nI n) :: st) cs x
      | none => False
    | _ => False) := h
  split at h
  · next a st =>
    split at h
    · next n f hv =>
      intro t' ht' p e R s m args below meth c Z ha hr H locs la hw hl
      obtain rfl : t' = t := Option.some.inj (ht'.symm.trans C.2.1)
      obtain ⟨hR, hx, hb, hrt, hml, hown, hts, hlk0, hin0, hK, hro, hB, had⟩ := id ha
      obtain ⟨hlen, hcs, hP, hS⟩ := id hw
      have hD := zq_wD had hlen
      rcases zq_al_of hv with ⟨a1, a2, a3, a4⟩ | hO
      · obtain ⟨r1, r2, r3⟩ := zq_ro_at hro hB a1 a2
        rw [← a3, ← a4] at r1
        exact va_slen hx hb r1 r2 r3 hS hdec (hn _ _ _ _ h t' ht' p e R s m args below meth c Z ha hr H locs la hw hl)
      · exact va_alen (D := zq_D g) (cl := vwCl) (tys := zq_ty g) hx hb hK hP a 0 (zq_w_at (C.1.2.2.1 x a _ hO)) rfl rfl hdec (hn _ _ _ _ h t' ht' p e R s m args below meth c Z ha hr H locs la hw hl)
    · exact h.elim
  · exact h.elim
theorem zq_s_iastore {X : Type} {g : zq_G} {O : zq_O X} {rep : X → List zq_E} {t : zq_T} {k d : Nat} {Q : Option Value → X → Prop} {nx : List zq_I → List Value → List Value → Nat × Nat → X → Prop} {ny : Nat → List Value → List Value → Nat × Nat → X → Prop} (C : zq_cx g O rep t k d Q nx ny) {pc len : Nat} {aux : List Nat} {cst : Value} {mask : List Bool} {tl : List zq_I} {ls st : List Value} {cs : Nat × Nat} {x : X} (hg : zq_ok t ((pc, .iastore, len, aux, cst, mask) :: tl)) (h : zq_st g O rep t.2.2.2.2.1 t.2.2.2.1 t.2.2.2.2.2.1 d Q nx ny ((pc, .iastore, len, aux, cst, mask) :: tl) ls st cs x) : zq_x g rep d k pc ls st cs x Q := by
  obtain ⟨hdec, hlk, hn⟩ := zq_head C hg
  simp only [zq_lk, Bool.and_eq_true, decide_eq_true_eq] at hlk
  obtain rfl : len = 1 := Nat.eq_of_beq_eq_true hlk.2
  replace h : (match (generalizing := false) st with
    | .int v :: .int i :: .ref a :: st => match Nat.ble 1000 a, O.2.2.1 x a with
      | false, some (false, n, f) => vp_in i n ∧ nx tl ls st cs (O.2.2.2.1 x a (upd f i.toNatClampNeg v))
      | _, _ => False
    | _ => False) := h
  split at h
  · next v i a st =>
    split at h
    · next n f _ hO =>
      intro t' ht' p e R s m args below meth c Z ha hr H locs la hw hl
      obtain rfl : t' = t := Option.some.inj (ht'.symm.trans C.2.1)
      obtain ⟨hR, hx, hb, hrt, hml, hown, hts, hlk0, hin0, hK, hro, hB, had⟩ := id ha
      obtain ⟨hlen, hcs, hP, hS⟩ := id hw
      have hD := zq_wD had hlen
      exact va_iast (D := zq_D g) (cl := vwCl) (tys := zq_ty g) hx hb hK hP hD hS a 0 (zq_w_at (C.1.2.2.1 x a _ hO)) rfl h.1 hdec (fun H1 locs1 p1 p2 p3 => by
        refine hn _ _ _ _ h.2 t' ht' p e R s m args below meth c Z ha hr H1 locs1 la ⟨?_, ?_, ?_, p3⟩ hl
        · rw [C.1.2.2.2.1 x a _ _ hO, List.length_set]; exact hlen
        · rw [C.1.2.2.2.1 x a _ _ hO, List.length_set]; exact hcs
        · rw [C.1.2.2.2.1 x a _ _ hO, ← zq_w_set, Nat.zero_add]
          exact p1)
    · exact h.elim
  · exact h.elim
theorem zq_s_bastore {X : Type} {g : zq_G} {O : zq_O X} {rep : X → List zq_E} {t : zq_T} {k d : Nat} {Q : Option Value → X → Prop} {nx : List zq_I → List Value → List Value → Nat × Nat → X → Prop} {ny : Nat → List Value → List Value → Nat × Nat → X → Prop} (C : zq_cx g O rep t k d Q nx ny) {pc len : Nat} {aux : List Nat} {cst : Value} {mask : List Bool} {tl : List zq_I} {ls st : List Value} {cs : Nat × Nat} {x : X} (hg : zq_ok t ((pc, .bastore, len, aux, cst, mask) :: tl)) (h : zq_st g O rep t.2.2.2.2.1 t.2.2.2.1 t.2.2.2.2.2.1 d Q nx ny ((pc, .bastore, len, aux, cst, mask) :: tl) ls st cs x) : zq_x g rep d k pc ls st cs x Q := by
  obtain ⟨hdec, hlk, hn⟩ := zq_head C hg
  simp only [zq_lk, Bool.and_eq_true, decide_eq_true_eq] at hlk
  obtain rfl : len = 1 := Nat.eq_of_beq_eq_true hlk.2
  replace h : (match (generalizing := false) st with
    | .int v :: .int i :: .ref a :: st => match Nat.ble 1000 a, O.2.2.1 x a with
      | false, some (true, n, f) => vp_in i n ∧ nx tl ls st cs (O.2.2.2.1 x a (upd f i.toNatClampNeg (vp_nar .boolean v)))
      | _, _ => False
    | _ => False) := h
  split at h
  · next v i a st =>
    split at h
    · next n f _ hO =>
      intro t' ht' p e R s m args below meth c Z ha hr H locs la hw hl
      obtain rfl : t' = t := Option.some.inj (ht'.symm.trans C.2.1)
      obtain ⟨hR, hx, hb, hrt, hml, hown, hts, hlk0, hin0, hK, hro, hB, had⟩ := id ha
      obtain ⟨hlen, hcs, hP, hS⟩ := id hw
      have hD := zq_wD had hlen
      exact va_zast (D := zq_D g) (cl := vwCl) (tys := zq_ty g) hx hb hK hP hD hS a 1 (zq_w_at (C.1.2.2.1 x a _ hO)) rfl h.1 hdec (fun H1 locs1 p1 p2 p3 => by
        refine hn _ _ _ _ h.2 t' ht' p e R s m args below meth c Z ha hr H1 locs1 la ⟨?_, ?_, ?_, p3⟩ hl
        · rw [C.1.2.2.2.1 x a _ _ hO, List.length_set]; exact hlen
        · rw [C.1.2.2.2.1 x a _ _ hO, List.length_set]; exact hcs
        · rw [C.1.2.2.2.1 x a _ _ hO, ← zq_w_set, Nat.zero_add]
          exact p1)
    · exact h.elim
  · exact h.elim
theorem zq_s_baload {X : Type} {g : zq_G} {O : zq_O X} {rep : X → List zq_E} {t : zq_T} {k d : Nat} {Q : Option Value → X → Prop} {nx : List zq_I → List Value → List Value → Nat × Nat → X → Prop} {ny : Nat → List Value → List Value → Nat × Nat → X → Prop} (C : zq_cx g O rep t k d Q nx ny) {pc len : Nat} {aux : List Nat} {cst : Value} {mask : List Bool} {tl : List zq_I} {ls st : List Value} {cs : Nat × Nat} {x : X} (hg : zq_ok t ((pc, .baload, len, aux, cst, mask) :: tl)) (h : zq_st g O rep t.2.2.2.2.1 t.2.2.2.1 t.2.2.2.2.2.1 d Q nx ny ((pc, .baload, len, aux, cst, mask) :: tl) ls st cs x) : zq_x g rep d k pc ls st cs x Q := by
  obtain ⟨hdec, hlk, hn⟩ := zq_head C hg
  simp only [zq_lk, Bool.and_eq_true, decide_eq_true_eq] at hlk
  obtain rfl : len = 1 := Nat.eq_of_beq_eq_true hlk.2
  replace h : (match (generalizing := false) st with
    | .int i :: .ref a :: st => match Nat.ble 1000 a, O.2.2.1 x a with
      | false, some (true, n, f) => vp_in i n ∧ nx tl ls (.int (f i.toNatClampNeg) :: st) cs x
      | _, _ => False
    | _ => False) := h
  split at h
  · next i a st =>
    split at h
    · next n f _ hO =>
      intro t' ht' p e R s m args below meth c Z ha hr H locs la hw hl
      obtain rfl : t' = t := Option.some.inj (ht'.symm.trans C.2.1)
      obtain ⟨hR, hx, hb, hrt, hml, hown, hts, hlk0, hin0, hK, hro, hB, had⟩ := id ha
      obtain ⟨hlen, hcs, hP, hS⟩ := id hw
      have hD := zq_wD had hlen
      exact va_zald (D := zq_D g) (cl := vwCl) (tys := zq_ty g) hx hb hK hP a 1 (zq_w_at (C.1.2.2.1 x a _ hO)) rfl h.1 hdec (hn _ _ _ _ h.2 t' ht' p e R s m args below meth c Z ha hr H locs la hw hl)
    · exact h.elim
  · exact h.elim
theorem zq_push {g : zq_G} {s : State} {cs cs' : Nat × Nat} {h : List zq_E} {H H1 : Heap} {locs : List Loc} {e : zq_E} (hw : zq_wd g s cs h H locs) (had : ∀ k, k < 1000 → zq_ad g k = zq_B g + k) (hz : H.size = zq_B g + h.length) (hl : h.length < 999) (hc : cs'.1 = cs.1 + 1) (z1 : H1.size = H.size + 1) (o1 : ∀ q, q < H.size → H1[q]? = H[q]?) (he : va_at (zq_D g) vwCl (zq_ad g h.length, zq_ce g e) H1) : zq_wd g s cs' (h ++ [e]) H1 locs := by
  obtain ⟨h1, h2, hP, hS⟩ := hw
  refine ⟨by simp; omega, by simp; omega, ?_, Nat.le_trans hS.1 (by omega), fun q q1 q2 => by rw [o1 q (Nat.lt_of_lt_of_le q1 hS.1)]; exact hS.2.1 q q1 q2, hS.2.2⟩
  rw [zq_w_app, Nat.zero_add]
  refine (hP.kept (fun k q hq => o1 q.1 ((hP k q hq).lt))).app (fun k q hq => ?_)
  have hk : k < 1 := (List.getElem?_eq_some_iff.mp hq).1
  rw [show k = 0 by omega] at hq
  cases hq
  exact he
theorem zq_s_newarray {X : Type} {g : zq_G} {O : zq_O X} {rep : X → List zq_E} {t : zq_T} {k d : Nat} {Q : Option Value → X → Prop} {nx : List zq_I → List Value → List Value → Nat × Nat → X → Prop} {ny : Nat → List Value → List Value → Nat × Nat → X → Prop} (C : zq_cx g O rep t k d Q nx ny) {pc len : Nat} {aux : List Nat} {cst : Value} {mask : List Bool} {tl : List zq_I} {ls st : List Value} {cs : Nat × Nat} {x : X} {aty : ArrayType} (hg : zq_ok t ((pc, .newarray aty, len, aux, cst, mask) :: tl)) (h : zq_st g O rep t.2.2.2.2.1 t.2.2.2.1 t.2.2.2.2.2.1 d Q nx ny ((pc, .newarray aty, len, aux, cst, mask) :: tl) ls st cs x) : zq_x g rep d k pc ls st cs x Q := by
  obtain ⟨hdec, hlk, hn⟩ := zq_head C hg
  simp only [zq_lk, Bool.and_eq_true, decide_eq_true_eq] at hlk
  obtain rfl : len = 2 := Nat.eq_of_beq_eq_true hlk.2
  replace h : (match (generalizing := false) st with
    | .int n :: st => match (generalizing := false) aty, Nat.ble (cs.1 + 1) t.2.2.2.2.2.1.1, Nat.ble (cs.2 + n.toNatClampNeg) t.2.2.2.2.2.1.2 with
      | .int, true, true => match O.2.2.2.2.2.1 x false n.toNatClampNeg with
        | some (a, x') => (¬ n < 0 ∧ n.toNatClampNeg ≤ 10000) ∧ nx tl ls (.ref a :: st) (cs.1 + 1, cs.2 + n.toNatClampNeg) x'
        | none => False
      | .boolean, true, true => match O.2.2.2.2.2.1 x true n.toNatClampNeg with
        | some (a, x') => (¬ n < 0 ∧ n.toNatClampNeg ≤ 10000) ∧ nx tl ls (.ref a :: st) (cs.1 + 1, cs.2 + n.toNatClampNeg) x'
        | none => False
      | _, _, _ => False
    | _ => False) := h
  split at h
  · next n st =>
    split at h
    · next hb1 hb2 =>
      split at h
      · next a x' hv =>
        obtain ⟨n1, n2, n3⟩ := C.1.2.2.2.2.2.1 x false _ a x' hv
        obtain ⟨⟨g1, g2⟩, h⟩ := h
        intro t' ht' p e R s m args below meth c Z ha hr H locs la hw hl
        obtain rfl : t' = t := Option.some.inj (ht'.symm.trans C.2.1)
        obtain ⟨hR, hx, hb, hrt, hml, hown, hts, hlk0, hin0, hK, hro, hB, had⟩ := id ha
        obtain ⟨hlen, hcs, hP, hS⟩ := id hw
        have hD := zq_wD had hlen
        refine zq_sz (fun hz => ?_)
        have low := zq_low hP (Nat.le_trans hB hS.1) had hlen
        have hz : H.size = zq_B g + (rep x).length := by omega
        have hbd := Nat.le_of_ble_eq_true hb1
        have hbd2 := Nat.le_of_ble_eq_true hb2
        refine va_newaK hx hb (hts _ (zq_is_in hlk.1)) rfl hdec rfl g1 rfl (by show _ * 4 ≤ _; omega) (by omega) (by omega) rfl (fun H1 cA e1 z1 o1 hAr hNm => ?_)
        have hcA : cA = zq_cI g := Option.some.inj (hNm.symm.trans (hK.2 0 _ rfl).2)
        refine W.eq (g2 := F0 m (pc + 2) la ((.ref a :: st).map (zq_c g))) ?_ ?_
        · show F0 m (pc + 2) la (.ref H.size :: st.map (zq_c g)) = F0 m (pc + 2) la (.ref (zq_ad g a) :: st.map (zq_c g))
          rw [n1, had _ (by omega), hz]
        · refine hn _ _ _ _ h t' ht' p e R s m args below meth c Z ha hr H1 locs la ?_ hl
          rw [n2]
          refine zq_push hw had hz (by omega) rfl z1 o1 ?_
          show H1[zq_ad g (rep x).length]? = some (vp_cell (zq_cI g) _)
          rw [had _ (by omega), ← hz, ← hcA]
          exact e1
      · exact h.elim
    · next hb1 hb2 =>
      split at h
      · next a x' hv =>
        obtain ⟨n1, n2, n3⟩ := C.1.2.2.2.2.2.1 x true _ a x' hv
        obtain ⟨⟨g1, g2⟩, h⟩ := h
        intro t' ht' p e R s m args below meth c Z ha hr H locs la hw hl
        obtain rfl : t' = t := Option.some.inj (ht'.symm.trans C.2.1)
        obtain ⟨hR, hx, hb, hrt, hml, hown, hts, hlk0, hin0, hK, hro, hB, had⟩ := id ha
        obtain ⟨hlen, hcs, hP, hS⟩ := id hw
        have hD := zq_wD had hlen
        refine zq_sz (fun hz => ?_)
        have low := zq_low hP (Nat.le_trans hB hS.1) had hlen
        have hz : H.size = zq_B g + (rep x).length := by omega
        have hbd := Nat.le_of_ble_eq_true hb1
        have hbd2 := Nat.le_of_ble_eq_true hb2
        refine va_newaK hx hb (hts _ (zq_is_in hlk.1)) rfl hdec rfl g1 rfl (by show _ * 1 ≤ _; omega) (by omega) (by omega) rfl (fun H1 cA e1 z1 o1 hAr hNm => ?_)
        have hcA : cA = zq_cZ g := Option.some.inj (hNm.symm.trans (hK.2 1 _ rfl).2)
        refine W.eq (g2 := F0 m (pc + 2) la ((.ref a :: st).map (zq_c g))) ?_ ?_
        · show F0 m (pc + 2) la (.ref H.size :: st.map (zq_c g)) = F0 m (pc + 2) la (.ref (zq_ad g a) :: st.map (zq_c g))
          rw [n1, had _ (by omega), hz]
        · refine hn _ _ _ _ h t' ht' p e R s m args below meth c Z ha hr H1 locs la ?_ hl
          rw [n2]
          refine zq_push hw had hz (by omega) rfl z1 o1 ?_
          show H1[zq_ad g (rep x).length]? = some (vp_cell (zq_cZ g) _)
          rw [had _ (by omega), ← hz, ← hcA]
          exact e1
      · exact h.elim
    · exact h.elim
  · exact h.elim
theorem zq_s_new {X : Type} {g : zq_G} {O : zq_O X} {rep : X → List zq_E} {t : zq_T} {k d : Nat} {Q : Option Value → X → Prop} {nx : List zq_I → List Value → List Value → Nat × Nat → X → Prop} {ny : Nat → List Value → List Value → Nat × Nat → X → Prop} (C : zq_cx g O rep t k d Q nx ny) {pc len : Nat} {aux : List Nat} {cst : Value} {mask : List Bool} {tl : List zq_I} {ls st : List Value} {cs : Nat × Nat} {x : X} {i : Nat} (hg : zq_ok t ((pc, .new i, len, aux, cst, mask) :: tl)) (h : zq_st g O rep t.2.2.2.2.1 t.2.2.2.1 t.2.2.2.2.2.1 d Q nx ny ((pc, .new i, len, aux, cst, mask) :: tl) ls st cs x) : zq_x g rep d k pc ls st cs x Q := by
  obtain ⟨hdec, hlk, hn⟩ := zq_head C hg
  simp only [zq_lk, Bool.and_eq_true, decide_eq_true_eq] at hlk
  obtain rfl : len = 3 := Nat.eq_of_beq_eq_true hlk.2
  replace h : (match (generalizing := false) Nat.ble (cs.1 + 1) t.2.2.2.2.2.1.1, Nat.ble (cs.2 + zq_ix aux 1) t.2.2.2.2.2.1.2, O.2.2.2.2.1 x (zq_ix aux 0) with
    | true, true, some (o, x') => nx tl ls (.ref o :: st) (cs.1 + 1, cs.2 + zq_ix aux 1) x'
    | _, _, _ => False) := h
  have hk1 := hlk.1
  split at hk1
  · next q hq =>
    simp only [Bool.and_eq_true] at hk1
    obtain ⟨k1, k2, k3, k4⟩ := hk1
    have k1 := Nat.eq_of_beq_eq_true k1
    split at h
    · next o x' hb1 hb2 hv =>
      obtain ⟨fs, n0, n1, n2, n3⟩ := C.1.2.2.2.2.1 x (zq_ix aux 0) o x' hv
      intro t' ht' p e R s m args below meth c Z ha hr H locs la hw hl
      obtain rfl : t' = t := Option.some.inj (ht'.symm.trans C.2.1)
      obtain ⟨hR, hx, hb, hrt, hml, hown, hts, hlk0, hin0, hK, hro, hB, had⟩ := id ha
      obtain ⟨hlen, hcs, hP, hS⟩ := id hw
      have hD := zq_wD had hlen
      refine zq_sz (fun hz => ?_)
      have low := zq_low hP (Nat.le_trans hB hS.1) had hlen
      have hz : H.size = zq_B g + (rep x).length := by omega
      have hbd := Nat.le_of_ble_eq_true hb1
      have hbd2 := Nat.le_of_ble_eq_true hb2
      rw [k1] at hbd2 h
      obtain ⟨ty, c1, c2, c3, c4⟩ := zq_cf _ q hq
      obtain ⟨c5, c6⟩ := c4 fs n0
      have hKn := hK.1 _ _ hq
      refine W.newcK hx hb hown (hts _ (zq_is_in k2)) (hts _ (zq_is_in k3)) (hts _ (zq_is_in k4)) rfl hdec (by omega) (by omega) hKn.2.1 rfl (fun H1 kC hkC e1 z1 o1 => ?_)
      refine W.eq (g2 := F0 m (pc + 3) la ((.ref o :: st).map (zq_c g))) ?_ ?_
      · show F0 m (pc + 3) la (.ref H.size :: st.map (zq_c g)) = F0 m (pc + 3) la (.ref (zq_ad g o) :: st.map (zq_c g))
        rw [n1, had _ (by omega), hz]
      · refine hn _ _ _ _ h t' ht' p e R s m args below meth c Z ha hr H1 locs la ?_ hl
        rw [n2]
        refine zq_push hw had hz (by omega) rfl z1 o1 ?_
        refine ⟨q, hq, ?_⟩
        show t_OB (zq_ad g (rep x).length) _ _ _ H1 (vp_V (fs.map (zq_c g)))
        rw [c6 g, had _ (by omega), ← hz]
        exact (u_born ty hts c1 hKn hkC e1 c2).to c5
    · exact h.elim
  · cases hk1
theorem zq_s_ireturn {X : Type} {g : zq_G} {O : zq_O X} {rep : X → List zq_E} {t : zq_T} {k d : Nat} {Q : Option Value → X → Prop} {nx : List zq_I → List Value → List Value → Nat × Nat → X → Prop} {ny : Nat → List Value → List Value → Nat × Nat → X → Prop} (C : zq_cx g O rep t k d Q nx ny) {pc len : Nat} {aux : List Nat} {cst : Value} {mask : List Bool} {tl : List zq_I} {ls st : List Value} {cs : Nat × Nat} {x : X} (hg : zq_ok t ((pc, .ireturn, len, aux, cst, mask) :: tl)) (h : zq_st g O rep t.2.2.2.2.1 t.2.2.2.1 t.2.2.2.2.2.1 d Q nx ny ((pc, .ireturn, len, aux, cst, mask) :: tl) ls st cs x) : zq_x g rep d k pc ls st cs x Q := by
  obtain ⟨hdec, hlk, hn⟩ := zq_head C hg
  simp only [zq_lk, Bool.and_eq_true, decide_eq_true_eq] at hlk
  obtain rfl : len = 1 := Nat.eq_of_beq_eq_true hlk.2
  replace h : (match (generalizing := false) st with
    | [.int v] => match Nat.beq cs.1 t.2.2.2.2.2.1.1, Nat.ble cs.2 t.2.2.2.2.2.1.2, t.2.2.2.1 with
      | true, true, some .int => Q (some (.int v)) x
      | true, true, some .boolean => zq_b v ∧ Q (some (.int v)) x
      | _, _, _ => False
    | _ => False) := h
  split at h
  · next v =>
    split at h
    · next hc1 hc2 hrt2 =>
      intro t' ht' p e R s m args below meth c Z ha hr H locs la hw hl
      obtain rfl : t' = t := Option.some.inj (ht'.symm.trans C.2.1)
      exact hr (some (.int v)) _ H locs la pc cs ⟨x, rfl, h⟩ ⟨hdec, .int, hrt2, rfl⟩ hw (Nat.eq_of_beq_eq_true hc1) (Nat.le_of_ble_eq_true hc2)
    · next hc1 hc2 hrt2 =>
      intro t' ht' p e R s m args below meth c Z ha hr H locs la hw hl
      obtain rfl : t' = t := Option.some.inj (ht'.symm.trans C.2.1)
      exact hr (some (.int v)) _ H locs la pc cs ⟨x, rfl, h.2⟩ ⟨hdec, .boolean, hrt2, by rcases h.1 with rfl | rfl <;> rfl⟩ hw (Nat.eq_of_beq_eq_true hc1) (Nat.le_of_ble_eq_true hc2)
    · exact h.elim
  · exact h.elim
theorem zq_s_lreturn {X : Type} {g : zq_G} {O : zq_O X} {rep : X → List zq_E} {t : zq_T} {k d : Nat} {Q : Option Value → X → Prop} {nx : List zq_I → List Value → List Value → Nat × Nat → X → Prop} {ny : Nat → List Value → List Value → Nat × Nat → X → Prop} (C : zq_cx g O rep t k d Q nx ny) {pc len : Nat} {aux : List Nat} {cst : Value} {mask : List Bool} {tl : List zq_I} {ls st : List Value} {cs : Nat × Nat} {x : X} (hg : zq_ok t ((pc, .lreturn, len, aux, cst, mask) :: tl)) (h : zq_st g O rep t.2.2.2.2.1 t.2.2.2.1 t.2.2.2.2.2.1 d Q nx ny ((pc, .lreturn, len, aux, cst, mask) :: tl) ls st cs x) : zq_x g rep d k pc ls st cs x Q := by
  obtain ⟨hdec, hlk, hn⟩ := zq_head C hg
  simp only [zq_lk, Bool.and_eq_true, decide_eq_true_eq] at hlk
  obtain rfl : len = 1 := Nat.eq_of_beq_eq_true hlk.2
  replace h : (match (generalizing := false) st with
    | [.long v] => match Nat.beq cs.1 t.2.2.2.2.2.1.1, Nat.ble cs.2 t.2.2.2.2.2.1.2, t.2.2.2.1 with
      | true, true, some .long => Q (some (.long v)) x
      | _, _, _ => False
    | _ => False) := h
  split at h
  · next v =>
    split at h
    · next hc1 hc2 hrt2 =>
      intro t' ht' p e R s m args below meth c Z ha hr H locs la hw hl
      obtain rfl : t' = t := Option.some.inj (ht'.symm.trans C.2.1)
      exact hr (some (.long v)) _ H locs la pc cs ⟨x, rfl, h⟩ ⟨hdec, hrt2⟩ hw (Nat.eq_of_beq_eq_true hc1) (Nat.le_of_ble_eq_true hc2)
    · exact h.elim
  · exact h.elim
theorem zq_s_return {X : Type} {g : zq_G} {O : zq_O X} {rep : X → List zq_E} {t : zq_T} {k d : Nat} {Q : Option Value → X → Prop} {nx : List zq_I → List Value → List Value → Nat × Nat → X → Prop} {ny : Nat → List Value → List Value → Nat × Nat → X → Prop} (C : zq_cx g O rep t k d Q nx ny) {pc len : Nat} {aux : List Nat} {cst : Value} {mask : List Bool} {tl : List zq_I} {ls st : List Value} {cs : Nat × Nat} {x : X} (hg : zq_ok t ((pc, .return_, len, aux, cst, mask) :: tl)) (h : zq_st g O rep t.2.2.2.2.1 t.2.2.2.1 t.2.2.2.2.2.1 d Q nx ny ((pc, .return_, len, aux, cst, mask) :: tl) ls st cs x) : zq_x g rep d k pc ls st cs x Q := by
  obtain ⟨hdec, hlk, hn⟩ := zq_head C hg
  simp only [zq_lk, Bool.and_eq_true, decide_eq_true_eq] at hlk
  obtain rfl : len = 1 := Nat.eq_of_beq_eq_true hlk.2
  replace h : (match (generalizing := false) st with
    | [] => match Nat.beq cs.1 t.2.2.2.2.2.1.1, Nat.ble cs.2 t.2.2.2.2.2.1.2, t.2.2.2.1 with
      | true, true, none => Q none x
      | _, _, _ => False
    | _ => False) := h
  split at h
  · split at h
    · next hc1 hc2 hrt2 =>
      intro t' ht' p e R s m args below meth c Z ha hr H locs la hw hl
      obtain rfl : t' = t := Option.some.inj (ht'.symm.trans C.2.1)
      exact hr none _ H locs la pc cs ⟨x, rfl, h⟩ ⟨hdec, hrt2⟩ hw (Nat.eq_of_beq_eq_true hc1) (Nat.le_of_ble_eq_true hc2)
    · exact h.elim
  · exact h.elim
end
section
theorem zq_in_tb {w : Jvm.Cond} (i : Nat) (h : zq_is i w = true) : w ∈ zq_tb := zq_is_in h
theorem zq_oi1 : Jvm.Cond.instanceMethod objectInit ∈ zq_tb := zq_in_tb 106 (by decide +kernel)
theorem zq_oi2 : Jvm.Cond.code objectInit ⟨#[0xb1]⟩ 1 none ∈ zq_tb := zq_in_tb 107 (by decide +kernel)
theorem zq_mh : Jvm.Cond.initialized "java/lang/Math" ∈ zq_tb := zq_in_tb 86 (by decide +kernel)
theorem zq_mn1 : Jvm.Cond.static Lib.Math.min.name ∈ zq_tb := zq_in_tb 207 (by decide +kernel)
theorem zq_mn2 : Jvm.Cond.code Lib.Math.min.name Lib.Math.min.code 2 (some .int) ∈ zq_tb := zq_in_tb 208 (by decide +kernel)
theorem zq_mx1 : Jvm.Cond.static Lib.Math.max.name ∈ zq_tb := zq_in_tb 214 (by decide +kernel)
theorem zq_mx2 : Jvm.Cond.code Lib.Math.max.name Lib.Math.max.code 2 (some .int) ∈ zq_tb := zq_in_tb 215 (by decide +kernel)
theorem zq_ma1 : Jvm.Cond.static Lib.Math.abs.name ∈ zq_tb := zq_in_tb 783 (by decide +kernel)
theorem zq_ma2 : Jvm.Cond.code Lib.Math.abs.name Lib.Math.abs.code 1 (some .int) ∈ zq_tb := zq_in_tb 784 (by decide +kernel)
theorem zq_ac1 : Jvm.Cond.native arraycopyName ∈ zq_tb := zq_in_tb 218 (by decide +kernel)
theorem zq_ac2 : Jvm.Cond.static arraycopyName ∈ zq_tb := zq_in_tb 217 (by decide +kernel)
theorem zq_ac3 : Jvm.Cond.initialized "java/lang/System" ∈ zq_tb := zq_in_tb 87 (by decide +kernel)
/-! String constants: length() and charAt(k) of the JDK, over the words of zq_tb -/
def zq_jP (g : zq_G) (as : List Value) : Array Value → State → Prop := va_Pc as (fun U => zq_ro g U U.heap ∧ zq_B g ≤ U.heap.size)
def zq_jQ (r : Option Value) : Array Value → State → Outcome → State → Prop := fun _ st oc t => oc = .returned r ∧ t.heap = st.heap
def zq_jw (y : MethodName) (b : ByteArray) (n : Nat) (r : Option FieldType) : List Jvm.Cond := Jvm.Cond.code y b n r :: zq_tb
theorem zq_jblind (g : zq_G) (as : List Value) : FrameBlind (zq_jP g as) := by
  intro a U f mk q
  exact ⟨q.1, zq_ro.same (u := U) (U := U.calling f mk a) rfl q.2.1, q.2.2⟩
theorem zq_jgood {y : MethodName} {b : ByteArray} {n : Nat} {r : Option FieldType} (h : Jvm.Cond.code y b n r ∈ zq_tb) : GoodIn zq_tb (zq_jw y b n r) := by
  intro w hw
  have hg : w ∈ zq_tb := by
    rcases List.mem_cons.mp hw with h1 | h1
    · rw [h1]; exact h
    · exact h1
  exact ⟨hg, good_of_word (List.mem_filter.mp hg).2⟩
theorem zq_jback {p : Program} {l : Launch} {e : Env} {R : Room} {s : State} {m : MethodId} {args : Array Value} {below : List Frame} {meth : Method} {c : Code} {H : Heap} {locs : List Loc} {cells slots pc : Nat} {la : Array Slot} {st0 rest : List Value} {r : Option Value} {a : Array Value} {Z : State → Prop}
    (hr : va_Run p l e R s m args below meth c H locs cells slots 0 0 (F0 m pc la st0) rest (zq_jQ r a) (fun _ => False)) (kk : W p l e R s m args below meth c H locs cells slots Z (F0 m (pc + 3) la (r.toList ++ rest))) : W p l e R s m args below meth c H locs cells slots Z (F0 m pc la st0) := by
  intro T hT X
  obtain ⟨v, st₀, t, T', L, h0, X', hL, e1, e2, ⟨hv, hh⟩, st⟩ := hr T hT X
  cases hv
  obtain ⟨t2, a1, b1⟩ := kk T' (by rw [e1, hh, h0]) (Stand.forget X' (fun q h => (hL q h).elim))
  exact ⟨t2, st t2 a1, b1⟩
theorem zq_jpre {g : zq_G} {s U : State} {H : Heap} {locs : List Loc} (as : List Value) (hro : zq_ro g s s.heap) (hB : zq_B g ≤ s.heap.size) (hS : va_S (zq_F g) s.heap H locs) (hU : U.heap = H) (hW : s.WarmedH U.vm) : zq_jP g as as.toArray U := by
  refine ⟨rfl, ?_, by rw [hU]; exact Nat.le_trans hB hS.1⟩
  rw [hU]
  exact hro.go hB hW hS.2.1
def zj_ylen : MethodName := ⟨"java/lang/String", "length", "()I"⟩
theorem zj_klen : Jvm.Cond.code zj_ylen prog_16_method_54_code 1 (some .int) ∈ zq_tb := zq_in_tb 625 (by decide +kernel)
theorem zj_ilen : Jvm.Cond.instanceMethod zj_ylen ∈ zq_tb := zq_in_tb 623 (by decide +kernel)
theorem zj_slen : Jvm.Cond.selects "java/lang/String" zj_ylen zj_ylen ∈ zq_tb := zq_in_tb 624 (by decide +kernel)
theorem zj_dlen0 : decode prog_16_method_54_code 0 = .ok (.aload_n 0, 1) := by decide +kernel
theorem zj_dlen1 : decode prog_16_method_54_code 1 = .ok (.getfield 9, 3) := by decide +kernel
theorem zj_dlen4 : decode prog_16_method_54_code 4 = .ok (.arraylength, 1) := by decide +kernel
theorem zj_dlen5 : decode prog_16_method_54_code 5 = .ok (.aload_n 0, 1) := by decide +kernel
theorem zj_dlen6 : decode prog_16_method_54_code 6 = .ok (.invokevirtual 335, 3) := by decide +kernel
theorem zj_dlen9 : decode prog_16_method_54_code 9 = .ok (.ishr, 1) := by decide +kernel
theorem zj_dlen10 : decode prog_16_method_54_code 10 = .ok (.ireturn, 1) := by decide +kernel
def zj_ycod : MethodName := ⟨"java/lang/String", "coder", "()B"⟩
theorem zj_kcod : Jvm.Cond.code zj_ycod prog_16_method_152_code 1 (some .byte) ∈ zq_tb := zq_in_tb 629 (by decide +kernel)
theorem zj_icod : Jvm.Cond.instanceMethod zj_ycod ∈ zq_tb := zq_in_tb 627 (by decide +kernel)
theorem zj_scod : Jvm.Cond.selects "java/lang/String" zj_ycod zj_ycod ∈ zq_tb := zq_in_tb 628 (by decide +kernel)
theorem zj_dcod0 : decode prog_16_method_152_code 0 = .ok (.getstatic 38, 3) := by decide +kernel
theorem zj_dcod3 : decode prog_16_method_152_code 3 = .ok (.ifCond .eq 10, 3) := by decide +kernel
theorem zj_dcod6 : decode prog_16_method_152_code 6 = .ok (.aload_n 0, 1) := by decide +kernel
theorem zj_dcod7 : decode prog_16_method_152_code 7 = .ok (.getfield 15, 3) := by decide +kernel
theorem zj_dcod10 : decode prog_16_method_152_code 10 = .ok (.goto 4, 3) := by decide +kernel
theorem zj_dcod14 : decode prog_16_method_152_code 14 = .ok (.ireturn, 1) := by decide +kernel
def zj_ycha : MethodName := ⟨"java/lang/String", "charAt", "(I)C"⟩
theorem zj_kcha : Jvm.Cond.code zj_ycha prog_16_method_56_code 2 (some .char) ∈ zq_tb := zq_in_tb 635 (by decide +kernel)
theorem zj_icha : Jvm.Cond.instanceMethod zj_ycha ∈ zq_tb := zq_in_tb 633 (by decide +kernel)
theorem zj_scha : Jvm.Cond.selects "java/lang/String" zj_ycha zj_ycha ∈ zq_tb := zq_in_tb 634 (by decide +kernel)
theorem zj_dcha0 : decode prog_16_method_56_code 0 = .ok (.aload_n 0, 1) := by decide +kernel
theorem zj_dcha1 : decode prog_16_method_56_code 1 = .ok (.invokevirtual 492, 3) := by decide +kernel
theorem zj_dcha4 : decode prog_16_method_56_code 4 = .ok (.ifCond .eq 12, 3) := by decide +kernel
theorem zj_dcha7 : decode prog_16_method_56_code 7 = .ok (.aload_n 0, 1) := by decide +kernel
theorem zj_dcha8 : decode prog_16_method_56_code 8 = .ok (.getfield 9, 3) := by decide +kernel
theorem zj_dcha11 : decode prog_16_method_56_code 11 = .ok (.iload_n 1, 1) := by decide +kernel
theorem zj_dcha12 : decode prog_16_method_56_code 12 = .ok (.invokestatic 495, 3) := by decide +kernel
theorem zj_dcha15 : decode prog_16_method_56_code 15 = .ok (.ireturn, 1) := by decide +kernel
def zj_ylat : MethodName := ⟨"java/lang/String", "isLatin1", "()Z"⟩
theorem zj_klat : Jvm.Cond.code zj_ylat prog_16_method_154_code 1 (some .boolean) ∈ zq_tb := zq_in_tb 639 (by decide +kernel)
theorem zj_ilat : Jvm.Cond.instanceMethod zj_ylat ∈ zq_tb := zq_in_tb 637 (by decide +kernel)
theorem zj_slat : Jvm.Cond.selects "java/lang/String" zj_ylat zj_ylat ∈ zq_tb := zq_in_tb 638 (by decide +kernel)
theorem zj_dlat0 : decode prog_16_method_154_code 0 = .ok (.getstatic 38, 3) := by decide +kernel
theorem zj_dlat3 : decode prog_16_method_154_code 3 = .ok (.ifCond .eq 14, 3) := by decide +kernel
theorem zj_dlat6 : decode prog_16_method_154_code 6 = .ok (.aload_n 0, 1) := by decide +kernel
theorem zj_dlat7 : decode prog_16_method_154_code 7 = .ok (.getfield 15, 3) := by decide +kernel
theorem zj_dlat10 : decode prog_16_method_154_code 10 = .ok (.ifCond .ne 7, 3) := by decide +kernel
theorem zj_dlat13 : decode prog_16_method_154_code 13 = .ok (.iconst 1, 1) := by decide +kernel
theorem zj_dlat14 : decode prog_16_method_154_code 14 = .ok (.goto 4, 3) := by decide +kernel
theorem zj_dlat18 : decode prog_16_method_154_code 18 = .ok (.ireturn, 1) := by decide +kernel
def zj_ylch : MethodName := ⟨"java/lang/StringLatin1", "charAt", "([BI)C"⟩
theorem zj_klch : Jvm.Cond.code zj_ylch prog_17_method_2_code 2 (some .char) ∈ zq_tb := zq_in_tb 642 (by decide +kernel)
theorem zj_ilch : Jvm.Cond.static zj_ylch ∈ zq_tb := zq_in_tb 641 (by decide +kernel)
theorem zj_dlch0 : decode prog_17_method_2_code 0 = .ok (.iload_n 1, 1) := by decide +kernel
theorem zj_dlch1 : decode prog_17_method_2_code 1 = .ok (.aload_n 0, 1) := by decide +kernel
theorem zj_dlch2 : decode prog_17_method_2_code 2 = .ok (.arraylength, 1) := by decide +kernel
theorem zj_dlch3 : decode prog_17_method_2_code 3 = .ok (.invokestatic 9, 3) := by decide +kernel
theorem zj_dlch6 : decode prog_17_method_2_code 6 = .ok (.aload_n 0, 1) := by decide +kernel
theorem zj_dlch7 : decode prog_17_method_2_code 7 = .ok (.iload_n 1, 1) := by decide +kernel
theorem zj_dlch8 : decode prog_17_method_2_code 8 = .ok (.baload, 1) := by decide +kernel
theorem zj_dlch9 : decode prog_17_method_2_code 9 = .ok (.sipush 255, 3) := by decide +kernel
theorem zj_dlch12 : decode prog_17_method_2_code 12 = .ok (.iand, 1) := by decide +kernel
theorem zj_dlch13 : decode prog_17_method_2_code 13 = .ok (.i2c, 1) := by decide +kernel
theorem zj_dlch14 : decode prog_17_method_2_code 14 = .ok (.ireturn, 1) := by decide +kernel
def zj_ychk : MethodName := ⟨"java/lang/String", "checkIndex", "(II)V"⟩
theorem zj_kchk : Jvm.Cond.code zj_ychk prog_16_method_155_code 2 none ∈ zq_tb := zq_in_tb 645 (by decide +kernel)
theorem zj_ichk : Jvm.Cond.static zj_ychk ∈ zq_tb := zq_in_tb 644 (by decide +kernel)
theorem zj_dchk0 : decode prog_16_method_155_code 0 = .ok (.iload_n 0, 1) := by decide +kernel
theorem zj_dchk1 : decode prog_16_method_155_code 1 = .ok (.iload_n 1, 1) := by decide +kernel
theorem zj_dchk2 : decode prog_16_method_155_code 2 = .ok (.getstatic 1053, 3) := by decide +kernel
theorem zj_dchk5 : decode prog_16_method_155_code 5 = .ok (.invokestatic 1059, 3) := by decide +kernel
theorem zj_dchk8 : decode prog_16_method_155_code 8 = .ok (.pop, 1) := by decide +kernel
theorem zj_dchk9 : decode prog_16_method_155_code 9 = .ok (.return_, 1) := by decide +kernel
def zj_ypre : MethodName := ⟨"jdk/internal/util/Preconditions", "checkIndex", "(IILjava/util/function/BiFunction;)I"⟩
theorem zj_kpre : Jvm.Cond.code zj_ypre prog_20_method_11_code 3 (some .int) ∈ zq_tb := zq_in_tb 650 (by decide +kernel)
theorem zj_ipre : Jvm.Cond.static zj_ypre ∈ zq_tb := zq_in_tb 649 (by decide +kernel)
theorem zj_dpre0 : decode prog_20_method_11_code 0 = .ok (.iload_n 0, 1) := by decide +kernel
theorem zj_dpre1 : decode prog_20_method_11_code 1 = .ok (.ifCond .lt 8, 3) := by decide +kernel
theorem zj_dpre4 : decode prog_20_method_11_code 4 = .ok (.iload_n 0, 1) := by decide +kernel
theorem zj_dpre5 : decode prog_20_method_11_code 5 = .ok (.iload_n 1, 1) := by decide +kernel
theorem zj_dpre6 : decode prog_20_method_11_code 6 = .ok (.if_icmp .lt 10, 3) := by decide +kernel
theorem zj_dpre16 : decode prog_20_method_11_code 16 = .ok (.iload_n 0, 1) := by decide +kernel
theorem zj_dpre17 : decode prog_20_method_11_code 17 = .ok (.ireturn, 1) := by decide +kernel
theorem zj_n1 : Jvm.Cond.initialized "java/lang/String" ∈ zq_tb := zq_in_tb 96 (by decide +kernel)
theorem zj_n2 : Jvm.Cond.initialized "java/lang/StringLatin1" ∈ zq_tb := zq_in_tb 97 (by decide +kernel)
theorem zj_n3 : Jvm.Cond.initialized "jdk/internal/util/Preconditions" ∈ zq_tb := zq_in_tb 98 (by decide +kernel)
theorem zj_m1 : Jvm.Cond.methodLink "java/lang/String" 335 zj_ycod ∈ zq_tb := zq_in_tb 626 (by decide +kernel)
theorem zj_m2 : Jvm.Cond.methodLink "java/lang/String" 492 zj_ylat ∈ zq_tb := zq_in_tb 636 (by decide +kernel)
theorem zj_m3 : Jvm.Cond.methodLink "java/lang/String" 495 zj_ylch ∈ zq_tb := zq_in_tb 640 (by decide +kernel)
theorem zj_m4 : Jvm.Cond.methodLink "java/lang/StringLatin1" 9 zj_ychk ∈ zq_tb := zq_in_tb 643 (by decide +kernel)
theorem zj_m5 : Jvm.Cond.methodLink "java/lang/String" 1059 zj_ypre ∈ zq_tb := zq_in_tb 648 (by decide +kernel)
theorem zj_f1 : Jvm.Cond.fieldLink "java/lang/String" 38 "java/lang/String" "COMPACT_STRINGS" "Z" ∈ zq_tb := zq_in_tb 630 (by decide +kernel)
theorem zj_f2 : Jvm.Cond.fieldLink "java/lang/String" 9 "java/lang/String" "value" "[B" ∈ zq_tb := zq_in_tb 1585 (by decide +kernel)
theorem zj_f3 : Jvm.Cond.fieldLink "java/lang/String" 15 "java/lang/String" "coder" "B" ∈ zq_tb := zq_in_tb 1586 (by decide +kernel)
theorem zj_f4 : Jvm.Cond.fieldLink "java/lang/String" 1053 "jdk/internal/util/Preconditions" "SIOOBE_FORMATTER" "Ljava/util/function/BiFunction;" ∈ zq_tb := zq_in_tb 646 (by decide +kernel)
set_option maxRecDepth 20000 in
theorem zj_cod (g : zq_G) (j : Nat) (hj : j < 12) : Met (zq_l g) zj_ycod (zq_jw zj_ycod prog_16_method_152_code 1 (some .byte)) ({ frames := 0, cells := 0, slots := 0, locals := 0 }) (zq_jP g [.ref (zq_ad g (2000 + j))]) (zq_jQ (some (.int 0))) 0 0 (fun _ => False) := by
  refine Met.ofW (cc := prog_16_method_152_code) (maxL := 1) (ret := (some .byte)) (by decide) rfl ?_
  intro p e s m args below meth c s₁ B hml hv
  obtain ⟨rfl, hro, hB⟩ := hv
  have hx := B.exec
  have hb := B.bytes
  have hr := B.returns
  have hts0 := atoms_spec (ws := zq_jw zj_ycod prog_16_method_152_code 1 (some .byte)) B.pre
  have hts : ∀ w ∈ zq_tb, w.before _ s = true := fun w hw => hts0 w (List.mem_cons_of_mem _ hw)
  have hown : s.vm.findClass "java/lang/String" = some m.cls := findClass_of_methodNamed B.named
  have hlocks := B.notSynchronized
  have hS : va_S (zq_F g) s.heap s.heap [] := va_S.rf
  have hl := lv_entry ([.ref (zq_ad g (2000 + j))]) (n := 1) (Nat.le_of_ble_eq_true rfl)
  rw [lg_entry_eq]
  generalize (lg_sl ([.ref (zq_ad g (2000 + j))]) ++ List.replicate (1 - (lg_sl ([.ref (zq_ad g (2000 + j))])).length) Slot.unset).toArray = ls at hl ⊢
  have hl : lv_has ls 1 [(0, .ref (zq_ad g (2000 + j)))] := hl
  refine va_gets (A := zq_F g) hx hb hro.2.2.2.2.2.2.1 hS hown (hts _ zj_f1) (fun _ z => z) zj_dcod0 ?_
  refine lv_if_eq (tgt := 13) hx hb zj_dcod3 (by decide) (fun q => absurd q (by decide)) (fun _ => ?_)
  refine lv_aload_n hx hb zj_dcod6 rfl (lv_at hl 0 rfl) ?_
  refine vk_getf hx hb (hro.2.2.2.2.1.1 j hj).2.1 hS hown (hts _ zj_f3) (fun _ z => z) zj_dcod7 ?_
  refine lv_goto (tgt := 14) hx hb zj_dcod10 (by decide) ?_
  exact W.zret hx hb hr rfl (fun t ht hW => ⟨rfl, ht⟩) (fun q hq => by cases hq) zj_dcod14
set_option maxRecDepth 20000 in
theorem zj_lat (g : zq_G) (j : Nat) (hj : j < 12) : Met (zq_l g) zj_ylat (zq_jw zj_ylat prog_16_method_154_code 1 (some .boolean)) ({ frames := 0, cells := 0, slots := 0, locals := 0 }) (zq_jP g [.ref (zq_ad g (2000 + j))]) (zq_jQ (some (.int 1))) 0 0 (fun _ => False) := by
  refine Met.ofW (cc := prog_16_method_154_code) (maxL := 1) (ret := (some .boolean)) (by decide) rfl ?_
  intro p e s m args below meth c s₁ B hml hv
  obtain ⟨rfl, hro, hB⟩ := hv
  have hx := B.exec
  have hb := B.bytes
  have hr := B.returns
  have hts0 := atoms_spec (ws := zq_jw zj_ylat prog_16_method_154_code 1 (some .boolean)) B.pre
  have hts : ∀ w ∈ zq_tb, w.before _ s = true := fun w hw => hts0 w (List.mem_cons_of_mem _ hw)
  have hown : s.vm.findClass "java/lang/String" = some m.cls := findClass_of_methodNamed B.named
  have hlocks := B.notSynchronized
  have hS : va_S (zq_F g) s.heap s.heap [] := va_S.rf
  have hl := lv_entry ([.ref (zq_ad g (2000 + j))]) (n := 1) (Nat.le_of_ble_eq_true rfl)
  rw [lg_entry_eq]
  generalize (lg_sl ([.ref (zq_ad g (2000 + j))]) ++ List.replicate (1 - (lg_sl ([.ref (zq_ad g (2000 + j))])).length) Slot.unset).toArray = ls at hl ⊢
  have hl : lv_has ls 1 [(0, .ref (zq_ad g (2000 + j)))] := hl
  refine va_gets (A := zq_F g) hx hb hro.2.2.2.2.2.2.1 hS hown (hts _ zj_f1) (fun _ z => z) zj_dlat0 ?_
  refine lv_if_eq (tgt := 17) hx hb zj_dlat3 (by decide) (fun q => absurd q (by decide)) (fun _ => ?_)
  refine lv_aload_n hx hb zj_dlat6 rfl (lv_at hl 0 rfl) ?_
  refine vk_getf hx hb (hro.2.2.2.2.1.1 j hj).2.1 hS hown (hts _ zj_f3) (fun _ z => z) zj_dlat7 ?_
  refine lv_if_ne (tgt := 17) hx hb zj_dlat10 (by decide) (fun q => absurd rfl q) (fun _ => ?_)
  refine lv_iconst (v := 1) hx hb zj_dlat13 (by decide) ?_
  refine lv_goto (tgt := 18) hx hb zj_dlat14 (by decide) ?_
  exact W.zret hx hb hr rfl (fun t ht hW => ⟨rfl, ht⟩) (fun q hq => by cases hq) zj_dlat18
set_option maxRecDepth 20000 in
theorem zj_len (g : zq_G) (j : Nat) (hj : j < 12) : Met (zq_l g) zj_ylen (zq_jw zj_ylen prog_16_method_54_code 1 (some .int)) ({ frames := 1, cells := 0, slots := 0, locals := 21 }) (zq_jP g [.ref (zq_ad g (2000 + j))]) (zq_jQ (some (.int (nI (zq_sl.getD j 0))))) 0 0 (fun _ => False) := by
  refine Met.ofW (cc := prog_16_method_54_code) (maxL := 1) (ret := (some .int)) (by decide) rfl ?_
  intro p e s m args below meth c s₁ B hml hv
  obtain ⟨rfl, hro, hB⟩ := hv
  have hx := B.exec
  have hb := B.bytes
  have hr := B.returns
  have hts0 := atoms_spec (ws := zq_jw zj_ylen prog_16_method_54_code 1 (some .int)) B.pre
  have hts : ∀ w ∈ zq_tb, w.before _ s = true := fun w hw => hts0 w (List.mem_cons_of_mem _ hw)
  have hown : s.vm.findClass "java/lang/String" = some m.cls := findClass_of_methodNamed B.named
  have hlocks := B.notSynchronized
  have hS : va_S (zq_F g) s.heap s.heap [] := va_S.rf
  have hl := lv_entry ([.ref (zq_ad g (2000 + j))]) (n := 1) (Nat.le_of_ble_eq_true rfl)
  rw [lg_entry_eq]
  generalize (lg_sl ([.ref (zq_ad g (2000 + j))]) ++ List.replicate (1 - (lg_sl ([.ref (zq_ad g (2000 + j))])).length) Slot.unset).toArray = ls at hl ⊢
  have hl : lv_has ls 1 [(0, .ref (zq_ad g (2000 + j)))] := hl
  refine lv_aload_n hx hb zj_dlen0 rfl (lv_at hl 0 rfl) ?_
  refine vk_getf hx hb (hro.2.2.2.2.1.1 j hj).2.2.1 hS hown (hts _ zj_f2) (fun _ z => z) zj_dlen1 ?_
  refine va_tlen (v := nI (zq_sl.getD j 0)) hx hb (hro.2.2.2.2.1.1 j hj).2.2.2 hS rfl zj_dlen4 ?_
  refine lv_aload_n hx hb zj_dlen5 rfl (lv_at hl 0 rfl) ?_
  refine zq_jback (rest := [.int (nI (zq_sl.getD j 0))]) (va_runV (C := "java/lang/String") (n := 0) (As := []) ⟨hx, hb, hml, hown, hts⟩ (zj_cod g j hj) ⟨callB_of 0 hts (zq_jgood zj_kcod) rfl rfl rfl (hts _ zj_n1) (hts _ zj_m1) ⟨by decide, by decide, by decide +kernel⟩ ⟨Nat.le_of_ble_eq_true rfl, Nat.le_of_ble_eq_true rfl⟩, hts _ zj_icod, hts _ zj_scod⟩ ⟨zq_jblind g _, vk_recv hro.2.2.2.2.1 hj hS, fun U hU hW => zq_jpre [.ref (zq_ad g (2000 + j))] hro hB hS hU hW⟩ rfl rfl hl.1 rfl (lv_room (Nat.le_of_ble_eq_true rfl)) zj_dlen6 ⟨Nat.le_of_ble_eq_true rfl, Nat.le_of_ble_eq_true rfl⟩) ?_
  refine lv_ishr (x := nI (zq_sl.getD j 0)) (y := 0) hx hb zj_dlen9 ?_
  rw [sb_shr0]
  exact W.iret hx hb hr (fun t ht hW => ⟨rfl, ht⟩) (fun q hq => by cases hq) zj_dlen10
set_option maxRecDepth 20000 in
theorem zj_pren (g : zq_G) (ix n : Int32) (h1 : ¬ ix < 0) (h2 : ix < n) : Met (zq_l g) zj_ypre (zq_jw zj_ypre prog_20_method_11_code 3 (some .int)) ({ frames := 0, cells := 0, slots := 0, locals := 0 }) (zq_jP g [.int ix, .int n, .null]) (zq_jQ (some (.int ix))) 0 0 (fun _ => False) := by
  refine Met.ofW (cc := prog_20_method_11_code) (maxL := 3) (ret := (some .int)) (by decide) rfl ?_
  intro p e s m args below meth c s₁ B hml hv
  obtain ⟨rfl, hro, hB⟩ := hv
  have hx := B.exec
  have hb := B.bytes
  have hr := B.returns
  have hts0 := atoms_spec (ws := zq_jw zj_ypre prog_20_method_11_code 3 (some .int)) B.pre
  have hts : ∀ w ∈ zq_tb, w.before _ s = true := fun w hw => hts0 w (List.mem_cons_of_mem _ hw)
  have hown : s.vm.findClass "jdk/internal/util/Preconditions" = some m.cls := findClass_of_methodNamed B.named
  have hlocks := B.notSynchronized
  have hS : va_S (zq_F g) s.heap s.heap [] := va_S.rf
  have hl := lv_entry ([.int ix, .int n, .null]) (n := 3) (Nat.le_of_ble_eq_true rfl)
  rw [lg_entry_eq]
  generalize (lg_sl ([.int ix, .int n, .null]) ++ List.replicate (3 - (lg_sl ([.int ix, .int n, .null])).length) Slot.unset).toArray = ls at hl ⊢
  have hl : lv_has ls 3 [(0, .int ix), (1, .int n), (2, .null)] := hl
  refine lv_iload_n hx hb zj_dpre0 rfl (lv_at hl 0 rfl) ?_
  refine lv_if_lt (tgt := 9) hx hb zj_dpre1 (by decide) (fun q => absurd q h1) (fun _ => ?_)
  refine lv_iload_n hx hb zj_dpre4 rfl (lv_at hl 0 rfl) ?_
  refine lv_iload_n hx hb zj_dpre5 rfl (lv_at hl 1 rfl) ?_
  refine lv_icmp_lt (tgt := 16) hx hb zj_dpre6 (by decide) (fun _ => ?_) (fun q => absurd h2 q)
  refine lv_iload_n hx hb zj_dpre16 rfl (lv_at hl 0 rfl) ?_
  exact W.iret hx hb hr (fun t ht hW => ⟨rfl, ht⟩) (fun q hq => by cases hq) zj_dpre17
set_option maxRecDepth 20000 in
theorem zj_prer (g : zq_G) (ix n : Int32) (tt : Nat) (h1 : ¬ ix < 0) (h2 : ix < n) : Met (zq_l g) zj_ypre (zq_jw zj_ypre prog_20_method_11_code 3 (some .int)) ({ frames := 0, cells := 0, slots := 0, locals := 0 }) (zq_jP g [.int ix, .int n, .ref tt]) (zq_jQ (some (.int ix))) 0 0 (fun _ => False) := by
  refine Met.ofW (cc := prog_20_method_11_code) (maxL := 3) (ret := (some .int)) (by decide) rfl ?_
  intro p e s m args below meth c s₁ B hml hv
  obtain ⟨rfl, hro, hB⟩ := hv
  have hx := B.exec
  have hb := B.bytes
  have hr := B.returns
  have hts0 := atoms_spec (ws := zq_jw zj_ypre prog_20_method_11_code 3 (some .int)) B.pre
  have hts : ∀ w ∈ zq_tb, w.before _ s = true := fun w hw => hts0 w (List.mem_cons_of_mem _ hw)
  have hown : s.vm.findClass "jdk/internal/util/Preconditions" = some m.cls := findClass_of_methodNamed B.named
  have hlocks := B.notSynchronized
  have hS : va_S (zq_F g) s.heap s.heap [] := va_S.rf
  have hl := lv_entry ([.int ix, .int n, .ref tt]) (n := 3) (Nat.le_of_ble_eq_true rfl)
  rw [lg_entry_eq]
  generalize (lg_sl ([.int ix, .int n, .ref tt]) ++ List.replicate (3 - (lg_sl ([.int ix, .int n, .ref tt])).length) Slot.unset).toArray = ls at hl ⊢
  have hl : lv_has ls 3 [(0, .int ix), (1, .int n), (2, .ref tt)] := hl
  refine lv_iload_n hx hb zj_dpre0 rfl (lv_at hl 0 rfl) ?_
  refine lv_if_lt (tgt := 9) hx hb zj_dpre1 (by decide) (fun q => absurd q h1) (fun _ => ?_)
  refine lv_iload_n hx hb zj_dpre4 rfl (lv_at hl 0 rfl) ?_
  refine lv_iload_n hx hb zj_dpre5 rfl (lv_at hl 1 rfl) ?_
  refine lv_icmp_lt (tgt := 16) hx hb zj_dpre6 (by decide) (fun _ => ?_) (fun q => absurd h2 q)
  refine lv_iload_n hx hb zj_dpre16 rfl (lv_at hl 0 rfl) ?_
  exact W.iret hx hb hr (fun t ht hW => ⟨rfl, ht⟩) (fun q hq => by cases hq) zj_dpre17
set_option maxRecDepth 20000 in
theorem zj_chk (g : zq_G) (ix n : Int32) (h1 : ¬ ix < 0) (h2 : ix < n) : Met (zq_l g) zj_ychk (zq_jw zj_ychk prog_16_method_155_code 2 none) ({ frames := 1, cells := 0, slots := 0, locals := 22 }) (zq_jP g [.int ix, .int n]) (zq_jQ none) 0 0 (fun _ => False) := by
  refine Met.ofW (cc := prog_16_method_155_code) (maxL := 2) (ret := none) (by decide) rfl ?_
  intro p e s m args below meth c s₁ B hml hv
  obtain ⟨rfl, hro, hB⟩ := hv
  have hx := B.exec
  have hb := B.bytes
  have hr := B.returns
  have hts0 := atoms_spec (ws := zq_jw zj_ychk prog_16_method_155_code 2 none) B.pre
  have hts : ∀ w ∈ zq_tb, w.before _ s = true := fun w hw => hts0 w (List.mem_cons_of_mem _ hw)
  have hown : s.vm.findClass "java/lang/String" = some m.cls := findClass_of_methodNamed B.named
  have hlocks := B.notSynchronized
  have hS : va_S (zq_F g) s.heap s.heap [] := va_S.rf
  have hl := lv_entry ([.int ix, .int n]) (n := 2) (Nat.le_of_ble_eq_true rfl)
  rw [lg_entry_eq]
  generalize (lg_sl ([.int ix, .int n]) ++ List.replicate (2 - (lg_sl ([.int ix, .int n])).length) Slot.unset).toArray = ls at hl ⊢
  have hl : lv_has ls 2 [(0, .int ix), (1, .int n)] := hl
  refine lv_iload_n hx hb zj_dchk0 rfl (lv_at hl 0 rfl) ?_
  refine lv_iload_n hx hb zj_dchk1 rfl (lv_at hl 1 rfl) ?_
  rcases hro.2.2.2.2.2.2.2 with hz | ⟨t, hz⟩
  · refine va_gets (A := zq_F g) hx hb hz hS hown (hts _ zj_f4) (fun _ z => z) zj_dchk2 ?_
    refine zq_jback (rest := []) (va_runS (n := 3) (As := [.int ix, .int n, .null]) ⟨hx, hb, hml, hown, hts⟩ (zj_pren g ix n h1 h2) ⟨callB_of 3 hts (zq_jgood zj_kpre) rfl rfl rfl (hts _ zj_n3) (hts _ zj_m5) ⟨by decide, by decide, by decide +kernel⟩ ⟨Nat.le_of_ble_eq_true rfl, Nat.le_of_ble_eq_true rfl⟩, hts _ zj_ipre⟩ ⟨zq_jblind g _, fun U hU hW => zq_jpre [.int ix, .int n, .null] hro hB hS hU hW⟩ rfl rfl hl.1 rfl (lv_room (Nat.le_of_ble_eq_true rfl)) zj_dchk5 ⟨Nat.le_of_ble_eq_true rfl, Nat.le_of_ble_eq_true rfl⟩) ?_
    refine lv_pop (va := .int ix) hx hb zj_dchk8 rfl ?_
    exact W.vret hx hb hr (fun t ht hW => ⟨rfl, ht⟩) (fun q hq => by cases hq) zj_dchk9
  · refine va_gets (A := zq_F g) hx hb hz hS hown (hts _ zj_f4) (fun _ z => z) zj_dchk2 ?_
    refine zq_jback (rest := []) (va_runS (n := 3) (As := [.int ix, .int n, .ref t]) ⟨hx, hb, hml, hown, hts⟩ (zj_prer g ix n t h1 h2) ⟨callB_of 3 hts (zq_jgood zj_kpre) rfl rfl rfl (hts _ zj_n3) (hts _ zj_m5) ⟨by decide, by decide, by decide +kernel⟩ ⟨Nat.le_of_ble_eq_true rfl, Nat.le_of_ble_eq_true rfl⟩, hts _ zj_ipre⟩ ⟨zq_jblind g _, fun U hU hW => zq_jpre [.int ix, .int n, .ref t] hro hB hS hU hW⟩ rfl rfl hl.1 rfl (lv_room (Nat.le_of_ble_eq_true rfl)) zj_dchk5 ⟨Nat.le_of_ble_eq_true rfl, Nat.le_of_ble_eq_true rfl⟩) ?_
    refine lv_pop (va := .int ix) hx hb zj_dchk8 rfl ?_
    exact W.vret hx hb hr (fun t ht hW => ⟨rfl, ht⟩) (fun q hq => by cases hq) zj_dchk9
theorem zj_byte : ∀ j, j < 12 → ∀ i, i < zq_sl.getD j 0 → ((((zq_sb.getD j []).getD i 0 &&& 255).toUInt32 % 65536).toInt32 = (zq_sb.getD j []).getD i 0 ∧ narrow .char (.int ((zq_sb.getD j []).getD i 0)) = .int ((zq_sb.getD j []).getD i 0)) := by decide +kernel
theorem zj_in {ix : Int32} {n : Nat} (h : vp_in ix n) (hn : n < 2 ^ 31) : ¬ ix < 0 ∧ ix < nI n ∧ ix.toNatClampNeg < n := by
  obtain ⟨j, hj, rfl⟩ := vp_in_of h hn
  exact ⟨nI_pos (by omega), nI_lt hj hn, by rw [nI_clamp (by omega)]; exact hj⟩
theorem zj_sl : ∀ j, j < 12 → zq_sl.getD j 0 < 2 ^ 31 := by decide +kernel
set_option maxRecDepth 20000 in
theorem zj_lch (g : zq_G) (j : Nat) (hj : j < 12) (ix : Int32) (hin : vp_in ix (zq_sl.getD j 0)) : Met (zq_l g) zj_ylch (zq_jw zj_ylch prog_17_method_2_code 2 (some .char)) ({ frames := 2, cells := 0, slots := 0, locals := 43 }) (zq_jP g [.ref (zq_av g j), .int ix]) (zq_jQ (some (.int ((zq_sb.getD j []).getD ix.toNatClampNeg 0)))) 0 0 (fun _ => False) := by
  refine Met.ofW (cc := prog_17_method_2_code) (maxL := 2) (ret := (some .char)) (by decide) rfl ?_
  intro p e s m args below meth c s₁ B hml hv
  obtain ⟨rfl, hro, hB⟩ := hv
  have hx := B.exec
  have hb := B.bytes
  have hr := B.returns
  have hts0 := atoms_spec (ws := zq_jw zj_ylch prog_17_method_2_code 2 (some .char)) B.pre
  have hts : ∀ w ∈ zq_tb, w.before _ s = true := fun w hw => hts0 w (List.mem_cons_of_mem _ hw)
  have hown : s.vm.findClass "java/lang/StringLatin1" = some m.cls := findClass_of_methodNamed B.named
  have hlocks := B.notSynchronized
  have hS : va_S (zq_F g) s.heap s.heap [] := va_S.rf
  have hl := lv_entry ([.ref (zq_av g j), .int ix]) (n := 2) (Nat.le_of_ble_eq_true rfl)
  rw [lg_entry_eq]
  generalize (lg_sl ([.ref (zq_av g j), .int ix]) ++ List.replicate (2 - (lg_sl ([.ref (zq_av g j), .int ix])).length) Slot.unset).toArray = ls at hl ⊢
  have hl : lv_has ls 2 [(0, .ref (zq_av g j)), (1, .int ix)] := hl
  obtain ⟨i1, i2, i3⟩ := zj_in hin (zj_sl j hj)
  obtain ⟨b1, b2⟩ := zj_byte j hj _ i3
  refine lv_iload_n hx hb zj_dlch0 rfl (lv_at hl 1 rfl) ?_
  refine lv_aload_n hx hb zj_dlch1 rfl (lv_at hl 0 rfl) ?_
  refine va_tlen (v := nI (zq_sl.getD j 0)) hx hb (hro.2.2.2.2.1.1 j hj).2.2.2 hS rfl zj_dlch2 ?_
  refine zq_jback (rest := []) (va_runS (n := 2) (As := [.int ix, .int (nI (zq_sl.getD j 0))]) ⟨hx, hb, hml, hown, hts⟩ (zj_chk g ix _ i1 i2) ⟨callB_of 2 hts (zq_jgood zj_kchk) rfl rfl rfl (hts _ zj_n1) (hts _ zj_m4) ⟨by decide, by decide, by decide +kernel⟩ ⟨Nat.le_of_ble_eq_true rfl, Nat.le_of_ble_eq_true rfl⟩, hts _ zj_ichk⟩ ⟨zq_jblind g _, fun U hU hW => zq_jpre [.int ix, .int (nI (zq_sl.getD j 0))] hro hB hS hU hW⟩ rfl rfl hl.1 rfl (lv_room (Nat.le_of_ble_eq_true rfl)) zj_dlch3 ⟨Nat.le_of_ble_eq_true rfl, Nat.le_of_ble_eq_true rfl⟩) ?_
  refine lv_aload_n hx hb zj_dlch6 rfl (lv_at hl 0 rfl) ?_
  refine lv_iload_n hx hb zj_dlch7 rfl (lv_at hl 1 rfl) ?_
  refine va_tb (v := .int ((zq_sb.getD j []).getD ix.toNatClampNeg 0)) hx hb (hro.2.2.2.2.1.1 j hj).2.2.2 hS hin rfl zj_dlch8 ?_
  refine lv_sipush (v := 255) hx hb zj_dlch9 (by decide) ?_
  refine lv_iand hx hb zj_dlch12 ?_
  refine lv_i2c hx hb zj_dlch13 b1 ?_
  exact W.zret hx hb hr b2 (fun t ht hW => ⟨rfl, ht⟩) (fun q hq => by cases hq) zj_dlch14
set_option maxRecDepth 20000 in
theorem zj_cha (g : zq_G) (j : Nat) (hj : j < 12) (ix : Int32) (hin : vp_in ix (zq_sl.getD j 0)) : Met (zq_l g) zj_ycha (zq_jw zj_ycha prog_16_method_56_code 2 (some .char)) ({ frames := 3, cells := 0, slots := 0, locals := 64 }) (zq_jP g [.ref (zq_ad g (2000 + j)), .int ix]) (zq_jQ (some (.int ((zq_sb.getD j []).getD ix.toNatClampNeg 0)))) 0 0 (fun _ => False) := by
  refine Met.ofW (cc := prog_16_method_56_code) (maxL := 2) (ret := (some .char)) (by decide) rfl ?_
  intro p e s m args below meth c s₁ B hml hv
  obtain ⟨rfl, hro, hB⟩ := hv
  have hx := B.exec
  have hb := B.bytes
  have hr := B.returns
  have hts0 := atoms_spec (ws := zq_jw zj_ycha prog_16_method_56_code 2 (some .char)) B.pre
  have hts : ∀ w ∈ zq_tb, w.before _ s = true := fun w hw => hts0 w (List.mem_cons_of_mem _ hw)
  have hown : s.vm.findClass "java/lang/String" = some m.cls := findClass_of_methodNamed B.named
  have hlocks := B.notSynchronized
  have hS : va_S (zq_F g) s.heap s.heap [] := va_S.rf
  have hl := lv_entry ([.ref (zq_ad g (2000 + j)), .int ix]) (n := 2) (Nat.le_of_ble_eq_true rfl)
  rw [lg_entry_eq]
  generalize (lg_sl ([.ref (zq_ad g (2000 + j)), .int ix]) ++ List.replicate (2 - (lg_sl ([.ref (zq_ad g (2000 + j)), .int ix])).length) Slot.unset).toArray = ls at hl ⊢
  have hl : lv_has ls 2 [(0, .ref (zq_ad g (2000 + j))), (1, .int ix)] := hl
  obtain ⟨i1, i2, i3⟩ := zj_in hin (zj_sl j hj)
  obtain ⟨b1, b2⟩ := zj_byte j hj _ i3
  refine lv_aload_n hx hb zj_dcha0 rfl (lv_at hl 0 rfl) ?_
  refine zq_jback (rest := []) (va_runV (C := "java/lang/String") (n := 0) (As := []) ⟨hx, hb, hml, hown, hts⟩ (zj_lat g j hj) ⟨callB_of 0 hts (zq_jgood zj_klat) rfl rfl rfl (hts _ zj_n1) (hts _ zj_m2) ⟨by decide, by decide, by decide +kernel⟩ ⟨Nat.le_of_ble_eq_true rfl, Nat.le_of_ble_eq_true rfl⟩, hts _ zj_ilat, hts _ zj_slat⟩ ⟨zq_jblind g _, vk_recv hro.2.2.2.2.1 hj hS, fun U hU hW => zq_jpre [.ref (zq_ad g (2000 + j))] hro hB hS hU hW⟩ rfl rfl hl.1 rfl (lv_room (Nat.le_of_ble_eq_true rfl)) zj_dcha1 ⟨Nat.le_of_ble_eq_true rfl, Nat.le_of_ble_eq_true rfl⟩) ?_
  refine lv_if_eq (x := 1) (tgt := 16) hx hb zj_dcha4 (by decide) (fun q => absurd q (by decide)) (fun _ => ?_)
  refine lv_aload_n hx hb zj_dcha7 rfl (lv_at hl 0 rfl) ?_
  refine vk_getf hx hb (hro.2.2.2.2.1.1 j hj).2.2.1 hS hown (hts _ zj_f2) (fun _ z => z) zj_dcha8 ?_
  refine lv_iload_n hx hb zj_dcha11 rfl (lv_at hl 1 rfl) ?_
  refine zq_jback (rest := []) (va_runS (n := 2) (As := [.ref (zq_av g j), .int ix]) ⟨hx, hb, hml, hown, hts⟩ (zj_lch g j hj ix hin) ⟨callB_of 2 hts (zq_jgood zj_klch) rfl rfl rfl (hts _ zj_n2) (hts _ zj_m3) ⟨by decide, by decide, by decide +kernel⟩ ⟨Nat.le_of_ble_eq_true rfl, Nat.le_of_ble_eq_true rfl⟩, hts _ zj_ilch⟩ ⟨zq_jblind g _, fun U hU hW => zq_jpre [.ref (zq_av g j), .int ix] hro hB hS hU hW⟩ rfl rfl hl.1 rfl (lv_room (Nat.le_of_ble_eq_true rfl)) zj_dcha12 ⟨Nat.le_of_ble_eq_true rfl, Nat.le_of_ble_eq_true rfl⟩) ?_
  exact W.zret hx hb hr b2 (fun t ht hW => ⟨rfl, ht⟩) (fun q hq => by cases hq) zj_dcha15
theorem zq_strlen {g : zq_G} {t : zq_T} {d : Nat} {p : Program} {e : Env} {R : Room} {s : State} {m : MethodId} {args : Array Value} {below : List Frame} {meth : Method} {c : Code} {Z : State → Prop} {cs : Nat × Nat} {h : List zq_E} {H : Heap} {locs : List Loc} {la : Array Slot} {ls rest : List Value} {o i pc : Nat} (ha : zq_act g t d p R s m args meth c) (hw : zq_wd g s cs h H locs) (hl : lv_has la t.2.2.1 (zq_lv g 0 ls)) (h1 : 2000 ≤ o) (h2 : o ≤ 2011) (h3 : zq_cat rest ≤ 8) (h5 : 5 ≤ d) (hlink : (Jvm.Cond.methodLink t.1.cls i ⟨"java/lang/String", "length", "()I"⟩).before args s = true) (hdec : decode t.2.1 pc = .ok (.invokevirtual i, 3)) (hc1 : cs.1 ≤ R.cells) (hc2 : cs.2 ≤ R.slots)
    (kk : W p (zq_l g) e R s m args below meth c H locs cs.1 cs.2 Z (F0 m (pc + 3) la (.int (nI (zq_sl.getD (o - 2000) 0)) :: rest.map (zq_c g)))) : W p (zq_l g) e R s m args below meth c H locs cs.1 cs.2 Z (F0 m pc la (.ref (zq_ad g o) :: rest.map (zq_c g))) := by
  obtain ⟨hR, hx, hb, hrt, hml, hown, hts, hlk0, hin0, hK, hro, hB, had⟩ := id ha
  obtain ⟨hlen, hcs, hP, hS⟩ := id hw
  obtain ⟨j, hj, rfl⟩ : ∃ j, j < 12 ∧ o = 2000 + j := ⟨o - 2000, by omega, by omega⟩
  have ej : 2000 + j - 2000 = j := by omega
  rw [ej] at kk
  refine zq_jback (rest := rest.map (zq_c g)) (va_runV (C := "java/lang/String") (n := 0) (As := []) ⟨hx, hb, hml, hown, hts⟩ (zj_len g j hj) ⟨callB_of 0 hts (zq_jgood zj_klen) rfl rfl rfl (hts _ zj_n1) hlink ⟨by decide, by decide, by decide +kernel⟩ ⟨by show 1 + 1 ≤ _; omega, by show 8 + (1 + 11) + 21 ≤ _; omega⟩, hts _ zj_ilen, hts _ zj_slen⟩ ⟨zq_jblind g _, vk_recv hro.2.2.2.2.1 hj hS, fun U hU hW => zq_jpre [.ref (zq_ad g (2000 + j))] hro hB hS hU hW⟩ rfl rfl hl.1 rfl (lv_room (by rw [zq_cat_map]; exact h3)) hdec ⟨hc1, hc2⟩) kk
theorem zq_strchr {g : zq_G} {t : zq_T} {d : Nat} {p : Program} {e : Env} {R : Room} {s : State} {m : MethodId} {args : Array Value} {below : List Frame} {meth : Method} {c : Code} {Z : State → Prop} {cs : Nat × Nat} {h : List zq_E} {H : Heap} {locs : List Loc} {la : Array Slot} {ls rest : List Value} {o i pc : Nat} {ix : Int32} (ha : zq_act g t d p R s m args meth c) (hw : zq_wd g s cs h H locs) (hl : lv_has la t.2.2.1 (zq_lv g 0 ls)) (h1 : 2000 ≤ o) (h2 : o ≤ 2011) (h3 : zq_cat rest ≤ 8) (h5 : 5 ≤ d) (hin : vp_in ix (zq_sl.getD (o - 2000) 0)) (hlink : (Jvm.Cond.methodLink t.1.cls i ⟨"java/lang/String", "charAt", "(I)C"⟩).before args s = true) (hdec : decode t.2.1 pc = .ok (.invokevirtual i, 3)) (hc1 : cs.1 ≤ R.cells) (hc2 : cs.2 ≤ R.slots)
    (kk : W p (zq_l g) e R s m args below meth c H locs cs.1 cs.2 Z (F0 m (pc + 3) la (.int ((zq_sb.getD (o - 2000) []).getD ix.toNatClampNeg 0) :: rest.map (zq_c g)))) : W p (zq_l g) e R s m args below meth c H locs cs.1 cs.2 Z (F0 m pc la (.int ix :: .ref (zq_ad g o) :: rest.map (zq_c g))) := by
  obtain ⟨hR, hx, hb, hrt, hml, hown, hts, hlk0, hin0, hK, hro, hB, had⟩ := id ha
  obtain ⟨hlen, hcs, hP, hS⟩ := id hw
  obtain ⟨j, hj, rfl⟩ : ∃ j, j < 12 ∧ o = 2000 + j := ⟨o - 2000, by omega, by omega⟩
  have ej : 2000 + j - 2000 = j := by omega
  rw [ej] at kk hin
  refine zq_jback (rest := rest.map (zq_c g)) (va_runV (C := "java/lang/String") (n := 1) (As := [.int ix]) ⟨hx, hb, hml, hown, hts⟩ (zj_cha g j hj ix hin) ⟨callB_of 1 hts (zq_jgood zj_kcha) rfl rfl rfl (hts _ zj_n1) hlink ⟨by decide, by decide, by decide +kernel⟩ ⟨by show 3 + 1 ≤ _; omega, by show 8 + (2 + 11) + 64 ≤ _; omega⟩, hts _ zj_icha, hts _ zj_scha⟩ ⟨zq_jblind g _, vk_recv hro.2.2.2.2.1 hj hS, fun U hU hW => zq_jpre [.ref (zq_ad g (2000 + j)), .int ix] hro hB hS hU hW⟩ rfl rfl hl.1 rfl (lv_room (by rw [zq_cat_map]; exact h3)) hdec ⟨hc1, hc2⟩) kk
end
section
theorem zq_le_of {cs bd : Nat × Nat} (h : zq_le cs bd = true) : cs.1 ≤ bd.1 ∧ cs.2 ≤ bd.2 := by
  unfold zq_le at h
  split at h
  · next h1 => exact ⟨Nat.le_of_ble_eq_true h1, Nat.le_of_ble_eq_true h⟩
  · cases h
theorem zq_cl_of {X : Type} {g : zq_G} {rep : X → List zq_E} {d k' ml : Nat} {as rest : List Value} {x : X} {f : Option Value → X → Prop} (h : zq_cl g rep d k' ml as rest x f) : ∃ d', d = d' + 1 ∧ (zq_fl as).length ≤ ml ∧ zq_cat rest ≤ 8 ∧ zq_x g rep d' k' 0 (zq_pd ml (zq_fl as)) [] (0, 0) x f := by
  unfold zq_cl at h
  split at h
  · exact h.elim
  · next d' =>
    split at h
    · next h1 h2 => exact ⟨d', rfl, Nat.le_of_ble_eq_true h1, Nat.le_of_ble_eq_true h2, h⟩
    · exact h.elim
theorem zq_ck_of {u : zq_T} {aux : List Nat} (h : zq_ck u aux = true) : (parseMethodDescriptor u.1.desc).map (fun d => d.parameters.length) = some (zq_ix aux 2) ∧ zq_ix aux 3 = u.2.2.1 ∧ zq_ix aux 7 = u.2.2.2.2.2.1.1 ∧ zq_ix aux 8 = u.2.2.2.2.2.1.2 ∧ zq_ix aux 1 < 230 := by
  simp only [zq_ck, Bool.and_eq_true, decide_eq_true_eq] at h
  exact ⟨h.1, Nat.eq_of_beq_eq_true h.2.1, Nat.eq_of_beq_eq_true h.2.2.1, Nat.eq_of_beq_eq_true h.2.2.2.1, Nat.le_of_ble_eq_true h.2.2.2.2⟩
theorem zq_good {u : zq_T} (hm : zq_mc u = true) : GoodIn zq_tb (zq_ws u) := by
  intro w hw
  have hg : w ∈ zq_tb := by
    rcases List.mem_cons.mp hw with h | h
    · rw [h]; exact (zq_mc_of hm).1
    · exact h
  exact ⟨hg, good_of_word (List.mem_filter.mp hg).2⟩
theorem zq_pre {g : zq_G} {s U : State} {cs : Nat × Nat} {h : List zq_E} {H : Heap} {locs : List Loc} (as : List Value) (hw : zq_wd g s cs h H locs) (hz : H.size ≤ s.heap.size + cs.1) (hK : va_K (zq_D g) vwCl (zq_ty g) s) (hro : zq_ro g s s.heap) (hB : zq_B g ≤ s.heap.size) (had : ∀ k, k < 1000 → zq_ad g k = zq_B g + k) (hU : U.heap = H) (hW : s.WarmedH U.vm) : zq_Pc g as h (as.map (zq_c g)).toArray U := by
  obtain ⟨h1, h2, h3, h4⟩ := hw
  refine ⟨rfl, h1, by rw [hU]; omega, by rw [hU]; exact h3, va_K.moved hW.alike hK, ?_, by rw [hU]; exact Nat.le_trans hB h4.1, had⟩
  rw [hU]
  exact hro.go hB hW (fun q q1 q2 => h4.2.1 q q1 q2)
/-- what goes on behind a call -/
theorem zq_cont {X : Type} {g : zq_G} {rep : X → List zq_E} {t : zq_T} {k d : Nat} {Q : Option Value → X → Prop} {ny : Nat → List Value → List Value → Nat × Nat → X → Prop} (hny : ∀ a ls st cs x, ny a ls st cs x → zq_x g rep d k a ls st cs x Q) {pc rv : Nat} {ls rest : List Value} {cs : Nat × Nat} {p : Program} {e : Env} {R : Room} {s : State} {m : MethodId} {args : Array Value} {below : List Frame} {meth : Method} {c : Code} {Z : State → Prop} {la : Array Slot} (ht : zq_mt[k]? = some t) (ha : zq_act g t d p R s m args meth c) (hr : zq_rt g t p e R s m args below meth c (fun r h => ∃ x', h = rep x' ∧ Q r x') Z) (hl : lv_has la t.2.2.1 (zq_lv g 0 ls))
    {r : Option Value} {x : X} {H : Heap} {locs : List Loc} (hf : zq_af (fun st x => ny (pc + 3) ls st cs x) rest rv r x) (hw : zq_wd g s cs (rep x) H locs) : W p (zq_l g) e R s m args below meth c H locs cs.1 cs.2 Z (F0 m (pc + 3) la ((r.map (zq_c g)).toList ++ rest.map (zq_c g))) := by
  unfold zq_af at hf
  split at hf
  · exact hny _ _ _ _ _ hf t ht p e R s m args below meth c Z ha hr H locs la hw hl
  · exact hny _ _ _ _ _ hf t ht p e R s m args below meth c Z ha hr H locs la hw hl
  · exact hf.elim
theorem zq_s_virt {X : Type} {g : zq_G} {O : zq_O X} {rep : X → List zq_E} {t : zq_T} {k d : Nat} {Q : Option Value → X → Prop} {nx : List zq_I → List Value → List Value → Nat × Nat → X → Prop} {ny : Nat → List Value → List Value → Nat × Nat → X → Prop} (C : zq_cx g O rep t k d Q nx ny) {pc len : Nat} {aux : List Nat} {cst : Value} {mask : List Bool} {tl : List zq_I} {ls st : List Value} {cs : Nat × Nat} {x : X} {i : Nat} (hg : zq_ok t ((pc, .invokevirtual i, len, aux, cst, mask) :: tl)) (h : zq_st g O rep t.2.2.2.2.1 t.2.2.2.1 t.2.2.2.2.2.1 d Q nx ny ((pc, .invokevirtual i, len, aux, cst, mask) :: tl) ls st cs x) : zq_x g rep d k pc ls st cs x Q := by
  obtain ⟨hdec, hlk, hn⟩ := zq_head C hg
  simp only [zq_lk, Bool.and_eq_true, decide_eq_true_eq] at hlk
  obtain rfl : len = 3 := Nat.eq_of_beq_eq_true hlk.2
  replace h : (match (generalizing := false) zq_le cs t.2.2.2.2.2.1 with
    | false => False
    | true => match (generalizing := false) zq_ix aux 0 with
      | 1 => match (generalizing := false) zq_sp (zq_ix aux 2) [] st with
        | some (as, .ref o :: rest) => match O.2.2.2.2.2.2 x o with
          | some ci => match Nat.beq ci (zq_ix aux 5) with
            | true => zq_cl g rep d (zq_ix aux 1) (zq_ix aux 3) (.ref o :: as) rest x (zq_af (fun st x => ny (pc + 3) ls st cs x) rest (zq_ix aux 6))
            | false => False
          | none => False
        | _ => False
      | 6 => match (generalizing := false) st with
        | .ref o :: rest => match (generalizing := false) Nat.ble 2000 o, Nat.ble o 2011, d, Nat.ble (zq_cat rest) 8 with
          | true, true, _ + 5, true => nx tl ls (.int (nI (zq_sl.getD (o - 2000) 0)) :: rest) cs x
          | _, _, _, _ => False
        | _ => False
      | 7 => match (generalizing := false) st with
        | .int i :: .ref o :: rest => match (generalizing := false) Nat.ble 2000 o, Nat.ble o 2011, d, Nat.ble (zq_cat rest) 8 with
          | true, true, _ + 5, true => vp_in i (zq_sl.getD (o - 2000) 0) ∧ nx tl ls (.int ((zq_sb.getD (o - 2000) []).getD i.toNatClampNeg 0) :: rest) cs x
          | _, _, _, _ => False
        | _ => False
      | _ => False) := h
  split at h
  · exact h.elim
  · next hle =>
    obtain ⟨le1, le2⟩ := zq_le_of hle
    have hk1 := hlk.1
    split at h
    · next hkind =>
      rw [hkind] at hk1
      replace hk1 : zq_vk t aux i = true := hk1
      unfold zq_vk at hk1
      split at hk1
      · next u hu =>
        simp only [Bool.and_eq_true, decide_eq_true_eq] at hk1
        obtain ⟨k1, k2, k3, k4, k5, k6, k7⟩ := hk1
        obtain ⟨hc1, hc2, hc3, hc4, hc5⟩ := zq_ck_of k1
        obtain ⟨q, hq, hqu⟩ := Option.map_eq_some_iff.mp k5
        split at h
        · next as o rest hsp =>
          split at h
          · next ci hci =>
            split at h
            · next hbeq =>
              obtain ⟨fs, hf1⟩ := C.1.2.2.2.2.2.2 x o ci hci
              rw [Nat.eq_of_beq_eq_true hbeq] at hf1
              obtain ⟨hst, hal⟩ := zq_sp_spec _ _ _ _ _ hsp
              replace hst : as.reverse ++ .ref o :: rest = st := hst
              subst hst
              have hm := zq_mall _ u hu hc5
              obtain ⟨d', hd, hfl, hcat, K⟩ := zq_cl_of h
              rw [hc2] at hfl K
              obtain ⟨m1, m2, m3, m4, m5, m6⟩ := zq_mc_of hm
              intro t' ht' p e R s m args below meth c Z ha hr H locs la hw hl
              obtain rfl : t' = t := Option.some.inj (ht'.symm.trans C.2.1)
              obtain ⟨hR, hx, hb, hrt, hml, hown, hts, hlk0, hin0, hK, hro, hB, had⟩ := id ha
              obtain ⟨hlen, hcs, hP, hS⟩ := id hw
              have hD := zq_wD had hlen
              refine zq_sz (fun hz => ?_)
              have hz3 : u.2.2.2.2.2.1.1 = 0 := hc3.symm.trans (Nat.eq_of_beq_eq_true k6)
              have hz4 : u.2.2.2.2.2.1.2 = 0 := hc4.symm.trans (Nat.eq_of_beq_eq_true k7)
              refine zq_back (cs := cs) (mc := u.2.2.2.2.2.1.1) (ms := u.2.2.2.2.2.1.2) (rest := rest.map (zq_c g)) (va_runV (C := u.1.cls) (n := zq_ix aux 2) (bytes := u.2.1) (maxL := u.2.2.1) (ret := u.2.2.2.1) (As := as.map (zq_c g)) ⟨hx, hb, hml, hown, hts⟩ (zq_met hu hm hfl K) ⟨callB_of _ hts (zq_good hm) rfl rfl rfl (hts _ m2) (hts _ (zq_is_in k2)) ⟨m4, m5, hc1⟩ ⟨by show d' + 1 ≤ _; omega, by show 8 + (u.2.2.1 + 11) + 64 * d' ≤ _; omega⟩, hts _ (zq_is_in k3), hts _ (zq_is_in k4)⟩ ⟨zq_blind g _ _, ?_, fun U hU hW => zq_pre (.ref o :: as) hw hz hK hro hB had hU hW⟩ rfl (by rw [List.length_map]; simpa using hal) hl.1 (by simp; rfl) (lv_room (by rw [zq_cat_map]; exact hcat)) hdec ⟨by omega, by omega⟩) hw hB had (fun r h1 H1 locs1 hQ hw1 => ?_)
              · have hrc := va_recv hK hP hq (zq_w_at hf1)
                rw [hqu] at hrc
                exact hrc
              · obtain ⟨x', rfl, hf⟩ := hQ
                rw [hz3, hz4] at hw1 ⊢
                exact zq_cont C.2.2.2.2 ht' ha hr hl hf hw1
            · exact h.elim
          · exact h.elim
        · exact h.elim
      · cases hk1
    · next hkind =>
      rw [hkind] at hk1
      split at h
      · next o rest =>
        split at h
        · next d' h1 h2 h3 =>
          replace h1 := Nat.le_of_ble_eq_true h1
          replace h2 := Nat.le_of_ble_eq_true h2
          replace h3 := Nat.le_of_ble_eq_true h3
          intro t' ht' p e R s m args below meth c Z ha hr H locs la hw hl
          obtain rfl : t' = t := Option.some.inj (ht'.symm.trans C.2.1)
          obtain ⟨hR, hx, hb, hrt, hml, hown, hts, hlk0, hin0, hK, hro, hB, had⟩ := id ha
          obtain ⟨hlen, hcs, hP, hS⟩ := id hw
          have hD := zq_wD had hlen
          exact zq_strlen ha hw hl h1 h2 h3 (Nat.le_add_left 5 d') (hts _ (zq_is_in hk1)) hdec (Nat.le_trans le1 hR.2.2.1) (Nat.le_trans le2 hR.2.2.2) (hn _ _ _ _ h t' ht' p e R s m args below meth c Z ha hr H locs la hw hl)
        · exact h.elim
      · exact h.elim
    · next hkind =>
      rw [hkind] at hk1
      split at h
      · next ix o rest =>
        split at h
        · next d' h1 h2 h3 =>
          replace h1 := Nat.le_of_ble_eq_true h1
          replace h2 := Nat.le_of_ble_eq_true h2
          replace h3 := Nat.le_of_ble_eq_true h3
          intro t' ht' p e R s m args below meth c Z ha hr H locs la hw hl
          obtain rfl : t' = t := Option.some.inj (ht'.symm.trans C.2.1)
          obtain ⟨hR, hx, hb, hrt, hml, hown, hts, hlk0, hin0, hK, hro, hB, had⟩ := id ha
          obtain ⟨hlen, hcs, hP, hS⟩ := id hw
          have hD := zq_wD had hlen
          exact zq_strchr ha hw hl h1 h2 h3 (Nat.le_add_left 5 d') h.1 (hts _ (zq_is_in hk1)) hdec (Nat.le_trans le1 hR.2.2.1) (Nat.le_trans le2 hR.2.2.2) (hn _ _ _ _ h.2 t' ht' p e R s m args below meth c Z ha hr H locs la hw hl)
        · exact h.elim
      · exact h.elim
    · exact h.elim
theorem zq_s_spec {X : Type} {g : zq_G} {O : zq_O X} {rep : X → List zq_E} {t : zq_T} {k d : Nat} {Q : Option Value → X → Prop} {nx : List zq_I → List Value → List Value → Nat × Nat → X → Prop} {ny : Nat → List Value → List Value → Nat × Nat → X → Prop} (C : zq_cx g O rep t k d Q nx ny) {pc len : Nat} {aux : List Nat} {cst : Value} {mask : List Bool} {tl : List zq_I} {ls st : List Value} {cs : Nat × Nat} {x : X} {i : Nat} (hg : zq_ok t ((pc, .invokespecial i, len, aux, cst, mask) :: tl)) (h : zq_st g O rep t.2.2.2.2.1 t.2.2.2.1 t.2.2.2.2.2.1 d Q nx ny ((pc, .invokespecial i, len, aux, cst, mask) :: tl) ls st cs x) : zq_x g rep d k pc ls st cs x Q := by
  obtain ⟨hdec, hlk, hn⟩ := zq_head C hg
  simp only [zq_lk, Bool.and_eq_true, decide_eq_true_eq] at hlk
  obtain rfl : len = 3 := Nat.eq_of_beq_eq_true hlk.2
  replace h : (match (generalizing := false) zq_le cs t.2.2.2.2.2.1 with
    | false => False
    | true => match (generalizing := false) zq_ix aux 0 with
      | 0 => match (generalizing := false) st with
        | .ref _ :: rest => match (generalizing := false) d, Nat.ble (zq_cat rest) 8 with
          | _ + 1, true => nx tl ls rest cs x
          | _, _ => False
        | _ => False
      | _ => match (generalizing := false) zq_sp (zq_ix aux 2) [] st with
        | some (as, .ref o :: rest) => match (generalizing := false) Nat.ble (cs.1 + zq_ix aux 7) t.2.2.2.2.2.1.1, Nat.ble (cs.2 + zq_ix aux 8) t.2.2.2.2.2.1.2 with
          | true, true => zq_cl g rep d (zq_ix aux 1) (zq_ix aux 3) (.ref o :: as) rest x (zq_af (fun st x => ny (pc + 3) ls st (cs.1 + zq_ix aux 7, cs.2 + zq_ix aux 8) x) rest (zq_ix aux 6))
          | _, _ => False
        | _ => False) := h
  split at h
  · exact h.elim
  · next hle =>
    obtain ⟨le1, le2⟩ := zq_le_of hle
    have hk1 := hlk.1
    split at h
    · next hkind =>
      rw [hkind] at hk1
      split at h
      · next o rest =>
        split at h
        · next d' h3 =>
          replace h3 := Nat.le_of_ble_eq_true h3
          intro t' ht' p e R s m args below meth c Z ha hr H locs la hw hl
          obtain rfl : t' = t := Option.some.inj (ht'.symm.trans C.2.1)
          obtain ⟨hR, hx, hb, hrt, hml, hown, hts, hlk0, hin0, hK, hro, hB, had⟩ := id ha
          obtain ⟨hlen, hcs, hP, hS⟩ := id hw
          have hD := zq_wD had hlen
          exact W.objInit hx hb hown (hts _ (zq_is_in hk1)) (hts _ zq_oi1) (hts _ zq_oi2) rfl (hl.1.trans hml.symm) rfl hdec (by omega) (by rw [zq_cat_map]; show 2 * 0 + _ + 12 ≤ _; omega) (hn _ _ _ _ h t' ht' p e R s m args below meth c Z ha hr H locs la hw hl)
        · exact h.elim
      · exact h.elim
    · next hkind =>
      replace hk1 : zq_ik t aux i = true := by
        revert hk1
        split
        · next hz => exact absurd hz hkind
        · exact fun q => q
      unfold zq_ik at hk1
      split at hk1
      · next u hu =>
        simp only [Bool.and_eq_true, decide_eq_true_eq] at hk1
        obtain ⟨k1, k3, k4, k5, k6⟩ := hk1
        obtain ⟨hc1, hc2, hc3, hc4, hc5⟩ := zq_ck_of k1
        split at h
        · next as o rest hsp =>
          split at h
          · next hb1 hb2 =>
            replace hb1 := Nat.le_of_ble_eq_true hb1
            replace hb2 := Nat.le_of_ble_eq_true hb2
            rw [hc3] at hb1 h
            rw [hc4] at hb2 h
            obtain ⟨hst, hal⟩ := zq_sp_spec _ _ _ _ _ hsp
            replace hst : as.reverse ++ .ref o :: rest = st := hst
            subst hst
            have hm := zq_mall _ u hu hc5
            obtain ⟨d', hd, hfl, hcat, K⟩ := zq_cl_of h
            rw [hc2] at hfl K
            obtain ⟨m1, m2, m3, m4, m5, m6⟩ := zq_mc_of hm
            intro t' ht' p e R s m args below meth c Z ha hr H locs la hw hl
            obtain rfl : t' = t := Option.some.inj (ht'.symm.trans C.2.1)
            obtain ⟨hR, hx, hb, hrt, hml, hown, hts, hlk0, hin0, hK, hro, hB, had⟩ := id ha
            obtain ⟨hlen, hcs, hP, hS⟩ := id hw
            have hD := zq_wD had hlen
            refine zq_sz (fun hz => ?_)
            have hmet := zq_met hu hm hfl K
            split at k6
            · next hkd =>
              refine zq_back (cs := cs) (mc := u.2.2.2.2.2.1.1) (ms := u.2.2.2.2.2.1.2) (rest := rest.map (zq_c g)) (va_runI (n := zq_ix aux 2) (bytes := u.2.1) (maxL := u.2.2.1) (As := as.map (zq_c g)) ⟨hx, hb, hml, hown, hts⟩ hmet ⟨callB_of (ret := none) (ws' := zq_tb) _ hts (zq_good hm) (by rw [zq_ws, k5]) rfl rfl (hts _ m2) (hts _ (zq_is_in k6)) ⟨m4, m5, hc1⟩ ⟨by show d' + 1 ≤ _; omega, by show 8 + (u.2.2.1 + 11) + 64 * d' ≤ _; omega⟩, k4, hts _ (zq_is_in k3)⟩ ⟨zq_blind g _ _, fun U hU hW => zq_pre (.ref o :: as) hw hz hK hro hB had hU hW⟩ rfl (by rw [List.length_map]; simpa using hal) hl.1 (by simp; rfl) (lv_room (by rw [zq_cat_map]; exact hcat)) hdec ⟨by omega, by omega⟩) hw hB had (fun r h1 H1 locs1 hQ hw1 => ?_)
              obtain ⟨x', rfl, hf⟩ := hQ
              exact zq_cont (cs := (cs.1 + u.2.2.2.2.2.1.1, cs.2 + u.2.2.2.2.2.1.2)) C.2.2.2.2 ht' ha hr hl hf hw1
            · next hkd =>
              obtain ⟨q, hq, e2⟩ := Option.map_eq_some_iff.mp (of_decide_eq_true k6)
              have hN := hro.2.2.1 q (List.mem_of_getElem? hq)
              simp only [Prod.mk.injEq] at e2
              obtain ⟨e3, e4, e5⟩ := e2
              rw [e3, e4, e5] at hN
              refine zq_back (cs := cs) (mc := u.2.2.2.2.2.1.1) (ms := u.2.2.2.2.2.1.2) (rest := rest.map (zq_c g)) (va_runIN (host := q.2.2.2) (n := zq_ix aux 2) (bytes := u.2.1) (maxL := u.2.2.1) (As := as.map (zq_c g)) ⟨hx, hb, hml, hown, hts⟩ hmet ⟨va_cnB (ret := none) (ws' := zq_tb) _ hts (zq_good hm) (by rw [zq_ws, k5]) rfl rfl hN (hts _ m2) ⟨m4, m5, hc1⟩ ⟨by show d' + 1 ≤ _; omega, by show 8 + (u.2.2.1 + 11) + 64 * d' ≤ _; omega⟩, k4, hts _ (zq_is_in k3)⟩ ⟨zq_blind g _ _, fun U hU hW => zq_pre (.ref o :: as) hw hz hK hro hB had hU hW⟩ rfl (by rw [List.length_map]; simpa using hal) hl.1 (by simp; rfl) (lv_room (by rw [zq_cat_map]; exact hcat)) hdec ⟨by omega, by omega⟩) hw hB had (fun r h1 H1 locs1 hQ hw1 => ?_)
              obtain ⟨x', rfl, hf⟩ := hQ
              exact zq_cont (cs := (cs.1 + u.2.2.2.2.2.1.1, cs.2 + u.2.2.2.2.2.1.2)) C.2.2.2.2 ht' ha hr hl hf hw1
            · cases k6
          · exact h.elim
        · exact h.elim
      · cases hk1
theorem zq_s_stat {X : Type} {g : zq_G} {O : zq_O X} {rep : X → List zq_E} {t : zq_T} {k d : Nat} {Q : Option Value → X → Prop} {nx : List zq_I → List Value → List Value → Nat × Nat → X → Prop} {ny : Nat → List Value → List Value → Nat × Nat → X → Prop} (C : zq_cx g O rep t k d Q nx ny) {pc len : Nat} {aux : List Nat} {cst : Value} {mask : List Bool} {tl : List zq_I} {ls st : List Value} {cs : Nat × Nat} {x : X} {i : Nat} (hg : zq_ok t ((pc, .invokestatic i, len, aux, cst, mask) :: tl)) (h : zq_st g O rep t.2.2.2.2.1 t.2.2.2.1 t.2.2.2.2.2.1 d Q nx ny ((pc, .invokestatic i, len, aux, cst, mask) :: tl) ls st cs x) : zq_x g rep d k pc ls st cs x Q := by
  obtain ⟨hdec, hlk, hn⟩ := zq_head C hg
  simp only [zq_lk, Bool.and_eq_true, decide_eq_true_eq] at hlk
  obtain rfl : len = 3 := Nat.eq_of_beq_eq_true hlk.2
  replace h : (match (generalizing := false) zq_le cs t.2.2.2.2.2.1 with
    | false => False
    | true => match (generalizing := false) zq_ix aux 0 with
      | 2 => match (generalizing := false) st with
        | .int y :: .int z :: rest => match (generalizing := false) d, Nat.ble (zq_cat rest) 8 with
          | _ + 1, true => nx tl ls (.int (if z < y then y else z) :: rest) cs x
          | _, _ => False
        | _ => False
      | 3 => match (generalizing := false) st with
        | .int y :: .int z :: rest => match (generalizing := false) d, Nat.ble (zq_cat rest) 8 with
          | _ + 1, true => nx tl ls (.int (if y < z then y else z) :: rest) cs x
          | _, _ => False
        | _ => False
      | 4 => match (generalizing := false) st with
        | .int z :: rest => match (generalizing := false) d, Nat.ble (zq_cat rest) 8 with
          | _ + 1, true => nx tl ls (.int (if 0 ≤ z then z else 0 - z) :: rest) cs x
          | _, _ => False
        | _ => False
      | 5 => match (generalizing := false) st with
        | .int n :: .int dp :: .ref a :: .int sp :: .ref b :: rest => match (generalizing := false) zq_al g O x b, Nat.ble 1000 a, O.2.2.1 x a, d, Nat.ble (zq_cat rest) 8 with
          | some (n0, f), false, some (false, n1, e), _ + 1, true => (¬ sp < 0 ∧ ¬ dp < 0 ∧ ¬ n < 0 ∧ sp.toNatClampNeg + n.toNatClampNeg ≤ n0 ∧ dp.toNatClampNeg + n.toNatClampNeg ≤ n1) ∧ nx tl ls rest cs (O.2.2.2.1 x a (va_cpy f e sp.toNatClampNeg dp.toNatClampNeg n.toNatClampNeg))
          | _, _, _, _, _ => False
        | _ => False
      | _ => match (generalizing := false) zq_sp (zq_ix aux 2) [] st with
        | some (as, rest) => zq_cl g rep d (zq_ix aux 1) (zq_ix aux 3) as rest x (zq_af (fun st x => ny (pc + 3) ls st cs x) rest (zq_ix aux 6))
        | none => False) := h
  split at h
  · exact h.elim
  · next hle =>
    obtain ⟨le1, le2⟩ := zq_le_of hle
    have hk1 := hlk.1
    split at h
    · next hkind =>
      rw [hkind] at hk1
      split at h
      · next y z rest =>
        split at h
        · next d' h3 =>
          replace h3 := Nat.le_of_ble_eq_true h3
          intro t' ht' p e R s m args below meth c Z ha hr H locs la hw hl
          obtain rfl : t' = t := Option.some.inj (ht'.symm.trans C.2.1)
          obtain ⟨hR, hx, hb, hrt, hml, hown, hts, hlk0, hin0, hK, hro, hB, had⟩ := id ha
          obtain ⟨hlen, hcs, hP, hS⟩ := id hw
          have hD := zq_wD had hlen
          exact va_mmax hx hb (hml.trans hl.1.symm) hown (hts _ (zq_is_in hk1)) (hts _ zq_mx1) (hts _ zq_mh) (hts _ zq_mx2) (by omega) (by rw [zq_cat_map]; omega) (Nat.le_trans le1 hR.2.2.1) (Nat.le_trans le2 hR.2.2.2) hdec (hn _ _ _ _ h t' ht' p e R s m args below meth c Z ha hr H locs la hw hl)
        · exact h.elim
      · exact h.elim
    · next hkind =>
      rw [hkind] at hk1
      split at h
      · next y z rest =>
        split at h
        · next d' h3 =>
          replace h3 := Nat.le_of_ble_eq_true h3
          intro t' ht' p e R s m args below meth c Z ha hr H locs la hw hl
          obtain rfl : t' = t := Option.some.inj (ht'.symm.trans C.2.1)
          obtain ⟨hR, hx, hb, hrt, hml, hown, hts, hlk0, hin0, hK, hro, hB, had⟩ := id ha
          obtain ⟨hlen, hcs, hP, hS⟩ := id hw
          have hD := zq_wD had hlen
          exact va_mmin hx hb (hml.trans hl.1.symm) hown (hts _ (zq_is_in hk1)) (hts _ zq_mn1) (hts _ zq_mh) (hts _ zq_mn2) (by omega) (by rw [zq_cat_map]; omega) (Nat.le_trans le1 hR.2.2.1) (Nat.le_trans le2 hR.2.2.2) hdec (hn _ _ _ _ h t' ht' p e R s m args below meth c Z ha hr H locs la hw hl)
        · exact h.elim
      · exact h.elim
    · next hkind =>
      rw [hkind] at hk1
      split at h
      · next z rest =>
        split at h
        · next d' h3 =>
          replace h3 := Nat.le_of_ble_eq_true h3
          intro t' ht' p e R s m args below meth c Z ha hr H locs la hw hl
          obtain rfl : t' = t := Option.some.inj (ht'.symm.trans C.2.1)
          obtain ⟨hR, hx, hb, hrt, hml, hown, hts, hlk0, hin0, hK, hro, hB, had⟩ := id ha
          obtain ⟨hlen, hcs, hP, hS⟩ := id hw
          have hD := zq_wD had hlen
          exact va_mabs hx hb (hml.trans hl.1.symm) hown (hts _ (zq_is_in hk1)) (hts _ zq_ma1) (hts _ zq_mh) (hts _ zq_ma2) (by omega) (by rw [zq_cat_map]; omega) (Nat.le_trans le1 hR.2.2.1) (Nat.le_trans le2 hR.2.2.2) hdec (hn _ _ _ _ h t' ht' p e R s m args below meth c Z ha hr H locs la hw hl)
        · exact h.elim
      · exact h.elim
    · next hkind =>
      rw [hkind] at hk1
      split at h
      · next n dp a sp b rest =>
        split at h
        · next n0 f n1 fe d' hal _ hO h3 =>
          replace h3 := Nat.le_of_ble_eq_true h3
          obtain ⟨⟨g1, g2, g3, g4, g5⟩, h⟩ := h
          intro t' ht' p e R s m args below meth c Z ha hr H locs la hw hl
          obtain rfl : t' = t := Option.some.inj (ht'.symm.trans C.2.1)
          obtain ⟨hR, hx, hb, hrt, hml, hown, hts, hlk0, hin0, hK, hro, hB, had⟩ := id ha
          obtain ⟨hlen, hcs, hP, hS⟩ := id hw
          have hD := zq_wD had hlen
          have fin : ∀ (H1 : Heap) (locs1 : List Loc), va_P (zq_D g) vwCl ((zq_w g 0 (rep x)).set a (zq_ad g a, .inl (zq_cI g, n1, .inl (va_cpy f fe sp.toNatClampNeg dp.toNatClampNeg n.toNatClampNeg)))) H1 → va_D (zq_F g) ((zq_w g 0 (rep x)).set a (zq_ad g a, .inl (zq_cI g, n1, .inl (va_cpy f fe sp.toNatClampNeg dp.toNatClampNeg n.toNatClampNeg)))) → va_S (zq_F g) s.heap H1 locs1 → W p (zq_l g) e R s m args below meth c H1 locs1 cs.1 cs.2 Z (F0 m (pc + 3) la (rest.map (zq_c g))) := by
            intro H1 locs1 p1 p2 p3
            refine hn _ _ _ _ h t' ht' p e R s m args below meth c Z ha hr H1 locs1 la ⟨?_, ?_, ?_, p3⟩ hl
            · rw [C.1.2.2.2.1 x a _ _ hO, List.length_set]; exact hlen
            · rw [C.1.2.2.2.1 x a _ _ hO, List.length_set]; exact hcs
            · rw [C.1.2.2.2.1 x a _ _ hO, ← zq_w_set, Nat.zero_add]
              exact p1
          have hloc : ((rest.map (zq_c g)).map fun v => v.category).sum + (nativeFrameWords "java/lang/System" "arraycopy" 5 + 11) ≤ R.locals := by
            rw [zq_cat_map]
            have : nativeFrameWords "java/lang/System" "arraycopy" 5 ≤ 20 := by decide +kernel
            omega
          rcases zq_al_of hal with ⟨a1, a2, a3, a4⟩ | hO2
          · obtain ⟨r1, r2, r3⟩ := zq_ro_at hro hB a1 a2
            rw [← a3, ← a4] at r1
            exact va_copyx (D := zq_D g) (cl := vwCl) (tys := zq_ty g) hx hb (hml.trans hl.1.symm) hown (hts _ (zq_is_in hk1)) (hts _ zq_ac1) (hts _ zq_ac2) (hts _ zq_ac3) hK hP hD hS r1 r2 r3 a 0 (zq_w_at (C.1.2.2.1 x a _ hO)) rfl g1 g2 g3 g4 g5 (by omega) hloc hdec fin
          · exact va_copyi (D := zq_D g) (cl := vwCl) (tys := zq_ty g) hx hb (hml.trans hl.1.symm) hown (hts _ (zq_is_in hk1)) (hts _ zq_ac1) (hts _ zq_ac2) (hts _ zq_ac3) hK hP hD hS b a 0 0 (zq_w_at (C.1.2.2.1 x b _ hO2)) (zq_w_at (C.1.2.2.1 x a _ hO)) rfl rfl rfl g1 g2 g3 g4 g5 (fun _ _ => rfl) (by omega) hloc hdec fin
        · exact h.elim
      · exact h.elim
    · next q2 q3 q4 q5 =>
      replace hk1 : zq_sk t aux i = true := by
        revert hk1
        split
        · next hz => exact absurd hz q2
        · next hz => exact absurd hz q3
        · next hz => exact absurd hz q4
        · next hz => exact absurd hz q5
        · exact fun q => q
      unfold zq_sk at hk1
      split at hk1
      · next u hu =>
        simp only [Bool.and_eq_true, decide_eq_true_eq] at hk1
        obtain ⟨k1, k3, ⟨k4, k5⟩, k6⟩ := hk1
        obtain ⟨hc1, hc2, hc3, hc4, hc5⟩ := zq_ck_of k1
        split at h
        · next as rest hsp =>
          obtain ⟨hst, hal⟩ := zq_sp_spec _ _ _ _ _ hsp
          replace hst : as.reverse ++ rest = st := hst
          subst hst
          have hm := zq_mall _ u hu hc5
          obtain ⟨d', hd, hfl, hcat, K⟩ := zq_cl_of h
          rw [hc2] at hfl K
          obtain ⟨m1, m2, m3, m4, m5, m6⟩ := zq_mc_of hm
          intro t' ht' p e R s m args below meth c Z ha hr H locs la hw hl
          obtain rfl : t' = t := Option.some.inj (ht'.symm.trans C.2.1)
          obtain ⟨hR, hx, hb, hrt, hml, hown, hts, hlk0, hin0, hK, hro, hB, had⟩ := id ha
          obtain ⟨hlen, hcs, hP, hS⟩ := id hw
          have hD := zq_wD had hlen
          refine zq_sz (fun hz => ?_)
          have hz3 : u.2.2.2.2.2.1.1 = 0 := hc3.symm.trans (Nat.eq_of_beq_eq_true k4)
          have hz4 : u.2.2.2.2.2.1.2 = 0 := hc4.symm.trans (Nat.eq_of_beq_eq_true k5)
          have hmet := zq_met hu hm hfl K
          split at k6
          · next hkd =>
            refine zq_back (cs := cs) (mc := u.2.2.2.2.2.1.1) (ms := u.2.2.2.2.2.1.2) (rest := rest.map (zq_c g)) (va_runS (n := zq_ix aux 2) (bytes := u.2.1) (maxL := u.2.2.1) (ret := u.2.2.2.1) (As := as.map (zq_c g)) ⟨hx, hb, hml, hown, hts⟩ hmet ⟨callB_of _ hts (zq_good hm) rfl rfl rfl (hts _ m2) (hts _ (zq_is_in k6)) ⟨m4, m5, hc1⟩ ⟨by show d' + 1 ≤ _; omega, by show 8 + (u.2.2.1 + 11) + 64 * d' ≤ _; omega⟩, hts _ (zq_is_in k3)⟩ ⟨zq_blind g _ _, fun U hU hW => zq_pre as hw hz hK hro hB had hU hW⟩ rfl (by rw [List.length_map]; simpa using hal) hl.1 (by simp) (lv_room (by rw [zq_cat_map]; exact hcat)) hdec ⟨by omega, by omega⟩) hw hB had (fun r h1 H1 locs1 hQ hw1 => ?_)
            obtain ⟨x', rfl, hf⟩ := hQ
            rw [hz3, hz4] at hw1 ⊢
            exact zq_cont C.2.2.2.2 ht' ha hr hl hf hw1
          · next hkd =>
            obtain ⟨q, hq, e2⟩ := Option.map_eq_some_iff.mp (of_decide_eq_true k6)
            have hN := hro.2.2.1 q (List.mem_of_getElem? hq)
            simp only [Prod.mk.injEq] at e2
            obtain ⟨e3, e4, e5⟩ := e2
            rw [e3, e4, e5] at hN
            refine zq_back (cs := cs) (mc := u.2.2.2.2.2.1.1) (ms := u.2.2.2.2.2.1.2) (rest := rest.map (zq_c g)) (va_runSN (host := q.2.2.2) (n := zq_ix aux 2) (bytes := u.2.1) (maxL := u.2.2.1) (ret := u.2.2.2.1) (As := as.map (zq_c g)) ⟨hx, hb, hml, hown, hts⟩ hmet ⟨va_cnB _ hts (zq_good hm) rfl rfl rfl hN (hts _ m2) ⟨m4, m5, hc1⟩ ⟨by show d' + 1 ≤ _; omega, by show 8 + (u.2.2.1 + 11) + 64 * d' ≤ _; omega⟩, hts _ (zq_is_in k3), trivial⟩ ⟨zq_blind g _ _, fun U hU hW => zq_pre as hw hz hK hro hB had hU hW⟩ rfl (by rw [List.length_map]; simpa using hal) hl.1 (by simp) (lv_room (by rw [zq_cat_map]; exact hcat)) hdec ⟨by omega, by omega⟩) hw hB had (fun r h1 H1 locs1 hQ hw1 => ?_)
            obtain ⟨x', rfl, hf⟩ := hQ
            rw [hz3, hz4] at hw1 ⊢
            exact zq_cont C.2.2.2.2 ht' ha hr hl hf hw1
          · cases k6
        · exact h.elim
      · cases hk1
end
section
theorem zq_st_ok {X : Type} {g : zq_G} {O : zq_O X} {rep : X → List zq_E} {t : zq_T} {k d : Nat} {Q : Option Value → X → Prop} {nx : List zq_I → List Value → List Value → Nat × Nat → X → Prop} {ny : Nat → List Value → List Value → Nat × Nat → X → Prop} (C : zq_cx g O rep t k d Q nx ny) {tail : List zq_I} {ls st : List Value} {cs : Nat × Nat} {x : X} (hg : zq_ok t tail) (h : zq_st g O rep t.2.2.2.2.1 t.2.2.2.1 t.2.2.2.2.2.1 d Q nx ny tail ls st cs x) : zq_x g rep d k (zq_pc tail) ls st cs x Q := by
  match tail, hg, h with
  | [], hg, h => exact h.elim
  | (pc, ins, len, aux, cst, mask) :: tl, hg, h =>
    cases ins with
    | iadd => exact zq_s_iadd C hg h
    | isub => exact zq_s_isub C hg h
    | imul => exact zq_s_imul C hg h
    | iand => exact zq_s_iand C hg h
    | ior => exact zq_s_ior C hg h
    | ishl => exact zq_s_ishl C hg h
    | ishr => exact zq_s_ishr C hg h
    | ladd => exact zq_s_ladd C hg h
    | lsub => exact zq_s_lsub C hg h
    | lmul => exact zq_s_lmul C hg h
    | land => exact zq_s_land C hg h
    | lor => exact zq_s_lor C hg h
    | idiv => exact zq_s_idiv C hg h
    | irem => exact zq_s_irem C hg h
    | ldiv => exact zq_s_ldiv C hg h
    | lrem => exact zq_s_lrem C hg h
    | ineg => exact zq_s_ineg C hg h
    | i2l => exact zq_s_i2l C hg h
    | l2i => exact zq_s_l2i C hg h
    | i2b => exact zq_s_i2b C hg h
    | i2s => exact zq_s_i2s C hg h
    | lshl => exact zq_s_lshl C hg h
    | lshr => exact zq_s_lshr C hg h
    | lcmp => exact zq_s_lcmp C hg h
    | dup => exact zq_s_dup C hg h
    | pop => exact zq_s_pop C hg h
    | dup2 => exact zq_s_dup2 C hg h
    | iaload => exact zq_s_iaload C hg h
    | arraylength => exact zq_s_arraylength C hg h
    | iastore => exact zq_s_iastore C hg h
    | bastore => exact zq_s_bastore C hg h
    | baload => exact zq_s_baload C hg h
    | ireturn => exact zq_s_ireturn C hg h
    | lreturn => exact zq_s_lreturn C hg h
    | iconst _ => exact zq_s_iconst C hg h
    | bipush _ => exact zq_s_bipush C hg h
    | sipush _ => exact zq_s_sipush C hg h
    | lconst _ => exact zq_s_lconst C hg h
    | ldc2_w _ => exact zq_s_ldc2_w C hg h
    | ldc _ => exact zq_s_ldc C hg h
    | iload _ => exact zq_s_iload C hg h
    | lload _ => exact zq_s_lload C hg h
    | aload _ => exact zq_s_aload C hg h
    | iload_n _ => exact zq_s_iload_n C hg h
    | lload_n _ => exact zq_s_lload_n C hg h
    | aload_n _ => exact zq_s_aload_n C hg h
    | istore _ => exact zq_s_istore C hg h
    | astore _ => exact zq_s_astore C hg h
    | lstore _ => exact zq_s_lstore C hg h
    | istore_n _ => exact zq_s_istore_n C hg h
    | astore_n _ => exact zq_s_astore_n C hg h
    | lstore_n _ => exact zq_s_lstore_n C hg h
    | goto _ => exact zq_s_goto C hg h
    | getfield _ => exact zq_s_getfield C hg h
    | putfield _ => exact zq_s_putfield C hg h
    | getstatic _ => exact zq_s_getstatic C hg h
    | newarray _ => exact zq_s_newarray C hg h
    | new _ => exact zq_s_new C hg h
    | iinc _ _ => exact zq_s_iinc C hg h
    | tableswitch _ _ _ _ => exact zq_s_tableswitch C hg h
    | invokevirtual _ => exact zq_s_virt C hg h
    | invokespecial _ => exact zq_s_spec C hg h
    | invokestatic _ => exact zq_s_stat C hg h
    | return_ => exact zq_s_return C hg h
    | ifCond q _ => cases q with
      | eq => exact zq_s_if_eq C hg h
      | ne => exact zq_s_if_ne C hg h
      | lt => exact zq_s_if_lt C hg h
      | ge => exact zq_s_if_ge C hg h
      | gt => exact zq_s_if_gt C hg h
      | le => exact zq_s_if_le C hg h
    | if_icmp q _ => cases q with
      | eq => exact zq_s_ic_eq C hg h
      | ne => exact zq_s_ic_ne C hg h
      | lt => exact zq_s_ic_lt C hg h
      | ge => exact zq_s_ic_ge C hg h
      | gt => exact zq_s_ic_gt C hg h
      | le => exact zq_s_ic_le C hg h
    | _ => exact False.elim h
theorem zq_nx_ok {X : Type} {g : zq_G} {rep : X → List zq_E} {t : zq_T} {k d : Nat} {Q : Option Value → X → Prop} {go : List zq_I → List Value → List Value → Nat × Nat → X → Prop} (hgo : ∀ tl ls st cs x, zq_ok t tl → go tl ls st cs x → zq_x g rep d k (zq_pc tl) ls st cs x Q) {tl : List zq_I} {ls st : List Value} {cs : Nat × Nat} {x : X} (hg : zq_ok t tl) (h : zq_nx g rep d k Q go tl ls st cs x) : tl ≠ [] ∧ zq_x g rep d k (zq_pc tl) ls st cs x Q := by
  match tl, hg, h with
  | [], _, h => exact h.elim
  | (pc, ins, len, aux, cst, []) :: tl, hg, h => exact ⟨by simp, hgo _ _ _ _ _ hg h⟩
  | (pc, ins, len, aux, cst, b :: mask) :: tl, hg, h => exact ⟨by simp, zq_g.mask (b := b :: mask) h⟩
theorem zq_wp_ok {X : Type} {g : zq_G} {O : zq_O X} {rep : X → List zq_E} {t : zq_T} {k d : Nat} {Q : Option Value → X → Prop} (hO : zq_lw rep O) (ht : zq_mt[k]? = some t) (hc : zq_ok t t.2.2.2.2.1) : ∀ (n : Nat) (tl : List zq_I) (ls st : List Value) (cs : Nat × Nat) (x : X), zq_ok t tl → zq_wp g O rep t.2.2.2.2.1 t.2.2.2.1 t.2.2.2.2.2.1 d k Q n tl ls st cs x → zq_x g rep d k (zq_pc tl) ls st cs x Q
  | 0, tl, ls, st, cs, x, hg, h => h.elim
  | n + 1, tl, ls, st, cs, x, hg, h => by
    have ih := zq_wp_ok (g := g) (d := d) (Q := Q) hO ht hc n
    refine zq_st_ok ⟨hO, ht, hc, fun tl ls st cs x hg h => zq_nx_ok ih hg h, fun a ls st cs x h => ?_⟩ hg h
    obtain ⟨h1, h2⟩ := zq_ok.sf a hc
    obtain ⟨h3, h4⟩ := zq_nx_ok ih h1 h
    rw [h2 h3] at h4
    exact h4
/-- THE WALK: from a place on, n instructions or to the next cut -/
theorem zq_go {X : Type} {g : zq_G} {O : zq_O X} {rep : X → List zq_E} {t : zq_T} {k d pc : Nat} {Q : Option Value → X → Prop} {ls st : List Value} {cs : Nat × Nat} {x : X} (hO : zq_lw rep O) (ht : zq_mt[k]? = some t) (n : Nat) (h : zq_wp g O rep t.2.2.2.2.1 t.2.2.2.1 t.2.2.2.2.2.1 d k Q n (zq_sf t.2.2.2.2.1 pc) ls st cs x) : zq_x g rep d k pc ls st cs x Q := by
  have hc := zq_eall k t ht
  obtain ⟨h1, h2⟩ := zq_ok.sf pc hc
  have h3 := zq_wp_ok hO ht hc n _ ls st cs x h1 h
  have h4 : zq_sf t.2.2.2.2.1 pc ≠ [] := by
    intro e
    rw [e] at h
    cases n with
    | zero => exact h
    | succ n => exact h
  rw [h2 h4] at h3
  exact h3
end
section
/-! MEMORY behind the constructors: the cells stand as zq_sh says; M c i is place i of cell c -/
abbrev zq_M : Type := Nat → Nat → Int32
def zq_ma (M : zq_M) (c : Nat) (f : Nat → Int32) : zq_M := fun a => if a = c then f else M a
def zq_mu (M : zq_M) (c i : Nat) (v : Int32) : zq_M := zq_ma M c (upd (M c) i v)
def zq_nt {α : Type} : List α → Nat → Option α
  | [], _ => none
  | a :: _, 0 => some a
  | _ :: r, n + 1 => zq_nt r n
theorem zq_nt_eq {α : Type} : ∀ (l : List α) (n : Nat), zq_nt l n = l[n]?
  | [], n => by simp [zq_nt]
  | a :: l, 0 => by simp [zq_nt]
  | a :: l, n + 1 => by simp [zq_nt, zq_nt_eq l n]
def zq_hs (f : Nat → Int32) : Nat → List (Option Nat) → List Value
  | _, [] => []
  | i, none :: r => .int (f i) :: zq_hs f (i + 1) r
  | i, some o :: r => .ref o :: zq_hs f (i + 1) r
def zq_hd (f : Nat → Int32) : (Bool × Nat) ⊕ (Nat × List (Option Nat)) → zq_E
  | .inl q => .inl (q.1, q.2, f)
  | .inr q => .inr (q.1, zq_hs f 0 q.2)
def zq_hl (M : zq_M) : Nat → List ((Bool × Nat) ⊕ (Nat × List (Option Nat))) → List zq_E
  | _, [] => []
  | i, d :: r => zq_hd (M i) d :: zq_hl M (i + 1) r
def zq_rp (M : zq_M) : List zq_E := zq_hl M 0 zq_sh
theorem zq_hs_get (f : Nat → Int32) : ∀ (sl : List (Option Nat)) (i k : Nat), (zq_hs f i sl)[k]? = (sl[k]?).map (fun s => match s with
    | none => Value.int (f (i + k))
    | some o => Value.ref o)
  | [], i, k => by simp [zq_hs]
  | none :: r, i, 0 => by simp [zq_hs]
  | some o :: r, i, 0 => by simp [zq_hs]
  | none :: r, i, k + 1 => by
    simp only [zq_hs, List.getElem?_cons_succ, zq_hs_get f r (i + 1) k, show i + 1 + k = i + (k + 1) by omega]
  | some o :: r, i, k + 1 => by
    simp only [zq_hs, List.getElem?_cons_succ, zq_hs_get f r (i + 1) k, show i + 1 + k = i + (k + 1) by omega]
theorem zq_hs_len (f : Nat → Int32) : ∀ (sl : List (Option Nat)) (i : Nat), (zq_hs f i sl).length = sl.length
  | [], i => rfl
  | none :: r, i => by simp [zq_hs, zq_hs_len f r]
  | some o :: r, i => by simp [zq_hs, zq_hs_len f r]
theorem zq_hs_set (f : Nat → Int32) (v : Int32) : ∀ (sl : List (Option Nat)) (i k : Nat), sl[k]? = some none → (zq_hs f i sl).set k (.int v) = zq_hs (upd f (i + k) v) i sl
  | [], i, k, h => by simp at h
  | none :: r, i, 0, h => by
    have e : ∀ (r : List (Option Nat)) (j : Nat), i < j → zq_hs (upd f i v) j r = zq_hs f j r := by
      intro r
      induction r with
      | nil => intro j _; rfl
      | cons s r ih =>
        intro j hj
        cases s with
        | none => simp only [zq_hs, ih (j + 1) (by omega)]; rw [pk_un (by omega)]
        | some o => simp only [zq_hs, ih (j + 1) (by omega)]
    simp only [zq_hs, List.set_cons_zero, Nat.add_zero, pk_us]
    rw [e r (i + 1) (by omega)]
  | some o :: r, i, 0, h => by simp at h
  | none :: r, i, k + 1, h => by
    simp only [zq_hs, List.set_cons_succ, zq_hs_set f v r (i + 1) k (by simpa using h), show i + 1 + k = i + (k + 1) by omega]
    rw [pk_un (by omega)]
  | some o :: r, i, k + 1, h => by
    simp only [zq_hs, List.set_cons_succ, zq_hs_set f v r (i + 1) k (by simpa using h), show i + 1 + k = i + (k + 1) by omega]
theorem zq_hl_get (M : zq_M) : ∀ (sh : List ((Bool × Nat) ⊕ (Nat × List (Option Nat)))) (i k : Nat), (zq_hl M i sh)[k]? = (sh[k]?).map (fun d => zq_hd (M (i + k)) d)
  | [], i, k => by simp [zq_hl]
  | d :: r, i, 0 => by simp [zq_hl]
  | d :: r, i, k + 1 => by
    simp only [zq_hl, List.getElem?_cons_succ, zq_hl_get M r (i + 1) k, show i + 1 + k = i + (k + 1) by omega]
theorem zq_hl_len (M : zq_M) : ∀ (sh : List ((Bool × Nat) ⊕ (Nat × List (Option Nat)))) (i : Nat), (zq_hl M i sh).length = sh.length
  | [], i => rfl
  | d :: r, i => by simp [zq_hl, zq_hl_len M r]
theorem zq_rp_get {M : zq_M} {c : Nat} {d : (Bool × Nat) ⊕ (Nat × List (Option Nat))} (h : zq_sh[c]? = some d) : (zq_rp M)[c]? = some (zq_hd (M c) d) := by
  unfold zq_rp
  rw [zq_hl_get, h, Option.map_some, Nat.zero_add]
theorem zq_rp_set {M : zq_M} {c : Nat} {f : Nat → Int32} {d : (Bool × Nat) ⊕ (Nat × List (Option Nat))} (h : zq_sh[c]? = some d) : zq_rp (zq_ma M c f) = (zq_rp M).set c (zq_hd f d) := by
  unfold zq_rp
  apply List.ext_getElem?
  intro k
  rw [zq_hl_get, List.getElem?_set, zq_hl_get, zq_hl_len, Nat.zero_add]
  by_cases e : c = k
  · subst e
    have hlt : c < zq_sh.length := (List.getElem?_eq_some_iff.mp h).1
    rw [if_pos rfl, if_pos hlt, h, Option.map_some]
    simp [zq_ma]
  · rw [if_neg e]
    congr 1
    funext d
    simp [zq_ma, Ne.symm e]
/-- a row of the memory -/
def zq_an (a : Nat) : Option (Bool × Nat) := match zq_nt zq_sh a with
  | some (.inl q) => some q
  | _ => none
def zq_oM : zq_O zq_M :=
  (fun M aux o => match Nat.beq o (zq_ix aux 3) with
    | true => match zq_ix aux 4 with
      | 0 => some (.int (M o (zq_ix aux 1)))
      | r + 1 => some (.ref r)
    | false => none,
   fun M aux o v => match Nat.beq o (zq_ix aux 3), zq_ix aux 4, v with
    | true, 0, .int u => some (zq_mu M o (zq_ix aux 1) u)
    | _, _, _ => none,
   fun M a => match zq_an a with
    | some (b, n) => some (b, n, M a)
    | none => none,
   fun M a f => zq_ma M a f,
   fun _ _ => none,
   fun _ _ _ => none,
   fun _ o => match zq_nt zq_sh o with
    | some (.inr q) => some q.1
    | _ => none)
theorem zq_an_of {a : Nat} {q : Bool × Nat} (h : zq_an a = some q) : zq_sh[a]? = some (.inl q) := by
  unfold zq_an at h
  split at h
  · next q' hq => cases h; rw [← zq_nt_eq]; exact hq
  · cases h
theorem zq_ax_of {aux : List Nat} (h : zq_ax aux = true) : ∃ sl s, zq_sh[zq_ix aux 3]? = some (.inr (zq_ix aux 0, sl)) ∧ sl[zq_ix aux 1]? = some s ∧ ((s = none ∧ zq_ix aux 4 = 0) ∨ ∃ r, s = some r ∧ zq_ix aux 4 = r + 1) := by
  unfold zq_ax at h
  split at h
  · next q hq =>
    rw [Bool.and_eq_true] at h
    obtain ⟨h1, h2⟩ := h
    have h1 := Nat.eq_of_beq_eq_true h1
    split at h2
    · next hs => exact ⟨q.2, none, by rw [hq, h1], hs, Or.inl ⟨rfl, Nat.eq_of_beq_eq_true h2⟩⟩
    · next r hs => exact ⟨q.2, some r, by rw [hq, h1], hs, Or.inr ⟨r, rfl, Nat.eq_of_beq_eq_true h2⟩⟩
    · cases h2
  · cases h
theorem zq_lM : zq_lw zq_rp zq_oM := by
  refine ⟨?_, ?_, ?_, ?_, ?_, ?_, ?_⟩
  · intro M aux o v hax h
    obtain ⟨sl, s, h1, h2, h3⟩ := zq_ax_of hax
    replace h : (match (generalizing := false) Nat.beq o (zq_ix aux 3) with
      | true => match zq_ix aux 4 with
        | 0 => some (.int (M o (zq_ix aux 1)))
        | r + 1 => some (.ref r)
      | false => none) = some v := h
    split at h
    · next hb =>
      have hb := Nat.eq_of_beq_eq_true hb
      rw [← hb] at h1
      refine ⟨_, zq_rp_get h1, ?_⟩
      rw [zq_hs_get, h2, Option.map_some, Nat.zero_add]
      rcases h3 with ⟨rfl, h4⟩ | ⟨r, rfl, h4⟩
      · rw [h4] at h; exact h
      · rw [h4] at h; exact h
    · cases h
  · intro M aux o v M' hax h
    obtain ⟨sl, s, h1, h2, h3⟩ := zq_ax_of hax
    replace h : (match (generalizing := false) Nat.beq o (zq_ix aux 3), zq_ix aux 4, v with
      | true, 0, .int u => some (zq_mu M o (zq_ix aux 1) u)
      | _, _, _ => none) = some M' := h
    split at h
    · next hb h4 =>
      have hb := Nat.eq_of_beq_eq_true hb
      rw [← hb] at h1
      cases h
      rcases h3 with ⟨rfl, _⟩ | ⟨r, rfl, h5⟩
      · refine ⟨_, zq_rp_get h1, by rw [zq_hs_len]; exact (List.getElem?_eq_some_iff.mp h2).1, ?_⟩
        unfold zq_mu
        rw [zq_rp_set h1, zq_hs_set _ _ _ _ _ h2, Nat.zero_add]
        rfl
      · omega
    · cases h
  · intro M a y h
    replace h : (match (generalizing := false) zq_an a with
      | some (b, n) => some (b, n, M a)
      | none => none) = some y := h
    split at h
    · next b n hq => cases h; exact zq_rp_get (zq_an_of hq)
    · cases h
  · intro M a y f h
    replace h : (match (generalizing := false) zq_an a with
      | some (b, n) => some (b, n, M a)
      | none => none) = some y := h
    split at h
    · next b n hq => cases h; exact zq_rp_set (zq_an_of hq)
    · cases h
  · intro M ci o M' h; cases h
  · intro M b n a M' h; cases h
  · intro M o ci h
    replace h : (match (generalizing := false) zq_nt zq_sh o with
      | some (.inr q) => some q.1
      | _ => none) = some ci := h
    split at h
    · next q hq =>
      cases h
      rw [zq_nt_eq] at hq
      exact ⟨_, zq_rp_get hq⟩
    · cases h
/-- method k at pc, over the memory M -/
abbrev mx (g : zq_G) (d k pc : Nat) (ls st : List Value) (M : zq_M) (Q : Option Value → zq_M → Prop) : Prop := zq_x g zq_rp d k pc ls st (0, 0) M Q
theorem mx_go {g : zq_G} {t : zq_T} {k d pc : Nat} {Q : Option Value → zq_M → Prop} {ls st : List Value} {M : zq_M} (n : Nat) (ht : zq_mt[k]? = some t) (h : zq_wp g zq_oM zq_rp t.2.2.2.2.1 t.2.2.2.1 t.2.2.2.2.2.1 d k Q n (zq_sf t.2.2.2.2.1 pc) ls st (0, 0) M) : mx g d k pc ls st M Q := zq_go zq_lM ht n h
end
section
theorem zq_t0 : zq_mt[0]? = some zq_m0 := rfl
theorem zq_t1 : zq_mt[1]? = some zq_m1 := rfl
theorem zq_t2 : zq_mt[2]? = some zq_m2 := rfl
theorem zq_t3 : zq_mt[3]? = some zq_m3 := rfl
theorem zq_t4 : zq_mt[4]? = some zq_m4 := rfl
theorem zq_t5 : zq_mt[5]? = some zq_m5 := rfl
theorem zq_t6 : zq_mt[6]? = some zq_m6 := rfl
theorem zq_t7 : zq_mt[7]? = some zq_m7 := rfl
theorem zq_t8 : zq_mt[8]? = some zq_m8 := rfl
theorem zq_t9 : zq_mt[9]? = some zq_m9 := rfl
theorem zq_t10 : zq_mt[10]? = some zq_m10 := rfl
theorem zq_t11 : zq_mt[11]? = some zq_m11 := rfl
theorem zq_t12 : zq_mt[12]? = some zq_m12 := rfl
theorem zq_t13 : zq_mt[13]? = some zq_m13 := rfl
theorem zq_t14 : zq_mt[14]? = some zq_m14 := rfl
theorem zq_t15 : zq_mt[15]? = some zq_m15 := rfl
theorem zq_t16 : zq_mt[16]? = some zq_m16 := rfl
theorem zq_t17 : zq_mt[17]? = some zq_m17 := rfl
theorem zq_t18 : zq_mt[18]? = some zq_m18 := rfl
theorem zq_t19 : zq_mt[19]? = some zq_m19 := rfl
theorem zq_t20 : zq_mt[20]? = some zq_m20 := rfl
theorem zq_t21 : zq_mt[21]? = some zq_m21 := rfl
theorem zq_t22 : zq_mt[22]? = some zq_m22 := rfl
theorem zq_t23 : zq_mt[23]? = some zq_m23 := rfl
theorem zq_t24 : zq_mt[24]? = some zq_m24 := rfl
theorem zq_t25 : zq_mt[25]? = some zq_m25 := rfl
theorem zq_t26 : zq_mt[26]? = some zq_m26 := rfl
theorem zq_t27 : zq_mt[27]? = some zq_m27 := rfl
theorem zq_t28 : zq_mt[28]? = some zq_m28 := rfl
theorem zq_t29 : zq_mt[29]? = some zq_m29 := rfl
theorem zq_t30 : zq_mt[30]? = some zq_m30 := rfl
theorem zq_t31 : zq_mt[31]? = some zq_m31 := rfl
theorem zq_t32 : zq_mt[32]? = some zq_m32 := rfl
theorem zq_t33 : zq_mt[33]? = some zq_m33 := rfl
theorem zq_t34 : zq_mt[34]? = some zq_m34 := rfl
theorem zq_t35 : zq_mt[35]? = some zq_m35 := rfl
theorem zq_t36 : zq_mt[36]? = some zq_m36 := rfl
theorem zq_t37 : zq_mt[37]? = some zq_m37 := rfl
theorem zq_t38 : zq_mt[38]? = some zq_m38 := rfl
theorem zq_t39 : zq_mt[39]? = some zq_m39 := rfl
theorem zq_t40 : zq_mt[40]? = some zq_m40 := rfl
theorem zq_t41 : zq_mt[41]? = some zq_m41 := rfl
theorem zq_t42 : zq_mt[42]? = some zq_m42 := rfl
theorem zq_t43 : zq_mt[43]? = some zq_m43 := rfl
theorem zq_t44 : zq_mt[44]? = some zq_m44 := rfl
theorem zq_t45 : zq_mt[45]? = some zq_m45 := rfl
theorem zq_t46 : zq_mt[46]? = some zq_m46 := rfl
theorem zq_t47 : zq_mt[47]? = some zq_m47 := rfl
theorem zq_t48 : zq_mt[48]? = some zq_m48 := rfl
theorem zq_t49 : zq_mt[49]? = some zq_m49 := rfl
theorem zq_t50 : zq_mt[50]? = some zq_m50 := rfl
theorem zq_t51 : zq_mt[51]? = some zq_m51 := rfl
theorem zq_t52 : zq_mt[52]? = some zq_m52 := rfl
theorem zq_t53 : zq_mt[53]? = some zq_m53 := rfl
theorem zq_t54 : zq_mt[54]? = some zq_m54 := rfl
theorem zq_t55 : zq_mt[55]? = some zq_m55 := rfl
theorem zq_t56 : zq_mt[56]? = some zq_m56 := rfl
theorem zq_t57 : zq_mt[57]? = some zq_m57 := rfl
theorem zq_t58 : zq_mt[58]? = some zq_m58 := rfl
theorem zq_t59 : zq_mt[59]? = some zq_m59 := rfl
theorem zq_t60 : zq_mt[60]? = some zq_m60 := rfl
theorem zq_t61 : zq_mt[61]? = some zq_m61 := rfl
theorem zq_t62 : zq_mt[62]? = some zq_m62 := rfl
theorem zq_t63 : zq_mt[63]? = some zq_m63 := rfl
theorem zq_t64 : zq_mt[64]? = some zq_m64 := rfl
theorem zq_t65 : zq_mt[65]? = some zq_m65 := rfl
theorem zq_t66 : zq_mt[66]? = some zq_m66 := rfl
theorem zq_t67 : zq_mt[67]? = some zq_m67 := rfl
theorem zq_t68 : zq_mt[68]? = some zq_m68 := rfl
theorem zq_t69 : zq_mt[69]? = some zq_m69 := rfl
theorem zq_t70 : zq_mt[70]? = some zq_m70 := rfl
theorem zq_t71 : zq_mt[71]? = some zq_m71 := rfl
theorem zq_t72 : zq_mt[72]? = some zq_m72 := rfl
theorem zq_t73 : zq_mt[73]? = some zq_m73 := rfl
theorem zq_t74 : zq_mt[74]? = some zq_m74 := rfl
theorem zq_t75 : zq_mt[75]? = some zq_m75 := rfl
theorem zq_t76 : zq_mt[76]? = some zq_m76 := rfl
theorem zq_t77 : zq_mt[77]? = some zq_m77 := rfl
theorem zq_t78 : zq_mt[78]? = some zq_m78 := rfl
theorem zq_t79 : zq_mt[79]? = some zq_m79 := rfl
theorem zq_t80 : zq_mt[80]? = some zq_m80 := rfl
theorem zq_t81 : zq_mt[81]? = some zq_m81 := rfl
theorem zq_t82 : zq_mt[82]? = some zq_m82 := rfl
theorem zq_t83 : zq_mt[83]? = some zq_m83 := rfl
theorem zq_t84 : zq_mt[84]? = some zq_m84 := rfl
theorem zq_t85 : zq_mt[85]? = some zq_m85 := rfl
theorem zq_t86 : zq_mt[86]? = some zq_m86 := rfl
theorem zq_t87 : zq_mt[87]? = some zq_m87 := rfl
theorem zq_t88 : zq_mt[88]? = some zq_m88 := rfl
theorem zq_t89 : zq_mt[89]? = some zq_m89 := rfl
theorem zq_t90 : zq_mt[90]? = some zq_m90 := rfl
theorem zq_t91 : zq_mt[91]? = some zq_m91 := rfl
theorem zq_t92 : zq_mt[92]? = some zq_m92 := rfl
theorem zq_t93 : zq_mt[93]? = some zq_m93 := rfl
theorem zq_t94 : zq_mt[94]? = some zq_m94 := rfl
theorem zq_t95 : zq_mt[95]? = some zq_m95 := rfl
theorem zq_t96 : zq_mt[96]? = some zq_m96 := rfl
theorem zq_t97 : zq_mt[97]? = some zq_m97 := rfl
theorem zq_t98 : zq_mt[98]? = some zq_m98 := rfl
theorem zq_t99 : zq_mt[99]? = some zq_m99 := rfl
theorem zq_t100 : zq_mt[100]? = some zq_m100 := rfl
theorem zq_t101 : zq_mt[101]? = some zq_m101 := rfl
theorem zq_t102 : zq_mt[102]? = some zq_m102 := rfl
theorem zq_t103 : zq_mt[103]? = some zq_m103 := rfl
theorem zq_t104 : zq_mt[104]? = some zq_m104 := rfl
theorem zq_t105 : zq_mt[105]? = some zq_m105 := rfl
theorem zq_t106 : zq_mt[106]? = some zq_m106 := rfl
theorem zq_t107 : zq_mt[107]? = some zq_m107 := rfl
theorem zq_t108 : zq_mt[108]? = some zq_m108 := rfl
theorem zq_t109 : zq_mt[109]? = some zq_m109 := rfl
theorem zq_t110 : zq_mt[110]? = some zq_m110 := rfl
theorem zq_t111 : zq_mt[111]? = some zq_m111 := rfl
theorem zq_t112 : zq_mt[112]? = some zq_m112 := rfl
theorem zq_t113 : zq_mt[113]? = some zq_m113 := rfl
theorem zq_t114 : zq_mt[114]? = some zq_m114 := rfl
theorem zq_t115 : zq_mt[115]? = some zq_m115 := rfl
theorem zq_t116 : zq_mt[116]? = some zq_m116 := rfl
theorem zq_t117 : zq_mt[117]? = some zq_m117 := rfl
theorem zq_t118 : zq_mt[118]? = some zq_m118 := rfl
theorem zq_t119 : zq_mt[119]? = some zq_m119 := rfl
theorem zq_t120 : zq_mt[120]? = some zq_m120 := rfl
theorem zq_t121 : zq_mt[121]? = some zq_m121 := rfl
theorem zq_t122 : zq_mt[122]? = some zq_m122 := rfl
theorem zq_t123 : zq_mt[123]? = some zq_m123 := rfl
theorem zq_t124 : zq_mt[124]? = some zq_m124 := rfl
theorem zq_t125 : zq_mt[125]? = some zq_m125 := rfl
theorem zq_t126 : zq_mt[126]? = some zq_m126 := rfl
theorem zq_t127 : zq_mt[127]? = some zq_m127 := rfl
theorem zq_t128 : zq_mt[128]? = some zq_m128 := rfl
theorem zq_t129 : zq_mt[129]? = some zq_m129 := rfl
theorem zq_t130 : zq_mt[130]? = some zq_m130 := rfl
theorem zq_t131 : zq_mt[131]? = some zq_m131 := rfl
theorem zq_t132 : zq_mt[132]? = some zq_m132 := rfl
theorem zq_t133 : zq_mt[133]? = some zq_m133 := rfl
theorem zq_t134 : zq_mt[134]? = some zq_m134 := rfl
theorem zq_t135 : zq_mt[135]? = some zq_m135 := rfl
theorem zq_t136 : zq_mt[136]? = some zq_m136 := rfl
theorem zq_t137 : zq_mt[137]? = some zq_m137 := rfl
theorem zq_t138 : zq_mt[138]? = some zq_m138 := rfl
theorem zq_t139 : zq_mt[139]? = some zq_m139 := rfl
theorem zq_t140 : zq_mt[140]? = some zq_m140 := rfl
theorem zq_t141 : zq_mt[141]? = some zq_m141 := rfl
theorem zq_t142 : zq_mt[142]? = some zq_m142 := rfl
theorem zq_t143 : zq_mt[143]? = some zq_m143 := rfl
theorem zq_t144 : zq_mt[144]? = some zq_m144 := rfl
theorem zq_t145 : zq_mt[145]? = some zq_m145 := rfl
theorem zq_t146 : zq_mt[146]? = some zq_m146 := rfl
theorem zq_t147 : zq_mt[147]? = some zq_m147 := rfl
theorem zq_t148 : zq_mt[148]? = some zq_m148 := rfl
theorem zq_t149 : zq_mt[149]? = some zq_m149 := rfl
theorem zq_t150 : zq_mt[150]? = some zq_m150 := rfl
theorem zq_t151 : zq_mt[151]? = some zq_m151 := rfl
theorem zq_t152 : zq_mt[152]? = some zq_m152 := rfl
theorem zq_t153 : zq_mt[153]? = some zq_m153 := rfl
theorem zq_t154 : zq_mt[154]? = some zq_m154 := rfl
theorem zq_t155 : zq_mt[155]? = some zq_m155 := rfl
theorem zq_t156 : zq_mt[156]? = some zq_m156 := rfl
theorem zq_t157 : zq_mt[157]? = some zq_m157 := rfl
theorem zq_t158 : zq_mt[158]? = some zq_m158 := rfl
theorem zq_t159 : zq_mt[159]? = some zq_m159 := rfl
theorem zq_t160 : zq_mt[160]? = some zq_m160 := rfl
theorem zq_t161 : zq_mt[161]? = some zq_m161 := rfl
theorem zq_t162 : zq_mt[162]? = some zq_m162 := rfl
theorem zq_t163 : zq_mt[163]? = some zq_m163 := rfl
theorem zq_t164 : zq_mt[164]? = some zq_m164 := rfl
theorem zq_t165 : zq_mt[165]? = some zq_m165 := rfl
theorem zq_t166 : zq_mt[166]? = some zq_m166 := rfl
theorem zq_t167 : zq_mt[167]? = some zq_m167 := rfl
theorem zq_t168 : zq_mt[168]? = some zq_m168 := rfl
theorem zq_t169 : zq_mt[169]? = some zq_m169 := rfl
theorem zq_t170 : zq_mt[170]? = some zq_m170 := rfl
theorem zq_t171 : zq_mt[171]? = some zq_m171 := rfl
theorem zq_t172 : zq_mt[172]? = some zq_m172 := rfl
theorem zq_t173 : zq_mt[173]? = some zq_m173 := rfl
theorem zq_t174 : zq_mt[174]? = some zq_m174 := rfl
theorem zq_t175 : zq_mt[175]? = some zq_m175 := rfl
theorem zq_t176 : zq_mt[176]? = some zq_m176 := rfl
theorem zq_t177 : zq_mt[177]? = some zq_m177 := rfl
theorem zq_t178 : zq_mt[178]? = some zq_m178 := rfl
theorem zq_t179 : zq_mt[179]? = some zq_m179 := rfl
theorem zq_t180 : zq_mt[180]? = some zq_m180 := rfl
theorem zq_t181 : zq_mt[181]? = some zq_m181 := rfl
theorem zq_t182 : zq_mt[182]? = some zq_m182 := rfl
theorem zq_t183 : zq_mt[183]? = some zq_m183 := rfl
theorem zq_t184 : zq_mt[184]? = some zq_m184 := rfl
theorem zq_t185 : zq_mt[185]? = some zq_m185 := rfl
theorem zq_t186 : zq_mt[186]? = some zq_m186 := rfl
theorem zq_t187 : zq_mt[187]? = some zq_m187 := rfl
theorem zq_t188 : zq_mt[188]? = some zq_m188 := rfl
theorem zq_t189 : zq_mt[189]? = some zq_m189 := rfl
theorem zq_t190 : zq_mt[190]? = some zq_m190 := rfl
theorem zq_t191 : zq_mt[191]? = some zq_m191 := rfl
theorem zq_t192 : zq_mt[192]? = some zq_m192 := rfl
theorem zq_t193 : zq_mt[193]? = some zq_m193 := rfl
theorem zq_t194 : zq_mt[194]? = some zq_m194 := rfl
theorem zq_t195 : zq_mt[195]? = some zq_m195 := rfl
theorem zq_t196 : zq_mt[196]? = some zq_m196 := rfl
theorem zq_t197 : zq_mt[197]? = some zq_m197 := rfl
theorem zq_t198 : zq_mt[198]? = some zq_m198 := rfl
theorem zq_t199 : zq_mt[199]? = some zq_m199 := rfl
theorem zq_t200 : zq_mt[200]? = some zq_m200 := rfl
theorem zq_t201 : zq_mt[201]? = some zq_m201 := rfl
theorem zq_t202 : zq_mt[202]? = some zq_m202 := rfl
theorem zq_t203 : zq_mt[203]? = some zq_m203 := rfl
theorem zq_t204 : zq_mt[204]? = some zq_m204 := rfl
theorem zq_t205 : zq_mt[205]? = some zq_m205 := rfl
theorem zq_t206 : zq_mt[206]? = some zq_m206 := rfl
theorem zq_t207 : zq_mt[207]? = some zq_m207 := rfl
theorem zq_t208 : zq_mt[208]? = some zq_m208 := rfl
theorem zq_t209 : zq_mt[209]? = some zq_m209 := rfl
theorem zq_t210 : zq_mt[210]? = some zq_m210 := rfl
theorem zq_t211 : zq_mt[211]? = some zq_m211 := rfl
theorem zq_t212 : zq_mt[212]? = some zq_m212 := rfl
theorem zq_t213 : zq_mt[213]? = some zq_m213 := rfl
theorem zq_t214 : zq_mt[214]? = some zq_m214 := rfl
theorem zq_t215 : zq_mt[215]? = some zq_m215 := rfl
theorem zq_t216 : zq_mt[216]? = some zq_m216 := rfl
theorem zq_t217 : zq_mt[217]? = some zq_m217 := rfl
theorem zq_t218 : zq_mt[218]? = some zq_m218 := rfl
theorem zq_t219 : zq_mt[219]? = some zq_m219 := rfl
theorem zq_t220 : zq_mt[220]? = some zq_m220 := rfl
theorem zq_t221 : zq_mt[221]? = some zq_m221 := rfl
theorem zq_t222 : zq_mt[222]? = some zq_m222 := rfl
theorem zq_t223 : zq_mt[223]? = some zq_m223 := rfl
theorem zq_t224 : zq_mt[224]? = some zq_m224 := rfl
theorem zq_t225 : zq_mt[225]? = some zq_m225 := rfl
theorem zq_t226 : zq_mt[226]? = some zq_m226 := rfl
theorem zq_t227 : zq_mt[227]? = some zq_m227 := rfl
theorem zq_t228 : zq_mt[228]? = some zq_m228 := rfl
theorem zq_t229 : zq_mt[229]? = some zq_m229 := rfl
theorem zq_t230 : zq_mt[230]? = some zq_m230 := rfl
end
section
/-! numbers -/
theorem n_rng (x : Int32) : -2147483648 ≤ x.toInt ∧ x.toInt < 2147483648 := by
  have h1 := Int32.le_toInt x
  have h2 := Int32.toInt_lt x
  omega
theorem n_lt (a b : Int32) : a < b ↔ a.toInt < b.toInt := Int32.lt_iff_toInt_lt
theorem n_le (a b : Int32) : a ≤ b ↔ a.toInt ≤ b.toInt := Int32.le_iff_toInt_le
theorem n_eq (a b : Int32) : a = b ↔ a.toInt = b.toInt := Int32.toInt_inj.symm
/-- the number that an int keeps of a whole number -/
def zw (z : Int) : Int := (z + 2147483648) % 4294967296 - 2147483648
theorem zw_id {z : Int} (h1 : -2147483648 ≤ z) (h2 : z < 2147483648) : zw z = z := by unfold zw; omega
theorem n_bm (z : Int) : z.bmod (2 ^ 32) = zw z := by
  rw [show ((2 : Nat) ^ 32) = 4294967296 from rfl, Int.bmod_def]
  unfold zw
  split <;> omega
theorem n_add (a b : Int32) : (a + b).toInt = zw (a.toInt + b.toInt) := by rw [Int32.toInt_add, n_bm]
theorem n_sub (a b : Int32) : (a - b).toInt = zw (a.toInt - b.toInt) := by rw [Int32.toInt_sub, n_bm]
theorem n_mul (a b : Int32) : (a * b).toInt = zw (a.toInt * b.toInt) := by rw [Int32.toInt_mul, n_bm]
theorem n_neg (a : Int32) : (-a).toInt = zw (-a.toInt) := by rw [Int32.toInt_neg, n_bm]
theorem n_nI {n : Nat} (h : n < 2147483648) : (nI n).toInt = (n : Int) := nI_toInt h
theorem n_lit : (0 : Int32).toInt = 0 ∧ (1 : Int32).toInt = 1 ∧ (2 : Int32).toInt = 2 ∧ (3 : Int32).toInt = 3 ∧ (4 : Int32).toInt = 4 ∧ (5 : Int32).toInt = 5 ∧ (6 : Int32).toInt = 6 ∧ (7 : Int32).toInt = 7 ∧ (8 : Int32).toInt = 8 ∧ (9 : Int32).toInt = 9 ∧ (10 : Int32).toInt = 10 ∧ (11 : Int32).toInt = 11 ∧ (12 : Int32).toInt = 12 ∧ (13 : Int32).toInt = 13 ∧ (14 : Int32).toInt = 14 ∧ (15 : Int32).toInt = 15 ∧ (16 : Int32).toInt = 16 ∧ (17 : Int32).toInt = 17 ∧ (18 : Int32).toInt = 18 ∧ (19 : Int32).toInt = 19 ∧ (20 : Int32).toInt = 20 ∧ (24 : Int32).toInt = 24 ∧ (31 : Int32).toInt = 31 ∧ (32 : Int32).toInt = 32 ∧ (39 : Int32).toInt = 39 ∧ (40 : Int32).toInt = 40 ∧ (48 : Int32).toInt = 48 ∧ (57 : Int32).toInt = 57 ∧ (59 : Int32).toInt = 59 ∧ (60 : Int32).toInt = 60 ∧ (61 : Int32).toInt = 61 ∧ (63 : Int32).toInt = 63 ∧ (64 : Int32).toInt = 64 ∧ (97 : Int32).toInt = 97 ∧ (98 : Int32).toInt = 98 ∧ (99 : Int32).toInt = 99 ∧ (100 : Int32).toInt = 100 ∧ (122 : Int32).toInt = 122 ∧ (130 : Int32).toInt = 130 ∧ (159 : Int32).toInt = 159 ∧ (160 : Int32).toInt = 160 ∧ (161 : Int32).toInt = 161 ∧ (255 : Int32).toInt = 255 ∧ (480 : Int32).toInt = 480 ∧ (498 : Int32).toInt = 498 ∧ (999 : Int32).toInt = 999 ∧ (1000 : Int32).toInt = 1000 ∧ (1156 : Int32).toInt = 1156 ∧ (1476 : Int32).toInt = 1476 ∧ (2880 : Int32).toInt = 2880 ∧ (4095 : Int32).toInt = 4095 ∧ (4096 : Int32).toInt = 4096 ∧ (5959 : Int32).toInt = 5959 ∧ (9317 : Int32).toInt = 9317 ∧ (9999 : Int32).toInt = 9999 ∧ (10000 : Int32).toInt = 10000 ∧ (14836 : Int32).toInt = 14836 ∧ (23732 : Int32).toInt = 23732 ∧ (99724 : Int32).toInt = 99724 ∧ (99999 : Int32).toInt = 99999 ∧ (763332 : Int32).toInt = 763332 ∧ (14982420 : Int32).toInt = 14982420 ∧ (24627848 : Int32).toInt = 24627848 ∧ (492210354 : Int32).toInt = 492210354 ∧ (777297172 : Int32).toInt = 777297172 := ⟨rfl, rfl, rfl, rfl, rfl, rfl, rfl, rfl, rfl, rfl, rfl, rfl, rfl, rfl, rfl, rfl, rfl, rfl, rfl, rfl, rfl, rfl, rfl, rfl, rfl, rfl, rfl, rfl, rfl, rfl, rfl, rfl, rfl, rfl, rfl, rfl, rfl, rfl, rfl, rfl, rfl, rfl, rfl, rfl, rfl, rfl, rfl, rfl, rfl, rfl, rfl, rfl, rfl, rfl, rfl, rfl, rfl, rfl, rfl, rfl, rfl, rfl, rfl, rfl, rfl⟩
theorem n_0 : (0 : Int32).toInt = 0 := by decide
theorem n_1 : (1 : Int32).toInt = 1 := by decide
theorem n_cl (x : Int32) : x.toNatClampNeg = x.toInt.toNat := rfl
theorem n_div {x : Int32} (d : Nat) (h0 : 0 < d) (hd : d < 2147483648) (hx : 0 ≤ x.toInt) : (x / nI d).toInt = x.toInt / d := by
  rw [lg_idiv_nonneg hx (by rw [n_nI hd]; omega), n_nI hd]
theorem n_rem {x : Int32} (d : Nat) (h0 : 0 < d) (hd : d < 2147483648) (hx : 0 ≤ x.toInt) : (x - x / nI d * nI d).toInt = x.toInt % d := by
  have h := n_rng x
  have e := n_div d h0 hd hx
  have e1 : x.toInt / (d : Int) * d ≤ x.toInt := Int.ediv_mul_le _ (by omega)
  have e2 : 0 ≤ x.toInt / (d : Int) := Int.ediv_nonneg hx (by omega)
  have e3 : 0 ≤ x.toInt / (d : Int) * d := Int.mul_nonneg e2 (by omega)
  have e4 : x.toInt % (d : Int) = x.toInt - x.toInt / d * d := by rw [Int.emod_def, Int.mul_comm]
  rw [n_sub, n_mul, e, n_nI hd, zw_id (z := x.toInt / (d : Int) * d) (by omega) (by omega), zw_id (by omega) (by omega), e4]
theorem n_in {x : Int32} {n : Nat} (h1 : 0 ≤ x.toInt) (h2 : x.toInt < n) : vp_in x n := vp_in_iff.mpr ⟨h1, h2⟩
theorem n_inI {i n : Nat} (h : i < n) (hn : n < 2147483648) : vp_in (nI i) n := vp_in_nI h hn
theorem n_clI {n : Nat} (h : n < 2147483648) : (nI n).toNatClampNeg = n := nI_clamp h
theorem n_of {x : Int32} (h : 0 ≤ x.toInt) : x = nI x.toInt.toNat := by
  have h2 := n_rng x
  rw [n_eq, n_nI (by omega)]
  omega
theorem mx_mono {g : zq_G} {d k pc : Nat} {ls st : List Value} {M : zq_M} {Q Q' : Option Value → zq_M → Prop} (h : mx g d k pc ls st M Q) (hq : ∀ r M', Q r M' → Q' r M') : mx g d k pc ls st M Q' :=
  zq_g.mono (fun r h' q => by obtain ⟨x', e, q⟩ := q; exact ⟨x', e, hq r x' q⟩) h
theorem mx_q {g : zq_G} {d k pc : Nat} {ls st : List Value} {M : zq_M} {Q : Option Value → zq_M → Prop} (h : ∀ Q' : Option Value → zq_M → Prop, (∀ r M', Q r M' → Q' r M') → mx g d k pc ls st M Q') : mx g d k pc ls st M Q := h Q (fun _ _ q => q)
theorem upd_all {P : Int32 → Prop} {f : Nat → Int32} {k : Nat} {v : Int32} (hf : ∀ i, P (f i)) (hv : P v) : ∀ i, P (upd f k v i) := by
  intro i
  unfold upd
  split
  · exact hv
  · exact hf i
/-! the class's memory and the reference's -/
def gS (n n' : Int32) (w w' p p' : Nat → Int32) : Prop := n' = n ∧ w' = w ∧ p' = p ∧ 0 ≤ n.toInt ∧ n.toInt ≤ 10 ∧ (∀ i, 0 ≤ (w i).toInt ∧ (w i).toInt ≤ 99) ∧ (∀ i, 0 ≤ (p i).toInt ∧ (p i).toInt ≤ 4095) ∧ ∀ i : Nat, (i : Int) < n.toInt → 1 ≤ (w i).toInt
def gN (n n' : Int32) (a a' b b' c c' e e' : Nat → Int32) : Prop := n' = n ∧ a' = a ∧ b' = b ∧ c' = c ∧ e' = e ∧ 0 ≤ n.toInt ∧ n.toInt ≤ 60 ∧ (∀ i, 0 ≤ (a i).toInt ∧ (a i).toInt ≤ 9) ∧ (∀ i, 0 ≤ (b i).toInt ∧ (b i).toInt ≤ 9) ∧ (∀ i, 0 ≤ (c i).toInt ∧ (c i).toInt ≤ 99) ∧ ∀ i, 0 ≤ (e i).toInt ∧ (e i).toInt ≤ 3
def gH (n n' : Int32) (k k' u u' : Nat → Int32) : Prop := n' = n ∧ k' = k ∧ u' = u ∧ 0 ≤ n.toInt ∧ n.toInt ≤ 8 ∧ (∀ i, 0 ≤ (k i).toInt ∧ (k i).toInt ≤ 5) ∧ ∀ i, 0 ≤ (u i).toInt ∧ (u i).toInt ≤ 20
/-- tracks and crosses; s: how many stones -/
def gT (s n n' c c' : Int32) (a a' l l' t t' o o' u u' : Nat → Int32) : Prop := n' = n ∧ c' = c ∧ a' = a ∧ l' = l ∧ t' = t ∧ o' = o ∧ u' = u ∧ 0 ≤ n.toInt ∧ n.toInt ≤ 24 ∧ 0 ≤ c.toInt ∧ c.toInt ≤ 20 ∧ (∀ i : Nat, (i : Int) < n.toInt → 0 ≤ (a i).toInt ∧ (a i).toInt < s.toInt) ∧ (∀ i, 0 ≤ (l i).toInt ∧ (l i).toInt ≤ 999) ∧ (∀ i, 0 ≤ (t i).toInt ∧ (t i).toInt ≤ 99) ∧ (∀ i, 0 ≤ (o i).toInt ∧ (o i).toInt ≤ 23) ∧ ∀ i, 0 ≤ (u i).toInt ∧ (u i).toInt ≤ 23
def gP (n n' : Int32) (x y p : Nat → Int32) : Prop := n' = n ∧ (∀ i, x i = p i - p i / 64 * 64) ∧ (∀ i, y i = p i / 64) ∧ 0 ≤ n.toInt ∧ n.toInt ≤ 8 ∧ ∀ i, 0 ≤ (p i).toInt ∧ (p i).toInt ≤ 4095
/-- the image: is there one, stones, places, rule, tracks, crosses, pegs; then the numbers now -/
def gI (i i' s s' r r' t t' c c' p p' : Int32) (k k' : Nat → Int32) (ns nx nt nc np : Int32) : Prop := i' = i ∧ s' = s ∧ r' = r ∧ t' = t ∧ c' = c ∧ p' = p ∧ k' = k ∧ zq_b i ∧ 0 ≤ s.toInt ∧ s.toInt ≤ ns.toInt ∧ 0 ≤ r.toInt ∧ r.toInt < nx.toInt ∧ 0 ≤ t.toInt ∧ t.toInt ≤ nt.toInt ∧ 0 ≤ c.toInt ∧ c.toInt ≤ nc.toInt ∧ 0 ≤ p.toInt ∧ p.toInt ≤ np.toInt ∧ ∀ j, 0 ≤ (k j).toInt ∧ (k j).toInt ≤ 4095
/-- sheets: sorts, sizes, cells -/
def gE (so so' si si' ce it : Nat → Int32) : Prop := so' = so ∧ si' = si ∧ (∀ s, s < 4 → -1 ≤ (so s).toInt ∧ (so s).toInt ≤ 2) ∧ (∀ s, s < 4 → 0 ≤ (si s).toInt ∧ (si s).toInt ≤ 40) ∧ ∀ s i : Nat, s < 4 → (i : Int) < (si s).toInt → ce (40 * s + i) = it (40 * s + i)
def gF (n n' : Int32) (t t' : Nat → Int32) : Prop := n' = n ∧ t' = t ∧ 0 ≤ n.toInt ∧ n.toInt ≤ 160 ∧ ∀ i, 0 ≤ (t i).toInt ∧ (t i).toInt ≤ 255
/-- a step of a text as the reference keeps it -/
def stp (sg te : Int32) (s : Int) : Prop := (sg.toInt = 0 ∧ te.toInt = s ∧ 0 ≤ s) ∨ (sg.toInt = 1 ∧ te.toInt = -1 - s ∧ -6 ≤ s ∧ s ≤ -1) ∨ (2 ≤ sg.toInt ∧ sg.toInt ≤ 10 ∧ s = -5 - sg.toInt)
/-- every step finds what it needs on a stack of at most 40; one value is left -/
def pok : Nat → List Int → Bool
  | d, [] => d == 1
  | d, s :: r => if -6 ≤ s then decide (d < 40) && pok (d + 1) r else if s = -9 ∨ s = -15 then decide (1 ≤ d) && pok d r else decide (2 ≤ d) && pok (d - 1) r
/-- part p of text t is the list l of steps, and begins at place f of the class's code -/
def prt (co en sg te ma : Nat → Int32) (t p f : Nat) (l : List Int) : Prop := (p = 0 → f = 0) ∧ (0 < p → (en (3 * t + p - 1)).toInt = f) ∧ (en (3 * t + p)).toInt = f + l.length ∧ f + l.length ≤ 160 ∧ (∀ (j : Nat) (s : Int), l[j]? = some s → (co (160 * t + f + j)).toInt = s ∧ stp (sg (480 * t + 160 * p + j)) (te (480 * t + 160 * p + j)) s) ∧ (ma (3 * t + p)).toInt = l.length ∧ pok 0 l = true
def gX (n n' r r' : Int32) (co en sg te ma : Nat → Int32) : Prop := n' = n ∧ r' = r ∧ 1 ≤ n.toInt ∧ n.toInt ≤ 6 ∧ 0 ≤ r.toInt ∧ r.toInt < n.toInt ∧ ∀ t p : Nat, (t : Int) < n.toInt → p < 3 → ∃ (f : Nat) (l : List Int), prt co en sg te ma t p f l
def RR (M : zq_M) : Prop :=
  gS (M 1 3) (M 48 0) (M 2) (M 49) (M 3) (M 50) ∧
  gN (M 5 4) (M 48 1) (M 6) (M 51) (M 7) (M 52) (M 8) (M 53) (M 9) (M 54) ∧
  gH (M 10 2) (M 48 2) (M 11) (M 55) (M 12) (M 56) ∧
  gT (M 1 3) (M 30 7) (M 48 32) (M 30 8) (M 48 39) (M 31) (M 67) (M 32) (M 68) (M 33) (M 69) (M 34) (M 72) (M 35) (M 73) ∧
  gP (M 38 2) (M 48 37) (M 39) (M 40) (M 71) ∧
  gI (M 0 11) (M 48 42) (M 1 4) (M 48 43) (M 13 6) (M 48 44) (M 30 9) (M 48 45) (M 30 10) (M 48 46) (M 38 3) (M 48 47) (M 4) (M 74) (M 1 3) (M 13 4) (M 30 7) (M 30 8) (M 38 2) ∧
  gE (M 46) (M 75) (M 47) (M 76) (M 45) (M 77) ∧
  gF (M 18 5) (M 48 13) (M 21) (M 57) ∧
  gX (M 13 4) (M 48 11) (M 13 5) (M 48 12) (M 14) (M 15) (M 58) (M 59) (M 60) ∧
  M 48 27 = -1
/-- a call of the class, and the same call of the reference behind it: one answer, and the memories agree again -/
def pri (g : zq_G) (d kx km : Nat) (ax am : List Value) (M : zq_M) : Prop := mx g d kx 0 ax [] M (fun r M1 => ∃ v : Int32, r = some (.int v) ∧ mx g d km 0 am [] M1 (fun r2 M2 => r2 = some (.int v) ∧ RR M2))
def prl (g : zq_G) (d kx km : Nat) (ax am : List Value) (M : zq_M) : Prop := mx g d kx 0 ax [] M (fun r M1 => ∃ v : Int64, r = some (.long v) ∧ mx g d km 0 am [] M1 (fun r2 M2 => r2 = some (.long v) ∧ RR M2))
end
section
theorem c_X7_has {g : zq_G} {d : Nat} {M : zq_M} {Q : Option Value → zq_M → Prop} {v n : Int32} (hn : M 1 3 = n) (h1 : 0 ≤ v.toInt → v.toInt < n.toInt → Q (some (.int 1)) M) (h0 : v.toInt < 0 ∨ n.toInt ≤ v.toInt → Q (some (.int 0)) M) : mx g d kX7_has 0 [.ref 1, .int v] [] M Q := by
  refine mx_go 40 zq_t58 ?_
  show ((v : Int32) < 0 → zq_b 0 ∧ Q (some (.int 0)) M) ∧ (¬ (v : Int32) < 0 → (((M 1 3) : Int32) ≤ (v : Int32) → zq_b 0 ∧ Q (some (.int 0)) M) ∧ (¬ ((M 1 3) : Int32) ≤ (v : Int32) → zq_b 1 ∧ Q (some (.int 1)) M))
  simp only [n_lt, n_le, n_0, hn]
  exact ⟨fun q => ⟨Or.inl rfl, h0 (Or.inl q)⟩, fun q => ⟨fun r => ⟨Or.inl rfl, h0 (Or.inr r)⟩, fun r => ⟨Or.inr rfl, h1 (by omega) (by omega)⟩⟩⟩
theorem c_X2_has {g : zq_G} {d : Nat} {M : zq_M} {Q : Option Value → zq_M → Prop} {v n : Int32} (hn : M 5 4 = n) (h1 : 0 ≤ v.toInt → v.toInt < n.toInt → Q (some (.int 1)) M) (h0 : v.toInt < 0 ∨ n.toInt ≤ v.toInt → Q (some (.int 0)) M) : mx g d kX2_has 0 [.ref 5, .int v] [] M Q := by
  refine mx_go 40 zq_t11 ?_
  show ((v : Int32) < 0 → zq_b 0 ∧ Q (some (.int 0)) M) ∧ (¬ (v : Int32) < 0 → (((M 5 4) : Int32) ≤ (v : Int32) → zq_b 0 ∧ Q (some (.int 0)) M) ∧ (¬ ((M 5 4) : Int32) ≤ (v : Int32) → zq_b 1 ∧ Q (some (.int 1)) M))
  simp only [n_lt, n_le, n_0, hn]
  exact ⟨fun q => ⟨Or.inl rfl, h0 (Or.inl q)⟩, fun q => ⟨fun r => ⟨Or.inl rfl, h0 (Or.inr r)⟩, fun r => ⟨Or.inr rfl, h1 (by omega) (by omega)⟩⟩⟩
theorem c_X0_has {g : zq_G} {d : Nat} {M : zq_M} {Q : Option Value → zq_M → Prop} {v n : Int32} (hn : M 10 2 = n) (h1 : 0 ≤ v.toInt → v.toInt < n.toInt → Q (some (.int 1)) M) (h0 : v.toInt < 0 ∨ n.toInt ≤ v.toInt → Q (some (.int 0)) M) : mx g d kX0_has 0 [.ref 10, .int v] [] M Q := by
  refine mx_go 40 zq_t1 ?_
  show ((v : Int32) < 0 → zq_b 0 ∧ Q (some (.int 0)) M) ∧ (¬ (v : Int32) < 0 → (((M 10 2) : Int32) ≤ (v : Int32) → zq_b 0 ∧ Q (some (.int 0)) M) ∧ (¬ ((M 10 2) : Int32) ≤ (v : Int32) → zq_b 1 ∧ Q (some (.int 1)) M))
  simp only [n_lt, n_le, n_0, hn]
  exact ⟨fun q => ⟨Or.inl rfl, h0 (Or.inl q)⟩, fun q => ⟨fun r => ⟨Or.inl rfl, h0 (Or.inr r)⟩, fun r => ⟨Or.inr rfl, h1 (by omega) (by omega)⟩⟩⟩
theorem c_X9_has {g : zq_G} {d : Nat} {M : zq_M} {Q : Option Value → zq_M → Prop} {v n : Int32} (hn : M 30 7 = n) (h1 : 0 ≤ v.toInt → v.toInt < n.toInt → Q (some (.int 1)) M) (h0 : v.toInt < 0 ∨ n.toInt ≤ v.toInt → Q (some (.int 0)) M) : mx g d kX9_has 0 [.ref 30, .int v] [] M Q := by
  refine mx_go 40 zq_t74 ?_
  show ((v : Int32) < 0 → zq_b 0 ∧ Q (some (.int 0)) M) ∧ (¬ (v : Int32) < 0 → (((M 30 7) : Int32) ≤ (v : Int32) → zq_b 0 ∧ Q (some (.int 0)) M) ∧ (¬ ((M 30 7) : Int32) ≤ (v : Int32) → zq_b 1 ∧ Q (some (.int 1)) M))
  simp only [n_lt, n_le, n_0, hn]
  exact ⟨fun q => ⟨Or.inl rfl, h0 (Or.inl q)⟩, fun q => ⟨fun r => ⟨Or.inl rfl, h0 (Or.inr r)⟩, fun r => ⟨Or.inr rfl, h1 (by omega) (by omega)⟩⟩⟩
theorem c_X11_isPlace {g : zq_G} {d : Nat} {M : zq_M} {Q : Option Value → zq_M → Prop} {v : Int32} (h1 : 0 ≤ v.toInt → v.toInt ≤ 4095 → Q (some (.int 1)) M) (h0 : v.toInt < 0 ∨ 4095 < v.toInt → Q (some (.int 0)) M) : mx g d kX11_isPlace 0 [.int v] [] M Q := by
  refine mx_go 40 zq_t127 ?_
  show ((v : Int32) < 0 → zq_b 0 ∧ Q (some (.int 0)) M) ∧ (¬ (v : Int32) < 0 → ((4096 : Int32) ≤ (v : Int32) → zq_b 0 ∧ Q (some (.int 0)) M) ∧ (¬ (4096 : Int32) ≤ (v : Int32) → zq_b 1 ∧ Q (some (.int 1)) M))
  have e : (4096 : Int32).toInt = 4096 := by decide
  simp only [n_lt, n_le, n_0, e]
  exact ⟨fun q => ⟨Or.inl rfl, h0 (by omega)⟩, fun q => ⟨fun r => ⟨Or.inl rfl, h0 (by omega)⟩, fun r => ⟨Or.inr rfl, h1 (by omega) (by omega)⟩⟩⟩
theorem c_X11_isKind {g : zq_G} {d : Nat} {M : zq_M} {Q : Option Value → zq_M → Prop} {v : Int32} (h1 : 0 ≤ v.toInt → v.toInt ≤ 5 → Q (some (.int 1)) M) (h0 : v.toInt < 0 ∨ 5 < v.toInt → Q (some (.int 0)) M) : mx g d kX11_isKind 0 [.int v] [] M Q := by
  refine mx_go 40 zq_t128 ?_
  show ((v : Int32) < 0 → zq_b 0 ∧ Q (some (.int 0)) M) ∧ (¬ (v : Int32) < 0 → ((5 : Int32) < (v : Int32) → zq_b 0 ∧ Q (some (.int 0)) M) ∧ (¬ (5 : Int32) < (v : Int32) → zq_b 1 ∧ Q (some (.int 1)) M))
  have e : (5 : Int32).toInt = 5 := by decide
  simp only [n_lt, n_le, n_0, e]
  exact ⟨fun q => ⟨Or.inl rfl, h0 (by omega)⟩, fun q => ⟨fun r => ⟨Or.inl rfl, h0 (by omega)⟩, fun r => ⟨Or.inr rfl, h1 (by omega) (by omega)⟩⟩⟩
theorem c_X11_isOff {g : zq_G} {d : Nat} {M : zq_M} {Q : Option Value → zq_M → Prop} {v : Int32} (h1 : 0 ≤ v.toInt → v.toInt ≤ 99 → Q (some (.int 1)) M) (h0 : v.toInt < 0 ∨ 99 < v.toInt → Q (some (.int 0)) M) : mx g d kX11_isOff 0 [.int v] [] M Q := by
  refine mx_go 40 zq_t129 ?_
  show ((v : Int32) < 0 → zq_b 0 ∧ Q (some (.int 0)) M) ∧ (¬ (v : Int32) < 0 → ((99 : Int32) < (v : Int32) → zq_b 0 ∧ Q (some (.int 0)) M) ∧ (¬ (99 : Int32) < (v : Int32) → zq_b 1 ∧ Q (some (.int 1)) M))
  have e : (99 : Int32).toInt = 99 := by decide
  simp only [n_lt, n_le, n_0, e]
  exact ⟨fun q => ⟨Or.inl rfl, h0 (by omega)⟩, fun q => ⟨fun r => ⟨Or.inl rfl, h0 (by omega)⟩, fun r => ⟨Or.inr rfl, h1 (by omega) (by omega)⟩⟩⟩
theorem c_X11_isFar {g : zq_G} {d : Nat} {M : zq_M} {Q : Option Value → zq_M → Prop} {v : Int32} (h1 : 0 ≤ v.toInt → v.toInt ≤ 63 → Q (some (.int 1)) M) (h0 : v.toInt < 0 ∨ 63 < v.toInt → Q (some (.int 0)) M) : mx g d kX11_isFar 0 [.int v] [] M Q := by
  refine mx_go 40 zq_t130 ?_
  show ((v : Int32) < 0 → zq_b 0 ∧ Q (some (.int 0)) M) ∧ (¬ (v : Int32) < 0 → ((63 : Int32) < (v : Int32) → zq_b 0 ∧ Q (some (.int 0)) M) ∧ (¬ (63 : Int32) < (v : Int32) → zq_b 1 ∧ Q (some (.int 1)) M))
  have e : (63 : Int32).toInt = 63 := by decide
  simp only [n_lt, n_le, n_0, e]
  exact ⟨fun q => ⟨Or.inl rfl, h0 (by omega)⟩, fun q => ⟨fun r => ⟨Or.inl rfl, h0 (by omega)⟩, fun r => ⟨Or.inr rfl, h1 (by omega) (by omega)⟩⟩⟩
theorem c_X11_isSheet {g : zq_G} {d : Nat} {M : zq_M} {Q : Option Value → zq_M → Prop} {v : Int32} (h1 : 0 ≤ v.toInt → v.toInt ≤ 3 → Q (some (.int 1)) M) (h0 : v.toInt < 0 ∨ 3 < v.toInt → Q (some (.int 0)) M) : mx g d kX11_isSheet 0 [.int v] [] M Q := by
  refine mx_go 40 zq_t131 ?_
  show ((v : Int32) < 0 → zq_b 0 ∧ Q (some (.int 0)) M) ∧ (¬ (v : Int32) < 0 → ((4 : Int32) ≤ (v : Int32) → zq_b 0 ∧ Q (some (.int 0)) M) ∧ (¬ (4 : Int32) ≤ (v : Int32) → zq_b 1 ∧ Q (some (.int 1)) M))
  have e : (4 : Int32).toInt = 4 := by decide
  simp only [n_lt, n_le, n_0, e]
  exact ⟨fun q => ⟨Or.inl rfl, h0 (by omega)⟩, fun q => ⟨fun r => ⟨Or.inl rfl, h0 (by omega)⟩, fun r => ⟨Or.inr rfl, h1 (by omega) (by omega)⟩⟩⟩
theorem c_X11_isSort {g : zq_G} {d : Nat} {M : zq_M} {Q : Option Value → zq_M → Prop} {v : Int32} (h1 : 0 ≤ v.toInt → v.toInt ≤ 2 → Q (some (.int 1)) M) (h0 : v.toInt < 0 ∨ 2 < v.toInt → Q (some (.int 0)) M) : mx g d kX11_isSort 0 [.int v] [] M Q := by
  refine mx_go 40 zq_t132 ?_
  show ((v : Int32) < 0 → zq_b 0 ∧ Q (some (.int 0)) M) ∧ (¬ (v : Int32) < 0 → ((2 : Int32) < (v : Int32) → zq_b 0 ∧ Q (some (.int 0)) M) ∧ (¬ (2 : Int32) < (v : Int32) → zq_b 1 ∧ Q (some (.int 1)) M))
  have e : (2 : Int32).toInt = 2 := by decide
  simp only [n_lt, n_le, n_0, e]
  exact ⟨fun q => ⟨Or.inl rfl, h0 (by omega)⟩, fun q => ⟨fun r => ⟨Or.inl rfl, h0 (by omega)⟩, fun r => ⟨Or.inr rfl, h1 (by omega) (by omega)⟩⟩⟩
theorem c_X12_in {g : zq_G} {d : Nat} {M : zq_M} {Q : Option Value → zq_M → Prop} {v lo hi : Int32} (h1 : lo.toInt ≤ v.toInt → v.toInt ≤ hi.toInt → Q (some (.int 1)) M) (h0 : v.toInt < lo.toInt ∨ hi.toInt < v.toInt → Q (some (.int 0)) M) : mx g d kX12_in 0 [.ref 48, .int v, .int lo, .int hi] [] M Q := by
  refine mx_go 40 zq_t139 ?_
  show ((v : Int32) < (lo : Int32) → zq_b 0 ∧ Q (some (.int 0)) M) ∧ (¬ (v : Int32) < (lo : Int32) → ((hi : Int32) < (v : Int32) → zq_b 0 ∧ Q (some (.int 0)) M) ∧ (¬ (hi : Int32) < (v : Int32) → zq_b 1 ∧ Q (some (.int 1)) M))
  simp only [n_lt, n_le, n_0]
  exact ⟨fun q => ⟨Or.inl rfl, h0 (Or.inl q)⟩, fun q => ⟨fun r => ⟨Or.inl rfl, h0 (Or.inr r)⟩, fun r => ⟨Or.inr rfl, h1 (by omega) (by omega)⟩⟩⟩
theorem c_X12_isStone {g : zq_G} {d : Nat} {M : zq_M} {Q : Option Value → zq_M → Prop} {v n : Int32} (hn : M 48 0 = n) (hb : 0 ≤ n.toInt) (h1 : 0 ≤ v.toInt → v.toInt < n.toInt → Q (some (.int 1)) M) (h0 : v.toInt < 0 ∨ n.toInt ≤ v.toInt → Q (some (.int 0)) M) : mx g (d + 1) kX12_isStone 0 [.ref 48, .int v] [] M Q := by
  refine mx_go 40 zq_t140 ?_
  show mx g (d) kX12_in 0 [.ref 48, .int (v), .int (0), .int (((M 48 0) - 1))] [] M _
  rw [hn]
  have hr := n_rng n
  have e : (n - 1).toInt = n.toInt - 1 := by rw [n_sub, n_1, zw_id (by omega) (by omega)]
  refine c_X12_in (fun q r => ?_) (fun q => ?_)
  · rw [e] at r
    exact ⟨Or.inr rfl, h1 (by rw [n_0] at q; exact q) (by omega)⟩
  · rw [e, n_0] at q
    exact ⟨Or.inl rfl, h0 (by omega)⟩
theorem c_X12_isNight {g : zq_G} {d : Nat} {M : zq_M} {Q : Option Value → zq_M → Prop} {v n : Int32} (hn : M 48 1 = n) (hb : 0 ≤ n.toInt) (h1 : 0 ≤ v.toInt → v.toInt < n.toInt → Q (some (.int 1)) M) (h0 : v.toInt < 0 ∨ n.toInt ≤ v.toInt → Q (some (.int 0)) M) : mx g (d + 1) kX12_isNight 0 [.ref 48, .int v] [] M Q := by
  refine mx_go 40 zq_t141 ?_
  show mx g (d) kX12_in 0 [.ref 48, .int (v), .int (0), .int (((M 48 1) - 1))] [] M _
  rw [hn]
  have hr := n_rng n
  have e : (n - 1).toInt = n.toInt - 1 := by rw [n_sub, n_1, zw_id (by omega) (by omega)]
  refine c_X12_in (fun q r => ?_) (fun q => ?_)
  · rw [e] at r
    exact ⟨Or.inr rfl, h1 (by rw [n_0] at q; exact q) (by omega)⟩
  · rw [e, n_0] at q
    exact ⟨Or.inl rfl, h0 (by omega)⟩
theorem c_X12_isHow {g : zq_G} {d : Nat} {M : zq_M} {Q : Option Value → zq_M → Prop} {v n : Int32} (hn : M 48 2 = n) (hb : 0 ≤ n.toInt) (h1 : 0 ≤ v.toInt → v.toInt < n.toInt → Q (some (.int 1)) M) (h0 : v.toInt < 0 ∨ n.toInt ≤ v.toInt → Q (some (.int 0)) M) : mx g (d + 1) kX12_isHow 0 [.ref 48, .int v] [] M Q := by
  refine mx_go 40 zq_t142 ?_
  show mx g (d) kX12_in 0 [.ref 48, .int (v), .int (0), .int (((M 48 2) - 1))] [] M _
  rw [hn]
  have hr := n_rng n
  have e : (n - 1).toInt = n.toInt - 1 := by rw [n_sub, n_1, zw_id (by omega) (by omega)]
  refine c_X12_in (fun q r => ?_) (fun q => ?_)
  · rw [e] at r
    exact ⟨Or.inr rfl, h1 (by rw [n_0] at q; exact q) (by omega)⟩
  · rw [e, n_0] at q
    exact ⟨Or.inl rfl, h0 (by omega)⟩
theorem c_X12_isTrack {g : zq_G} {d : Nat} {M : zq_M} {Q : Option Value → zq_M → Prop} {v n : Int32} (hn : M 48 32 = n) (hb : 0 ≤ n.toInt) (h1 : 0 ≤ v.toInt → v.toInt < n.toInt → Q (some (.int 1)) M) (h0 : v.toInt < 0 ∨ n.toInt ≤ v.toInt → Q (some (.int 0)) M) : mx g (d + 1) kX12_isTrack 0 [.ref 48, .int v] [] M Q := by
  refine mx_go 40 zq_t191 ?_
  show mx g (d) kX12_in 0 [.ref 48, .int (v), .int (0), .int (((M 48 32) - 1))] [] M _
  rw [hn]
  have hr := n_rng n
  have e : (n - 1).toInt = n.toInt - 1 := by rw [n_sub, n_1, zw_id (by omega) (by omega)]
  refine c_X12_in (fun q r => ?_) (fun q => ?_)
  · rw [e] at r
    exact ⟨Or.inr rfl, h1 (by rw [n_0] at q; exact q) (by omega)⟩
  · rw [e, n_0] at q
    exact ⟨Or.inl rfl, h0 (by omega)⟩
theorem c_X12_isSheet {g : zq_G} {d : Nat} {M : zq_M} {Q : Option Value → zq_M → Prop} {v : Int32} (h1 : 0 ≤ v.toInt → v.toInt ≤ 3 → Q (some (.int 1)) M) (h0 : v.toInt < 0 ∨ 3 < v.toInt → Q (some (.int 0)) M) : mx g (d + 1) kX12_isSheet 0 [.ref 48, .int v] [] M Q := by
  refine mx_go 40 zq_t223 ?_
  show mx g (d) kX12_in 0 [.ref 48, .int (v), .int (0), .int (3)] [] M _
  refine c_X12_in (fun q r => ?_) (fun q => ?_)
  · exact ⟨Or.inr rfl, h1 q r⟩
  · exact ⟨Or.inl rfl, h0 q⟩
theorem c_X11_bit {g : zq_G} {d : Nat} {M : zq_M} {Q : Option Value → zq_M → Prop} {v : Int32} (h1 : ¬ v = 0 → Q (some (.int 1)) M) (h0 : v = 0 → Q (some (.int 0)) M) : mx g d kX11_bit 0 [.int v] [] M Q := by
  refine mx_go 40 zq_t125 ?_
  show ((v : Int32) = 0 → Q (some (.int 0)) M) ∧ (¬ (v : Int32) = 0 → Q (some (.int 1)) M)
  exact ⟨fun q => h0 q, fun q => h1 q⟩
end
section
theorem n_pred (x : Int32) : x + 1 - 1 = x := by simp
theorem n_suc {n : Int32} (h : 0 ≤ n.toInt) (h2 : n.toInt < 1000) : (n + 1).toInt = n.toInt + 1 := by rw [n_add, n_1, zw_id (by omega) (by omega)]
theorem gH_put {n n' a b : Int32} {k k' u u' : Nat → Int32} (h : gH n n' k k' u u') (hn : n.toInt < 8) (ha1 : 0 ≤ a.toInt) (ha2 : a.toInt ≤ 5) (hb1 : 0 ≤ b.toInt) (hb2 : b.toInt ≤ 20) : gH (n + 1) (n' + 1) (upd k n.toNatClampNeg a) (upd k' n'.toNatClampNeg a) (upd u n.toNatClampNeg b) (upd u' n'.toNatClampNeg b) := by
  obtain ⟨rfl, rfl, rfl, h4, h5, h6, h7⟩ := h
  rw [gH, n_suc h4 (by omega)]
  exact ⟨rfl, rfl, rfl, by omega, by omega, upd_all (P := fun x => 0 ≤ x.toInt ∧ x.toInt ≤ 5) h6 ⟨ha1, ha2⟩, upd_all (P := fun x => 0 ≤ x.toInt ∧ x.toInt ≤ 20) h7 ⟨hb1, hb2⟩⟩
theorem gT_put {s n n' c c' x y z : Int32} {a a' l l' t t' o o' u u' : Nat → Int32} (h : gT s n n' c c' a a' l l' t t' o o' u u') (hn : n.toInt < 24) (x1 : 0 ≤ x.toInt) (x2 : x.toInt < s.toInt) (y1 : 0 ≤ y.toInt) (y2 : y.toInt ≤ 999) (z1 : 0 ≤ z.toInt) (z2 : z.toInt ≤ 99) : gT s (n + 1) (n' + 1) c c' (upd a n.toNatClampNeg x) (upd a' n'.toNatClampNeg x) (upd l n.toNatClampNeg y) (upd l' n'.toNatClampNeg y) (upd t n.toNatClampNeg z) (upd t' n'.toNatClampNeg z) o o' u u' := by
  obtain ⟨rfl, rfl, rfl, rfl, rfl, rfl, rfl, h8, h9, h10, h11, h12, h13, h14, h15, h16⟩ := h
  rw [gT, n_suc h8 (by omega)]
  refine ⟨rfl, rfl, rfl, rfl, rfl, rfl, rfl, by omega, by omega, h10, h11, fun i hi => ?_, upd_all (P := fun x => 0 ≤ x.toInt ∧ x.toInt ≤ 999) h13 ⟨y1, y2⟩, upd_all (P := fun x => 0 ≤ x.toInt ∧ x.toInt ≤ 99) h14 ⟨z1, z2⟩, h15, h16⟩
  unfold upd
  split
  · exact ⟨x1, x2⟩
  · next e => rw [n_cl] at e; exact h12 i (by omega)
theorem gT_cross {s n n' c c' x y : Int32} {a a' l l' t t' o o' u u' : Nat → Int32} (h : gT s n n' c c' a a' l l' t t' o o' u u') (hn : c.toInt < 20) (x1 : 0 ≤ x.toInt) (x2 : x.toInt < n.toInt) (y1 : 0 ≤ y.toInt) (y2 : y.toInt < n.toInt) : gT s n n' (c + 1) (c' + 1) a a' l l' t t' (upd o c.toNatClampNeg x) (upd o' c'.toNatClampNeg x) (upd u c.toNatClampNeg y) (upd u' c'.toNatClampNeg y) := by
  obtain ⟨rfl, rfl, rfl, rfl, rfl, rfl, rfl, h8, h9, h10, h11, h12, h13, h14, h15, h16⟩ := h
  rw [gT, n_suc h10 (by omega)]
  exact ⟨rfl, rfl, rfl, rfl, rfl, rfl, rfl, h8, h9, by omega, by omega, h12, h13, h14, upd_all (P := fun x => 0 ≤ x.toInt ∧ x.toInt ≤ 23) h15 ⟨x1, by omega⟩, upd_all (P := fun x => 0 ≤ x.toInt ∧ x.toInt ≤ 23) h16 ⟨y1, by omega⟩⟩
theorem gP_put {n n' q : Int32} {x y p : Nat → Int32} (h : gP n n' x y p) (hn : n.toInt < 8) (q1 : 0 ≤ q.toInt) (q2 : q.toInt ≤ 4095) : gP (n + 1) (n' + 1) (upd x n.toNatClampNeg (q - q / 64 * 64)) (upd y n.toNatClampNeg (q / 64)) (upd p n'.toNatClampNeg q) := by
  obtain ⟨rfl, h2, h3, h4, h5, h6⟩ := h
  rw [gP, n_suc h4 (by omega)]
  refine ⟨rfl, fun i => ?_, fun i => ?_, by omega, by omega, upd_all (P := fun x => 0 ≤ x.toInt ∧ x.toInt ≤ 4095) h6 ⟨q1, q2⟩⟩
  · unfold upd; split
    · rfl
    · exact h2 i
  · unfold upd; split
    · rfl
    · exact h3 i
theorem gI_grow {i i' s s' r r' t t' c c' p p' : Int32} {k k' : Nat → Int32} {ns nx nt nc np ns2 nx2 nt2 nc2 np2 : Int32} (h : gI i i' s s' r r' t t' c c' p p' k k' ns nx nt nc np) (h1 : ns.toInt ≤ ns2.toInt) (h2 : nx.toInt ≤ nx2.toInt) (h3 : nt.toInt ≤ nt2.toInt) (h4 : nc.toInt ≤ nc2.toInt) (h5 : np.toInt ≤ np2.toInt) : gI i i' s s' r r' t t' c c' p p' k k' ns2 nx2 nt2 nc2 np2 := by
  obtain ⟨i1, i2, i3, i4, i5, i6, i7, i8, i9, i10, i11, i12, i13, i14, i15, i16, i17, i18, i19⟩ := h
  exact ⟨i1, i2, i3, i4, i5, i6, i7, i8, i9, by omega, i11, by omega, i13, by omega, i15, by omega, i17, by omega, i19⟩
theorem gX_rule {n n' r r' q : Int32} {co en sg te ma : Nat → Int32} (h : gX n n' r r' co en sg te ma) (h1 : 0 ≤ q.toInt) (h2 : q.toInt < n.toInt) : gX n n' q q co en sg te ma := by
  obtain ⟨x1, x2, x3, x4, x5, x6, x7⟩ := h
  exact ⟨x1, rfl, x3, x4, h1, h2, x7⟩

set_option maxHeartbeats 4000000 in
theorem op_how {g : zq_G} {d : Nat} {M : zq_M} {p0 p1 : Int32} (hR : RR M) : pri g (d + 6) kX11_how kX12_how [.ref 0, .int (p0), .int (p1)] [.ref 48, .int (p0), .int (p1)] M := by
  obtain ⟨hS, hN, hH, hT, hP, hI, hE, hF, hX, hV⟩ := id hR
  obtain ⟨h1, h2, h3, h4, h5, h6, h7⟩ := id hH
  refine mx_q (fun Qx hQx => ?_)
  refine mx_go 200 zq_t93 ?_
  show mx g (d + 5) kX11_isKind 0 [.int (p0)] [] M _
  refine c_X11_isKind (fun k1 k2 => ?_) (fun k3 => ?_)
  · show ((1 : Int32) = 0 → Qx (some (.int (-2))) M) ∧ (¬ (1 : Int32) = 0 → ((p1 : Int32) < 0 → Qx (some (.int (-2))) M) ∧ (¬ (p1 : Int32) < 0 → ((p1 : Int32) ≤ (20 : Int32) → mx g (d + 5) kX0_put 0 [.ref 10, .int (p0), .int (p1)] [] M _) ∧ (¬ (p1 : Int32) ≤ (20 : Int32) → Qx (some (.int (-2))) M)))
    refine ⟨fun q4 => absurd q4 (by decide), fun _ => ?_⟩
    refine ⟨fun q5 => ?_, fun q5 => ?_⟩
    · refine hQx _ _ ⟨(-2), rfl, ?_⟩
      refine mx_q (fun Qm hQm => ?_)
      refine mx_go 200 zq_t147 ?_
      show mx g (d + 5) kX12_in 0 [.ref 48, .int (p0), .int (0), .int (5)] [] M _
      refine c_X12_in (fun k6 k7 => ?_) (fun k8 => by exfalso; (simp only [n_lt, n_le, n_eq, n_add, n_sub, n_mul, n_neg, n_lit, zw] at *; omega))
      show ((1 : Int32) = 0 → Qm (some (.int (-2))) M) ∧ (¬ (1 : Int32) = 0 → mx g (d + 5) kX12_in 0 [.ref 48, .int (p1), .int (0), .int (20)] [] M _)
      refine ⟨fun q9 => absurd q9 (by decide), fun _ => ?_⟩
      refine c_X12_in (fun k10 k11 => by exfalso; (simp only [n_lt, n_le, n_eq, n_add, n_sub, n_mul, n_neg, n_lit, zw] at *; omega)) (fun k12 => ?_)
      show (¬ (0 : Int32) = 0 → (¬ ((M 48 2) : Int32) = (8 : Int32) → vp_in (M 48 2) 8 ∧ vp_in (M 48 2) 8 ∧ Qm (some (.int (((M 48 2) + 1) - 1))) (zq_mu (zq_ma (zq_ma M 55 (upd (M 55) (Int32.toNatClampNeg (M 48 2)) p0)) 56 (upd (M 56) (Int32.toNatClampNeg (M 48 2)) p1)) 48 2 ((M 48 2) + 1))) ∧ (((M 48 2) : Int32) = (8 : Int32) → Qm (some (.int (-4))) M)) ∧ ((0 : Int32) = 0 → Qm (some (.int (-2))) M)
      refine ⟨fun q13 => absurd q13 (by decide), fun _ => ?_⟩
      refine hQm _ _ ⟨by first | rfl | simp only [h1, h2, h3], ?_⟩
      exact hR
    · refine ⟨fun q6 => ?_, fun q6 => ?_⟩
      · refine mx_q (fun Q7 hQ7 => ?_)
        refine mx_go 200 zq_t2 ?_
        show (((M 10 2) : Int32) < (8 : Int32) → vp_in (M 10 2) 8 ∧ vp_in (M 10 2) 8 ∧ Q7 (some (.int (((M 10 2) + 1) - 1))) (zq_mu (zq_ma (zq_ma M 11 (upd (M 11) (Int32.toNatClampNeg (M 10 2)) p0)) 12 (upd (M 12) (Int32.toNatClampNeg (M 10 2)) p1)) 10 2 ((M 10 2) + 1))) ∧ (¬ ((M 10 2) : Int32) < (8 : Int32) → Q7 (some (.int (-4))) M)
        refine ⟨fun q8 => ?_, fun q8 => ?_⟩
        · refine ⟨(n_in (by (simp only [n_lt, n_le, n_eq, n_add, n_sub, n_mul, n_neg, n_lit, zw] at *; omega)) (by (simp only [n_lt, n_le, n_eq, n_add, n_sub, n_mul, n_neg, n_lit, zw] at *; omega))), ?_⟩
          refine ⟨(n_in (by (simp only [n_lt, n_le, n_eq, n_add, n_sub, n_mul, n_neg, n_lit, zw] at *; omega)) (by (simp only [n_lt, n_le, n_eq, n_add, n_sub, n_mul, n_neg, n_lit, zw] at *; omega))), ?_⟩
          refine hQ7 _ _ ?_
          show Qx (some (.int (((M 10 2) + 1) - 1))) (zq_mu (zq_ma (zq_ma M 11 (upd (M 11) (Int32.toNatClampNeg (M 10 2)) p0)) 12 (upd (M 12) (Int32.toNatClampNeg (M 10 2)) p1)) 10 2 ((M 10 2) + 1))
          refine hQx _ _ ⟨(((M 10 2) + 1) - 1), rfl, ?_⟩
          refine mx_q (fun Qm hQm => ?_)
          refine mx_go 200 zq_t147 ?_
          show mx g (d + 5) kX12_in 0 [.ref 48, .int (p0), .int (0), .int (5)] [] (zq_mu (zq_ma (zq_ma M 11 (upd (M 11) (Int32.toNatClampNeg (M 10 2)) p0)) 12 (upd (M 12) (Int32.toNatClampNeg (M 10 2)) p1)) 10 2 ((M 10 2) + 1)) _
          refine c_X12_in (fun k9 k10 => ?_) (fun k11 => by exfalso; (simp only [n_lt, n_le, n_eq, n_add, n_sub, n_mul, n_neg, n_lit, zw] at *; omega))
          show ((1 : Int32) = 0 → Qm (some (.int (-2))) (zq_mu (zq_ma (zq_ma M 11 (upd (M 11) (Int32.toNatClampNeg (M 10 2)) p0)) 12 (upd (M 12) (Int32.toNatClampNeg (M 10 2)) p1)) 10 2 ((M 10 2) + 1))) ∧ (¬ (1 : Int32) = 0 → mx g (d + 5) kX12_in 0 [.ref 48, .int (p1), .int (0), .int (20)] [] (zq_mu (zq_ma (zq_ma M 11 (upd (M 11) (Int32.toNatClampNeg (M 10 2)) p0)) 12 (upd (M 12) (Int32.toNatClampNeg (M 10 2)) p1)) 10 2 ((M 10 2) + 1)) _)
          refine ⟨fun q12 => absurd q12 (by decide), fun _ => ?_⟩
          refine c_X12_in (fun k13 k14 => ?_) (fun k15 => by exfalso; (simp only [n_lt, n_le, n_eq, n_add, n_sub, n_mul, n_neg, n_lit, zw] at *; omega))
          show (¬ (1 : Int32) = 0 → (¬ ((M 48 2) : Int32) = (8 : Int32) → vp_in (M 48 2) 8 ∧ vp_in (M 48 2) 8 ∧ Qm (some (.int (((M 48 2) + 1) - 1))) (zq_mu (zq_ma (zq_ma (zq_mu (zq_ma (zq_ma M 11 (upd (M 11) (Int32.toNatClampNeg (M 10 2)) p0)) 12 (upd (M 12) (Int32.toNatClampNeg (M 10 2)) p1)) 10 2 ((M 10 2) + 1)) 55 (upd (M 55) (Int32.toNatClampNeg (M 48 2)) p0)) 56 (upd (M 56) (Int32.toNatClampNeg (M 48 2)) p1)) 48 2 ((M 48 2) + 1))) ∧ (((M 48 2) : Int32) = (8 : Int32) → Qm (some (.int (-4))) (zq_mu (zq_ma (zq_ma M 11 (upd (M 11) (Int32.toNatClampNeg (M 10 2)) p0)) 12 (upd (M 12) (Int32.toNatClampNeg (M 10 2)) p1)) 10 2 ((M 10 2) + 1)))) ∧ ((1 : Int32) = 0 → Qm (some (.int (-2))) (zq_mu (zq_ma (zq_ma M 11 (upd (M 11) (Int32.toNatClampNeg (M 10 2)) p0)) 12 (upd (M 12) (Int32.toNatClampNeg (M 10 2)) p1)) 10 2 ((M 10 2) + 1)))
          refine ⟨fun _ => ?_, fun q16 => absurd q16 (by decide)⟩
          refine ⟨fun q17 => ?_, fun q17 => by exfalso; (simp only [n_lt, n_le, n_eq, n_add, n_sub, n_mul, n_neg, n_lit, zw] at *; omega)⟩
          refine ⟨(n_in (by (simp only [n_lt, n_le, n_eq, n_add, n_sub, n_mul, n_neg, n_lit, zw] at *; omega)) (by (simp only [n_lt, n_le, n_eq, n_add, n_sub, n_mul, n_neg, n_lit, zw] at *; omega))), ?_⟩
          refine ⟨(n_in (by (simp only [n_lt, n_le, n_eq, n_add, n_sub, n_mul, n_neg, n_lit, zw] at *; omega)) (by (simp only [n_lt, n_le, n_eq, n_add, n_sub, n_mul, n_neg, n_lit, zw] at *; omega))), ?_⟩
          refine hQm _ _ ⟨by first | rfl | simp only [h1, h2, h3], ?_⟩
          exact ⟨hS, hN, gH_put (n := M 10 2) (a := p0) (b := p1) hH (by (simp only [n_lt, n_le, n_eq, n_add, n_sub, n_mul, n_neg, n_lit, zw] at *; omega)) (by (simp only [n_lt, n_le, n_eq, n_add, n_sub, n_mul, n_neg, n_lit, zw] at *; omega)) (by (simp only [n_lt, n_le, n_eq, n_add, n_sub, n_mul, n_neg, n_lit, zw] at *; omega)) (by (simp only [n_lt, n_le, n_eq, n_add, n_sub, n_mul, n_neg, n_lit, zw] at *; omega)) (by (simp only [n_lt, n_le, n_eq, n_add, n_sub, n_mul, n_neg, n_lit, zw] at *; omega)), hT, hP, hI, hE, hF, hX, hV⟩
        · refine hQ7 _ _ ?_
          show Qx (some (.int (-4))) M
          refine hQx _ _ ⟨(-4), rfl, ?_⟩
          refine mx_q (fun Qm hQm => ?_)
          refine mx_go 200 zq_t147 ?_
          show mx g (d + 5) kX12_in 0 [.ref 48, .int (p0), .int (0), .int (5)] [] M _
          refine c_X12_in (fun k9 k10 => ?_) (fun k11 => by exfalso; (simp only [n_lt, n_le, n_eq, n_add, n_sub, n_mul, n_neg, n_lit, zw] at *; omega))
          show ((1 : Int32) = 0 → Qm (some (.int (-2))) M) ∧ (¬ (1 : Int32) = 0 → mx g (d + 5) kX12_in 0 [.ref 48, .int (p1), .int (0), .int (20)] [] M _)
          refine ⟨fun q12 => absurd q12 (by decide), fun _ => ?_⟩
          refine c_X12_in (fun k13 k14 => ?_) (fun k15 => by exfalso; (simp only [n_lt, n_le, n_eq, n_add, n_sub, n_mul, n_neg, n_lit, zw] at *; omega))
          show (¬ (1 : Int32) = 0 → (¬ ((M 48 2) : Int32) = (8 : Int32) → vp_in (M 48 2) 8 ∧ vp_in (M 48 2) 8 ∧ Qm (some (.int (((M 48 2) + 1) - 1))) (zq_mu (zq_ma (zq_ma M 55 (upd (M 55) (Int32.toNatClampNeg (M 48 2)) p0)) 56 (upd (M 56) (Int32.toNatClampNeg (M 48 2)) p1)) 48 2 ((M 48 2) + 1))) ∧ (((M 48 2) : Int32) = (8 : Int32) → Qm (some (.int (-4))) M)) ∧ ((1 : Int32) = 0 → Qm (some (.int (-2))) M)
          refine ⟨fun _ => ?_, fun q16 => absurd q16 (by decide)⟩
          refine ⟨fun q17 => by exfalso; (simp only [n_lt, n_le, n_eq, n_add, n_sub, n_mul, n_neg, n_lit, zw] at *; omega), fun q17 => ?_⟩
          refine hQm _ _ ⟨by first | rfl | simp only [h1, h2, h3], ?_⟩
          exact hR
      · refine hQx _ _ ⟨(-2), rfl, ?_⟩
        refine mx_q (fun Qm hQm => ?_)
        refine mx_go 200 zq_t147 ?_
        show mx g (d + 5) kX12_in 0 [.ref 48, .int (p0), .int (0), .int (5)] [] M _
        refine c_X12_in (fun k9 k10 => ?_) (fun k11 => by exfalso; (simp only [n_lt, n_le, n_eq, n_add, n_sub, n_mul, n_neg, n_lit, zw] at *; omega))
        show ((1 : Int32) = 0 → Qm (some (.int (-2))) M) ∧ (¬ (1 : Int32) = 0 → mx g (d + 5) kX12_in 0 [.ref 48, .int (p1), .int (0), .int (20)] [] M _)
        refine ⟨fun q12 => absurd q12 (by decide), fun _ => ?_⟩
        refine c_X12_in (fun k13 k14 => by exfalso; (simp only [n_lt, n_le, n_eq, n_add, n_sub, n_mul, n_neg, n_lit, zw] at *; omega)) (fun k15 => ?_)
        show (¬ (0 : Int32) = 0 → (¬ ((M 48 2) : Int32) = (8 : Int32) → vp_in (M 48 2) 8 ∧ vp_in (M 48 2) 8 ∧ Qm (some (.int (((M 48 2) + 1) - 1))) (zq_mu (zq_ma (zq_ma M 55 (upd (M 55) (Int32.toNatClampNeg (M 48 2)) p0)) 56 (upd (M 56) (Int32.toNatClampNeg (M 48 2)) p1)) 48 2 ((M 48 2) + 1))) ∧ (((M 48 2) : Int32) = (8 : Int32) → Qm (some (.int (-4))) M)) ∧ ((0 : Int32) = 0 → Qm (some (.int (-2))) M)
        refine ⟨fun q16 => absurd q16 (by decide), fun _ => ?_⟩
        refine hQm _ _ ⟨by first | rfl | simp only [h1, h2, h3], ?_⟩
        exact hR
  · show ((0 : Int32) = 0 → Qx (some (.int (-2))) M) ∧ (¬ (0 : Int32) = 0 → ((p1 : Int32) < 0 → Qx (some (.int (-2))) M) ∧ (¬ (p1 : Int32) < 0 → ((p1 : Int32) ≤ (20 : Int32) → mx g (d + 5) kX0_put 0 [.ref 10, .int (p0), .int (p1)] [] M _) ∧ (¬ (p1 : Int32) ≤ (20 : Int32) → Qx (some (.int (-2))) M)))
    refine ⟨fun _ => ?_, fun q9 => absurd q9 (by decide)⟩
    refine hQx _ _ ⟨(-2), rfl, ?_⟩
    refine mx_q (fun Qm hQm => ?_)
    refine mx_go 200 zq_t147 ?_
    show mx g (d + 5) kX12_in 0 [.ref 48, .int (p0), .int (0), .int (5)] [] M _
    refine c_X12_in (fun k10 k11 => by exfalso; (simp only [n_lt, n_le, n_eq, n_add, n_sub, n_mul, n_neg, n_lit, zw] at *; omega)) (fun k12 => ?_)
    show ((0 : Int32) = 0 → Qm (some (.int (-2))) M) ∧ (¬ (0 : Int32) = 0 → mx g (d + 5) kX12_in 0 [.ref 48, .int (p1), .int (0), .int (20)] [] M _)
    refine ⟨fun _ => ?_, fun q13 => absurd q13 (by decide)⟩
    refine hQm _ _ ⟨by first | rfl | simp only [h1, h2, h3], ?_⟩
    exact hR

set_option maxHeartbeats 4000000 in
theorem op_stoneTold {g : zq_G} {d : Nat} {M : zq_M} {p0 p1 : Int32} (hR : RR M) : pri g (d + 6) kX11_stoneTold kX12_stoneTold [.ref 0, .int (p0), .int (p1)] [.ref 48, .int (p0), .int (p1)] M := by
  obtain ⟨hS, hN, hH, hT, hP, hI, hE, hF, hX, hV⟩ := id hR
  obtain ⟨s1, s2, s3, s4, s5, s6, s7, s8⟩ := id hS
  refine mx_q (fun Qx hQx => ?_)
  refine mx_go 200 zq_t94 ?_
  show mx g (d + 5) kX7_has 0 [.ref 1, .int (p0)] [] M _
  refine c_X7_has (n := (M 1 3)) rfl (fun k1 k2 => ?_) (fun k3 => ?_)
  · show ((1 : Int32) = 0 → Qx (some (.int (-5))) M) ∧ (¬ (1 : Int32) = 0 → ((p1 : Int32) < 0 → Qx (some (.int (-5))) M) ∧ (¬ (p1 : Int32) < 0 → ((p1 : Int32) ≤ (1 : Int32) → (¬ (p1 : Int32) = 0 → vp_in p0 10 ∧ Qx (some (.int ((M 3) (Int32.toNatClampNeg p0)))) M) ∧ ((p1 : Int32) = 0 → vp_in p0 10 ∧ Qx (some (.int ((M 2) (Int32.toNatClampNeg p0)))) M)) ∧ (¬ (p1 : Int32) ≤ (1 : Int32) → Qx (some (.int (-5))) M)))
    refine ⟨fun q4 => absurd q4 (by decide), fun _ => ?_⟩
    refine ⟨fun q5 => ?_, fun q5 => ?_⟩
    · refine hQx _ _ ⟨(-5), rfl, ?_⟩
      refine mx_q (fun Qm hQm => ?_)
      refine mx_go 200 zq_t148 ?_
      show mx g (d + 5) kX12_isStone 0 [.ref 48, .int (p0)] [] M _
      refine c_X12_isStone (n := (M 48 0)) rfl (by (simp only [n_lt, n_le, n_eq, n_add, n_sub, n_mul, n_neg, n_lit, zw] at *; omega)) (fun k6 k7 => ?_) (fun k8 => by exfalso; (simp only [n_lt, n_le, n_eq, n_add, n_sub, n_mul, n_neg, n_lit, zw] at *; omega))
      show ((1 : Int32) = 0 → Qm (some (.int (-5))) M) ∧ (¬ (1 : Int32) = 0 → mx g (d + 5) kX12_in 0 [.ref 48, .int (p1), .int (0), .int (1)] [] M _)
      refine ⟨fun q9 => absurd q9 (by decide), fun _ => ?_⟩
      refine c_X12_in (fun k10 k11 => by exfalso; (simp only [n_lt, n_le, n_eq, n_add, n_sub, n_mul, n_neg, n_lit, zw] at *; omega)) (fun k12 => ?_)
      show (¬ (0 : Int32) = 0 → (¬ (p1 : Int32) = 0 → vp_in p0 10 ∧ Qm (some (.int ((M 50) (Int32.toNatClampNeg p0)))) M) ∧ ((p1 : Int32) = 0 → vp_in p0 10 ∧ Qm (some (.int ((M 49) (Int32.toNatClampNeg p0)))) M)) ∧ ((0 : Int32) = 0 → Qm (some (.int (-5))) M)
      refine ⟨fun q13 => absurd q13 (by decide), fun _ => ?_⟩
      refine hQm _ _ ⟨by first | rfl | simp only [s1, s2, s3], ?_⟩
      exact hR
    · refine ⟨fun q6 => ?_, fun q6 => ?_⟩
      · refine ⟨fun q7 => ?_, fun q7 => ?_⟩
        · refine ⟨(n_in (by (simp only [n_lt, n_le, n_eq, n_add, n_sub, n_mul, n_neg, n_lit, zw] at *; omega)) (by (simp only [n_lt, n_le, n_eq, n_add, n_sub, n_mul, n_neg, n_lit, zw] at *; omega))), ?_⟩
          refine hQx _ _ ⟨((M 3) (Int32.toNatClampNeg p0)), rfl, ?_⟩
          refine mx_q (fun Qm hQm => ?_)
          refine mx_go 200 zq_t148 ?_
          show mx g (d + 5) kX12_isStone 0 [.ref 48, .int (p0)] [] M _
          refine c_X12_isStone (n := (M 48 0)) rfl (by (simp only [n_lt, n_le, n_eq, n_add, n_sub, n_mul, n_neg, n_lit, zw] at *; omega)) (fun k8 k9 => ?_) (fun k10 => by exfalso; (simp only [n_lt, n_le, n_eq, n_add, n_sub, n_mul, n_neg, n_lit, zw] at *; omega))
          show ((1 : Int32) = 0 → Qm (some (.int (-5))) M) ∧ (¬ (1 : Int32) = 0 → mx g (d + 5) kX12_in 0 [.ref 48, .int (p1), .int (0), .int (1)] [] M _)
          refine ⟨fun q11 => absurd q11 (by decide), fun _ => ?_⟩
          refine c_X12_in (fun k12 k13 => ?_) (fun k14 => by exfalso; (simp only [n_lt, n_le, n_eq, n_add, n_sub, n_mul, n_neg, n_lit, zw] at *; omega))
          show (¬ (1 : Int32) = 0 → (¬ (p1 : Int32) = 0 → vp_in p0 10 ∧ Qm (some (.int ((M 50) (Int32.toNatClampNeg p0)))) M) ∧ ((p1 : Int32) = 0 → vp_in p0 10 ∧ Qm (some (.int ((M 49) (Int32.toNatClampNeg p0)))) M)) ∧ ((1 : Int32) = 0 → Qm (some (.int (-5))) M)
          refine ⟨fun _ => ?_, fun q15 => absurd q15 (by decide)⟩
          refine ⟨fun q16 => ?_, fun q16 => by exfalso; (simp only [n_lt, n_le, n_eq, n_add, n_sub, n_mul, n_neg, n_lit, zw] at *; omega)⟩
          refine ⟨(n_in (by (simp only [n_lt, n_le, n_eq, n_add, n_sub, n_mul, n_neg, n_lit, zw] at *; omega)) (by (simp only [n_lt, n_le, n_eq, n_add, n_sub, n_mul, n_neg, n_lit, zw] at *; omega))), ?_⟩
          refine hQm _ _ ⟨by first | rfl | simp only [s1, s2, s3], ?_⟩
          exact hR
        · refine ⟨(n_in (by (simp only [n_lt, n_le, n_eq, n_add, n_sub, n_mul, n_neg, n_lit, zw] at *; omega)) (by (simp only [n_lt, n_le, n_eq, n_add, n_sub, n_mul, n_neg, n_lit, zw] at *; omega))), ?_⟩
          refine hQx _ _ ⟨((M 2) (Int32.toNatClampNeg p0)), rfl, ?_⟩
          refine mx_q (fun Qm hQm => ?_)
          refine mx_go 200 zq_t148 ?_
          show mx g (d + 5) kX12_isStone 0 [.ref 48, .int (p0)] [] M _
          refine c_X12_isStone (n := (M 48 0)) rfl (by (simp only [n_lt, n_le, n_eq, n_add, n_sub, n_mul, n_neg, n_lit, zw] at *; omega)) (fun k8 k9 => ?_) (fun k10 => by exfalso; (simp only [n_lt, n_le, n_eq, n_add, n_sub, n_mul, n_neg, n_lit, zw] at *; omega))
          show ((1 : Int32) = 0 → Qm (some (.int (-5))) M) ∧ (¬ (1 : Int32) = 0 → mx g (d + 5) kX12_in 0 [.ref 48, .int (p1), .int (0), .int (1)] [] M _)
          refine ⟨fun q11 => absurd q11 (by decide), fun _ => ?_⟩
          refine c_X12_in (fun k12 k13 => ?_) (fun k14 => by exfalso; (simp only [n_lt, n_le, n_eq, n_add, n_sub, n_mul, n_neg, n_lit, zw] at *; omega))
          show (¬ (1 : Int32) = 0 → (¬ (p1 : Int32) = 0 → vp_in p0 10 ∧ Qm (some (.int ((M 50) (Int32.toNatClampNeg p0)))) M) ∧ ((p1 : Int32) = 0 → vp_in p0 10 ∧ Qm (some (.int ((M 49) (Int32.toNatClampNeg p0)))) M)) ∧ ((1 : Int32) = 0 → Qm (some (.int (-5))) M)
          refine ⟨fun _ => ?_, fun q15 => absurd q15 (by decide)⟩
          refine ⟨fun q16 => by exfalso; (simp only [n_lt, n_le, n_eq, n_add, n_sub, n_mul, n_neg, n_lit, zw] at *; omega), fun q16 => ?_⟩
          refine ⟨(n_in (by (simp only [n_lt, n_le, n_eq, n_add, n_sub, n_mul, n_neg, n_lit, zw] at *; omega)) (by (simp only [n_lt, n_le, n_eq, n_add, n_sub, n_mul, n_neg, n_lit, zw] at *; omega))), ?_⟩
          refine hQm _ _ ⟨by first | rfl | simp only [s1, s2, s3], ?_⟩
          exact hR
      · refine hQx _ _ ⟨(-5), rfl, ?_⟩
        refine mx_q (fun Qm hQm => ?_)
        refine mx_go 200 zq_t148 ?_
        show mx g (d + 5) kX12_isStone 0 [.ref 48, .int (p0)] [] M _
        refine c_X12_isStone (n := (M 48 0)) rfl (by (simp only [n_lt, n_le, n_eq, n_add, n_sub, n_mul, n_neg, n_lit, zw] at *; omega)) (fun k8 k9 => ?_) (fun k10 => by exfalso; (simp only [n_lt, n_le, n_eq, n_add, n_sub, n_mul, n_neg, n_lit, zw] at *; omega))
        show ((1 : Int32) = 0 → Qm (some (.int (-5))) M) ∧ (¬ (1 : Int32) = 0 → mx g (d + 5) kX12_in 0 [.ref 48, .int (p1), .int (0), .int (1)] [] M _)
        refine ⟨fun q11 => absurd q11 (by decide), fun _ => ?_⟩
        refine c_X12_in (fun k12 k13 => by exfalso; (simp only [n_lt, n_le, n_eq, n_add, n_sub, n_mul, n_neg, n_lit, zw] at *; omega)) (fun k14 => ?_)
        show (¬ (0 : Int32) = 0 → (¬ (p1 : Int32) = 0 → vp_in p0 10 ∧ Qm (some (.int ((M 50) (Int32.toNatClampNeg p0)))) M) ∧ ((p1 : Int32) = 0 → vp_in p0 10 ∧ Qm (some (.int ((M 49) (Int32.toNatClampNeg p0)))) M)) ∧ ((0 : Int32) = 0 → Qm (some (.int (-5))) M)
        refine ⟨fun q15 => absurd q15 (by decide), fun _ => ?_⟩
        refine hQm _ _ ⟨by first | rfl | simp only [s1, s2, s3], ?_⟩
        exact hR
  · show ((0 : Int32) = 0 → Qx (some (.int (-5))) M) ∧ (¬ (0 : Int32) = 0 → ((p1 : Int32) < 0 → Qx (some (.int (-5))) M) ∧ (¬ (p1 : Int32) < 0 → ((p1 : Int32) ≤ (1 : Int32) → (¬ (p1 : Int32) = 0 → vp_in p0 10 ∧ Qx (some (.int ((M 3) (Int32.toNatClampNeg p0)))) M) ∧ ((p1 : Int32) = 0 → vp_in p0 10 ∧ Qx (some (.int ((M 2) (Int32.toNatClampNeg p0)))) M)) ∧ (¬ (p1 : Int32) ≤ (1 : Int32) → Qx (some (.int (-5))) M)))
    refine ⟨fun _ => ?_, fun q8 => absurd q8 (by decide)⟩
    refine hQx _ _ ⟨(-5), rfl, ?_⟩
    refine mx_q (fun Qm hQm => ?_)
    refine mx_go 200 zq_t148 ?_
    show mx g (d + 5) kX12_isStone 0 [.ref 48, .int (p0)] [] M _
    refine c_X12_isStone (n := (M 48 0)) rfl (by (simp only [n_lt, n_le, n_eq, n_add, n_sub, n_mul, n_neg, n_lit, zw] at *; omega)) (fun k9 k10 => by exfalso; (simp only [n_lt, n_le, n_eq, n_add, n_sub, n_mul, n_neg, n_lit, zw] at *; omega)) (fun k11 => ?_)
    show ((0 : Int32) = 0 → Qm (some (.int (-5))) M) ∧ (¬ (0 : Int32) = 0 → mx g (d + 5) kX12_in 0 [.ref 48, .int (p1), .int (0), .int (1)] [] M _)
    refine ⟨fun _ => ?_, fun q12 => absurd q12 (by decide)⟩
    refine hQm _ _ ⟨by first | rfl | simp only [s1, s2, s3], ?_⟩
    exact hR

set_option maxHeartbeats 4000000 in
theorem op_force {g : zq_G} {d : Nat} {M : zq_M} {p0 : Int32} (hR : RR M) : pri g (d + 6) kX11_force kX12_force [.ref 0, .int (p0), .null] [.ref 48, .int (p0), .null] M := by
  obtain ⟨hS, hN, hH, hT, hP, hI, hE, hF, hX, hV⟩ := id hR
  obtain ⟨x1, x2, x3, x4, x5, x6, x7⟩ := id hX
  refine mx_q (fun Qx hQx => ?_)
  refine mx_go 200 zq_t99 ?_
  show ((p0 : Int32) < 0 → Qx (some (.int (-2))) M) ∧ (¬ (p0 : Int32) < 0 → ((p0 : Int32) < ((M 13 4) : Int32) → Qx (some (.int (M 13 5))) (zq_mu M 13 5 p0)) ∧ (¬ (p0 : Int32) < ((M 13 4) : Int32) → Qx (some (.int (-2))) M))
  refine ⟨fun q1 => ?_, fun q1 => ?_⟩
  · refine hQx _ _ ⟨(-2), rfl, ?_⟩
    refine mx_q (fun Qm hQm => ?_)
    refine mx_go 200 zq_t170 ?_
    show mx g (d + 5) kX12_in 0 [.ref 48, .int (p0), .int (0), .int (((M 48 11) - 1))] [] M _
    refine c_X12_in (fun k2 k3 => ?_) (fun k4 => ?_)
    · show (¬ (1 : Int32) = 0 → Qm (some (.int (M 48 12))) (zq_mu M 48 12 p0)) ∧ ((1 : Int32) = 0 → Qm (some (.int (-2))) M)
      refine ⟨fun _ => ?_, fun q5 => absurd q5 (by decide)⟩
      exfalso; (simp only [n_lt, n_le, n_eq, n_add, n_sub, n_mul, n_neg, n_lit, zw] at *; omega)
    · show (¬ (0 : Int32) = 0 → Qm (some (.int (M 48 12))) (zq_mu M 48 12 p0)) ∧ ((0 : Int32) = 0 → Qm (some (.int (-2))) M)
      refine ⟨fun q6 => absurd q6 (by decide), fun _ => ?_⟩
      refine hQm _ _ ⟨by first | rfl | simp only [x1, x2], ?_⟩
      exact hR
  · refine ⟨fun q2 => ?_, fun q2 => ?_⟩
    · refine hQx _ _ ⟨(M 13 5), rfl, ?_⟩
      refine mx_q (fun Qm hQm => ?_)
      refine mx_go 200 zq_t170 ?_
      show mx g (d + 5) kX12_in 0 [.ref 48, .int (p0), .int (0), .int (((M 48 11) - 1))] [] (zq_mu M 13 5 p0) _
      refine c_X12_in (fun k3 k4 => ?_) (fun k5 => ?_)
      · show (¬ (1 : Int32) = 0 → Qm (some (.int (M 48 12))) (zq_mu (zq_mu M 13 5 p0) 48 12 p0)) ∧ ((1 : Int32) = 0 → Qm (some (.int (-2))) (zq_mu M 13 5 p0))
        refine ⟨fun _ => ?_, fun q6 => absurd q6 (by decide)⟩
        refine hQm _ _ ⟨by first | rfl | simp only [x1, x2], ?_⟩
        exact ⟨hS, hN, hH, hT, hP, hI, hE, hF, gX_rule (q := p0) (n := M 13 4) hX (by (simp only [n_lt, n_le, n_eq, n_add, n_sub, n_mul, n_neg, n_lit, zw] at *; omega)) (by (simp only [n_lt, n_le, n_eq, n_add, n_sub, n_mul, n_neg, n_lit, zw] at *; omega)), hV⟩
      · show (¬ (0 : Int32) = 0 → Qm (some (.int (M 48 12))) (zq_mu (zq_mu M 13 5 p0) 48 12 p0)) ∧ ((0 : Int32) = 0 → Qm (some (.int (-2))) (zq_mu M 13 5 p0))
        refine ⟨fun q7 => absurd q7 (by decide), fun _ => ?_⟩
        exfalso; (simp only [n_lt, n_le, n_eq, n_add, n_sub, n_mul, n_neg, n_lit, zw] at *; omega)
    · refine hQx _ _ ⟨(-2), rfl, ?_⟩
      refine mx_q (fun Qm hQm => ?_)
      refine mx_go 200 zq_t170 ?_
      show mx g (d + 5) kX12_in 0 [.ref 48, .int (p0), .int (0), .int (((M 48 11) - 1))] [] M _
      refine c_X12_in (fun k3 k4 => ?_) (fun k5 => ?_)
      · show (¬ (1 : Int32) = 0 → Qm (some (.int (M 48 12))) (zq_mu M 48 12 p0)) ∧ ((1 : Int32) = 0 → Qm (some (.int (-2))) M)
        refine ⟨fun _ => ?_, fun q6 => absurd q6 (by decide)⟩
        exfalso; (simp only [n_lt, n_le, n_eq, n_add, n_sub, n_mul, n_neg, n_lit, zw] at *; omega)
      · show (¬ (0 : Int32) = 0 → Qm (some (.int (M 48 12))) (zq_mu M 48 12 p0)) ∧ ((0 : Int32) = 0 → Qm (some (.int (-2))) M)
        refine ⟨fun q7 => absurd q7 (by decide), fun _ => ?_⟩
        refine hQm _ _ ⟨by first | rfl | simp only [x1, x2], ?_⟩
        exact hR

set_option maxHeartbeats 4000000 in
theorem op_count {g : zq_G} {d : Nat} {M : zq_M} {p0 : Int32} (hR : RR M) : pri g (d + 6) kX11_count kX12_count [.ref 0, .int (p0)] [.ref 48, .int (p0)] M := by
  obtain ⟨hS, hN, hH, hT, hP, hI, hE, hF, hX, hV⟩ := id hR
  obtain ⟨s1, s2, s3, s4, s5, s6, s7, s8⟩ := id hS
  obtain ⟨a1, a2, a3, a4, a5, a6, a7, a8, a9, a10, a11⟩ := id hN
  obtain ⟨h1, h2, h3, h4, h5, h6, h7⟩ := id hH
  obtain ⟨t1, t2, t3, t4, t5, t6, t7, t8, t9, t10, t11, t12, t13, t14, t15, t16⟩ := id hT
  obtain ⟨p1, p2, p3, p4, p5, p6⟩ := id hP
  obtain ⟨f1, f2, f3, f4, f5⟩ := id hF
  obtain ⟨x1, x2, x3, x4, x5, x6, x7⟩ := id hX
  refine mx_q (fun Qx hQx => ?_)
  refine mx_go 200 zq_t119 ?_
  show ((p0 : Int32).toInt < 0 ∨ 8 < (p0 : Int32).toInt → Qx (some (.int (-2))) M) ∧ ((p0 : Int32).toInt = 0 → Qx (some (.int (M 1 3))) M) ∧ ((p0 : Int32).toInt = 1 → Qx (some (.int (M 5 4))) M) ∧ ((p0 : Int32).toInt = 2 → Qx (some (.int (M 10 2))) M) ∧ ((p0 : Int32).toInt = 3 → Qx (some (.int (M 30 7))) M) ∧ ((p0 : Int32).toInt = 4 → Qx (some (.int (M 38 2))) M) ∧ ((p0 : Int32).toInt = 5 → Qx (some (.int (M 30 8))) M) ∧ ((p0 : Int32).toInt = 6 → Qx (some (.int (M 13 4))) M) ∧ ((p0 : Int32).toInt = 7 → Qx (some (.int (M 18 5))) M) ∧ ((p0 : Int32).toInt = 8 → Qx (some (.int (M 13 5))) M)
  refine ⟨fun q1 => ?_, fun q1 => ?_, fun q1 => ?_, fun q1 => ?_, fun q1 => ?_, fun q1 => ?_, fun q1 => ?_, fun q1 => ?_, fun q1 => ?_, fun q1 => ?_⟩
  · refine hQx _ _ ⟨(-2), rfl, ?_⟩
    refine mx_q (fun Qm hQm => ?_)
    refine mx_go 200 zq_t222 ?_
    show ((p0 : Int32).toInt < 0 ∨ 8 < (p0 : Int32).toInt → Qm (some (.int (-2))) M) ∧ ((p0 : Int32).toInt = 0 → Qm (some (.int (M 48 0))) M) ∧ ((p0 : Int32).toInt = 1 → Qm (some (.int (M 48 1))) M) ∧ ((p0 : Int32).toInt = 2 → Qm (some (.int (M 48 2))) M) ∧ ((p0 : Int32).toInt = 3 → Qm (some (.int (M 48 32))) M) ∧ ((p0 : Int32).toInt = 4 → Qm (some (.int (M 48 37))) M) ∧ ((p0 : Int32).toInt = 5 → Qm (some (.int (M 48 39))) M) ∧ ((p0 : Int32).toInt = 6 → Qm (some (.int (M 48 11))) M) ∧ ((p0 : Int32).toInt = 7 → Qm (some (.int (M 48 13))) M) ∧ ((p0 : Int32).toInt = 8 → Qm (some (.int (M 48 12))) M)
    refine ⟨fun q2 => ?_, fun q2 => by exfalso; (simp only [n_lt, n_le, n_eq, n_add, n_sub, n_mul, n_neg, n_lit, zw] at *; omega), fun q2 => by exfalso; (simp only [n_lt, n_le, n_eq, n_add, n_sub, n_mul, n_neg, n_lit, zw] at *; omega), fun q2 => by exfalso; (simp only [n_lt, n_le, n_eq, n_add, n_sub, n_mul, n_neg, n_lit, zw] at *; omega), fun q2 => by exfalso; (simp only [n_lt, n_le, n_eq, n_add, n_sub, n_mul, n_neg, n_lit, zw] at *; omega), fun q2 => by exfalso; (simp only [n_lt, n_le, n_eq, n_add, n_sub, n_mul, n_neg, n_lit, zw] at *; omega), fun q2 => by exfalso; (simp only [n_lt, n_le, n_eq, n_add, n_sub, n_mul, n_neg, n_lit, zw] at *; omega), fun q2 => by exfalso; (simp only [n_lt, n_le, n_eq, n_add, n_sub, n_mul, n_neg, n_lit, zw] at *; omega), fun q2 => by exfalso; (simp only [n_lt, n_le, n_eq, n_add, n_sub, n_mul, n_neg, n_lit, zw] at *; omega), fun q2 => by exfalso; (simp only [n_lt, n_le, n_eq, n_add, n_sub, n_mul, n_neg, n_lit, zw] at *; omega)⟩
    refine hQm _ _ ⟨by first | rfl | simp only [s1, s2, s3, a1, a2, a3, a4, a5, h1, h2, h3, t1, t2, t3, t4, t5, t6, t7, p1, f1, f2, x1, x2], ?_⟩
    exact hR
  · refine hQx _ _ ⟨(M 1 3), rfl, ?_⟩
    refine mx_q (fun Qm hQm => ?_)
    refine mx_go 200 zq_t222 ?_
    show ((p0 : Int32).toInt < 0 ∨ 8 < (p0 : Int32).toInt → Qm (some (.int (-2))) M) ∧ ((p0 : Int32).toInt = 0 → Qm (some (.int (M 48 0))) M) ∧ ((p0 : Int32).toInt = 1 → Qm (some (.int (M 48 1))) M) ∧ ((p0 : Int32).toInt = 2 → Qm (some (.int (M 48 2))) M) ∧ ((p0 : Int32).toInt = 3 → Qm (some (.int (M 48 32))) M) ∧ ((p0 : Int32).toInt = 4 → Qm (some (.int (M 48 37))) M) ∧ ((p0 : Int32).toInt = 5 → Qm (some (.int (M 48 39))) M) ∧ ((p0 : Int32).toInt = 6 → Qm (some (.int (M 48 11))) M) ∧ ((p0 : Int32).toInt = 7 → Qm (some (.int (M 48 13))) M) ∧ ((p0 : Int32).toInt = 8 → Qm (some (.int (M 48 12))) M)
    refine ⟨fun q2 => by exfalso; (simp only [n_lt, n_le, n_eq, n_add, n_sub, n_mul, n_neg, n_lit, zw] at *; omega), fun q2 => ?_, fun q2 => by exfalso; (simp only [n_lt, n_le, n_eq, n_add, n_sub, n_mul, n_neg, n_lit, zw] at *; omega), fun q2 => by exfalso; (simp only [n_lt, n_le, n_eq, n_add, n_sub, n_mul, n_neg, n_lit, zw] at *; omega), fun q2 => by exfalso; (simp only [n_lt, n_le, n_eq, n_add, n_sub, n_mul, n_neg, n_lit, zw] at *; omega), fun q2 => by exfalso; (simp only [n_lt, n_le, n_eq, n_add, n_sub, n_mul, n_neg, n_lit, zw] at *; omega), fun q2 => by exfalso; (simp only [n_lt, n_le, n_eq, n_add, n_sub, n_mul, n_neg, n_lit, zw] at *; omega), fun q2 => by exfalso; (simp only [n_lt, n_le, n_eq, n_add, n_sub, n_mul, n_neg, n_lit, zw] at *; omega), fun q2 => by exfalso; (simp only [n_lt, n_le, n_eq, n_add, n_sub, n_mul, n_neg, n_lit, zw] at *; omega), fun q2 => by exfalso; (simp only [n_lt, n_le, n_eq, n_add, n_sub, n_mul, n_neg, n_lit, zw] at *; omega)⟩
    refine hQm _ _ ⟨by first | rfl | simp only [s1, s2, s3, a1, a2, a3, a4, a5, h1, h2, h3, t1, t2, t3, t4, t5, t6, t7, p1, f1, f2, x1, x2], ?_⟩
    exact hR
  · refine hQx _ _ ⟨(M 5 4), rfl, ?_⟩
    refine mx_q (fun Qm hQm => ?_)
    refine mx_go 200 zq_t222 ?_
    show ((p0 : Int32).toInt < 0 ∨ 8 < (p0 : Int32).toInt → Qm (some (.int (-2))) M) ∧ ((p0 : Int32).toInt = 0 → Qm (some (.int (M 48 0))) M) ∧ ((p0 : Int32).toInt = 1 → Qm (some (.int (M 48 1))) M) ∧ ((p0 : Int32).toInt = 2 → Qm (some (.int (M 48 2))) M) ∧ ((p0 : Int32).toInt = 3 → Qm (some (.int (M 48 32))) M) ∧ ((p0 : Int32).toInt = 4 → Qm (some (.int (M 48 37))) M) ∧ ((p0 : Int32).toInt = 5 → Qm (some (.int (M 48 39))) M) ∧ ((p0 : Int32).toInt = 6 → Qm (some (.int (M 48 11))) M) ∧ ((p0 : Int32).toInt = 7 → Qm (some (.int (M 48 13))) M) ∧ ((p0 : Int32).toInt = 8 → Qm (some (.int (M 48 12))) M)
    refine ⟨fun q2 => by exfalso; (simp only [n_lt, n_le, n_eq, n_add, n_sub, n_mul, n_neg, n_lit, zw] at *; omega), fun q2 => by exfalso; (simp only [n_lt, n_le, n_eq, n_add, n_sub, n_mul, n_neg, n_lit, zw] at *; omega), fun q2 => ?_, fun q2 => by exfalso; (simp only [n_lt, n_le, n_eq, n_add, n_sub, n_mul, n_neg, n_lit, zw] at *; omega), fun q2 => by exfalso; (simp only [n_lt, n_le, n_eq, n_add, n_sub, n_mul, n_neg, n_lit, zw] at *; omega), fun q2 => by exfalso; (simp only [n_lt, n_le, n_eq, n_add, n_sub, n_mul, n_neg, n_lit, zw] at *; omega), fun q2 => by exfalso; (simp only [n_lt, n_le, n_eq, n_add, n_sub, n_mul, n_neg, n_lit, zw] at *; omega), fun q2 => by exfalso; (simp only [n_lt, n_le, n_eq, n_add, n_sub, n_mul, n_neg, n_lit, zw] at *; omega), fun q2 => by exfalso; (simp only [n_lt, n_le, n_eq, n_add, n_sub, n_mul, n_neg, n_lit, zw] at *; omega), fun q2 => by exfalso; (simp only [n_lt, n_le, n_eq, n_add, n_sub, n_mul, n_neg, n_lit, zw] at *; omega)⟩
    refine hQm _ _ ⟨by first | rfl | simp only [s1, s2, s3, a1, a2, a3, a4, a5, h1, h2, h3, t1, t2, t3, t4, t5, t6, t7, p1, f1, f2, x1, x2], ?_⟩
    exact hR
  · refine hQx _ _ ⟨(M 10 2), rfl, ?_⟩
    refine mx_q (fun Qm hQm => ?_)
    refine mx_go 200 zq_t222 ?_
    show ((p0 : Int32).toInt < 0 ∨ 8 < (p0 : Int32).toInt → Qm (some (.int (-2))) M) ∧ ((p0 : Int32).toInt = 0 → Qm (some (.int (M 48 0))) M) ∧ ((p0 : Int32).toInt = 1 → Qm (some (.int (M 48 1))) M) ∧ ((p0 : Int32).toInt = 2 → Qm (some (.int (M 48 2))) M) ∧ ((p0 : Int32).toInt = 3 → Qm (some (.int (M 48 32))) M) ∧ ((p0 : Int32).toInt = 4 → Qm (some (.int (M 48 37))) M) ∧ ((p0 : Int32).toInt = 5 → Qm (some (.int (M 48 39))) M) ∧ ((p0 : Int32).toInt = 6 → Qm (some (.int (M 48 11))) M) ∧ ((p0 : Int32).toInt = 7 → Qm (some (.int (M 48 13))) M) ∧ ((p0 : Int32).toInt = 8 → Qm (some (.int (M 48 12))) M)
    refine ⟨fun q2 => by exfalso; (simp only [n_lt, n_le, n_eq, n_add, n_sub, n_mul, n_neg, n_lit, zw] at *; omega), fun q2 => by exfalso; (simp only [n_lt, n_le, n_eq, n_add, n_sub, n_mul, n_neg, n_lit, zw] at *; omega), fun q2 => by exfalso; (simp only [n_lt, n_le, n_eq, n_add, n_sub, n_mul, n_neg, n_lit, zw] at *; omega), fun q2 => ?_, fun q2 => by exfalso; (simp only [n_lt, n_le, n_eq, n_add, n_sub, n_mul, n_neg, n_lit, zw] at *; omega), fun q2 => by exfalso; (simp only [n_lt, n_le, n_eq, n_add, n_sub, n_mul, n_neg, n_lit, zw] at *; omega), fun q2 => by exfalso; (simp only [n_lt, n_le, n_eq, n_add, n_sub, n_mul, n_neg, n_lit, zw] at *; omega), fun q2 => by exfalso; (simp only [n_lt, n_le, n_eq, n_add, n_sub, n_mul, n_neg, n_lit, zw] at *; omega), fun q2 => by exfalso; (simp only [n_lt, n_le, n_eq, n_add, n_sub, n_mul, n_neg, n_lit, zw] at *; omega), fun q2 => by exfalso; (simp only [n_lt, n_le, n_eq, n_add, n_sub, n_mul, n_neg, n_lit, zw] at *; omega)⟩
    refine hQm _ _ ⟨by first | rfl | simp only [s1, s2, s3, a1, a2, a3, a4, a5, h1, h2, h3, t1, t2, t3, t4, t5, t6, t7, p1, f1, f2, x1, x2], ?_⟩
    exact hR
  · refine hQx _ _ ⟨(M 30 7), rfl, ?_⟩
    refine mx_q (fun Qm hQm => ?_)
    refine mx_go 200 zq_t222 ?_
    show ((p0 : Int32).toInt < 0 ∨ 8 < (p0 : Int32).toInt → Qm (some (.int (-2))) M) ∧ ((p0 : Int32).toInt = 0 → Qm (some (.int (M 48 0))) M) ∧ ((p0 : Int32).toInt = 1 → Qm (some (.int (M 48 1))) M) ∧ ((p0 : Int32).toInt = 2 → Qm (some (.int (M 48 2))) M) ∧ ((p0 : Int32).toInt = 3 → Qm (some (.int (M 48 32))) M) ∧ ((p0 : Int32).toInt = 4 → Qm (some (.int (M 48 37))) M) ∧ ((p0 : Int32).toInt = 5 → Qm (some (.int (M 48 39))) M) ∧ ((p0 : Int32).toInt = 6 → Qm (some (.int (M 48 11))) M) ∧ ((p0 : Int32).toInt = 7 → Qm (some (.int (M 48 13))) M) ∧ ((p0 : Int32).toInt = 8 → Qm (some (.int (M 48 12))) M)
    refine ⟨fun q2 => by exfalso; (simp only [n_lt, n_le, n_eq, n_add, n_sub, n_mul, n_neg, n_lit, zw] at *; omega), fun q2 => by exfalso; (simp only [n_lt, n_le, n_eq, n_add, n_sub, n_mul, n_neg, n_lit, zw] at *; omega), fun q2 => by exfalso; (simp only [n_lt, n_le, n_eq, n_add, n_sub, n_mul, n_neg, n_lit, zw] at *; omega), fun q2 => by exfalso; (simp only [n_lt, n_le, n_eq, n_add, n_sub, n_mul, n_neg, n_lit, zw] at *; omega), fun q2 => ?_, fun q2 => by exfalso; (simp only [n_lt, n_le, n_eq, n_add, n_sub, n_mul, n_neg, n_lit, zw] at *; omega), fun q2 => by exfalso; (simp only [n_lt, n_le, n_eq, n_add, n_sub, n_mul, n_neg, n_lit, zw] at *; omega), fun q2 => by exfalso; (simp only [n_lt, n_le, n_eq, n_add, n_sub, n_mul, n_neg, n_lit, zw] at *; omega), fun q2 => by exfalso; (simp only [n_lt, n_le, n_eq, n_add, n_sub, n_mul, n_neg, n_lit, zw] at *; omega), fun q2 => by exfalso; (simp only [n_lt, n_le, n_eq, n_add, n_sub, n_mul, n_neg, n_lit, zw] at *; omega)⟩
    refine hQm _ _ ⟨by first | rfl | simp only [s1, s2, s3, a1, a2, a3, a4, a5, h1, h2, h3, t1, t2, t3, t4, t5, t6, t7, p1, f1, f2, x1, x2], ?_⟩
    exact hR
  · refine hQx _ _ ⟨(M 38 2), rfl, ?_⟩
    refine mx_q (fun Qm hQm => ?_)
    refine mx_go 200 zq_t222 ?_
    show ((p0 : Int32).toInt < 0 ∨ 8 < (p0 : Int32).toInt → Qm (some (.int (-2))) M) ∧ ((p0 : Int32).toInt = 0 → Qm (some (.int (M 48 0))) M) ∧ ((p0 : Int32).toInt = 1 → Qm (some (.int (M 48 1))) M) ∧ ((p0 : Int32).toInt = 2 → Qm (some (.int (M 48 2))) M) ∧ ((p0 : Int32).toInt = 3 → Qm (some (.int (M 48 32))) M) ∧ ((p0 : Int32).toInt = 4 → Qm (some (.int (M 48 37))) M) ∧ ((p0 : Int32).toInt = 5 → Qm (some (.int (M 48 39))) M) ∧ ((p0 : Int32).toInt = 6 → Qm (some (.int (M 48 11))) M) ∧ ((p0 : Int32).toInt = 7 → Qm (some (.int (M 48 13))) M) ∧ ((p0 : Int32).toInt = 8 → Qm (some (.int (M 48 12))) M)
    refine ⟨fun q2 => by exfalso; (simp only [n_lt, n_le, n_eq, n_add, n_sub, n_mul, n_neg, n_lit, zw] at *; omega), fun q2 => by exfalso; (simp only [n_lt, n_le, n_eq, n_add, n_sub, n_mul, n_neg, n_lit, zw] at *; omega), fun q2 => by exfalso; (simp only [n_lt, n_le, n_eq, n_add, n_sub, n_mul, n_neg, n_lit, zw] at *; omega), fun q2 => by exfalso; (simp only [n_lt, n_le, n_eq, n_add, n_sub, n_mul, n_neg, n_lit, zw] at *; omega), fun q2 => by exfalso; (simp only [n_lt, n_le, n_eq, n_add, n_sub, n_mul, n_neg, n_lit, zw] at *; omega), fun q2 => ?_, fun q2 => by exfalso; (simp only [n_lt, n_le, n_eq, n_add, n_sub, n_mul, n_neg, n_lit, zw] at *; omega), fun q2 => by exfalso; (simp only [n_lt, n_le, n_eq, n_add, n_sub, n_mul, n_neg, n_lit, zw] at *; omega), fun q2 => by exfalso; (simp only [n_lt, n_le, n_eq, n_add, n_sub, n_mul, n_neg, n_lit, zw] at *; omega), fun q2 => by exfalso; (simp only [n_lt, n_le, n_eq, n_add, n_sub, n_mul, n_neg, n_lit, zw] at *; omega)⟩
    refine hQm _ _ ⟨by first | rfl | simp only [s1, s2, s3, a1, a2, a3, a4, a5, h1, h2, h3, t1, t2, t3, t4, t5, t6, t7, p1, f1, f2, x1, x2], ?_⟩
    exact hR
  · refine hQx _ _ ⟨(M 30 8), rfl, ?_⟩
    refine mx_q (fun Qm hQm => ?_)
    refine mx_go 200 zq_t222 ?_
    show ((p0 : Int32).toInt < 0 ∨ 8 < (p0 : Int32).toInt → Qm (some (.int (-2))) M) ∧ ((p0 : Int32).toInt = 0 → Qm (some (.int (M 48 0))) M) ∧ ((p0 : Int32).toInt = 1 → Qm (some (.int (M 48 1))) M) ∧ ((p0 : Int32).toInt = 2 → Qm (some (.int (M 48 2))) M) ∧ ((p0 : Int32).toInt = 3 → Qm (some (.int (M 48 32))) M) ∧ ((p0 : Int32).toInt = 4 → Qm (some (.int (M 48 37))) M) ∧ ((p0 : Int32).toInt = 5 → Qm (some (.int (M 48 39))) M) ∧ ((p0 : Int32).toInt = 6 → Qm (some (.int (M 48 11))) M) ∧ ((p0 : Int32).toInt = 7 → Qm (some (.int (M 48 13))) M) ∧ ((p0 : Int32).toInt = 8 → Qm (some (.int (M 48 12))) M)
    refine ⟨fun q2 => by exfalso; (simp only [n_lt, n_le, n_eq, n_add, n_sub, n_mul, n_neg, n_lit, zw] at *; omega), fun q2 => by exfalso; (simp only [n_lt, n_le, n_eq, n_add, n_sub, n_mul, n_neg, n_lit, zw] at *; omega), fun q2 => by exfalso; (simp only [n_lt, n_le, n_eq, n_add, n_sub, n_mul, n_neg, n_lit, zw] at *; omega), fun q2 => by exfalso; (simp only [n_lt, n_le, n_eq, n_add, n_sub, n_mul, n_neg, n_lit, zw] at *; omega), fun q2 => by exfalso; (simp only [n_lt, n_le, n_eq, n_add, n_sub, n_mul, n_neg, n_lit, zw] at *; omega), fun q2 => by exfalso; (simp only [n_lt, n_le, n_eq, n_add, n_sub, n_mul, n_neg, n_lit, zw] at *; omega), fun q2 => ?_, fun q2 => by exfalso; (simp only [n_lt, n_le, n_eq, n_add, n_sub, n_mul, n_neg, n_lit, zw] at *; omega), fun q2 => by exfalso; (simp only [n_lt, n_le, n_eq, n_add, n_sub, n_mul, n_neg, n_lit, zw] at *; omega), fun q2 => by exfalso; (simp only [n_lt, n_le, n_eq, n_add, n_sub, n_mul, n_neg, n_lit, zw] at *; omega)⟩
    refine hQm _ _ ⟨by first | rfl | simp only [s1, s2, s3, a1, a2, a3, a4, a5, h1, h2, h3, t1, t2, t3, t4, t5, t6, t7, p1, f1, f2, x1, x2], ?_⟩
    exact hR
  · refine hQx _ _ ⟨(M 13 4), rfl, ?_⟩
    refine mx_q (fun Qm hQm => ?_)
    refine mx_go 200 zq_t222 ?_
    show ((p0 : Int32).toInt < 0 ∨ 8 < (p0 : Int32).toInt → Qm (some (.int (-2))) M) ∧ ((p0 : Int32).toInt = 0 → Qm (some (.int (M 48 0))) M) ∧ ((p0 : Int32).toInt = 1 → Qm (some (.int (M 48 1))) M) ∧ ((p0 : Int32).toInt = 2 → Qm (some (.int (M 48 2))) M) ∧ ((p0 : Int32).toInt = 3 → Qm (some (.int (M 48 32))) M) ∧ ((p0 : Int32).toInt = 4 → Qm (some (.int (M 48 37))) M) ∧ ((p0 : Int32).toInt = 5 → Qm (some (.int (M 48 39))) M) ∧ ((p0 : Int32).toInt = 6 → Qm (some (.int (M 48 11))) M) ∧ ((p0 : Int32).toInt = 7 → Qm (some (.int (M 48 13))) M) ∧ ((p0 : Int32).toInt = 8 → Qm (some (.int (M 48 12))) M)
    refine ⟨fun q2 => by exfalso; (simp only [n_lt, n_le, n_eq, n_add, n_sub, n_mul, n_neg, n_lit, zw] at *; omega), fun q2 => by exfalso; (simp only [n_lt, n_le, n_eq, n_add, n_sub, n_mul, n_neg, n_lit, zw] at *; omega), fun q2 => by exfalso; (simp only [n_lt, n_le, n_eq, n_add, n_sub, n_mul, n_neg, n_lit, zw] at *; omega), fun q2 => by exfalso; (simp only [n_lt, n_le, n_eq, n_add, n_sub, n_mul, n_neg, n_lit, zw] at *; omega), fun q2 => by exfalso; (simp only [n_lt, n_le, n_eq, n_add, n_sub, n_mul, n_neg, n_lit, zw] at *; omega), fun q2 => by exfalso; (simp only [n_lt, n_le, n_eq, n_add, n_sub, n_mul, n_neg, n_lit, zw] at *; omega), fun q2 => by exfalso; (simp only [n_lt, n_le, n_eq, n_add, n_sub, n_mul, n_neg, n_lit, zw] at *; omega), fun q2 => ?_, fun q2 => by exfalso; (simp only [n_lt, n_le, n_eq, n_add, n_sub, n_mul, n_neg, n_lit, zw] at *; omega), fun q2 => by exfalso; (simp only [n_lt, n_le, n_eq, n_add, n_sub, n_mul, n_neg, n_lit, zw] at *; omega)⟩
    refine hQm _ _ ⟨by first | rfl | simp only [s1, s2, s3, a1, a2, a3, a4, a5, h1, h2, h3, t1, t2, t3, t4, t5, t6, t7, p1, f1, f2, x1, x2], ?_⟩
    exact hR
  · refine hQx _ _ ⟨(M 18 5), rfl, ?_⟩
    refine mx_q (fun Qm hQm => ?_)
    refine mx_go 200 zq_t222 ?_
    show ((p0 : Int32).toInt < 0 ∨ 8 < (p0 : Int32).toInt → Qm (some (.int (-2))) M) ∧ ((p0 : Int32).toInt = 0 → Qm (some (.int (M 48 0))) M) ∧ ((p0 : Int32).toInt = 1 → Qm (some (.int (M 48 1))) M) ∧ ((p0 : Int32).toInt = 2 → Qm (some (.int (M 48 2))) M) ∧ ((p0 : Int32).toInt = 3 → Qm (some (.int (M 48 32))) M) ∧ ((p0 : Int32).toInt = 4 → Qm (some (.int (M 48 37))) M) ∧ ((p0 : Int32).toInt = 5 → Qm (some (.int (M 48 39))) M) ∧ ((p0 : Int32).toInt = 6 → Qm (some (.int (M 48 11))) M) ∧ ((p0 : Int32).toInt = 7 → Qm (some (.int (M 48 13))) M) ∧ ((p0 : Int32).toInt = 8 → Qm (some (.int (M 48 12))) M)
    refine ⟨fun q2 => by exfalso; (simp only [n_lt, n_le, n_eq, n_add, n_sub, n_mul, n_neg, n_lit, zw] at *; omega), fun q2 => by exfalso; (simp only [n_lt, n_le, n_eq, n_add, n_sub, n_mul, n_neg, n_lit, zw] at *; omega), fun q2 => by exfalso; (simp only [n_lt, n_le, n_eq, n_add, n_sub, n_mul, n_neg, n_lit, zw] at *; omega), fun q2 => by exfalso; (simp only [n_lt, n_le, n_eq, n_add, n_sub, n_mul, n_neg, n_lit, zw] at *; omega), fun q2 => by exfalso; (simp only [n_lt, n_le, n_eq, n_add, n_sub, n_mul, n_neg, n_lit, zw] at *; omega), fun q2 => by exfalso; (simp only [n_lt, n_le, n_eq, n_add, n_sub, n_mul, n_neg, n_lit, zw] at *; omega), fun q2 => by exfalso; (simp only [n_lt, n_le, n_eq, n_add, n_sub, n_mul, n_neg, n_lit, zw] at *; omega), fun q2 => by exfalso; (simp only [n_lt, n_le, n_eq, n_add, n_sub, n_mul, n_neg, n_lit, zw] at *; omega), fun q2 => ?_, fun q2 => by exfalso; (simp only [n_lt, n_le, n_eq, n_add, n_sub, n_mul, n_neg, n_lit, zw] at *; omega)⟩
    refine hQm _ _ ⟨by first | rfl | simp only [s1, s2, s3, a1, a2, a3, a4, a5, h1, h2, h3, t1, t2, t3, t4, t5, t6, t7, p1, f1, f2, x1, x2], ?_⟩
    exact hR
  · refine hQx _ _ ⟨(M 13 5), rfl, ?_⟩
    refine mx_q (fun Qm hQm => ?_)
    refine mx_go 200 zq_t222 ?_
    show ((p0 : Int32).toInt < 0 ∨ 8 < (p0 : Int32).toInt → Qm (some (.int (-2))) M) ∧ ((p0 : Int32).toInt = 0 → Qm (some (.int (M 48 0))) M) ∧ ((p0 : Int32).toInt = 1 → Qm (some (.int (M 48 1))) M) ∧ ((p0 : Int32).toInt = 2 → Qm (some (.int (M 48 2))) M) ∧ ((p0 : Int32).toInt = 3 → Qm (some (.int (M 48 32))) M) ∧ ((p0 : Int32).toInt = 4 → Qm (some (.int (M 48 37))) M) ∧ ((p0 : Int32).toInt = 5 → Qm (some (.int (M 48 39))) M) ∧ ((p0 : Int32).toInt = 6 → Qm (some (.int (M 48 11))) M) ∧ ((p0 : Int32).toInt = 7 → Qm (some (.int (M 48 13))) M) ∧ ((p0 : Int32).toInt = 8 → Qm (some (.int (M 48 12))) M)
    refine ⟨fun q2 => by exfalso; (simp only [n_lt, n_le, n_eq, n_add, n_sub, n_mul, n_neg, n_lit, zw] at *; omega), fun q2 => by exfalso; (simp only [n_lt, n_le, n_eq, n_add, n_sub, n_mul, n_neg, n_lit, zw] at *; omega), fun q2 => by exfalso; (simp only [n_lt, n_le, n_eq, n_add, n_sub, n_mul, n_neg, n_lit, zw] at *; omega), fun q2 => by exfalso; (simp only [n_lt, n_le, n_eq, n_add, n_sub, n_mul, n_neg, n_lit, zw] at *; omega), fun q2 => by exfalso; (simp only [n_lt, n_le, n_eq, n_add, n_sub, n_mul, n_neg, n_lit, zw] at *; omega), fun q2 => by exfalso; (simp only [n_lt, n_le, n_eq, n_add, n_sub, n_mul, n_neg, n_lit, zw] at *; omega), fun q2 => by exfalso; (simp only [n_lt, n_le, n_eq, n_add, n_sub, n_mul, n_neg, n_lit, zw] at *; omega), fun q2 => by exfalso; (simp only [n_lt, n_le, n_eq, n_add, n_sub, n_mul, n_neg, n_lit, zw] at *; omega), fun q2 => by exfalso; (simp only [n_lt, n_le, n_eq, n_add, n_sub, n_mul, n_neg, n_lit, zw] at *; omega), fun q2 => ?_⟩
    refine hQm _ _ ⟨by first | rfl | simp only [s1, s2, s3, a1, a2, a3, a4, a5, h1, h2, h3, t1, t2, t3, t4, t5, t6, t7, p1, f1, f2, x1, x2], ?_⟩
    exact hR

set_option maxHeartbeats 4000000 in
theorem op_peg {g : zq_G} {d : Nat} {M : zq_M} {p0 : Int32} (hR : RR M) : pri g (d + 6) kX11_peg kX12_peg [.ref 0, .int (p0)] [.ref 48, .int (p0)] M := by
  obtain ⟨hS, hN, hH, hT, hP, hI, hE, hF, hX, hV⟩ := id hR
  obtain ⟨p1, p2, p3, p4, p5, p6⟩ := id hP
  refine mx_q (fun Qx hQx => ?_)
  refine mx_go 200 zq_t107 ?_
  show mx g (d + 5) kX11_isPlace 0 [.int (p0)] [] M _
  refine c_X11_isPlace (fun k1 k2 => ?_) (fun k3 => ?_)
  · show (¬ (1 : Int32) = 0 → mx g (d + 5) kX3_put 0 [.ref 38, .int (p0)] [] M _) ∧ ((1 : Int32) = 0 → Qx (some (.int (-2))) M)
    refine ⟨fun _ => ?_, fun q4 => absurd q4 (by decide)⟩
    refine mx_q (fun Q5 hQ5 => ?_)
    refine mx_go 200 zq_t15 ?_
    show (((M 38 2) : Int32) < (8 : Int32) → (¬ (64 : Int32) = 0) ∧ vp_in (M 38 2) 8 ∧ (¬ (64 : Int32) = 0) ∧ vp_in (M 38 2) 8 ∧ Q5 (some (.int ((M 38 2) + 1))) (zq_mu (zq_ma (zq_ma M 39 (upd (M 39) (Int32.toNatClampNeg (M 38 2)) (p0 - p0 / 64 * 64))) 40 (upd (M 40) (Int32.toNatClampNeg (M 38 2)) (p0 / 64))) 38 2 ((M 38 2) + 1))) ∧ (¬ ((M 38 2) : Int32) < (8 : Int32) → Q5 (some (.int (-4))) M)
    refine ⟨fun q6 => ?_, fun q6 => ?_⟩
    · refine ⟨(by decide), ?_⟩
      refine ⟨(n_in (by (simp only [n_lt, n_le, n_eq, n_add, n_sub, n_mul, n_neg, n_lit, zw] at *; omega)) (by (simp only [n_lt, n_le, n_eq, n_add, n_sub, n_mul, n_neg, n_lit, zw] at *; omega))), ?_⟩
      refine ⟨(by decide), ?_⟩
      refine ⟨(n_in (by (simp only [n_lt, n_le, n_eq, n_add, n_sub, n_mul, n_neg, n_lit, zw] at *; omega)) (by (simp only [n_lt, n_le, n_eq, n_add, n_sub, n_mul, n_neg, n_lit, zw] at *; omega))), ?_⟩
      refine hQ5 _ _ ?_
      show Qx (some (.int ((M 38 2) + 1))) (zq_mu (zq_ma (zq_ma M 39 (upd (M 39) (Int32.toNatClampNeg (M 38 2)) (p0 - p0 / 64 * 64))) 40 (upd (M 40) (Int32.toNatClampNeg (M 38 2)) (p0 / 64))) 38 2 ((M 38 2) + 1))
      refine hQx _ _ ⟨((M 38 2) + 1), rfl, ?_⟩
      refine mx_q (fun Qm hQm => ?_)
      refine mx_go 200 zq_t202 ?_
      show mx g (d + 5) kX12_in 0 [.ref 48, .int (p0), .int (0), .int (4095)] [] (zq_mu (zq_ma (zq_ma M 39 (upd (M 39) (Int32.toNatClampNeg (M 38 2)) (p0 - p0 / 64 * 64))) 40 (upd (M 40) (Int32.toNatClampNeg (M 38 2)) (p0 / 64))) 38 2 ((M 38 2) + 1)) _
      refine c_X12_in (fun k7 k8 => ?_) (fun k9 => by exfalso; (simp only [n_lt, n_le, n_eq, n_add, n_sub, n_mul, n_neg, n_lit, zw] at *; omega))
      show (¬ (1 : Int32) = 0 → (¬ ((M 48 37) : Int32) = (8 : Int32) → vp_in (M 48 37) 8 ∧ Qm (some (.int ((M 48 37) + 1))) (zq_mu (zq_ma (zq_mu (zq_ma (zq_ma M 39 (upd (M 39) (Int32.toNatClampNeg (M 38 2)) (p0 - p0 / 64 * 64))) 40 (upd (M 40) (Int32.toNatClampNeg (M 38 2)) (p0 / 64))) 38 2 ((M 38 2) + 1)) 71 (upd (M 71) (Int32.toNatClampNeg (M 48 37)) p0)) 48 37 ((M 48 37) + 1))) ∧ (((M 48 37) : Int32) = (8 : Int32) → Qm (some (.int (-4))) (zq_mu (zq_ma (zq_ma M 39 (upd (M 39) (Int32.toNatClampNeg (M 38 2)) (p0 - p0 / 64 * 64))) 40 (upd (M 40) (Int32.toNatClampNeg (M 38 2)) (p0 / 64))) 38 2 ((M 38 2) + 1)))) ∧ ((1 : Int32) = 0 → Qm (some (.int (-2))) (zq_mu (zq_ma (zq_ma M 39 (upd (M 39) (Int32.toNatClampNeg (M 38 2)) (p0 - p0 / 64 * 64))) 40 (upd (M 40) (Int32.toNatClampNeg (M 38 2)) (p0 / 64))) 38 2 ((M 38 2) + 1)))
      refine ⟨fun _ => ?_, fun q10 => absurd q10 (by decide)⟩
      refine ⟨fun q11 => ?_, fun q11 => by exfalso; (simp only [n_lt, n_le, n_eq, n_add, n_sub, n_mul, n_neg, n_lit, zw] at *; omega)⟩
      refine ⟨(n_in (by (simp only [n_lt, n_le, n_eq, n_add, n_sub, n_mul, n_neg, n_lit, zw] at *; omega)) (by (simp only [n_lt, n_le, n_eq, n_add, n_sub, n_mul, n_neg, n_lit, zw] at *; omega))), ?_⟩
      refine hQm _ _ ⟨by first | rfl | simp only [p1], ?_⟩
      exact ⟨hS, hN, hH, hT, gP_put (n := M 38 2) (q := p0) hP (by (simp only [n_lt, n_le, n_eq, n_add, n_sub, n_mul, n_neg, n_lit, zw] at *; omega)) (by (simp only [n_lt, n_le, n_eq, n_add, n_sub, n_mul, n_neg, n_lit, zw] at *; omega)) (by (simp only [n_lt, n_le, n_eq, n_add, n_sub, n_mul, n_neg, n_lit, zw] at *; omega)), gI_grow (np2 := M 38 2 + 1) hI (Int.le_refl _) (Int.le_refl _) (Int.le_refl _) (Int.le_refl _) (by rw [n_suc p4 (by (simp only [n_lt, n_le, n_eq, n_add, n_sub, n_mul, n_neg, n_lit, zw] at *; omega))]; omega), hE, hF, hX, hV⟩
    · refine hQ5 _ _ ?_
      show Qx (some (.int (-4))) M
      refine hQx _ _ ⟨(-4), rfl, ?_⟩
      refine mx_q (fun Qm hQm => ?_)
      refine mx_go 200 zq_t202 ?_
      show mx g (d + 5) kX12_in 0 [.ref 48, .int (p0), .int (0), .int (4095)] [] M _
      refine c_X12_in (fun k7 k8 => ?_) (fun k9 => by exfalso; (simp only [n_lt, n_le, n_eq, n_add, n_sub, n_mul, n_neg, n_lit, zw] at *; omega))
      show (¬ (1 : Int32) = 0 → (¬ ((M 48 37) : Int32) = (8 : Int32) → vp_in (M 48 37) 8 ∧ Qm (some (.int ((M 48 37) + 1))) (zq_mu (zq_ma M 71 (upd (M 71) (Int32.toNatClampNeg (M 48 37)) p0)) 48 37 ((M 48 37) + 1))) ∧ (((M 48 37) : Int32) = (8 : Int32) → Qm (some (.int (-4))) M)) ∧ ((1 : Int32) = 0 → Qm (some (.int (-2))) M)
      refine ⟨fun _ => ?_, fun q10 => absurd q10 (by decide)⟩
      refine ⟨fun q11 => by exfalso; (simp only [n_lt, n_le, n_eq, n_add, n_sub, n_mul, n_neg, n_lit, zw] at *; omega), fun q11 => ?_⟩
      refine hQm _ _ ⟨by first | rfl | simp only [p1], ?_⟩
      exact hR
  · show (¬ (0 : Int32) = 0 → mx g (d + 5) kX3_put 0 [.ref 38, .int (p0)] [] M _) ∧ ((0 : Int32) = 0 → Qx (some (.int (-2))) M)
    refine ⟨fun q7 => absurd q7 (by decide), fun _ => ?_⟩
    refine hQx _ _ ⟨(-2), rfl, ?_⟩
    refine mx_q (fun Qm hQm => ?_)
    refine mx_go 200 zq_t202 ?_
    show mx g (d + 5) kX12_in 0 [.ref 48, .int (p0), .int (0), .int (4095)] [] M _
    refine c_X12_in (fun k8 k9 => by exfalso; (simp only [n_lt, n_le, n_eq, n_add, n_sub, n_mul, n_neg, n_lit, zw] at *; omega)) (fun k10 => ?_)
    show (¬ (0 : Int32) = 0 → (¬ ((M 48 37) : Int32) = (8 : Int32) → vp_in (M 48 37) 8 ∧ Qm (some (.int ((M 48 37) + 1))) (zq_mu (zq_ma M 71 (upd (M 71) (Int32.toNatClampNeg (M 48 37)) p0)) 48 37 ((M 48 37) + 1))) ∧ (((M 48 37) : Int32) = (8 : Int32) → Qm (some (.int (-4))) M)) ∧ ((0 : Int32) = 0 → Qm (some (.int (-2))) M)
    refine ⟨fun q11 => absurd q11 (by decide), fun _ => ?_⟩
    refine hQm _ _ ⟨by first | rfl | simp only [p1], ?_⟩
    exact hR

set_option maxHeartbeats 4000000 in
theorem op_track {g : zq_G} {d : Nat} {M : zq_M} {p0 p1 p2 : Int32} (hR : RR M) : pri g (d + 6) kX11_track kX12_track [.ref 0, .int (p0), .int (p1), .int (p2)] [.ref 48, .int (p0), .int (p1), .int (p2)] M := by
  obtain ⟨hS, hN, hH, hT, hP, hI, hE, hF, hX, hV⟩ := id hR
  obtain ⟨s1, s2, s3, s4, s5, s6, s7, s8⟩ := id hS
  obtain ⟨t1, t2, t3, t4, t5, t6, t7, t8, t9, t10, t11, t12, t13, t14, t15, t16⟩ := id hT
  refine mx_q (fun Qx hQx => ?_)
  refine mx_go 200 zq_t102 ?_
  show mx g (d + 5) kX7_has 0 [.ref 1, .int (p0)] [] M _
  refine c_X7_has (n := (M 1 3)) rfl (fun k1 k2 => ?_) (fun k3 => ?_)
  · show ((1 : Int32) = 0 → Qx (some (.int (-2))) M) ∧ (¬ (1 : Int32) = 0 → ((p1 : Int32) < 0 → Qx (some (.int (-2))) M) ∧ (¬ (p1 : Int32) < 0 → ((999 : Int32) < (p1 : Int32) → Qx (some (.int (-2))) M) ∧ (¬ (999 : Int32) < (p1 : Int32) → ((p2 : Int32) < 0 → Qx (some (.int (-2))) M) ∧ (¬ (p2 : Int32) < 0 → ((p2 : Int32) ≤ (99 : Int32) → mx g (d + 5) kX9_put 0 [.ref 30, .int (p0), .int (p1), .int (p2)] [] M _) ∧ (¬ (p2 : Int32) ≤ (99 : Int32) → Qx (some (.int (-2))) M)))))
    refine ⟨fun q4 => absurd q4 (by decide), fun _ => ?_⟩
    refine ⟨fun q5 => ?_, fun q5 => ?_⟩
    · refine hQx _ _ ⟨(-2), rfl, ?_⟩
      refine mx_q (fun Qm hQm => ?_)
      refine mx_go 200 zq_t192 ?_
      show mx g (d + 5) kX12_isStone 0 [.ref 48, .int (p0)] [] M _
      refine c_X12_isStone (n := (M 48 0)) rfl (by (simp only [n_lt, n_le, n_eq, n_add, n_sub, n_mul, n_neg, n_lit, zw] at *; omega)) (fun k6 k7 => ?_) (fun k8 => by exfalso; (simp only [n_lt, n_le, n_eq, n_add, n_sub, n_mul, n_neg, n_lit, zw] at *; omega))
      show ((1 : Int32) = 0 → Qm (some (.int (-2))) M) ∧ (¬ (1 : Int32) = 0 → mx g (d + 5) kX12_in 0 [.ref 48, .int (p1), .int (0), .int (999)] [] M _)
      refine ⟨fun q9 => absurd q9 (by decide), fun _ => ?_⟩
      refine c_X12_in (fun k10 k11 => by exfalso; (simp only [n_lt, n_le, n_eq, n_add, n_sub, n_mul, n_neg, n_lit, zw] at *; omega)) (fun k12 => ?_)
      show ((0 : Int32) = 0 → Qm (some (.int (-2))) M) ∧ (¬ (0 : Int32) = 0 → mx g (d + 5) kX12_in 0 [.ref 48, .int (p2), .int (0), .int (99)] [] M _)
      refine ⟨fun _ => ?_, fun q13 => absurd q13 (by decide)⟩
      refine hQm _ _ ⟨by first | rfl | simp only [s1, s2, s3, t1, t2, t3, t4, t5, t6, t7], ?_⟩
      exact hR
    · refine ⟨fun q6 => ?_, fun q6 => ?_⟩
      · refine hQx _ _ ⟨(-2), rfl, ?_⟩
        refine mx_q (fun Qm hQm => ?_)
        refine mx_go 200 zq_t192 ?_
        show mx g (d + 5) kX12_isStone 0 [.ref 48, .int (p0)] [] M _
        refine c_X12_isStone (n := (M 48 0)) rfl (by (simp only [n_lt, n_le, n_eq, n_add, n_sub, n_mul, n_neg, n_lit, zw] at *; omega)) (fun k7 k8 => ?_) (fun k9 => by exfalso; (simp only [n_lt, n_le, n_eq, n_add, n_sub, n_mul, n_neg, n_lit, zw] at *; omega))
        show ((1 : Int32) = 0 → Qm (some (.int (-2))) M) ∧ (¬ (1 : Int32) = 0 → mx g (d + 5) kX12_in 0 [.ref 48, .int (p1), .int (0), .int (999)] [] M _)
        refine ⟨fun q10 => absurd q10 (by decide), fun _ => ?_⟩
        refine c_X12_in (fun k11 k12 => by exfalso; (simp only [n_lt, n_le, n_eq, n_add, n_sub, n_mul, n_neg, n_lit, zw] at *; omega)) (fun k13 => ?_)
        show ((0 : Int32) = 0 → Qm (some (.int (-2))) M) ∧ (¬ (0 : Int32) = 0 → mx g (d + 5) kX12_in 0 [.ref 48, .int (p2), .int (0), .int (99)] [] M _)
        refine ⟨fun _ => ?_, fun q14 => absurd q14 (by decide)⟩
        refine hQm _ _ ⟨by first | rfl | simp only [s1, s2, s3, t1, t2, t3, t4, t5, t6, t7], ?_⟩
        exact hR
      · refine ⟨fun q7 => ?_, fun q7 => ?_⟩
        · refine hQx _ _ ⟨(-2), rfl, ?_⟩
          refine mx_q (fun Qm hQm => ?_)
          refine mx_go 200 zq_t192 ?_
          show mx g (d + 5) kX12_isStone 0 [.ref 48, .int (p0)] [] M _
          refine c_X12_isStone (n := (M 48 0)) rfl (by (simp only [n_lt, n_le, n_eq, n_add, n_sub, n_mul, n_neg, n_lit, zw] at *; omega)) (fun k8 k9 => ?_) (fun k10 => by exfalso; (simp only [n_lt, n_le, n_eq, n_add, n_sub, n_mul, n_neg, n_lit, zw] at *; omega))
          show ((1 : Int32) = 0 → Qm (some (.int (-2))) M) ∧ (¬ (1 : Int32) = 0 → mx g (d + 5) kX12_in 0 [.ref 48, .int (p1), .int (0), .int (999)] [] M _)
          refine ⟨fun q11 => absurd q11 (by decide), fun _ => ?_⟩
          refine c_X12_in (fun k12 k13 => ?_) (fun k14 => by exfalso; (simp only [n_lt, n_le, n_eq, n_add, n_sub, n_mul, n_neg, n_lit, zw] at *; omega))
          show ((1 : Int32) = 0 → Qm (some (.int (-2))) M) ∧ (¬ (1 : Int32) = 0 → mx g (d + 5) kX12_in 0 [.ref 48, .int (p2), .int (0), .int (99)] [] M _)
          refine ⟨fun q15 => absurd q15 (by decide), fun _ => ?_⟩
          refine c_X12_in (fun k16 k17 => by exfalso; (simp only [n_lt, n_le, n_eq, n_add, n_sub, n_mul, n_neg, n_lit, zw] at *; omega)) (fun k18 => ?_)
          show (¬ (0 : Int32) = 0 → (¬ ((M 48 32) : Int32) = (24 : Int32) → vp_in (M 48 32) 24 ∧ vp_in (M 48 32) 24 ∧ vp_in (M 48 32) 24 ∧ Qm (some (.int (((M 48 32) + 1) - 1))) (zq_mu (zq_ma (zq_ma (zq_ma M 67 (upd (M 67) (Int32.toNatClampNeg (M 48 32)) p0)) 68 (upd (M 68) (Int32.toNatClampNeg (M 48 32)) p1)) 69 (upd (M 69) (Int32.toNatClampNeg (M 48 32)) p2)) 48 32 ((M 48 32) + 1))) ∧ (((M 48 32) : Int32) = (24 : Int32) → Qm (some (.int (-4))) M)) ∧ ((0 : Int32) = 0 → Qm (some (.int (-2))) M)
          refine ⟨fun q19 => absurd q19 (by decide), fun _ => ?_⟩
          refine hQm _ _ ⟨by first | rfl | simp only [s1, s2, s3, t1, t2, t3, t4, t5, t6, t7], ?_⟩
          exact hR
        · refine ⟨fun q8 => ?_, fun q8 => ?_⟩
          · refine mx_q (fun Q9 hQ9 => ?_)
            refine mx_go 200 zq_t76 ?_
            show (((M 30 7) : Int32) < (24 : Int32) → vp_in (M 30 7) 24 ∧ vp_in (M 30 7) 24 ∧ vp_in (M 30 7) 24 ∧ Q9 (some (.int (((M 30 7) + 1) - 1))) (zq_mu (zq_ma (zq_ma (zq_ma M 31 (upd (M 31) (Int32.toNatClampNeg (M 30 7)) p0)) 32 (upd (M 32) (Int32.toNatClampNeg (M 30 7)) p1)) 33 (upd (M 33) (Int32.toNatClampNeg (M 30 7)) p2)) 30 7 ((M 30 7) + 1))) ∧ (¬ ((M 30 7) : Int32) < (24 : Int32) → Q9 (some (.int (-4))) M)
            refine ⟨fun q10 => ?_, fun q10 => ?_⟩
            · refine ⟨(n_in (by (simp only [n_lt, n_le, n_eq, n_add, n_sub, n_mul, n_neg, n_lit, zw] at *; omega)) (by (simp only [n_lt, n_le, n_eq, n_add, n_sub, n_mul, n_neg, n_lit, zw] at *; omega))), ?_⟩
              refine ⟨(n_in (by (simp only [n_lt, n_le, n_eq, n_add, n_sub, n_mul, n_neg, n_lit, zw] at *; omega)) (by (simp only [n_lt, n_le, n_eq, n_add, n_sub, n_mul, n_neg, n_lit, zw] at *; omega))), ?_⟩
              refine ⟨(n_in (by (simp only [n_lt, n_le, n_eq, n_add, n_sub, n_mul, n_neg, n_lit, zw] at *; omega)) (by (simp only [n_lt, n_le, n_eq, n_add, n_sub, n_mul, n_neg, n_lit, zw] at *; omega))), ?_⟩
              refine hQ9 _ _ ?_
              show Qx (some (.int (((M 30 7) + 1) - 1))) (zq_mu (zq_ma (zq_ma (zq_ma M 31 (upd (M 31) (Int32.toNatClampNeg (M 30 7)) p0)) 32 (upd (M 32) (Int32.toNatClampNeg (M 30 7)) p1)) 33 (upd (M 33) (Int32.toNatClampNeg (M 30 7)) p2)) 30 7 ((M 30 7) + 1))
              refine hQx _ _ ⟨(((M 30 7) + 1) - 1), rfl, ?_⟩
              refine mx_q (fun Qm hQm => ?_)
              refine mx_go 200 zq_t192 ?_
              show mx g (d + 5) kX12_isStone 0 [.ref 48, .int (p0)] [] (zq_mu (zq_ma (zq_ma (zq_ma M 31 (upd (M 31) (Int32.toNatClampNeg (M 30 7)) p0)) 32 (upd (M 32) (Int32.toNatClampNeg (M 30 7)) p1)) 33 (upd (M 33) (Int32.toNatClampNeg (M 30 7)) p2)) 30 7 ((M 30 7) + 1)) _
              refine c_X12_isStone (n := (M 48 0)) rfl (by (simp only [n_lt, n_le, n_eq, n_add, n_sub, n_mul, n_neg, n_lit, zw] at *; omega)) (fun k11 k12 => ?_) (fun k13 => by exfalso; (simp only [n_lt, n_le, n_eq, n_add, n_sub, n_mul, n_neg, n_lit, zw] at *; omega))
              show ((1 : Int32) = 0 → Qm (some (.int (-2))) (zq_mu (zq_ma (zq_ma (zq_ma M 31 (upd (M 31) (Int32.toNatClampNeg (M 30 7)) p0)) 32 (upd (M 32) (Int32.toNatClampNeg (M 30 7)) p1)) 33 (upd (M 33) (Int32.toNatClampNeg (M 30 7)) p2)) 30 7 ((M 30 7) + 1))) ∧ (¬ (1 : Int32) = 0 → mx g (d + 5) kX12_in 0 [.ref 48, .int (p1), .int (0), .int (999)] [] (zq_mu (zq_ma (zq_ma (zq_ma M 31 (upd (M 31) (Int32.toNatClampNeg (M 30 7)) p0)) 32 (upd (M 32) (Int32.toNatClampNeg (M 30 7)) p1)) 33 (upd (M 33) (Int32.toNatClampNeg (M 30 7)) p2)) 30 7 ((M 30 7) + 1)) _)
              refine ⟨fun q14 => absurd q14 (by decide), fun _ => ?_⟩
              refine c_X12_in (fun k15 k16 => ?_) (fun k17 => by exfalso; (simp only [n_lt, n_le, n_eq, n_add, n_sub, n_mul, n_neg, n_lit, zw] at *; omega))
              show ((1 : Int32) = 0 → Qm (some (.int (-2))) (zq_mu (zq_ma (zq_ma (zq_ma M 31 (upd (M 31) (Int32.toNatClampNeg (M 30 7)) p0)) 32 (upd (M 32) (Int32.toNatClampNeg (M 30 7)) p1)) 33 (upd (M 33) (Int32.toNatClampNeg (M 30 7)) p2)) 30 7 ((M 30 7) + 1))) ∧ (¬ (1 : Int32) = 0 → mx g (d + 5) kX12_in 0 [.ref 48, .int (p2), .int (0), .int (99)] [] (zq_mu (zq_ma (zq_ma (zq_ma M 31 (upd (M 31) (Int32.toNatClampNeg (M 30 7)) p0)) 32 (upd (M 32) (Int32.toNatClampNeg (M 30 7)) p1)) 33 (upd (M 33) (Int32.toNatClampNeg (M 30 7)) p2)) 30 7 ((M 30 7) + 1)) _)
              refine ⟨fun q18 => absurd q18 (by decide), fun _ => ?_⟩
              refine c_X12_in (fun k19 k20 => ?_) (fun k21 => by exfalso; (simp only [n_lt, n_le, n_eq, n_add, n_sub, n_mul, n_neg, n_lit, zw] at *; omega))
              show (¬ (1 : Int32) = 0 → (¬ ((M 48 32) : Int32) = (24 : Int32) → vp_in (M 48 32) 24 ∧ vp_in (M 48 32) 24 ∧ vp_in (M 48 32) 24 ∧ Qm (some (.int (((M 48 32) + 1) - 1))) (zq_mu (zq_ma (zq_ma (zq_ma (zq_mu (zq_ma (zq_ma (zq_ma M 31 (upd (M 31) (Int32.toNatClampNeg (M 30 7)) p0)) 32 (upd (M 32) (Int32.toNatClampNeg (M 30 7)) p1)) 33 (upd (M 33) (Int32.toNatClampNeg (M 30 7)) p2)) 30 7 ((M 30 7) + 1)) 67 (upd (M 67) (Int32.toNatClampNeg (M 48 32)) p0)) 68 (upd (M 68) (Int32.toNatClampNeg (M 48 32)) p1)) 69 (upd (M 69) (Int32.toNatClampNeg (M 48 32)) p2)) 48 32 ((M 48 32) + 1))) ∧ (((M 48 32) : Int32) = (24 : Int32) → Qm (some (.int (-4))) (zq_mu (zq_ma (zq_ma (zq_ma M 31 (upd (M 31) (Int32.toNatClampNeg (M 30 7)) p0)) 32 (upd (M 32) (Int32.toNatClampNeg (M 30 7)) p1)) 33 (upd (M 33) (Int32.toNatClampNeg (M 30 7)) p2)) 30 7 ((M 30 7) + 1)))) ∧ ((1 : Int32) = 0 → Qm (some (.int (-2))) (zq_mu (zq_ma (zq_ma (zq_ma M 31 (upd (M 31) (Int32.toNatClampNeg (M 30 7)) p0)) 32 (upd (M 32) (Int32.toNatClampNeg (M 30 7)) p1)) 33 (upd (M 33) (Int32.toNatClampNeg (M 30 7)) p2)) 30 7 ((M 30 7) + 1)))
              refine ⟨fun _ => ?_, fun q22 => absurd q22 (by decide)⟩
              refine ⟨fun q23 => ?_, fun q23 => by exfalso; (simp only [n_lt, n_le, n_eq, n_add, n_sub, n_mul, n_neg, n_lit, zw] at *; omega)⟩
              refine ⟨(n_in (by (simp only [n_lt, n_le, n_eq, n_add, n_sub, n_mul, n_neg, n_lit, zw] at *; omega)) (by (simp only [n_lt, n_le, n_eq, n_add, n_sub, n_mul, n_neg, n_lit, zw] at *; omega))), ?_⟩
              refine ⟨(n_in (by (simp only [n_lt, n_le, n_eq, n_add, n_sub, n_mul, n_neg, n_lit, zw] at *; omega)) (by (simp only [n_lt, n_le, n_eq, n_add, n_sub, n_mul, n_neg, n_lit, zw] at *; omega))), ?_⟩
              refine ⟨(n_in (by (simp only [n_lt, n_le, n_eq, n_add, n_sub, n_mul, n_neg, n_lit, zw] at *; omega)) (by (simp only [n_lt, n_le, n_eq, n_add, n_sub, n_mul, n_neg, n_lit, zw] at *; omega))), ?_⟩
              refine hQm _ _ ⟨by first | rfl | simp only [s1, s2, s3, t1, t2, t3, t4, t5, t6, t7], ?_⟩
              exact ⟨hS, hN, hH, gT_put (s := M 1 3) (n := M 30 7) (x := p0) (y := p1) (z := p2) hT (by (simp only [n_lt, n_le, n_eq, n_add, n_sub, n_mul, n_neg, n_lit, zw] at *; omega)) (by (simp only [n_lt, n_le, n_eq, n_add, n_sub, n_mul, n_neg, n_lit, zw] at *; omega)) (by (simp only [n_lt, n_le, n_eq, n_add, n_sub, n_mul, n_neg, n_lit, zw] at *; omega)) (by (simp only [n_lt, n_le, n_eq, n_add, n_sub, n_mul, n_neg, n_lit, zw] at *; omega)) (by (simp only [n_lt, n_le, n_eq, n_add, n_sub, n_mul, n_neg, n_lit, zw] at *; omega)) (by (simp only [n_lt, n_le, n_eq, n_add, n_sub, n_mul, n_neg, n_lit, zw] at *; omega)) (by (simp only [n_lt, n_le, n_eq, n_add, n_sub, n_mul, n_neg, n_lit, zw] at *; omega)), hP, gI_grow (nt2 := M 30 7 + 1) hI (Int.le_refl _) (Int.le_refl _) (by rw [n_suc t8 (by (simp only [n_lt, n_le, n_eq, n_add, n_sub, n_mul, n_neg, n_lit, zw] at *; omega))]; omega) (Int.le_refl _) (Int.le_refl _), hE, hF, hX, hV⟩
            · refine hQ9 _ _ ?_
              show Qx (some (.int (-4))) M
              refine hQx _ _ ⟨(-4), rfl, ?_⟩
              refine mx_q (fun Qm hQm => ?_)
              refine mx_go 200 zq_t192 ?_
              show mx g (d + 5) kX12_isStone 0 [.ref 48, .int (p0)] [] M _
              refine c_X12_isStone (n := (M 48 0)) rfl (by (simp only [n_lt, n_le, n_eq, n_add, n_sub, n_mul, n_neg, n_lit, zw] at *; omega)) (fun k11 k12 => ?_) (fun k13 => by exfalso; (simp only [n_lt, n_le, n_eq, n_add, n_sub, n_mul, n_neg, n_lit, zw] at *; omega))
              show ((1 : Int32) = 0 → Qm (some (.int (-2))) M) ∧ (¬ (1 : Int32) = 0 → mx g (d + 5) kX12_in 0 [.ref 48, .int (p1), .int (0), .int (999)] [] M _)
              refine ⟨fun q14 => absurd q14 (by decide), fun _ => ?_⟩
              refine c_X12_in (fun k15 k16 => ?_) (fun k17 => by exfalso; (simp only [n_lt, n_le, n_eq, n_add, n_sub, n_mul, n_neg, n_lit, zw] at *; omega))
              show ((1 : Int32) = 0 → Qm (some (.int (-2))) M) ∧ (¬ (1 : Int32) = 0 → mx g (d + 5) kX12_in 0 [.ref 48, .int (p2), .int (0), .int (99)] [] M _)
              refine ⟨fun q18 => absurd q18 (by decide), fun _ => ?_⟩
              refine c_X12_in (fun k19 k20 => ?_) (fun k21 => by exfalso; (simp only [n_lt, n_le, n_eq, n_add, n_sub, n_mul, n_neg, n_lit, zw] at *; omega))
              show (¬ (1 : Int32) = 0 → (¬ ((M 48 32) : Int32) = (24 : Int32) → vp_in (M 48 32) 24 ∧ vp_in (M 48 32) 24 ∧ vp_in (M 48 32) 24 ∧ Qm (some (.int (((M 48 32) + 1) - 1))) (zq_mu (zq_ma (zq_ma (zq_ma M 67 (upd (M 67) (Int32.toNatClampNeg (M 48 32)) p0)) 68 (upd (M 68) (Int32.toNatClampNeg (M 48 32)) p1)) 69 (upd (M 69) (Int32.toNatClampNeg (M 48 32)) p2)) 48 32 ((M 48 32) + 1))) ∧ (((M 48 32) : Int32) = (24 : Int32) → Qm (some (.int (-4))) M)) ∧ ((1 : Int32) = 0 → Qm (some (.int (-2))) M)
              refine ⟨fun _ => ?_, fun q22 => absurd q22 (by decide)⟩
              refine ⟨fun q23 => by exfalso; (simp only [n_lt, n_le, n_eq, n_add, n_sub, n_mul, n_neg, n_lit, zw] at *; omega), fun q23 => ?_⟩
              refine hQm _ _ ⟨by first | rfl | simp only [s1, s2, s3, t1, t2, t3, t4, t5, t6, t7], ?_⟩
              exact hR
          · refine hQx _ _ ⟨(-2), rfl, ?_⟩
            refine mx_q (fun Qm hQm => ?_)
            refine mx_go 200 zq_t192 ?_
            show mx g (d + 5) kX12_isStone 0 [.ref 48, .int (p0)] [] M _
            refine c_X12_isStone (n := (M 48 0)) rfl (by (simp only [n_lt, n_le, n_eq, n_add, n_sub, n_mul, n_neg, n_lit, zw] at *; omega)) (fun k11 k12 => ?_) (fun k13 => by exfalso; (simp only [n_lt, n_le, n_eq, n_add, n_sub, n_mul, n_neg, n_lit, zw] at *; omega))
            show ((1 : Int32) = 0 → Qm (some (.int (-2))) M) ∧ (¬ (1 : Int32) = 0 → mx g (d + 5) kX12_in 0 [.ref 48, .int (p1), .int (0), .int (999)] [] M _)
            refine ⟨fun q14 => absurd q14 (by decide), fun _ => ?_⟩
            refine c_X12_in (fun k15 k16 => ?_) (fun k17 => by exfalso; (simp only [n_lt, n_le, n_eq, n_add, n_sub, n_mul, n_neg, n_lit, zw] at *; omega))
            show ((1 : Int32) = 0 → Qm (some (.int (-2))) M) ∧ (¬ (1 : Int32) = 0 → mx g (d + 5) kX12_in 0 [.ref 48, .int (p2), .int (0), .int (99)] [] M _)
            refine ⟨fun q18 => absurd q18 (by decide), fun _ => ?_⟩
            refine c_X12_in (fun k19 k20 => by exfalso; (simp only [n_lt, n_le, n_eq, n_add, n_sub, n_mul, n_neg, n_lit, zw] at *; omega)) (fun k21 => ?_)
            show (¬ (0 : Int32) = 0 → (¬ ((M 48 32) : Int32) = (24 : Int32) → vp_in (M 48 32) 24 ∧ vp_in (M 48 32) 24 ∧ vp_in (M 48 32) 24 ∧ Qm (some (.int (((M 48 32) + 1) - 1))) (zq_mu (zq_ma (zq_ma (zq_ma M 67 (upd (M 67) (Int32.toNatClampNeg (M 48 32)) p0)) 68 (upd (M 68) (Int32.toNatClampNeg (M 48 32)) p1)) 69 (upd (M 69) (Int32.toNatClampNeg (M 48 32)) p2)) 48 32 ((M 48 32) + 1))) ∧ (((M 48 32) : Int32) = (24 : Int32) → Qm (some (.int (-4))) M)) ∧ ((0 : Int32) = 0 → Qm (some (.int (-2))) M)
            refine ⟨fun q22 => absurd q22 (by decide), fun _ => ?_⟩
            refine hQm _ _ ⟨by first | rfl | simp only [s1, s2, s3, t1, t2, t3, t4, t5, t6, t7], ?_⟩
            exact hR
  · show ((0 : Int32) = 0 → Qx (some (.int (-2))) M) ∧ (¬ (0 : Int32) = 0 → ((p1 : Int32) < 0 → Qx (some (.int (-2))) M) ∧ (¬ (p1 : Int32) < 0 → ((999 : Int32) < (p1 : Int32) → Qx (some (.int (-2))) M) ∧ (¬ (999 : Int32) < (p1 : Int32) → ((p2 : Int32) < 0 → Qx (some (.int (-2))) M) ∧ (¬ (p2 : Int32) < 0 → ((p2 : Int32) ≤ (99 : Int32) → mx g (d + 5) kX9_put 0 [.ref 30, .int (p0), .int (p1), .int (p2)] [] M _) ∧ (¬ (p2 : Int32) ≤ (99 : Int32) → Qx (some (.int (-2))) M)))))
    refine ⟨fun _ => ?_, fun q11 => absurd q11 (by decide)⟩
    refine hQx _ _ ⟨(-2), rfl, ?_⟩
    refine mx_q (fun Qm hQm => ?_)
    refine mx_go 200 zq_t192 ?_
    show mx g (d + 5) kX12_isStone 0 [.ref 48, .int (p0)] [] M _
    refine c_X12_isStone (n := (M 48 0)) rfl (by (simp only [n_lt, n_le, n_eq, n_add, n_sub, n_mul, n_neg, n_lit, zw] at *; omega)) (fun k12 k13 => by exfalso; (simp only [n_lt, n_le, n_eq, n_add, n_sub, n_mul, n_neg, n_lit, zw] at *; omega)) (fun k14 => ?_)
    show ((0 : Int32) = 0 → Qm (some (.int (-2))) M) ∧ (¬ (0 : Int32) = 0 → mx g (d + 5) kX12_in 0 [.ref 48, .int (p1), .int (0), .int (999)] [] M _)
    refine ⟨fun _ => ?_, fun q15 => absurd q15 (by decide)⟩
    refine hQm _ _ ⟨by first | rfl | simp only [s1, s2, s3, t1, t2, t3, t4, t5, t6, t7], ?_⟩
    exact hR

set_option maxHeartbeats 4000000 in
theorem op_cross {g : zq_G} {d : Nat} {M : zq_M} {p0 p1 : Int32} (hR : RR M) : pri g (d + 6) kX11_cross kX12_cross [.ref 0, .int (p0), .int (p1)] [.ref 48, .int (p0), .int (p1)] M := by
  obtain ⟨hS, hN, hH, hT, hP, hI, hE, hF, hX, hV⟩ := id hR
  obtain ⟨t1, t2, t3, t4, t5, t6, t7, t8, t9, t10, t11, t12, t13, t14, t15, t16⟩ := id hT
  refine mx_q (fun Qx hQx => ?_)
  refine mx_go 200 zq_t112 ?_
  show mx g (d + 5) kX9_has 0 [.ref 30, .int (p0)] [] M _
  refine c_X9_has (n := (M 30 7)) rfl (fun k1 k2 => ?_) (fun k3 => ?_)
  · show ((1 : Int32) = 0 → Qx (some (.int (-2))) M) ∧ (¬ (1 : Int32) = 0 → mx g (d + 5) kX9_has 0 [.ref 30, .int (p1)] [] M _)
    refine ⟨fun q4 => absurd q4 (by decide), fun _ => ?_⟩
    refine c_X9_has (n := (M 30 7)) rfl (fun k5 k6 => ?_) (fun k7 => ?_)
    · show ((1 : Int32) = 0 → Qx (some (.int (-2))) M) ∧ (¬ (1 : Int32) = 0 → (¬ (p0 : Int32) = (p1 : Int32) → mx g (d + 5) kX9_putCross 0 [.ref 30, .int (p0), .int (p1)] [] M _) ∧ ((p0 : Int32) = (p1 : Int32) → Qx (some (.int (-2))) M))
      refine ⟨fun q8 => absurd q8 (by decide), fun _ => ?_⟩
      refine ⟨fun q9 => ?_, fun q9 => ?_⟩
      · refine mx_q (fun Q10 hQ10 => ?_)
        refine mx_go 200 zq_t77 ?_
        show (((M 30 8) : Int32) < (20 : Int32) → vp_in (M 30 8) 20 ∧ vp_in (M 30 8) 20 ∧ Q10 (some (.int ((M 30 8) + 1))) (zq_mu (zq_ma (zq_ma M 34 (upd (M 34) (Int32.toNatClampNeg (M 30 8)) p0)) 35 (upd (M 35) (Int32.toNatClampNeg (M 30 8)) p1)) 30 8 ((M 30 8) + 1))) ∧ (¬ ((M 30 8) : Int32) < (20 : Int32) → Q10 (some (.int (-4))) M)
        refine ⟨fun q11 => ?_, fun q11 => ?_⟩
        · refine ⟨(n_in (by (simp only [n_lt, n_le, n_eq, n_add, n_sub, n_mul, n_neg, n_lit, zw] at *; omega)) (by (simp only [n_lt, n_le, n_eq, n_add, n_sub, n_mul, n_neg, n_lit, zw] at *; omega))), ?_⟩
          refine ⟨(n_in (by (simp only [n_lt, n_le, n_eq, n_add, n_sub, n_mul, n_neg, n_lit, zw] at *; omega)) (by (simp only [n_lt, n_le, n_eq, n_add, n_sub, n_mul, n_neg, n_lit, zw] at *; omega))), ?_⟩
          refine hQ10 _ _ ?_
          show Qx (some (.int ((M 30 8) + 1))) (zq_mu (zq_ma (zq_ma M 34 (upd (M 34) (Int32.toNatClampNeg (M 30 8)) p0)) 35 (upd (M 35) (Int32.toNatClampNeg (M 30 8)) p1)) 30 8 ((M 30 8) + 1))
          refine hQx _ _ ⟨((M 30 8) + 1), rfl, ?_⟩
          refine mx_q (fun Qm hQm => ?_)
          refine mx_go 200 zq_t212 ?_
          show mx g (d + 5) kX12_isTrack 0 [.ref 48, .int (p0)] [] (zq_mu (zq_ma (zq_ma M 34 (upd (M 34) (Int32.toNatClampNeg (M 30 8)) p0)) 35 (upd (M 35) (Int32.toNatClampNeg (M 30 8)) p1)) 30 8 ((M 30 8) + 1)) _
          refine c_X12_isTrack (n := (M 48 32)) rfl (by (simp only [n_lt, n_le, n_eq, n_add, n_sub, n_mul, n_neg, n_lit, zw] at *; omega)) (fun k12 k13 => ?_) (fun k14 => by exfalso; (simp only [n_lt, n_le, n_eq, n_add, n_sub, n_mul, n_neg, n_lit, zw] at *; omega))
          show ((1 : Int32) = 0 → Qm (some (.int (-2))) (zq_mu (zq_ma (zq_ma M 34 (upd (M 34) (Int32.toNatClampNeg (M 30 8)) p0)) 35 (upd (M 35) (Int32.toNatClampNeg (M 30 8)) p1)) 30 8 ((M 30 8) + 1))) ∧ (¬ (1 : Int32) = 0 → mx g (d + 5) kX12_isTrack 0 [.ref 48, .int (p1)] [] (zq_mu (zq_ma (zq_ma M 34 (upd (M 34) (Int32.toNatClampNeg (M 30 8)) p0)) 35 (upd (M 35) (Int32.toNatClampNeg (M 30 8)) p1)) 30 8 ((M 30 8) + 1)) _)
          refine ⟨fun q15 => absurd q15 (by decide), fun _ => ?_⟩
          refine c_X12_isTrack (n := (M 48 32)) rfl (by (simp only [n_lt, n_le, n_eq, n_add, n_sub, n_mul, n_neg, n_lit, zw] at *; omega)) (fun k16 k17 => ?_) (fun k18 => by exfalso; (simp only [n_lt, n_le, n_eq, n_add, n_sub, n_mul, n_neg, n_lit, zw] at *; omega))
          show ((1 : Int32) = 0 → Qm (some (.int (-2))) (zq_mu (zq_ma (zq_ma M 34 (upd (M 34) (Int32.toNatClampNeg (M 30 8)) p0)) 35 (upd (M 35) (Int32.toNatClampNeg (M 30 8)) p1)) 30 8 ((M 30 8) + 1))) ∧ (¬ (1 : Int32) = 0 → (¬ (p0 : Int32) = (p1 : Int32) → (¬ ((M 48 39) : Int32) = (20 : Int32) → vp_in (M 48 39) 20 ∧ vp_in (M 48 39) 20 ∧ Qm (some (.int ((M 48 39) + 1))) (zq_mu (zq_ma (zq_ma (zq_mu (zq_ma (zq_ma M 34 (upd (M 34) (Int32.toNatClampNeg (M 30 8)) p0)) 35 (upd (M 35) (Int32.toNatClampNeg (M 30 8)) p1)) 30 8 ((M 30 8) + 1)) 72 (upd (M 72) (Int32.toNatClampNeg (M 48 39)) p0)) 73 (upd (M 73) (Int32.toNatClampNeg (M 48 39)) p1)) 48 39 ((M 48 39) + 1))) ∧ (((M 48 39) : Int32) = (20 : Int32) → Qm (some (.int (-4))) (zq_mu (zq_ma (zq_ma M 34 (upd (M 34) (Int32.toNatClampNeg (M 30 8)) p0)) 35 (upd (M 35) (Int32.toNatClampNeg (M 30 8)) p1)) 30 8 ((M 30 8) + 1)))) ∧ ((p0 : Int32) = (p1 : Int32) → Qm (some (.int (-2))) (zq_mu (zq_ma (zq_ma M 34 (upd (M 34) (Int32.toNatClampNeg (M 30 8)) p0)) 35 (upd (M 35) (Int32.toNatClampNeg (M 30 8)) p1)) 30 8 ((M 30 8) + 1))))
          refine ⟨fun q19 => absurd q19 (by decide), fun _ => ?_⟩
          refine ⟨fun q20 => ?_, fun q20 => by exfalso; (simp only [n_lt, n_le, n_eq, n_add, n_sub, n_mul, n_neg, n_lit, zw] at *; omega)⟩
          refine ⟨fun q21 => ?_, fun q21 => by exfalso; (simp only [n_lt, n_le, n_eq, n_add, n_sub, n_mul, n_neg, n_lit, zw] at *; omega)⟩
          refine ⟨(n_in (by (simp only [n_lt, n_le, n_eq, n_add, n_sub, n_mul, n_neg, n_lit, zw] at *; omega)) (by (simp only [n_lt, n_le, n_eq, n_add, n_sub, n_mul, n_neg, n_lit, zw] at *; omega))), ?_⟩
          refine ⟨(n_in (by (simp only [n_lt, n_le, n_eq, n_add, n_sub, n_mul, n_neg, n_lit, zw] at *; omega)) (by (simp only [n_lt, n_le, n_eq, n_add, n_sub, n_mul, n_neg, n_lit, zw] at *; omega))), ?_⟩
          refine hQm _ _ ⟨by first | rfl | simp only [t1, t2, t3, t4, t5, t6, t7], ?_⟩
          exact ⟨hS, hN, hH, gT_cross (n := M 30 7) (c := M 30 8) (x := p0) (y := p1) hT (by (simp only [n_lt, n_le, n_eq, n_add, n_sub, n_mul, n_neg, n_lit, zw] at *; omega)) (by (simp only [n_lt, n_le, n_eq, n_add, n_sub, n_mul, n_neg, n_lit, zw] at *; omega)) (by (simp only [n_lt, n_le, n_eq, n_add, n_sub, n_mul, n_neg, n_lit, zw] at *; omega)) (by (simp only [n_lt, n_le, n_eq, n_add, n_sub, n_mul, n_neg, n_lit, zw] at *; omega)) (by (simp only [n_lt, n_le, n_eq, n_add, n_sub, n_mul, n_neg, n_lit, zw] at *; omega)), hP, gI_grow (nc2 := M 30 8 + 1) hI (Int.le_refl _) (Int.le_refl _) (Int.le_refl _) (by rw [n_suc t10 (by (simp only [n_lt, n_le, n_eq, n_add, n_sub, n_mul, n_neg, n_lit, zw] at *; omega))]; omega) (Int.le_refl _), hE, hF, hX, hV⟩
        · refine hQ10 _ _ ?_
          show Qx (some (.int (-4))) M
          refine hQx _ _ ⟨(-4), rfl, ?_⟩
          refine mx_q (fun Qm hQm => ?_)
          refine mx_go 200 zq_t212 ?_
          show mx g (d + 5) kX12_isTrack 0 [.ref 48, .int (p0)] [] M _
          refine c_X12_isTrack (n := (M 48 32)) rfl (by (simp only [n_lt, n_le, n_eq, n_add, n_sub, n_mul, n_neg, n_lit, zw] at *; omega)) (fun k12 k13 => ?_) (fun k14 => by exfalso; (simp only [n_lt, n_le, n_eq, n_add, n_sub, n_mul, n_neg, n_lit, zw] at *; omega))
          show ((1 : Int32) = 0 → Qm (some (.int (-2))) M) ∧ (¬ (1 : Int32) = 0 → mx g (d + 5) kX12_isTrack 0 [.ref 48, .int (p1)] [] M _)
          refine ⟨fun q15 => absurd q15 (by decide), fun _ => ?_⟩
          refine c_X12_isTrack (n := (M 48 32)) rfl (by (simp only [n_lt, n_le, n_eq, n_add, n_sub, n_mul, n_neg, n_lit, zw] at *; omega)) (fun k16 k17 => ?_) (fun k18 => by exfalso; (simp only [n_lt, n_le, n_eq, n_add, n_sub, n_mul, n_neg, n_lit, zw] at *; omega))
          show ((1 : Int32) = 0 → Qm (some (.int (-2))) M) ∧ (¬ (1 : Int32) = 0 → (¬ (p0 : Int32) = (p1 : Int32) → (¬ ((M 48 39) : Int32) = (20 : Int32) → vp_in (M 48 39) 20 ∧ vp_in (M 48 39) 20 ∧ Qm (some (.int ((M 48 39) + 1))) (zq_mu (zq_ma (zq_ma M 72 (upd (M 72) (Int32.toNatClampNeg (M 48 39)) p0)) 73 (upd (M 73) (Int32.toNatClampNeg (M 48 39)) p1)) 48 39 ((M 48 39) + 1))) ∧ (((M 48 39) : Int32) = (20 : Int32) → Qm (some (.int (-4))) M)) ∧ ((p0 : Int32) = (p1 : Int32) → Qm (some (.int (-2))) M))
          refine ⟨fun q19 => absurd q19 (by decide), fun _ => ?_⟩
          refine ⟨fun q20 => ?_, fun q20 => by exfalso; (simp only [n_lt, n_le, n_eq, n_add, n_sub, n_mul, n_neg, n_lit, zw] at *; omega)⟩
          refine ⟨fun q21 => by exfalso; (simp only [n_lt, n_le, n_eq, n_add, n_sub, n_mul, n_neg, n_lit, zw] at *; omega), fun q21 => ?_⟩
          refine hQm _ _ ⟨by first | rfl | simp only [t1, t2, t3, t4, t5, t6, t7], ?_⟩
          exact hR
      · refine hQx _ _ ⟨(-2), rfl, ?_⟩
        refine mx_q (fun Qm hQm => ?_)
        refine mx_go 200 zq_t212 ?_
        show mx g (d + 5) kX12_isTrack 0 [.ref 48, .int (p0)] [] M _
        refine c_X12_isTrack (n := (M 48 32)) rfl (by (simp only [n_lt, n_le, n_eq, n_add, n_sub, n_mul, n_neg, n_lit, zw] at *; omega)) (fun k12 k13 => ?_) (fun k14 => by exfalso; (simp only [n_lt, n_le, n_eq, n_add, n_sub, n_mul, n_neg, n_lit, zw] at *; omega))
        show ((1 : Int32) = 0 → Qm (some (.int (-2))) M) ∧ (¬ (1 : Int32) = 0 → mx g (d + 5) kX12_isTrack 0 [.ref 48, .int (p1)] [] M _)
        refine ⟨fun q15 => absurd q15 (by decide), fun _ => ?_⟩
        refine c_X12_isTrack (n := (M 48 32)) rfl (by (simp only [n_lt, n_le, n_eq, n_add, n_sub, n_mul, n_neg, n_lit, zw] at *; omega)) (fun k16 k17 => ?_) (fun k18 => by exfalso; (simp only [n_lt, n_le, n_eq, n_add, n_sub, n_mul, n_neg, n_lit, zw] at *; omega))
        show ((1 : Int32) = 0 → Qm (some (.int (-2))) M) ∧ (¬ (1 : Int32) = 0 → (¬ (p0 : Int32) = (p1 : Int32) → (¬ ((M 48 39) : Int32) = (20 : Int32) → vp_in (M 48 39) 20 ∧ vp_in (M 48 39) 20 ∧ Qm (some (.int ((M 48 39) + 1))) (zq_mu (zq_ma (zq_ma M 72 (upd (M 72) (Int32.toNatClampNeg (M 48 39)) p0)) 73 (upd (M 73) (Int32.toNatClampNeg (M 48 39)) p1)) 48 39 ((M 48 39) + 1))) ∧ (((M 48 39) : Int32) = (20 : Int32) → Qm (some (.int (-4))) M)) ∧ ((p0 : Int32) = (p1 : Int32) → Qm (some (.int (-2))) M))
        refine ⟨fun q19 => absurd q19 (by decide), fun _ => ?_⟩
        refine ⟨fun q20 => by exfalso; (simp only [n_lt, n_le, n_eq, n_add, n_sub, n_mul, n_neg, n_lit, zw] at *; omega), fun q20 => ?_⟩
        refine hQm _ _ ⟨by first | rfl | simp only [t1, t2, t3, t4, t5, t6, t7], ?_⟩
        exact hR
    · show ((0 : Int32) = 0 → Qx (some (.int (-2))) M) ∧ (¬ (0 : Int32) = 0 → (¬ (p0 : Int32) = (p1 : Int32) → mx g (d + 5) kX9_putCross 0 [.ref 30, .int (p0), .int (p1)] [] M _) ∧ ((p0 : Int32) = (p1 : Int32) → Qx (some (.int (-2))) M))
      refine ⟨fun _ => ?_, fun q12 => absurd q12 (by decide)⟩
      refine hQx _ _ ⟨(-2), rfl, ?_⟩
      refine mx_q (fun Qm hQm => ?_)
      refine mx_go 200 zq_t212 ?_
      show mx g (d + 5) kX12_isTrack 0 [.ref 48, .int (p0)] [] M _
      refine c_X12_isTrack (n := (M 48 32)) rfl (by (simp only [n_lt, n_le, n_eq, n_add, n_sub, n_mul, n_neg, n_lit, zw] at *; omega)) (fun k13 k14 => ?_) (fun k15 => by exfalso; (simp only [n_lt, n_le, n_eq, n_add, n_sub, n_mul, n_neg, n_lit, zw] at *; omega))
      show ((1 : Int32) = 0 → Qm (some (.int (-2))) M) ∧ (¬ (1 : Int32) = 0 → mx g (d + 5) kX12_isTrack 0 [.ref 48, .int (p1)] [] M _)
      refine ⟨fun q16 => absurd q16 (by decide), fun _ => ?_⟩
      refine c_X12_isTrack (n := (M 48 32)) rfl (by (simp only [n_lt, n_le, n_eq, n_add, n_sub, n_mul, n_neg, n_lit, zw] at *; omega)) (fun k17 k18 => by exfalso; (simp only [n_lt, n_le, n_eq, n_add, n_sub, n_mul, n_neg, n_lit, zw] at *; omega)) (fun k19 => ?_)
      show ((0 : Int32) = 0 → Qm (some (.int (-2))) M) ∧ (¬ (0 : Int32) = 0 → (¬ (p0 : Int32) = (p1 : Int32) → (¬ ((M 48 39) : Int32) = (20 : Int32) → vp_in (M 48 39) 20 ∧ vp_in (M 48 39) 20 ∧ Qm (some (.int ((M 48 39) + 1))) (zq_mu (zq_ma (zq_ma M 72 (upd (M 72) (Int32.toNatClampNeg (M 48 39)) p0)) 73 (upd (M 73) (Int32.toNatClampNeg (M 48 39)) p1)) 48 39 ((M 48 39) + 1))) ∧ (((M 48 39) : Int32) = (20 : Int32) → Qm (some (.int (-4))) M)) ∧ ((p0 : Int32) = (p1 : Int32) → Qm (some (.int (-2))) M))
      refine ⟨fun _ => ?_, fun q20 => absurd q20 (by decide)⟩
      refine hQm _ _ ⟨by first | rfl | simp only [t1, t2, t3, t4, t5, t6, t7], ?_⟩
      exact hR
  · show ((0 : Int32) = 0 → Qx (some (.int (-2))) M) ∧ (¬ (0 : Int32) = 0 → mx g (d + 5) kX9_has 0 [.ref 30, .int (p1)] [] M _)
    refine ⟨fun _ => ?_, fun q13 => absurd q13 (by decide)⟩
    refine hQx _ _ ⟨(-2), rfl, ?_⟩
    refine mx_q (fun Qm hQm => ?_)
    refine mx_go 200 zq_t212 ?_
    show mx g (d + 5) kX12_isTrack 0 [.ref 48, .int (p0)] [] M _
    refine c_X12_isTrack (n := (M 48 32)) rfl (by (simp only [n_lt, n_le, n_eq, n_add, n_sub, n_mul, n_neg, n_lit, zw] at *; omega)) (fun k14 k15 => by exfalso; (simp only [n_lt, n_le, n_eq, n_add, n_sub, n_mul, n_neg, n_lit, zw] at *; omega)) (fun k16 => ?_)
    show ((0 : Int32) = 0 → Qm (some (.int (-2))) M) ∧ (¬ (0 : Int32) = 0 → mx g (d + 5) kX12_isTrack 0 [.ref 48, .int (p1)] [] M _)
    refine ⟨fun _ => ?_, fun q17 => absurd q17 (by decide)⟩
    refine hQm _ _ ⟨by first | rfl | simp only [t1, t2, t3, t4, t5, t6, t7], ?_⟩
    exact hR
end
section
/-- two tracks went together -/
def tog (t l : Nat → Int32) (a b : Nat) (off : Int) : Prop := t a = t b ∧ (l a).toInt - (l b).toInt ≤ off ∧ (l b).toInt - (l a).toInt ≤ off
theorem c_X9_wentTogether {g : zq_G} {d : Nat} {M : zq_M} {Q : Option Value → zq_M → Prop} {a b o : Int32} (hl : ∀ i, 0 ≤ (M 32 i).toInt ∧ (M 32 i).toInt ≤ 999) (ha : vp_in a 24) (hb : vp_in b 24) (h1 : tog (M 33) (M 32) a.toNatClampNeg b.toNatClampNeg o.toInt → True → Q (some (.int 1)) M) (h0 : ¬ tog (M 33) (M 32) a.toNatClampNeg b.toNatClampNeg o.toInt → Q (some (.int 0)) M) : mx g (d + 1) kX9_wentTogether 0 [.ref 30, .int a, .int b, .int o] [] M Q := by
  refine mx_go 60 zq_t80 ?_
  show vp_in a 24 ∧ vp_in b 24 ∧ (¬ (((M 33) (Int32.toNatClampNeg a)) : Int32) = (((M 33) (Int32.toNatClampNeg b)) : Int32) → zq_b 0 ∧ Q (some (.int 0)) M) ∧ ((((M 33) (Int32.toNatClampNeg a)) : Int32) = (((M 33) (Int32.toNatClampNeg b)) : Int32) → vp_in a 24 ∧ vp_in b 24 ∧ ((o : Int32) < ((if 0 ≤ (((M 32) (Int32.toNatClampNeg a)) - ((M 32) (Int32.toNatClampNeg b))) then (((M 32) (Int32.toNatClampNeg a)) - ((M 32) (Int32.toNatClampNeg b))) else 0 - (((M 32) (Int32.toNatClampNeg a)) - ((M 32) (Int32.toNatClampNeg b)))) : Int32) → zq_b 0 ∧ Q (some (.int 0)) M) ∧ (¬ (o : Int32) < ((if 0 ≤ (((M 32) (Int32.toNatClampNeg a)) - ((M 32) (Int32.toNatClampNeg b))) then (((M 32) (Int32.toNatClampNeg a)) - ((M 32) (Int32.toNatClampNeg b))) else 0 - (((M 32) (Int32.toNatClampNeg a)) - ((M 32) (Int32.toNatClampNeg b)))) : Int32) → zq_b 1 ∧ Q (some (.int 1)) M))
  have l1 := hl a.toNatClampNeg
  have l2 := hl b.toNatClampNeg
  have e : (M 32 a.toNatClampNeg - M 32 b.toNatClampNeg).toInt = (M 32 a.toNatClampNeg).toInt - (M 32 b.toNatClampNeg).toInt := by rw [n_sub, zw_id (by omega) (by omega)]
  have e2 : (0 - (M 32 a.toNatClampNeg - M 32 b.toNatClampNeg)).toInt = (M 32 b.toNatClampNeg).toInt - (M 32 a.toNatClampNeg).toInt := by rw [n_sub, e, n_0, zw_id (by omega) (by omega)]; omega
  refine ⟨ha, hb, fun q => ⟨Or.inl rfl, h0 (fun z => q z.1)⟩, fun q => ⟨ha, hb, fun r => ⟨Or.inl rfl, h0 (fun z => ?_)⟩, fun r => ⟨Or.inr rfl, h1 ⟨q, ?_⟩ trivial⟩⟩⟩
  · split at r
    · rw [n_lt, e] at r; have := z.2.1; omega
    · rw [n_lt, e2] at r; have := z.2.2; omega
  · split at r
    · next c => rw [n_le, n_0, e] at c; rw [n_lt, e] at r; omega
    · next c => rw [n_le, n_0, e] at c; rw [n_lt, e2] at r; omega
theorem c_X12_areTogether {g : zq_G} {d : Nat} {M : zq_M} {Q : Option Value → zq_M → Prop} {a b o : Int32} (hl : ∀ i, 0 ≤ (M 68 i).toInt ∧ (M 68 i).toInt ≤ 999) (ha : vp_in a 24) (hb : vp_in b 24) (h1 : tog (M 69) (M 68) a.toNatClampNeg b.toNatClampNeg o.toInt → True → Q (some (.int 1)) M) (h0 : ¬ tog (M 69) (M 68) a.toNatClampNeg b.toNatClampNeg o.toInt → Q (some (.int 0)) M) : mx g (d + 1) kX12_areTogether 0 [.ref 48, .int a, .int b, .int o] [] M Q := by
  refine mx_go 60 zq_t194 ?_
  show vp_in a 24 ∧ vp_in b 24 ∧ (¬ (((M 69) (Int32.toNatClampNeg a)) : Int32) = (((M 69) (Int32.toNatClampNeg b)) : Int32) → zq_b 0 ∧ Q (some (.int 0)) M) ∧ ((((M 69) (Int32.toNatClampNeg a)) : Int32) = (((M 69) (Int32.toNatClampNeg b)) : Int32) → vp_in a 24 ∧ vp_in b 24 ∧ mx g (d) kX12_apart 0 [.ref 48, .int (((M 68) (Int32.toNatClampNeg a))), .int (((M 68) (Int32.toNatClampNeg b)))] [] M _)
  have l1 := hl a.toNatClampNeg
  have l2 := hl b.toNatClampNeg
  have e : (M 68 a.toNatClampNeg - M 68 b.toNatClampNeg).toInt = (M 68 a.toNatClampNeg).toInt - (M 68 b.toNatClampNeg).toInt := by rw [n_sub, zw_id (by omega) (by omega)]
  have e2 : (M 68 b.toNatClampNeg - M 68 a.toNatClampNeg).toInt = (M 68 b.toNatClampNeg).toInt - (M 68 a.toNatClampNeg).toInt := by rw [n_sub, zw_id (by omega) (by omega)]
  refine ⟨ha, hb, fun q => ⟨Or.inl rfl, h0 (fun z => q z.1)⟩, fun q => ⟨ha, hb, ?_⟩⟩
  refine mx_q (fun Q1 hQ1 => ?_)
  refine mx_go 60 zq_t193 ?_
  show (((M 68 b.toNatClampNeg) : Int32) ≤ ((M 68 a.toNatClampNeg) : Int32) → Q1 (some (.int ((M 68 a.toNatClampNeg) - (M 68 b.toNatClampNeg)))) M) ∧ (¬ ((M 68 b.toNatClampNeg) : Int32) ≤ ((M 68 a.toNatClampNeg) : Int32) → Q1 (some (.int ((M 68 b.toNatClampNeg) - (M 68 a.toNatClampNeg)))) M)
  refine ⟨fun c => hQ1 _ _ ?_, fun c => hQ1 _ _ ?_⟩
  · show ((o : Int32) < ((M 68 a.toNatClampNeg - M 68 b.toNatClampNeg) : Int32) → zq_b 0 ∧ Q (some (.int 0)) M) ∧ (¬ (o : Int32) < ((M 68 a.toNatClampNeg - M 68 b.toNatClampNeg) : Int32) → zq_b 1 ∧ Q (some (.int 1)) M)
    rw [n_le] at c
    refine ⟨fun r => ⟨Or.inl rfl, h0 (fun z => ?_)⟩, fun r => ⟨Or.inr rfl, h1 ⟨q, ?_⟩ trivial⟩⟩
    · rw [n_lt, e] at r; have := z.2.1; omega
    · rw [n_lt, e] at r; omega
  · show ((o : Int32) < ((M 68 b.toNatClampNeg - M 68 a.toNatClampNeg) : Int32) → zq_b 0 ∧ Q (some (.int 0)) M) ∧ (¬ (o : Int32) < ((M 68 b.toNatClampNeg - M 68 a.toNatClampNeg) : Int32) → zq_b 1 ∧ Q (some (.int 1)) M)
    rw [n_le] at c
    refine ⟨fun r => ⟨Or.inl rfl, h0 (fun z => ?_)⟩, fun r => ⟨Or.inr rfl, h1 ⟨q, ?_⟩ trivial⟩⟩
    · rw [n_lt, e2] at r; have := z.2.2; omega
    · rw [n_lt, e2] at r; omega
set_option maxHeartbeats 4000000 in
theorem op_together {g : zq_G} {d : Nat} {M : zq_M} {p0 p1 p2 : Int32} (hR : RR M) : pri g (d + 6) kX11_together kX12_together [.ref 0, .int (p0), .int (p1), .int (p2)] [.ref 48, .int (p0), .int (p1), .int (p2)] M := by
  obtain ⟨hS, hN, hH, hT, hP, hI, hE, hF, hX, hV⟩ := id hR
  obtain ⟨t1, t2, t3, t4, t5, t6, t7, t8, t9, t10, t11, t12, t13, t14, t15, t16⟩ := id hT
  refine mx_q (fun Qx hQx => ?_)
  refine mx_go 200 zq_t103 ?_
  show mx g (d + 5) kX9_has 0 [.ref 30, .int (p0)] [] M _
  refine c_X9_has (n := (M 30 7)) rfl (fun k1 k2 => ?_) (fun k3 => ?_)
  · show ((1 : Int32) = 0 → Qx (some (.int (-2))) M) ∧ (¬ (1 : Int32) = 0 → mx g (d + 5) kX9_has 0 [.ref 30, .int (p1)] [] M _)
    refine ⟨fun q4 => absurd q4 (by decide), fun _ => ?_⟩
    refine c_X9_has (n := (M 30 7)) rfl (fun k5 k6 => ?_) (fun k7 => ?_)
    · show ((1 : Int32) = 0 → Qx (some (.int (-2))) M) ∧ (¬ (1 : Int32) = 0 → ((p0 : Int32) = (p1 : Int32) → Qx (some (.int (-2))) M) ∧ (¬ (p0 : Int32) = (p1 : Int32) → mx g (d + 5) kX11_isOff 0 [.int (p2)] [] M _))
      refine ⟨fun q8 => absurd q8 (by decide), fun _ => ?_⟩
      refine ⟨fun q9 => ?_, fun q9 => ?_⟩
      · refine hQx _ _ ⟨(-2), rfl, ?_⟩
        refine mx_q (fun Qm hQm => ?_)
        refine mx_go 200 zq_t195 ?_
        show mx g (d + 5) kX12_isTrack 0 [.ref 48, .int (p0)] [] M _
        refine c_X12_isTrack (n := (M 48 32)) rfl (by (simp only [n_lt, n_le, n_eq, n_add, n_sub, n_mul, n_neg, n_lit, zw] at *; omega)) (fun k10 k11 => ?_) (fun k12 => by exfalso; (first | (simp only [n_lt, n_le, n_eq, n_add, n_sub, n_mul, n_neg, n_lit, zw] at *; omega) | (simp only [t4, t5] at *; contradiction)))
        show ((1 : Int32) = 0 → Qm (some (.int (-2))) M) ∧ (¬ (1 : Int32) = 0 → mx g (d + 5) kX12_isTrack 0 [.ref 48, .int (p1)] [] M _)
        refine ⟨fun q13 => absurd q13 (by decide), fun _ => ?_⟩
        refine c_X12_isTrack (n := (M 48 32)) rfl (by (simp only [n_lt, n_le, n_eq, n_add, n_sub, n_mul, n_neg, n_lit, zw] at *; omega)) (fun k14 k15 => ?_) (fun k16 => by exfalso; (first | (simp only [n_lt, n_le, n_eq, n_add, n_sub, n_mul, n_neg, n_lit, zw] at *; omega) | (simp only [t4, t5] at *; contradiction)))
        show ((1 : Int32) = 0 → Qm (some (.int (-2))) M) ∧ (¬ (1 : Int32) = 0 → ((p0 : Int32) = (p1 : Int32) → Qm (some (.int (-2))) M) ∧ (¬ (p0 : Int32) = (p1 : Int32) → mx g (d + 5) kX12_in 0 [.ref 48, .int (p2), .int (0), .int (99)] [] M _))
        refine ⟨fun q17 => absurd q17 (by decide), fun _ => ?_⟩
        refine ⟨fun q18 => ?_, fun q18 => by exfalso; (first | (simp only [n_lt, n_le, n_eq, n_add, n_sub, n_mul, n_neg, n_lit, zw] at *; omega) | (simp only [t4, t5] at *; contradiction))⟩
        refine hQm _ _ ⟨by first | rfl | simp only [t1, t2, t3, t4, t5, t6, t7], ?_⟩
        exact hR
      · refine c_X11_isOff (fun k10 k11 => ?_) (fun k12 => ?_)
        · show (¬ (1 : Int32) = 0 → mx g (d + 5) kX9_wentTogether 0 [.ref 30, .int (p0), .int (p1), .int (p2)] [] M _) ∧ ((1 : Int32) = 0 → Qx (some (.int (-2))) M)
          refine ⟨fun _ => ?_, fun q13 => absurd q13 (by decide)⟩
          refine c_X9_wentTogether t13 (n_in (by (simp only [n_lt, n_le, n_eq, n_add, n_sub, n_mul, n_neg, n_lit, zw] at *; omega)) (by (simp only [n_lt, n_le, n_eq, n_add, n_sub, n_mul, n_neg, n_lit, zw] at *; omega))) (n_in (by (simp only [n_lt, n_le, n_eq, n_add, n_sub, n_mul, n_neg, n_lit, zw] at *; omega)) (by (simp only [n_lt, n_le, n_eq, n_add, n_sub, n_mul, n_neg, n_lit, zw] at *; omega))) (fun k14 k15 => ?_) (fun k16 => ?_)
          · show mx g (d + 5) kX11_bit 0 [.int (1)] [] M _
            refine c_X11_bit (fun k17 => ?_) (fun k18 => by exfalso; (first | (simp only [n_lt, n_le, n_eq, n_add, n_sub, n_mul, n_neg, n_lit, zw] at *; omega) | (simp only [t4, t5] at *; contradiction)))
            show Qx (some (.int 1)) M
            refine hQx _ _ ⟨1, rfl, ?_⟩
            refine mx_q (fun Qm hQm => ?_)
            refine mx_go 200 zq_t195 ?_
            show mx g (d + 5) kX12_isTrack 0 [.ref 48, .int (p0)] [] M _
            refine c_X12_isTrack (n := (M 48 32)) rfl (by (simp only [n_lt, n_le, n_eq, n_add, n_sub, n_mul, n_neg, n_lit, zw] at *; omega)) (fun k19 k20 => ?_) (fun k21 => by exfalso; (first | (simp only [n_lt, n_le, n_eq, n_add, n_sub, n_mul, n_neg, n_lit, zw] at *; omega) | (simp only [t4, t5] at *; contradiction)))
            show ((1 : Int32) = 0 → Qm (some (.int (-2))) M) ∧ (¬ (1 : Int32) = 0 → mx g (d + 5) kX12_isTrack 0 [.ref 48, .int (p1)] [] M _)
            refine ⟨fun q22 => absurd q22 (by decide), fun _ => ?_⟩
            refine c_X12_isTrack (n := (M 48 32)) rfl (by (simp only [n_lt, n_le, n_eq, n_add, n_sub, n_mul, n_neg, n_lit, zw] at *; omega)) (fun k23 k24 => ?_) (fun k25 => by exfalso; (first | (simp only [n_lt, n_le, n_eq, n_add, n_sub, n_mul, n_neg, n_lit, zw] at *; omega) | (simp only [t4, t5] at *; contradiction)))
            show ((1 : Int32) = 0 → Qm (some (.int (-2))) M) ∧ (¬ (1 : Int32) = 0 → ((p0 : Int32) = (p1 : Int32) → Qm (some (.int (-2))) M) ∧ (¬ (p0 : Int32) = (p1 : Int32) → mx g (d + 5) kX12_in 0 [.ref 48, .int (p2), .int (0), .int (99)] [] M _))
            refine ⟨fun q26 => absurd q26 (by decide), fun _ => ?_⟩
            refine ⟨fun q27 => by exfalso; (first | (simp only [n_lt, n_le, n_eq, n_add, n_sub, n_mul, n_neg, n_lit, zw] at *; omega) | (simp only [t4, t5] at *; contradiction)), fun q27 => ?_⟩
            refine c_X12_in (fun k28 k29 => ?_) (fun k30 => by exfalso; (first | (simp only [n_lt, n_le, n_eq, n_add, n_sub, n_mul, n_neg, n_lit, zw] at *; omega) | (simp only [t4, t5] at *; contradiction)))
            show (¬ (1 : Int32) = 0 → mx g (d + 5) kX12_areTogether 0 [.ref 48, .int (p0), .int (p1), .int (p2)] [] M _) ∧ ((1 : Int32) = 0 → Qm (some (.int (-2))) M)
            refine ⟨fun _ => ?_, fun q31 => absurd q31 (by decide)⟩
            refine c_X12_areTogether (by rw [t4]; exact t13) (n_in (by (simp only [n_lt, n_le, n_eq, n_add, n_sub, n_mul, n_neg, n_lit, zw] at *; omega)) (by (simp only [n_lt, n_le, n_eq, n_add, n_sub, n_mul, n_neg, n_lit, zw] at *; omega))) (n_in (by (simp only [n_lt, n_le, n_eq, n_add, n_sub, n_mul, n_neg, n_lit, zw] at *; omega)) (by (simp only [n_lt, n_le, n_eq, n_add, n_sub, n_mul, n_neg, n_lit, zw] at *; omega))) (fun k32 k33 => ?_) (fun k34 => by exfalso; (first | (simp only [n_lt, n_le, n_eq, n_add, n_sub, n_mul, n_neg, n_lit, zw] at *; omega) | (simp only [t4, t5] at *; contradiction)))
            show ((1 : Int32) = 0 → Qm (some (.int 0)) M) ∧ (¬ (1 : Int32) = 0 → Qm (some (.int 1)) M)
            refine ⟨fun q35 => absurd q35 (by decide), fun _ => ?_⟩
            refine hQm _ _ ⟨by first | rfl | simp only [t1, t2, t3, t4, t5, t6, t7], ?_⟩
            exact hR
          · show mx g (d + 5) kX11_bit 0 [.int (0)] [] M _
            refine c_X11_bit (fun k19 => by exfalso; (first | (simp only [n_lt, n_le, n_eq, n_add, n_sub, n_mul, n_neg, n_lit, zw] at *; omega) | (simp only [t4, t5] at *; contradiction))) (fun k20 => ?_)
            show Qx (some (.int 0)) M
            refine hQx _ _ ⟨0, rfl, ?_⟩
            refine mx_q (fun Qm hQm => ?_)
            refine mx_go 200 zq_t195 ?_
            show mx g (d + 5) kX12_isTrack 0 [.ref 48, .int (p0)] [] M _
            refine c_X12_isTrack (n := (M 48 32)) rfl (by (simp only [n_lt, n_le, n_eq, n_add, n_sub, n_mul, n_neg, n_lit, zw] at *; omega)) (fun k21 k22 => ?_) (fun k23 => by exfalso; (first | (simp only [n_lt, n_le, n_eq, n_add, n_sub, n_mul, n_neg, n_lit, zw] at *; omega) | (simp only [t4, t5] at *; contradiction)))
            show ((1 : Int32) = 0 → Qm (some (.int (-2))) M) ∧ (¬ (1 : Int32) = 0 → mx g (d + 5) kX12_isTrack 0 [.ref 48, .int (p1)] [] M _)
            refine ⟨fun q24 => absurd q24 (by decide), fun _ => ?_⟩
            refine c_X12_isTrack (n := (M 48 32)) rfl (by (simp only [n_lt, n_le, n_eq, n_add, n_sub, n_mul, n_neg, n_lit, zw] at *; omega)) (fun k25 k26 => ?_) (fun k27 => by exfalso; (first | (simp only [n_lt, n_le, n_eq, n_add, n_sub, n_mul, n_neg, n_lit, zw] at *; omega) | (simp only [t4, t5] at *; contradiction)))
            show ((1 : Int32) = 0 → Qm (some (.int (-2))) M) ∧ (¬ (1 : Int32) = 0 → ((p0 : Int32) = (p1 : Int32) → Qm (some (.int (-2))) M) ∧ (¬ (p0 : Int32) = (p1 : Int32) → mx g (d + 5) kX12_in 0 [.ref 48, .int (p2), .int (0), .int (99)] [] M _))
            refine ⟨fun q28 => absurd q28 (by decide), fun _ => ?_⟩
            refine ⟨fun q29 => by exfalso; (first | (simp only [n_lt, n_le, n_eq, n_add, n_sub, n_mul, n_neg, n_lit, zw] at *; omega) | (simp only [t4, t5] at *; contradiction)), fun q29 => ?_⟩
            refine c_X12_in (fun k30 k31 => ?_) (fun k32 => by exfalso; (first | (simp only [n_lt, n_le, n_eq, n_add, n_sub, n_mul, n_neg, n_lit, zw] at *; omega) | (simp only [t4, t5] at *; contradiction)))
            show (¬ (1 : Int32) = 0 → mx g (d + 5) kX12_areTogether 0 [.ref 48, .int (p0), .int (p1), .int (p2)] [] M _) ∧ ((1 : Int32) = 0 → Qm (some (.int (-2))) M)
            refine ⟨fun _ => ?_, fun q33 => absurd q33 (by decide)⟩
            refine c_X12_areTogether (by rw [t4]; exact t13) (n_in (by (simp only [n_lt, n_le, n_eq, n_add, n_sub, n_mul, n_neg, n_lit, zw] at *; omega)) (by (simp only [n_lt, n_le, n_eq, n_add, n_sub, n_mul, n_neg, n_lit, zw] at *; omega))) (n_in (by (simp only [n_lt, n_le, n_eq, n_add, n_sub, n_mul, n_neg, n_lit, zw] at *; omega)) (by (simp only [n_lt, n_le, n_eq, n_add, n_sub, n_mul, n_neg, n_lit, zw] at *; omega))) (fun k34 k35 => by exfalso; (first | (simp only [n_lt, n_le, n_eq, n_add, n_sub, n_mul, n_neg, n_lit, zw] at *; omega) | (simp only [t4, t5] at *; contradiction))) (fun k36 => ?_)
            show ((0 : Int32) = 0 → Qm (some (.int 0)) M) ∧ (¬ (0 : Int32) = 0 → Qm (some (.int 1)) M)
            refine ⟨fun _ => ?_, fun q37 => absurd q37 (by decide)⟩
            refine hQm _ _ ⟨by first | rfl | simp only [t1, t2, t3, t4, t5, t6, t7], ?_⟩
            exact hR
        · show (¬ (0 : Int32) = 0 → mx g (d + 5) kX9_wentTogether 0 [.ref 30, .int (p0), .int (p1), .int (p2)] [] M _) ∧ ((0 : Int32) = 0 → Qx (some (.int (-2))) M)
          refine ⟨fun q21 => absurd q21 (by decide), fun _ => ?_⟩
          refine hQx _ _ ⟨(-2), rfl, ?_⟩
          refine mx_q (fun Qm hQm => ?_)
          refine mx_go 200 zq_t195 ?_
          show mx g (d + 5) kX12_isTrack 0 [.ref 48, .int (p0)] [] M _
          refine c_X12_isTrack (n := (M 48 32)) rfl (by (simp only [n_lt, n_le, n_eq, n_add, n_sub, n_mul, n_neg, n_lit, zw] at *; omega)) (fun k22 k23 => ?_) (fun k24 => by exfalso; (first | (simp only [n_lt, n_le, n_eq, n_add, n_sub, n_mul, n_neg, n_lit, zw] at *; omega) | (simp only [t4, t5] at *; contradiction)))
          show ((1 : Int32) = 0 → Qm (some (.int (-2))) M) ∧ (¬ (1 : Int32) = 0 → mx g (d + 5) kX12_isTrack 0 [.ref 48, .int (p1)] [] M _)
          refine ⟨fun q25 => absurd q25 (by decide), fun _ => ?_⟩
          refine c_X12_isTrack (n := (M 48 32)) rfl (by (simp only [n_lt, n_le, n_eq, n_add, n_sub, n_mul, n_neg, n_lit, zw] at *; omega)) (fun k26 k27 => ?_) (fun k28 => by exfalso; (first | (simp only [n_lt, n_le, n_eq, n_add, n_sub, n_mul, n_neg, n_lit, zw] at *; omega) | (simp only [t4, t5] at *; contradiction)))
          show ((1 : Int32) = 0 → Qm (some (.int (-2))) M) ∧ (¬ (1 : Int32) = 0 → ((p0 : Int32) = (p1 : Int32) → Qm (some (.int (-2))) M) ∧ (¬ (p0 : Int32) = (p1 : Int32) → mx g (d + 5) kX12_in 0 [.ref 48, .int (p2), .int (0), .int (99)] [] M _))
          refine ⟨fun q29 => absurd q29 (by decide), fun _ => ?_⟩
          refine ⟨fun q30 => by exfalso; (first | (simp only [n_lt, n_le, n_eq, n_add, n_sub, n_mul, n_neg, n_lit, zw] at *; omega) | (simp only [t4, t5] at *; contradiction)), fun q30 => ?_⟩
          refine c_X12_in (fun k31 k32 => by exfalso; (first | (simp only [n_lt, n_le, n_eq, n_add, n_sub, n_mul, n_neg, n_lit, zw] at *; omega) | (simp only [t4, t5] at *; contradiction))) (fun k33 => ?_)
          show (¬ (0 : Int32) = 0 → mx g (d + 5) kX12_areTogether 0 [.ref 48, .int (p0), .int (p1), .int (p2)] [] M _) ∧ ((0 : Int32) = 0 → Qm (some (.int (-2))) M)
          refine ⟨fun q34 => absurd q34 (by decide), fun _ => ?_⟩
          refine hQm _ _ ⟨by first | rfl | simp only [t1, t2, t3, t4, t5, t6, t7], ?_⟩
          exact hR
    · show ((0 : Int32) = 0 → Qx (some (.int (-2))) M) ∧ (¬ (0 : Int32) = 0 → ((p0 : Int32) = (p1 : Int32) → Qx (some (.int (-2))) M) ∧ (¬ (p0 : Int32) = (p1 : Int32) → mx g (d + 5) kX11_isOff 0 [.int (p2)] [] M _))
      refine ⟨fun _ => ?_, fun q22 => absurd q22 (by decide)⟩
      refine hQx _ _ ⟨(-2), rfl, ?_⟩
      refine mx_q (fun Qm hQm => ?_)
      refine mx_go 200 zq_t195 ?_
      show mx g (d + 5) kX12_isTrack 0 [.ref 48, .int (p0)] [] M _
      refine c_X12_isTrack (n := (M 48 32)) rfl (by (simp only [n_lt, n_le, n_eq, n_add, n_sub, n_mul, n_neg, n_lit, zw] at *; omega)) (fun k23 k24 => ?_) (fun k25 => by exfalso; (first | (simp only [n_lt, n_le, n_eq, n_add, n_sub, n_mul, n_neg, n_lit, zw] at *; omega) | (simp only [t4, t5] at *; contradiction)))
      show ((1 : Int32) = 0 → Qm (some (.int (-2))) M) ∧ (¬ (1 : Int32) = 0 → mx g (d + 5) kX12_isTrack 0 [.ref 48, .int (p1)] [] M _)
      refine ⟨fun q26 => absurd q26 (by decide), fun _ => ?_⟩
      refine c_X12_isTrack (n := (M 48 32)) rfl (by (simp only [n_lt, n_le, n_eq, n_add, n_sub, n_mul, n_neg, n_lit, zw] at *; omega)) (fun k27 k28 => by exfalso; (first | (simp only [n_lt, n_le, n_eq, n_add, n_sub, n_mul, n_neg, n_lit, zw] at *; omega) | (simp only [t4, t5] at *; contradiction))) (fun k29 => ?_)
      show ((0 : Int32) = 0 → Qm (some (.int (-2))) M) ∧ (¬ (0 : Int32) = 0 → ((p0 : Int32) = (p1 : Int32) → Qm (some (.int (-2))) M) ∧ (¬ (p0 : Int32) = (p1 : Int32) → mx g (d + 5) kX12_in 0 [.ref 48, .int (p2), .int (0), .int (99)] [] M _))
      refine ⟨fun _ => ?_, fun q30 => absurd q30 (by decide)⟩
      refine hQm _ _ ⟨by first | rfl | simp only [t1, t2, t3, t4, t5, t6, t7], ?_⟩
      exact hR
  · show ((0 : Int32) = 0 → Qx (some (.int (-2))) M) ∧ (¬ (0 : Int32) = 0 → mx g (d + 5) kX9_has 0 [.ref 30, .int (p1)] [] M _)
    refine ⟨fun _ => ?_, fun q23 => absurd q23 (by decide)⟩
    refine hQx _ _ ⟨(-2), rfl, ?_⟩
    refine mx_q (fun Qm hQm => ?_)
    refine mx_go 200 zq_t195 ?_
    show mx g (d + 5) kX12_isTrack 0 [.ref 48, .int (p0)] [] M _
    refine c_X12_isTrack (n := (M 48 32)) rfl (by (simp only [n_lt, n_le, n_eq, n_add, n_sub, n_mul, n_neg, n_lit, zw] at *; omega)) (fun k24 k25 => by exfalso; (first | (simp only [n_lt, n_le, n_eq, n_add, n_sub, n_mul, n_neg, n_lit, zw] at *; omega) | (simp only [t4, t5] at *; contradiction))) (fun k26 => ?_)
    show ((0 : Int32) = 0 → Qm (some (.int (-2))) M) ∧ (¬ (0 : Int32) = 0 → mx g (d + 5) kX12_isTrack 0 [.ref 48, .int (p1)] [] M _)
    refine ⟨fun _ => ?_, fun q27 => absurd q27 (by decide)⟩
    refine hQm _ _ ⟨by first | rfl | simp only [t1, t2, t3, t4, t5, t6, t7], ?_⟩
    exact hR

def und (k o : Int) : Prop := o = 0 ∨ k = o ∨ (o = 1 ∧ 2 ≤ k ∧ k ≤ 4) ∨ (o = 2 ∧ 3 ≤ k ∧ k ≤ 4)
theorem c_X11_isUnder {g : zq_G} {d : Nat} {M : zq_M} {Q : Option Value → zq_M → Prop} {k o : Int32} (hk : 0 ≤ k.toInt ∧ k.toInt ≤ 5) (ho : 0 ≤ o.toInt ∧ o.toInt ≤ 5) (h1 : und k.toInt o.toInt → True → Q (some (.int 1)) M) (h0 : ¬ und k.toInt o.toInt → Q (some (.int 0)) M) : mx g (d + 1) kX11_isUnder 0 [.int k, .int o, .null, .null] [] M Q := by
  have st : ∀ (a j : Int32), 0 ≤ a.toInt → a.toInt ≤ 5 → j.toInt < 6 → (a = o → Q (some (.int 1)) M) → (¬ a = o → mx g (d + 1) kX11_isUnder 4 [.null, .int o, .int (zq_rf g 1 a.toNatClampNeg), .int (j + 1)] [] M Q) → mx g (d + 1) kX11_isUnder 4 [.null, .int o, .int a, .int j] [] M Q := by
    intro a j a1 a2 j1 q1 q2
    refine mx_go 60 zq_t133 ?_
    show (((nI 6) : Int32) ≤ (j : Int32) → zq_b 0 ∧ Q (some (.int 0)) M) ∧ (¬ ((nI 6) : Int32) ≤ (j : Int32) → mx g (d) kX11_isKind 0 [.int (a)] [] M _)
    refine ⟨fun q => ?_, fun _ => ?_⟩
    · rw [n_le, n_nI (by decide)] at q; omega
    refine c_X11_isKind (fun _ _ => ?_) (fun q => by omega)
    show ((1 : Int32) = 0 → zq_b 0 ∧ Q (some (.int 0)) M) ∧ (¬ (1 : Int32) = 0 → (¬ (a : Int32) = (o : Int32) → vp_in a 6 ∧ mx g (d + 1) kX11_isUnder 4 [.null, .int (o), .int ((zq_rf g 1 (Int32.toNatClampNeg a))), .int ((j + 1))] [] M Q) ∧ ((a : Int32) = (o : Int32) → zq_b 1 ∧ Q (some (.int 1)) M))
    exact ⟨fun q => absurd q (by decide), fun _ => ⟨fun q => ⟨n_in a1 (by omega), q2 q⟩, fun q => ⟨Or.inr rfl, q1 q⟩⟩⟩
  have en : ∀ (j : Int32), Q (some (.int 0)) M → mx g (d + 1) kX11_isUnder 4 [.null, .int o, .int (-1), .int j] [] M Q := by
    intro j q1
    refine mx_go 60 zq_t133 ?_
    show (((nI 6) : Int32) ≤ (j : Int32) → zq_b 0 ∧ Q (some (.int 0)) M) ∧ (¬ ((nI 6) : Int32) ≤ (j : Int32) → mx g (d) kX11_isKind 0 [.int ((-1))] [] M _)
    refine ⟨fun _ => ⟨Or.inl rfl, q1⟩, fun _ => ?_⟩
    refine c_X11_isKind (fun q _ => absurd q (by decide)) (fun q => ?_)
    show ((0 : Int32) = 0 → zq_b 0 ∧ Q (some (.int 0)) M) ∧ (¬ (0 : Int32) = 0 → (¬ ((-1) : Int32) = (o : Int32) → vp_in (-1) 6 ∧ mx g (d + 1) kX11_isUnder 4 [.null, .int (o), .int ((zq_rf g 1 (Int32.toNatClampNeg (-1)))), .int ((j + 1))] [] M Q) ∧ (((-1) : Int32) = (o : Int32) → zq_b 1 ∧ Q (some (.int 1)) M))
    exact ⟨fun _ => ⟨Or.inl rfl, q1⟩, fun q => absurd rfl q⟩
  have val : ∀ (c : Nat), c < 6 → k.toInt = c → k = nI c := fun c hc e => by rw [n_eq, n_nI (by omega)]; exact e
  have ov : ∀ (c : Nat), c < 6 → ∀ {P : Prop}, ((o.toInt = c → P) → (nI c = o → P)) := fun c hc P f e => f (by rw [← e, n_nI (by omega)])
  have no : ∀ (c : Nat), c < 6 → ¬ nI c = o → ¬ o.toInt = c := fun c hc q e => q (by rw [n_eq, n_nI (by omega)]; omega)
  refine mx_go 60 zq_t133 ?_
  show mx g (d + 1) kX11_isUnder 4 [.null, .int (o), .int (k), .int (0)] [] M Q
  unfold und at h1 h0
  have hc : k.toInt = 0 ∨ k.toInt = 1 ∨ k.toInt = 2 ∨ k.toInt = 3 ∨ k.toInt = 4 ∨ k.toInt = 5 := by omega
  rcases hc with e | e | e | e | e | e
  · obtain rfl := val 0 (by decide) e
    refine st _ _ (by decide) (by decide) (by decide) (ov 0 (by decide) (fun q => h1 (by omega) trivial)) (fun q => ?_)
    exact en _ (h0 (by have := no 0 (by decide) q; omega))
  · obtain rfl := val 1 (by decide) e
    refine st _ _ (by decide) (by decide) (by decide) (ov 1 (by decide) (fun q => h1 (by omega) trivial)) (fun q1 => ?_)
    refine st 0 _ (by decide) (by decide) (by decide) (ov 0 (by decide) (fun q => h1 (by omega) trivial)) (fun q => ?_)
    exact en _ (h0 (by have := no 1 (by decide) q1; have := no 0 (by decide) q; omega))
  · obtain rfl := val 2 (by decide) e
    refine st _ _ (by decide) (by decide) (by decide) (ov 2 (by decide) (fun q => h1 (by omega) trivial)) (fun q2 => ?_)
    refine st 1 _ (by decide) (by decide) (by decide) (ov 1 (by decide) (fun q => h1 (by omega) trivial)) (fun q1 => ?_)
    refine st 0 _ (by decide) (by decide) (by decide) (ov 0 (by decide) (fun q => h1 (by omega) trivial)) (fun q => ?_)
    exact en _ (h0 (by have := no 2 (by decide) q2; have := no 1 (by decide) q1; have := no 0 (by decide) q; omega))
  · obtain rfl := val 3 (by decide) e
    refine st _ _ (by decide) (by decide) (by decide) (ov 3 (by decide) (fun q => h1 (by omega) trivial)) (fun q3 => ?_)
    refine st 2 _ (by decide) (by decide) (by decide) (ov 2 (by decide) (fun q => h1 (by omega) trivial)) (fun q2 => ?_)
    refine st 1 _ (by decide) (by decide) (by decide) (ov 1 (by decide) (fun q => h1 (by omega) trivial)) (fun q1 => ?_)
    refine st 0 _ (by decide) (by decide) (by decide) (ov 0 (by decide) (fun q => h1 (by omega) trivial)) (fun q => ?_)
    exact en _ (h0 (by have := no 3 (by decide) q3; have := no 2 (by decide) q2; have := no 1 (by decide) q1; have := no 0 (by decide) q; omega))
  · obtain rfl := val 4 (by decide) e
    refine st _ _ (by decide) (by decide) (by decide) (ov 4 (by decide) (fun q => h1 (by omega) trivial)) (fun q3 => ?_)
    refine st 2 _ (by decide) (by decide) (by decide) (ov 2 (by decide) (fun q => h1 (by omega) trivial)) (fun q2 => ?_)
    refine st 1 _ (by decide) (by decide) (by decide) (ov 1 (by decide) (fun q => h1 (by omega) trivial)) (fun q1 => ?_)
    refine st 0 _ (by decide) (by decide) (by decide) (ov 0 (by decide) (fun q => h1 (by omega) trivial)) (fun q => ?_)
    exact en _ (h0 (by have := no 4 (by decide) q3; have := no 2 (by decide) q2; have := no 1 (by decide) q1; have := no 0 (by decide) q; omega))
  · obtain rfl := val 5 (by decide) e
    refine st _ _ (by decide) (by decide) (by decide) (ov 5 (by decide) (fun q => h1 (by omega) trivial)) (fun q5 => ?_)
    refine st 0 _ (by decide) (by decide) (by decide) (ov 0 (by decide) (fun q => h1 (by omega) trivial)) (fun q => ?_)
    exact en _ (h0 (by have := no 5 (by decide) q5; have := no 0 (by decide) q; omega))
end
