-- ===== PART A: goes FIRST, ahead of the names: the tables' words, and 'selects' of the private methods out of them =====
/-- a private method of a class that the tables say can be made, by its rows of tables_1 -/
def lw_okq (q : MethodName × Nat) : Prop := (q.1.cls ≠ "java/lang/invoke/MethodHandle" ∧ q.1.cls ≠ "java/lang/invoke/VarHandle") ∧ Cond.instantiable q.1.cls q.2 ∈ tables_1 ∧ Cond.privateMethod q.1 ∈ tables_1 ∧ Cond.instanceMethod q.1 ∈ tables_1
theorem lw_p0 : lw_okq (⟨"NightShelter$Tokens", "skipBlanks", "()V"⟩, 6) := ⟨⟨by decide +kernel, by decide +kernel⟩, List.mem_of_getElem? (i := 349) (by decide +kernel), List.mem_of_getElem? (i := 382) (by decide +kernel), List.mem_of_getElem? (i := 383) (by decide +kernel)⟩
theorem lw_p1 : lw_okq (⟨"NightShelter$Tokens", "byteAt", "(I)I"⟩, 6) := ⟨⟨by decide +kernel, by decide +kernel⟩, List.mem_of_getElem? (i := 349) (by decide +kernel), List.mem_of_getElem? (i := 386) (by decide +kernel), List.mem_of_getElem? (i := 387) (by decide +kernel)⟩
theorem lw_p2 : lw_okq (⟨"NightShelter$Tokens", "readToken", "(I)I"⟩, 6) := ⟨⟨by decide +kernel, by decide +kernel⟩, List.mem_of_getElem? (i := 349) (by decide +kernel), List.mem_of_getElem? (i := 390) (by decide +kernel), List.mem_of_getElem? (i := 391) (by decide +kernel)⟩
theorem lw_p3 : lw_okq (⟨"NightShelter$Tokens", "readWord", "()I"⟩, 6) := ⟨⟨by decide +kernel, by decide +kernel⟩, List.mem_of_getElem? (i := 349) (by decide +kernel), List.mem_of_getElem? (i := 397) (by decide +kernel), List.mem_of_getElem? (i := 398) (by decide +kernel)⟩
theorem lw_p4 : lw_okq (⟨"NightShelter$Tokens", "ruleWord", "(I)I"⟩, 6) := ⟨⟨by decide +kernel, by decide +kernel⟩, List.mem_of_getElem? (i := 349) (by decide +kernel), List.mem_of_getElem? (i := 401) (by decide +kernel), List.mem_of_getElem? (i := 402) (by decide +kernel)⟩
theorem lw_p5 : lw_okq (⟨"NightShelter$Tokens", "spells", "(ILjava/lang/String;)Z"⟩, 6) := ⟨⟨by decide +kernel, by decide +kernel⟩, List.mem_of_getElem? (i := 349) (by decide +kernel), List.mem_of_getElem? (i := 406) (by decide +kernel), List.mem_of_getElem? (i := 407) (by decide +kernel)⟩
theorem lw_p6 : lw_okq (⟨"NightShelter$Tokens", "testWord", "(I)I"⟩, 6) := ⟨⟨by decide +kernel, by decide +kernel⟩, List.mem_of_getElem? (i := 349) (by decide +kernel), List.mem_of_getElem? (i := 463) (by decide +kernel), List.mem_of_getElem? (i := 464) (by decide +kernel)⟩
theorem lw_p7 : lw_okq (⟨"NightShelter$Tokens", "readNumber", "(I)I"⟩, 6) := ⟨⟨by decide +kernel, by decide +kernel⟩, List.mem_of_getElem? (i := 349) (by decide +kernel), List.mem_of_getElem? (i := 480) (by decide +kernel), List.mem_of_getElem? (i := 481) (by decide +kernel)⟩
theorem lw_p8 : lw_okq (⟨"NightShelter$Parser", "kind", "()I"⟩, 6) := ⟨⟨by decide +kernel, by decide +kernel⟩, List.mem_of_getElem? (i := 487) (by decide +kernel), List.mem_of_getElem? (i := 521) (by decide +kernel), List.mem_of_getElem? (i := 522) (by decide +kernel)⟩
theorem lw_p9 : lw_okq (⟨"NightShelter$Parser", "readLine", "(I)Z"⟩, 6) := ⟨⟨by decide +kernel, by decide +kernel⟩, List.mem_of_getElem? (i := 487) (by decide +kernel), List.mem_of_getElem? (i := 525) (by decide +kernel), List.mem_of_getElem? (i := 526) (by decide +kernel)⟩
theorem lw_p10 : lw_okq (⟨"NightShelter$Parser", "noteIfTooMany", "(II)V"⟩, 6) := ⟨⟨by decide +kernel, by decide +kernel⟩, List.mem_of_getElem? (i := 487) (by decide +kernel), List.mem_of_getElem? (i := 529) (by decide +kernel), List.mem_of_getElem? (i := 530) (by decide +kernel)⟩
theorem lw_p11 : lw_okq (⟨"NightShelter$Parser", "skip", "(I)Z"⟩, 6) := ⟨⟨by decide +kernel, by decide +kernel⟩, List.mem_of_getElem? (i := 487) (by decide +kernel), List.mem_of_getElem? (i := 533) (by decide +kernel), List.mem_of_getElem? (i := 534) (by decide +kernel)⟩
theorem lw_p12 : lw_okq (⟨"NightShelter$Parser", "readTests", "(I)Z"⟩, 6) := ⟨⟨by decide +kernel, by decide +kernel⟩, List.mem_of_getElem? (i := 487) (by decide +kernel), List.mem_of_getElem? (i := 537) (by decide +kernel), List.mem_of_getElem? (i := 538) (by decide +kernel)⟩
theorem lw_p13 : lw_okq (⟨"NightShelter$Parser", "readTest", "(I)Z"⟩, 6) := ⟨⟨by decide +kernel, by decide +kernel⟩, List.mem_of_getElem? (i := 487) (by decide +kernel), List.mem_of_getElem? (i := 541) (by decide +kernel), List.mem_of_getElem? (i := 542) (by decide +kernel)⟩
theorem lw_p14 : lw_okq (⟨"NightShelter$Parser", "readAct", "(I)Z"⟩, 6) := ⟨⟨by decide +kernel, by decide +kernel⟩, List.mem_of_getElem? (i := 487) (by decide +kernel), List.mem_of_getElem? (i := 549) (by decide +kernel), List.mem_of_getElem? (i := 550) (by decide +kernel)⟩
theorem lw_p15 : lw_okq (⟨"NightShelter$People", "howPaired", "(II)I"⟩, 13) := ⟨⟨by decide +kernel, by decide +kernel⟩, List.mem_of_getElem? (i := 122) (by decide +kernel), List.mem_of_getElem? (i := 608) (by decide +kernel), List.mem_of_getElem? (i := 609) (by decide +kernel)⟩
def lw_privs_1 : List (MethodName × Nat) := [(⟨"NightShelter$Tokens", "skipBlanks", "()V"⟩, 6), (⟨"NightShelter$Tokens", "byteAt", "(I)I"⟩, 6), (⟨"NightShelter$Tokens", "readToken", "(I)I"⟩, 6), (⟨"NightShelter$Tokens", "readWord", "()I"⟩, 6), (⟨"NightShelter$Tokens", "ruleWord", "(I)I"⟩, 6), (⟨"NightShelter$Tokens", "spells", "(ILjava/lang/String;)Z"⟩, 6), (⟨"NightShelter$Tokens", "testWord", "(I)I"⟩, 6), (⟨"NightShelter$Tokens", "readNumber", "(I)I"⟩, 6), (⟨"NightShelter$Parser", "kind", "()I"⟩, 6), (⟨"NightShelter$Parser", "readLine", "(I)Z"⟩, 6), (⟨"NightShelter$Parser", "noteIfTooMany", "(II)V"⟩, 6), (⟨"NightShelter$Parser", "skip", "(I)Z"⟩, 6), (⟨"NightShelter$Parser", "readTests", "(I)Z"⟩, 6), (⟨"NightShelter$Parser", "readTest", "(I)Z"⟩, 6), (⟨"NightShelter$Parser", "readAct", "(I)Z"⟩, 6), (⟨"NightShelter$People", "howPaired", "(II)I"⟩, 13)]
theorem lw_r1 : ∀ q ∈ lw_privs_1, lw_okq q := List.forall_mem_cons.mpr ⟨lw_p0, List.forall_mem_cons.mpr ⟨lw_p1, List.forall_mem_cons.mpr ⟨lw_p2, List.forall_mem_cons.mpr ⟨lw_p3, List.forall_mem_cons.mpr ⟨lw_p4, List.forall_mem_cons.mpr ⟨lw_p5, List.forall_mem_cons.mpr ⟨lw_p6, List.forall_mem_cons.mpr ⟨lw_p7, List.forall_mem_cons.mpr ⟨lw_p8, List.forall_mem_cons.mpr ⟨lw_p9, List.forall_mem_cons.mpr ⟨lw_p10, List.forall_mem_cons.mpr ⟨lw_p11, List.forall_mem_cons.mpr ⟨lw_p12, List.forall_mem_cons.mpr ⟨lw_p13, List.forall_mem_cons.mpr ⟨lw_p14, List.forall_mem_cons.mpr ⟨lw_p15, fun _ h => absurd h List.not_mem_nil⟩⟩⟩⟩⟩⟩⟩⟩⟩⟩⟩⟩⟩⟩⟩⟩
theorem lw_p16 : lw_okq (⟨"NightShelter$Porter", "lookAt", "(LNightShelter$Night;I)V"⟩, 3) := ⟨⟨by decide +kernel, by decide +kernel⟩, List.mem_of_getElem? (i := 252) (by decide +kernel), List.mem_of_getElem? (i := 706) (by decide +kernel), List.mem_of_getElem? (i := 707) (by decide +kernel)⟩
theorem lw_p17 : lw_okq (⟨"NightShelter$Porter", "putInOrder", "(LNightShelter$Night;II)V"⟩, 3) := ⟨⟨by decide +kernel, by decide +kernel⟩, List.mem_of_getElem? (i := 252) (by decide +kernel), List.mem_of_getElem? (i := 734) (by decide +kernel), List.mem_of_getElem? (i := 735) (by decide +kernel)⟩
theorem lw_p18 : lw_okq (⟨"NightShelter$Porter", "isAhead", "(LNightShelter$Night;III)Z"⟩, 3) := ⟨⟨by decide +kernel, by decide +kernel⟩, List.mem_of_getElem? (i := 252) (by decide +kernel), List.mem_of_getElem? (i := 738) (by decide +kernel), List.mem_of_getElem? (i := 739) (by decide +kernel)⟩
theorem lw_p19 : lw_okq (⟨"NightShelter$Porter", "reasonAgainst", "(LNightShelter$Night;I)I"⟩, 3) := ⟨⟨by decide +kernel, by decide +kernel⟩, List.mem_of_getElem? (i := 252) (by decide +kernel), List.mem_of_getElem? (i := 759) (by decide +kernel), List.mem_of_getElem? (i := 760) (by decide +kernel)⟩
theorem lw_p20 : lw_okq (⟨"NightShelter$Placer", "illOf", "(I)I"⟩, 13) := ⟨⟨by decide +kernel, by decide +kernel⟩, List.mem_of_getElem? (i := 258) (by decide +kernel), List.mem_of_getElem? (i := 767) (by decide +kernel), List.mem_of_getElem? (i := 768) (by decide +kernel)⟩
theorem lw_p21 : lw_okq (⟨"NightShelter$Placer", "foesOf", "(I)I"⟩, 13) := ⟨⟨by decide +kernel, by decide +kernel⟩, List.mem_of_getElem? (i := 258) (by decide +kernel), List.mem_of_getElem? (i := 772) (by decide +kernel), List.mem_of_getElem? (i := 773) (by decide +kernel)⟩
theorem lw_p22 : lw_okq (⟨"NightShelter$Placer", "suits", "(II)Z"⟩, 13) := ⟨⟨by decide +kernel, by decide +kernel⟩, List.mem_of_getElem? (i := 258) (by decide +kernel), List.mem_of_getElem? (i := 776) (by decide +kernel), List.mem_of_getElem? (i := 777) (by decide +kernel)⟩
theorem lw_p23 : lw_okq (⟨"NightShelter$Placer", "areAllOfKind", "(II)Z"⟩, 13) := ⟨⟨by decide +kernel, by decide +kernel⟩, List.mem_of_getElem? (i := 258) (by decide +kernel), List.mem_of_getElem? (i := 781) (by decide +kernel), List.mem_of_getElem? (i := 782) (by decide +kernel)⟩
theorem lw_p24 : lw_okq (⟨"NightShelter$Placer", "placeRest", "(I)Z"⟩, 13) := ⟨⟨by decide +kernel, by decide +kernel⟩, List.mem_of_getElem? (i := 258) (by decide +kernel), List.mem_of_getElem? (i := 791) (by decide +kernel), List.mem_of_getElem? (i := 792) (by decide +kernel)⟩
theorem lw_p25 : lw_okq (⟨"NightShelter$Placer", "tightest", "()I"⟩, 13) := ⟨⟨by decide +kernel, by decide +kernel⟩, List.mem_of_getElem? (i := 258) (by decide +kernel), List.mem_of_getElem? (i := 795) (by decide +kernel), List.mem_of_getElem? (i := 796) (by decide +kernel)⟩
theorem lw_p26 : lw_okq (⟨"NightShelter$Placer", "openRooms", "(I)I"⟩, 13) := ⟨⟨by decide +kernel, by decide +kernel⟩, List.mem_of_getElem? (i := 258) (by decide +kernel), List.mem_of_getElem? (i := 799) (by decide +kernel), List.mem_of_getElem? (i := 800) (by decide +kernel)⟩
theorem lw_p27 : lw_okq (⟨"NightShelter$Placer", "areAlike", "(II)Z"⟩, 13) := ⟨⟨by decide +kernel, by decide +kernel⟩, List.mem_of_getElem? (i := 258) (by decide +kernel), List.mem_of_getElem? (i := 803) (by decide +kernel), List.mem_of_getElem? (i := 804) (by decide +kernel)⟩
theorem lw_p28 : lw_okq (⟨"NightShelter$Placer", "isOpen", "(II)Z"⟩, 13) := ⟨⟨by decide +kernel, by decide +kernel⟩, List.mem_of_getElem? (i := 258) (by decide +kernel), List.mem_of_getElem? (i := 813) (by decide +kernel), List.mem_of_getElem? (i := 814) (by decide +kernel)⟩
theorem lw_p29 : lw_okq (⟨"NightShelter$Placer", "clashesOf", "(I)I"⟩, 13) := ⟨⟨by decide +kernel, by decide +kernel⟩, List.mem_of_getElem? (i := 258) (by decide +kernel), List.mem_of_getElem? (i := 817) (by decide +kernel), List.mem_of_getElem? (i := 818) (by decide +kernel)⟩
theorem lw_p30 : lw_okq (⟨"NightShelter$Placer", "isCrowded", "()Z"⟩, 13) := ⟨⟨by decide +kernel, by decide +kernel⟩, List.mem_of_getElem? (i := 258) (by decide +kernel), List.mem_of_getElem? (i := 821) (by decide +kernel), List.mem_of_getElem? (i := 822) (by decide +kernel)⟩
theorem lw_p31 : lw_okq (⟨"NightShelter$Placer", "waitingFor", "(I)I"⟩, 13) := ⟨⟨by decide +kernel, by decide +kernel⟩, List.mem_of_getElem? (i := 258) (by decide +kernel), List.mem_of_getElem? (i := 825) (by decide +kernel), List.mem_of_getElem? (i := 826) (by decide +kernel)⟩
def lw_privs_2 : List (MethodName × Nat) := [(⟨"NightShelter$Porter", "lookAt", "(LNightShelter$Night;I)V"⟩, 3), (⟨"NightShelter$Porter", "putInOrder", "(LNightShelter$Night;II)V"⟩, 3), (⟨"NightShelter$Porter", "isAhead", "(LNightShelter$Night;III)Z"⟩, 3), (⟨"NightShelter$Porter", "reasonAgainst", "(LNightShelter$Night;I)I"⟩, 3), (⟨"NightShelter$Placer", "illOf", "(I)I"⟩, 13), (⟨"NightShelter$Placer", "foesOf", "(I)I"⟩, 13), (⟨"NightShelter$Placer", "suits", "(II)Z"⟩, 13), (⟨"NightShelter$Placer", "areAllOfKind", "(II)Z"⟩, 13), (⟨"NightShelter$Placer", "placeRest", "(I)Z"⟩, 13), (⟨"NightShelter$Placer", "tightest", "()I"⟩, 13), (⟨"NightShelter$Placer", "openRooms", "(I)I"⟩, 13), (⟨"NightShelter$Placer", "areAlike", "(II)Z"⟩, 13), (⟨"NightShelter$Placer", "isOpen", "(II)Z"⟩, 13), (⟨"NightShelter$Placer", "clashesOf", "(I)I"⟩, 13), (⟨"NightShelter$Placer", "isCrowded", "()Z"⟩, 13), (⟨"NightShelter$Placer", "waitingFor", "(I)I"⟩, 13)]
theorem lw_r2 : ∀ q ∈ lw_privs_2, lw_okq q := List.forall_mem_cons.mpr ⟨lw_p16, List.forall_mem_cons.mpr ⟨lw_p17, List.forall_mem_cons.mpr ⟨lw_p18, List.forall_mem_cons.mpr ⟨lw_p19, List.forall_mem_cons.mpr ⟨lw_p20, List.forall_mem_cons.mpr ⟨lw_p21, List.forall_mem_cons.mpr ⟨lw_p22, List.forall_mem_cons.mpr ⟨lw_p23, List.forall_mem_cons.mpr ⟨lw_p24, List.forall_mem_cons.mpr ⟨lw_p25, List.forall_mem_cons.mpr ⟨lw_p26, List.forall_mem_cons.mpr ⟨lw_p27, List.forall_mem_cons.mpr ⟨lw_p28, List.forall_mem_cons.mpr ⟨lw_p29, List.forall_mem_cons.mpr ⟨lw_p30, List.forall_mem_cons.mpr ⟨lw_p31, fun _ h => absurd h List.not_mem_nil⟩⟩⟩⟩⟩⟩⟩⟩⟩⟩⟩⟩⟩⟩⟩⟩
theorem lw_p32 : lw_okq (⟨"NightShelter$Placer", "put", "(II)V"⟩, 13) := ⟨⟨by decide +kernel, by decide +kernel⟩, List.mem_of_getElem? (i := 258) (by decide +kernel), List.mem_of_getElem? (i := 829) (by decide +kernel), List.mem_of_getElem? (i := 830) (by decide +kernel)⟩
theorem lw_p33 : lw_okq (⟨"NightShelter$Placer", "takeOut", "(I)V"⟩, 13) := ⟨⟨by decide +kernel, by decide +kernel⟩, List.mem_of_getElem? (i := 258) (by decide +kernel), List.mem_of_getElem? (i := 833) (by decide +kernel), List.mem_of_getElem? (i := 834) (by decide +kernel)⟩
theorem lw_p34 : lw_okq (⟨"NightShelter$Placer", "takeOutUnsettled", "()V"⟩, 13) := ⟨⟨by decide +kernel, by decide +kernel⟩, List.mem_of_getElem? (i := 258) (by decide +kernel), List.mem_of_getElem? (i := 837) (by decide +kernel), List.mem_of_getElem? (i := 838) (by decide +kernel)⟩
theorem lw_p35 : lw_okq (⟨"NightShelter$Placer", "partyWith", "(I)I"⟩, 13) := ⟨⟨by decide +kernel, by decide +kernel⟩, List.mem_of_getElem? (i := 258) (by decide +kernel), List.mem_of_getElem? (i := 854) (by decide +kernel), List.mem_of_getElem? (i := 855) (by decide +kernel)⟩
theorem lw_p36 : lw_okq (⟨"NightShelterModel", "four", "(I)V"⟩, 59) := ⟨⟨by decide +kernel, by decide +kernel⟩, List.mem_of_getElem? (i := 981) (by decide +kernel), List.mem_of_getElem? (i := 1169) (by decide +kernel), List.mem_of_getElem? (i := 1170) (by decide +kernel)⟩
theorem lw_p37 : lw_okq (⟨"NightShelterModel", "next", "()V"⟩, 59) := ⟨⟨by decide +kernel, by decide +kernel⟩, List.mem_of_getElem? (i := 981) (by decide +kernel), List.mem_of_getElem? (i := 1184) (by decide +kernel), List.mem_of_getElem? (i := 1185) (by decide +kernel)⟩
theorem lw_p38 : lw_okq (⟨"NightShelterModel", "see", "()I"⟩, 59) := ⟨⟨by decide +kernel, by decide +kernel⟩, List.mem_of_getElem? (i := 981) (by decide +kernel), List.mem_of_getElem? (i := 1188) (by decide +kernel), List.mem_of_getElem? (i := 1189) (by decide +kernel)⟩
theorem lw_p39 : lw_okq (⟨"NightShelterModel", "oneLine", "()Z"⟩, 59) := ⟨⟨by decide +kernel, by decide +kernel⟩, List.mem_of_getElem? (i := 981) (by decide +kernel), List.mem_of_getElem? (i := 1192) (by decide +kernel), List.mem_of_getElem? (i := 1193) (by decide +kernel)⟩
theorem lw_p40 : lw_okq (⟨"NightShelterModel", "tooMany", "(I)V"⟩, 59) := ⟨⟨by decide +kernel, by decide +kernel⟩, List.mem_of_getElem? (i := 981) (by decide +kernel), List.mem_of_getElem? (i := 1196) (by decide +kernel), List.mem_of_getElem? (i := 1197) (by decide +kernel)⟩
theorem lw_p41 : lw_okq (⟨"NightShelterModel", "isWord", "(J)Z"⟩, 59) := ⟨⟨by decide +kernel, by decide +kernel⟩, List.mem_of_getElem? (i := 981) (by decide +kernel), List.mem_of_getElem? (i := 1201) (by decide +kernel), List.mem_of_getElem? (i := 1202) (by decide +kernel)⟩
theorem lw_p42 : lw_okq (⟨"NightShelterModel", "test", "(II)Z"⟩, 59) := ⟨⟨by decide +kernel, by decide +kernel⟩, List.mem_of_getElem? (i := 981) (by decide +kernel), List.mem_of_getElem? (i := 1205) (by decide +kernel), List.mem_of_getElem? (i := 1206) (by decide +kernel)⟩
theorem lw_p43 : lw_okq (⟨"NightShelterModel", "wrong", "()Z"⟩, 59) := ⟨⟨by decide +kernel, by decide +kernel⟩, List.mem_of_getElem? (i := 981) (by decide +kernel), List.mem_of_getElem? (i := 1220) (by decide +kernel), List.mem_of_getElem? (i := 1221) (by decide +kernel)⟩
theorem lw_p44 : lw_okq (⟨"NightShelterModel", "need", "(I)Z"⟩, 59) := ⟨⟨by decide +kernel, by decide +kernel⟩, List.mem_of_getElem? (i := 981) (by decide +kernel), List.mem_of_getElem? (i := 1225) (by decide +kernel), List.mem_of_getElem? (i := 1226) (by decide +kernel)⟩
theorem lw_p45 : lw_okq (⟨"NightShelterModel", "isSign", "(I)Z"⟩, 59) := ⟨⟨by decide +kernel, by decide +kernel⟩, List.mem_of_getElem? (i := 981) (by decide +kernel), List.mem_of_getElem? (i := 1229) (by decide +kernel), List.mem_of_getElem? (i := 1230) (by decide +kernel)⟩
theorem lw_p46 : lw_okq (⟨"NightShelterModel", "isPerson", "(I)Z"⟩, 59) := ⟨⟨by decide +kernel, by decide +kernel⟩, List.mem_of_getElem? (i := 981) (by decide +kernel), List.mem_of_getElem? (i := 1252) (by decide +kernel), List.mem_of_getElem? (i := 1253) (by decide +kernel)⟩
theorem lw_p47 : lw_okq (⟨"NightShelterModel", "pairs", "()I"⟩, 59) := ⟨⟨by decide +kernel, by decide +kernel⟩, List.mem_of_getElem? (i := 981) (by decide +kernel), List.mem_of_getElem? (i := 1264) (by decide +kernel), List.mem_of_getElem? (i := 1265) (by decide +kernel)⟩
def lw_privs_3 : List (MethodName × Nat) := [(⟨"NightShelter$Placer", "put", "(II)V"⟩, 13), (⟨"NightShelter$Placer", "takeOut", "(I)V"⟩, 13), (⟨"NightShelter$Placer", "takeOutUnsettled", "()V"⟩, 13), (⟨"NightShelter$Placer", "partyWith", "(I)I"⟩, 13), (⟨"NightShelterModel", "four", "(I)V"⟩, 59), (⟨"NightShelterModel", "next", "()V"⟩, 59), (⟨"NightShelterModel", "see", "()I"⟩, 59), (⟨"NightShelterModel", "oneLine", "()Z"⟩, 59), (⟨"NightShelterModel", "tooMany", "(I)V"⟩, 59), (⟨"NightShelterModel", "isWord", "(J)Z"⟩, 59), (⟨"NightShelterModel", "test", "(II)Z"⟩, 59), (⟨"NightShelterModel", "wrong", "()Z"⟩, 59), (⟨"NightShelterModel", "need", "(I)Z"⟩, 59), (⟨"NightShelterModel", "isSign", "(I)Z"⟩, 59), (⟨"NightShelterModel", "isPerson", "(I)Z"⟩, 59), (⟨"NightShelterModel", "pairs", "()I"⟩, 59)]
theorem lw_r3 : ∀ q ∈ lw_privs_3, lw_okq q := List.forall_mem_cons.mpr ⟨lw_p32, List.forall_mem_cons.mpr ⟨lw_p33, List.forall_mem_cons.mpr ⟨lw_p34, List.forall_mem_cons.mpr ⟨lw_p35, List.forall_mem_cons.mpr ⟨lw_p36, List.forall_mem_cons.mpr ⟨lw_p37, List.forall_mem_cons.mpr ⟨lw_p38, List.forall_mem_cons.mpr ⟨lw_p39, List.forall_mem_cons.mpr ⟨lw_p40, List.forall_mem_cons.mpr ⟨lw_p41, List.forall_mem_cons.mpr ⟨lw_p42, List.forall_mem_cons.mpr ⟨lw_p43, List.forall_mem_cons.mpr ⟨lw_p44, List.forall_mem_cons.mpr ⟨lw_p45, List.forall_mem_cons.mpr ⟨lw_p46, List.forall_mem_cons.mpr ⟨lw_p47, fun _ h => absurd h List.not_mem_nil⟩⟩⟩⟩⟩⟩⟩⟩⟩⟩⟩⟩⟩⟩⟩⟩
theorem lw_p48 : lw_okq (⟨"NightShelterModel", "makeOrder", "(II)V"⟩, 59) := ⟨⟨by decide +kernel, by decide +kernel⟩, List.mem_of_getElem? (i := 981) (by decide +kernel), List.mem_of_getElem? (i := 1279) (by decide +kernel), List.mem_of_getElem? (i := 1280) (by decide +kernel)⟩
theorem lw_p49 : lw_okq (⟨"NightShelterModel", "pointsOf", "(II)I"⟩, 59) := ⟨⟨by decide +kernel, by decide +kernel⟩, List.mem_of_getElem? (i := 981) (by decide +kernel), List.mem_of_getElem? (i := 1283) (by decide +kernel), List.mem_of_getElem? (i := 1284) (by decide +kernel)⟩
theorem lw_p50 : lw_okq (⟨"NightShelterModel", "holdsLine", "(III)Z"⟩, 59) := ⟨⟨by decide +kernel, by decide +kernel⟩, List.mem_of_getElem? (i := 981) (by decide +kernel), List.mem_of_getElem? (i := 1287) (by decide +kernel), List.mem_of_getElem? (i := 1288) (by decide +kernel)⟩
theorem lw_p51 : lw_okq (⟨"NightShelterModel", "asked", "(III)I"⟩, 59) := ⟨⟨by decide +kernel, by decide +kernel⟩, List.mem_of_getElem? (i := 981) (by decide +kernel), List.mem_of_getElem? (i := 1291) (by decide +kernel), List.mem_of_getElem? (i := 1292) (by decide +kernel)⟩
theorem lw_p52 : lw_okq (⟨"NightShelterModel", "wasHere", "(I)Z"⟩, 59) := ⟨⟨by decide +kernel, by decide +kernel⟩, List.mem_of_getElem? (i := 981) (by decide +kernel), List.mem_of_getElem? (i := 1295) (by decide +kernel), List.mem_of_getElem? (i := 1296) (by decide +kernel)⟩
theorem lw_p53 : lw_okq (⟨"NightShelterModel", "isAhead", "(II)Z"⟩, 59) := ⟨⟨by decide +kernel, by decide +kernel⟩, List.mem_of_getElem? (i := 981) (by decide +kernel), List.mem_of_getElem? (i := 1300) (by decide +kernel), List.mem_of_getElem? (i := 1301) (by decide +kernel)⟩
theorem lw_p54 : lw_okq (⟨"NightShelterModel", "take", "()I"⟩, 59) := ⟨⟨by decide +kernel, by decide +kernel⟩, List.mem_of_getElem? (i := 981) (by decide +kernel), List.mem_of_getElem? (i := 1304) (by decide +kernel), List.mem_of_getElem? (i := 1305) (by decide +kernel)⟩
theorem lw_p55 : lw_okq (⟨"NightShelterModel", "hanging", "(II)I"⟩, 59) := ⟨⟨by decide +kernel, by decide +kernel⟩, List.mem_of_getElem? (i := 981) (by decide +kernel), List.mem_of_getElem? (i := 1308) (by decide +kernel), List.mem_of_getElem? (i := 1309) (by decide +kernel)⟩
theorem lw_p56 : lw_okq (⟨"NightShelterModel", "emptyRooms", "()V"⟩, 59) := ⟨⟨by decide +kernel, by decide +kernel⟩, List.mem_of_getElem? (i := 981) (by decide +kernel), List.mem_of_getElem? (i := 1312) (by decide +kernel), List.mem_of_getElem? (i := 1313) (by decide +kernel)⟩
theorem lw_p57 : lw_okq (⟨"NightShelterModel", "lacksOne", "(II)Z"⟩, 59) := ⟨⟨by decide +kernel, by decide +kernel⟩, List.mem_of_getElem? (i := 981) (by decide +kernel), List.mem_of_getElem? (i := 1316) (by decide +kernel), List.mem_of_getElem? (i := 1317) (by decide +kernel)⟩
theorem lw_p58 : lw_okq (⟨"NightShelterModel", "fitsOne", "(I)Z"⟩, 59) := ⟨⟨by decide +kernel, by decide +kernel⟩, List.mem_of_getElem? (i := 981) (by decide +kernel), List.mem_of_getElem? (i := 1320) (by decide +kernel), List.mem_of_getElem? (i := 1321) (by decide +kernel)⟩
theorem lw_p59 : lw_okq (⟨"NightShelterModel", "may", "(II)Z"⟩, 59) := ⟨⟨by decide +kernel, by decide +kernel⟩, List.mem_of_getElem? (i := 981) (by decide +kernel), List.mem_of_getElem? (i := 1324) (by decide +kernel), List.mem_of_getElem? (i := 1325) (by decide +kernel)⟩
theorem lw_p60 : lw_okq (⟨"NightShelterModel", "capacity", "(I)I"⟩, 59) := ⟨⟨by decide +kernel, by decide +kernel⟩, List.mem_of_getElem? (i := 981) (by decide +kernel), List.mem_of_getElem? (i := 1328) (by decide +kernel), List.mem_of_getElem? (i := 1329) (by decide +kernel)⟩
theorem lw_p61 : lw_okq (⟨"NightShelterModel", "lowest", "(I)I"⟩, 59) := ⟨⟨by decide +kernel, by decide +kernel⟩, List.mem_of_getElem? (i := 981) (by decide +kernel), List.mem_of_getElem? (i := 1332) (by decide +kernel), List.mem_of_getElem? (i := 1333) (by decide +kernel)⟩
theorem lw_p62 : lw_okq (⟨"NightShelterModel", "canPlace", "(I)Z"⟩, 59) := ⟨⟨by decide +kernel, by decide +kernel⟩, List.mem_of_getElem? (i := 981) (by decide +kernel), List.mem_of_getElem? (i := 1336) (by decide +kernel), List.mem_of_getElem? (i := 1337) (by decide +kernel)⟩
theorem lw_p63 : lw_okq (⟨"NightShelterModel", "ways", "(I)I"⟩, 59) := ⟨⟨by decide +kernel, by decide +kernel⟩, List.mem_of_getElem? (i := 981) (by decide +kernel), List.mem_of_getElem? (i := 1340) (by decide +kernel), List.mem_of_getElem? (i := 1341) (by decide +kernel)⟩
def lw_privs_4 : List (MethodName × Nat) := [(⟨"NightShelterModel", "makeOrder", "(II)V"⟩, 59), (⟨"NightShelterModel", "pointsOf", "(II)I"⟩, 59), (⟨"NightShelterModel", "holdsLine", "(III)Z"⟩, 59), (⟨"NightShelterModel", "asked", "(III)I"⟩, 59), (⟨"NightShelterModel", "wasHere", "(I)Z"⟩, 59), (⟨"NightShelterModel", "isAhead", "(II)Z"⟩, 59), (⟨"NightShelterModel", "take", "()I"⟩, 59), (⟨"NightShelterModel", "hanging", "(II)I"⟩, 59), (⟨"NightShelterModel", "emptyRooms", "()V"⟩, 59), (⟨"NightShelterModel", "lacksOne", "(II)Z"⟩, 59), (⟨"NightShelterModel", "fitsOne", "(I)Z"⟩, 59), (⟨"NightShelterModel", "may", "(II)Z"⟩, 59), (⟨"NightShelterModel", "capacity", "(I)I"⟩, 59), (⟨"NightShelterModel", "lowest", "(I)I"⟩, 59), (⟨"NightShelterModel", "canPlace", "(I)Z"⟩, 59), (⟨"NightShelterModel", "ways", "(I)I"⟩, 59)]
theorem lw_r4 : ∀ q ∈ lw_privs_4, lw_okq q := List.forall_mem_cons.mpr ⟨lw_p48, List.forall_mem_cons.mpr ⟨lw_p49, List.forall_mem_cons.mpr ⟨lw_p50, List.forall_mem_cons.mpr ⟨lw_p51, List.forall_mem_cons.mpr ⟨lw_p52, List.forall_mem_cons.mpr ⟨lw_p53, List.forall_mem_cons.mpr ⟨lw_p54, List.forall_mem_cons.mpr ⟨lw_p55, List.forall_mem_cons.mpr ⟨lw_p56, List.forall_mem_cons.mpr ⟨lw_p57, List.forall_mem_cons.mpr ⟨lw_p58, List.forall_mem_cons.mpr ⟨lw_p59, List.forall_mem_cons.mpr ⟨lw_p60, List.forall_mem_cons.mpr ⟨lw_p61, List.forall_mem_cons.mpr ⟨lw_p62, List.forall_mem_cons.mpr ⟨lw_p63, fun _ h => absurd h List.not_mem_nil⟩⟩⟩⟩⟩⟩⟩⟩⟩⟩⟩⟩⟩⟩⟩⟩
theorem lw_p64 : lw_okq (⟨"NightShelterModel", "placeAll", "(I)V"⟩, 59) := ⟨⟨by decide +kernel, by decide +kernel⟩, List.mem_of_getElem? (i := 981) (by decide +kernel), List.mem_of_getElem? (i := 1344) (by decide +kernel), List.mem_of_getElem? (i := 1345) (by decide +kernel)⟩
theorem lw_p65 : lw_okq (⟨"NightShelterModel", "triesRoom", "(III)Z"⟩, 59) := ⟨⟨by decide +kernel, by decide +kernel⟩, List.mem_of_getElem? (i := 981) (by decide +kernel), List.mem_of_getElem? (i := 1348) (by decide +kernel), List.mem_of_getElem? (i := 1349) (by decide +kernel)⟩
theorem lw_p66 : lw_okq (⟨"NightShelterModel", "call", "(II)I"⟩, 59) := ⟨⟨by decide +kernel, by decide +kernel⟩, List.mem_of_getElem? (i := 981) (by decide +kernel), List.mem_of_getElem? (i := 1352) (by decide +kernel), List.mem_of_getElem? (i := 1353) (by decide +kernel)⟩
theorem lw_p67 : lw_okq (⟨"NightShelterModel", "isHelper", "(I)Z"⟩, 59) := ⟨⟨by decide +kernel, by decide +kernel⟩, List.mem_of_getElem? (i := 981) (by decide +kernel), List.mem_of_getElem? (i := 1368) (by decide +kernel), List.mem_of_getElem? (i := 1369) (by decide +kernel)⟩
theorem lw_p68 : lw_okq (⟨"NightShelterModel", "copy", "(II)V"⟩, 59) := ⟨⟨by decide +kernel, by decide +kernel⟩, List.mem_of_getElem? (i := 981) (by decide +kernel), List.mem_of_getElem? (i := 1392) (by decide +kernel), List.mem_of_getElem? (i := 1393) (by decide +kernel)⟩
def lw_privs_5 : List (MethodName × Nat) := [(⟨"NightShelterModel", "placeAll", "(I)V"⟩, 59), (⟨"NightShelterModel", "triesRoom", "(III)Z"⟩, 59), (⟨"NightShelterModel", "call", "(II)I"⟩, 59), (⟨"NightShelterModel", "isHelper", "(I)Z"⟩, 59), (⟨"NightShelterModel", "copy", "(II)V"⟩, 59)]
theorem lw_r5 : ∀ q ∈ lw_privs_5, lw_okq q := List.forall_mem_cons.mpr ⟨lw_p64, List.forall_mem_cons.mpr ⟨lw_p65, List.forall_mem_cons.mpr ⟨lw_p66, List.forall_mem_cons.mpr ⟨lw_p67, List.forall_mem_cons.mpr ⟨lw_p68, fun _ h => absurd h List.not_mem_nil⟩⟩⟩⟩⟩
def lw_privs : List (MethodName × Nat) := lw_privs_1 ++ (lw_privs_2 ++ (lw_privs_3 ++ (lw_privs_4 ++ (lw_privs_5))))
def lw_tbl : List Cond := k2_sels lw_privs ++ tables_1
theorem lw_privs_ok : ∀ q ∈ lw_privs, lw_okq q := by
  show ∀ q ∈ lw_privs_1 ++ (lw_privs_2 ++ (lw_privs_3 ++ (lw_privs_4 ++ (lw_privs_5)))), lw_okq q
  exact List.forall_mem_append.mpr ⟨lw_r1, List.forall_mem_append.mpr ⟨lw_r2, List.forall_mem_append.mpr ⟨lw_r3, List.forall_mem_append.mpr ⟨lw_r4, lw_r5⟩⟩⟩⟩
/-! ===== BEGIN words of one list among another's, by their places ===== -/
theorem goodIn_r {big : List Cond} (ws : List Cond) (ps : List Nat) (hp : ws = ps.filterMap (fun i => big[i]?)) (h : ws.all goodWord = true) : GoodIn big ws := by
  intro w hw
  have h1 := List.all_eq_true.mp h w hw
  rw [hp] at hw
  obtain ⟨i, -, hi⟩ := List.mem_filterMap.mp hw
  have hm : w ∈ big := by first | exact List.mem_of_getElem? hi | exact List.getElem?_mem hi
  exact ⟨hm, good_of_word h1⟩
theorem goodIn_app {big a b : List Cond} (ha : GoodIn big a) (hb : GoodIn big b) : GoodIn big (a ++ b) := fun w h => (List.mem_append.mp h).elim (ha w) (hb w)
theorem goodIn_ca {big a b : List Cond} {c : Cond} (ha : GoodIn big (c :: a)) (hb : GoodIn big b) : GoodIn big (c :: (a ++ b)) := fun w h => (List.mem_cons.mp h).elim (fun e => ha w (List.mem_cons.mpr (Or.inl e))) (fun h => (List.mem_append.mp h).elim (fun h => ha w (List.mem_cons.mpr (Or.inr h))) (hb w))
theorem goodIn_sub {big ws : List Cond} (hm : ∀ w ∈ ws, w ∈ big) (h : ws.all goodWord = true) : GoodIn big ws := fun w hw => ⟨hm w hw, good_of_word (List.all_eq_true.mp h w hw)⟩
/-! ===== END ===== -/

def RX0 : String := "NightShelter$Helpers"
def TX0 : u_T := fun k => match k with
  | 0 => ("NightShelter$Helpers", "size", "I", false)
  | 1 => ("NightShelter$Helpers", "days", "[I", true)
  | 2 => ("NightShelter$Helpers", "nightsOfAWeek", "[I", true)
  | 3 => ("NightShelter$Helpers", "nights", "[I", true)
  | _ => ("NightShelter$Helpers", "nightsThisWeek", "[I", true)
def tyX0 : Nat → FieldType := fun k => match k with
  | 0 => .int
  | 1 => .array .int
  | 2 => .array .int
  | 3 => .array .int
  | _ => .array .int
abbrev wsX00 : List Cond := u_ws RX0 TX0 5
theorem nmX0 : ∀ a, a < 5 → ∀ b, b < 5 → a ≠ b → (TX0 a).2.1 ≠ (TX0 b).2.1 := by decide +kernel
theorem tyX0_ok : ∀ k, k < 5 → parseFieldDescriptor (TX0 k).2.2.1 = some (tyX0 k) := by decide +kernel
abbrev cX0_init : ByteArray := prog_2_method_1_code
def yX0_init : MethodName := ⟨RX0, "<init>", "()V"⟩
abbrev cX0_has : ByteArray := prog_2_method_2_code
def yX0_has : MethodName := ⟨RX0, "has", "(I)Z"⟩
abbrev cX0_add : ByteArray := prog_2_method_3_code
def yX0_add : MethodName := ⟨RX0, "add", "(II)I"⟩
abbrev cX0_leftThisWeek : ByteArray := prog_2_method_4_code
def yX0_leftThisWeek : MethodName := ⟨RX0, "leftThisWeek", "(I)I"⟩
abbrev cX0_nextInTurn : ByteArray := prog_2_method_5_code
def yX0_nextInTurn : MethodName := ⟨RX0, "nextInTurn", "(II)I"⟩
abbrev cX0_takeNight : ByteArray := prog_2_method_6_code
def yX0_takeNight : MethodName := ⟨RX0, "takeNight", "(I)V"⟩
abbrev cX0_beginWeek : ByteArray := prog_2_method_7_code
def yX0_beginWeek : MethodName := ⟨RX0, "beginWeek", "()V"⟩
abbrev cX0_copyFrom : ByteArray := prog_2_method_8_code
def yX0_copyFrom : MethodName := ⟨RX0, "copyFrom", "(LNightShelter$Helpers;)V"⟩
def RX1 : String := "NightShelter$Night"
def TX1 : u_T := fun k => match k with
  | 0 => ("NightShelter$Night", "before", "LNightShelter$Night;", true)
  | 1 => ("NightShelter$Night", "number", "I", true)
  | 2 => ("NightShelter$Night", "door", "I", true)
  | 3 => ("NightShelter$Night", "cold", "Z", true)
  | 4 => ("NightShelter$Night", "taken", "I", false)
  | 5 => ("NightShelter$Night", "called", "I", false)
  | 6 => ("NightShelter$Night", "wanting", "I", false)
  | 7 => ("NightShelter$Night", "inOrder", "I", false)
  | 8 => ("NightShelter$Night", "ordered", "I", false)
  | 9 => ("NightShelter$Night", "order", "[I", true)
  | 10 => ("NightShelter$Night", "why", "[I", true)
  | _ => ("NightShelter$Night", "inRoom", "[I", true)
def tyX1 : Nat → FieldType := fun k => match k with
  | 0 => .object "NightShelter$Night"
  | 1 => .int
  | 2 => .int
  | 3 => .boolean
  | 4 => .int
  | 5 => .int
  | 6 => .int
  | 7 => .int
  | 8 => .int
  | 9 => .array .int
  | 10 => .array .int
  | _ => .array .int
abbrev wsX10 : List Cond := u_ws RX1 TX1 12
theorem nmX1 : ∀ a, a < 12 → ∀ b, b < 12 → a ≠ b → (TX1 a).2.1 ≠ (TX1 b).2.1 := by decide +kernel
theorem tyX1_ok : ∀ k, k < 12 → parseFieldDescriptor (TX1 k).2.2.1 = some (tyX1 k) := by decide +kernel
abbrev cX1_init : ByteArray := prog_3_method_1_code
def yX1_init : MethodName := ⟨RX1, "<init>", "(LNightShelter$State;IZ)V"⟩
abbrev cX1_roomOf : ByteArray := prog_3_method_2_code
def yX1_roomOf : MethodName := ⟨RX1, "roomOf", "(I)I"⟩
abbrev cX1_placeOf : ByteArray := prog_3_method_3_code
def yX1_placeOf : MethodName := ⟨RX1, "placeOf", "(I)I"⟩
abbrev cX1_giveReason : ByteArray := prog_3_method_4_code
def yX1_giveReason : MethodName := ⟨RX1, "giveReason", "(II)V"⟩
def RX2 : String := "NightShelter$Parser"
def TX2 : u_T := fun k => match k with
  | 0 => ("NightShelter$Parser", "tokens", "LNightShelter$Tokens;", true)
  | 1 => ("NightShelter$Parser", "at", "I", false)
  | 2 => ("NightShelter$Parser", "tooMany", "I", false)
  | 3 => ("NightShelter$Parser", "rules", "LNightShelter$Rules;", true)
  | 4 => ("NightShelter$Parser", "fault", "I", false)
  | _ => ("NightShelter$Parser", "place", "I", false)
def tyX2 : Nat → FieldType := fun k => match k with
  | 0 => .object "NightShelter$Tokens"
  | 1 => .int
  | 2 => .int
  | 3 => .object "NightShelter$Rules"
  | 4 => .int
  | _ => .int
abbrev wsX20 : List Cond := u_ws RX2 TX2 6
theorem nmX2 : ∀ a, a < 6 → ∀ b, b < 6 → a ≠ b → (TX2 a).2.1 ≠ (TX2 b).2.1 := by decide +kernel
theorem tyX2_ok : ∀ k, k < 6 → parseFieldDescriptor (TX2 k).2.2.1 = some (tyX2 k) := by decide +kernel
abbrev cX2_init : ByteArray := prog_4_method_1_code
def yX2_init : MethodName := ⟨RX2, "<init>", "(LNightShelter$Tokens;)V"⟩
abbrev cX2_parse : ByteArray := prog_4_method_2_code
def yX2_parse : MethodName := ⟨RX2, "parse", "()V"⟩
abbrev cX2_readLine : ByteArray := prog_4_method_3_code
def yX2_readLine : MethodName := ⟨RX2, "readLine", "(I)Z"⟩
abbrev cX2_readTests : ByteArray := prog_4_method_4_code
def yX2_readTests : MethodName := ⟨RX2, "readTests", "(I)Z"⟩
abbrev cX2_readTest : ByteArray := prog_4_method_5_code
def yX2_readTest : MethodName := ⟨RX2, "readTest", "(I)Z"⟩
abbrev cX2_readAct : ByteArray := prog_4_method_6_code
def yX2_readAct : MethodName := ⟨RX2, "readAct", "(I)Z"⟩
abbrev cX2_kind : ByteArray := prog_4_method_7_code
def yX2_kind : MethodName := ⟨RX2, "kind", "()I"⟩
abbrev cX2_skip : ByteArray := prog_4_method_8_code
def yX2_skip : MethodName := ⟨RX2, "skip", "(I)Z"⟩
abbrev cX2_noteIfTooMany : ByteArray := prog_4_method_9_code
def yX2_noteIfTooMany : MethodName := ⟨RX2, "noteIfTooMany", "(II)V"⟩
def RX3 : String := "NightShelter$People"
def TX3 : u_T := fun k => match k with
  | 0 => ("NightShelter$People", "size", "I", false)
  | 1 => ("NightShelter$People", "pairs", "I", false)
  | 2 => ("NightShelter$People", "age", "[I", true)
  | 3 => ("NightShelter$People", "kind", "[I", true)
  | 4 => ("NightShelter$People", "ill", "[I", true)
  | 5 => ("NightShelter$People", "nights", "[I", true)
  | 6 => ("NightShelter$People", "turned", "[I", true)
  | 7 => ("NightShelter$People", "room", "[I", true)
  | 8 => ("NightShelter$People", "apart", "[I", true)
  | 9 => ("NightShelter$People", "together", "[I", true)
  | 10 => ("NightShelter$People", "climbers", "I", false)
  | 11 => ("NightShelter$People", "dogOwners", "I", false)
  | _ => ("NightShelter$People", "barred", "I", false)
def tyX3 : Nat → FieldType := fun k => match k with
  | 0 => .int
  | 1 => .int
  | 2 => .array .int
  | 3 => .array .int
  | 4 => .array .int
  | 5 => .array .int
  | 6 => .array .int
  | 7 => .array .int
  | 8 => .array .int
  | 9 => .array .int
  | 10 => .int
  | 11 => .int
  | _ => .int
abbrev wsX30 : List Cond := u_ws RX3 TX3 13
theorem nmX3 : ∀ a, a < 13 → ∀ b, b < 13 → a ≠ b → (TX3 a).2.1 ≠ (TX3 b).2.1 := by decide +kernel
theorem tyX3_ok : ∀ k, k < 13 → parseFieldDescriptor (TX3 k).2.2.1 = some (tyX3 k) := by decide +kernel
abbrev cX3_init : ByteArray := prog_5_method_1_code
def yX3_init : MethodName := ⟨RX3, "<init>", "()V"⟩
abbrev cX3_has : ByteArray := prog_5_method_2_code
def yX3_has : MethodName := ⟨RX3, "has", "(I)Z"⟩
abbrev cX3_add : ByteArray := prog_5_method_3_code
def yX3_add : MethodName := ⟨RX3, "add", "(IIZZ)I"⟩
abbrev cX3_changePair : ByteArray := prog_5_method_4_code
def yX3_changePair : MethodName := ⟨RX3, "changePair", "(III)Z"⟩
abbrev cX3_howPaired : ByteArray := prog_5_method_5_code
def yX3_howPaired : MethodName := ⟨RX3, "howPaired", "(II)I"⟩
abbrev cX3_turnPair : ByteArray := prog_5_method_6_code
def yX3_turnPair : MethodName := ⟨RX3, "turnPair", "([III)V"⟩
abbrev cX3_partyOf : ByteArray := prog_5_method_7_code
def yX3_partyOf : MethodName := ⟨RX3, "partyOf", "(I)I"⟩
abbrev cX3_copyFrom : ByteArray := prog_5_method_8_code
def yX3_copyFrom : MethodName := ⟨RX3, "copyFrom", "(LNightShelter$People;)V"⟩
def RX4 : String := "NightShelter$Placer"
def TX4 : u_T := fun k => match k with
  | 0 => ("NightShelter$Placer", "state", "LNightShelter$State;", true)
  | 1 => ("NightShelter$Placer", "cold", "Z", false)
  | 2 => ("NightShelter$Placer", "parties", "I", false)
  | 3 => ("NightShelter$Placer", "members", "[I", true)
  | 4 => ("NightShelter$Placer", "size", "[I", true)
  | 5 => ("NightShelter$Placer", "ill", "[I", true)
  | 6 => ("NightShelter$Placer", "foes", "[I", true)
  | 7 => ("NightShelter$Placer", "allowed", "[I", true)
  | 8 => ("NightShelter$Placer", "where", "[I", true)
  | 9 => ("NightShelter$Placer", "settled", "[Z", true)
  | 10 => ("NightShelter$Placer", "inside", "[I", true)
  | 11 => ("NightShelter$Placer", "illInside", "[I", true)
  | _ => ("NightShelter$Placer", "left", "[I", true)
def tyX4 : Nat → FieldType := fun k => match k with
  | 0 => .object "NightShelter$State"
  | 1 => .boolean
  | 2 => .int
  | 3 => .array .int
  | 4 => .array .int
  | 5 => .array .int
  | 6 => .array .int
  | 7 => .array .int
  | 8 => .array .int
  | 9 => .array .boolean
  | 10 => .array .int
  | 11 => .array .int
  | _ => .array .int
abbrev wsX40 : List Cond := u_ws RX4 TX4 13
theorem nmX4 : ∀ a, a < 13 → ∀ b, b < 13 → a ≠ b → (TX4 a).2.1 ≠ (TX4 b).2.1 := by decide +kernel
theorem tyX4_ok : ∀ k, k < 13 → parseFieldDescriptor (TX4 k).2.2.1 = some (tyX4 k) := by decide +kernel
abbrev cX4_init : ByteArray := prog_6_method_1_code
def yX4_init : MethodName := ⟨RX4, "<init>", "(LNightShelter$State;)V"⟩
abbrev cX4_begin : ByteArray := prog_6_method_2_code
def yX4_begin : MethodName := ⟨RX4, "begin", "(Z)V"⟩
abbrev cX4_peopleIn : ByteArray := prog_6_method_3_code
def yX4_peopleIn : MethodName := ⟨RX4, "peopleIn", "(I)I"⟩
abbrev cX4_roomsFor : ByteArray := prog_6_method_4_code
def yX4_roomsFor : MethodName := ⟨RX4, "roomsFor", "(I)I"⟩
abbrev cX4_illOf : ByteArray := prog_6_method_5_code
def yX4_illOf : MethodName := ⟨RX4, "illOf", "(I)I"⟩
abbrev cX4_foesOf : ByteArray := prog_6_method_6_code
def yX4_foesOf : MethodName := ⟨RX4, "foesOf", "(I)I"⟩
abbrev cX4_suits : ByteArray := prog_6_method_7_code
def yX4_suits : MethodName := ⟨RX4, "suits", "(II)Z"⟩
abbrev cX4_areAllOfKind : ByteArray := prog_6_method_8_code
def yX4_areAllOfKind : MethodName := ⟨RX4, "areAllOfKind", "(II)Z"⟩
abbrev cX4_takes : ByteArray := prog_6_method_9_code
def yX4_takes : MethodName := ⟨RX4, "takes", "(I)Z"⟩
abbrev cX4_partyWith : ByteArray := prog_6_method_10_code
def yX4_partyWith : MethodName := ⟨RX4, "partyWith", "(I)I"⟩
abbrev cX4_hasSettled : ByteArray := prog_6_method_11_code
def yX4_hasSettled : MethodName := ⟨RX4, "hasSettled", "(I)Z"⟩
abbrev cX4_settles : ByteArray := prog_6_method_12_code
def yX4_settles : MethodName := ⟨RX4, "settles", "(II)Z"⟩
abbrev cX4_placeRest : ByteArray := prog_6_method_13_code
def yX4_placeRest : MethodName := ⟨RX4, "placeRest", "(I)Z"⟩
abbrev cX4_tightest : ByteArray := prog_6_method_14_code
def yX4_tightest : MethodName := ⟨RX4, "tightest", "()I"⟩
abbrev cX4_clashesOf : ByteArray := prog_6_method_15_code
def yX4_clashesOf : MethodName := ⟨RX4, "clashesOf", "(I)I"⟩
abbrev cX4_isCrowded : ByteArray := prog_6_method_16_code
def yX4_isCrowded : MethodName := ⟨RX4, "isCrowded", "()Z"⟩
abbrev cX4_waitingFor : ByteArray := prog_6_method_17_code
def yX4_waitingFor : MethodName := ⟨RX4, "waitingFor", "(I)I"⟩
abbrev cX4_openRooms : ByteArray := prog_6_method_18_code
def yX4_openRooms : MethodName := ⟨RX4, "openRooms", "(I)I"⟩
abbrev cX4_areAlike : ByteArray := prog_6_method_19_code
def yX4_areAlike : MethodName := ⟨RX4, "areAlike", "(II)Z"⟩
abbrev cX4_isOpen : ByteArray := prog_6_method_20_code
def yX4_isOpen : MethodName := ⟨RX4, "isOpen", "(II)Z"⟩
abbrev cX4_put : ByteArray := prog_6_method_21_code
def yX4_put : MethodName := ⟨RX4, "put", "(II)V"⟩
abbrev cX4_takeOut : ByteArray := prog_6_method_22_code
def yX4_takeOut : MethodName := ⟨RX4, "takeOut", "(I)V"⟩
abbrev cX4_takeOutUnsettled : ByteArray := prog_6_method_23_code
def yX4_takeOutUnsettled : MethodName := ⟨RX4, "takeOutUnsettled", "()V"⟩
def RX5 : String := "NightShelter$Porter"
def TX5 : u_T := fun k => match k with
  | 0 => ("NightShelter$Porter", "state", "LNightShelter$State;", true)
  | 1 => ("NightShelter$Porter", "placer", "LNightShelter$Placer;", true)
  | _ => ("NightShelter$Porter", "points", "[I", true)
def tyX5 : Nat → FieldType := fun k => match k with
  | 0 => .object "NightShelter$State"
  | 1 => .object "NightShelter$Placer"
  | _ => .array .int
abbrev wsX50 : List Cond := u_ws RX5 TX5 3
theorem nmX5 : ∀ a, a < 3 → ∀ b, b < 3 → a ≠ b → (TX5 a).2.1 ≠ (TX5 b).2.1 := by decide +kernel
theorem tyX5_ok : ∀ k, k < 3 → parseFieldDescriptor (TX5 k).2.2.1 = some (tyX5 k) := by decide +kernel
abbrev cX5_init : ByteArray := prog_7_method_1_code
def yX5_init : MethodName := ⟨RX5, "<init>", "(LNightShelter$State;)V"⟩
abbrev cX5_lineUp : ByteArray := prog_7_method_2_code
def yX5_lineUp : MethodName := ⟨RX5, "lineUp", "(LNightShelter$Night;)V"⟩
abbrev cX5_lookAt : ByteArray := prog_7_method_3_code
def yX5_lookAt : MethodName := ⟨RX5, "lookAt", "(LNightShelter$Night;I)V"⟩
abbrev cX5_putInOrder : ByteArray := prog_7_method_4_code
def yX5_putInOrder : MethodName := ⟨RX5, "putInOrder", "(LNightShelter$Night;II)V"⟩
abbrev cX5_isAhead : ByteArray := prog_7_method_5_code
def yX5_isAhead : MethodName := ⟨RX5, "isAhead", "(LNightShelter$Night;III)Z"⟩
abbrev cX5_takeParties : ByteArray := prog_7_method_6_code
def yX5_takeParties : MethodName := ⟨RX5, "takeParties", "(LNightShelter$Night;)V"⟩
abbrev cX5_reasonAgainst : ByteArray := prog_7_method_7_code
def yX5_reasonAgainst : MethodName := ⟨RX5, "reasonAgainst", "(LNightShelter$Night;I)I"⟩
abbrev cX5_settleParties : ByteArray := prog_7_method_8_code
def yX5_settleParties : MethodName := ⟨RX5, "settleParties", "(LNightShelter$Night;)V"⟩
abbrev cX5_callHelpers : ByteArray := prog_7_method_9_code
def yX5_callHelpers : MethodName := ⟨RX5, "callHelpers", "(LNightShelter$Night;)V"⟩
abbrev cX5_closeDoor : ByteArray := prog_7_method_10_code
def yX5_closeDoor : MethodName := ⟨RX5, "closeDoor", "(LNightShelter$Night;)V"⟩
def RX6 : String := "NightShelter$Rooms"
def TX6 : u_T := fun k => match k with
  | 0 => ("NightShelter$Rooms", "size", "I", false)
  | 1 => ("NightShelter$Rooms", "holds", "[I", true)
  | 2 => ("NightShelter$Rooms", "mats", "[I", true)
  | 3 => ("NightShelter$Rooms", "kind", "[I", true)
  | 4 => ("NightShelter$Rooms", "withStairs", "I", false)
  | _ => ("NightShelter$Rooms", "withDogs", "I", false)
def tyX6 : Nat → FieldType := fun k => match k with
  | 0 => .int
  | 1 => .array .int
  | 2 => .array .int
  | 3 => .array .int
  | 4 => .int
  | _ => .int
abbrev wsX60 : List Cond := u_ws RX6 TX6 6
theorem nmX6 : ∀ a, a < 6 → ∀ b, b < 6 → a ≠ b → (TX6 a).2.1 ≠ (TX6 b).2.1 := by decide +kernel
theorem tyX6_ok : ∀ k, k < 6 → parseFieldDescriptor (TX6 k).2.2.1 = some (tyX6 k) := by decide +kernel
abbrev cX6_init : ByteArray := prog_8_method_1_code
def yX6_init : MethodName := ⟨RX6, "<init>", "()V"⟩
abbrev cX6_add : ByteArray := prog_8_method_2_code
def yX6_add : MethodName := ⟨RX6, "add", "(IIZZI)I"⟩
abbrev cX6_places : ByteArray := prog_8_method_3_code
def yX6_places : MethodName := ⟨RX6, "places", "(IZ)I"⟩
abbrev cX6_placesInAll : ByteArray := prog_8_method_4_code
def yX6_placesInAll : MethodName := ⟨RX6, "placesInAll", "(Z)I"⟩
abbrev cX6_copyFrom : ByteArray := prog_8_method_5_code
def yX6_copyFrom : MethodName := ⟨RX6, "copyFrom", "(LNightShelter$Rooms;)V"⟩
def RX7 : String := "NightShelter$Rules"
def TX7 : u_T := fun k => match k with
  | 0 => ("NightShelter$Rules", "lines", "I", false)
  | 1 => ("NightShelter$Rules", "tests", "[I", true)
  | 2 => ("NightShelter$Rules", "subjects", "[I", true)
  | 3 => ("NightShelter$Rules", "signs", "[I", true)
  | 4 => ("NightShelter$Rules", "numbers", "[I", true)
  | 5 => ("NightShelter$Rules", "negated", "[Z", true)
  | 6 => ("NightShelter$Rules", "acts", "[I", true)
  | _ => ("NightShelter$Rules", "amounts", "[I", true)
def tyX7 : Nat → FieldType := fun k => match k with
  | 0 => .int
  | 1 => .array .int
  | 2 => .array .int
  | 3 => .array .int
  | 4 => .array .int
  | 5 => .array .boolean
  | 6 => .array .int
  | _ => .array .int
abbrev wsX70 : List Cond := u_ws RX7 TX7 8
theorem nmX7 : ∀ a, a < 8 → ∀ b, b < 8 → a ≠ b → (TX7 a).2.1 ≠ (TX7 b).2.1 := by decide +kernel
theorem tyX7_ok : ∀ k, k < 8 → parseFieldDescriptor (TX7 k).2.2.1 = some (tyX7 k) := by decide +kernel
abbrev cX7_init : ByteArray := prog_9_method_1_code
def yX7_init : MethodName := ⟨RX7, "<init>", "()V"⟩
abbrev cX7_addTest : ByteArray := prog_9_method_2_code
def yX7_addTest : MethodName := ⟨RX7, "addTest", "(IZIII)V"⟩
abbrev cX7_finishLine : ByteArray := prog_9_method_3_code
def yX7_finishLine : MethodName := ⟨RX7, "finishLine", "(III)V"⟩
abbrev cX7_lineHolds : ByteArray := prog_9_method_4_code
def yX7_lineHolds : MethodName := ⟨RX7, "lineHolds", "(ILNightShelter$State;IZ)Z"⟩
abbrev cX7_compares : ByteArray := prog_9_method_5_code
def yX7_compares : MethodName := ⟨RX7, "compares", "(III)Z"⟩
def RX8 : String := "NightShelter$State"
def TX8 : u_T := fun k => match k with
  | 0 => ("NightShelter$State", "rooms", "LNightShelter$Rooms;", true)
  | 1 => ("NightShelter$State", "people", "LNightShelter$People;", true)
  | 2 => ("NightShelter$State", "helpers", "LNightShelter$Helpers;", true)
  | 3 => ("NightShelter$State", "rules", "LNightShelter$Rules;", false)
  | _ => ("NightShelter$State", "latest", "LNightShelter$Night;", false)
def tyX8 : Nat → FieldType := fun k => match k with
  | 0 => .object "NightShelter$Rooms"
  | 1 => .object "NightShelter$People"
  | 2 => .object "NightShelter$Helpers"
  | 3 => .object "NightShelter$Rules"
  | _ => .object "NightShelter$Night"
abbrev wsX80 : List Cond := u_ws RX8 TX8 5
theorem nmX8 : ∀ a, a < 5 → ∀ b, b < 5 → a ≠ b → (TX8 a).2.1 ≠ (TX8 b).2.1 := by decide +kernel
theorem tyX8_ok : ∀ k, k < 5 → parseFieldDescriptor (TX8 k).2.2.1 = some (tyX8 k) := by decide +kernel
abbrev cX8_init : ByteArray := prog_10_method_1_code
def yX8_init : MethodName := ⟨RX8, "<init>", "(LNightShelter$Rules;)V"⟩
abbrev cX8_copyFrom : ByteArray := prog_10_method_2_code
def yX8_copyFrom : MethodName := ⟨RX8, "copyFrom", "(LNightShelter$State;)V"⟩
abbrev cX8_evenings : ByteArray := prog_10_method_3_code
def yX8_evenings : MethodName := ⟨RX8, "evenings", "()I"⟩
abbrev cX8_dayOfWeek : ByteArray := prog_10_method_4_code
def yX8_dayOfWeek : MethodName := ⟨RX8, "dayOfWeek", "()I"⟩
abbrev cX8_nightOf : ByteArray := prog_10_method_5_code
def yX8_nightOf : MethodName := ⟨RX8, "nightOf", "(I)LNightShelter$Night;"⟩
abbrev cX8_pointsOf : ByteArray := prog_10_method_6_code
def yX8_pointsOf : MethodName := ⟨RX8, "pointsOf", "(IZ)I"⟩
abbrev cX8_valueOf : ByteArray := prog_10_method_7_code
def yX8_valueOf : MethodName := ⟨RX8, "valueOf", "(IIZ)I"⟩
def RX9 : String := "NightShelter$Tape"
def TX9 : u_T := fun k => match k with
  | 0 => ("NightShelter$Tape", "bytes", "[B", true)
  | _ => ("NightShelter$Tape", "length", "I", false)
def tyX9 : Nat → FieldType := fun k => match k with
  | 0 => .array .byte
  | _ => .int
abbrev wsX90 : List Cond := u_ws RX9 TX9 2
theorem nmX9 : ∀ a, a < 2 → ∀ b, b < 2 → a ≠ b → (TX9 a).2.1 ≠ (TX9 b).2.1 := by decide +kernel
theorem tyX9_ok : ∀ k, k < 2 → parseFieldDescriptor (TX9 k).2.2.1 = some (tyX9 k) := by decide +kernel
abbrev cX9_init : ByteArray := prog_11_method_1_code
def yX9_init : MethodName := ⟨RX9, "<init>", "()V"⟩
abbrev cX9_append : ByteArray := prog_11_method_2_code
def yX9_append : MethodName := ⟨RX9, "append", "(I)V"⟩
def RX10 : String := "NightShelter$Tokens"
def TX10 : u_T := fun k => match k with
  | 0 => ("NightShelter$Tokens", "tape", "LNightShelter$Tape;", true)
  | 1 => ("NightShelter$Tokens", "next", "I", false)
  | 2 => ("NightShelter$Tokens", "kinds", "[I", true)
  | 3 => ("NightShelter$Tokens", "firsts", "[I", true)
  | 4 => ("NightShelter$Tokens", "values", "[I", true)
  | _ => ("NightShelter$Tokens", "size", "I", false)
def tyX10 : Nat → FieldType := fun k => match k with
  | 0 => .object "NightShelter$Tape"
  | 1 => .int
  | 2 => .array .int
  | 3 => .array .int
  | 4 => .array .int
  | _ => .int
abbrev wsX100 : List Cond := u_ws RX10 TX10 6
theorem nmX10 : ∀ a, a < 6 → ∀ b, b < 6 → a ≠ b → (TX10 a).2.1 ≠ (TX10 b).2.1 := by decide +kernel
theorem tyX10_ok : ∀ k, k < 6 → parseFieldDescriptor (TX10 k).2.2.1 = some (tyX10 k) := by decide +kernel
abbrev cX10_init : ByteArray := prog_12_method_1_code
def yX10_init : MethodName := ⟨RX10, "<init>", "(LNightShelter$Tape;)V"⟩
abbrev cX10_readAll : ByteArray := prog_12_method_2_code
def yX10_readAll : MethodName := ⟨RX10, "readAll", "()V"⟩
abbrev cX10_byteAt : ByteArray := prog_12_method_3_code
def yX10_byteAt : MethodName := ⟨RX10, "byteAt", "(I)I"⟩
abbrev cX10_skipBlanks : ByteArray := prog_12_method_4_code
def yX10_skipBlanks : MethodName := ⟨RX10, "skipBlanks", "()V"⟩
abbrev cX10_readToken : ByteArray := prog_12_method_5_code
def yX10_readToken : MethodName := ⟨RX10, "readToken", "(I)I"⟩
abbrev cX10_readWord : ByteArray := prog_12_method_6_code
def yX10_readWord : MethodName := ⟨RX10, "readWord", "()I"⟩
abbrev cX10_readNumber : ByteArray := prog_12_method_7_code
def yX10_readNumber : MethodName := ⟨RX10, "readNumber", "(I)I"⟩
abbrev cX10_ruleWord : ByteArray := prog_12_method_8_code
def yX10_ruleWord : MethodName := ⟨RX10, "ruleWord", "(I)I"⟩
abbrev cX10_testWord : ByteArray := prog_12_method_9_code
def yX10_testWord : MethodName := ⟨RX10, "testWord", "(I)I"⟩
abbrev cX10_spells : ByteArray := prog_12_method_10_code
def yX10_spells : MethodName := ⟨RX10, "spells", "(ILjava/lang/String;)Z"⟩
abbrev cX10_isLetter : ByteArray := prog_12_method_11_code
def yX10_isLetter : MethodName := ⟨RX10, "isLetter", "(I)Z"⟩
abbrev cX10_isDigit : ByteArray := prog_12_method_12_code
def yX10_isDigit : MethodName := ⟨RX10, "isDigit", "(I)Z"⟩
abbrev cX10_isSign : ByteArray := prog_12_method_13_code
def yX10_isSign : MethodName := ⟨RX10, "isSign", "(I)Z"⟩
def RX11 : String := "NightShelter"
def TX11 : u_T := fun k => match k with
  | 0 => ("NightShelter", "tape", "LNightShelter$Tape;", true)
  | 1 => ("NightShelter", "now", "LNightShelter$State;", true)
  | 2 => ("NightShelter", "images", "[LNightShelter$State;", true)
  | 3 => ("NightShelter", "porter", "LNightShelter$Porter;", true)
  | 4 => ("NightShelter", "latestFault", "I", false)
  | _ => ("NightShelter", "latestPlace", "I", false)
def tyX11 : Nat → FieldType := fun k => match k with
  | 0 => .object "NightShelter$Tape"
  | 1 => .object "NightShelter$State"
  | 2 => .array (.object "NightShelter$State")
  | 3 => .object "NightShelter$Porter"
  | 4 => .int
  | _ => .int
abbrev wsX110 : List Cond := u_ws RX11 TX11 6
theorem nmX11 : ∀ a, a < 6 → ∀ b, b < 6 → a ≠ b → (TX11 a).2.1 ≠ (TX11 b).2.1 := by decide +kernel
theorem tyX11_ok : ∀ k, k < 6 → parseFieldDescriptor (TX11 k).2.2.1 = some (tyX11 k) := by decide +kernel
abbrev cX11_init : ByteArray := prog_1_method_1_code
def yX11_init : MethodName := ⟨RX11, "<init>", "()V"⟩
abbrev cX11_feed : ByteArray := prog_1_method_2_code
def yX11_feed : MethodName := ⟨RX11, "feed", "(IIIII)I"⟩
abbrev cX11_end : ByteArray := prog_1_method_3_code
def yX11_end : MethodName := ⟨RX11, "end", "(I)I"⟩
abbrev cX11_text : ByteArray := prog_1_method_4_code
def yX11_text : MethodName := ⟨RX11, "text", "()I"⟩
abbrev cX11_fault : ByteArray := prog_1_method_5_code
def yX11_fault : MethodName := ⟨RX11, "fault", "(I)I"⟩
abbrev cX11_room : ByteArray := prog_1_method_6_code
def yX11_room : MethodName := ⟨RX11, "room", "(IIZZI)I"⟩
abbrev cX11_person : ByteArray := prog_1_method_7_code
def yX11_person : MethodName := ⟨RX11, "person", "(IIZZ)I"⟩
abbrev cX11_ill : ByteArray := prog_1_method_8_code
def yX11_ill : MethodName := ⟨RX11, "ill", "(II)Z"⟩
abbrev cX11_bar : ByteArray := prog_1_method_9_code
def yX11_bar : MethodName := ⟨RX11, "bar", "(IZ)Z"⟩
abbrev cX11_pair : ByteArray := prog_1_method_10_code
def yX11_pair : MethodName := ⟨RX11, "pair", "(III)Z"⟩
abbrev cX11_helper : ByteArray := prog_1_method_11_code
def yX11_helper : MethodName := ⟨RX11, "helper", "(II)I"⟩
abbrev cX11_evening : ByteArray := prog_1_method_12_code
def yX11_evening : MethodName := ⟨RX11, "evening", "(IZ)I"⟩
abbrev cX11_points : ByteArray := prog_1_method_13_code
def yX11_points : MethodName := ⟨RX11, "points", "(IZ)I"⟩
abbrev cX11_told : ByteArray := prog_1_method_14_code
def yX11_told : MethodName := ⟨RX11, "told", "(II)I"⟩
abbrev cX11_called : ByteArray := prog_1_method_15_code
def yX11_called : MethodName := ⟨RX11, "called", "(I)Z"⟩
abbrev cX11_tell : ByteArray := prog_1_method_16_code
def yX11_tell : MethodName := ⟨RX11, "tell", "(II)I"⟩
abbrev cX11_duty : ByteArray := prog_1_method_17_code
def yX11_duty : MethodName := ⟨RX11, "duty", "(II)I"⟩
abbrev cX11_book : ByteArray := prog_1_method_18_code
def yX11_book : MethodName := ⟨RX11, "book", "(II)I"⟩
abbrev cX11_count : ByteArray := prog_1_method_19_code
def yX11_count : MethodName := ⟨RX11, "count", "(I)I"⟩
abbrev cX11_image : ByteArray := prog_1_method_20_code
def yX11_image : MethodName := ⟨RX11, "image", "(I)Z"⟩
abbrev cX11_again : ByteArray := prog_1_method_21_code
def yX11_again : MethodName := ⟨RX11, "again", "(I)Z"⟩
abbrev cX11_within : ByteArray := prog_1_method_22_code
def yX11_within : MethodName := ⟨RX11, "within", "(III)Z"⟩
abbrev cX11_bit : ByteArray := prog_1_method_23_code
def yX11_bit : MethodName := ⟨RX11, "bit", "(I)I"⟩
abbrev cX11_isIn : ByteArray := prog_1_method_24_code
def yX11_isIn : MethodName := ⟨RX11, "isIn", "(II)Z"⟩
abbrev cX11_oneIfIn : ByteArray := prog_1_method_25_code
def yX11_oneIfIn : MethodName := ⟨RX11, "oneIfIn", "(II)I"⟩
abbrev cX11_copy : ByteArray := prog_1_method_26_code
def yX11_copy : MethodName := ⟨RX11, "copy", "([I[I)V"⟩
def RX12 : String := "NightShelterModel"
def TX12 : u_T := fun k => match k with
  | 0 => ("NightShelterModel", "code", "I", false)
  | 1 => ("NightShelterModel", "tape", "[B", true)
  | 2 => ("NightShelterModel", "size", "I", false)
  | 3 => ("NightShelterModel", "rooms", "[I", true)
  | 4 => ("NightShelterModel", "holds", "[I", true)
  | 5 => ("NightShelterModel", "mats", "[I", true)
  | 6 => ("NightShelterModel", "stairs", "[I", true)
  | 7 => ("NightShelterModel", "dogs", "[I", true)
  | 8 => ("NightShelterModel", "roomKind", "[I", true)
  | 9 => ("NightShelterModel", "people", "[I", true)
  | 10 => ("NightShelterModel", "age", "[I", true)
  | 11 => ("NightShelterModel", "kind", "[I", true)
  | 12 => ("NightShelterModel", "climbs", "[I", true)
  | 13 => ("NightShelterModel", "dog", "[I", true)
  | 14 => ("NightShelterModel", "illness", "[I", true)
  | 15 => ("NightShelterModel", "nights", "[I", true)
  | 16 => ("NightShelterModel", "turned", "[I", true)
  | 17 => ("NightShelterModel", "slept", "[I", true)
  | 18 => ("NightShelterModel", "barred", "[I", true)
  | 19 => ("NightShelterModel", "apart", "[I", true)
  | 20 => ("NightShelterModel", "together", "[I", true)
  | 21 => ("NightShelterModel", "helpers", "[I", true)
  | 22 => ("NightShelterModel", "days", "[I", true)
  | 23 => ("NightShelterModel", "most", "[I", true)
  | 24 => ("NightShelterModel", "nightsIn", "[I", true)
  | 25 => ("NightShelterModel", "thisWeek", "[I", true)
  | 26 => ("NightShelterModel", "lines", "[I", true)
  | 27 => ("NightShelterModel", "lineTests", "[I", true)
  | 28 => ("NightShelterModel", "testWhat", "[I", true)
  | 29 => ("NightShelterModel", "testSign", "[I", true)
  | 30 => ("NightShelterModel", "testThan", "[I", true)
  | 31 => ("NightShelterModel", "lineAct", "[I", true)
  | 32 => ("NightShelterModel", "lineAdd", "[I", true)
  | 33 => ("NightShelterModel", "evenings", "[I", true)
  | 34 => ("NightShelterModel", "book", "[I", true)
  | 35 => ("NightShelterModel", "why", "[I", true)
  | 36 => ("NightShelterModel", "place", "[I", true)
  | 37 => ("NightShelterModel", "at", "I", false)
  | 38 => ("NightShelterModel", "length", "I", false)
  | 39 => ("NightShelterModel", "begins", "I", false)
  | 40 => ("NightShelterModel", "sort", "I", false)
  | 41 => ("NightShelterModel", "value", "I", false)
  | 42 => ("NightShelterModel", "word", "J", false)
  | 43 => ("NightShelterModel", "fault", "I", false)
  | 44 => ("NightShelterModel", "faultPlace", "I", false)
  | 45 => ("NightShelterModel", "laterPlace", "I", false)
  | 46 => ("NightShelterModel", "newLines", "I", false)
  | 47 => ("NightShelterModel", "newTests", "[I", true)
  | 48 => ("NightShelterModel", "newWhat", "[I", true)
  | 49 => ("NightShelterModel", "newSign", "[I", true)
  | 50 => ("NightShelterModel", "newThan", "[I", true)
  | 51 => ("NightShelterModel", "newAct", "[I", true)
  | 52 => ("NightShelterModel", "newAdd", "[I", true)
  | 53 => ("NightShelterModel", "ordered", "I", false)
  | 54 => ("NightShelterModel", "order", "[I", true)
  | 55 => ("NightShelterModel", "score", "[I", true)
  | 56 => ("NightShelterModel", "isCold", "I", false)
  | 57 => ("NightShelterModel", "inRoom", "[I", true)
  | _ => ("NightShelterModel", "has", "[Z", true)
def tyX12 : Nat → FieldType := fun k => match k with
  | 0 => .int
  | 1 => .array .byte
  | 2 => .int
  | 3 => .array .int
  | 4 => .array .int
  | 5 => .array .int
  | 6 => .array .int
  | 7 => .array .int
  | 8 => .array .int
  | 9 => .array .int
  | 10 => .array .int
  | 11 => .array .int
  | 12 => .array .int
  | 13 => .array .int
  | 14 => .array .int
  | 15 => .array .int
  | 16 => .array .int
  | 17 => .array .int
  | 18 => .array .int
  | 19 => .array .int
  | 20 => .array .int
  | 21 => .array .int
  | 22 => .array .int
  | 23 => .array .int
  | 24 => .array .int
  | 25 => .array .int
  | 26 => .array .int
  | 27 => .array .int
  | 28 => .array .int
  | 29 => .array .int
  | 30 => .array .int
  | 31 => .array .int
  | 32 => .array .int
  | 33 => .array .int
  | 34 => .array .int
  | 35 => .array .int
  | 36 => .array .int
  | 37 => .int
  | 38 => .int
  | 39 => .int
  | 40 => .int
  | 41 => .int
  | 42 => .long
  | 43 => .int
  | 44 => .int
  | 45 => .int
  | 46 => .int
  | 47 => .array .int
  | 48 => .array .int
  | 49 => .array .int
  | 50 => .array .int
  | 51 => .array .int
  | 52 => .array .int
  | 53 => .int
  | 54 => .array .int
  | 55 => .array .int
  | 56 => .int
  | 57 => .array .int
  | _ => .array .boolean
abbrev wsX120 : List Cond := u_ws RX12 TX12 59
theorem nmX12 : ∀ a, a < 59 → ∀ b, b < 59 → a ≠ b → (TX12 a).2.1 ≠ (TX12 b).2.1 := by decide +kernel
theorem tyX12_ok : ∀ k, k < 59 → parseFieldDescriptor (TX12 k).2.2.1 = some (tyX12 k) := by decide +kernel
abbrev cX12_init : ByteArray := prog_14_method_1_code
def yX12_init : MethodName := ⟨RX12, "<init>", "()V"⟩
abbrev cX12_in : ByteArray := prog_14_method_3_code
def yX12_in : MethodName := ⟨RX12, "in", "(III)Z"⟩
abbrev cX12_ones : ByteArray := prog_14_method_4_code
def yX12_ones : MethodName := ⟨RX12, "ones", "(I)I"⟩
abbrev cX12_move : ByteArray := prog_14_method_5_code
def yX12_move : MethodName := ⟨RX12, "move", "([IIII)V"⟩
abbrev cX12_copy : ByteArray := prog_14_method_6_code
def yX12_copy : MethodName := ⟨RX12, "copy", "(II)V"⟩
abbrev cX12_feed : ByteArray := prog_14_method_7_code
def yX12_feed : MethodName := ⟨RX12, "feed", "(IIIII)I"⟩
abbrev cX12_four : ByteArray := prog_14_method_8_code
def yX12_four : MethodName := ⟨RX12, "four", "(I)V"⟩
abbrev cX12_end : ByteArray := prog_14_method_9_code
def yX12_end : MethodName := ⟨RX12, "end", "(I)I"⟩
abbrev cX12_see : ByteArray := prog_14_method_10_code
def yX12_see : MethodName := ⟨RX12, "see", "()I"⟩
abbrev cX12_next : ByteArray := prog_14_method_11_code
def yX12_next : MethodName := ⟨RX12, "next", "()V"⟩
abbrev cX12_isWord : ByteArray := prog_14_method_12_code
def yX12_isWord : MethodName := ⟨RX12, "isWord", "(J)Z"⟩
abbrev cX12_isSign : ByteArray := prog_14_method_13_code
def yX12_isSign : MethodName := ⟨RX12, "isSign", "(I)Z"⟩
abbrev cX12_wrong : ByteArray := prog_14_method_14_code
def yX12_wrong : MethodName := ⟨RX12, "wrong", "()Z"⟩
abbrev cX12_tooMany : ByteArray := prog_14_method_15_code
def yX12_tooMany : MethodName := ⟨RX12, "tooMany", "(I)V"⟩
abbrev cX12_need : ByteArray := prog_14_method_16_code
def yX12_need : MethodName := ⟨RX12, "need", "(I)Z"⟩
abbrev cX12_oneLine : ByteArray := prog_14_method_17_code
def yX12_oneLine : MethodName := ⟨RX12, "oneLine", "()Z"⟩
abbrev cX12_test : ByteArray := prog_14_method_18_code
def yX12_test : MethodName := ⟨RX12, "test", "(II)Z"⟩
abbrev cX12_text : ByteArray := prog_14_method_19_code
def yX12_text : MethodName := ⟨RX12, "text", "()I"⟩
abbrev cX12_fault : ByteArray := prog_14_method_20_code
def yX12_fault : MethodName := ⟨RX12, "fault", "(I)I"⟩
abbrev cX12_room : ByteArray := prog_14_method_21_code
def yX12_room : MethodName := ⟨RX12, "room", "(IIZZI)I"⟩
abbrev cX12_person : ByteArray := prog_14_method_22_code
def yX12_person : MethodName := ⟨RX12, "person", "(IIZZ)I"⟩
abbrev cX12_isPerson : ByteArray := prog_14_method_23_code
def yX12_isPerson : MethodName := ⟨RX12, "isPerson", "(I)Z"⟩
abbrev cX12_isHelper : ByteArray := prog_14_method_24_code
def yX12_isHelper : MethodName := ⟨RX12, "isHelper", "(I)Z"⟩
abbrev cX12_ill : ByteArray := prog_14_method_25_code
def yX12_ill : MethodName := ⟨RX12, "ill", "(II)Z"⟩
abbrev cX12_bar : ByteArray := prog_14_method_26_code
def yX12_bar : MethodName := ⟨RX12, "bar", "(IZ)Z"⟩
abbrev cX12_pairs : ByteArray := prog_14_method_27_code
def yX12_pairs : MethodName := ⟨RX12, "pairs", "()I"⟩
abbrev cX12_pair : ByteArray := prog_14_method_28_code
def yX12_pair : MethodName := ⟨RX12, "pair", "(III)Z"⟩
abbrev cX12_helper : ByteArray := prog_14_method_29_code
def yX12_helper : MethodName := ⟨RX12, "helper", "(II)I"⟩
abbrev cX12_wasHere : ByteArray := prog_14_method_30_code
def yX12_wasHere : MethodName := ⟨RX12, "wasHere", "(I)Z"⟩
abbrev cX12_asked : ByteArray := prog_14_method_31_code
def yX12_asked : MethodName := ⟨RX12, "asked", "(III)I"⟩
abbrev cX12_holdsLine : ByteArray := prog_14_method_32_code
def yX12_holdsLine : MethodName := ⟨RX12, "holdsLine", "(III)Z"⟩
abbrev cX12_pointsOf : ByteArray := prog_14_method_33_code
def yX12_pointsOf : MethodName := ⟨RX12, "pointsOf", "(II)I"⟩
abbrev cX12_isAhead : ByteArray := prog_14_method_34_code
def yX12_isAhead : MethodName := ⟨RX12, "isAhead", "(II)Z"⟩
abbrev cX12_makeOrder : ByteArray := prog_14_method_35_code
def yX12_makeOrder : MethodName := ⟨RX12, "makeOrder", "(II)V"⟩
abbrev cX12_capacity : ByteArray := prog_14_method_36_code
def yX12_capacity : MethodName := ⟨RX12, "capacity", "(I)I"⟩
abbrev cX12_lowest : ByteArray := prog_14_method_37_code
def yX12_lowest : MethodName := ⟨RX12, "lowest", "(I)I"⟩
abbrev cX12_may : ByteArray := prog_14_method_38_code
def yX12_may : MethodName := ⟨RX12, "may", "(II)Z"⟩
abbrev cX12_ways : ByteArray := prog_14_method_39_code
def yX12_ways : MethodName := ⟨RX12, "ways", "(I)I"⟩
abbrev cX12_canPlace : ByteArray := prog_14_method_40_code
def yX12_canPlace : MethodName := ⟨RX12, "canPlace", "(I)Z"⟩
abbrev cX12_emptyRooms : ByteArray := prog_14_method_41_code
def yX12_emptyRooms : MethodName := ⟨RX12, "emptyRooms", "()V"⟩
abbrev cX12_fitsOne : ByteArray := prog_14_method_42_code
def yX12_fitsOne : MethodName := ⟨RX12, "fitsOne", "(I)Z"⟩
abbrev cX12_placeAll : ByteArray := prog_14_method_43_code
def yX12_placeAll : MethodName := ⟨RX12, "placeAll", "(I)V"⟩
abbrev cX12_triesRoom : ByteArray := prog_14_method_44_code
def yX12_triesRoom : MethodName := ⟨RX12, "triesRoom", "(III)Z"⟩
abbrev cX12_hanging : ByteArray := prog_14_method_45_code
def yX12_hanging : MethodName := ⟨RX12, "hanging", "(II)I"⟩
abbrev cX12_lacksOne : ByteArray := prog_14_method_46_code
def yX12_lacksOne : MethodName := ⟨RX12, "lacksOne", "(II)Z"⟩
abbrev cX12_take : ByteArray := prog_14_method_47_code
def yX12_take : MethodName := ⟨RX12, "take", "()I"⟩
abbrev cX12_call : ByteArray := prog_14_method_48_code
def yX12_call : MethodName := ⟨RX12, "call", "(II)I"⟩
abbrev cX12_evening : ByteArray := prog_14_method_49_code
def yX12_evening : MethodName := ⟨RX12, "evening", "(IZ)I"⟩
abbrev cX12_points : ByteArray := prog_14_method_50_code
def yX12_points : MethodName := ⟨RX12, "points", "(IZ)I"⟩
abbrev cX12_told : ByteArray := prog_14_method_51_code
def yX12_told : MethodName := ⟨RX12, "told", "(II)I"⟩
abbrev cX12_called : ByteArray := prog_14_method_52_code
def yX12_called : MethodName := ⟨RX12, "called", "(I)Z"⟩
abbrev cX12_tell : ByteArray := prog_14_method_53_code
def yX12_tell : MethodName := ⟨RX12, "tell", "(II)I"⟩
abbrev cX12_duty : ByteArray := prog_14_method_54_code
def yX12_duty : MethodName := ⟨RX12, "duty", "(II)I"⟩
abbrev cX12_book : ByteArray := prog_14_method_55_code
def yX12_book : MethodName := ⟨RX12, "book", "(II)I"⟩
abbrev cX12_count : ByteArray := prog_14_method_56_code
def yX12_count : MethodName := ⟨RX12, "count", "(I)I"⟩
abbrev cX12_image : ByteArray := prog_14_method_57_code
def yX12_image : MethodName := ⟨RX12, "image", "(I)Z"⟩
abbrev cX12_again : ByteArray := prog_14_method_58_code
def yX12_again : MethodName := ⟨RX12, "again", "(I)Z"⟩
def RJ6 : String := "java/lang/Integer"
abbrev cJ6_bitCount_0f7a4 : ByteArray := prog_15_method_49_code
def yJ6_bitCount_0f7a4 : MethodName := ⟨RJ6, "bitCount", "(I)I"⟩
def RJ9 : String := "java/lang/Math"
abbrev cJ9_max_7cf53 : ByteArray := prog_16_method_65_code
def yJ9_max_7cf53 : MethodName := ⟨RJ9, "max", "(II)I"⟩
abbrev cJ9_min_7cf53 : ByteArray := prog_16_method_69_code
def yJ9_min_7cf53 : MethodName := ⟨RJ9, "min", "(II)I"⟩
def RJ0 : String := "java/lang/String"
abbrev cJ0_length_8abf5 : ByteArray := prog_17_method_54_code
def yJ0_length_8abf5 : MethodName := ⟨RJ0, "length", "()I"⟩
abbrev cJ0_charAt_5068e : ByteArray := prog_17_method_56_code
def yJ0_charAt_5068e : MethodName := ⟨RJ0, "charAt", "(I)C"⟩
abbrev cJ0_coder_7d493 : ByteArray := prog_17_method_152_code
def yJ0_coder_7d493 : MethodName := ⟨RJ0, "coder", "()B"⟩
abbrev cJ0_isLatin1_aae02 : ByteArray := prog_17_method_154_code
def yJ0_isLatin1_aae02 : MethodName := ⟨RJ0, "isLatin1", "()Z"⟩
abbrev cJ0_checkIndex_df160 : ByteArray := prog_17_method_155_code
def yJ0_checkIndex_df160 : MethodName := ⟨RJ0, "checkIndex", "(II)V"⟩
def RJ1 : String := "java/lang/StringLatin1"
abbrev cJ1_charAt_3b067 : ByteArray := prog_18_method_2_code
def yJ1_charAt_3b067 : MethodName := ⟨RJ1, "charAt", "([BI)C"⟩
def RJ2 : String := "java/lang/StringUTF16"
abbrev cJ2_getChar_3b067 : ByteArray := prog_19_method_5_code
def yJ2_getChar_3b067 : MethodName := ⟨RJ2, "getChar", "([BI)C"⟩
abbrev cJ2_length_9d52b : ByteArray := prog_19_method_6_code
def yJ2_length_9d52b : MethodName := ⟨RJ2, "length", "([B)I"⟩
abbrev cJ2_charAt_3b067 : ByteArray := prog_19_method_83_code
def yJ2_charAt_3b067 : MethodName := ⟨RJ2, "charAt", "([BI)C"⟩
abbrev cJ2_checkIndex_2214a : ByteArray := prog_19_method_91_code
def yJ2_checkIndex_2214a : MethodName := ⟨RJ2, "checkIndex", "(I[B)V"⟩
def RJ10 : String := "java/lang/System"
def RJ7 : String := "java/util/Arrays"
abbrev cJ7_fill_53178 : ByteArray := prog_21_method_103_code
def yJ7_fill_53178 : MethodName := ⟨RJ7, "fill", "([II)V"⟩
def RJ3 : String := "jdk/internal/util/Preconditions"
abbrev cJ3_checkIndex_8e157 : ByteArray := prog_22_method_11_code
def yJ3_checkIndex_8e157 : MethodName := ⟨RJ3, "checkIndex", "(IILjava/util/function/BiFunction;)I"⟩
def RL : String := "NightShelterLaw"
abbrev cL_law : ByteArray := code
def yL_law : MethodName := ⟨RL, "law", "([I)Z"⟩
abbrev vwCl : List vw_C := [(RX0, TX0, 5), (RX1, TX1, 12), (RX2, TX2, 6), (RX3, TX3, 13), (RX4, TX4, 13), (RX5, TX5, 3), (RX6, TX6, 6), (RX7, TX7, 8), (RX8, TX8, 5), (RX9, TX9, 2), (RX10, TX10, 6), (RX11, TX11, 6), (RX12, TX12, 59)]
