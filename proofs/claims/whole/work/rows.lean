section
-- ===== PART A: goes FIRST, ahead of the names: the tables' words, and 'selects' of the private methods out of them =====
/-- a private method of a class that the tables say can be made, by its rows of tables_1 -/
def lw_okq (q : MethodName × Nat) : Prop := (q.1.cls ≠ "java/lang/invoke/MethodHandle" ∧ q.1.cls ≠ "java/lang/invoke/VarHandle") ∧ Cond.instantiable q.1.cls q.2 ∈ tables_1 ∧ Cond.privateMethod q.1 ∈ tables_1 ∧ Cond.instanceMethod q.1 ∈ tables_1
theorem lw_p0 : lw_okq (⟨"CutStore", "unlikeLengthsWith", "(I)I"⟩, 7) := ⟨⟨by decide +kernel, by decide +kernel⟩, List.mem_of_getElem? (i := 20) (by decide +kernel), List.mem_of_getElem? (i := 279) (by decide +kernel), List.mem_of_getElem? (i := 280) (by decide +kernel)⟩
theorem lw_p1 : lw_okq (⟨"CutStore", "hasSeen", "(JI)Z"⟩, 7) := ⟨⟨by decide +kernel, by decide +kernel⟩, List.mem_of_getElem? (i := 20) (by decide +kernel), List.mem_of_getElem? (i := 317) (by decide +kernel), List.mem_of_getElem? (i := 318) (by decide +kernel)⟩
theorem lw_p2 : lw_okq (⟨"java/lang/Throwable", "fillInStackTrace", "(I)Ljava/lang/Throwable;"⟩, 6) := ⟨⟨by decide +kernel, by decide +kernel⟩, List.mem_of_getElem? (i := 391) (by decide +kernel), List.mem_of_getElem? (i := 389) (by decide +kernel), List.mem_of_getElem? (i := 390) (by decide +kernel)⟩
theorem lw_p3 : lw_okq (⟨"CutStore", "mixText", "(JI)J"⟩, 7) := ⟨⟨by decide +kernel, by decide +kernel⟩, List.mem_of_getElem? (i := 20) (by decide +kernel), List.mem_of_getElem? (i := 467) (by decide +kernel), List.mem_of_getElem? (i := 468) (by decide +kernel)⟩
theorem lw_p4 : lw_okq (⟨"CutStore", "mixSigns", "(JI)J"⟩, 7) := ⟨⟨by decide +kernel, by decide +kernel⟩, List.mem_of_getElem? (i := 20) (by decide +kernel), List.mem_of_getElem? (i := 506) (by decide +kernel), List.mem_of_getElem? (i := 507) (by decide +kernel)⟩
theorem lw_p5 : lw_okq (⟨"CutStore", "mixPieces", "(JI)J"⟩, 7) := ⟨⟨by decide +kernel, by decide +kernel⟩, List.mem_of_getElem? (i := 20) (by decide +kernel), List.mem_of_getElem? (i := 528) (by decide +kernel), List.mem_of_getElem? (i := 529) (by decide +kernel)⟩
theorem lw_p6 : lw_okq (⟨"CutStore", "mixSlot", "(JI)J"⟩, 7) := ⟨⟨by decide +kernel, by decide +kernel⟩, List.mem_of_getElem? (i := 20) (by decide +kernel), List.mem_of_getElem? (i := 623) (by decide +kernel), List.mem_of_getElem? (i := 624) (by decide +kernel)⟩
theorem lw_p7 : lw_okq (⟨"CutStore", "requireCompleteBuffer", "()V"⟩, 7) := ⟨⟨by decide +kernel, by decide +kernel⟩, List.mem_of_getElem? (i := 20) (by decide +kernel), List.mem_of_getElem? (i := 660) (by decide +kernel), List.mem_of_getElem? (i := 661) (by decide +kernel)⟩
theorem lw_p8 : lw_okq (⟨"CutStore", "changeToTrial", "(I)I"⟩, 7) := ⟨⟨by decide +kernel, by decide +kernel⟩, List.mem_of_getElem? (i := 20) (by decide +kernel), List.mem_of_getElem? (i := 665) (by decide +kernel), List.mem_of_getElem? (i := 666) (by decide +kernel)⟩
theorem lw_p9 : lw_okq (⟨"CutStoreModel", "isWhole", "()Z"⟩, 21) := ⟨⟨by decide +kernel, by decide +kernel⟩, List.mem_of_getElem? (i := 797) (by decide +kernel), List.mem_of_getElem? (i := 881) (by decide +kernel), List.mem_of_getElem? (i := 882) (by decide +kernel)⟩
theorem lw_p10 : lw_okq (⟨"CutStoreModel", "rightUpTo", "()I"⟩, 21) := ⟨⟨by decide +kernel, by decide +kernel⟩, List.mem_of_getElem? (i := 797) (by decide +kernel), List.mem_of_getElem? (i := 885) (by decide +kernel), List.mem_of_getElem? (i := 886) (by decide +kernel)⟩
theorem lw_p11 : lw_okq (⟨"CutStoreModel", "takes", "(I)Z"⟩, 21) := ⟨⟨by decide +kernel, by decide +kernel⟩, List.mem_of_getElem? (i := 797) (by decide +kernel), List.mem_of_getElem? (i := 889) (by decide +kernel), List.mem_of_getElem? (i := 890) (by decide +kernel)⟩
theorem lw_p12 : lw_okq (⟨"CutStoreModel", "takeTold", "()V"⟩, 21) := ⟨⟨by decide +kernel, by decide +kernel⟩, List.mem_of_getElem? (i := 797) (by decide +kernel), List.mem_of_getElem? (i := 893) (by decide +kernel), List.mem_of_getElem? (i := 894) (by decide +kernel)⟩
theorem lw_p13 : lw_okq (⟨"CutStoreModel", "cut", "()V"⟩, 21) := ⟨⟨by decide +kernel, by decide +kernel⟩, List.mem_of_getElem? (i := 797) (by decide +kernel), List.mem_of_getElem? (i := 897) (by decide +kernel), List.mem_of_getElem? (i := 898) (by decide +kernel)⟩
theorem lw_p14 : lw_okq (⟨"CutStoreModel", "endAt", "(II)I"⟩, 21) := ⟨⟨by decide +kernel, by decide +kernel⟩, List.mem_of_getElem? (i := 797) (by decide +kernel), List.mem_of_getElem? (i := 901) (by decide +kernel), List.mem_of_getElem? (i := 902) (by decide +kernel)⟩
theorem lw_p15 : lw_okq (⟨"CutStoreModel", "sumAt", "(I)I"⟩, 21) := ⟨⟨by decide +kernel, by decide +kernel⟩, List.mem_of_getElem? (i := 797) (by decide +kernel), List.mem_of_getElem? (i := 905) (by decide +kernel), List.mem_of_getElem? (i := 906) (by decide +kernel)⟩
def lw_privs_1 : List (MethodName × Nat) := [(⟨"CutStore", "unlikeLengthsWith", "(I)I"⟩, 7), (⟨"CutStore", "hasSeen", "(JI)Z"⟩, 7), (⟨"java/lang/Throwable", "fillInStackTrace", "(I)Ljava/lang/Throwable;"⟩, 6), (⟨"CutStore", "mixText", "(JI)J"⟩, 7), (⟨"CutStore", "mixSigns", "(JI)J"⟩, 7), (⟨"CutStore", "mixPieces", "(JI)J"⟩, 7), (⟨"CutStore", "mixSlot", "(JI)J"⟩, 7), (⟨"CutStore", "requireCompleteBuffer", "()V"⟩, 7), (⟨"CutStore", "changeToTrial", "(I)I"⟩, 7), (⟨"CutStoreModel", "isWhole", "()Z"⟩, 21), (⟨"CutStoreModel", "rightUpTo", "()I"⟩, 21), (⟨"CutStoreModel", "takes", "(I)Z"⟩, 21), (⟨"CutStoreModel", "takeTold", "()V"⟩, 21), (⟨"CutStoreModel", "cut", "()V"⟩, 21), (⟨"CutStoreModel", "endAt", "(II)I"⟩, 21), (⟨"CutStoreModel", "sumAt", "(I)I"⟩, 21)]
theorem lw_r1 : ∀ q ∈ lw_privs_1, lw_okq q := List.forall_mem_cons.mpr ⟨lw_p0, List.forall_mem_cons.mpr ⟨lw_p1, List.forall_mem_cons.mpr ⟨lw_p2, List.forall_mem_cons.mpr ⟨lw_p3, List.forall_mem_cons.mpr ⟨lw_p4, List.forall_mem_cons.mpr ⟨lw_p5, List.forall_mem_cons.mpr ⟨lw_p6, List.forall_mem_cons.mpr ⟨lw_p7, List.forall_mem_cons.mpr ⟨lw_p8, List.forall_mem_cons.mpr ⟨lw_p9, List.forall_mem_cons.mpr ⟨lw_p10, List.forall_mem_cons.mpr ⟨lw_p11, List.forall_mem_cons.mpr ⟨lw_p12, List.forall_mem_cons.mpr ⟨lw_p13, List.forall_mem_cons.mpr ⟨lw_p14, List.forall_mem_cons.mpr ⟨lw_p15, fun _ h => absurd h List.not_mem_nil⟩⟩⟩⟩⟩⟩⟩⟩⟩⟩⟩⟩⟩⟩⟩⟩
theorem lw_p16 : lw_okq (⟨"CutStoreModel", "isRefused", "(I)Z"⟩, 21) := ⟨⟨by decide +kernel, by decide +kernel⟩, List.mem_of_getElem? (i := 797) (by decide +kernel), List.mem_of_getElem? (i := 909) (by decide +kernel), List.mem_of_getElem? (i := 910) (by decide +kernel)⟩
theorem lw_p17 : lw_okq (⟨"CutStoreModel", "fitsAsItIs", "()Z"⟩, 21) := ⟨⟨by decide +kernel, by decide +kernel⟩, List.mem_of_getElem? (i := 797) (by decide +kernel), List.mem_of_getElem? (i := 913) (by decide +kernel), List.mem_of_getElem? (i := 914) (by decide +kernel)⟩
theorem lw_p18 : lw_okq (⟨"CutStoreModel", "missing", "(Z)I"⟩, 21) := ⟨⟨by decide +kernel, by decide +kernel⟩, List.mem_of_getElem? (i := 797) (by decide +kernel), List.mem_of_getElem? (i := 917) (by decide +kernel), List.mem_of_getElem? (i := 918) (by decide +kernel)⟩
theorem lw_p19 : lw_okq (⟨"CutStoreModel", "isFirstSuch", "(I)Z"⟩, 21) := ⟨⟨by decide +kernel, by decide +kernel⟩, List.mem_of_getElem? (i := 797) (by decide +kernel), List.mem_of_getElem? (i := 921) (by decide +kernel), List.mem_of_getElem? (i := 922) (by decide +kernel)⟩
theorem lw_p20 : lw_okq (⟨"CutStoreModel", "isAlike", "(II)Z"⟩, 21) := ⟨⟨by decide +kernel, by decide +kernel⟩, List.mem_of_getElem? (i := 797) (by decide +kernel), List.mem_of_getElem? (i := 925) (by decide +kernel), List.mem_of_getElem? (i := 926) (by decide +kernel)⟩
theorem lw_p21 : lw_okq (⟨"CutStoreModel", "slotFor", "(I)I"⟩, 21) := ⟨⟨by decide +kernel, by decide +kernel⟩, List.mem_of_getElem? (i := 797) (by decide +kernel), List.mem_of_getElem? (i := 929) (by decide +kernel), List.mem_of_getElem? (i := 930) (by decide +kernel)⟩
theorem lw_p22 : lw_okq (⟨"CutStoreModel", "freeSlots", "()I"⟩, 21) := ⟨⟨by decide +kernel, by decide +kernel⟩, List.mem_of_getElem? (i := 797) (by decide +kernel), List.mem_of_getElem? (i := 933) (by decide +kernel), List.mem_of_getElem? (i := 934) (by decide +kernel)⟩
theorem lw_p23 : lw_okq (⟨"CutStoreModel", "isKept", "(I)Z"⟩, 21) := ⟨⟨by decide +kernel, by decide +kernel⟩, List.mem_of_getElem? (i := 797) (by decide +kernel), List.mem_of_getElem? (i := 937) (by decide +kernel), List.mem_of_getElem? (i := 938) (by decide +kernel)⟩
theorem lw_p24 : lw_okq (⟨"CutStoreModel", "storeSize", "()I"⟩, 21) := ⟨⟨by decide +kernel, by decide +kernel⟩, List.mem_of_getElem? (i := 797) (by decide +kernel), List.mem_of_getElem? (i := 941) (by decide +kernel), List.mem_of_getElem? (i := 942) (by decide +kernel)⟩
theorem lw_p25 : lw_okq (⟨"CutStoreModel", "fitsSwept", "(I)Z"⟩, 21) := ⟨⟨by decide +kernel, by decide +kernel⟩, List.mem_of_getElem? (i := 797) (by decide +kernel), List.mem_of_getElem? (i := 945) (by decide +kernel), List.mem_of_getElem? (i := 946) (by decide +kernel)⟩
theorem lw_p26 : lw_okq (⟨"CutStoreModel", "canBeSwept", "(II)Z"⟩, 21) := ⟨⟨by decide +kernel, by decide +kernel⟩, List.mem_of_getElem? (i := 797) (by decide +kernel), List.mem_of_getElem? (i := 949) (by decide +kernel), List.mem_of_getElem? (i := 950) (by decide +kernel)⟩
theorem lw_p27 : lw_okq (⟨"CutStoreModel", "ownersBut", "(II)I"⟩, 21) := ⟨⟨by decide +kernel, by decide +kernel⟩, List.mem_of_getElem? (i := 797) (by decide +kernel), List.mem_of_getElem? (i := 953) (by decide +kernel), List.mem_of_getElem? (i := 954) (by decide +kernel)⟩
theorem lw_p28 : lw_okq (⟨"CutStoreModel", "signsOf", "(I)I"⟩, 21) := ⟨⟨by decide +kernel, by decide +kernel⟩, List.mem_of_getElem? (i := 797) (by decide +kernel), List.mem_of_getElem? (i := 957) (by decide +kernel), List.mem_of_getElem? (i := 958) (by decide +kernel)⟩
theorem lw_p29 : lw_okq (⟨"CutStoreModel", "markAt", "(II)I"⟩, 21) := ⟨⟨by decide +kernel, by decide +kernel⟩, List.mem_of_getElem? (i := 797) (by decide +kernel), List.mem_of_getElem? (i := 961) (by decide +kernel), List.mem_of_getElem? (i := 962) (by decide +kernel)⟩
theorem lw_p30 : lw_okq (⟨"CutStoreModel", "slotAt", "(II)I"⟩, 21) := ⟨⟨by decide +kernel, by decide +kernel⟩, List.mem_of_getElem? (i := 797) (by decide +kernel), List.mem_of_getElem? (i := 965) (by decide +kernel), List.mem_of_getElem? (i := 966) (by decide +kernel)⟩
theorem lw_p31 : lw_okq (⟨"CutStoreModel", "isNew", "(I)Z"⟩, 21) := ⟨⟨by decide +kernel, by decide +kernel⟩, List.mem_of_getElem? (i := 797) (by decide +kernel), List.mem_of_getElem? (i := 969) (by decide +kernel), List.mem_of_getElem? (i := 970) (by decide +kernel)⟩
def lw_privs_2 : List (MethodName × Nat) := [(⟨"CutStoreModel", "isRefused", "(I)Z"⟩, 21), (⟨"CutStoreModel", "fitsAsItIs", "()Z"⟩, 21), (⟨"CutStoreModel", "missing", "(Z)I"⟩, 21), (⟨"CutStoreModel", "isFirstSuch", "(I)Z"⟩, 21), (⟨"CutStoreModel", "isAlike", "(II)Z"⟩, 21), (⟨"CutStoreModel", "slotFor", "(I)I"⟩, 21), (⟨"CutStoreModel", "freeSlots", "()I"⟩, 21), (⟨"CutStoreModel", "isKept", "(I)Z"⟩, 21), (⟨"CutStoreModel", "storeSize", "()I"⟩, 21), (⟨"CutStoreModel", "fitsSwept", "(I)Z"⟩, 21), (⟨"CutStoreModel", "canBeSwept", "(II)Z"⟩, 21), (⟨"CutStoreModel", "ownersBut", "(II)I"⟩, 21), (⟨"CutStoreModel", "signsOf", "(I)I"⟩, 21), (⟨"CutStoreModel", "markAt", "(II)I"⟩, 21), (⟨"CutStoreModel", "slotAt", "(II)I"⟩, 21), (⟨"CutStoreModel", "isNew", "(I)Z"⟩, 21)]
theorem lw_r2 : ∀ q ∈ lw_privs_2, lw_okq q := List.forall_mem_cons.mpr ⟨lw_p16, List.forall_mem_cons.mpr ⟨lw_p17, List.forall_mem_cons.mpr ⟨lw_p18, List.forall_mem_cons.mpr ⟨lw_p19, List.forall_mem_cons.mpr ⟨lw_p20, List.forall_mem_cons.mpr ⟨lw_p21, List.forall_mem_cons.mpr ⟨lw_p22, List.forall_mem_cons.mpr ⟨lw_p23, List.forall_mem_cons.mpr ⟨lw_p24, List.forall_mem_cons.mpr ⟨lw_p25, List.forall_mem_cons.mpr ⟨lw_p26, List.forall_mem_cons.mpr ⟨lw_p27, List.forall_mem_cons.mpr ⟨lw_p28, List.forall_mem_cons.mpr ⟨lw_p29, List.forall_mem_cons.mpr ⟨lw_p30, List.forall_mem_cons.mpr ⟨lw_p31, fun _ h => absurd h List.not_mem_nil⟩⟩⟩⟩⟩⟩⟩⟩⟩⟩⟩⟩⟩⟩⟩⟩
theorem lw_p32 : lw_okq (⟨"CutStoreModel", "save", "()V"⟩, 21) := ⟨⟨by decide +kernel, by decide +kernel⟩, List.mem_of_getElem? (i := 797) (by decide +kernel), List.mem_of_getElem? (i := 973) (by decide +kernel), List.mem_of_getElem? (i := 974) (by decide +kernel)⟩
theorem lw_p33 : lw_okq (⟨"CutStoreModel", "lay", "(I)I"⟩, 21) := ⟨⟨by decide +kernel, by decide +kernel⟩, List.mem_of_getElem? (i := 797) (by decide +kernel), List.mem_of_getElem? (i := 977) (by decide +kernel), List.mem_of_getElem? (i := 978) (by decide +kernel)⟩
theorem lw_p34 : lw_okq (⟨"CutStoreModel", "clearText", "(I)V"⟩, 21) := ⟨⟨by decide +kernel, by decide +kernel⟩, List.mem_of_getElem? (i := 797) (by decide +kernel), List.mem_of_getElem? (i := 981) (by decide +kernel), List.mem_of_getElem? (i := 982) (by decide +kernel)⟩
theorem lw_p35 : lw_okq (⟨"CutStoreModel", "sweepSlot", "(I)V"⟩, 21) := ⟨⟨by decide +kernel, by decide +kernel⟩, List.mem_of_getElem? (i := 797) (by decide +kernel), List.mem_of_getElem? (i := 985) (by decide +kernel), List.mem_of_getElem? (i := 986) (by decide +kernel)⟩
theorem lw_p36 : lw_okq (⟨"CutStoreModel", "comes", "(I)I"⟩, 21) := ⟨⟨by decide +kernel, by decide +kernel⟩, List.mem_of_getElem? (i := 797) (by decide +kernel), List.mem_of_getElem? (i := 989) (by decide +kernel), List.mem_of_getElem? (i := 990) (by decide +kernel)⟩
theorem lw_p37 : lw_okq (⟨"CutStoreModel", "lowestFree", "()I"⟩, 21) := ⟨⟨by decide +kernel, by decide +kernel⟩, List.mem_of_getElem? (i := 797) (by decide +kernel), List.mem_of_getElem? (i := 993) (by decide +kernel), List.mem_of_getElem? (i := 994) (by decide +kernel)⟩
theorem lw_p38 : lw_okq (⟨"CutStoreModel", "takeInserted", "(II)V"⟩, 21) := ⟨⟨by decide +kernel, by decide +kernel⟩, List.mem_of_getElem? (i := 797) (by decide +kernel), List.mem_of_getElem? (i := 1001) (by decide +kernel), List.mem_of_getElem? (i := 1002) (by decide +kernel)⟩
theorem lw_p39 : lw_okq (⟨"CutStoreModel", "takeRow", "(I)V"⟩, 21) := ⟨⟨by decide +kernel, by decide +kernel⟩, List.mem_of_getElem? (i := 797) (by decide +kernel), List.mem_of_getElem? (i := 1005) (by decide +kernel), List.mem_of_getElem? (i := 1006) (by decide +kernel)⟩
theorem lw_p40 : lw_okq (⟨"CutStoreModel", "valueAt", "(II)I"⟩, 21) := ⟨⟨by decide +kernel, by decide +kernel⟩, List.mem_of_getElem? (i := 797) (by decide +kernel), List.mem_of_getElem? (i := 1009) (by decide +kernel), List.mem_of_getElem? (i := 1010) (by decide +kernel)⟩
theorem lw_p41 : lw_okq (⟨"CutStoreModel", "isPlace", "(II)Z"⟩, 21) := ⟨⟨by decide +kernel, by decide +kernel⟩, List.mem_of_getElem? (i := 797) (by decide +kernel), List.mem_of_getElem? (i := 1017) (by decide +kernel), List.mem_of_getElem? (i := 1018) (by decide +kernel)⟩
theorem lw_p42 : lw_okq (⟨"CutStoreModel", "change", "(II)I"⟩, 21) := ⟨⟨by decide +kernel, by decide +kernel⟩, List.mem_of_getElem? (i := 797) (by decide +kernel), List.mem_of_getElem? (i := 1021) (by decide +kernel), List.mem_of_getElem? (i := 1022) (by decide +kernel)⟩
theorem lw_p43 : lw_okq (⟨"CutStoreModel", "signNow", "(III)I"⟩, 21) := ⟨⟨by decide +kernel, by decide +kernel⟩, List.mem_of_getElem? (i := 797) (by decide +kernel), List.mem_of_getElem? (i := 1071) (by decide +kernel), List.mem_of_getElem? (i := 1072) (by decide +kernel)⟩
theorem lw_p44 : lw_okq (⟨"CutStoreModel", "piecesUpTo", "(II)I"⟩, 21) := ⟨⟨by decide +kernel, by decide +kernel⟩, List.mem_of_getElem? (i := 797) (by decide +kernel), List.mem_of_getElem? (i := 1075) (by decide +kernel), List.mem_of_getElem? (i := 1076) (by decide +kernel)⟩
theorem lw_p45 : lw_okq (⟨"CutStoreModel", "pieceNow", "(III)I"⟩, 21) := ⟨⟨by decide +kernel, by decide +kernel⟩, List.mem_of_getElem? (i := 797) (by decide +kernel), List.mem_of_getElem? (i := 1083) (by decide +kernel), List.mem_of_getElem? (i := 1084) (by decide +kernel)⟩
theorem lw_p46 : lw_okq (⟨"CutStoreModel", "piecesOf", "(I)I"⟩, 21) := ⟨⟨by decide +kernel, by decide +kernel⟩, List.mem_of_getElem? (i := 797) (by decide +kernel), List.mem_of_getElem? (i := 1087) (by decide +kernel), List.mem_of_getElem? (i := 1088) (by decide +kernel)⟩
theorem lw_p47 : lw_okq (⟨"CutStoreModel", "firstOf", "(II)I"⟩, 21) := ⟨⟨by decide +kernel, by decide +kernel⟩, List.mem_of_getElem? (i := 797) (by decide +kernel), List.mem_of_getElem? (i := 1091) (by decide +kernel), List.mem_of_getElem? (i := 1092) (by decide +kernel)⟩
def lw_privs_3 : List (MethodName × Nat) := [(⟨"CutStoreModel", "save", "()V"⟩, 21), (⟨"CutStoreModel", "lay", "(I)I"⟩, 21), (⟨"CutStoreModel", "clearText", "(I)V"⟩, 21), (⟨"CutStoreModel", "sweepSlot", "(I)V"⟩, 21), (⟨"CutStoreModel", "comes", "(I)I"⟩, 21), (⟨"CutStoreModel", "lowestFree", "()I"⟩, 21), (⟨"CutStoreModel", "takeInserted", "(II)V"⟩, 21), (⟨"CutStoreModel", "takeRow", "(I)V"⟩, 21), (⟨"CutStoreModel", "valueAt", "(II)I"⟩, 21), (⟨"CutStoreModel", "isPlace", "(II)Z"⟩, 21), (⟨"CutStoreModel", "change", "(II)I"⟩, 21), (⟨"CutStoreModel", "signNow", "(III)I"⟩, 21), (⟨"CutStoreModel", "piecesUpTo", "(II)I"⟩, 21), (⟨"CutStoreModel", "pieceNow", "(III)I"⟩, 21), (⟨"CutStoreModel", "piecesOf", "(I)I"⟩, 21), (⟨"CutStoreModel", "firstOf", "(II)I"⟩, 21)]
theorem lw_r3 : ∀ q ∈ lw_privs_3, lw_okq q := List.forall_mem_cons.mpr ⟨lw_p32, List.forall_mem_cons.mpr ⟨lw_p33, List.forall_mem_cons.mpr ⟨lw_p34, List.forall_mem_cons.mpr ⟨lw_p35, List.forall_mem_cons.mpr ⟨lw_p36, List.forall_mem_cons.mpr ⟨lw_p37, List.forall_mem_cons.mpr ⟨lw_p38, List.forall_mem_cons.mpr ⟨lw_p39, List.forall_mem_cons.mpr ⟨lw_p40, List.forall_mem_cons.mpr ⟨lw_p41, List.forall_mem_cons.mpr ⟨lw_p42, List.forall_mem_cons.mpr ⟨lw_p43, List.forall_mem_cons.mpr ⟨lw_p44, List.forall_mem_cons.mpr ⟨lw_p45, List.forall_mem_cons.mpr ⟨lw_p46, List.forall_mem_cons.mpr ⟨lw_p47, fun _ h => absurd h List.not_mem_nil⟩⟩⟩⟩⟩⟩⟩⟩⟩⟩⟩⟩⟩⟩⟩⟩
theorem lw_p48 : lw_okq (⟨"CutStoreModel", "textsWith", "(I)I"⟩, 21) := ⟨⟨by decide +kernel, by decide +kernel⟩, List.mem_of_getElem? (i := 797) (by decide +kernel), List.mem_of_getElem? (i := 1095) (by decide +kernel), List.mem_of_getElem? (i := 1096) (by decide +kernel)⟩
theorem lw_p49 : lw_okq (⟨"CutStoreModel", "has", "(II)Z"⟩, 21) := ⟨⟨by decide +kernel, by decide +kernel⟩, List.mem_of_getElem? (i := 797) (by decide +kernel), List.mem_of_getElem? (i := 1099) (by decide +kernel), List.mem_of_getElem? (i := 1100) (by decide +kernel)⟩
theorem lw_p50 : lw_okq (⟨"CutStoreModel", "slotNow", "(II)I"⟩, 21) := ⟨⟨by decide +kernel, by decide +kernel⟩, List.mem_of_getElem? (i := 797) (by decide +kernel), List.mem_of_getElem? (i := 1110) (by decide +kernel), List.mem_of_getElem? (i := 1111) (by decide +kernel)⟩
theorem lw_p51 : lw_okq (⟨"CutStoreModel", "valueIn", "(II)I"⟩, 21) := ⟨⟨by decide +kernel, by decide +kernel⟩, List.mem_of_getElem? (i := 797) (by decide +kernel), List.mem_of_getElem? (i := 1114) (by decide +kernel), List.mem_of_getElem? (i := 1115) (by decide +kernel)⟩
theorem lw_p52 : lw_okq (⟨"CutStoreModel", "textNow", "(II)I"⟩, 21) := ⟨⟨by decide +kernel, by decide +kernel⟩, List.mem_of_getElem? (i := 797) (by decide +kernel), List.mem_of_getElem? (i := 1123) (by decide +kernel), List.mem_of_getElem? (i := 1124) (by decide +kernel)⟩
theorem lw_p53 : lw_okq (⟨"CutStoreModel", "unlikePieces", "(I)I"⟩, 21) := ⟨⟨by decide +kernel, by decide +kernel⟩, List.mem_of_getElem? (i := 797) (by decide +kernel), List.mem_of_getElem? (i := 1127) (by decide +kernel), List.mem_of_getElem? (i := 1128) (by decide +kernel)⟩
theorem lw_p54 : lw_okq (⟨"CutStoreModel", "forcedPieces", "(I)I"⟩, 21) := ⟨⟨by decide +kernel, by decide +kernel⟩, List.mem_of_getElem? (i := 797) (by decide +kernel), List.mem_of_getElem? (i := 1131) (by decide +kernel), List.mem_of_getElem? (i := 1132) (by decide +kernel)⟩
theorem lw_p55 : lw_okq (⟨"CutStoreModel", "longestPiece", "(I)I"⟩, 21) := ⟨⟨by decide +kernel, by decide +kernel⟩, List.mem_of_getElem? (i := 797) (by decide +kernel), List.mem_of_getElem? (i := 1135) (by decide +kernel), List.mem_of_getElem? (i := 1136) (by decide +kernel)⟩
theorem lw_p56 : lw_okq (⟨"CutStoreModel", "ownSigns", "(I)I"⟩, 21) := ⟨⟨by decide +kernel, by decide +kernel⟩, List.mem_of_getElem? (i := 797) (by decide +kernel), List.mem_of_getElem? (i := 1139) (by decide +kernel), List.mem_of_getElem? (i := 1140) (by decide +kernel)⟩
theorem lw_p57 : lw_okq (⟨"CutStoreModel", "commonNow", "(III)I"⟩, 21) := ⟨⟨by decide +kernel, by decide +kernel⟩, List.mem_of_getElem? (i := 797) (by decide +kernel), List.mem_of_getElem? (i := 1147) (by decide +kernel), List.mem_of_getElem? (i := 1148) (by decide +kernel)⟩
theorem lw_p58 : lw_okq (⟨"CutStoreModel", "sharedPieces", "(II)I"⟩, 21) := ⟨⟨by decide +kernel, by decide +kernel⟩, List.mem_of_getElem? (i := 797) (by decide +kernel), List.mem_of_getElem? (i := 1151) (by decide +kernel), List.mem_of_getElem? (i := 1152) (by decide +kernel)⟩
theorem lw_p59 : lw_okq (⟨"CutStoreModel", "sharedSigns", "(II)I"⟩, 21) := ⟨⟨by decide +kernel, by decide +kernel⟩, List.mem_of_getElem? (i := 797) (by decide +kernel), List.mem_of_getElem? (i := 1155) (by decide +kernel), List.mem_of_getElem? (i := 1156) (by decide +kernel)⟩
theorem lw_p60 : lw_okq (⟨"CutStoreModel", "sameBegin", "(II)I"⟩, 21) := ⟨⟨by decide +kernel, by decide +kernel⟩, List.mem_of_getElem? (i := 797) (by decide +kernel), List.mem_of_getElem? (i := 1159) (by decide +kernel), List.mem_of_getElem? (i := 1160) (by decide +kernel)⟩
theorem lw_p61 : lw_okq (⟨"CutStoreModel", "counted", "(I)I"⟩, 21) := ⟨⟨by decide +kernel, by decide +kernel⟩, List.mem_of_getElem? (i := 797) (by decide +kernel), List.mem_of_getElem? (i := 1167) (by decide +kernel), List.mem_of_getElem? (i := 1168) (by decide +kernel)⟩
theorem lw_p62 : lw_okq (⟨"CutStoreModel", "allSigns", "()I"⟩, 21) := ⟨⟨by decide +kernel, by decide +kernel⟩, List.mem_of_getElem? (i := 797) (by decide +kernel), List.mem_of_getElem? (i := 1171) (by decide +kernel), List.mem_of_getElem? (i := 1172) (by decide +kernel)⟩
theorem lw_p63 : lw_okq (⟨"CutStoreModel", "allPieces", "()I"⟩, 21) := ⟨⟨by decide +kernel, by decide +kernel⟩, List.mem_of_getElem? (i := 797) (by decide +kernel), List.mem_of_getElem? (i := 1175) (by decide +kernel), List.mem_of_getElem? (i := 1176) (by decide +kernel)⟩
def lw_privs_4 : List (MethodName × Nat) := [(⟨"CutStoreModel", "textsWith", "(I)I"⟩, 21), (⟨"CutStoreModel", "has", "(II)Z"⟩, 21), (⟨"CutStoreModel", "slotNow", "(II)I"⟩, 21), (⟨"CutStoreModel", "valueIn", "(II)I"⟩, 21), (⟨"CutStoreModel", "textNow", "(II)I"⟩, 21), (⟨"CutStoreModel", "unlikePieces", "(I)I"⟩, 21), (⟨"CutStoreModel", "forcedPieces", "(I)I"⟩, 21), (⟨"CutStoreModel", "longestPiece", "(I)I"⟩, 21), (⟨"CutStoreModel", "ownSigns", "(I)I"⟩, 21), (⟨"CutStoreModel", "commonNow", "(III)I"⟩, 21), (⟨"CutStoreModel", "sharedPieces", "(II)I"⟩, 21), (⟨"CutStoreModel", "sharedSigns", "(II)I"⟩, 21), (⟨"CutStoreModel", "sameBegin", "(II)I"⟩, 21), (⟨"CutStoreModel", "counted", "(I)I"⟩, 21), (⟨"CutStoreModel", "allSigns", "()I"⟩, 21), (⟨"CutStoreModel", "allPieces", "()I"⟩, 21)]
theorem lw_r4 : ∀ q ∈ lw_privs_4, lw_okq q := List.forall_mem_cons.mpr ⟨lw_p48, List.forall_mem_cons.mpr ⟨lw_p49, List.forall_mem_cons.mpr ⟨lw_p50, List.forall_mem_cons.mpr ⟨lw_p51, List.forall_mem_cons.mpr ⟨lw_p52, List.forall_mem_cons.mpr ⟨lw_p53, List.forall_mem_cons.mpr ⟨lw_p54, List.forall_mem_cons.mpr ⟨lw_p55, List.forall_mem_cons.mpr ⟨lw_p56, List.forall_mem_cons.mpr ⟨lw_p57, List.forall_mem_cons.mpr ⟨lw_p58, List.forall_mem_cons.mpr ⟨lw_p59, List.forall_mem_cons.mpr ⟨lw_p60, List.forall_mem_cons.mpr ⟨lw_p61, List.forall_mem_cons.mpr ⟨lw_p62, List.forall_mem_cons.mpr ⟨lw_p63, fun _ h => absurd h List.not_mem_nil⟩⟩⟩⟩⟩⟩⟩⟩⟩⟩⟩⟩⟩⟩⟩⟩
theorem lw_p64 : lw_okq (⟨"CutStoreModel", "ownerless", "(Z)I"⟩, 21) := ⟨⟨by decide +kernel, by decide +kernel⟩, List.mem_of_getElem? (i := 797) (by decide +kernel), List.mem_of_getElem? (i := 1179) (by decide +kernel), List.mem_of_getElem? (i := 1180) (by decide +kernel)⟩
theorem lw_p65 : lw_okq (⟨"CutStoreModel", "mostOwners", "()I"⟩, 21) := ⟨⟨by decide +kernel, by decide +kernel⟩, List.mem_of_getElem? (i := 797) (by decide +kernel), List.mem_of_getElem? (i := 1183) (by decide +kernel), List.mem_of_getElem? (i := 1184) (by decide +kernel)⟩
theorem lw_p66 : lw_okq (⟨"CutStoreModel", "putThen", "(II)I"⟩, 21) := ⟨⟨by decide +kernel, by decide +kernel⟩, List.mem_of_getElem? (i := 797) (by decide +kernel), List.mem_of_getElem? (i := 1195) (by decide +kernel), List.mem_of_getElem? (i := 1196) (by decide +kernel)⟩
theorem lw_p67 : lw_okq (⟨"CutStoreModel", "setThen", "(III)I"⟩, 21) := ⟨⟨by decide +kernel, by decide +kernel⟩, List.mem_of_getElem? (i := 797) (by decide +kernel), List.mem_of_getElem? (i := 1203) (by decide +kernel), List.mem_of_getElem? (i := 1204) (by decide +kernel)⟩
theorem lw_p68 : lw_okq (⟨"CutStoreModel", "bestNow", "()I"⟩, 21) := ⟨⟨by decide +kernel, by decide +kernel⟩, List.mem_of_getElem? (i := 797) (by decide +kernel), List.mem_of_getElem? (i := 1211) (by decide +kernel), List.mem_of_getElem? (i := 1212) (by decide +kernel)⟩
theorem lw_p69 : lw_okq (⟨"CutStoreModel", "lengthsBy", "(I)I"⟩, 21) := ⟨⟨by decide +kernel, by decide +kernel⟩, List.mem_of_getElem? (i := 797) (by decide +kernel), List.mem_of_getElem? (i := 1215) (by decide +kernel), List.mem_of_getElem? (i := 1216) (by decide +kernel)⟩
theorem lw_p70 : lw_okq (⟨"CutStoreModel", "addUnlike", "(I)I"⟩, 21) := ⟨⟨by decide +kernel, by decide +kernel⟩, List.mem_of_getElem? (i := 797) (by decide +kernel), List.mem_of_getElem? (i := 1219) (by decide +kernel), List.mem_of_getElem? (i := 1220) (by decide +kernel)⟩
theorem lw_p71 : lw_okq (⟨"CutStoreModel", "saved", "()D"⟩, 21) := ⟨⟨by decide +kernel, by decide +kernel⟩, List.mem_of_getElem? (i := 797) (by decide +kernel), List.mem_of_getElem? (i := 1227) (by decide +kernel), List.mem_of_getElem? (i := 1228) (by decide +kernel)⟩
theorem lw_p72 : lw_okq (⟨"CutStoreModel", "mix", "(J)V"⟩, 21) := ⟨⟨by decide +kernel, by decide +kernel⟩, List.mem_of_getElem? (i := 797) (by decide +kernel), List.mem_of_getElem? (i := 1236) (by decide +kernel), List.mem_of_getElem? (i := 1237) (by decide +kernel)⟩
theorem lw_p73 : lw_okq (⟨"CutStoreModel", "mixText", "(I)V"⟩, 21) := ⟨⟨by decide +kernel, by decide +kernel⟩, List.mem_of_getElem? (i := 797) (by decide +kernel), List.mem_of_getElem? (i := 1241) (by decide +kernel), List.mem_of_getElem? (i := 1242) (by decide +kernel)⟩
def lw_privs_5 : List (MethodName × Nat) := [(⟨"CutStoreModel", "ownerless", "(Z)I"⟩, 21), (⟨"CutStoreModel", "mostOwners", "()I"⟩, 21), (⟨"CutStoreModel", "putThen", "(II)I"⟩, 21), (⟨"CutStoreModel", "setThen", "(III)I"⟩, 21), (⟨"CutStoreModel", "bestNow", "()I"⟩, 21), (⟨"CutStoreModel", "lengthsBy", "(I)I"⟩, 21), (⟨"CutStoreModel", "addUnlike", "(I)I"⟩, 21), (⟨"CutStoreModel", "saved", "()D"⟩, 21), (⟨"CutStoreModel", "mix", "(J)V"⟩, 21), (⟨"CutStoreModel", "mixText", "(I)V"⟩, 21)]
theorem lw_r5 : ∀ q ∈ lw_privs_5, lw_okq q := List.forall_mem_cons.mpr ⟨lw_p64, List.forall_mem_cons.mpr ⟨lw_p65, List.forall_mem_cons.mpr ⟨lw_p66, List.forall_mem_cons.mpr ⟨lw_p67, List.forall_mem_cons.mpr ⟨lw_p68, List.forall_mem_cons.mpr ⟨lw_p69, List.forall_mem_cons.mpr ⟨lw_p70, List.forall_mem_cons.mpr ⟨lw_p71, List.forall_mem_cons.mpr ⟨lw_p72, List.forall_mem_cons.mpr ⟨lw_p73, fun _ h => absurd h List.not_mem_nil⟩⟩⟩⟩⟩⟩⟩⟩⟩⟩
def lw_privs : List (MethodName × Nat) := lw_privs_1 ++ (lw_privs_2 ++ (lw_privs_3 ++ (lw_privs_4 ++ (lw_privs_5))))
def lw_tbl : List Cond := k2_sels lw_privs ++ tables_1
theorem lw_privs_ok : ∀ q ∈ lw_privs, lw_okq q := by
  show ∀ q ∈ lw_privs_1 ++ (lw_privs_2 ++ (lw_privs_3 ++ (lw_privs_4 ++ (lw_privs_5)))), lw_okq q
  exact List.forall_mem_append.mpr ⟨lw_r1, List.forall_mem_append.mpr ⟨lw_r2, List.forall_mem_append.mpr ⟨lw_r3, List.forall_mem_append.mpr ⟨lw_r4, lw_r5⟩⟩⟩⟩
/-- the streams that the claim lets the run draw from -/
abbrev lw_cs : List Choice := [Jvm.Choice.named "NaN.bits"]
theorem lw_bits : nanBits ∈ lw_cs := by first | decide | exact List.mem_cons_self | simp [lw_cs, nanBits]
-- ===== end of PART A; then your names; then what follows =====
end
section
/-! ===== BEGIN words of one list among another's, by their places ===== -/
theorem goodIn_r {big : List Cond} (ws : List Cond) (ps : List Nat) (hp : ws = ps.filterMap (fun i => big[i]?)) (h : ws.all goodWord = true) : GoodIn big ws := by
  intro w hw
  have h1 := List.all_eq_true.mp h w hw
  rw [hp] at hw
  obtain ⟨i, -, hi⟩ := List.mem_filterMap.mp hw
  have hm : w ∈ big := by first | exact List.mem_of_getElem? hi | exact List.getElem?_mem hi
  exact ⟨hm, good_of_word h1⟩
theorem goodIn_app {big a b : List Cond} (ha : GoodIn big a) (hb : GoodIn big b) : GoodIn big (a ++ b) := fun w h => (List.mem_append.mp h).elim (ha w) (hb w)
theorem goodIn_ca {big a b : List Cond} {c : Cond} (ha : GoodIn big (c :: a)) (hb : GoodIn big b) : GoodIn big (c :: (a ++ b)) := fun w h => (List.mem_cons.mp h).elim (fun e => ha w (List.mem_cons.mpr (Or.inl e))) (fun h => (List.mem_append.mp h).elim (fun h => ha w (List.mem_cons.mpr (Or.inr h))) (hb w))
theorem goodIn_sub {big ws : List Cond} (hm : ∀ w ∈ ws, w ∈ big) (h : ws.all goodWord = true) : GoodIn big ws := fun w hw => ⟨hm w hw, good_of_word (List.all_eq_true.mp h w hw)⟩
/-! ===== END ===== -/

/-! ===== BEGIN exceptions that leave a method, and their catching by the caller (launches without stack traces) ===== -/
section VXA
/-! The laws vx_back, vx_callV, vx_callS, vx_callSW, vx_throw0, vx_throwS follow proofs of the library, with one case more: JvmDerived/Free/Laws.lean (Back.of_free), Shelf42/LK1.lean (callV, callS), Shelf/KitTraced.lean (throwNew0V, throwNewS). -/
/-- where a method has thrown q: the class by its name, the cell, what was written, the world -/
def vx_T (XC : String → State → State → Prop) (st : State) (q : Addr) (t : State) (mc ms : Nat) (free : Addr → Prop) : Prop :=
  ∃ (E : String) (ce : Cell) (L : List Loc), XC E st t ∧ t.heap[q]? = some ce ∧ ce.vm = .none ∧ st.vm.findClass E = some ce.cls ∧ st.WarmedH t.vm ∧ st.sameButNew ({ t with vm := st.vm } : State) L mc ms ∧ ∀ z ∈ L, free z.base
def vx_Q (Qc : Array Value → State → Outcome → State → Prop) (XC : String → State → State → Prop) (mc ms : Nat) (free : Addr → Prop) : Array Value → State → Outcome → State → Prop := fun a st o t =>
  (Qc a st o t ∧ ∃ L, FrameEnd st o t L mc ms ∧ ∀ q ∈ L, free q.base) ∨ ∃ q, o = .threw q ∧ vx_T XC st q t mc ms free
/-- a callee that returns or throws -/
def vx_Met (l : Launch) (y : MethodName) (ws : List Cond) (rm : Room) (Pc : Array Value → State → Prop) (Qc : Array Value → State → Outcome → State → Prop) (XC : String → State → State → Prop) (mc ms : Nat) (free : Addr → Prop) : Prop :=
  MetFree l y (headSpec ws rm) Pc (fun _ _ _ _ _ => True) (vx_Q Qc XC mc ms free)
def vx_Post (XC : String → State → State → Prop) (mc ms : Nat) (free : Addr → Prop) : Pt → Array Value → Addr → Pt → Prop := fun A a q B =>
  ∃ (g : JFrame) (mk : MethodId) (t : State) (L : List Loc) (E : String) (ce : Cell), B.U.heap = t.heap ∧ B.U.vm = t.vm ∧ XC E (A.U.calling g mk a) t ∧ t.heap[q]? = some ce ∧ ce.vm = .none ∧ A.U.vm.findClass E = some ce.cls ∧ B.locs = A.locs ++ L ∧ (∀ z ∈ L, free z.base) ∧ B.cells = A.cells + mc ∧ B.slots = A.slots + ms
def vx_Back (l : Launch) (R : Room) (p : Program) (e : Env) (below : List Frame) (s : State) (sargs : Array Value) (y : MethodName) (len W9 : Nat)
    (Pre : Pt → Array Value → Prop) (Post : Pt → Array Value → Option Value → Pt → Prop) (PostX : Pt → Array Value → Addr → Pt → Prop) : Prop :=
  ∀ (m : MethodId) (meth : Method) (c : Code) (A : Pt) (g : JFrame) (ig : Instr) (mk : MethodId) (a : Array Value),
    Stand p l e R s m sargs below meth c A.U A.locs A.cells A.slots → g.method = m → g.locals.size = c.maxLocals → decode c.code g.pc = .ok (ig, len) →
    2 * g.monitorRoom + (g.stack.map fun v => v.category).sum ≤ W9 → A.U.methodNamed? y = some mk → Pre A a →
    (∃ (v : Option Value) (B : Pt), Stand p l e R s m sargs below meth c B.U B.locs B.cells B.slots ∧ Post A a v B ∧
      Steps p.tables e below (doInvoke e (A.U.setTop g) [] mk a).1 (B.U.setTop { g with pc := g.pc + len, stack := v.toList ++ g.stack })) ∨
    (∃ (q : Addr) (B : Pt), Stand p l e R s m sargs below meth c B.U B.locs B.cells B.slots ∧ PostX A a q B ∧
      Steps p.tables e below (doInvoke e (A.U.setTop g) [] mk a).1 ((B.U.setTop g).pushFrame (.throwing q)))
section Payer
variable {l : Launch} {R : Room} {p : Program} {e : Env} {below : List Frame} {s : State} {sargs : Array Value} {y : MethodName} {len W9 : Nat}
theorem vx_back {ws : List Cond} {rm : Room} {Pc : Array Value → State → Prop} {Qc : Array Value → State → Outcome → State → Prop} {XC : String → State → State → Prop} {mc ms : Nat} {free : Addr → Prop} {bytes : ByteArray} {maxL : Nat} {ret : Option FieldType}
    (hM : vx_Met l y ws rm Pc Qc XC mc ms free) (hblind : FrameBlind Pc) (hrc : rm.cells = mc) (hrs : rm.slots = ms)
    (hframes : rm.frames + 1 ≤ R.frames) (hlocals : W9 + (maxL + 11) + rm.locals ≤ R.locals)
    (hws : ∀ w ∈ ws, ∀ a' U, s.WarmedH U.vm → w.before a' U = true) (hcode : Cond.code y bytes maxL ret ∈ ws) (hinit : ∀ a' U, s.WarmedH U.vm → (Cond.initialized y.cls).before a' U = true) :
    vx_Back l R p e below s sargs y len W9 (PreOf R mc ms Pc) (PostOf Qc mc ms free) (vx_Post XC mc ms free) := by
  intro m meth c A g ig mk a X hg hsize hdg hW hn hp
  have h1 : (headSpec ws rm).pre.before a A.U = true := atoms_intro fun w hw => hws w hw _ _ X.warmed
  have h2 : (Cond.code y bytes maxL ret).before a A.U = true := hws _ hcode _ _ X.warmed
  have h3 : (Cond.initialized y.cls).before a A.U = true := hinit _ _ X.warmed
  have h4 : A.cells + (headSpec ws rm).room.cells ≤ R.cells := by rw [show (headSpec ws rm).room.cells = mc from hrc]; exact hp.1
  have h5 : A.slots + (headSpec ws rm).room.slots ≤ R.slots := by rw [show (headSpec ws rm).room.slots = ms from hrs]; exact hp.2.1
  have hPc : Pc a (A.U.calling g mk a) := hblind _ _ _ _ hp.2.2
  obtain ⟨U, Ls, c0, s0⟩ := A
  dsimp only [Pt.U, Pt.locs, Pt.cells, Pt.slots] at h1 h2 h3 h4 h5 X hn hPc ⊢
  obtain ⟨methY, cY, hmY, hcY, -, hlY, -, -, -, -⟩ := Cond.code_spec hn h2
  obtain ⟨kY, hkY, -⟩ := className_of_methodNamed hn
  have hinitY : kY.init = .initialized := Cond.initialized_spec (findClass_of_methodNamed hn) hkY h3
  have h : At U g.method c below := by rw [hg]; exact X.here
  have hlocals9 : W9 + (maxL + 11) + (headSpec ws rm).room.locals ≤ R.locals := hlocals
  have happ : (headSpec ws rm).appliesLoose y e.platform (U.calling g mk a) = true :=
    Spec.appliesLoose_calling (g := g) h hdg hn hkY hinitY
      (X.room_calling (g := g) (R' := (headSpec ws rm).room) hsize hmY hcY hframes (by rw [hlY]; omega) h4 h5) h1
  obtain ⟨mid, hmid⟩ := h.above
  have hfr : (U.setTop g).frames = (.java g :: mid) ++ below := by rw [State.frames_setTop' g h.top, hmid]; rfl
  obtain ⟨o, s₂, hsteps, -, hend, hq⟩ := Steps.callFree hM p X.admits X.cas X.clock (acts := []) hfr happ hPc trivial
  have hq' : vx_Q Qc XC mc ms free a (U.calling g mk a) o s₂ := hq
  rw [State.frames_setTop' g h.top] at hend
  obtain ⟨g₀, hg0⟩ := Option.isSome_iff_exists.mp h.top
  obtain ⟨r, hr⟩ := State.topJava?_eq_some.mp hg0
  have hr' : (({ U with heap := s₂.heap, slotsUsed := s₂.slotsUsed } : State).setVm s₂.vm).frames = .java g₀ :: r := hr
  rcases hq' with ⟨hqc, L, hfe, hL⟩ | ⟨q, rfl, E, ce, L, hx, hce, hcv, hcl, hW₂, hsm, hL⟩
  · obtain ⟨⟨v, rfl⟩, hW₂, e2, q2, q3, q4, q5, q6⟩ := id hfe
    have e3 : s₂ = ({ (U.calling g mk a).setFrames s₂.frames with heap := s₂.heap, slotsUsed := s₂.slotsUsed } : State).setVm s₂.vm := by
      have : s₂ = ({ s₂ with vm := (U.calling g mk a).vm } : State).setVm s₂.vm := rfl
      rw [e2] at this
      exact this
    obtain ⟨c₂, i₂, len₂, hc₂, hd₂, hf₂⟩ := hend
    have hW' : U.WarmedH s₂.vm := hW₂
    have hcc : c₂ = c := by
      have h1 : s₂.code? g.method = U.code? g.method := by
        rw [State.code?_eq, State.code?_eq, hW'.alike.method?]
      exact Option.some.inj (hc₂.symm.trans (h1.trans h.code))
    subst hcc
    have hlen : len₂ = len := by rw [hdg] at hd₂; cases hd₂; rfl
    subst hlen
    have hs₂ : s₂ = (({ U with heap := s₂.heap, slotsUsed := s₂.slotsUsed } : State).setVm s₂.vm).setTop { g with pc := g.pc + len₂, stack := v.toList ++ g.stack } := by
      refine e3.trans ?_
      rw [hf₂, State.calling_eq h.top, State.setFrames_setFrames, State.setTop_of_frames _ hr', hr]
      rfl
    have hsame : U.sameButNew ({ U with heap := s₂.heap, slotsUsed := s₂.slotsUsed } : State) L mc ms := by
      refine ⟨?_, q2, q3, q4, q5, q6⟩
      obtain ⟨t, ht, -⟩ := State.frames_cons hr
      show ({ U with heap := s₂.heap, slotsUsed := s₂.slotsUsed } : State) = { U.setFrames U.frames with heap := s₂.heap, slotsUsed := s₂.slotsUsed }
      rw [State.setFrames_self ht]
    subst hg
    refine Or.inl ⟨v, ⟨(({ U with heap := s₂.heap, slotsUsed := s₂.slotsUsed } : State).setVm s₂.vm), Ls ++ L, c0 + mc, s0 + ms⟩,
      ⟨X.admits, X.cas, X.clock, X.frames, X.room, X.hears, X.method, X.code, (X.here.setHeapUsed s₂.heap s₂.slotsUsed).setVm hW'.alike, X.tail, State.WarmedH.trans X.warmed hW', X.limits, X.bytes, X.same.trans (hsame.setVm s.vm)⟩,
      ⟨g, mk, s₂, L, rfl, rfl, hqc, rfl, hL, rfl, rfl⟩, ?_⟩
    show Steps p.tables e below _ ((({ U with heap := s₂.heap, slotsUsed := s₂.slotsUsed } : State).setVm s₂.vm).setTop { g with pc := g.pc + len₂, stack := v.toList ++ g.stack })
    rw [← hs₂]
    exact hsteps
  · obtain ⟨e2, q2, q3, q4, q5, q6⟩ := id hsm
    have e3 : s₂ = ({ (U.calling g mk a).setFrames s₂.frames with heap := s₂.heap, slotsUsed := s₂.slotsUsed } : State).setVm s₂.vm := by
      have : s₂ = ({ s₂ with vm := (U.calling g mk a).vm } : State).setVm s₂.vm := rfl
      rw [e2] at this
      exact this
    have hf₂ : s₂.frames = .throwing q :: .java g :: U.frames.tail := hend
    have hW' : U.WarmedH s₂.vm := hW₂
    have hs₂ : s₂ = ((({ U with heap := s₂.heap, slotsUsed := s₂.slotsUsed } : State).setVm s₂.vm).setTop g).pushFrame (.throwing q) := by
      refine e3.trans ?_
      rw [hf₂, State.calling_eq h.top, State.setFrames_setFrames, State.pushFrame, State.frames_setTop _ hr', State.setTop_of_frames _ hr', State.setFrames_setFrames, hr]
      rfl
    have hsame : U.sameButNew ({ U with heap := s₂.heap, slotsUsed := s₂.slotsUsed } : State) L mc ms := by
      refine ⟨?_, q2, q3, q4, q5, q6⟩
      obtain ⟨t, ht, -⟩ := State.frames_cons hr
      show ({ U with heap := s₂.heap, slotsUsed := s₂.slotsUsed } : State) = { U.setFrames U.frames with heap := s₂.heap, slotsUsed := s₂.slotsUsed }
      rw [State.setFrames_self ht]
    subst hg
    refine Or.inr ⟨q, ⟨(({ U with heap := s₂.heap, slotsUsed := s₂.slotsUsed } : State).setVm s₂.vm), Ls ++ L, c0 + mc, s0 + ms⟩,
      ⟨X.admits, X.cas, X.clock, X.frames, X.room, X.hears, X.method, X.code, (X.here.setHeapUsed s₂.heap s₂.slotsUsed).setVm hW'.alike, X.tail, State.WarmedH.trans X.warmed hW', X.limits, X.bytes, X.same.trans (hsame.setVm s.vm)⟩,
      ⟨g, mk, s₂, L, E, ce, rfl, rfl, hx, hce, hcv, hcl, rfl, hL, rfl, rfl⟩, ?_⟩
    show Steps p.tables e below _ (((({ U with heap := s₂.heap, slotsUsed := s₂.slotsUsed } : State).setVm s₂.vm).setTop g).pushFrame (.throwing q))
    rw [← hs₂]
    exact hsteps
end Payer
section Calls
variable {p : Program} {l : Launch} {e : Env} {R : Room} {s : State} {m : MethodId} {args : Array Value} {below : List Frame} {meth : Method} {c : Code} {T : State} {locs : List Loc} {cells slots : Nat}
theorem vx_callV (X : Stand p l e R s m args below meth c T locs cells slots) (hexec : p.tables.exec = Jvm.exec) {own C : String} {index : Nat} {y : MethodName} {bytes : ByteArray} {maxL : Nat} {ret : Option FieldType}
    (hown : s.vm.findClass own = some m.cls) (hlink : (Cond.methodLink own index y).before args s = true) (hinst : (Cond.instanceMethod y).before args s = true) (hsel : (Cond.selects C y y).before args s = true)
    (hcode : (Cond.code y bytes maxL ret).before args s = true) (hy : y.cls ≠ "java/lang/invoke/MethodHandle" ∧ y.cls ≠ "java/lang/invoke/VarHandle")
    {W9 : Nat} {Pre : Pt → Array Value → Prop} {Post : Pt → Array Value → Option Value → Pt → Prop} {PostX : Pt → Array Value → Addr → Pt → Prop} (hK : vx_Back l R p e below s args y 3 W9 Pre Post PostX)
    {b : Addr} {cellB : Cell} (hcell : T.heap[b]? = some cellB) (hobj : cellB.vm.isStatics = false) (hcls : s.vm.findClass C = some cellB.cls)
    {g : JFrame} (hg : g.method = m) (hsize : g.locals.size = c.maxLocals) {argsL rest : List Value} (hlen : ∀ sig, parseMethodDescriptor y.desc = some sig → argsL.length = sig.parameters.length)
    (hstack : g.stack = argsL.reverse ++ .ref b :: rest) (hW : 2 * g.monitorRoom + (rest.map fun v => v.category).sum ≤ W9) (hdg : decode c.code g.pc = .ok (.invokevirtual index, 3))
    (hpre : ∀ vm₁, s.WarmedH vm₁ → Pre ⟨T.setVm vm₁, locs, cells, slots⟩ (Value.ref b :: argsL).toArray) :
    (∃ (v : Option Value) (vm₁ : Vm) (B : Pt), s.WarmedH vm₁ ∧ Stand p l e R s m args below meth c B.U B.locs B.cells B.slots ∧ Post ⟨T.setVm vm₁, locs, cells, slots⟩ (Value.ref b :: argsL).toArray v B ∧
      ∀ target, Steps p.tables e below (B.U.setTop { g with pc := g.pc + 3, stack := v.toList ++ rest }) target → Steps p.tables e below (T.setTop g) target) ∨
    (∃ (q : Addr) (vm₁ : Vm) (B : Pt), s.WarmedH vm₁ ∧ Stand p l e R s m args below meth c B.U B.locs B.cells B.slots ∧ PostX ⟨T.setVm vm₁, locs, cells, slots⟩ (Value.ref b :: argsL).toArray q B ∧
      Steps p.tables e below (T.setTop g) ((B.U.setTop { g with stack := rest }).pushFrame (.throwing q))) := by
  obtain ⟨mk, methM, hnamed, hmethM, hstM, habM⟩ := Cond.instanceMethod_spec hinst
  obtain ⟨methM', cM, hmethM', -, -, -, -, -, -, hsigM⟩ := Cond.code_spec hnamed hcode
  cases hmethM.symm.trans hmethM'
  obtain ⟨c2, r2, m2, q1, q2, q3, q4, kP, hkP, hkPi⟩ := Cond.selects_spec hsel
  cases hcls.symm.trans q1
  cases (State.methodFound?_of_named hnamed hy).symm.trans q2
  cases hnamed.symm.trans q3
  have hselP : selectMethod e.platform s.vm cellB.cls mk = .method mk := by rw [Launch.admits_selectMethod X.admits]; exact q4
  obtain ⟨vm₁, X₁, hstep₁⟩ := X.invokevirtual hexec hown hlink hnamed hmethM hstM hkP hkPi hy (a := b) (cell := cellB) hcell
    (fun z h => by rw [h] at hobj; cases hobj) hselP hmethM habM hkP hkPi (g := g) hg (argsL := argsL) (rest := rest) (hlen _ hsigM) hstack hdg
  rcases hK m meth c ⟨T.setVm vm₁, locs, cells, slots⟩ { g with stack := rest } (.invokevirtual index) mk (Value.ref b :: argsL).toArray X₁ hg hsize hdg hW (X₁.named hnamed) (hpre vm₁ X₁.warmed) with ⟨v, B, X', hpost, hsteps⟩ | ⟨q, B, X', hpost, hsteps⟩
  · exact Or.inl ⟨v, vm₁, B, X₁.warmed, X', hpost, fun target h => hstep₁ _ fun acts => by rw [doInvoke_state]; exact hsteps.trans h⟩
  · exact Or.inr ⟨q, vm₁, B, X₁.warmed, X', hpost, hstep₁ _ fun acts => by rw [doInvoke_state]; exact hsteps⟩
theorem vx_callS (X : Stand p l e R s m args below meth c T locs cells slots) (hexec : p.tables.exec = Jvm.exec) {own : String} {index : Nat} {y : MethodName} {bytes : ByteArray} {maxL : Nat} {ret : Option FieldType}
    (hown : s.vm.findClass own = some m.cls) (hlink : (Cond.methodLink own index y).before args s = true) (hstat : (Cond.static y).before args s = true) (hinit : (Cond.initialized y.cls).before args s = true)
    (hcode : (Cond.code y bytes maxL ret).before args s = true) (hy : y.cls ≠ "java/lang/invoke/MethodHandle" ∧ y.cls ≠ "java/lang/invoke/VarHandle")
    {W9 : Nat} {Pre : Pt → Array Value → Prop} {Post : Pt → Array Value → Option Value → Pt → Prop} {PostX : Pt → Array Value → Addr → Pt → Prop} (hK : vx_Back l R p e below s args y 3 W9 Pre Post PostX)
    {g : JFrame} (hg : g.method = m) (hsize : g.locals.size = c.maxLocals) {argsL rest : List Value} (hlen : ∀ sig, parseMethodDescriptor y.desc = some sig → argsL.length = sig.parameters.length)
    (hstack : g.stack = argsL.reverse ++ rest) (hW : 2 * g.monitorRoom + (rest.map fun v => v.category).sum ≤ W9) (hdg : decode c.code g.pc = .ok (.invokestatic index, 3))
    (hpre : ∀ vm₁, s.WarmedH vm₁ → Pre ⟨T.setVm vm₁, locs, cells, slots⟩ argsL.toArray) :
    (∃ (v : Option Value) (vm₁ : Vm) (B : Pt), s.WarmedH vm₁ ∧ Stand p l e R s m args below meth c B.U B.locs B.cells B.slots ∧ Post ⟨T.setVm vm₁, locs, cells, slots⟩ argsL.toArray v B ∧
      ∀ target, Steps p.tables e below (B.U.setTop { g with pc := g.pc + 3, stack := v.toList ++ rest }) target → Steps p.tables e below (T.setTop g) target) ∨
    (∃ (q : Addr) (vm₁ : Vm) (B : Pt), s.WarmedH vm₁ ∧ Stand p l e R s m args below meth c B.U B.locs B.cells B.slots ∧ PostX ⟨T.setVm vm₁, locs, cells, slots⟩ argsL.toArray q B ∧
      Steps p.tables e below (T.setTop g) ((B.U.setTop { g with stack := rest }).pushFrame (.throwing q))) := by
  obtain ⟨mk, hnamed⟩ := Cond.code_named hcode
  obtain ⟨methM, cM, hmethM, -, -, -, -, -, -, hsigM⟩ := Cond.code_spec hnamed hcode
  have hstatic : methM.isStatic = true := Cond.static_spec hnamed hmethM hstat
  obtain ⟨kP, hkP, -⟩ := className_of_methodNamed hnamed
  have hinitP : kP.init = .initialized := Cond.initialized_spec (findClass_of_methodNamed hnamed) hkP hinit
  obtain ⟨vm₁, X₁, hstep₁⟩ := X.invokestatic hexec hown hlink hnamed hmethM hstatic hkP hinitP hy (g := g) hg (argsL := argsL) (rest := rest) (hlen _ hsigM) hstack hdg
  rcases hK m meth c ⟨T.setVm vm₁, locs, cells, slots⟩ { g with stack := rest } (.invokestatic index) mk argsL.toArray X₁ hg hsize hdg hW (X₁.named hnamed) (hpre vm₁ X₁.warmed) with ⟨v, B, X', hpost, hsteps⟩ | ⟨q, B, X', hpost, hsteps⟩
  · exact Or.inl ⟨v, vm₁, B, X₁.warmed, X', hpost, fun target h => hstep₁ _ fun acts => by rw [doInvoke_state]; exact hsteps.trans h⟩
  · exact Or.inr ⟨q, vm₁, B, X₁.warmed, X', hpost, hstep₁ _ fun acts => by rw [doInvoke_state]; exact hsteps⟩
end Calls
theorem vx_cls {s : State} {T : State} {vm₁ : Vm} {E : String} {k : ClassId} (hW : s.WarmedH vm₁) (h : (T.setVm vm₁).vm.findClass E = some k) : s.vm.findClass E = some k := by
  have h1 : vm₁.findClass E = some k := h
  rw [hW.alike.findClass] at h1
  exact h1
/-- the method's frame g, with q thrown over it -/
def vx_W (p : Program) (l : Launch) (e : Env) (R : Room) (s : State) (m : MethodId) (args : Array Value) (below : List Frame) (meth : Method) (c : Code) (H : Heap) (locs : List Loc) (cells slots : Nat) (Q : State → Prop) (g : JFrame) (q : Addr) : Prop :=
  ∀ T : State, T.heap = H → Stand p l e R s m args below meth c T locs cells slots → ∃ t, Steps p.tables e below ((T.setTop g).pushFrame (.throwing q)) t ∧ Q t
def vx_Run (p : Program) (l : Launch) (e : Env) (R : Room) (s : State) (m : MethodId) (args : Array Value) (below : List Frame) (meth : Method) (c : Code) (H : Heap) (locs : List Loc) (cells slots mc ms : Nat) (g : JFrame) (rest : List Value) (Qa : State → Outcome → State → Prop) (XC : String → State → State → Prop) (free : Addr → Prop) : Prop :=
  ∀ T : State, T.heap = H → Stand p l e R s m args below meth c T locs cells slots →
    (∃ (v : Option Value) (st₀ t T' : State) (L : List Loc), st₀.heap = H ∧ Stand p l e R s m args below meth c T' (locs ++ L) (cells + mc) (slots + ms) ∧ (∀ q ∈ L, free q.base) ∧ T'.heap = t.heap ∧ T'.vm = t.vm ∧ Qa st₀ (.returned v) t ∧
      Goes p e below T g T' { g with pc := g.pc + 3, stack := v.toList ++ rest }) ∨
    (∃ (q : Addr) (st₀ t T' : State) (L : List Loc) (E : String) (ce : Cell), st₀.heap = H ∧ Stand p l e R s m args below meth c T' (locs ++ L) (cells + mc) (slots + ms) ∧ (∀ z ∈ L, free z.base) ∧ T'.heap = t.heap ∧ T'.vm = t.vm ∧ XC E st₀ t ∧ t.heap[q]? = some ce ∧ ce.vm = .none ∧ s.vm.findClass E = some ce.cls ∧
      Steps p.tables e below (T.setTop g) ((T'.setTop { g with stack := rest }).pushFrame (.throwing q)))
def vx_X {S : Type} (px : S → Prop) (B : String → S → State → Prop) (A : Nat → Prop) : String → State → State → Prop := fun E st t => ∃ u : S, px u ∧ B E u t ∧ va_F A st t
section Runs
variable {p : Program} {l : Launch} {e : Env} {R : Room} {s : State} {m : MethodId} {args : Array Value} {below : List Frame} {meth : Method} {c : Code} {H : Heap} {locs : List Loc} {cells slots : Nat}
variable {y : MethodName} {bytes cc : ByteArray} {maxL nL mc ms n index : Nat} {ret : Option FieldType} {ws : List Cond} {rm : Room} {Pc : Array Value → State → Prop} {Qc : Array Value → State → Outcome → State → Prop} {XC : String → State → State → Prop} {free : Addr → Prop} {Ts : List Cond} {own C : String} {b : Addr} {As rest : List Value} {g : JFrame}
theorem vx_callBack (cb : CallB R s args own index y bytes maxL ret ws rm mc ms n) (hM : vx_Met l y ws rm Pc Qc XC mc ms free) (hbl : FrameBlind Pc) : vx_Back l R p e below s args y 3 8 (PreOf R mc ms Pc) (PostOf Qc mc ms free) (vx_Post XC mc ms free) := by
  obtain ⟨hrc, hrs, hfr, hlo, hws, hcw, -, hini, -⟩ := cb
  exact vx_back (bytes := bytes) (maxL := maxL) (ret := ret) hM hbl hrc hrs hfr hlo hws hcw (fun a' U hW => word_at hW (Or.inl (by first | rfl | simp [Cond.onTables, Cond.keeps, Cond.steady])) hini)
theorem vx_runV (S : CallFix p m c cc nL s args Ts own) (hM : vx_Met l y ws rm Pc Qc XC mc ms free) (cw : CallW R s args own C index y bytes maxL ret ws rm mc ms n) (hp : PreV s H C b Pc As)
    (hg : g.method = m) (hn : As.length = n) (hsize : g.locals.size = nL) (hstack : g.stack = As.reverse ++ .ref b :: rest) (hW : 2 * g.monitorRoom + (rest.map fun v => v.category).sum ≤ 8) (hdg : decode cc g.pc = .ok (.invokevirtual index, 3)) (hf : cells + mc ≤ R.cells ∧ slots + ms ≤ R.slots) :
    vx_Run p l e R s m args below meth c H locs cells slots mc ms g rest (Qc (Value.ref b :: As).toArray) XC free := by
  have hK : vx_Back l R p e below s args y 3 8 (PreOf R mc ms Pc) (PostOf Qc mc ms free) (vx_Post XC mc ms free) := vx_callBack cw.1 hM hp.1
  obtain ⟨⟨-, -, -, -, -, -, hcode, -, hy, hlen, hl⟩, hin, hse⟩ := cw
  obtain ⟨hx, hb, hml, ho, -⟩ := S
  obtain ⟨-, ⟨cellB, hcB, hoB, hclB⟩, hPc⟩ := hp
  intro T hT X
  rcases vx_callV X hx (C := C) (bytes := bytes) (maxL := maxL) (ret := ret) ho hl hin hse hcode hy hK (by rw [hT]; exact hcB) hoB hclB hg (hsize.trans hml.symm) (argsL := As) (rest := rest) (fun sig h => hn.trans (hlen sig h)) hstack hW (by rw [hb]; exact hdg)
    (fun vm₁ hW₁ => ⟨hf.1, hf.2, hPc (T.setVm vm₁) hT hW₁⟩) with ⟨v, vm₁, ⟨U', l2, c2, s2⟩, hW₁, X', ⟨g', mk, t, L, e1, e2, hq, h1, hL, h2, h3⟩, st⟩ | ⟨q, vm₁, ⟨U', l2, c2, s2⟩, hW₁, X', ⟨g', mk, t, L, E, ce, e1, e2, hq, hce, hcv, hcl, h1, hL, h2, h3⟩, st⟩
  · dsimp only [Pt.U, Pt.locs, Pt.cells, Pt.slots] at X' e1 e2 h1 h2 h3 st
    subst h1; subst h2; subst h3
    exact Or.inl ⟨v, (T.setVm vm₁).calling g' mk (Value.ref b :: As).toArray, t, U', L, hT, X', hL, e1, e2, hq, st⟩
  · dsimp only [Pt.U, Pt.locs, Pt.cells, Pt.slots] at X' e1 e2 h1 h2 h3 st hcl
    subst h1; subst h2; subst h3
    exact Or.inr ⟨q, (T.setVm vm₁).calling g' mk (Value.ref b :: As).toArray, t, U', L, E, ce, hT, X', hL, e1, e2, hq, hce, hcv, vx_cls hW₁ hcl, st⟩
theorem vx_runS (S : CallFix p m c cc nL s args Ts own) (hM : vx_Met l y ws rm Pc Qc XC mc ms free) (cw : CallB R s args own index y bytes maxL ret ws rm mc ms n ∧ (Cond.static y).before args s = true) (hp : PreS s H Pc As)
    (hg : g.method = m) (hn : As.length = n) (hsize : g.locals.size = nL) (hstack : g.stack = As.reverse ++ rest) (hW : 2 * g.monitorRoom + (rest.map fun v => v.category).sum ≤ 8) (hdg : decode cc g.pc = .ok (.invokestatic index, 3)) (hf : cells + mc ≤ R.cells ∧ slots + ms ≤ R.slots) :
    vx_Run p l e R s m args below meth c H locs cells slots mc ms g rest (Qc As.toArray) XC free := by
  have hK : vx_Back l R p e below s args y 3 8 (PreOf R mc ms Pc) (PostOf Qc mc ms free) (vx_Post XC mc ms free) := vx_callBack cw.1 hM hp.1
  obtain ⟨⟨-, -, -, -, -, -, hcode, hini, hy, hlen, hl⟩, hstt⟩ := cw
  obtain ⟨hx, hb, hml, ho, -⟩ := S
  intro T hT X
  rcases vx_callS X hx (bytes := bytes) (maxL := maxL) (ret := ret) ho hl hstt hini hcode hy hK hg (hsize.trans hml.symm) (argsL := As) (rest := rest) (fun sig h => hn.trans (hlen sig h)) hstack hW (by rw [hb]; exact hdg)
    (fun vm₁ hW₁ => ⟨hf.1, hf.2, hp.2 (T.setVm vm₁) hT hW₁⟩) with ⟨v, vm₁, ⟨U', l2, c2, s2⟩, hW₁, X', ⟨g', mk, t, L, e1, e2, hq, h1, hL, h2, h3⟩, st⟩ | ⟨q, vm₁, ⟨U', l2, c2, s2⟩, hW₁, X', ⟨g', mk, t, L, E, ce, e1, e2, hq, hce, hcv, hcl, h1, hL, h2, h3⟩, st⟩
  · dsimp only [Pt.U, Pt.locs, Pt.cells, Pt.slots] at X' e1 e2 h1 h2 h3 st
    subst h1; subst h2; subst h3
    exact Or.inl ⟨v, (T.setVm vm₁).calling g' mk As.toArray, t, U', L, hT, X', hL, e1, e2, hq, st⟩
  · dsimp only [Pt.U, Pt.locs, Pt.cells, Pt.slots] at X' e1 e2 h1 h2 h3 st hcl
    subst h1; subst h2; subst h3
    exact Or.inr ⟨q, (T.setVm vm₁).calling g' mk As.toArray, t, U', L, E, ce, hT, X', hL, e1, e2, hq, hce, hcv, vx_cls hW₁ hcl, st⟩
end Runs
section Rows
variable {p : Program} {l : Launch} {e : Env} {R : Room} {s : State} {m : MethodId} {args : Array Value} {below : List Frame} {meth : Method} {c : Code} {H : Heap} {locs : List Loc} {cells slots : Nat} {Q : State → Prop}
variable {mc ms : Nat} {free : Addr → Prop} {A0 A1 : Nat → Prop} {H0 : Heap} {a : Array Value} {pc : Nat} {ls : Array Slot} {st0 rest : List Value}
theorem vx_keep {st₀ t T' : State} {L : List Loc} (h0 : st₀.heap = H) (e1 : T'.heap = t.heap) (hS : va_S A0 H0 H locs) (hA : ∀ q, q < H.size → A1 q → A0 q) (hf : ∀ q, free q → A0 q) (hL : ∀ q ∈ L, free q.base) (hF : va_F A1 st₀ t) :
    H.size ≤ T'.heap.size ∧ (∀ q : Nat, q < H.size → ¬ A1 q → T'.heap[q]? = H[q]?) ∧ va_S A0 H0 T'.heap (locs ++ L) := by
  obtain ⟨hz, hk⟩ := hF
  rw [h0] at hz hk
  exact ⟨by rw [e1]; exact hz, fun q h1 h2 => by rw [e1]; exact hk q h1 h2,
    ⟨Nat.le_trans hS.1 (by rw [e1]; exact hz), fun q h1 h2 => by rw [e1, hk q (Nat.lt_of_lt_of_le h1 hS.1) (fun z => h2 (hA q (Nat.lt_of_lt_of_le h1 hS.1) z))]; exact hS.2.1 q h1 h2, fun q hq => by
      rcases List.mem_append.mp hq with h | h
      · exact hS.2.2 q h
      · exact hf _ (hL q h)⟩⟩
theorem vx_calli {S SX : Type} {post : Int32 → S → Prop} {px : SX → Prop} {B : S → State → Prop} {BX : String → SX → State → Prop} {AX : Nat → Prop} (hr : vx_Run p l e R s m args below meth c H locs cells slots mc ms (F0 m pc ls st0) rest (va_Qi post B A1 a) (vx_X px BX AX) free) (hS : va_S A0 H0 H locs) (hA : ∀ q, q < H.size → A1 q → A0 q) (hf : ∀ q, free q → A0 q) (hAX : ∀ q, q < H.size → AX q → A0 q)
    (kx : ∀ (E : String) (ce : Cell) (q9 : Addr) (u : SX) (t : State) (H1 : Heap) (locs1 : List Loc), t.heap = H1 → s.vm.Alike t.vm → px u → BX E u t → H.size ≤ H1.size → (∀ q : Nat, q < H.size → ¬ AX q → H1[q]? = H[q]?) → va_S A0 H0 H1 locs1 → H1[q9]? = some ce → ce.vm = .none → s.vm.findClass E = some ce.cls → vx_W p l e R s m args below meth c H1 locs1 (cells + mc) (slots + ms) Q (F0 m pc ls rest) q9)
    (kk : ∀ (r : Int32) (u : S) (t : State) (H1 : Heap) (locs1 : List Loc), t.heap = H1 → s.vm.Alike t.vm → post r u → B u t → H.size ≤ H1.size → (∀ q : Nat, q < H.size → ¬ A1 q → H1[q]? = H[q]?) → va_S A0 H0 H1 locs1 → W p l e R s m args below meth c H1 locs1 (cells + mc) (slots + ms) Q (F0 m (pc + 3) ls (.int r :: rest))) : W p l e R s m args below meth c H locs cells slots Q (F0 m pc ls st0) := by
  intro T hT X
  rcases hr T hT X with ⟨v, st₀, t, T', L, h0, X', hL, e1, e2, ⟨⟨r, u, hv, hp, hb⟩, hF⟩, st⟩ | ⟨q, st₀, t, T', L, E, ce, h0, X', hL, e1, e2, ⟨u, hp, hb, hF⟩, hce, hcv, hcl, st⟩
  · cases hv
    obtain ⟨k1, k2, k3⟩ := vx_keep h0 e1 hS hA hf hL hF
    obtain ⟨t2, a1, b1⟩ := kk r u t T'.heap (locs ++ L) e1.symm (by rw [← e2]; exact X'.warmed.alike) hp hb k1 k2 k3 T' rfl X'
    exact ⟨t2, st t2 a1, b1⟩
  · obtain ⟨k1, k2, k3⟩ := vx_keep h0 e1 hS hAX hf hL hF
    obtain ⟨t2, a1, b1⟩ := kx E ce q u t T'.heap (locs ++ L) e1.symm (by rw [← e2]; exact X'.warmed.alike) hp hb k1 k2 k3 (by rw [e1]; exact hce) hcv hcl T' rfl X'
    exact ⟨t2, st.trans a1, b1⟩
theorem vx_calll {S SX : Type} {post : Int64 → S → Prop} {px : SX → Prop} {B : S → State → Prop} {BX : String → SX → State → Prop} {AX : Nat → Prop} (hr : vx_Run p l e R s m args below meth c H locs cells slots mc ms (F0 m pc ls st0) rest (va_Ql post B A1 a) (vx_X px BX AX) free) (hS : va_S A0 H0 H locs) (hA : ∀ q, q < H.size → A1 q → A0 q) (hf : ∀ q, free q → A0 q) (hAX : ∀ q, q < H.size → AX q → A0 q)
    (kx : ∀ (E : String) (ce : Cell) (q9 : Addr) (u : SX) (t : State) (H1 : Heap) (locs1 : List Loc), t.heap = H1 → s.vm.Alike t.vm → px u → BX E u t → H.size ≤ H1.size → (∀ q : Nat, q < H.size → ¬ AX q → H1[q]? = H[q]?) → va_S A0 H0 H1 locs1 → H1[q9]? = some ce → ce.vm = .none → s.vm.findClass E = some ce.cls → vx_W p l e R s m args below meth c H1 locs1 (cells + mc) (slots + ms) Q (F0 m pc ls rest) q9)
    (kk : ∀ (r : Int64) (u : S) (t : State) (H1 : Heap) (locs1 : List Loc), t.heap = H1 → s.vm.Alike t.vm → post r u → B u t → H.size ≤ H1.size → (∀ q : Nat, q < H.size → ¬ A1 q → H1[q]? = H[q]?) → va_S A0 H0 H1 locs1 → W p l e R s m args below meth c H1 locs1 (cells + mc) (slots + ms) Q (F0 m (pc + 3) ls (.long r :: rest))) : W p l e R s m args below meth c H locs cells slots Q (F0 m pc ls st0) := by
  intro T hT X
  rcases hr T hT X with ⟨v, st₀, t, T', L, h0, X', hL, e1, e2, ⟨⟨r, u, hv, hp, hb⟩, hF⟩, st⟩ | ⟨q, st₀, t, T', L, E, ce, h0, X', hL, e1, e2, ⟨u, hp, hb, hF⟩, hce, hcv, hcl, st⟩
  · cases hv
    obtain ⟨k1, k2, k3⟩ := vx_keep h0 e1 hS hA hf hL hF
    obtain ⟨t2, a1, b1⟩ := kk r u t T'.heap (locs ++ L) e1.symm (by rw [← e2]; exact X'.warmed.alike) hp hb k1 k2 k3 T' rfl X'
    exact ⟨t2, st t2 a1, b1⟩
  · obtain ⟨k1, k2, k3⟩ := vx_keep h0 e1 hS hAX hf hL hF
    obtain ⟨t2, a1, b1⟩ := kx E ce q u t T'.heap (locs ++ L) e1.symm (by rw [← e2]; exact X'.warmed.alike) hp hb k1 k2 k3 (by rw [e1]; exact hce) hcv hcl T' rfl X'
    exact ⟨t2, st.trans a1, b1⟩
theorem vx_callf {S SX : Type} {post : UInt32 → S → Prop} {px : SX → Prop} {B : S → State → Prop} {BX : String → SX → State → Prop} {AX : Nat → Prop} (hr : vx_Run p l e R s m args below meth c H locs cells slots mc ms (F0 m pc ls st0) rest (va_Qf post B A1 a) (vx_X px BX AX) free) (hS : va_S A0 H0 H locs) (hA : ∀ q, q < H.size → A1 q → A0 q) (hf : ∀ q, free q → A0 q) (hAX : ∀ q, q < H.size → AX q → A0 q)
    (kx : ∀ (E : String) (ce : Cell) (q9 : Addr) (u : SX) (t : State) (H1 : Heap) (locs1 : List Loc), t.heap = H1 → s.vm.Alike t.vm → px u → BX E u t → H.size ≤ H1.size → (∀ q : Nat, q < H.size → ¬ AX q → H1[q]? = H[q]?) → va_S A0 H0 H1 locs1 → H1[q9]? = some ce → ce.vm = .none → s.vm.findClass E = some ce.cls → vx_W p l e R s m args below meth c H1 locs1 (cells + mc) (slots + ms) Q (F0 m pc ls rest) q9)
    (kk : ∀ (r : UInt32) (u : S) (t : State) (H1 : Heap) (locs1 : List Loc), t.heap = H1 → s.vm.Alike t.vm → post r u → B u t → H.size ≤ H1.size → (∀ q : Nat, q < H.size → ¬ A1 q → H1[q]? = H[q]?) → va_S A0 H0 H1 locs1 → W p l e R s m args below meth c H1 locs1 (cells + mc) (slots + ms) Q (F0 m (pc + 3) ls (.float r :: rest))) : W p l e R s m args below meth c H locs cells slots Q (F0 m pc ls st0) := by
  intro T hT X
  rcases hr T hT X with ⟨v, st₀, t, T', L, h0, X', hL, e1, e2, ⟨⟨r, u, hv, hp, hb⟩, hF⟩, st⟩ | ⟨q, st₀, t, T', L, E, ce, h0, X', hL, e1, e2, ⟨u, hp, hb, hF⟩, hce, hcv, hcl, st⟩
  · cases hv
    obtain ⟨k1, k2, k3⟩ := vx_keep h0 e1 hS hA hf hL hF
    obtain ⟨t2, a1, b1⟩ := kk r u t T'.heap (locs ++ L) e1.symm (by rw [← e2]; exact X'.warmed.alike) hp hb k1 k2 k3 T' rfl X'
    exact ⟨t2, st t2 a1, b1⟩
  · obtain ⟨k1, k2, k3⟩ := vx_keep h0 e1 hS hAX hf hL hF
    obtain ⟨t2, a1, b1⟩ := kx E ce q u t T'.heap (locs ++ L) e1.symm (by rw [← e2]; exact X'.warmed.alike) hp hb k1 k2 k3 (by rw [e1]; exact hce) hcv hcl T' rfl X'
    exact ⟨t2, st.trans a1, b1⟩
theorem vx_calld {S SX : Type} {post : UInt64 → S → Prop} {px : SX → Prop} {B : S → State → Prop} {BX : String → SX → State → Prop} {AX : Nat → Prop} (hr : vx_Run p l e R s m args below meth c H locs cells slots mc ms (F0 m pc ls st0) rest (va_Qd post B A1 a) (vx_X px BX AX) free) (hS : va_S A0 H0 H locs) (hA : ∀ q, q < H.size → A1 q → A0 q) (hf : ∀ q, free q → A0 q) (hAX : ∀ q, q < H.size → AX q → A0 q)
    (kx : ∀ (E : String) (ce : Cell) (q9 : Addr) (u : SX) (t : State) (H1 : Heap) (locs1 : List Loc), t.heap = H1 → s.vm.Alike t.vm → px u → BX E u t → H.size ≤ H1.size → (∀ q : Nat, q < H.size → ¬ AX q → H1[q]? = H[q]?) → va_S A0 H0 H1 locs1 → H1[q9]? = some ce → ce.vm = .none → s.vm.findClass E = some ce.cls → vx_W p l e R s m args below meth c H1 locs1 (cells + mc) (slots + ms) Q (F0 m pc ls rest) q9)
    (kk : ∀ (r : UInt64) (u : S) (t : State) (H1 : Heap) (locs1 : List Loc), t.heap = H1 → s.vm.Alike t.vm → post r u → B u t → H.size ≤ H1.size → (∀ q : Nat, q < H.size → ¬ A1 q → H1[q]? = H[q]?) → va_S A0 H0 H1 locs1 → W p l e R s m args below meth c H1 locs1 (cells + mc) (slots + ms) Q (F0 m (pc + 3) ls (.double r :: rest))) : W p l e R s m args below meth c H locs cells slots Q (F0 m pc ls st0) := by
  intro T hT X
  rcases hr T hT X with ⟨v, st₀, t, T', L, h0, X', hL, e1, e2, ⟨⟨r, u, hv, hp, hb⟩, hF⟩, st⟩ | ⟨q, st₀, t, T', L, E, ce, h0, X', hL, e1, e2, ⟨u, hp, hb, hF⟩, hce, hcv, hcl, st⟩
  · cases hv
    obtain ⟨k1, k2, k3⟩ := vx_keep h0 e1 hS hA hf hL hF
    obtain ⟨t2, a1, b1⟩ := kk r u t T'.heap (locs ++ L) e1.symm (by rw [← e2]; exact X'.warmed.alike) hp hb k1 k2 k3 T' rfl X'
    exact ⟨t2, st t2 a1, b1⟩
  · obtain ⟨k1, k2, k3⟩ := vx_keep h0 e1 hS hAX hf hL hF
    obtain ⟨t2, a1, b1⟩ := kx E ce q u t T'.heap (locs ++ L) e1.symm (by rw [← e2]; exact X'.warmed.alike) hp hb k1 k2 k3 (by rw [e1]; exact hce) hcv hcl T' rfl X'
    exact ⟨t2, st.trans a1, b1⟩
theorem vx_callv {S SX : Type} {post : S → Prop} {px : SX → Prop} {B : S → State → Prop} {BX : String → SX → State → Prop} {AX : Nat → Prop} (hr : vx_Run p l e R s m args below meth c H locs cells slots mc ms (F0 m pc ls st0) rest (va_Qv post B A1 a) (vx_X px BX AX) free) (hS : va_S A0 H0 H locs) (hA : ∀ q, q < H.size → A1 q → A0 q) (hf : ∀ q, free q → A0 q) (hAX : ∀ q, q < H.size → AX q → A0 q)
    (kx : ∀ (E : String) (ce : Cell) (q9 : Addr) (u : SX) (t : State) (H1 : Heap) (locs1 : List Loc), t.heap = H1 → s.vm.Alike t.vm → px u → BX E u t → H.size ≤ H1.size → (∀ q : Nat, q < H.size → ¬ AX q → H1[q]? = H[q]?) → va_S A0 H0 H1 locs1 → H1[q9]? = some ce → ce.vm = .none → s.vm.findClass E = some ce.cls → vx_W p l e R s m args below meth c H1 locs1 (cells + mc) (slots + ms) Q (F0 m pc ls rest) q9)
    (kk : ∀ (u : S) (t : State) (H1 : Heap) (locs1 : List Loc), t.heap = H1 → s.vm.Alike t.vm → post u → B u t → H.size ≤ H1.size → (∀ q : Nat, q < H.size → ¬ A1 q → H1[q]? = H[q]?) → va_S A0 H0 H1 locs1 → W p l e R s m args below meth c H1 locs1 (cells + mc) (slots + ms) Q (F0 m (pc + 3) ls (rest))) : W p l e R s m args below meth c H locs cells slots Q (F0 m pc ls st0) := by
  intro T hT X
  rcases hr T hT X with ⟨v, st₀, t, T', L, h0, X', hL, e1, e2, ⟨⟨u, hv, hp, hb⟩, hF⟩, st⟩ | ⟨q, st₀, t, T', L, E, ce, h0, X', hL, e1, e2, ⟨u, hp, hb, hF⟩, hce, hcv, hcl, st⟩
  · cases hv
    obtain ⟨k1, k2, k3⟩ := vx_keep h0 e1 hS hA hf hL hF
    obtain ⟨t2, a1, b1⟩ := kk u t T'.heap (locs ++ L) e1.symm (by rw [← e2]; exact X'.warmed.alike) hp hb k1 k2 k3 T' rfl X'
    exact ⟨t2, st t2 a1, b1⟩
  · obtain ⟨k1, k2, k3⟩ := vx_keep h0 e1 hS hAX hf hL hF
    obtain ⟨t2, a1, b1⟩ := kx E ce q u t T'.heap (locs ++ L) e1.symm (by rw [← e2]; exact X'.warmed.alike) hp hb k1 k2 k3 (by rw [e1]; exact hce) hcv hcl T' rfl X'
    exact ⟨t2, st.trans a1, b1⟩
/-- caught by the row x of this method's table; the rows ahead don't take it -/
theorem vx_catch {own name : String} {E : String} {ce : Cell} {q : Addr} (hown : s.vm.findClass own = some m.cls) (pre : List ExceptionTableEntry) (x : ExceptionTableEntry) (suf : List ExceptionTableEntry) (hsplit : c.exceptionTable.toList = pre ++ x :: suf)
    (hpass : ∀ z ∈ pre, covers z pc = false ∨ (z.catchType ≠ 0 ∧ ∃ nm : String, (Cond.classLink own z.catchType nm).before args s = true ∧ va_Nc E nm s)) (hx : covers x pc = true) (h0 : x.catchType ≠ 0)
    (hlink : (Cond.classLink own x.catchType name).before args s = true) (hcast : (Cond.castable E name).before args s = true) (hcell : H[q]? = some ce) (hv : ce.vm = .none) (hcl : s.vm.findClass E = some ce.cls)
    (kk : W p l e R s m args below meth c H locs cells slots Q (F0 m x.handlerPc ls [.ref q])) : vx_W p l e R s m args below meth c H locs cells slots Q (F0 m pc ls rest) q := by
  intro T hT X
  have hpl : e.platform.magicAccessors = ({} : Platform).magicAccessors := by rw [X.admits.platform]
  obtain ⟨c3, c4, hc3, hc4, hasg⟩ := Cond.castable_spec hcast
  cases Option.some.inj (hc3.symm.trans hcl)
  obtain ⟨c5, hc5, hcl5⟩ := Cond.classLink_spec hown hlink e.platform hpl
  cases Option.some.inj (hc4.symm.trans hc5)
  obtain ⟨vm', X', st⟩ := X.thenCaughtThrough q (g := F0 m pc ls rest) rfl (Steps.refl _) (by rw [hT]; exact hcell) (by rw [hv]; rfl) (by obtain ⟨k9, h9, -⟩ := Vm.findClass_spec hcl; exact ⟨k9, h9⟩) pre x suf hsplit
    (fun z hz => by
      rcases hpass z hz with h | ⟨hz0, nm, hl1, hn1⟩
      · exact Or.inl h
      · obtain ⟨c6, hc6, hcl6⟩ := Cond.classLink_spec hown hl1 e.platform hpl
        obtain ⟨a8, b8, h1, h2, h3⟩ := hn1
        cases Option.some.inj (h1.symm.trans hcl)
        cases Option.some.inj (h2.symm.trans hc6)
        exact Or.inr ⟨hz0, _, hcl6, h3⟩) hx (Or.inr ⟨h0, c4, hcl5, hasg⟩)
  obtain ⟨t, a1, b1⟩ := kk (T.setVm vm') hT X'
  exact ⟨t, st.trans a1, b1⟩
end Rows
section Ends
variable {p : Program} {l : Launch} {e : Env} {R : Room} {s : State} {m : MethodId} {args : Array Value} {below : List Frame} {meth : Method} {c : Code} {H : Heap} {locs : List Loc} {cells slots : Nat} {Q : State → Prop}
variable {mc ms : Nat} {free : Addr → Prop} {A0 A1 : Nat → Prop} {H0 : Heap} {a : Array Value} {ls : Array Slot} {st0 rest : List Value}
variable {Qc : Array Value → State → Outcome → State → Prop} {XC : String → State → State → Prop}
/-- what a body that may throw owes at its end -/
def vx_MQ (below : List Frame) (Qc : Array Value → State → Outcome → State → Prop) (XC : String → State → State → Prop) (a : Array Value) (s : State) (mc ms : Nat) (free : Addr → Prop) : State → Prop := fun t =>
  ∃ o, t.status = .running ∧ Ended t below o ∧ vx_Q Qc XC mc ms free a s o t
theorem vx_ret {g : JFrame} {mc ms : Nat} (k : W p l e R s m args below meth c H locs cells slots (MQ below Qc args s mc ms free) g) : W p l e R s m args below meth c H locs cells slots (vx_MQ below Qc XC args s mc ms free) g := by
  intro T hT X
  obtain ⟨t, a1, o, b1, b2, b3, b4⟩ := k T hT X
  exact ⟨t, a1, o, b1, b2, Or.inl ⟨b3, b4⟩⟩
/-- not caught here: it goes on to the caller -/
theorem vx_widen {g : JFrame} {q : Addr} {k n : Nat} (h1 : cells ≤ k) (h2 : slots ≤ n) (kk : vx_W p l e R s m args below meth c H locs k n Q g q) : vx_W p l e R s m args below meth c H locs cells slots Q g q := fun T hT X => kk T hT (stand_widen X h1 h2)
theorem vx_out {pc : Nat} {E : String} {ce : Cell} {q : Addr} {mc ms : Nat} (hout : ∀ x ∈ c.exceptionTable.toList, covers x pc = false) (hlocks : meth.locks = false) (hcell : H[q]? = some ce) (hv : ce.vm = .none) (hcl : s.vm.findClass E = some ce.cls)
    (hx : ∀ t : State, t.heap = H → s.vm.Alike t.vm → XC E s t) (hf : ∀ z ∈ locs, free z.base) (hc : cells ≤ mc) (hs : slots ≤ ms) :
    vx_W p l e R s m args below meth c H locs cells slots (vx_MQ below Qc XC args s mc ms free) (F0 m pc ls rest) q := by
  intro T hT X
  obtain ⟨st1, hrun, hend, hW, hsm⟩ := X.leaveThrown q (g := F0 m pc ls rest) rfl rfl rfl hout hlocks
  have hcell9 : (T.setFrames (.throwing q :: below)).heap[q]? = some ce := by
    show T.heap[q]? = some ce
    rw [hT]; exact hcell
  exact ⟨_, st1, .threw q, hrun, hend, Or.inr ⟨q, rfl, E, ce, locs, hx _ hT hW.alike, hcell9, hv, hcl, hW, hsm.mono hc hs, hf⟩⟩
theorem vx_frame {U : State} {k n : Nat} (h : s.sameButNew ({ U with vm := s.vm } : State) locs k n) : s.heap.size ≤ U.heap.size ∧ ∀ q : Nat, q < s.heap.size → (∀ z ∈ locs, z.base ≠ q) → U.heap[q]? = s.heap[q]? := by
  obtain ⟨-, h2, -, -, -, h6⟩ := h
  refine ⟨h2, fun q hq hz => ?_⟩
  obtain ⟨c9, e1, e2, e3, e4⟩ := h6 q _ (Array.getElem?_eq_getElem hq)
  have hs : c9.slots = (s.heap[q]).slots := Array.ext_getElem? fun i => e4 i fun hm => hz _ hm rfl
  have h9 : c9 = s.heap[q] := by
    rw [hs] at e2
    exact e2
  have e5 : U.heap[q]? = some c9 := e1
  rw [e5, h9, Array.getElem?_eq_getElem hq]
/-- the words of a throw but the four that speak of the heap -/
def vx_no (w : Cond) : Bool := decide (w ≠ .isRef (.static Bundle.tN "UNASSIGNED_STACK" Bundle.steD)) && decide (w ≠ .isRef (.static Bundle.tN "SUPPRESSED_SENTINEL" Bundle.listD)) && decide (w ≠ .laysStatic Bundle.tN "UNASSIGNED_STACK" Bundle.steD) && decide (w ≠ .laysStatic Bundle.tN "SUPPRESSED_SENTINEL" Bundle.listD)
def vx_at0 (own : String) (ic : Nat) (X : String) (names : List String) : List Cond := (Bundle.ownAtoms0 own ic X names).filter vx_no
def vx_atS (own : String) (ic : Nat) (X : String) (names : List String) : List Cond := (Bundle.ownAtoms own ic X names).filter vx_no
/-- a word that the tables alone decide, or a good one -/
def vx_ot (w : Cond) : Bool := w.onTables || goodWord w
theorem vx_ot_at {args a' : Array Value} {s U : State} {w : Cond} (hW : s.WarmedH U.vm) (hvm : s.vm = U.vm) (hg : vx_ot w = true) (h : w.before args s = true) : w.before a' U = true := by
  simp only [vx_ot, Bool.or_eq_true] at hg
  rcases hg with hg | hg
  · exact va_tabs hg hvm h
  · exact word_at hW (good_of_word hg) h
/-- a list's words: the good ones out of the method's own list, the others by premises of their own -/
theorem vx_hat {args : Array Value} {s : State} {L B : List Cond} (h1 : ∀ w ∈ L.filter goodWord, w.before args s = true) (h2 : ∀ w ∈ L.filter (fun w => !goodWord w), w ∈ B) (h3 : ∀ w ∈ B, w.before args s = true) : ∀ w ∈ L, w.before args s = true := by
  intro w hw
  by_cases g : goodWord w = true
  · exact h1 w (List.mem_filter.mpr ⟨hw, g⟩)
  · refine h3 w (h2 w (List.mem_filter.mpr ⟨hw, ?_⟩))
    show (!goodWord w) = true
    cases hgw : goodWord w
    · rfl
    · exact absurd hgw g
theorem vx_c {args : Array Value} {s : State} {w : Cond} {B : List Cond} (h : w.before args s = true) (t : ∀ w ∈ B, w.before args s = true) : ∀ w' ∈ w :: B, w'.before args s = true := fun w' h' => (List.mem_cons.mp h').elim (fun e => by rw [e]; exact h) (t w')
theorem vx_n {args : Array Value} {s : State} : ∀ w ∈ ([] : List Cond), w.before args s = true := fun _ h => nomatch h
theorem vx_own {args : Array Value} {s : State} {L : List Cond} (h1 : ∀ w ∈ L.filter vx_no, w.before args s = true)
    (hU : (Cond.isRef (.static Bundle.tN "UNASSIGNED_STACK" Bundle.steD)).before args s = true) (hN : (Cond.isRef (.static Bundle.tN "SUPPRESSED_SENTINEL" Bundle.listD)).before args s = true)
    (lU : (Cond.laysStatic Bundle.tN "UNASSIGNED_STACK" Bundle.steD).before args s = true) (lN : (Cond.laysStatic Bundle.tN "SUPPRESSED_SENTINEL" Bundle.listD).before args s = true) : ∀ w ∈ L, w.before args s = true := by
  intro w hw
  by_cases e1 : w = .isRef (.static Bundle.tN "UNASSIGNED_STACK" Bundle.steD)
  · rw [e1]; exact hU
  · by_cases e2 : w = .isRef (.static Bundle.tN "SUPPRESSED_SENTINEL" Bundle.listD)
    · rw [e2]; exact hN
    · by_cases e3 : w = .laysStatic Bundle.tN "UNASSIGNED_STACK" Bundle.steD
      · rw [e3]; exact lU
      · by_cases e4 : w = .laysStatic Bundle.tN "SUPPRESSED_SENTINEL" Bundle.listD
        · rw [e4]; exact lN
        · exact h1 w (List.mem_filter.mpr ⟨hw, by unfold vx_no; rw [decide_eq_true e1, decide_eq_true e2, decide_eq_true e3, decide_eq_true e4]; rfl⟩)
/-- where a static field lies, its class's statics cell in H -/
def vx_L (C n d : String) (A : Nat → Prop) (U : State) (H : Heap) : Prop := ∃ (c : ClassId) (k : Class) (i : Nat) (f : Field) (a : Nat) (cell : Cell), U.vm.findClass C = some c ∧ U.fieldFound? C n d = some (c, k, i, f) ∧ f.isStatic = true ∧ k.statics = some a ∧ H[a]? = some cell ∧ cell.vm.isStatics = true ∧ cell.cls = c ∧ f.slot < cell.slots.size ∧ k.staticTypes[f.slot]? = some f.type ∧ ¬ A a
theorem vx_L.moved {C n d : String} {A : Nat → Prop} {u U : State} {H : Heap} (hvm : u.vm.Alike U.vm) (h : vx_L C n d A u H) : vx_L C n d A U H := by
  obtain ⟨c, k, i, f, a, cell, h1, h2, h3, h4, h5, h6, h7, h8, h9, h10⟩ := h
  obtain ⟨k', hi', he⟩ := State.fieldFound?_setVm hvm h2
  exact ⟨c, k', i, f, a, cell, by rw [hvm.findClass]; exact h1, hi', h3, by rw [he]; exact h4, h5, h6, h7, h8, by rw [he]; exact h9, h10⟩
theorem vx_L.kept {C n d : String} {A : Nat → Prop} {U : State} {H H1 : Heap} (h : vx_L C n d A U H) (hq : ∀ a : Nat, a < H.size → ¬ A a → H1[a]? = H[a]?) : vx_L C n d A U H1 := by
  obtain ⟨c, k, i, f, a, cell, h1, h2, h3, h4, h5, h6, h7, h8, h9, h10⟩ := h
  exact ⟨c, k, i, f, a, cell, h1, h2, h3, h4, by rw [hq a (Array.getElem?_eq_some_iff.mp h5).1 h10]; exact h5, h6, h7, h8, h9, h10⟩
theorem vx_L.narrow {C n d : String} {A B : Nat → Prop} {U : State} {H : Heap} (h : vx_L C n d A U H) (hAB : ∀ q, B q → A q) : vx_L C n d B U H := by
  obtain ⟨c, k, i, f, a, cell, h1, h2, h3, h4, h5, h6, h7, h8, h9, h10⟩ := h
  exact ⟨c, k, i, f, a, cell, h1, h2, h3, h4, h5, h6, h7, h8, h9, fun z => h10 (hAB _ z)⟩
theorem vx_L.word {C n d : String} {A : Nat → Prop} {s : State} {args : Array Value} (h : vx_L C n d A s s.heap) : (Cond.laysStatic C n d).before args s = true := by
  obtain ⟨c, k, i, f, a, cell, h1, h2, h3, h4, h5, h6, h7, h8, h9, -⟩ := h
  show (Cond.laysStatic C n d).holds args s none s [] = true
  exact Cond.laysStatic_of h1 h2 h3 h4 h5 h6 h7 h8 h9
/-- .. and what it holds: null or some reference -/
def vx_Zq (C n d : String) (A : Nat → Prop) (U : State) (H : Heap) : Prop := va_Zq C n d A U H ∧ vx_L C n d A U H
theorem vx_Zq.moved {C n d : String} {A : Nat → Prop} {u U : State} {H : Heap} (hvm : u.vm.Alike U.vm) (h : vx_Zq C n d A u H) : vx_Zq C n d A U H := ⟨va_Zq.moved hvm h.1, vx_L.moved hvm h.2⟩
theorem vx_Zq.kept {C n d : String} {A : Nat → Prop} {U : State} {H H1 : Heap} (h : vx_Zq C n d A U H) (hq : ∀ a : Nat, a < H.size → ¬ A a → H1[a]? = H[a]?) : vx_Zq C n d A U H1 := ⟨va_Zq.kept h.1 hq, vx_L.kept h.2 hq⟩
theorem vx_Zq.narrow {C n d : String} {A B : Nat → Prop} {U : State} {H : Heap} (h : vx_Zq C n d A U H) (hAB : ∀ q, B q → A q) : vx_Zq C n d B U H := ⟨va_Zq.narrow h.1 hAB, vx_L.narrow h.2 hAB⟩
theorem vx_Zqof {args : Array Value} {s : State} {C n d : String} {A : Nat → Prop} (hl : (Cond.laysStatic C n d).before args s = true) (hini : (Cond.initialized C).before args s = true) (h : (Cond.isRef (.static C n d)).before args s = true) (hA : ∀ a : Nat, a < s.heap.size → ¬ A a) : vx_Zq C n d A s s.heap := by
  refine ⟨va_Zqof hl hini h hA, ?_⟩
  obtain ⟨c, k, i, f, a, cell, h1, h2, h3, h4, h5, h6, h7, h8, h9⟩ := Cond.laysStatic_spec hl
  exact ⟨c, k, i, f, a, cell, h1, h2, h3, h4, h5, h6, h7, h8, h9, hA a (Array.getElem?_eq_some_iff.mp h5).1⟩
theorem vx_isRef {C n d : String} {v : Value} {A : Nat → Prop} {s : State} {args : Array Value} (h : va_Z C n d v A s s.heap) (hv : v.isRef = true) : (Cond.isRef (.static C n d)).before args s = true := by
  obtain ⟨cf, kf, fi, f, a, cell, h1, h2, h3, h4, h5, h6, h7, -⟩ := h
  have he : (Term.static C n d).eval args s none [] s = some v := by
    simp [Term.eval, State.fieldNamed?, h1, h2, h4, h5, h6, h7]
  simp only [Cond.before, Cond.holds, Cond.value, he]
  cases v <;> simp_all [Value.isRef]
theorem vx_isRefq {C n d : String} {A : Nat → Prop} {s : State} {args : Array Value} (h : va_Zq C n d A s s.heap) : (Cond.isRef (.static C n d)).before args s = true := by
  rcases h with h | ⟨t, h⟩
  · exact vx_isRef h rfl
  · exact vx_isRef h rfl
/-- the same frame, seen from here: as if the method were called anew in this heap -/
theorem vx_rebase {T : State} (X : Stand p l e R s m args below meth c T locs cells slots) {R' : Room} (hf : R'.frames ≤ R.frames) (hl : R'.locals ≤ R.locals) (hc : cells + R'.cells ≤ R.cells) (hs : slots + R'.slots ≤ R.slots) :
    Stand p l e R' ((T.setVm s.vm).setFrames (.invoking m args :: below)) m args below meth c T [] 0 0 := by
  have htop : (T.setVm s.vm).topJava?.isSome := X.here.top
  have hF : ((T.setVm s.vm).setFrames (.invoking m args :: below)).frames = .invoking m args :: below := State.frames_setFrames _ (State.cur_lt_of_top htop)
  obtain ⟨g₀, hg0⟩ := Option.isSome_iff_exists.mp htop
  obtain ⟨r, hr⟩ := State.topJava?_eq_some.mp hg0
  have hl9 : e.platform.stackLimits (T.setVm s.vm).me = e.platform.stackLimits s.me := X.limits
  have hb9 : (T.setVm s.vm).me.stackBytes = s.me.stackBytes := X.bytes
  refine ⟨X.admits, X.cas, X.clock, hF, ?_, X.hears, X.method, X.code, X.here, X.tail, X.warmed, ?_, ?_, ?_⟩
  · have h := X.room
    have hU : ((T.setVm s.vm).setFrames (.invoking m args :: below)).localsInUse = s.localsInUse := by
      rw [State.localsInUse_invoking hF (meth := meth) (c := c) X.method X.code, State.localsInUse_invoking X.frames X.method X.code]
    simp only [State.hasRoom, Bool.and_eq_true, decide_eq_true_eq] at h ⊢
    obtain ⟨⟨⟨⟨h1, h2, h3, h4, h5, h6⟩, h7⟩, h8⟩, h9⟩ := h
    rw [X.frames, List.length_cons] at h2 h3
    have q1 := X.heapSize
    have q2 := X.used
    simp only [hF, hU, List.length_cons, State.stackLimits_setFrames, State.stackBytes_setFrames, hl9, hb9]
    refine ⟨⟨⟨⟨by omega, by omega, by omega, by omega, by omega, h6⟩, ?_⟩, ?_⟩, X.book⟩
    · show T.heap.size + R'.cells ≤ e.platform.maxCells
      omega
    · show T.slotsUsed + R'.slots ≤ e.platform.maxSlots
      omega
  · rw [State.stackLimits_setFrames]; rfl
  · rw [State.stackBytes_setFrames]; rfl
  · refine ⟨?_, Nat.le_refl _, Nat.le_refl _, ?_, ?_, fun a c9 h9 => ⟨c9, h9, rfl, rfl, fun _ _ => rfl⟩⟩
    · obtain ⟨t, ht, -⟩ := State.frames_cons hr
      show T.setVm s.vm = { ((T.setVm s.vm).setFrames (.invoking m args :: below)).setFrames (T.setVm s.vm).frames with heap := T.heap, slotsUsed := T.slotsUsed }
      rw [State.setFrames_setFrames, State.setFrames_self ht]
      rfl
    · show T.slotsUsed = T.slotsUsed + ((T.heap.toList.drop T.heap.size).map (·.slots.size)).sum
      rw [List.drop_eq_nil_of_le (Nat.le_of_eq Array.length_toList)]
      rfl
    · show ((T.heap.toList.drop T.heap.size).map (·.slots.size)).sum ≤ 0
      rw [List.drop_eq_nil_of_le (Nat.le_of_eq Array.length_toList)]
      exact Nat.le_refl _
/-- 'throw new E()': new; dup; invokespecial; athrow -/
theorem vx_throw0 {cc : ByteArray} {pc : Nat} (hexec : p.tables.exec = Jvm.exec) (hb : c.code = cc) (hl : l.stackTraces = false) {own cls : String} {names : List String} {ik ic mc ms : Nat} {A : Nat → Prop}
    (hown : s.vm.findClass own = some m.cls) (hcls : Bundle.fit cls = true) (hnames : ∀ n ∈ names, Bundle.fit n = true)
    (hk : (Cond.classLink own ik cls).before args s = true) (hini : (Cond.initialized cls).before args s = true) (hat : ∀ w ∈ vx_at0 own ic cls names, w.before args s = true)
    (hgood : ∀ w ∈ Cond.classLink own ik cls :: Cond.initialized cls :: vx_at0 own ic cls names, vx_ot w = true)
    (hU : vx_Zq Bundle.tN "UNASSIGNED_STACK" Bundle.steD A s s.heap) (hN : vx_Zq Bundle.tN "SUPPRESSED_SENTINEL" Bundle.listD A s s.heap) (hS : va_S A s.heap H locs) (hsize : ls.size = c.maxLocals)
    (d0 : decode cc pc = .ok (.new ik, 3)) (d3 : decode cc (pc + 3) = .ok (.dup, 1)) (d4 : decode cc (pc + 4) = .ok (.invokespecial ic, 3)) (d7 : decode cc (pc + 7) = .ok (.athrow, 1))
    (hout : ∀ x ∈ c.exceptionTable.toList, covers x (pc + 7) = false)
    (hRframes : names.length + 3 < R.frames) (hRlocals : (rest.map fun v => v.category).sum + (13 * (names.length + 1) + 42) ≤ R.locals) (hRcells : cells + 1 ≤ R.cells) (hRslots : slots + 6 ≤ R.slots) (hlocks : meth.locks = false)
    (hx : ∀ t : State, s.vm.Alike t.vm → H.size ≤ t.heap.size → (∀ q : Nat, q < H.size → t.heap[q]? = H[q]?) → XC cls s t)
    (hf : ∀ z ∈ locs, free z.base) (hc : cells + 1 ≤ mc) (hs : slots + 6 ≤ ms) :
    W p l e R s m args below meth c H locs cells slots (vx_MQ below Qc XC args s mc ms free) (F0 m pc ls rest) := by
  intro T hT X
  have htr : e.platform.stackTraces = false := (show e.platform.stackTraces = l.stackTraces by rw [X.admits.platform]).trans hl
  have Y := vx_rebase X (R' := { frames := R.frames, locals := R.locals, cells := 1, slots := 6 }) (Nat.le_refl _) (Nat.le_refl _) hRcells hRslots
  obtain ⟨s', hA⟩ : ∃ z, z = (T.setVm s.vm).setFrames (.invoking m args :: below) := ⟨_, rfl⟩
  rw [← hA] at Y
  have hvm : s'.vm = s.vm := by rw [hA]; rfl
  have hhp : s'.heap = H := by rw [hA]; exact hT
  have hW0 : s.WarmedH s'.vm := by rw [hvm]; exact State.WarmedH.refl s
  have hat' : ∀ w ∈ vx_at0 own ic cls names, w.before args s' = true := fun w hw => vx_ot_at hW0 hvm.symm (hgood w (List.mem_cons_of_mem _ (List.mem_cons_of_mem _ hw))) (hat w hw)
  have hk' : (Cond.classLink own ik cls).before args s' = true := vx_ot_at hW0 hvm.symm (hgood _ List.mem_cons_self) hk
  have hini' : (Cond.initialized cls).before args s' = true := vx_ot_at hW0 hvm.symm (hgood _ (List.mem_cons_of_mem _ List.mem_cons_self)) hini
  have hU' : vx_Zq Bundle.tN "UNASSIGNED_STACK" Bundle.steD A s' s'.heap := by rw [hhp]; exact vx_Zq.moved hW0.alike (hU.kept hS.2.1)
  have hN' : vx_Zq Bundle.tN "SUPPRESSED_SENTINEL" Bundle.listD A s' s'.heap := by rw [hhp]; exact vx_Zq.moved hW0.alike (hN.kept hS.2.1)
  have h : ∀ w ∈ Bundle.ownAtoms0 own ic cls names, w.before args s' = true := vx_own hat' (vx_isRefq hU'.1) (vx_isRefq hN'.1) hU'.2.word hN'.2.word
  have hown' : s'.vm.findClass own = some m.cls := by rw [hvm]; exact hown
  have hins : (Cond.instantiable cls 6).before args s' = true := h _ (by simp [Bundle.ownAtoms0])
  obtain ⟨vm₁, cX, kX, hfX, hkX, -, -, X₁, st1⟩ := Y.newCold hexec (own := own) (C := cls) (index := ik) (n := 6) hown' hk' hins hini'
    (g := F0 m pc ls rest) rfl (by rw [hb]; exact d0) (Nat.le_refl _) (Nat.le_refl _)
  generalize hT1 : (T.setVm vm₁).pushCell { cls := cX, slots := kX.instanceTypes.map defaultValue, vm := .none } = T1 at X₁ st1
  have hcat : (Value.ref T.heap.size).category = 1 := rfl
  have hcellA : T1.heap[T.heap.size]? = some (freshCell cX kX) := by rw [← hT1]; exact State.heap_pushCell_size _ _
  have d3' : decode c.code (pc + 3) = .ok (.dup, 1) := by rw [hb]; exact d3
  obtain ⟨U, hsteps, hrun, hend, hW, hsame, ce, hce, hO⟩ := X₁.ctorThrow0 hexec htr (own := own) (cls := cls) (names := names) (ic := ic) hown' hcls hnames h (fun x hx => nomatch hx) hfX hkX hcellA (by rw [hhp, hT]; exact Nat.le_refl _)
    (g := { method := m, pc := pc + 4, locals := ls, stack := .ref T.heap.size :: .ref T.heap.size :: rest, locked := none }) rfl hsize rfl rfl (rest := rest) rfl
    (by rw [hb]; exact d4) (by rw [hb]; exact d7) hout hRframes (by simp only [List.map_cons, List.sum_cons, hcat]; omega) hlocks
  obtain ⟨f1, f2⟩ := vx_frame hsame
  rw [hhp] at f1 f2
  have hWs : s.WarmedH U.vm := State.WarmedH.trans hW0 hW
  have hcl : s.vm.findClass cls = some ce.cls := by
    have h9 := hO.cls
    rw [hvm] at h9
    exact h9
  have hall : s.sameButNew ({ U with vm := s.vm } : State) locs mc ms := by
    subst hA
    obtain ⟨e1, e2⟩ := hsame
    rw [State.setFrames_setFrames] at e1
    have h2 : (T.setVm s.vm).sameButNew ({ U with vm := s.vm } : State) [] (0 + 1) (0 + 6) := ⟨e1, e2⟩
    have h3 := X.same.trans h2
    rw [List.append_nil] at h3
    exact h3.mono hc hs
  refine ⟨U, ?_, .threw T.heap.size, hrun, hend, Or.inr ⟨T.heap.size, rfl, cls, ce, locs, hx U hWs.alike f1 (fun q hq => f2 q hq (fun z hz => nomatch hz)), hce, hO.vm, hcl, hWs, hall, hf⟩⟩
  refine st1 _ ?_
  show Steps p.tables e below (T1.setTop { method := m, pc := pc + 3, locals := ls, stack := .ref T.heap.size :: rest, locked := none }) _
  jvm_step X₁.here [X₁.here.top, hexec, d3', Value.category]
  exact hsteps
/-- 'throw new E("text")': new; dup; ldc; invokespecial; athrow -/
theorem vx_throwS {cc : ByteArray} {pc : Nat} (hexec : p.tables.exec = Jvm.exec) (hb : c.code = cc) (hl : l.stackTraces = false) {own cls text : String} {names : List String} {ik is ic mc ms sa : Nat} {A : Nat → Prop}
    (hown : s.vm.findClass own = some m.cls) (hcls : Bundle.fit cls = true) (hnames : ∀ n ∈ names, Bundle.fit n = true)
    (hk : (Cond.classLink own ik cls).before args s = true) (hini : (Cond.initialized cls).before args s = true) (hstr : vk_R own is text sa s) (hat : ∀ w ∈ vx_atS own ic cls names, w.before args s = true)
    (hgood : ∀ w ∈ Cond.classLink own ik cls :: Cond.initialized cls :: vx_atS own ic cls names, vx_ot w = true)
    (hU : vx_Zq Bundle.tN "UNASSIGNED_STACK" Bundle.steD A s s.heap) (hN : vx_Zq Bundle.tN "SUPPRESSED_SENTINEL" Bundle.listD A s s.heap) (hS : va_S A s.heap H locs) (hsize : ls.size = c.maxLocals)
    (d0 : decode cc pc = .ok (.new ik, 3)) (d3 : decode cc (pc + 3) = .ok (.dup, 1)) (d4 : decode cc (pc + 4) = .ok (.ldc is, 2)) (d6 : decode cc (pc + 6) = .ok (.invokespecial ic, 3)) (d9 : decode cc (pc + 9) = .ok (.athrow, 1))
    (hout : ∀ x ∈ c.exceptionTable.toList, covers x (pc + 9) = false)
    (hRframes : names.length + 3 < R.frames) (hRlocals : (rest.map fun v => v.category).sum + (13 * (names.length + 1) + 43) ≤ R.locals) (hRcells : cells + 1 ≤ R.cells) (hRslots : slots + 6 ≤ R.slots) (hlocks : meth.locks = false)
    (hx : ∀ t : State, s.vm.Alike t.vm → H.size ≤ t.heap.size → (∀ q : Nat, q < H.size → t.heap[q]? = H[q]?) → XC cls s t)
    (hf : ∀ z ∈ locs, free z.base) (hc : cells + 1 ≤ mc) (hs : slots + 6 ≤ ms) :
    W p l e R s m args below meth c H locs cells slots (vx_MQ below Qc XC args s mc ms free) (F0 m pc ls rest) := by
  intro T hT X
  have htr : e.platform.stackTraces = false := (show e.platform.stackTraces = l.stackTraces by rw [X.admits.platform]).trans hl
  have Y := vx_rebase X (R' := { frames := R.frames, locals := R.locals, cells := 1, slots := 6 }) (Nat.le_refl _) (Nat.le_refl _) hRcells hRslots
  obtain ⟨s', hA⟩ : ∃ z, z = (T.setVm s.vm).setFrames (.invoking m args :: below) := ⟨_, rfl⟩
  rw [← hA] at Y
  have hvm : s'.vm = s.vm := by rw [hA]; rfl
  have hhp : s'.heap = H := by rw [hA]; exact hT
  have hW0 : s.WarmedH s'.vm := by rw [hvm]; exact State.WarmedH.refl s
  have hat' : ∀ w ∈ vx_atS own ic cls names, w.before args s' = true := fun w hw => vx_ot_at hW0 hvm.symm (hgood w (List.mem_cons_of_mem _ (List.mem_cons_of_mem _ hw))) (hat w hw)
  have hk' : (Cond.classLink own ik cls).before args s' = true := vx_ot_at hW0 hvm.symm (hgood _ List.mem_cons_self) hk
  have hini' : (Cond.initialized cls).before args s' = true := vx_ot_at hW0 hvm.symm (hgood _ (List.mem_cons_of_mem _ List.mem_cons_self)) hini
  have hU' : vx_Zq Bundle.tN "UNASSIGNED_STACK" Bundle.steD A s' s'.heap := by rw [hhp]; exact vx_Zq.moved hW0.alike (hU.kept hS.2.1)
  have hN' : vx_Zq Bundle.tN "SUPPRESSED_SENTINEL" Bundle.listD A s' s'.heap := by rw [hhp]; exact vx_Zq.moved hW0.alike (hN.kept hS.2.1)
  have h : ∀ w ∈ Bundle.ownAtoms own ic cls names, w.before args s' = true := vx_own hat' (vx_isRefq hU'.1) (vx_isRefq hN'.1) hU'.2.word hN'.2.word
  have hown' : s'.vm.findClass own = some m.cls := by rw [hvm]; exact hown
  have hins : (Cond.instantiable cls 6).before args s' = true := h _ (by simp [Bundle.ownAtoms])
  obtain ⟨vm₁, cX, kX, hfX, hkX, -, -, X₁, st1⟩ := Y.newCold hexec (own := own) (C := cls) (index := ik) (n := 6) hown' hk' hins hini'
    (g := F0 m pc ls rest) rfl (by rw [hb]; exact d0) (Nat.le_refl _) (Nat.le_refl _)
  generalize hT1 : (T.setVm vm₁).pushCell { cls := cX, slots := kX.instanceTypes.map defaultValue, vm := .none } = T1 at X₁ st1
  have hcat : (Value.ref T.heap.size).category = 1 := rfl
  have hcellA : T1.heap[T.heap.size]? = some (freshCell cX kX) := by rw [← hT1]; exact State.heap_pushCell_size _ _
  have d3' : decode c.code (pc + 3) = .ok (.dup, 1) := by rw [hb]; exact d3
  have d4' : decode c.code (pc + 4) = .ok (.ldc is, 2) := by rw [hb]; exact d4
  have hstr' : vk_R own is text sa s' := vk_R.warm hW0 hstr
  obtain ⟨U, hsteps, hrun, hend, hW, hsame, ce, hce, hO⟩ := X₁.ctorThrowS hexec htr (own := own) (cls := cls) (names := names) (ic := ic) hown' hcls hnames h (fun x hx => nomatch hx) hfX hkX hcellA (by rw [hhp, hT]; exact Nat.le_refl _) (msg := .ref sa) rfl
    (g := { method := m, pc := pc + 6, locals := ls, stack := .ref sa :: .ref T.heap.size :: .ref T.heap.size :: rest, locked := none }) rfl hsize rfl rfl (rest := rest) rfl
    (by rw [hb]; exact d6) (by rw [hb]; exact d9) hout hRframes (by simp only [List.map_cons, List.sum_cons, hcat]; omega) hlocks
  obtain ⟨f1, f2⟩ := vx_frame hsame
  rw [hhp] at f1 f2
  have hWs : s.WarmedH U.vm := State.WarmedH.trans hW0 hW
  have hcl : s.vm.findClass cls = some ce.cls := by
    have h9 := hO.cls
    rw [hvm] at h9
    exact h9
  have hall : s.sameButNew ({ U with vm := s.vm } : State) locs mc ms := by
    subst hA
    obtain ⟨e1, e2⟩ := hsame
    rw [State.setFrames_setFrames] at e1
    have h2 : (T.setVm s.vm).sameButNew ({ U with vm := s.vm } : State) [] (0 + 1) (0 + 6) := ⟨e1, e2⟩
    have h3 := X.same.trans h2
    rw [List.append_nil] at h3
    exact h3.mono hc hs
  refine ⟨U, ?_, .threw T.heap.size, hrun, hend, Or.inr ⟨T.heap.size, rfl, cls, ce, locs, hx U hWs.alike f1 (fun q hq => f2 q hq (fun z hz => nomatch hz)), hce, hO.vm, hcl, hWs, hall, hf⟩⟩
  refine st1 _ ?_
  show Steps p.tables e below (T1.setTop { method := m, pc := pc + 3, locals := ls, stack := .ref T.heap.size :: rest, locked := none }) _
  jvm_step X₁.here [X₁.here.top, hexec, d3', Value.category]
  exact X₁.ldcString hexec (own := own) (text := text) (index := is) (a := sa) hown' hstr'.1 hstr'.2
    (g := { method := m, pc := pc + 4, locals := ls, stack := .ref T.heap.size :: .ref T.heap.size :: rest, locked := none }) rfl d4' _ hsteps
/-- 'throw new E("text")', the text by a wide index -/
theorem vx_throwSW {cc : ByteArray} {pc : Nat} (hexec : p.tables.exec = Jvm.exec) (hb : c.code = cc) (hl : l.stackTraces = false) {own cls text : String} {names : List String} {ik is ic mc ms sa : Nat} {A : Nat → Prop}
    (hown : s.vm.findClass own = some m.cls) (hcls : Bundle.fit cls = true) (hnames : ∀ n ∈ names, Bundle.fit n = true)
    (hk : (Cond.classLink own ik cls).before args s = true) (hini : (Cond.initialized cls).before args s = true) (hstr : vk_R own is text sa s) (hat : ∀ w ∈ vx_atS own ic cls names, w.before args s = true)
    (hgood : ∀ w ∈ Cond.classLink own ik cls :: Cond.initialized cls :: vx_atS own ic cls names, vx_ot w = true)
    (hU : vx_Zq Bundle.tN "UNASSIGNED_STACK" Bundle.steD A s s.heap) (hN : vx_Zq Bundle.tN "SUPPRESSED_SENTINEL" Bundle.listD A s s.heap) (hS : va_S A s.heap H locs) (hsize : ls.size = c.maxLocals)
    (d0 : decode cc pc = .ok (.new ik, 3)) (d3 : decode cc (pc + 3) = .ok (.dup, 1)) (d4 : decode cc (pc + 4) = .ok (.ldc_w is, 3)) (d7 : decode cc (pc + 7) = .ok (.invokespecial ic, 3)) (d10 : decode cc (pc + 10) = .ok (.athrow, 1))
    (hout : ∀ x ∈ c.exceptionTable.toList, covers x (pc + 10) = false)
    (hRframes : names.length + 3 < R.frames) (hRlocals : (rest.map fun v => v.category).sum + (13 * (names.length + 1) + 43) ≤ R.locals) (hRcells : cells + 1 ≤ R.cells) (hRslots : slots + 6 ≤ R.slots) (hlocks : meth.locks = false)
    (hx : ∀ t : State, s.vm.Alike t.vm → H.size ≤ t.heap.size → (∀ q : Nat, q < H.size → t.heap[q]? = H[q]?) → XC cls s t)
    (hf : ∀ z ∈ locs, free z.base) (hc : cells + 1 ≤ mc) (hs : slots + 6 ≤ ms) :
    W p l e R s m args below meth c H locs cells slots (vx_MQ below Qc XC args s mc ms free) (F0 m pc ls rest) := by
  intro T hT X
  have htr : e.platform.stackTraces = false := (show e.platform.stackTraces = l.stackTraces by rw [X.admits.platform]).trans hl
  have Y := vx_rebase X (R' := { frames := R.frames, locals := R.locals, cells := 1, slots := 6 }) (Nat.le_refl _) (Nat.le_refl _) hRcells hRslots
  obtain ⟨s', hA⟩ : ∃ z, z = (T.setVm s.vm).setFrames (.invoking m args :: below) := ⟨_, rfl⟩
  rw [← hA] at Y
  have hvm : s'.vm = s.vm := by rw [hA]; rfl
  have hhp : s'.heap = H := by rw [hA]; exact hT
  have hW0 : s.WarmedH s'.vm := by rw [hvm]; exact State.WarmedH.refl s
  have hat' : ∀ w ∈ vx_atS own ic cls names, w.before args s' = true := fun w hw => vx_ot_at hW0 hvm.symm (hgood w (List.mem_cons_of_mem _ (List.mem_cons_of_mem _ hw))) (hat w hw)
  have hk' : (Cond.classLink own ik cls).before args s' = true := vx_ot_at hW0 hvm.symm (hgood _ List.mem_cons_self) hk
  have hini' : (Cond.initialized cls).before args s' = true := vx_ot_at hW0 hvm.symm (hgood _ (List.mem_cons_of_mem _ List.mem_cons_self)) hini
  have hU' : vx_Zq Bundle.tN "UNASSIGNED_STACK" Bundle.steD A s' s'.heap := by rw [hhp]; exact vx_Zq.moved hW0.alike (hU.kept hS.2.1)
  have hN' : vx_Zq Bundle.tN "SUPPRESSED_SENTINEL" Bundle.listD A s' s'.heap := by rw [hhp]; exact vx_Zq.moved hW0.alike (hN.kept hS.2.1)
  have h : ∀ w ∈ Bundle.ownAtoms own ic cls names, w.before args s' = true := vx_own hat' (vx_isRefq hU'.1) (vx_isRefq hN'.1) hU'.2.word hN'.2.word
  have hown' : s'.vm.findClass own = some m.cls := by rw [hvm]; exact hown
  have hins : (Cond.instantiable cls 6).before args s' = true := h _ (by simp [Bundle.ownAtoms])
  obtain ⟨vm₁, cX, kX, hfX, hkX, -, -, X₁, st1⟩ := Y.newCold hexec (own := own) (C := cls) (index := ik) (n := 6) hown' hk' hins hini'
    (g := F0 m pc ls rest) rfl (by rw [hb]; exact d0) (Nat.le_refl _) (Nat.le_refl _)
  generalize hT1 : (T.setVm vm₁).pushCell { cls := cX, slots := kX.instanceTypes.map defaultValue, vm := .none } = T1 at X₁ st1
  have hcat : (Value.ref T.heap.size).category = 1 := rfl
  have hcellA : T1.heap[T.heap.size]? = some (freshCell cX kX) := by rw [← hT1]; exact State.heap_pushCell_size _ _
  have d3' : decode c.code (pc + 3) = .ok (.dup, 1) := by rw [hb]; exact d3
  have d4' : decode c.code (pc + 4) = .ok (.ldc_w is, 3) := by rw [hb]; exact d4
  have hstr' : vk_R own is text sa s' := vk_R.warm hW0 hstr
  obtain ⟨U, hsteps, hrun, hend, hW, hsame, ce, hce, hO⟩ := X₁.ctorThrowS hexec htr (own := own) (cls := cls) (names := names) (ic := ic) hown' hcls hnames h (fun x hx => nomatch hx) hfX hkX hcellA (by rw [hhp, hT]; exact Nat.le_refl _) (msg := .ref sa) rfl
    (g := { method := m, pc := pc + 7, locals := ls, stack := .ref sa :: .ref T.heap.size :: .ref T.heap.size :: rest, locked := none }) rfl hsize rfl rfl (rest := rest) rfl
    (by rw [hb]; exact d7) (by rw [hb]; exact d10) hout hRframes (by simp only [List.map_cons, List.sum_cons, hcat]; omega) hlocks
  obtain ⟨f1, f2⟩ := vx_frame hsame
  rw [hhp] at f1 f2
  have hWs : s.WarmedH U.vm := State.WarmedH.trans hW0 hW
  have hcl : s.vm.findClass cls = some ce.cls := by
    have h9 := hO.cls
    rw [hvm] at h9
    exact h9
  have hall : s.sameButNew ({ U with vm := s.vm } : State) locs mc ms := by
    subst hA
    obtain ⟨e1, e2⟩ := hsame
    rw [State.setFrames_setFrames] at e1
    have h2 : (T.setVm s.vm).sameButNew ({ U with vm := s.vm } : State) [] (0 + 1) (0 + 6) := ⟨e1, e2⟩
    have h3 := X.same.trans h2
    rw [List.append_nil] at h3
    exact h3.mono hc hs
  refine ⟨U, ?_, .threw T.heap.size, hrun, hend, Or.inr ⟨T.heap.size, rfl, cls, ce, locs, hx U hWs.alike f1 (fun q hq => f2 q hq (fun z hz => nomatch hz)), hce, hO.vm, hcl, hWs, hall, hf⟩⟩
  refine st1 _ ?_
  show Steps p.tables e below (T1.setTop { method := m, pc := pc + 3, locals := ls, stack := .ref T.heap.size :: rest, locked := none }) _
  jvm_step X₁.here [X₁.here.top, hexec, d3', Value.category]
  exact X₁.ldcStringW hexec (own := own) (text := text) (index := is) (a := sa) hown' hstr'.1 hstr'.2
    (g := { method := m, pc := pc + 4, locals := ls, stack := .ref T.heap.size :: .ref T.heap.size :: rest, locked := none }) rfl d4' _ hsteps
end Ends
section Bodies
variable {l : Launch}
theorem vx_ofW {y : MethodName} {ws ws' : List Cond} {rm : Room} {Pc : Array Value → State → Prop} {Qc : Array Value → State → Outcome → State → Prop} {XC : String → State → State → Prop} {mc ms : Nat} {free : Addr → Prop} {cc : ByteArray} {maxL : Nat} {ret : Option FieldType}
    (hy : plainName y.cls = true) (hw : ws = Cond.code y cc maxL ret :: ws')
    (body : ∀ p e s m args below meth c s₁, BodyLoose p l y (headSpec ws rm) cc maxL ret e s m args below meth c s₁ → c.maxLocals = maxL → (∀ x ∈ c.exceptionTable.toList, False) → Pc args s →
      W p l e (headSpec ws rm).room s m args below meth c s.heap [] 0 0 (vx_MQ below Qc XC args s mc ms free) (entryFrame m args maxL)) : vx_Met l y ws rm Pc Qc XC mc ms free := by
  refine MetFree.of_bodyS (code := cc) (maxLocals := maxL) (ret := ret) hy ?_ ?_
  · intro args s m h hn
    obtain ⟨meth, c, h1, h2, h3, h4, h5, h6, -, -⟩ := Cond.code_spec hn (atoms_spec (ws := ws) h _ (by rw [hw]; exact List.mem_cons_self))
    exact ⟨meth, c, h1, h2, h3, h4, h5, h6⟩
  · intro p e s m args below meth c s₁ B hml hP _
    have hh0 : s₁.heap = s.heap := by rw [B.state]; rfl
    have ht : ∀ x ∈ c.exceptionTable.toList, False := by
      obtain ⟨meth9, c9, h1, h2, -, -, -, -, h7, -⟩ := Cond.code_spec B.named (atoms_spec (ws := ws) B.pre _ (by rw [hw]; exact List.mem_cons_self))
      cases Option.some.inj (h1.symm.trans B.method)
      cases Option.some.inj (h2.symm.trans (Stand.of_body B).code)
      intro x hx
      rw [Array.isEmpty_iff.mp h7] at hx
      cases hx
    obtain ⟨t, a1, o, b1, b2, b3⟩ := body p e s m args below meth c s₁ B hml ht hP s₁ hh0 (Stand.of_body B)
    exact ⟨t, o, a1, b1, b2, b3⟩
/-- the table of a body with handlers -/
theorem vx_table {p : Program} {x y : MethodName} {S : Spec} {cc bytes : ByteArray} {maxL maxL' : Nat} {ret ret' : Option FieldType} {e : Env} {s s₁ : State} {m : MethodId} {args : Array Value} {below : List Frame} {meth : Method} {c : Code} {hh : List (Nat × Nat × Nat × Nat)}
    (B : BodyLoose p l y S cc maxL ret e s m args below meth c s₁) (h : (Cond.codeWith y bytes maxL' ret' hh).before args s = true) : c.exceptionTable.toList = tableOf hh := by
  obtain ⟨m9, meth9, c9, hn9, h1, h2, -, -, h6, -⟩ := Cond.codeWith_spec h
  cases Option.some.inj (hn9.symm.trans B.named)
  cases Option.some.inj (h1.symm.trans B.method)
  cases Option.some.inj (h2.symm.trans (Stand.of_body B).code)
  rw [← h6, table_eq]
end Bodies
end VXA
/-! ===== END ===== -/
/-! ===== BEGIN a static call of a method with an exception table ===== -/
section VXS
variable {p : Program} {l : Launch} {e : Env} {R : Room} {s : State} {m : MethodId} {args : Array Value} {below : List Frame} {meth : Method} {c : Code} {T : State} {H : Heap} {locs : List Loc} {cells slots : Nat}
abbrev vx_CSW (R : Room) (s : State) (args : Array Value) (own : String) (index : Nat) (y : MethodName) (bytes : ByteArray) (maxL : Nat) (ret : Option FieldType) (hh : List (Nat × Nat × Nat × Nat)) (ws : List Cond) (rm : Room) (mc ms n : Nat) : Prop :=
  (rm.cells = mc ∧ rm.slots = ms ∧ rm.frames + 1 ≤ R.frames ∧ 8 + (maxL + 11) + rm.locals ≤ R.locals ∧ (∀ w ∈ ws, ∀ (a' : Array Value) (U : State), s.WarmedH U.vm → w.before a' U = true) ∧ Cond.codeWith y bytes maxL ret hh ∈ ws) ∧
  (Cond.codeWith y bytes maxL ret hh).before args s = true ∧ (Cond.initialized y.cls).before args s = true ∧ (y.cls ≠ "java/lang/invoke/MethodHandle" ∧ y.cls ≠ "java/lang/invoke/VarHandle") ∧
  (∀ sig, parseMethodDescriptor y.desc = some sig → n = sig.parameters.length) ∧ (Cond.methodLink own index y).before args s = true ∧ (Cond.static y).before args s = true
theorem vx_cwSW {own : String} {index maxL mc ms : Nat} {y : MethodName} {bytes : ByteArray} {ret : Option FieldType} {hh : List (Nat × Nat × Nat × Nat)} {Ts ws ws' : List Cond} {rm : Room} (n : Nat) (ht : ∀ w ∈ Ts, w.before args s = true) (hT : GoodIn Ts (va_wsS own index y ws)) (hw : ws = Cond.codeWith y bytes maxL ret hh :: ws') (hrc : rm.cells = mc) (hrs : rm.slots = ms)
    (hd : y.cls ≠ "java/lang/invoke/MethodHandle" ∧ y.cls ≠ "java/lang/invoke/VarHandle" ∧ (parseMethodDescriptor y.desc).map (fun d => d.parameters.length) = some n) (hR : rm.frames + 1 ≤ R.frames ∧ 8 + (maxL + 11) + rm.locals ≤ R.locals) :
    vx_CSW R s args own index y bytes maxL ret hh ws rm mc ms n := by
  have ok : ∀ w ∈ va_wsS own index y ws, w.before args s = true := fun w h => ht w (hT w h).1
  have hG : GoodIn Ts ws := fun w h => hT w (by unfold va_wsS; exact List.mem_append_right _ h)
  have hc : Cond.codeWith y bytes maxL ret hh ∈ ws := by rw [hw]; exact List.mem_cons_self
  refine ⟨⟨hrc, hrs, hR.1, hR.2, pay_in ht hG, hc⟩, ht _ (hG _ hc).1, ok _ (by simp [va_wsS]), ⟨hd.1, hd.2.1⟩, fun sig h => ?_, ok _ (by simp [va_wsS]), ok _ (by simp [va_wsS])⟩
  have h2 := hd.2.2
  rw [h] at h2
  exact (Option.some.inj h2).symm
theorem vx_callSW (X : Stand p l e R s m args below meth c T locs cells slots) (hexec : p.tables.exec = Jvm.exec) {own : String} {index : Nat} {y : MethodName} {bytes : ByteArray} {maxL : Nat} {ret : Option FieldType} {hh : List (Nat × Nat × Nat × Nat)}
    (hown : s.vm.findClass own = some m.cls) (hlink : (Cond.methodLink own index y).before args s = true) (hstat : (Cond.static y).before args s = true) (hinit : (Cond.initialized y.cls).before args s = true)
    (hcode : (Cond.codeWith y bytes maxL ret hh).before args s = true) (hy : y.cls ≠ "java/lang/invoke/MethodHandle" ∧ y.cls ≠ "java/lang/invoke/VarHandle")
    {W9 : Nat} {Pre : Pt → Array Value → Prop} {Post : Pt → Array Value → Option Value → Pt → Prop} (hK : Back l R p e below s args y 3 W9 Pre Post)
    {g : JFrame} (hg : g.method = m) (hsize : g.locals.size = c.maxLocals) {argsL rest : List Value} (hlen : ∀ sig, parseMethodDescriptor y.desc = some sig → argsL.length = sig.parameters.length)
    (hstack : g.stack = argsL.reverse ++ rest) (hW : 2 * g.monitorRoom + (rest.map fun v => v.category).sum ≤ W9) (hdg : decode c.code g.pc = .ok (.invokestatic index, 3))
    (hpre : ∀ vm₁, s.WarmedH vm₁ → Pre ⟨T.setVm vm₁, locs, cells, slots⟩ argsL.toArray) :
    ∃ (v : Option Value) (vm₁ : Vm) (B : Pt), s.WarmedH vm₁ ∧ Stand p l e R s m args below meth c B.U B.locs B.cells B.slots ∧ Post ⟨T.setVm vm₁, locs, cells, slots⟩ argsL.toArray v B ∧
      ∀ target, Steps p.tables e below (B.U.setTop { g with pc := g.pc + 3, stack := v.toList ++ rest }) target → Steps p.tables e below (T.setTop g) target := by
  obtain ⟨mk, methM, cM, hnamed, hmethM, -, -, -, -, -, -, hsigM⟩ := Cond.codeWith_spec hcode
  have hstatic : methM.isStatic = true := Cond.static_spec hnamed hmethM hstat
  obtain ⟨kP, hkP, -⟩ := className_of_methodNamed hnamed
  have hinitP : kP.init = .initialized := Cond.initialized_spec (findClass_of_methodNamed hnamed) hkP hinit
  obtain ⟨vm₁, X₁, hstep₁⟩ := X.invokestatic hexec hown hlink hnamed hmethM hstatic hkP hinitP hy (g := g) hg (argsL := argsL) (rest := rest) (hlen _ hsigM) hstack hdg
  obtain ⟨v, B, X', hpost, hsteps⟩ := hK m meth c ⟨T.setVm vm₁, locs, cells, slots⟩ { g with stack := rest } (.invokestatic index) mk argsL.toArray X₁ hg hsize hdg hW (X₁.named hnamed) (hpre vm₁ X₁.warmed)
  exact ⟨v, vm₁, B, X₁.warmed, X', hpost, fun target h => hstep₁ _ fun acts => by rw [doInvoke_state]; exact hsteps.trans h⟩
theorem vx_runSW {y : MethodName} {bytes cc : ByteArray} {maxL nL mc ms n index : Nat} {ret : Option FieldType} {hh : List (Nat × Nat × Nat × Nat)} {ws : List Cond} {rm : Room} {Pc : Array Value → State → Prop} {Qc : Array Value → State → Outcome → State → Prop} {free : Addr → Prop} {Ts : List Cond} {own : String} {As rest : List Value} {g : JFrame}
    (S : CallFix p m c cc nL s args Ts own) (hM : Met l y ws rm Pc Qc mc ms free) (cw : vx_CSW R s args own index y bytes maxL ret hh ws rm mc ms n) (hp : PreS s H Pc As)
    (hg : g.method = m) (hn : As.length = n) (hsize : g.locals.size = nL) (hstack : g.stack = As.reverse ++ rest) (hW : 2 * g.monitorRoom + (rest.map fun v => v.category).sum ≤ 8) (hdg : decode cc g.pc = .ok (.invokestatic index, 3)) (hf : cells + mc ≤ R.cells ∧ slots + ms ≤ R.slots) :
    va_Run p l e R s m args below meth c H locs cells slots mc ms g rest (Qc As.toArray) (free) := by
  obtain ⟨⟨hrc, hrs, hfr, hlo, hws, hcw⟩, hcode, hini, hy, hlen, hl, hstt⟩ := cw
  have hK : Back l R p e below s args y 3 8 (PreOf R mc ms Pc) (PostOf Qc mc ms free) := va_backW (hh := hh) (bytes := bytes) (maxL := maxL) (ret := ret) hM hp.1 hrc hrs hfr hlo hws hcw (fun a' U hW => word_at hW (Or.inl (by first | rfl | simp [Cond.onTables, Cond.keeps, Cond.steady])) hini)
  obtain ⟨hx, hb, hml, ho, -⟩ := S
  intro T hT X
  obtain ⟨v, vm₁, ⟨U', l2, c2, s2⟩, hW₁, X', ⟨g', mk, t, L, e1, e2, hq, h1, hL, h2, h3⟩, st⟩ := vx_callSW X hx (hh := hh) (bytes := bytes) (maxL := maxL) (ret := ret) ho hl hstt hini hcode hy hK hg (hsize.trans hml.symm) (argsL := As) (rest := rest) (fun sig h => hn.trans (hlen sig h)) hstack hW (by rw [hb]; exact hdg)
    (fun vm₁ hW₁ => ⟨hf.1, hf.2, hp.2 (T.setVm vm₁) hT hW₁⟩)
  dsimp only [Pt.U, Pt.locs, Pt.cells, Pt.slots] at X' e1 e2 h1 h2 h3 st
  subst h1; subst h2; subst h3
  exact ⟨v, (T.setVm vm₁).calling g' mk As.toArray, t, U', L, hT, X', hL, e1, e2, hq, st⟩
/-- not caught here, past rows that name other classes: it goes on to the caller -/
theorem vx_outP {p : Program} {l : Launch} {e : Env} {R : Room} {s : State} {m : MethodId} {args : Array Value} {below : List Frame} {meth : Method} {c : Code} {H : Heap} {locs : List Loc} {cells slots : Nat} {free : Addr → Prop} {ls : Array Slot} {rest : List Value} {Qc : Array Value → State → Outcome → State → Prop} {XC : String → State → State → Prop}
    {pc : Nat} {own E : String} {ce : Cell} {q : Addr} {mc ms : Nat} (hown : s.vm.findClass own = some m.cls) (hlocks : meth.locks = false)
    (hpass : ∀ z ∈ c.exceptionTable.toList, covers z pc = false ∨ (z.catchType ≠ 0 ∧ ∃ nm : String, (Cond.classLink own z.catchType nm).before args s = true ∧ va_Nc E nm s)) (hcell : H[q]? = some ce) (hv : ce.vm = .none) (hcl : s.vm.findClass E = some ce.cls)
    (hx : ∀ t : State, t.heap = H → s.vm.Alike t.vm → XC E s t) (hf : ∀ z ∈ locs, free z.base) (hc : cells ≤ mc) (hs : slots ≤ ms) :
    vx_W p l e R s m args below meth c H locs cells slots (vx_MQ below Qc XC args s mc ms free) (F0 m pc ls rest) q := by
  intro T hT X
  have hpl : e.platform.magicAccessors = ({} : Platform).magicAccessors := by rw [X.admits.platform]
  obtain ⟨vm', hW', X', st⟩ := X.outThrough hlocks q (g := F0 m pc ls rest) rfl rfl rfl (cell := ce) (by rw [hT]; exact hcell) (by rw [hv]; rfl)
    (by obtain ⟨k9, h9, -⟩ := Vm.findClass_spec hcl; exact ⟨k9, h9⟩) (fun z hz => by
      rcases hpass z hz with h | ⟨hz0, nm, hl1, hn1⟩
      · exact Or.inl h
      · obtain ⟨c6, hc6, hcl6⟩ := Cond.classLink_spec hown hl1 e.platform hpl
        obtain ⟨a8, b8, h1, h2, h3⟩ := hn1
        cases Option.some.inj (h1.symm.trans hcl)
        cases Option.some.inj (h2.symm.trans hc6)
        exact Or.inr ⟨hz0, _, hcl6, h3⟩)
  obtain ⟨g₀, hfr⟩ := X'.frames_eq
  have hcell9 : ((T.setVm vm').setFrames (.throwing q :: below)).heap[q]? = some ce := by
    show T.heap[q]? = some ce
    rw [hT]; exact hcell
  have hend : Ended ((T.setVm vm').setFrames (.throwing q :: below)) below (.threw q) := State.frames_setFrames _ (State.cur_lt_of_frames hfr)
  refine ⟨(T.setVm vm').setFrames (.throwing q :: below), ?_, .threw q, X'.here.running, hend, Or.inr ⟨q, rfl, E, ce, locs, hx _ hT (X'.ends _).1.alike, hcell9, hv, hcl, (X'.ends _).1, (X'.ends _).2.mono hc hs, hf⟩⟩
  rw [X.pushThrowing_eq]
  exact st
/-- a thing of a world lies in the heap -/
theorem vx_lt {D : va_G} {cl : List vw_C} {ws : va_W} {H1 : Heap} (h : va_P D cl ws H1) {k : Nat} {q : Nat × va_E} (hk : ws[k]? = some q) : q.1 < H1.size := (h k q hk).lt
end VXS
/-! ===== END ===== -/
/-! ===== BEGIN methods with a table of their own: called by a name, returning or throwing ===== -/
section VXH
/-! vx_backW, vx_callVX, vx_callSX, vx_callVW, vx_runVW, vx_runVX, vx_runSX, vx_ofWH follow the same proofs as their sisters above (Free/Laws.lean, Shelf42/LK1.lean); vx_outP calls Shelf42/NT130.lean (outThrough). -/
section
variable {l : Launch} {R : Room} {p : Program} {e : Env} {below : List Frame} {s : State} {sargs : Array Value} {y : MethodName} {len W9 : Nat}
theorem vx_backW {ws : List Cond} {rm : Room} {Pc : Array Value → State → Prop} {Qc : Array Value → State → Outcome → State → Prop} {XC : String → State → State → Prop} {mc ms : Nat} {free : Addr → Prop} {bytes : ByteArray} {maxL : Nat} {ret : Option FieldType} {hh : List (Nat × Nat × Nat × Nat)}
    (hM : vx_Met l y ws rm Pc Qc XC mc ms free) (hblind : FrameBlind Pc) (hrc : rm.cells = mc) (hrs : rm.slots = ms)
    (hframes : rm.frames + 1 ≤ R.frames) (hlocals : W9 + (maxL + 11) + rm.locals ≤ R.locals)
    (hws : ∀ w ∈ ws, ∀ a' U, s.WarmedH U.vm → w.before a' U = true) (hcode : Cond.codeWith y bytes maxL ret hh ∈ ws) (hinit : ∀ a' U, s.WarmedH U.vm → (Cond.initialized y.cls).before a' U = true) :
    vx_Back l R p e below s sargs y len W9 (PreOf R mc ms Pc) (PostOf Qc mc ms free) (vx_Post XC mc ms free) := by
  intro m meth c A g ig mk a X hg hsize hdg hW hn hp
  have h1 : (headSpec ws rm).pre.before a A.U = true := atoms_intro fun w hw => hws w hw _ _ X.warmed
  have h2 : (Cond.codeWith y bytes maxL ret hh).before a A.U = true := hws _ hcode _ _ X.warmed
  have h3 : (Cond.initialized y.cls).before a A.U = true := hinit _ _ X.warmed
  have h4 : A.cells + (headSpec ws rm).room.cells ≤ R.cells := by rw [show (headSpec ws rm).room.cells = mc from hrc]; exact hp.1
  have h5 : A.slots + (headSpec ws rm).room.slots ≤ R.slots := by rw [show (headSpec ws rm).room.slots = ms from hrs]; exact hp.2.1
  have hPc : Pc a (A.U.calling g mk a) := hblind _ _ _ _ hp.2.2
  obtain ⟨U, Ls, c0, s0⟩ := A
  dsimp only [Pt.U, Pt.locs, Pt.cells, Pt.slots] at h1 h2 h3 h4 h5 X hn hPc ⊢
  obtain ⟨m9, methY, cY, hn9, hmY, hcY, -, hlY, -⟩ := Cond.codeWith_spec h2
  cases Option.some.inj (hn9.symm.trans hn)
  obtain ⟨kY, hkY, -⟩ := className_of_methodNamed hn
  have hinitY : kY.init = .initialized := Cond.initialized_spec (findClass_of_methodNamed hn) hkY h3
  have h : At U g.method c below := by rw [hg]; exact X.here
  have hlocals9 : W9 + (maxL + 11) + (headSpec ws rm).room.locals ≤ R.locals := hlocals
  have happ : (headSpec ws rm).appliesLoose y e.platform (U.calling g mk a) = true :=
    Spec.appliesLoose_calling (g := g) h hdg hn hkY hinitY
      (X.room_calling (g := g) (R' := (headSpec ws rm).room) hsize hmY hcY hframes (by rw [hlY]; omega) h4 h5) h1
  obtain ⟨mid, hmid⟩ := h.above
  have hfr : (U.setTop g).frames = (.java g :: mid) ++ below := by rw [State.frames_setTop' g h.top, hmid]; rfl
  obtain ⟨o, s₂, hsteps, -, hend, hq⟩ := Steps.callFree hM p X.admits X.cas X.clock (acts := []) hfr happ hPc trivial
  have hq' : vx_Q Qc XC mc ms free a (U.calling g mk a) o s₂ := hq
  rw [State.frames_setTop' g h.top] at hend
  obtain ⟨g₀, hg0⟩ := Option.isSome_iff_exists.mp h.top
  obtain ⟨r, hr⟩ := State.topJava?_eq_some.mp hg0
  have hr' : (({ U with heap := s₂.heap, slotsUsed := s₂.slotsUsed } : State).setVm s₂.vm).frames = .java g₀ :: r := hr
  rcases hq' with ⟨hqc, L, hfe, hL⟩ | ⟨q, rfl, E, ce, L, hx, hce, hcv, hcl, hW₂, hsm, hL⟩
  · obtain ⟨⟨v, rfl⟩, hW₂, e2, q2, q3, q4, q5, q6⟩ := id hfe
    have e3 : s₂ = ({ (U.calling g mk a).setFrames s₂.frames with heap := s₂.heap, slotsUsed := s₂.slotsUsed } : State).setVm s₂.vm := by
      have : s₂ = ({ s₂ with vm := (U.calling g mk a).vm } : State).setVm s₂.vm := rfl
      rw [e2] at this
      exact this
    obtain ⟨c₂, i₂, len₂, hc₂, hd₂, hf₂⟩ := hend
    have hW' : U.WarmedH s₂.vm := hW₂
    have hcc : c₂ = c := by
      have h1 : s₂.code? g.method = U.code? g.method := by
        rw [State.code?_eq, State.code?_eq, hW'.alike.method?]
      exact Option.some.inj (hc₂.symm.trans (h1.trans h.code))
    subst hcc
    have hlen : len₂ = len := by rw [hdg] at hd₂; cases hd₂; rfl
    subst hlen
    have hs₂ : s₂ = (({ U with heap := s₂.heap, slotsUsed := s₂.slotsUsed } : State).setVm s₂.vm).setTop { g with pc := g.pc + len₂, stack := v.toList ++ g.stack } := by
      refine e3.trans ?_
      rw [hf₂, State.calling_eq h.top, State.setFrames_setFrames, State.setTop_of_frames _ hr', hr]
      rfl
    have hsame : U.sameButNew ({ U with heap := s₂.heap, slotsUsed := s₂.slotsUsed } : State) L mc ms := by
      refine ⟨?_, q2, q3, q4, q5, q6⟩
      obtain ⟨t, ht, -⟩ := State.frames_cons hr
      show ({ U with heap := s₂.heap, slotsUsed := s₂.slotsUsed } : State) = { U.setFrames U.frames with heap := s₂.heap, slotsUsed := s₂.slotsUsed }
      rw [State.setFrames_self ht]
    subst hg
    refine Or.inl ⟨v, ⟨(({ U with heap := s₂.heap, slotsUsed := s₂.slotsUsed } : State).setVm s₂.vm), Ls ++ L, c0 + mc, s0 + ms⟩,
      ⟨X.admits, X.cas, X.clock, X.frames, X.room, X.hears, X.method, X.code, (X.here.setHeapUsed s₂.heap s₂.slotsUsed).setVm hW'.alike, X.tail, State.WarmedH.trans X.warmed hW', X.limits, X.bytes, X.same.trans (hsame.setVm s.vm)⟩,
      ⟨g, mk, s₂, L, rfl, rfl, hqc, rfl, hL, rfl, rfl⟩, ?_⟩
    show Steps p.tables e below _ ((({ U with heap := s₂.heap, slotsUsed := s₂.slotsUsed } : State).setVm s₂.vm).setTop { g with pc := g.pc + len₂, stack := v.toList ++ g.stack })
    rw [← hs₂]
    exact hsteps
  · obtain ⟨e2, q2, q3, q4, q5, q6⟩ := id hsm
    have e3 : s₂ = ({ (U.calling g mk a).setFrames s₂.frames with heap := s₂.heap, slotsUsed := s₂.slotsUsed } : State).setVm s₂.vm := by
      have : s₂ = ({ s₂ with vm := (U.calling g mk a).vm } : State).setVm s₂.vm := rfl
      rw [e2] at this
      exact this
    have hf₂ : s₂.frames = .throwing q :: .java g :: U.frames.tail := hend
    have hW' : U.WarmedH s₂.vm := hW₂
    have hs₂ : s₂ = ((({ U with heap := s₂.heap, slotsUsed := s₂.slotsUsed } : State).setVm s₂.vm).setTop g).pushFrame (.throwing q) := by
      refine e3.trans ?_
      rw [hf₂, State.calling_eq h.top, State.setFrames_setFrames, State.pushFrame, State.frames_setTop _ hr', State.setTop_of_frames _ hr', State.setFrames_setFrames, hr]
      rfl
    have hsame : U.sameButNew ({ U with heap := s₂.heap, slotsUsed := s₂.slotsUsed } : State) L mc ms := by
      refine ⟨?_, q2, q3, q4, q5, q6⟩
      obtain ⟨t, ht, -⟩ := State.frames_cons hr
      show ({ U with heap := s₂.heap, slotsUsed := s₂.slotsUsed } : State) = { U.setFrames U.frames with heap := s₂.heap, slotsUsed := s₂.slotsUsed }
      rw [State.setFrames_self ht]
    subst hg
    refine Or.inr ⟨q, ⟨(({ U with heap := s₂.heap, slotsUsed := s₂.slotsUsed } : State).setVm s₂.vm), Ls ++ L, c0 + mc, s0 + ms⟩,
      ⟨X.admits, X.cas, X.clock, X.frames, X.room, X.hears, X.method, X.code, (X.here.setHeapUsed s₂.heap s₂.slotsUsed).setVm hW'.alike, X.tail, State.WarmedH.trans X.warmed hW', X.limits, X.bytes, X.same.trans (hsame.setVm s.vm)⟩,
      ⟨g, mk, s₂, L, E, ce, rfl, rfl, hx, hce, hcv, hcl, rfl, hL, rfl, rfl⟩, ?_⟩
    show Steps p.tables e below _ (((({ U with heap := s₂.heap, slotsUsed := s₂.slotsUsed } : State).setVm s₂.vm).setTop g).pushFrame (.throwing q))
    rw [← hs₂]
    exact hsteps
end
variable {p : Program} {l : Launch} {e : Env} {R : Room} {s : State} {m : MethodId} {args : Array Value} {below : List Frame} {meth : Method} {c : Code} {T : State} {H : Heap} {locs : List Loc} {cells slots : Nat}
theorem vx_callVX (X : Stand p l e R s m args below meth c T locs cells slots) (hexec : p.tables.exec = Jvm.exec) {own C : String} {index : Nat} {y : MethodName} {bytes : ByteArray} {maxL : Nat} {ret : Option FieldType} {hh : List (Nat × Nat × Nat × Nat)}
    (hown : s.vm.findClass own = some m.cls) (hlink : (Cond.methodLink own index y).before args s = true) (hinst : (Cond.instanceMethod y).before args s = true) (hsel : (Cond.selects C y y).before args s = true)
    (hcode : (Cond.codeWith y bytes maxL ret hh).before args s = true) (hy : y.cls ≠ "java/lang/invoke/MethodHandle" ∧ y.cls ≠ "java/lang/invoke/VarHandle")
    {W9 : Nat} {Pre : Pt → Array Value → Prop} {Post : Pt → Array Value → Option Value → Pt → Prop} {PostX : Pt → Array Value → Addr → Pt → Prop} (hK : vx_Back l R p e below s args y 3 W9 Pre Post PostX)
    {b : Addr} {cellB : Cell} (hcell : T.heap[b]? = some cellB) (hobj : cellB.vm.isStatics = false) (hcls : s.vm.findClass C = some cellB.cls)
    {g : JFrame} (hg : g.method = m) (hsize : g.locals.size = c.maxLocals) {argsL rest : List Value} (hlen : ∀ sig, parseMethodDescriptor y.desc = some sig → argsL.length = sig.parameters.length)
    (hstack : g.stack = argsL.reverse ++ .ref b :: rest) (hW : 2 * g.monitorRoom + (rest.map fun v => v.category).sum ≤ W9) (hdg : decode c.code g.pc = .ok (.invokevirtual index, 3))
    (hpre : ∀ vm₁, s.WarmedH vm₁ → Pre ⟨T.setVm vm₁, locs, cells, slots⟩ (Value.ref b :: argsL).toArray) :
    (∃ (v : Option Value) (vm₁ : Vm) (B : Pt), s.WarmedH vm₁ ∧ Stand p l e R s m args below meth c B.U B.locs B.cells B.slots ∧ Post ⟨T.setVm vm₁, locs, cells, slots⟩ (Value.ref b :: argsL).toArray v B ∧
      ∀ target, Steps p.tables e below (B.U.setTop { g with pc := g.pc + 3, stack := v.toList ++ rest }) target → Steps p.tables e below (T.setTop g) target) ∨
    (∃ (q : Addr) (vm₁ : Vm) (B : Pt), s.WarmedH vm₁ ∧ Stand p l e R s m args below meth c B.U B.locs B.cells B.slots ∧ PostX ⟨T.setVm vm₁, locs, cells, slots⟩ (Value.ref b :: argsL).toArray q B ∧
      Steps p.tables e below (T.setTop g) ((B.U.setTop { g with stack := rest }).pushFrame (.throwing q))) := by
  obtain ⟨mk, methM, hnamed, hmethM, hstM, habM⟩ := Cond.instanceMethod_spec hinst
  obtain ⟨m8, methM', cM, hn8, hmethM', -, -, -, -, -, -, hsigM⟩ := Cond.codeWith_spec hcode
  cases Option.some.inj (hn8.symm.trans hnamed)
  cases hmethM.symm.trans hmethM'
  obtain ⟨c2, r2, m2, q1, q2, q3, q4, kP, hkP, hkPi⟩ := Cond.selects_spec hsel
  cases hcls.symm.trans q1
  cases (State.methodFound?_of_named hnamed hy).symm.trans q2
  cases hnamed.symm.trans q3
  have hselP : selectMethod e.platform s.vm cellB.cls mk = .method mk := by rw [Launch.admits_selectMethod X.admits]; exact q4
  obtain ⟨vm₁, X₁, hstep₁⟩ := X.invokevirtual hexec hown hlink hnamed hmethM hstM hkP hkPi hy (a := b) (cell := cellB) hcell
    (fun z h => by rw [h] at hobj; cases hobj) hselP hmethM habM hkP hkPi (g := g) hg (argsL := argsL) (rest := rest) (hlen _ hsigM) hstack hdg
  rcases hK m meth c ⟨T.setVm vm₁, locs, cells, slots⟩ { g with stack := rest } (.invokevirtual index) mk (Value.ref b :: argsL).toArray X₁ hg hsize hdg hW (X₁.named hnamed) (hpre vm₁ X₁.warmed) with ⟨v, B, X', hpost, hsteps⟩ | ⟨q, B, X', hpost, hsteps⟩
  · exact Or.inl ⟨v, vm₁, B, X₁.warmed, X', hpost, fun target h => hstep₁ _ fun acts => by rw [doInvoke_state]; exact hsteps.trans h⟩
  · exact Or.inr ⟨q, vm₁, B, X₁.warmed, X', hpost, hstep₁ _ fun acts => by rw [doInvoke_state]; exact hsteps⟩
theorem vx_callSX (X : Stand p l e R s m args below meth c T locs cells slots) (hexec : p.tables.exec = Jvm.exec) {own : String} {index : Nat} {y : MethodName} {bytes : ByteArray} {maxL : Nat} {ret : Option FieldType} {hh : List (Nat × Nat × Nat × Nat)}
    (hown : s.vm.findClass own = some m.cls) (hlink : (Cond.methodLink own index y).before args s = true) (hstat : (Cond.static y).before args s = true) (hinit : (Cond.initialized y.cls).before args s = true)
    (hcode : (Cond.codeWith y bytes maxL ret hh).before args s = true) (hy : y.cls ≠ "java/lang/invoke/MethodHandle" ∧ y.cls ≠ "java/lang/invoke/VarHandle")
    {W9 : Nat} {Pre : Pt → Array Value → Prop} {Post : Pt → Array Value → Option Value → Pt → Prop} {PostX : Pt → Array Value → Addr → Pt → Prop} (hK : vx_Back l R p e below s args y 3 W9 Pre Post PostX)
    {g : JFrame} (hg : g.method = m) (hsize : g.locals.size = c.maxLocals) {argsL rest : List Value} (hlen : ∀ sig, parseMethodDescriptor y.desc = some sig → argsL.length = sig.parameters.length)
    (hstack : g.stack = argsL.reverse ++ rest) (hW : 2 * g.monitorRoom + (rest.map fun v => v.category).sum ≤ W9) (hdg : decode c.code g.pc = .ok (.invokestatic index, 3))
    (hpre : ∀ vm₁, s.WarmedH vm₁ → Pre ⟨T.setVm vm₁, locs, cells, slots⟩ argsL.toArray) :
    (∃ (v : Option Value) (vm₁ : Vm) (B : Pt), s.WarmedH vm₁ ∧ Stand p l e R s m args below meth c B.U B.locs B.cells B.slots ∧ Post ⟨T.setVm vm₁, locs, cells, slots⟩ argsL.toArray v B ∧
      ∀ target, Steps p.tables e below (B.U.setTop { g with pc := g.pc + 3, stack := v.toList ++ rest }) target → Steps p.tables e below (T.setTop g) target) ∨
    (∃ (q : Addr) (vm₁ : Vm) (B : Pt), s.WarmedH vm₁ ∧ Stand p l e R s m args below meth c B.U B.locs B.cells B.slots ∧ PostX ⟨T.setVm vm₁, locs, cells, slots⟩ argsL.toArray q B ∧
      Steps p.tables e below (T.setTop g) ((B.U.setTop { g with stack := rest }).pushFrame (.throwing q))) := by
  obtain ⟨mk, methM, cM, hnamed, hmethM, -, -, -, -, -, -, hsigM⟩ := Cond.codeWith_spec hcode
  have hstatic : methM.isStatic = true := Cond.static_spec hnamed hmethM hstat
  obtain ⟨kP, hkP, -⟩ := className_of_methodNamed hnamed
  have hinitP : kP.init = .initialized := Cond.initialized_spec (findClass_of_methodNamed hnamed) hkP hinit
  obtain ⟨vm₁, X₁, hstep₁⟩ := X.invokestatic hexec hown hlink hnamed hmethM hstatic hkP hinitP hy (g := g) hg (argsL := argsL) (rest := rest) (hlen _ hsigM) hstack hdg
  rcases hK m meth c ⟨T.setVm vm₁, locs, cells, slots⟩ { g with stack := rest } (.invokestatic index) mk argsL.toArray X₁ hg hsize hdg hW (X₁.named hnamed) (hpre vm₁ X₁.warmed) with ⟨v, B, X', hpost, hsteps⟩ | ⟨q, B, X', hpost, hsteps⟩
  · exact Or.inl ⟨v, vm₁, B, X₁.warmed, X', hpost, fun target h => hstep₁ _ fun acts => by rw [doInvoke_state]; exact hsteps.trans h⟩
  · exact Or.inr ⟨q, vm₁, B, X₁.warmed, X', hpost, hstep₁ _ fun acts => by rw [doInvoke_state]; exact hsteps⟩
theorem vx_callVW (X : Stand p l e R s m args below meth c T locs cells slots) (hexec : p.tables.exec = Jvm.exec) {own C : String} {index : Nat} {y : MethodName} {bytes : ByteArray} {maxL : Nat} {ret : Option FieldType} {hh : List (Nat × Nat × Nat × Nat)}
    (hown : s.vm.findClass own = some m.cls) (hlink : (Cond.methodLink own index y).before args s = true) (hinst : (Cond.instanceMethod y).before args s = true) (hsel : (Cond.selects C y y).before args s = true)
    (hcode : (Cond.codeWith y bytes maxL ret hh).before args s = true) (hy : y.cls ≠ "java/lang/invoke/MethodHandle" ∧ y.cls ≠ "java/lang/invoke/VarHandle")
    {W9 : Nat} {Pre : Pt → Array Value → Prop} {Post : Pt → Array Value → Option Value → Pt → Prop} (hK : Back l R p e below s args y 3 W9 Pre Post)
    {b : Addr} {cellB : Cell} (hcell : T.heap[b]? = some cellB) (hobj : cellB.vm.isStatics = false) (hcls : s.vm.findClass C = some cellB.cls)
    {g : JFrame} (hg : g.method = m) (hsize : g.locals.size = c.maxLocals) {argsL rest : List Value} (hlen : ∀ sig, parseMethodDescriptor y.desc = some sig → argsL.length = sig.parameters.length)
    (hstack : g.stack = argsL.reverse ++ .ref b :: rest) (hW : 2 * g.monitorRoom + (rest.map fun v => v.category).sum ≤ W9) (hdg : decode c.code g.pc = .ok (.invokevirtual index, 3))
    (hpre : ∀ vm₁, s.WarmedH vm₁ → Pre ⟨T.setVm vm₁, locs, cells, slots⟩ (Value.ref b :: argsL).toArray) :
    ∃ (v : Option Value) (vm₁ : Vm) (B : Pt), s.WarmedH vm₁ ∧ Stand p l e R s m args below meth c B.U B.locs B.cells B.slots ∧ Post ⟨T.setVm vm₁, locs, cells, slots⟩ (Value.ref b :: argsL).toArray v B ∧
      ∀ target, Steps p.tables e below (B.U.setTop { g with pc := g.pc + 3, stack := v.toList ++ rest }) target → Steps p.tables e below (T.setTop g) target := by
  obtain ⟨mk, methM, hnamed, hmethM, hstM, habM⟩ := Cond.instanceMethod_spec hinst
  obtain ⟨m8, methM', cM, hn8, hmethM', -, -, -, -, -, -, hsigM⟩ := Cond.codeWith_spec hcode
  cases Option.some.inj (hn8.symm.trans hnamed)
  cases hmethM.symm.trans hmethM'
  obtain ⟨c2, r2, m2, q1, q2, q3, q4, kP, hkP, hkPi⟩ := Cond.selects_spec hsel
  cases hcls.symm.trans q1
  cases (State.methodFound?_of_named hnamed hy).symm.trans q2
  cases hnamed.symm.trans q3
  have hselP : selectMethod e.platform s.vm cellB.cls mk = .method mk := by rw [Launch.admits_selectMethod X.admits]; exact q4
  obtain ⟨vm₁, X₁, hstep₁⟩ := X.invokevirtual hexec hown hlink hnamed hmethM hstM hkP hkPi hy (a := b) (cell := cellB) hcell
    (fun z h => by rw [h] at hobj; cases hobj) hselP hmethM habM hkP hkPi (g := g) hg (argsL := argsL) (rest := rest) (hlen _ hsigM) hstack hdg
  obtain ⟨v, B, X', hpost, hsteps⟩ := hK m meth c ⟨T.setVm vm₁, locs, cells, slots⟩ { g with stack := rest } (.invokevirtual index) mk (Value.ref b :: argsL).toArray X₁ hg hsize hdg hW (X₁.named hnamed) (hpre vm₁ X₁.warmed)
  exact ⟨v, vm₁, B, X₁.warmed, X', hpost, fun target h => hstep₁ _ fun acts => by rw [doInvoke_state]; exact hsteps.trans h⟩
abbrev vx_CVW (R : Room) (s : State) (args : Array Value) (own C : String) (index : Nat) (y : MethodName) (bytes : ByteArray) (maxL : Nat) (ret : Option FieldType) (hh : List (Nat × Nat × Nat × Nat)) (ws : List Cond) (rm : Room) (mc ms n : Nat) : Prop :=
  (rm.cells = mc ∧ rm.slots = ms ∧ rm.frames + 1 ≤ R.frames ∧ 8 + (maxL + 11) + rm.locals ≤ R.locals ∧ (∀ w ∈ ws, ∀ (a' : Array Value) (U : State), s.WarmedH U.vm → w.before a' U = true) ∧ Cond.codeWith y bytes maxL ret hh ∈ ws) ∧
  (Cond.codeWith y bytes maxL ret hh).before args s = true ∧ (Cond.initialized y.cls).before args s = true ∧ (y.cls ≠ "java/lang/invoke/MethodHandle" ∧ y.cls ≠ "java/lang/invoke/VarHandle") ∧
  (∀ sig, parseMethodDescriptor y.desc = some sig → n = sig.parameters.length) ∧ (Cond.methodLink own index y).before args s = true ∧ (Cond.instanceMethod y).before args s = true ∧ (Cond.selects C y y).before args s = true
theorem vx_cwVW {own C : String} {index maxL mc ms : Nat} {y : MethodName} {bytes : ByteArray} {ret : Option FieldType} {hh : List (Nat × Nat × Nat × Nat)} {Ts ws ws' : List Cond} {rm : Room} (n : Nat) (ht : ∀ w ∈ Ts, w.before args s = true) (hT : GoodIn Ts (wsV own index C y ws)) (hw : ws = Cond.codeWith y bytes maxL ret hh :: ws') (hrc : rm.cells = mc) (hrs : rm.slots = ms)
    (hd : y.cls = C ∧ y.cls ≠ "java/lang/invoke/MethodHandle" ∧ y.cls ≠ "java/lang/invoke/VarHandle" ∧ (parseMethodDescriptor y.desc).map (fun d => d.parameters.length) = some n) (hR : rm.frames + 1 ≤ R.frames ∧ 8 + (maxL + 11) + rm.locals ≤ R.locals) :
    vx_CVW R s args own C index y bytes maxL ret hh ws rm mc ms n := by
  obtain ⟨hC, hd⟩ := hd
  subst hC
  have ok : ∀ w ∈ wsV own index y.cls y ws, w.before args s = true := fun w h => ht w (hT w h).1
  have hG : GoodIn Ts ws := fun w h => hT w (by unfold wsV; exact List.mem_append_right _ h)
  have hc : Cond.codeWith y bytes maxL ret hh ∈ ws := by rw [hw]; exact List.mem_cons_self
  refine ⟨⟨hrc, hrs, hR.1, hR.2, pay_in ht hG, hc⟩, ht _ (hG _ hc).1, ok _ (by simp [wsV]), ⟨hd.1, hd.2.1⟩, fun sig h => ?_, ok _ (by simp [wsV]), ok _ (by simp [wsV]), ok _ (by simp [wsV])⟩
  have h2 := hd.2.2
  rw [h] at h2
  exact (Option.some.inj h2).symm
theorem vx_runVW {y : MethodName} {bytes cc : ByteArray} {maxL nL mc ms n index : Nat} {ret : Option FieldType} {hh : List (Nat × Nat × Nat × Nat)} {ws : List Cond} {rm : Room} {Pc : Array Value → State → Prop} {Qc : Array Value → State → Outcome → State → Prop} {free : Addr → Prop} {Ts : List Cond} {own C : String} {b : Addr} {As rest : List Value} {g : JFrame}
    (S : CallFix p m c cc nL s args Ts own) (hM : Met l y ws rm Pc Qc mc ms free) (cw : vx_CVW R s args own C index y bytes maxL ret hh ws rm mc ms n) (hp : PreV s H C b Pc As)
    (hg : g.method = m) (hn : As.length = n) (hsize : g.locals.size = nL) (hstack : g.stack = As.reverse ++ .ref b :: rest) (hW : 2 * g.monitorRoom + (rest.map fun v => v.category).sum ≤ 8) (hdg : decode cc g.pc = .ok (.invokevirtual index, 3)) (hf : cells + mc ≤ R.cells ∧ slots + ms ≤ R.slots) :
    va_Run p l e R s m args below meth c H locs cells slots mc ms g rest (Qc (Value.ref b :: As).toArray) free := by
  obtain ⟨⟨hrc, hrs, hfr, hlo, hws, hcw⟩, hcode, hini, hy, hlen, hl, hin, hse⟩ := cw
  have hK : Back l R p e below s args y 3 8 (PreOf R mc ms Pc) (PostOf Qc mc ms free) := va_backW (hh := hh) (bytes := bytes) (maxL := maxL) (ret := ret) hM hp.1 hrc hrs hfr hlo hws hcw (fun a' U hW => word_at hW (Or.inl (by first | rfl | simp [Cond.onTables, Cond.keeps, Cond.steady])) hini)
  obtain ⟨hx, hb, hml, ho, -⟩ := S
  obtain ⟨-, ⟨cellB, hcB, hoB, hclB⟩, hPc⟩ := hp
  intro T hT X
  obtain ⟨v, vm₁, ⟨U', l2, c2, s2⟩, hW₁, X', ⟨g', mk, t, L, e1, e2, hq, h1, hL, h2, h3⟩, st⟩ := vx_callVW X hx (C := C) (hh := hh) (bytes := bytes) (maxL := maxL) (ret := ret) ho hl hin hse hcode hy hK (by rw [hT]; exact hcB) hoB hclB hg (hsize.trans hml.symm) (argsL := As) (rest := rest) (fun sig h => hn.trans (hlen sig h)) hstack hW (by rw [hb]; exact hdg)
    (fun vm₁ hW₁ => ⟨hf.1, hf.2, hPc (T.setVm vm₁) hT hW₁⟩)
  dsimp only [Pt.U, Pt.locs, Pt.cells, Pt.slots] at X' e1 e2 h1 h2 h3 st
  subst h1; subst h2; subst h3
  exact ⟨v, (T.setVm vm₁).calling g' mk (Value.ref b :: As).toArray, t, U', L, hT, X', hL, e1, e2, hq, st⟩
section
variable {y : MethodName} {bytes cc : ByteArray} {maxL nL mc ms n index : Nat} {ret : Option FieldType} {ws : List Cond} {rm : Room} {Pc : Array Value → State → Prop} {Qc : Array Value → State → Outcome → State → Prop} {XC : String → State → State → Prop} {free : Addr → Prop} {Ts : List Cond} {own C : String} {b : Addr} {As rest : List Value} {g : JFrame}
theorem vx_runVX {hh : List (Nat × Nat × Nat × Nat)} (S : CallFix p m c cc nL s args Ts own) (hM : vx_Met l y ws rm Pc Qc XC mc ms free) (cw : vx_CVW R s args own C index y bytes maxL ret hh ws rm mc ms n) (hp : PreV s H C b Pc As)
    (hg : g.method = m) (hn : As.length = n) (hsize : g.locals.size = nL) (hstack : g.stack = As.reverse ++ .ref b :: rest) (hW : 2 * g.monitorRoom + (rest.map fun v => v.category).sum ≤ 8) (hdg : decode cc g.pc = .ok (.invokevirtual index, 3)) (hf : cells + mc ≤ R.cells ∧ slots + ms ≤ R.slots) :
    vx_Run p l e R s m args below meth c H locs cells slots mc ms g rest (Qc (Value.ref b :: As).toArray) XC free := by
  obtain ⟨⟨hrc, hrs, hfr, hlo, hws, hcw⟩, hcode, hini, hy, hlen, hl, hin, hse⟩ := cw
  have hK : vx_Back l R p e below s args y 3 8 (PreOf R mc ms Pc) (PostOf Qc mc ms free) (vx_Post XC mc ms free) := vx_backW (hh := hh) (bytes := bytes) (maxL := maxL) (ret := ret) hM hp.1 hrc hrs hfr hlo hws hcw (fun a' U hW => word_at hW (Or.inl (by first | rfl | simp [Cond.onTables, Cond.keeps, Cond.steady])) hini)
  obtain ⟨hx, hb, hml, ho, -⟩ := S
  obtain ⟨-, ⟨cellB, hcB, hoB, hclB⟩, hPc⟩ := hp
  intro T hT X
  rcases vx_callVX X hx (C := C) (hh := hh) (bytes := bytes) (maxL := maxL) (ret := ret) ho hl hin hse hcode hy hK (by rw [hT]; exact hcB) hoB hclB hg (hsize.trans hml.symm) (argsL := As) (rest := rest) (fun sig h => hn.trans (hlen sig h)) hstack hW (by rw [hb]; exact hdg)
    (fun vm₁ hW₁ => ⟨hf.1, hf.2, hPc (T.setVm vm₁) hT hW₁⟩) with ⟨v, vm₁, ⟨U', l2, c2, s2⟩, hW₁, X', ⟨g', mk, t, L, e1, e2, hq, h1, hL, h2, h3⟩, st⟩ | ⟨q, vm₁, ⟨U', l2, c2, s2⟩, hW₁, X', ⟨g', mk, t, L, E, ce, e1, e2, hq, hce, hcv, hcl, h1, hL, h2, h3⟩, st⟩
  · dsimp only [Pt.U, Pt.locs, Pt.cells, Pt.slots] at X' e1 e2 h1 h2 h3 st
    subst h1; subst h2; subst h3
    exact Or.inl ⟨v, (T.setVm vm₁).calling g' mk (Value.ref b :: As).toArray, t, U', L, hT, X', hL, e1, e2, hq, st⟩
  · dsimp only [Pt.U, Pt.locs, Pt.cells, Pt.slots] at X' e1 e2 h1 h2 h3 st hcl
    subst h1; subst h2; subst h3
    exact Or.inr ⟨q, (T.setVm vm₁).calling g' mk (Value.ref b :: As).toArray, t, U', L, E, ce, hT, X', hL, e1, e2, hq, hce, hcv, vx_cls hW₁ hcl, st⟩
theorem vx_runSX {hh : List (Nat × Nat × Nat × Nat)} (S : CallFix p m c cc nL s args Ts own) (hM : vx_Met l y ws rm Pc Qc XC mc ms free) (cw : vx_CSW R s args own index y bytes maxL ret hh ws rm mc ms n) (hp : PreS s H Pc As)
    (hg : g.method = m) (hn : As.length = n) (hsize : g.locals.size = nL) (hstack : g.stack = As.reverse ++ rest) (hW : 2 * g.monitorRoom + (rest.map fun v => v.category).sum ≤ 8) (hdg : decode cc g.pc = .ok (.invokestatic index, 3)) (hf : cells + mc ≤ R.cells ∧ slots + ms ≤ R.slots) :
    vx_Run p l e R s m args below meth c H locs cells slots mc ms g rest (Qc As.toArray) XC free := by
  obtain ⟨⟨hrc, hrs, hfr, hlo, hws, hcw⟩, hcode, hini, hy, hlen, hl, hstt⟩ := cw
  have hK : vx_Back l R p e below s args y 3 8 (PreOf R mc ms Pc) (PostOf Qc mc ms free) (vx_Post XC mc ms free) := vx_backW (hh := hh) (bytes := bytes) (maxL := maxL) (ret := ret) hM hp.1 hrc hrs hfr hlo hws hcw (fun a' U hW => word_at hW (Or.inl (by first | rfl | simp [Cond.onTables, Cond.keeps, Cond.steady])) hini)
  obtain ⟨hx, hb, hml, ho, -⟩ := S
  intro T hT X
  rcases vx_callSX X hx (hh := hh) (bytes := bytes) (maxL := maxL) (ret := ret) ho hl hstt hini hcode hy hK hg (hsize.trans hml.symm) (argsL := As) (rest := rest) (fun sig h => hn.trans (hlen sig h)) hstack hW (by rw [hb]; exact hdg)
    (fun vm₁ hW₁ => ⟨hf.1, hf.2, hp.2 (T.setVm vm₁) hT hW₁⟩) with ⟨v, vm₁, ⟨U', l2, c2, s2⟩, hW₁, X', ⟨g', mk, t, L, e1, e2, hq, h1, hL, h2, h3⟩, st⟩ | ⟨q, vm₁, ⟨U', l2, c2, s2⟩, hW₁, X', ⟨g', mk, t, L, E, ce, e1, e2, hq, hce, hcv, hcl, h1, hL, h2, h3⟩, st⟩
  · dsimp only [Pt.U, Pt.locs, Pt.cells, Pt.slots] at X' e1 e2 h1 h2 h3 st
    subst h1; subst h2; subst h3
    exact Or.inl ⟨v, (T.setVm vm₁).calling g' mk As.toArray, t, U', L, hT, X', hL, e1, e2, hq, st⟩
  · dsimp only [Pt.U, Pt.locs, Pt.cells, Pt.slots] at X' e1 e2 h1 h2 h3 st hcl
    subst h1; subst h2; subst h3
    exact Or.inr ⟨q, (T.setVm vm₁).calling g' mk As.toArray, t, U', L, E, ce, hT, X', hL, e1, e2, hq, hce, hcv, vx_cls hW₁ hcl, st⟩
end
end VXH
theorem vx_ofWH {l : Launch} {y : MethodName} {ws ws' : List Cond} {rm : Room} {Pc : Array Value → State → Prop} {Qc : Array Value → State → Outcome → State → Prop} {XC : String → State → State → Prop} {mc ms : Nat} {free : Addr → Prop} {cc : ByteArray} {maxL : Nat} {ret : Option FieldType} {hh : List (Nat × Nat × Nat × Nat)}
    (hy : plainName y.cls = true) (hw : ws = Cond.codeWith y cc maxL ret hh :: ws')
    (body : ∀ p e s m args below meth c s₁, BodyLoose p l y (headSpec ws rm) cc maxL ret e s m args below meth c s₁ → c.maxLocals = maxL → Pc args s →
      W p l e (headSpec ws rm).room s m args below meth c s.heap [] 0 0 (vx_MQ below Qc XC args s mc ms free) (entryFrame m args maxL)) : vx_Met l y ws rm Pc Qc XC mc ms free := by
  refine MetFree.of_bodyS (code := cc) (maxLocals := maxL) (ret := ret) hy ?_ ?_
  · intro args s m h hn
    obtain ⟨m9, meth, c, hn9, h1, h2, h3, h4, -, h5, h6, -⟩ := Cond.codeWith_spec (atoms_spec (ws := ws) h _ (by rw [hw]; exact List.mem_cons_self))
    cases hn.symm.trans hn9
    exact ⟨meth, c, h1, h2, h3, h4, h5, h6⟩
  · intro p e s m args below meth c s₁ B hml hP _
    have hh0 : s₁.heap = s.heap := by rw [B.state]; rfl
    obtain ⟨t, a1, o, b1, b2, b3⟩ := body p e s m args below meth c s₁ B hml hP s₁ hh0 (Stand.of_body B)
    exact ⟨t, o, a1, b1, b2, b3⟩
/-! ===== END ===== -/
end
section
def RX0 : String := "CutStore$Buffer"
def TX0 : u_T := fun k => match k with
  | 0 => ("CutStore$Buffer", "codes", "[I", true)
  | _ => ("CutStore$Buffer", "length", "I", false)
def tyX0 : Nat → FieldType := fun k => match k with
  | 0 => .array .int
  | _ => .int
abbrev wsX00 : List Cond := u_ws RX0 TX0 2
theorem nmX0 : ∀ a, a < 2 → ∀ b, b < 2 → a ≠ b → (TX0 a).2.1 ≠ (TX0 b).2.1 := by decide +kernel
theorem tyX0_ok : ∀ k, k < 2 → parseFieldDescriptor (TX0 k).2.2.1 = some (tyX0 k) := by decide +kernel
abbrev cX0_init : ByteArray := prog_2_method_1_code
def yX0_init : MethodName := ⟨RX0, "<init>", "()V"⟩
abbrev cX0_clear : ByteArray := prog_2_method_2_code
def yX0_clear : MethodName := ⟨RX0, "clear", "()V"⟩
abbrev cX0_add : ByteArray := prog_2_method_3_code
def yX0_add : MethodName := ⟨RX0, "add", "(I)V"⟩
abbrev cX0_isLetter : ByteArray := prog_2_method_4_code
def yX0_isLetter : MethodName := ⟨RX0, "isLetter", "(I)Z"⟩
abbrev cX0_signsAddedAt : ByteArray := prog_2_method_5_code
def yX0_signsAddedAt : MethodName := ⟨RX0, "signsAddedAt", "(I)I"⟩
abbrev cX0_errorIndex : ByteArray := prog_2_method_6_code
def yX0_errorIndex : MethodName := ⟨RX0, "errorIndex", "()I"⟩
abbrev cX0_isComplete : ByteArray := prog_2_method_7_code
def yX0_isComplete : MethodName := ⟨RX0, "isComplete", "()Z"⟩
abbrev cX0_signs : ByteArray := prog_2_method_8_code
def yX0_signs : MethodName := ⟨RX0, "signs", "()I"⟩
abbrev cX0_readInto : ByteArray := prog_2_method_9_code
def yX0_readInto : MethodName := ⟨RX0, "readInto", "(LCutStore$Cut;)V"⟩
def RX1 : String := "CutStore$Cut"
def TX1 : u_T := fun k => match k with
  | 0 => ("CutStore$Cut", "signs", "[I", true)
  | 1 => ("CutStore$Cut", "length", "I", false)
  | 2 => ("CutStore$Cut", "starts", "[I", true)
  | 3 => ("CutStore$Cut", "lengths", "[I", true)
  | 4 => ("CutStore$Cut", "forced", "[I", true)
  | 5 => ("CutStore$Cut", "rows", "[J", true)
  | _ => ("CutStore$Cut", "pieces", "I", false)
def tyX1 : Nat → FieldType := fun k => match k with
  | 0 => .array .int
  | 1 => .int
  | 2 => .array .int
  | 3 => .array .int
  | 4 => .array .int
  | 5 => .array .long
  | _ => .int
abbrev wsX10 : List Cond := u_ws RX1 TX1 7
theorem nmX1 : ∀ a, a < 7 → ∀ b, b < 7 → a ≠ b → (TX1 a).2.1 ≠ (TX1 b).2.1 := by decide +kernel
theorem tyX1_ok : ∀ k, k < 7 → parseFieldDescriptor (TX1 k).2.2.1 = some (tyX1 k) := by decide +kernel
abbrev cX1_init : ByteArray := prog_3_method_1_code
def yX1_init : MethodName := ⟨RX1, "<init>", "()V"⟩
abbrev cX1_clear : ByteArray := prog_3_method_2_code
def yX1_clear : MethodName := ⟨RX1, "clear", "()V"⟩
abbrev cX1_addSign : ByteArray := prog_3_method_3_code
def yX1_addSign : MethodName := ⟨RX1, "addSign", "(I)V"⟩
abbrev cX1_addSigns : ByteArray := prog_3_method_4_code
def yX1_addSigns : MethodName := ⟨RX1, "addSigns", "(LCutStore$Cut;II)V"⟩
abbrev cX1_becomeSignsOf : ByteArray := prog_3_method_5_code
def yX1_becomeSignsOf : MethodName := ⟨RX1, "becomeSignsOf", "(LCutStore$Cut;)V"⟩
abbrev cX1_become : ByteArray := prog_3_method_6_code
def yX1_become : MethodName := ⟨RX1, "become", "(LCutStore$Cut;)V"⟩
abbrev cX1_cutBy : ByteArray := prog_3_method_7_code
def yX1_cutBy : MethodName := ⟨RX1, "cutBy", "(LCutStore$Settings;)V"⟩
abbrev cX1_addPiece : ByteArray := prog_3_method_8_code
def yX1_addPiece : MethodName := ⟨RX1, "addPiece", "(IIZ)V"⟩
abbrev cX1_packed : ByteArray := prog_3_method_9_code
def yX1_packed : MethodName := ⟨RX1, "packed", "(II)J"⟩
abbrev cX1_pieceAt : ByteArray := prog_3_method_10_code
def yX1_pieceAt : MethodName := ⟨RX1, "pieceAt", "(I)I"⟩
abbrev cX1_endsBehind : ByteArray := prog_3_method_11_code
def yX1_endsBehind : MethodName := ⟨RX1, "endsBehind", "(I)Z"⟩
abbrev cX1_has : ByteArray := prog_3_method_12_code
def yX1_has : MethodName := ⟨RX1, "has", "(J)Z"⟩
abbrev cX1_hasAheadOf : ByteArray := prog_3_method_13_code
def yX1_hasAheadOf : MethodName := ⟨RX1, "hasAheadOf", "(IJ)Z"⟩
abbrev cX1_unlikePieces : ByteArray := prog_3_method_14_code
def yX1_unlikePieces : MethodName := ⟨RX1, "unlikePieces", "()I"⟩
abbrev cX1_unlikePiecesAlsoIn : ByteArray := prog_3_method_15_code
def yX1_unlikePiecesAlsoIn : MethodName := ⟨RX1, "unlikePiecesAlsoIn", "(LCutStore$Cut;)I"⟩
abbrev cX1_signsAlsoIn : ByteArray := prog_3_method_16_code
def yX1_signsAlsoIn : MethodName := ⟨RX1, "signsAlsoIn", "(LCutStore$Cut;)I"⟩
abbrev cX1_piecesBegunLike : ByteArray := prog_3_method_17_code
def yX1_piecesBegunLike : MethodName := ⟨RX1, "piecesBegunLike", "(LCutStore$Cut;)I"⟩
abbrev cX1_forcedPieces : ByteArray := prog_3_method_18_code
def yX1_forcedPieces : MethodName := ⟨RX1, "forcedPieces", "()I"⟩
abbrev cX1_longestPiece : ByteArray := prog_3_method_19_code
def yX1_longestPiece : MethodName := ⟨RX1, "longestPiece", "()I"⟩
def RX2 : String := "CutStore$History"
def TX2 : u_T := fun k => match k with
  | 0 => ("CutStore$History", "states", "[LCutStore$State;", true)
  | _ => ("CutStore$History", "saved", "I", false)
def tyX2 : Nat → FieldType := fun k => match k with
  | 0 => .array (.object "CutStore$State")
  | _ => .int
abbrev wsX20 : List Cond := u_ws RX2 TX2 2
theorem nmX2 : ∀ a, a < 2 → ∀ b, b < 2 → a ≠ b → (TX2 a).2.1 ≠ (TX2 b).2.1 := by decide +kernel
theorem tyX2_ok : ∀ k, k < 2 → parseFieldDescriptor (TX2 k).2.2.1 = some (tyX2 k) := by decide +kernel
abbrev cX2_init : ByteArray := prog_4_method_1_code
def yX2_init : MethodName := ⟨RX2, "<init>", "()V"⟩
abbrev cX2_push : ByteArray := prog_4_method_2_code
def yX2_push : MethodName := ⟨RX2, "push", "(LCutStore$State;)V"⟩
abbrev cX2_dropOldest : ByteArray := prog_4_method_3_code
def yX2_dropOldest : MethodName := ⟨RX2, "dropOldest", "()V"⟩
abbrev cX2_popInto : ByteArray := prog_4_method_4_code
def yX2_popInto : MethodName := ⟨RX2, "popInto", "(LCutStore$State;)V"⟩
def RX3 : String := "CutStore$Settings"
def TX3 : u_T := fun k => match k with
  | _ => ("CutStore$Settings", "values", "[I", true)
def tyX3 : Nat → FieldType := fun k => match k with
  | _ => .array .int
abbrev wsX30 : List Cond := u_ws RX3 TX3 1
theorem nmX3 : ∀ a, a < 1 → ∀ b, b < 1 → a ≠ b → (TX3 a).2.1 ≠ (TX3 b).2.1 := by decide +kernel
theorem tyX3_ok : ∀ k, k < 1 → parseFieldDescriptor (TX3 k).2.2.1 = some (tyX3 k) := by decide +kernel
abbrev cX3_init : ByteArray := prog_5_method_1_code
def yX3_init : MethodName := ⟨RX3, "<init>", "()V"⟩
abbrev cX3_become : ByteArray := prog_5_method_2_code
def yX3_become : MethodName := ⟨RX3, "become", "(LCutStore$Settings;)V"⟩
abbrev cX3_sumAt : ByteArray := prog_5_method_3_code
def yX3_sumAt : MethodName := ⟨RX3, "sumAt", "(LCutStore$Cut;I)I"⟩
abbrev cX3_endPieceAt : ByteArray := prog_5_method_4_code
def yX3_endPieceAt : MethodName := ⟨RX3, "endPieceAt", "(LCutStore$Cut;I)Z"⟩
def RX4 : String := "CutStore$State"
def TX4 : u_T := fun k => match k with
  | 0 => ("CutStore$State", "cuts", "[LCutStore$Cut;", true)
  | 1 => ("CutStore$State", "store", "LCutStore$Store;", true)
  | _ => ("CutStore$State", "settings", "LCutStore$Settings;", true)
def tyX4 : Nat → FieldType := fun k => match k with
  | 0 => .array (.object "CutStore$Cut")
  | 1 => .object "CutStore$Store"
  | _ => .object "CutStore$Settings"
abbrev wsX40 : List Cond := u_ws RX4 TX4 3
theorem nmX4 : ∀ a, a < 3 → ∀ b, b < 3 → a ≠ b → (TX4 a).2.1 ≠ (TX4 b).2.1 := by decide +kernel
theorem tyX4_ok : ∀ k, k < 3 → parseFieldDescriptor (TX4 k).2.2.1 = some (tyX4 k) := by decide +kernel
abbrev cX4_init : ByteArray := prog_6_method_1_code
def yX4_init : MethodName := ⟨RX4, "<init>", "()V"⟩
abbrev cX4_become : ByteArray := prog_6_method_2_code
def yX4_become : MethodName := ⟨RX4, "become", "(LCutStore$State;)V"⟩
abbrev cX4_becomeChanged : ByteArray := prog_6_method_3_code
def yX4_becomeChanged : MethodName := ⟨RX4, "becomeChanged", "(LCutStore$State;ILCutStore$Cut;)Z"⟩
abbrev cX4_textsWith : ByteArray := prog_6_method_4_code
def yX4_textsWith : MethodName := ⟨RX4, "textsWith", "(J)I"⟩
abbrev cX4_signsOwnedAlone : ByteArray := prog_6_method_5_code
def yX4_signsOwnedAlone : MethodName := ⟨RX4, "signsOwnedAlone", "(I)I"⟩
abbrev cX4_signs : ByteArray := prog_6_method_6_code
def yX4_signs : MethodName := ⟨RX4, "signs", "()I"⟩
abbrev cX4_pieces : ByteArray := prog_6_method_7_code
def yX4_pieces : MethodName := ⟨RX4, "pieces", "()I"⟩
def RX5 : String := "CutStore$Store"
def TX5 : u_T := fun k => match k with
  | 0 => ("CutStore$Store", "rows", "[J", true)
  | 1 => ("CutStore$Store", "lengths", "[I", true)
  | 2 => ("CutStore$Store", "owners", "[I", true)
  | 3 => ("CutStore$Store", "came", "I", false)
  | _ => ("CutStore$Store", "swept", "I", false)
def tyX5 : Nat → FieldType := fun k => match k with
  | 0 => .array .long
  | 1 => .array .int
  | 2 => .array .int
  | 3 => .int
  | _ => .int
abbrev wsX50 : List Cond := u_ws RX5 TX5 5
theorem nmX5 : ∀ a, a < 5 → ∀ b, b < 5 → a ≠ b → (TX5 a).2.1 ≠ (TX5 b).2.1 := by decide +kernel
theorem tyX5_ok : ∀ k, k < 5 → parseFieldDescriptor (TX5 k).2.2.1 = some (tyX5 k) := by decide +kernel
abbrev cX5_init : ByteArray := prog_7_method_1_code
def yX5_init : MethodName := ⟨RX5, "<init>", "()V"⟩
abbrev cX5_become : ByteArray := prog_7_method_2_code
def yX5_become : MethodName := ⟨RX5, "become", "(LCutStore$Store;)V"⟩
abbrev cX5_isFree : ByteArray := prog_7_method_3_code
def yX5_isFree : MethodName := ⟨RX5, "isFree", "(I)Z"⟩
abbrev cX5_isUnowned : ByteArray := prog_7_method_4_code
def yX5_isUnowned : MethodName := ⟨RX5, "isUnowned", "(I)Z"⟩
abbrev cX5_slotOf : ByteArray := prog_7_method_5_code
def yX5_slotOf : MethodName := ⟨RX5, "slotOf", "(J)I"⟩
abbrev cX5_firstSign : ByteArray := prog_7_method_6_code
def yX5_firstSign : MethodName := ⟨RX5, "firstSign", "(I)I"⟩
abbrev cX5_lastSign : ByteArray := prog_7_method_7_code
def yX5_lastSign : MethodName := ⟨RX5, "lastSign", "(I)I"⟩
abbrev cX5_loseOwner : ByteArray := prog_7_method_8_code
def yX5_loseOwner : MethodName := ⟨RX5, "loseOwner", "(LCutStore$Cut;)V"⟩
abbrev cX5_getOwner : ByteArray := prog_7_method_9_code
def yX5_getOwner : MethodName := ⟨RX5, "getOwner", "(LCutStore$Cut;)V"⟩
abbrev cX5_takeIn : ByteArray := prog_7_method_10_code
def yX5_takeIn : MethodName := ⟨RX5, "takeIn", "(JI)I"⟩
abbrev cX5_removeUnownedBut : ByteArray := prog_7_method_11_code
def yX5_removeUnownedBut : MethodName := ⟨RX5, "removeUnownedBut", "(LCutStore$Cut;)I"⟩
abbrev cX5_hasRoomFor : ByteArray := prog_7_method_12_code
def yX5_hasRoomFor : MethodName := ⟨RX5, "hasRoomFor", "(LCutStore$Cut;)Z"⟩
abbrev cX5_slotsNeededBy : ByteArray := prog_7_method_13_code
def yX5_slotsNeededBy : MethodName := ⟨RX5, "slotsNeededBy", "(LCutStore$Cut;)I"⟩
abbrev cX5_roomNeededBy : ByteArray := prog_7_method_14_code
def yX5_roomNeededBy : MethodName := ⟨RX5, "roomNeededBy", "(LCutStore$Cut;)I"⟩
abbrev cX5_pieces : ByteArray := prog_7_method_15_code
def yX5_pieces : MethodName := ⟨RX5, "pieces", "()I"⟩
abbrev cX5_size : ByteArray := prog_7_method_16_code
def yX5_size : MethodName := ⟨RX5, "size", "()I"⟩
abbrev cX5_unownedPieces : ByteArray := prog_7_method_17_code
def yX5_unownedPieces : MethodName := ⟨RX5, "unownedPieces", "()I"⟩
abbrev cX5_unownedSize : ByteArray := prog_7_method_18_code
def yX5_unownedSize : MethodName := ⟨RX5, "unownedSize", "()I"⟩
abbrev cX5_mostOwners : ByteArray := prog_7_method_19_code
def yX5_mostOwners : MethodName := ⟨RX5, "mostOwners", "()I"⟩
def RX6 : String := "CutStore"
def TX6 : u_T := fun k => match k with
  | 0 => ("CutStore", "state", "LCutStore$State;", true)
  | 1 => ("CutStore", "history", "LCutStore$History;", true)
  | 2 => ("CutStore", "buffer", "LCutStore$Buffer;", true)
  | 3 => ("CutStore", "next", "LCutStore$State;", true)
  | 4 => ("CutStore", "trial", "LCutStore$Cut;", true)
  | 5 => ("CutStore", "otherSettings", "LCutStore$Settings;", true)
  | _ => ("CutStore", "seenRows", "[J", true)
def tyX6 : Nat → FieldType := fun k => match k with
  | 0 => .object "CutStore$State"
  | 1 => .object "CutStore$History"
  | 2 => .object "CutStore$Buffer"
  | 3 => .object "CutStore$State"
  | 4 => .object "CutStore$Cut"
  | 5 => .object "CutStore$Settings"
  | _ => .array .long
abbrev wsX60 : List Cond := u_ws RX6 TX6 7
theorem nmX6 : ∀ a, a < 7 → ∀ b, b < 7 → a ≠ b → (TX6 a).2.1 ≠ (TX6 b).2.1 := by decide +kernel
theorem tyX6_ok : ∀ k, k < 7 → parseFieldDescriptor (TX6 k).2.2.1 = some (tyX6 k) := by decide +kernel
abbrev cX6_init : ByteArray := prog_1_method_1_code
def yX6_init : MethodName := ⟨RX6, "<init>", "()V"⟩
abbrev cX6_put : ByteArray := prog_1_method_2_code
def yX6_put : MethodName := ⟨RX6, "put", "(I)I"⟩
abbrev cX6_insert : ByteArray := prog_1_method_3_code
def yX6_insert : MethodName := ⟨RX6, "insert", "(II)I"⟩
abbrev cX6_takeOut : ByteArray := prog_1_method_4_code
def yX6_takeOut : MethodName := ⟨RX6, "takeOut", "(III)I"⟩
abbrev cX6_copy : ByteArray := prog_1_method_5_code
def yX6_copy : MethodName := ⟨RX6, "copy", "(II)I"⟩
abbrev cX6_rotate : ByteArray := prog_1_method_6_code
def yX6_rotate : MethodName := ⟨RX6, "rotate", "(II)I"⟩
abbrev cX6_drop : ByteArray := prog_1_method_7_code
def yX6_drop : MethodName := ⟨RX6, "drop", "(I)I"⟩
abbrev cX6_sweep : ByteArray := prog_1_method_8_code
def yX6_sweep : MethodName := ⟨RX6, "sweep", "()I"⟩
abbrev cX6_set : ByteArray := prog_1_method_9_code
def yX6_set : MethodName := ⟨RX6, "set", "(II)I"⟩
abbrev cX6_append : ByteArray := prog_1_method_10_code
def yX6_append : MethodName := ⟨RX6, "append", "(I)I"⟩
abbrev cX6_clearBuffer : ByteArray := prog_1_method_11_code
def yX6_clearBuffer : MethodName := ⟨RX6, "clearBuffer", "()I"⟩
abbrev cX6_firstError : ByteArray := prog_1_method_12_code
def yX6_firstError : MethodName := ⟨RX6, "firstError", "()I"⟩
abbrev cX6_undo : ByteArray := prog_1_method_13_code
def yX6_undo : MethodName := ⟨RX6, "undo", "()I"⟩
abbrev cX6_sign : ByteArray := prog_1_method_14_code
def yX6_sign : MethodName := ⟨RX6, "sign", "(III)I"⟩
abbrev cX6_piece : ByteArray := prog_1_method_15_code
def yX6_piece : MethodName := ⟨RX6, "piece", "(III)I"⟩
abbrev cX6_slot : ByteArray := prog_1_method_16_code
def yX6_slot : MethodName := ⟨RX6, "slot", "(II)I"⟩
abbrev cX6_text : ByteArray := prog_1_method_17_code
def yX6_text : MethodName := ⟨RX6, "text", "(II)I"⟩
abbrev cX6_common : ByteArray := prog_1_method_18_code
def yX6_common : MethodName := ⟨RX6, "common", "(III)I"⟩
abbrev cX6_count : ByteArray := prog_1_method_19_code
def yX6_count : MethodName := ⟨RX6, "count", "(I)I"⟩
abbrev cX6_setting : ByteArray := prog_1_method_20_code
def yX6_setting : MethodName := ⟨RX6, "setting", "(I)I"⟩
abbrev cX6_ifPut : ByteArray := prog_1_method_21_code
def yX6_ifPut : MethodName := ⟨RX6, "ifPut", "(II)I"⟩
abbrev cX6_ifSet : ByteArray := prog_1_method_22_code
def yX6_ifSet : MethodName := ⟨RX6, "ifSet", "(III)I"⟩
abbrev cX6_bestDivisor : ByteArray := prog_1_method_23_code
def yX6_bestDivisor : MethodName := ⟨RX6, "bestDivisor", "()I"⟩
abbrev cX6_savedShare : ByteArray := prog_1_method_24_code
def yX6_savedShare : MethodName := ⟨RX6, "savedShare", "()D"⟩
abbrev cX6_digest : ByteArray := prog_1_method_25_code
def yX6_digest : MethodName := ⟨RX6, "digest", "()J"⟩
abbrev cX6_requireText : ByteArray := prog_1_method_26_code
def yX6_requireText : MethodName := ⟨RX6, "requireText", "(I)V"⟩
abbrev cX6_requirePlace : ByteArray := prog_1_method_27_code
def yX6_requirePlace : MethodName := ⟨RX6, "requirePlace", "(LCutStore$Cut;I)V"⟩
abbrev cX6_requireSetting : ByteArray := prog_1_method_28_code
def yX6_requireSetting : MethodName := ⟨RX6, "requireSetting", "(I)V"⟩
abbrev cX6_requireValue : ByteArray := prog_1_method_29_code
def yX6_requireValue : MethodName := ⟨RX6, "requireValue", "(II)V"⟩
abbrev cX6_requireWhat : ByteArray := prog_1_method_30_code
def yX6_requireWhat : MethodName := ⟨RX6, "requireWhat", "(II)V"⟩
abbrev cX6_requireCompleteBuffer : ByteArray := prog_1_method_31_code
def yX6_requireCompleteBuffer : MethodName := ⟨RX6, "requireCompleteBuffer", "()V"⟩
abbrev cX6_changeToTrial : ByteArray := prog_1_method_32_code
def yX6_changeToTrial : MethodName := ⟨RX6, "changeToTrial", "(I)I"⟩
abbrev cX6_unlikeLengthsWith : ByteArray := prog_1_method_33_code
def yX6_unlikeLengthsWith : MethodName := ⟨RX6, "unlikeLengthsWith", "(I)I"⟩
abbrev cX6_hasSeen : ByteArray := prog_1_method_34_code
def yX6_hasSeen : MethodName := ⟨RX6, "hasSeen", "(JI)Z"⟩
abbrev cX6_mix : ByteArray := prog_1_method_35_code
def yX6_mix : MethodName := ⟨RX6, "mix", "(JJ)J"⟩
abbrev cX6_mixText : ByteArray := prog_1_method_36_code
def yX6_mixText : MethodName := ⟨RX6, "mixText", "(JI)J"⟩
abbrev cX6_mixSigns : ByteArray := prog_1_method_37_code
def yX6_mixSigns : MethodName := ⟨RX6, "mixSigns", "(JI)J"⟩
abbrev cX6_mixPieces : ByteArray := prog_1_method_38_code
def yX6_mixPieces : MethodName := ⟨RX6, "mixPieces", "(JI)J"⟩
abbrev cX6_mixSlot : ByteArray := prog_1_method_39_code
def yX6_mixSlot : MethodName := ⟨RX6, "mixSlot", "(JI)J"⟩
abbrev cX6_bitsOfShare : ByteArray := prog_1_method_40_code
def yX6_bitsOfShare : MethodName := ⟨RX6, "bitsOfShare", "(D)J"⟩
def RX7 : String := "CutStoreModel"
def TX7 : u_T := fun k => match k with
  | 0 => ("CutStoreModel", "z", "[I", true)
  | 1 => ("CutStoreModel", "codes", "[J", true)
  | 2 => ("CutStoreModel", "states", "I", false)
  | 3 => ("CutStoreModel", "history", "[I", true)
  | 4 => ("CutStoreModel", "codeHistory", "[J", true)
  | 5 => ("CutStoreModel", "length", "I", false)
  | 6 => ("CutStoreModel", "buffer", "[I", true)
  | 7 => ("CutStoreModel", "thrown", "I", false)
  | 8 => ("CutStoreModel", "row", "[I", true)
  | 9 => ("CutStoreModel", "rowMany", "I", false)
  | 10 => ("CutStoreModel", "pieceCode", "[J", true)
  | 11 => ("CutStoreModel", "pieceLength", "[I", true)
  | 12 => ("CutStoreModel", "pieceEnd", "[I", true)
  | 13 => ("CutStoreModel", "pieces", "I", false)
  | 14 => ("CutStoreModel", "told", "[I", true)
  | 15 => ("CutStoreModel", "toldMany", "I", false)
  | 16 => ("CutStoreModel", "isOpen", "Z", false)
  | 17 => ("CutStoreModel", "unlikeCode", "[J", true)
  | 18 => ("CutStoreModel", "unlikeLength", "[I", true)
  | 19 => ("CutStoreModel", "unlike", "I", false)
  | _ => ("CutStoreModel", "hash", "J", false)
def tyX7 : Nat → FieldType := fun k => match k with
  | 0 => .array .int
  | 1 => .array .long
  | 2 => .int
  | 3 => .array .int
  | 4 => .array .long
  | 5 => .int
  | 6 => .array .int
  | 7 => .int
  | 8 => .array .int
  | 9 => .int
  | 10 => .array .long
  | 11 => .array .int
  | 12 => .array .int
  | 13 => .int
  | 14 => .array .int
  | 15 => .int
  | 16 => .boolean
  | 17 => .array .long
  | 18 => .array .int
  | 19 => .int
  | _ => .long
abbrev wsX70 : List Cond := u_ws RX7 TX7 21
theorem nmX7 : ∀ a, a < 21 → ∀ b, b < 21 → a ≠ b → (TX7 a).2.1 ≠ (TX7 b).2.1 := by decide +kernel
theorem tyX7_ok : ∀ k, k < 21 → parseFieldDescriptor (TX7 k).2.2.1 = some (tyX7 k) := by decide +kernel
abbrev cX7_init : ByteArray := prog_9_method_1_code
def yX7_init : MethodName := ⟨RX7, "<init>", "()V"⟩
abbrev cX7_thrown : ByteArray := prog_9_method_2_code
def yX7_thrown : MethodName := ⟨RX7, "thrown", "()I"⟩
abbrev cX7_within : ByteArray := prog_9_method_3_code
def yX7_within : MethodName := ⟨RX7, "within", "(III)Z"⟩
abbrev cX7_save : ByteArray := prog_9_method_4_code
def yX7_save : MethodName := ⟨RX7, "save", "()V"⟩
abbrev cX7_isText : ByteArray := prog_9_method_5_code
def yX7_isText : MethodName := ⟨RX7, "isText", "(I)Z"⟩
abbrev cX7_signsOf : ByteArray := prog_9_method_6_code
def yX7_signsOf : MethodName := ⟨RX7, "signsOf", "(I)I"⟩
abbrev cX7_valueAt : ByteArray := prog_9_method_7_code
def yX7_valueAt : MethodName := ⟨RX7, "valueAt", "(II)I"⟩
abbrev cX7_markAt : ByteArray := prog_9_method_8_code
def yX7_markAt : MethodName := ⟨RX7, "markAt", "(II)I"⟩
abbrev cX7_slotAt : ByteArray := prog_9_method_9_code
def yX7_slotAt : MethodName := ⟨RX7, "slotAt", "(II)I"⟩
abbrev cX7_takeRow : ByteArray := prog_9_method_10_code
def yX7_takeRow : MethodName := ⟨RX7, "takeRow", "(I)V"⟩
abbrev cX7_sumAt : ByteArray := prog_9_method_11_code
def yX7_sumAt : MethodName := ⟨RX7, "sumAt", "(I)I"⟩
abbrev cX7_endAt : ByteArray := prog_9_method_12_code
def yX7_endAt : MethodName := ⟨RX7, "endAt", "(II)I"⟩
abbrev cX7_cut : ByteArray := prog_9_method_13_code
def yX7_cut : MethodName := ⟨RX7, "cut", "()V"⟩
abbrev cX7_isAlike : ByteArray := prog_9_method_14_code
def yX7_isAlike : MethodName := ⟨RX7, "isAlike", "(II)Z"⟩
abbrev cX7_isFirstSuch : ByteArray := prog_9_method_15_code
def yX7_isFirstSuch : MethodName := ⟨RX7, "isFirstSuch", "(I)Z"⟩
abbrev cX7_isKept : ByteArray := prog_9_method_16_code
def yX7_isKept : MethodName := ⟨RX7, "isKept", "(I)Z"⟩
abbrev cX7_slotFor : ByteArray := prog_9_method_17_code
def yX7_slotFor : MethodName := ⟨RX7, "slotFor", "(I)I"⟩
abbrev cX7_freeSlots : ByteArray := prog_9_method_18_code
def yX7_freeSlots : MethodName := ⟨RX7, "freeSlots", "()I"⟩
abbrev cX7_storeSize : ByteArray := prog_9_method_19_code
def yX7_storeSize : MethodName := ⟨RX7, "storeSize", "()I"⟩
abbrev cX7_missing : ByteArray := prog_9_method_20_code
def yX7_missing : MethodName := ⟨RX7, "missing", "(Z)I"⟩
abbrev cX7_ownersBut : ByteArray := prog_9_method_21_code
def yX7_ownersBut : MethodName := ⟨RX7, "ownersBut", "(II)I"⟩
abbrev cX7_isNew : ByteArray := prog_9_method_22_code
def yX7_isNew : MethodName := ⟨RX7, "isNew", "(I)Z"⟩
abbrev cX7_canBeSwept : ByteArray := prog_9_method_23_code
def yX7_canBeSwept : MethodName := ⟨RX7, "canBeSwept", "(II)Z"⟩
abbrev cX7_fitsAsItIs : ByteArray := prog_9_method_24_code
def yX7_fitsAsItIs : MethodName := ⟨RX7, "fitsAsItIs", "()Z"⟩
abbrev cX7_fitsSwept : ByteArray := prog_9_method_25_code
def yX7_fitsSwept : MethodName := ⟨RX7, "fitsSwept", "(I)Z"⟩
abbrev cX7_isRefused : ByteArray := prog_9_method_26_code
def yX7_isRefused : MethodName := ⟨RX7, "isRefused", "(I)Z"⟩
abbrev cX7_sweepSlot : ByteArray := prog_9_method_27_code
def yX7_sweepSlot : MethodName := ⟨RX7, "sweepSlot", "(I)V"⟩
abbrev cX7_clearText : ByteArray := prog_9_method_28_code
def yX7_clearText : MethodName := ⟨RX7, "clearText", "(I)V"⟩
abbrev cX7_lowestFree : ByteArray := prog_9_method_29_code
def yX7_lowestFree : MethodName := ⟨RX7, "lowestFree", "()I"⟩
abbrev cX7_comes : ByteArray := prog_9_method_30_code
def yX7_comes : MethodName := ⟨RX7, "comes", "(I)I"⟩
abbrev cX7_lay : ByteArray := prog_9_method_31_code
def yX7_lay : MethodName := ⟨RX7, "lay", "(I)I"⟩
abbrev cX7_takes : ByteArray := prog_9_method_32_code
def yX7_takes : MethodName := ⟨RX7, "takes", "(I)Z"⟩
abbrev cX7_rightUpTo : ByteArray := prog_9_method_33_code
def yX7_rightUpTo : MethodName := ⟨RX7, "rightUpTo", "()I"⟩
abbrev cX7_isWhole : ByteArray := prog_9_method_34_code
def yX7_isWhole : MethodName := ⟨RX7, "isWhole", "()Z"⟩
abbrev cX7_takeTold : ByteArray := prog_9_method_35_code
def yX7_takeTold : MethodName := ⟨RX7, "takeTold", "()V"⟩
abbrev cX7_put : ByteArray := prog_9_method_36_code
def yX7_put : MethodName := ⟨RX7, "put", "(I)I"⟩
abbrev cX7_takeInserted : ByteArray := prog_9_method_37_code
def yX7_takeInserted : MethodName := ⟨RX7, "takeInserted", "(II)V"⟩
abbrev cX7_insert : ByteArray := prog_9_method_38_code
def yX7_insert : MethodName := ⟨RX7, "insert", "(II)I"⟩
abbrev cX7_change : ByteArray := prog_9_method_39_code
def yX7_change : MethodName := ⟨RX7, "change", "(II)I"⟩
abbrev cX7_isPlace : ByteArray := prog_9_method_40_code
def yX7_isPlace : MethodName := ⟨RX7, "isPlace", "(II)Z"⟩
abbrev cX7_takeOut : ByteArray := prog_9_method_41_code
def yX7_takeOut : MethodName := ⟨RX7, "takeOut", "(III)I"⟩
abbrev cX7_copy : ByteArray := prog_9_method_42_code
def yX7_copy : MethodName := ⟨RX7, "copy", "(II)I"⟩
abbrev cX7_rotate : ByteArray := prog_9_method_43_code
def yX7_rotate : MethodName := ⟨RX7, "rotate", "(II)I"⟩
abbrev cX7_drop : ByteArray := prog_9_method_44_code
def yX7_drop : MethodName := ⟨RX7, "drop", "(I)I"⟩
abbrev cX7_sweep : ByteArray := prog_9_method_45_code
def yX7_sweep : MethodName := ⟨RX7, "sweep", "()I"⟩
abbrev cX7_isSetting : ByteArray := prog_9_method_46_code
def yX7_isSetting : MethodName := ⟨RX7, "isSetting", "(I)Z"⟩
abbrev cX7_isValue : ByteArray := prog_9_method_47_code
def yX7_isValue : MethodName := ⟨RX7, "isValue", "(II)Z"⟩
abbrev cX7_set : ByteArray := prog_9_method_48_code
def yX7_set : MethodName := ⟨RX7, "set", "(II)I"⟩
abbrev cX7_append : ByteArray := prog_9_method_49_code
def yX7_append : MethodName := ⟨RX7, "append", "(I)I"⟩
abbrev cX7_clearBuffer : ByteArray := prog_9_method_50_code
def yX7_clearBuffer : MethodName := ⟨RX7, "clearBuffer", "()I"⟩
abbrev cX7_firstError : ByteArray := prog_9_method_51_code
def yX7_firstError : MethodName := ⟨RX7, "firstError", "()I"⟩
abbrev cX7_undo : ByteArray := prog_9_method_52_code
def yX7_undo : MethodName := ⟨RX7, "undo", "()I"⟩
abbrev cX7_piecesUpTo : ByteArray := prog_9_method_53_code
def yX7_piecesUpTo : MethodName := ⟨RX7, "piecesUpTo", "(II)I"⟩
abbrev cX7_signNow : ByteArray := prog_9_method_54_code
def yX7_signNow : MethodName := ⟨RX7, "signNow", "(III)I"⟩
abbrev cX7_sign : ByteArray := prog_9_method_55_code
def yX7_sign : MethodName := ⟨RX7, "sign", "(III)I"⟩
abbrev cX7_piecesOf : ByteArray := prog_9_method_56_code
def yX7_piecesOf : MethodName := ⟨RX7, "piecesOf", "(I)I"⟩
abbrev cX7_firstOf : ByteArray := prog_9_method_57_code
def yX7_firstOf : MethodName := ⟨RX7, "firstOf", "(II)I"⟩
abbrev cX7_has : ByteArray := prog_9_method_58_code
def yX7_has : MethodName := ⟨RX7, "has", "(II)Z"⟩
abbrev cX7_textsWith : ByteArray := prog_9_method_59_code
def yX7_textsWith : MethodName := ⟨RX7, "textsWith", "(I)I"⟩
abbrev cX7_ones : ByteArray := prog_9_method_60_code
def yX7_ones : MethodName := ⟨RX7, "ones", "(I)I"⟩
abbrev cX7_pieceNow : ByteArray := prog_9_method_61_code
def yX7_pieceNow : MethodName := ⟨RX7, "pieceNow", "(III)I"⟩
abbrev cX7_piece : ByteArray := prog_9_method_62_code
def yX7_piece : MethodName := ⟨RX7, "piece", "(III)I"⟩
abbrev cX7_valueIn : ByteArray := prog_9_method_63_code
def yX7_valueIn : MethodName := ⟨RX7, "valueIn", "(II)I"⟩
abbrev cX7_slotNow : ByteArray := prog_9_method_64_code
def yX7_slotNow : MethodName := ⟨RX7, "slotNow", "(II)I"⟩
abbrev cX7_slot : ByteArray := prog_9_method_65_code
def yX7_slot : MethodName := ⟨RX7, "slot", "(II)I"⟩
abbrev cX7_unlikePieces : ByteArray := prog_9_method_66_code
def yX7_unlikePieces : MethodName := ⟨RX7, "unlikePieces", "(I)I"⟩
abbrev cX7_forcedPieces : ByteArray := prog_9_method_67_code
def yX7_forcedPieces : MethodName := ⟨RX7, "forcedPieces", "(I)I"⟩
abbrev cX7_longestPiece : ByteArray := prog_9_method_68_code
def yX7_longestPiece : MethodName := ⟨RX7, "longestPiece", "(I)I"⟩
abbrev cX7_ownSigns : ByteArray := prog_9_method_69_code
def yX7_ownSigns : MethodName := ⟨RX7, "ownSigns", "(I)I"⟩
abbrev cX7_textNow : ByteArray := prog_9_method_70_code
def yX7_textNow : MethodName := ⟨RX7, "textNow", "(II)I"⟩
abbrev cX7_text : ByteArray := prog_9_method_71_code
def yX7_text : MethodName := ⟨RX7, "text", "(II)I"⟩
abbrev cX7_sharedPieces : ByteArray := prog_9_method_72_code
def yX7_sharedPieces : MethodName := ⟨RX7, "sharedPieces", "(II)I"⟩
abbrev cX7_sharedSigns : ByteArray := prog_9_method_73_code
def yX7_sharedSigns : MethodName := ⟨RX7, "sharedSigns", "(II)I"⟩
abbrev cX7_sameBegin : ByteArray := prog_9_method_74_code
def yX7_sameBegin : MethodName := ⟨RX7, "sameBegin", "(II)I"⟩
abbrev cX7_commonNow : ByteArray := prog_9_method_75_code
def yX7_commonNow : MethodName := ⟨RX7, "commonNow", "(III)I"⟩
abbrev cX7_common : ByteArray := prog_9_method_76_code
def yX7_common : MethodName := ⟨RX7, "common", "(III)I"⟩
abbrev cX7_allSigns : ByteArray := prog_9_method_77_code
def yX7_allSigns : MethodName := ⟨RX7, "allSigns", "()I"⟩
abbrev cX7_allPieces : ByteArray := prog_9_method_78_code
def yX7_allPieces : MethodName := ⟨RX7, "allPieces", "()I"⟩
abbrev cX7_ownerless : ByteArray := prog_9_method_79_code
def yX7_ownerless : MethodName := ⟨RX7, "ownerless", "(Z)I"⟩
abbrev cX7_mostOwners : ByteArray := prog_9_method_80_code
def yX7_mostOwners : MethodName := ⟨RX7, "mostOwners", "()I"⟩
abbrev cX7_counted : ByteArray := prog_9_method_81_code
def yX7_counted : MethodName := ⟨RX7, "counted", "(I)I"⟩
abbrev cX7_count : ByteArray := prog_9_method_82_code
def yX7_count : MethodName := ⟨RX7, "count", "(I)I"⟩
abbrev cX7_setting : ByteArray := prog_9_method_83_code
def yX7_setting : MethodName := ⟨RX7, "setting", "(I)I"⟩
abbrev cX7_putThen : ByteArray := prog_9_method_84_code
def yX7_putThen : MethodName := ⟨RX7, "putThen", "(II)I"⟩
abbrev cX7_ifPut : ByteArray := prog_9_method_85_code
def yX7_ifPut : MethodName := ⟨RX7, "ifPut", "(II)I"⟩
abbrev cX7_setThen : ByteArray := prog_9_method_86_code
def yX7_setThen : MethodName := ⟨RX7, "setThen", "(III)I"⟩
abbrev cX7_ifSet : ByteArray := prog_9_method_87_code
def yX7_ifSet : MethodName := ⟨RX7, "ifSet", "(III)I"⟩
abbrev cX7_addUnlike : ByteArray := prog_9_method_88_code
def yX7_addUnlike : MethodName := ⟨RX7, "addUnlike", "(I)I"⟩
abbrev cX7_lengthsBy : ByteArray := prog_9_method_89_code
def yX7_lengthsBy : MethodName := ⟨RX7, "lengthsBy", "(I)I"⟩
abbrev cX7_bestNow : ByteArray := prog_9_method_90_code
def yX7_bestNow : MethodName := ⟨RX7, "bestNow", "()I"⟩
abbrev cX7_bestDivisor : ByteArray := prog_9_method_91_code
def yX7_bestDivisor : MethodName := ⟨RX7, "bestDivisor", "()I"⟩
abbrev cX7_saved : ByteArray := prog_9_method_92_code
def yX7_saved : MethodName := ⟨RX7, "saved", "()D"⟩
abbrev cX7_savedShare : ByteArray := prog_9_method_93_code
def yX7_savedShare : MethodName := ⟨RX7, "savedShare", "()D"⟩
abbrev cX7_mix : ByteArray := prog_9_method_94_code
def yX7_mix : MethodName := ⟨RX7, "mix", "(J)V"⟩
abbrev cX7_mixText : ByteArray := prog_9_method_95_code
def yX7_mixText : MethodName := ⟨RX7, "mixText", "(I)V"⟩
abbrev cX7_digest : ByteArray := prog_9_method_96_code
def yX7_digest : MethodName := ⟨RX7, "digest", "()J"⟩
def RJx8e188 : String := "java/lang/Cloneable"
def TJx8e188 : u_T := fun k => match k with
  | _ => ("", "", "", false)
def tyJx8e188 : Nat → FieldType := fun k => match k with
  | _ => .int
abbrev wsJx8e1880 : List Cond := u_ws RJx8e188 TJx8e188 0
theorem nmJx8e188 : ∀ a, a < 0 → ∀ b, b < 0 → a ≠ b → (TJx8e188 a).2.1 ≠ (TJx8e188 b).2.1 := by decide +kernel
theorem tyJx8e188_ok : ∀ k, k < 0 → parseFieldDescriptor (TJx8e188 k).2.2.1 = some (tyJx8e188 k) := by decide +kernel
def RJxe99ae : String := "java/lang/Double"
def TJxe99ae : u_T := fun k => match k with
  | _ => ("", "", "", false)
def tyJxe99ae : Nat → FieldType := fun k => match k with
  | _ => .int
abbrev wsJxe99ae0 : List Cond := u_ws RJxe99ae TJxe99ae 0
theorem nmJxe99ae : ∀ a, a < 0 → ∀ b, b < 0 → a ≠ b → (TJxe99ae a).2.1 ≠ (TJxe99ae b).2.1 := by decide +kernel
theorem tyJxe99ae_ok : ∀ k, k < 0 → parseFieldDescriptor (TJxe99ae k).2.2.1 = some (tyJxe99ae k) := by decide +kernel
abbrev cJxe99ae_isNaN_b9ae7 : ByteArray := prog_11_method_6_code
def yJxe99ae_isNaN_b9ae7 : MethodName := ⟨RJxe99ae, "isNaN", "(D)Z"⟩
abbrev cJxe99ae_doubleToLongBits_ccdee : ByteArray := prog_11_method_23_code
def yJxe99ae_doubleToLongBits_ccdee : MethodName := ⟨RJxe99ae, "doubleToLongBits", "(D)J"⟩
def RJ6 : String := "java/lang/Integer"
def TJ6 : u_T := fun k => match k with
  | _ => ("", "", "", false)
def tyJ6 : Nat → FieldType := fun k => match k with
  | _ => .int
abbrev wsJ60 : List Cond := u_ws RJ6 TJ6 0
theorem nmJ6 : ∀ a, a < 0 → ∀ b, b < 0 → a ≠ b → (TJ6 a).2.1 ≠ (TJ6 b).2.1 := by decide +kernel
theorem tyJ6_ok : ∀ k, k < 0 → parseFieldDescriptor (TJ6 k).2.2.1 = some (tyJ6 k) := by decide +kernel
abbrev cJ6_bitCount_0f7a4 : ByteArray := prog_16_method_49_code
def yJ6_bitCount_0f7a4 : MethodName := ⟨RJ6, "bitCount", "(I)I"⟩
def RJ9 : String := "java/lang/Math"
def TJ9 : u_T := fun k => match k with
  | _ => ("", "", "", false)
def tyJ9 : Nat → FieldType := fun k => match k with
  | _ => .int
abbrev wsJ90 : List Cond := u_ws RJ9 TJ9 0
theorem nmJ9 : ∀ a, a < 0 → ∀ b, b < 0 → a ≠ b → (TJ9 a).2.1 ≠ (TJ9 b).2.1 := by decide +kernel
theorem tyJ9_ok : ∀ k, k < 0 → parseFieldDescriptor (TJ9 k).2.2.1 = some (tyJ9 k) := by decide +kernel
abbrev cJ9_max_7cf53 : ByteArray := prog_17_method_65_code
def yJ9_max_7cf53 : MethodName := ⟨RJ9, "max", "(II)I"⟩
def RJ0 : String := "java/lang/String"
def TJ0 : u_T := fun k => match k with
  | _ => ("", "", "", false)
def tyJ0 : Nat → FieldType := fun k => match k with
  | _ => .int
abbrev wsJ00 : List Cond := u_ws RJ0 TJ0 0
theorem nmJ0 : ∀ a, a < 0 → ∀ b, b < 0 → a ≠ b → (TJ0 a).2.1 ≠ (TJ0 b).2.1 := by decide +kernel
theorem tyJ0_ok : ∀ k, k < 0 → parseFieldDescriptor (TJ0 k).2.2.1 = some (tyJ0 k) := by decide +kernel
def RJ10 : String := "java/lang/System"
def TJ10 : u_T := fun k => match k with
  | _ => ("", "", "", false)
def tyJ10 : Nat → FieldType := fun k => match k with
  | _ => .int
abbrev wsJ100 : List Cond := u_ws RJ10 TJ10 0
theorem nmJ10 : ∀ a, a < 0 → ∀ b, b < 0 → a ≠ b → (TJ10 a).2.1 ≠ (TJ10 b).2.1 := by decide +kernel
theorem tyJ10_ok : ∀ k, k < 0 → parseFieldDescriptor (TJ10 k).2.2.1 = some (tyJ10 k) := by decide +kernel
def RL : String := "CutStoreLaw"
abbrev cL_put : ByteArray := method_3_code
def yL_put : MethodName := ⟨RL, "put", "(LCutStore;I[J)I"⟩
abbrev cL_insert : ByteArray := method_4_code
def yL_insert : MethodName := ⟨RL, "insert", "(LCutStore;II[J)I"⟩
abbrev cL_takeOut : ByteArray := method_5_code
def yL_takeOut : MethodName := ⟨RL, "takeOut", "(LCutStore;III[J)I"⟩
abbrev cL_copy : ByteArray := method_6_code
def yL_copy : MethodName := ⟨RL, "copy", "(LCutStore;II[J)I"⟩
abbrev cL_rotate : ByteArray := method_7_code
def yL_rotate : MethodName := ⟨RL, "rotate", "(LCutStore;II[J)I"⟩
abbrev cL_drop : ByteArray := method_8_code
def yL_drop : MethodName := ⟨RL, "drop", "(LCutStore;I[J)I"⟩
abbrev cL_set : ByteArray := method_9_code
def yL_set : MethodName := ⟨RL, "set", "(LCutStore;II[J)I"⟩
abbrev cL_append : ByteArray := method_10_code
def yL_append : MethodName := ⟨RL, "append", "(LCutStore;I[J)I"⟩
abbrev cL_undo : ByteArray := method_11_code
def yL_undo : MethodName := ⟨RL, "undo", "(LCutStore;[J)I"⟩
abbrev cL_sign : ByteArray := method_12_code
def yL_sign : MethodName := ⟨RL, "sign", "(LCutStore;III[J)I"⟩
abbrev cL_piece : ByteArray := method_13_code
def yL_piece : MethodName := ⟨RL, "piece", "(LCutStore;III[J)I"⟩
abbrev cL_slot : ByteArray := method_14_code
def yL_slot : MethodName := ⟨RL, "slot", "(LCutStore;II[J)I"⟩
abbrev cL_text : ByteArray := method_15_code
def yL_text : MethodName := ⟨RL, "text", "(LCutStore;II[J)I"⟩
abbrev cL_common : ByteArray := method_16_code
def yL_common : MethodName := ⟨RL, "common", "(LCutStore;III[J)I"⟩
abbrev cL_count : ByteArray := method_17_code
def yL_count : MethodName := ⟨RL, "count", "(LCutStore;I[J)I"⟩
abbrev cL_setting : ByteArray := method_18_code
def yL_setting : MethodName := ⟨RL, "setting", "(LCutStore;I[J)I"⟩
abbrev cL_ifPut : ByteArray := method_19_code
def yL_ifPut : MethodName := ⟨RL, "ifPut", "(LCutStore;II[J)I"⟩
abbrev cL_ifSet : ByteArray := method_20_code
def yL_ifSet : MethodName := ⟨RL, "ifSet", "(LCutStore;III[J)I"⟩
abbrev cL_law : ByteArray := code
def yL_law : MethodName := ⟨RL, "law", "([I)Z"⟩
abbrev vwCl : List vw_C := [(RX0, TX0, 2), (RX1, TX1, 7), (RX2, TX2, 2), (RX3, TX3, 1), (RX4, TX4, 3), (RX5, TX5, 5), (RX6, TX6, 7), (RX7, TX7, 21)]
end
section
theorem dX0_init_0 : decode cX0_init 0 = .ok (.aload_n 0, 1) := by decide +kernel
theorem dX0_init_1 : decode cX0_init 1 = .ok (.invokespecial 3, 3) := by decide +kernel
theorem dX0_init_4 : decode cX0_init 4 = .ok (.aload_n 0, 1) := by decide +kernel
theorem dX0_init_5 : decode cX0_init 5 = .ok (.bipush 60, 2) := by decide +kernel
theorem dX0_init_7 : decode cX0_init 7 = .ok (.newarray .int, 2) := by decide +kernel
theorem dX0_init_9 : decode cX0_init 9 = .ok (.putfield 9, 3) := by decide +kernel
theorem dX0_init_12 : decode cX0_init 12 = .ok (.aload_n 0, 1) := by decide +kernel
theorem dX0_init_13 : decode cX0_init 13 = .ok (.iconst 0, 1) := by decide +kernel
theorem dX0_init_14 : decode cX0_init 14 = .ok (.putfield 15, 3) := by decide +kernel
theorem dX0_init_17 : decode cX0_init 17 = .ok (.return_, 1) := by decide +kernel
theorem dX0_clear_0 : decode cX0_clear 0 = .ok (.aload_n 0, 1) := by decide +kernel
theorem dX0_clear_1 : decode cX0_clear 1 = .ok (.iconst 0, 1) := by decide +kernel
theorem dX0_clear_2 : decode cX0_clear 2 = .ok (.putfield 15, 3) := by decide +kernel
theorem dX0_clear_5 : decode cX0_clear 5 = .ok (.return_, 1) := by decide +kernel
theorem dX0_add_0 : decode cX0_add 0 = .ok (.aload_n 0, 1) := by decide +kernel
theorem dX0_add_1 : decode cX0_add 1 = .ok (.getfield 15, 3) := by decide +kernel
theorem dX0_add_4 : decode cX0_add 4 = .ok (.bipush 60, 2) := by decide +kernel
theorem dX0_add_6 : decode cX0_add 6 = .ok (.if_icmp .ge 23, 3) := by decide +kernel
theorem dX0_add_9 : decode cX0_add 9 = .ok (.aload_n 0, 1) := by decide +kernel
theorem dX0_add_10 : decode cX0_add 10 = .ok (.getfield 9, 3) := by decide +kernel
theorem dX0_add_13 : decode cX0_add 13 = .ok (.aload_n 0, 1) := by decide +kernel
theorem dX0_add_14 : decode cX0_add 14 = .ok (.getfield 15, 3) := by decide +kernel
theorem dX0_add_17 : decode cX0_add 17 = .ok (.iload_n 1, 1) := by decide +kernel
theorem dX0_add_18 : decode cX0_add 18 = .ok (.iastore, 1) := by decide +kernel
theorem dX0_add_19 : decode cX0_add 19 = .ok (.aload_n 0, 1) := by decide +kernel
theorem dX0_add_20 : decode cX0_add 20 = .ok (.dup, 1) := by decide +kernel
theorem dX0_add_21 : decode cX0_add 21 = .ok (.getfield 15, 3) := by decide +kernel
theorem dX0_add_24 : decode cX0_add 24 = .ok (.iconst 1, 1) := by decide +kernel
theorem dX0_add_25 : decode cX0_add 25 = .ok (.iadd, 1) := by decide +kernel
theorem dX0_add_26 : decode cX0_add 26 = .ok (.putfield 15, 3) := by decide +kernel
theorem dX0_add_29 : decode cX0_add 29 = .ok (.return_, 1) := by decide +kernel
theorem dX0_isLetter_0 : decode cX0_isLetter 0 = .ok (.iload_n 0, 1) := by decide +kernel
theorem dX0_isLetter_1 : decode cX0_isLetter 1 = .ok (.bipush 97, 2) := by decide +kernel
theorem dX0_isLetter_3 : decode cX0_isLetter 3 = .ok (.if_icmp .lt 13, 3) := by decide +kernel
theorem dX0_isLetter_6 : decode cX0_isLetter 6 = .ok (.iload_n 0, 1) := by decide +kernel
theorem dX0_isLetter_7 : decode cX0_isLetter 7 = .ok (.bipush 104, 2) := by decide +kernel
theorem dX0_isLetter_9 : decode cX0_isLetter 9 = .ok (.if_icmp .gt 7, 3) := by decide +kernel
theorem dX0_isLetter_12 : decode cX0_isLetter 12 = .ok (.iconst 1, 1) := by decide +kernel
theorem dX0_isLetter_13 : decode cX0_isLetter 13 = .ok (.goto 4, 3) := by decide +kernel
theorem dX0_isLetter_16 : decode cX0_isLetter 16 = .ok (.iconst 0, 1) := by decide +kernel
theorem dX0_isLetter_17 : decode cX0_isLetter 17 = .ok (.ireturn, 1) := by decide +kernel
theorem dX0_signsAddedAt_0 : decode cX0_signsAddedAt 0 = .ok (.aload_n 0, 1) := by decide +kernel
theorem dX0_signsAddedAt_1 : decode cX0_signsAddedAt 1 = .ok (.getfield 9, 3) := by decide +kernel
theorem dX0_signsAddedAt_4 : decode cX0_signsAddedAt 4 = .ok (.iload_n 1, 1) := by decide +kernel
theorem dX0_signsAddedAt_5 : decode cX0_signsAddedAt 5 = .ok (.iaload, 1) := by decide +kernel
theorem dX0_signsAddedAt_6 : decode cX0_signsAddedAt 6 = .ok (.istore_n 2, 1) := by decide +kernel
theorem dX0_signsAddedAt_7 : decode cX0_signsAddedAt 7 = .ok (.iload_n 2, 1) := by decide +kernel
theorem dX0_signsAddedAt_8 : decode cX0_signsAddedAt 8 = .ok (.invokestatic 19, 3) := by decide +kernel
theorem dX0_signsAddedAt_11 : decode cX0_signsAddedAt 11 = .ok (.ifCond .eq 5, 3) := by decide +kernel
theorem dX0_signsAddedAt_14 : decode cX0_signsAddedAt 14 = .ok (.iconst 1, 1) := by decide +kernel
theorem dX0_signsAddedAt_15 : decode cX0_signsAddedAt 15 = .ok (.ireturn, 1) := by decide +kernel
theorem dX0_signsAddedAt_16 : decode cX0_signsAddedAt 16 = .ok (.iload_n 2, 1) := by decide +kernel
theorem dX0_signsAddedAt_17 : decode cX0_signsAddedAt 17 = .ok (.bipush 50, 2) := by decide +kernel
theorem dX0_signsAddedAt_19 : decode cX0_signsAddedAt 19 = .ok (.if_icmp .lt 13, 3) := by decide +kernel
theorem dX0_signsAddedAt_22 : decode cX0_signsAddedAt 22 = .ok (.iload_n 2, 1) := by decide +kernel
theorem dX0_signsAddedAt_23 : decode cX0_signsAddedAt 23 = .ok (.bipush 57, 2) := by decide +kernel
theorem dX0_signsAddedAt_25 : decode cX0_signsAddedAt 25 = .ok (.if_icmp .gt 7, 3) := by decide +kernel
theorem dX0_signsAddedAt_28 : decode cX0_signsAddedAt 28 = .ok (.iconst 1, 1) := by decide +kernel
theorem dX0_signsAddedAt_29 : decode cX0_signsAddedAt 29 = .ok (.goto 4, 3) := by decide +kernel
theorem dX0_signsAddedAt_32 : decode cX0_signsAddedAt 32 = .ok (.iconst 0, 1) := by decide +kernel
theorem dX0_signsAddedAt_33 : decode cX0_signsAddedAt 33 = .ok (.istore_n 3, 1) := by decide +kernel
theorem dX0_signsAddedAt_34 : decode cX0_signsAddedAt 34 = .ok (.iload_n 3, 1) := by decide +kernel
theorem dX0_signsAddedAt_35 : decode cX0_signsAddedAt 35 = .ok (.ifCond .eq 28, 3) := by decide +kernel
theorem dX0_signsAddedAt_38 : decode cX0_signsAddedAt 38 = .ok (.iload_n 1, 1) := by decide +kernel
theorem dX0_signsAddedAt_39 : decode cX0_signsAddedAt 39 = .ok (.ifCond .le 24, 3) := by decide +kernel
theorem dX0_signsAddedAt_42 : decode cX0_signsAddedAt 42 = .ok (.aload_n 0, 1) := by decide +kernel
theorem dX0_signsAddedAt_43 : decode cX0_signsAddedAt 43 = .ok (.getfield 9, 3) := by decide +kernel
theorem dX0_signsAddedAt_46 : decode cX0_signsAddedAt 46 = .ok (.iload_n 1, 1) := by decide +kernel
theorem dX0_signsAddedAt_47 : decode cX0_signsAddedAt 47 = .ok (.iconst 1, 1) := by decide +kernel
theorem dX0_signsAddedAt_48 : decode cX0_signsAddedAt 48 = .ok (.isub, 1) := by decide +kernel
theorem dX0_signsAddedAt_49 : decode cX0_signsAddedAt 49 = .ok (.iaload, 1) := by decide +kernel
theorem dX0_signsAddedAt_50 : decode cX0_signsAddedAt 50 = .ok (.invokestatic 19, 3) := by decide +kernel
theorem dX0_signsAddedAt_53 : decode cX0_signsAddedAt 53 = .ok (.ifCond .eq 10, 3) := by decide +kernel
theorem dX0_signsAddedAt_56 : decode cX0_signsAddedAt 56 = .ok (.iload_n 2, 1) := by decide +kernel
theorem dX0_signsAddedAt_57 : decode cX0_signsAddedAt 57 = .ok (.bipush 49, 2) := by decide +kernel
theorem dX0_signsAddedAt_59 : decode cX0_signsAddedAt 59 = .ok (.isub, 1) := by decide +kernel
theorem dX0_signsAddedAt_60 : decode cX0_signsAddedAt 60 = .ok (.goto 4, 3) := by decide +kernel
theorem dX0_signsAddedAt_63 : decode cX0_signsAddedAt 63 = .ok (.iconst 0, 1) := by decide +kernel
theorem dX0_signsAddedAt_64 : decode cX0_signsAddedAt 64 = .ok (.ireturn, 1) := by decide +kernel
theorem dX0_errorIndex_0 : decode cX0_errorIndex 0 = .ok (.iconst 0, 1) := by decide +kernel
theorem dX0_errorIndex_1 : decode cX0_errorIndex 1 = .ok (.istore_n 1, 1) := by decide +kernel
theorem dX0_errorIndex_2 : decode cX0_errorIndex 2 = .ok (.iconst 0, 1) := by decide +kernel
theorem dX0_errorIndex_3 : decode cX0_errorIndex 3 = .ok (.istore_n 2, 1) := by decide +kernel
theorem dX0_errorIndex_4 : decode cX0_errorIndex 4 = .ok (.iload_n 2, 1) := by decide +kernel
theorem dX0_errorIndex_5 : decode cX0_errorIndex 5 = .ok (.aload_n 0, 1) := by decide +kernel
theorem dX0_errorIndex_6 : decode cX0_errorIndex 6 = .ok (.getfield 15, 3) := by decide +kernel
theorem dX0_errorIndex_9 : decode cX0_errorIndex 9 = .ok (.if_icmp .ge 31, 3) := by decide +kernel
theorem dX0_errorIndex_12 : decode cX0_errorIndex 12 = .ok (.aload_n 0, 1) := by decide +kernel
theorem dX0_errorIndex_13 : decode cX0_errorIndex 13 = .ok (.iload_n 2, 1) := by decide +kernel
theorem dX0_errorIndex_14 : decode cX0_errorIndex 14 = .ok (.invokevirtual 23, 3) := by decide +kernel
theorem dX0_errorIndex_17 : decode cX0_errorIndex 17 = .ok (.istore_n 3, 1) := by decide +kernel
theorem dX0_errorIndex_18 : decode cX0_errorIndex 18 = .ok (.iload_n 1, 1) := by decide +kernel
theorem dX0_errorIndex_19 : decode cX0_errorIndex 19 = .ok (.iload_n 3, 1) := by decide +kernel
theorem dX0_errorIndex_20 : decode cX0_errorIndex 20 = .ok (.iadd, 1) := by decide +kernel
theorem dX0_errorIndex_21 : decode cX0_errorIndex 21 = .ok (.istore_n 1, 1) := by decide +kernel
theorem dX0_errorIndex_22 : decode cX0_errorIndex 22 = .ok (.iload_n 3, 1) := by decide +kernel
theorem dX0_errorIndex_23 : decode cX0_errorIndex 23 = .ok (.ifCond .eq 9, 3) := by decide +kernel
theorem dX0_errorIndex_26 : decode cX0_errorIndex 26 = .ok (.iload_n 1, 1) := by decide +kernel
theorem dX0_errorIndex_27 : decode cX0_errorIndex 27 = .ok (.bipush 40, 2) := by decide +kernel
theorem dX0_errorIndex_29 : decode cX0_errorIndex 29 = .ok (.if_icmp .le 5, 3) := by decide +kernel
theorem dX0_errorIndex_32 : decode cX0_errorIndex 32 = .ok (.iload_n 2, 1) := by decide +kernel
theorem dX0_errorIndex_33 : decode cX0_errorIndex 33 = .ok (.ireturn, 1) := by decide +kernel
theorem dX0_errorIndex_34 : decode cX0_errorIndex 34 = .ok (.iinc 2 1, 3) := by decide +kernel
theorem dX0_errorIndex_37 : decode cX0_errorIndex 37 = .ok (.goto (-33), 3) := by decide +kernel
theorem dX0_errorIndex_40 : decode cX0_errorIndex 40 = .ok (.aload_n 0, 1) := by decide +kernel
theorem dX0_errorIndex_41 : decode cX0_errorIndex 41 = .ok (.getfield 15, 3) := by decide +kernel
theorem dX0_errorIndex_44 : decode cX0_errorIndex 44 = .ok (.ireturn, 1) := by decide +kernel
theorem dX0_isComplete_0 : decode cX0_isComplete 0 = .ok (.aload_n 0, 1) := by decide +kernel
theorem dX0_isComplete_1 : decode cX0_isComplete 1 = .ok (.getfield 15, 3) := by decide +kernel
theorem dX0_isComplete_4 : decode cX0_isComplete 4 = .ok (.ifCond .le 18, 3) := by decide +kernel
theorem dX0_isComplete_7 : decode cX0_isComplete 7 = .ok (.aload_n 0, 1) := by decide +kernel
theorem dX0_isComplete_8 : decode cX0_isComplete 8 = .ok (.invokevirtual 27, 3) := by decide +kernel
theorem dX0_isComplete_11 : decode cX0_isComplete 11 = .ok (.aload_n 0, 1) := by decide +kernel
theorem dX0_isComplete_12 : decode cX0_isComplete 12 = .ok (.getfield 15, 3) := by decide +kernel
theorem dX0_isComplete_15 : decode cX0_isComplete 15 = .ok (.if_icmp .ne 7, 3) := by decide +kernel
theorem dX0_isComplete_18 : decode cX0_isComplete 18 = .ok (.iconst 1, 1) := by decide +kernel
theorem dX0_isComplete_19 : decode cX0_isComplete 19 = .ok (.goto 4, 3) := by decide +kernel
theorem dX0_isComplete_22 : decode cX0_isComplete 22 = .ok (.iconst 0, 1) := by decide +kernel
theorem dX0_isComplete_23 : decode cX0_isComplete 23 = .ok (.ireturn, 1) := by decide +kernel
theorem dX0_signs_0 : decode cX0_signs 0 = .ok (.iconst 0, 1) := by decide +kernel
theorem dX0_signs_1 : decode cX0_signs 1 = .ok (.istore_n 1, 1) := by decide +kernel
theorem dX0_signs_2 : decode cX0_signs 2 = .ok (.iconst 0, 1) := by decide +kernel
theorem dX0_signs_3 : decode cX0_signs 3 = .ok (.istore_n 2, 1) := by decide +kernel
theorem dX0_signs_4 : decode cX0_signs 4 = .ok (.iload_n 2, 1) := by decide +kernel
theorem dX0_signs_5 : decode cX0_signs 5 = .ok (.aload_n 0, 1) := by decide +kernel
theorem dX0_signs_6 : decode cX0_signs 6 = .ok (.getfield 15, 3) := by decide +kernel
theorem dX0_signs_9 : decode cX0_signs 9 = .ok (.if_icmp .ge 17, 3) := by decide +kernel
theorem dX0_signs_12 : decode cX0_signs 12 = .ok (.iload_n 1, 1) := by decide +kernel
theorem dX0_signs_13 : decode cX0_signs 13 = .ok (.aload_n 0, 1) := by decide +kernel
theorem dX0_signs_14 : decode cX0_signs 14 = .ok (.iload_n 2, 1) := by decide +kernel
theorem dX0_signs_15 : decode cX0_signs 15 = .ok (.invokevirtual 23, 3) := by decide +kernel
theorem dX0_signs_18 : decode cX0_signs 18 = .ok (.iadd, 1) := by decide +kernel
theorem dX0_signs_19 : decode cX0_signs 19 = .ok (.istore_n 1, 1) := by decide +kernel
theorem dX0_signs_20 : decode cX0_signs 20 = .ok (.iinc 2 1, 3) := by decide +kernel
theorem dX0_signs_23 : decode cX0_signs 23 = .ok (.goto (-19), 3) := by decide +kernel
theorem dX0_signs_26 : decode cX0_signs 26 = .ok (.iload_n 1, 1) := by decide +kernel
theorem dX0_signs_27 : decode cX0_signs 27 = .ok (.ireturn, 1) := by decide +kernel
theorem dX0_readInto_0 : decode cX0_readInto 0 = .ok (.iconst 0, 1) := by decide +kernel
theorem dX0_readInto_1 : decode cX0_readInto 1 = .ok (.istore_n 2, 1) := by decide +kernel
theorem dX0_readInto_2 : decode cX0_readInto 2 = .ok (.iconst 0, 1) := by decide +kernel
theorem dX0_readInto_3 : decode cX0_readInto 3 = .ok (.istore_n 3, 1) := by decide +kernel
theorem dX0_readInto_4 : decode cX0_readInto 4 = .ok (.iload_n 3, 1) := by decide +kernel
theorem dX0_readInto_5 : decode cX0_readInto 5 = .ok (.aload_n 0, 1) := by decide +kernel
theorem dX0_readInto_6 : decode cX0_readInto 6 = .ok (.getfield 15, 3) := by decide +kernel
theorem dX0_readInto_9 : decode cX0_readInto 9 = .ok (.if_icmp .ge 61, 3) := by decide +kernel
theorem dX0_readInto_12 : decode cX0_readInto 12 = .ok (.aload_n 0, 1) := by decide +kernel
theorem dX0_readInto_13 : decode cX0_readInto 13 = .ok (.getfield 9, 3) := by decide +kernel
theorem dX0_readInto_16 : decode cX0_readInto 16 = .ok (.iload_n 3, 1) := by decide +kernel
theorem dX0_readInto_17 : decode cX0_readInto 17 = .ok (.iaload, 1) := by decide +kernel
theorem dX0_readInto_18 : decode cX0_readInto 18 = .ok (.invokestatic 19, 3) := by decide +kernel
theorem dX0_readInto_21 : decode cX0_readInto 21 = .ok (.ifCond .eq 15, 3) := by decide +kernel
theorem dX0_readInto_24 : decode cX0_readInto 24 = .ok (.aload_n 0, 1) := by decide +kernel
theorem dX0_readInto_25 : decode cX0_readInto 25 = .ok (.getfield 9, 3) := by decide +kernel
theorem dX0_readInto_28 : decode cX0_readInto 28 = .ok (.iload_n 3, 1) := by decide +kernel
theorem dX0_readInto_29 : decode cX0_readInto 29 = .ok (.iaload, 1) := by decide +kernel
theorem dX0_readInto_30 : decode cX0_readInto 30 = .ok (.bipush 97, 2) := by decide +kernel
theorem dX0_readInto_32 : decode cX0_readInto 32 = .ok (.isub, 1) := by decide +kernel
theorem dX0_readInto_33 : decode cX0_readInto 33 = .ok (.iconst 1, 1) := by decide +kernel
theorem dX0_readInto_34 : decode cX0_readInto 34 = .ok (.iadd, 1) := by decide +kernel
theorem dX0_readInto_35 : decode cX0_readInto 35 = .ok (.istore_n 2, 1) := by decide +kernel
theorem dX0_readInto_36 : decode cX0_readInto 36 = .ok (.aload_n 0, 1) := by decide +kernel
theorem dX0_readInto_37 : decode cX0_readInto 37 = .ok (.iload_n 3, 1) := by decide +kernel
theorem dX0_readInto_38 : decode cX0_readInto 38 = .ok (.invokevirtual 23, 3) := by decide +kernel
theorem dX0_readInto_41 : decode cX0_readInto 41 = .ok (.istore 4, 2) := by decide +kernel
theorem dX0_readInto_43 : decode cX0_readInto 43 = .ok (.iconst 0, 1) := by decide +kernel
theorem dX0_readInto_44 : decode cX0_readInto 44 = .ok (.istore 5, 2) := by decide +kernel
theorem dX0_readInto_46 : decode cX0_readInto 46 = .ok (.iload 5, 2) := by decide +kernel
theorem dX0_readInto_48 : decode cX0_readInto 48 = .ok (.iload 4, 2) := by decide +kernel
theorem dX0_readInto_50 : decode cX0_readInto 50 = .ok (.if_icmp .ge 14, 3) := by decide +kernel
theorem dX0_readInto_53 : decode cX0_readInto 53 = .ok (.aload_n 1, 1) := by decide +kernel
theorem dX0_readInto_54 : decode cX0_readInto 54 = .ok (.iload_n 2, 1) := by decide +kernel
theorem dX0_readInto_55 : decode cX0_readInto 55 = .ok (.invokevirtual 31, 3) := by decide +kernel
theorem dX0_readInto_58 : decode cX0_readInto 58 = .ok (.iinc 5 1, 3) := by decide +kernel
theorem dX0_readInto_61 : decode cX0_readInto 61 = .ok (.goto (-15), 3) := by decide +kernel
theorem dX0_readInto_64 : decode cX0_readInto 64 = .ok (.iinc 3 1, 3) := by decide +kernel
theorem dX0_readInto_67 : decode cX0_readInto 67 = .ok (.goto (-63), 3) := by decide +kernel
theorem dX0_readInto_70 : decode cX0_readInto 70 = .ok (.return_, 1) := by decide +kernel
theorem dX1_init_0 : decode cX1_init 0 = .ok (.aload_n 0, 1) := by decide +kernel
theorem dX1_init_1 : decode cX1_init 1 = .ok (.invokespecial 3, 3) := by decide +kernel
theorem dX1_init_4 : decode cX1_init 4 = .ok (.aload_n 0, 1) := by decide +kernel
theorem dX1_init_5 : decode cX1_init 5 = .ok (.bipush 40, 2) := by decide +kernel
theorem dX1_init_7 : decode cX1_init 7 = .ok (.newarray .int, 2) := by decide +kernel
theorem dX1_init_9 : decode cX1_init 9 = .ok (.putfield 9, 3) := by decide +kernel
theorem dX1_init_12 : decode cX1_init 12 = .ok (.aload_n 0, 1) := by decide +kernel
theorem dX1_init_13 : decode cX1_init 13 = .ok (.iconst 0, 1) := by decide +kernel
theorem dX1_init_14 : decode cX1_init 14 = .ok (.putfield 15, 3) := by decide +kernel
theorem dX1_init_17 : decode cX1_init 17 = .ok (.aload_n 0, 1) := by decide +kernel
theorem dX1_init_18 : decode cX1_init 18 = .ok (.bipush 40, 2) := by decide +kernel
theorem dX1_init_20 : decode cX1_init 20 = .ok (.newarray .int, 2) := by decide +kernel
theorem dX1_init_22 : decode cX1_init 22 = .ok (.putfield 19, 3) := by decide +kernel
theorem dX1_init_25 : decode cX1_init 25 = .ok (.aload_n 0, 1) := by decide +kernel
theorem dX1_init_26 : decode cX1_init 26 = .ok (.bipush 40, 2) := by decide +kernel
theorem dX1_init_28 : decode cX1_init 28 = .ok (.newarray .int, 2) := by decide +kernel
theorem dX1_init_30 : decode cX1_init 30 = .ok (.putfield 22, 3) := by decide +kernel
theorem dX1_init_33 : decode cX1_init 33 = .ok (.aload_n 0, 1) := by decide +kernel
theorem dX1_init_34 : decode cX1_init 34 = .ok (.bipush 40, 2) := by decide +kernel
theorem dX1_init_36 : decode cX1_init 36 = .ok (.newarray .int, 2) := by decide +kernel
theorem dX1_init_38 : decode cX1_init 38 = .ok (.putfield 25, 3) := by decide +kernel
theorem dX1_init_41 : decode cX1_init 41 = .ok (.aload_n 0, 1) := by decide +kernel
theorem dX1_init_42 : decode cX1_init 42 = .ok (.bipush 40, 2) := by decide +kernel
theorem dX1_init_44 : decode cX1_init 44 = .ok (.newarray .long, 2) := by decide +kernel
theorem dX1_init_46 : decode cX1_init 46 = .ok (.putfield 28, 3) := by decide +kernel
theorem dX1_init_49 : decode cX1_init 49 = .ok (.aload_n 0, 1) := by decide +kernel
theorem dX1_init_50 : decode cX1_init 50 = .ok (.iconst 0, 1) := by decide +kernel
theorem dX1_init_51 : decode cX1_init 51 = .ok (.putfield 32, 3) := by decide +kernel
theorem dX1_init_54 : decode cX1_init 54 = .ok (.return_, 1) := by decide +kernel
theorem dX1_clear_0 : decode cX1_clear 0 = .ok (.aload_n 0, 1) := by decide +kernel
theorem dX1_clear_1 : decode cX1_clear 1 = .ok (.iconst 0, 1) := by decide +kernel
theorem dX1_clear_2 : decode cX1_clear 2 = .ok (.putfield 15, 3) := by decide +kernel
theorem dX1_clear_5 : decode cX1_clear 5 = .ok (.aload_n 0, 1) := by decide +kernel
theorem dX1_clear_6 : decode cX1_clear 6 = .ok (.iconst 0, 1) := by decide +kernel
theorem dX1_clear_7 : decode cX1_clear 7 = .ok (.putfield 32, 3) := by decide +kernel
theorem dX1_clear_10 : decode cX1_clear 10 = .ok (.return_, 1) := by decide +kernel
theorem dX1_addSign_0 : decode cX1_addSign 0 = .ok (.aload_n 0, 1) := by decide +kernel
theorem dX1_addSign_1 : decode cX1_addSign 1 = .ok (.getfield 15, 3) := by decide +kernel
theorem dX1_addSign_4 : decode cX1_addSign 4 = .ok (.bipush 40, 2) := by decide +kernel
theorem dX1_addSign_6 : decode cX1_addSign 6 = .ok (.if_icmp .ge 23, 3) := by decide +kernel
theorem dX1_addSign_9 : decode cX1_addSign 9 = .ok (.aload_n 0, 1) := by decide +kernel
theorem dX1_addSign_10 : decode cX1_addSign 10 = .ok (.getfield 9, 3) := by decide +kernel
theorem dX1_addSign_13 : decode cX1_addSign 13 = .ok (.aload_n 0, 1) := by decide +kernel
theorem dX1_addSign_14 : decode cX1_addSign 14 = .ok (.getfield 15, 3) := by decide +kernel
theorem dX1_addSign_17 : decode cX1_addSign 17 = .ok (.iload_n 1, 1) := by decide +kernel
theorem dX1_addSign_18 : decode cX1_addSign 18 = .ok (.iastore, 1) := by decide +kernel
theorem dX1_addSign_19 : decode cX1_addSign 19 = .ok (.aload_n 0, 1) := by decide +kernel
theorem dX1_addSign_20 : decode cX1_addSign 20 = .ok (.dup, 1) := by decide +kernel
theorem dX1_addSign_21 : decode cX1_addSign 21 = .ok (.getfield 15, 3) := by decide +kernel
theorem dX1_addSign_24 : decode cX1_addSign 24 = .ok (.iconst 1, 1) := by decide +kernel
theorem dX1_addSign_25 : decode cX1_addSign 25 = .ok (.iadd, 1) := by decide +kernel
theorem dX1_addSign_26 : decode cX1_addSign 26 = .ok (.putfield 15, 3) := by decide +kernel
theorem dX1_addSign_29 : decode cX1_addSign 29 = .ok (.return_, 1) := by decide +kernel
theorem dX1_addSigns_0 : decode cX1_addSigns 0 = .ok (.iload_n 2, 1) := by decide +kernel
theorem dX1_addSigns_1 : decode cX1_addSigns 1 = .ok (.istore 4, 2) := by decide +kernel
theorem dX1_addSigns_3 : decode cX1_addSigns 3 = .ok (.iload 4, 2) := by decide +kernel
theorem dX1_addSigns_5 : decode cX1_addSigns 5 = .ok (.iload_n 3, 1) := by decide +kernel
theorem dX1_addSigns_6 : decode cX1_addSigns 6 = .ok (.if_icmp .ge 29, 3) := by decide +kernel
theorem dX1_addSigns_9 : decode cX1_addSigns 9 = .ok (.iload 4, 2) := by decide +kernel
theorem dX1_addSigns_11 : decode cX1_addSigns 11 = .ok (.aload_n 1, 1) := by decide +kernel
theorem dX1_addSigns_12 : decode cX1_addSigns 12 = .ok (.getfield 15, 3) := by decide +kernel
theorem dX1_addSigns_15 : decode cX1_addSigns 15 = .ok (.if_icmp .ge 20, 3) := by decide +kernel
theorem dX1_addSigns_18 : decode cX1_addSigns 18 = .ok (.aload_n 0, 1) := by decide +kernel
theorem dX1_addSigns_19 : decode cX1_addSigns 19 = .ok (.aload_n 1, 1) := by decide +kernel
theorem dX1_addSigns_20 : decode cX1_addSigns 20 = .ok (.getfield 9, 3) := by decide +kernel
theorem dX1_addSigns_23 : decode cX1_addSigns 23 = .ok (.iload 4, 2) := by decide +kernel
theorem dX1_addSigns_25 : decode cX1_addSigns 25 = .ok (.iaload, 1) := by decide +kernel
theorem dX1_addSigns_26 : decode cX1_addSigns 26 = .ok (.invokevirtual 35, 3) := by decide +kernel
theorem dX1_addSigns_29 : decode cX1_addSigns 29 = .ok (.iinc 4 1, 3) := by decide +kernel
theorem dX1_addSigns_32 : decode cX1_addSigns 32 = .ok (.goto (-29), 3) := by decide +kernel
theorem dX1_addSigns_35 : decode cX1_addSigns 35 = .ok (.return_, 1) := by decide +kernel
theorem dX1_becomeSignsOf_0 : decode cX1_becomeSignsOf 0 = .ok (.aload_n 0, 1) := by decide +kernel
theorem dX1_becomeSignsOf_1 : decode cX1_becomeSignsOf 1 = .ok (.invokevirtual 39, 3) := by decide +kernel
theorem dX1_becomeSignsOf_4 : decode cX1_becomeSignsOf 4 = .ok (.aload_n 0, 1) := by decide +kernel
theorem dX1_becomeSignsOf_5 : decode cX1_becomeSignsOf 5 = .ok (.aload_n 1, 1) := by decide +kernel
theorem dX1_becomeSignsOf_6 : decode cX1_becomeSignsOf 6 = .ok (.iconst 0, 1) := by decide +kernel
theorem dX1_becomeSignsOf_7 : decode cX1_becomeSignsOf 7 = .ok (.aload_n 1, 1) := by decide +kernel
theorem dX1_becomeSignsOf_8 : decode cX1_becomeSignsOf 8 = .ok (.getfield 15, 3) := by decide +kernel
theorem dX1_becomeSignsOf_11 : decode cX1_becomeSignsOf 11 = .ok (.invokevirtual 42, 3) := by decide +kernel
theorem dX1_becomeSignsOf_14 : decode cX1_becomeSignsOf 14 = .ok (.return_, 1) := by decide +kernel
theorem dX1_become_0 : decode cX1_become 0 = .ok (.aload_n 0, 1) := by decide +kernel
theorem dX1_become_1 : decode cX1_become 1 = .ok (.aload_n 1, 1) := by decide +kernel
theorem dX1_become_2 : decode cX1_become 2 = .ok (.getfield 15, 3) := by decide +kernel
theorem dX1_become_5 : decode cX1_become 5 = .ok (.putfield 15, 3) := by decide +kernel
theorem dX1_become_8 : decode cX1_become 8 = .ok (.aload_n 0, 1) := by decide +kernel
theorem dX1_become_9 : decode cX1_become 9 = .ok (.aload_n 1, 1) := by decide +kernel
theorem dX1_become_10 : decode cX1_become 10 = .ok (.getfield 32, 3) := by decide +kernel
theorem dX1_become_13 : decode cX1_become 13 = .ok (.putfield 32, 3) := by decide +kernel
theorem dX1_become_16 : decode cX1_become 16 = .ok (.aload_n 1, 1) := by decide +kernel
theorem dX1_become_17 : decode cX1_become 17 = .ok (.getfield 9, 3) := by decide +kernel
theorem dX1_become_20 : decode cX1_become 20 = .ok (.iconst 0, 1) := by decide +kernel
theorem dX1_become_21 : decode cX1_become 21 = .ok (.aload_n 0, 1) := by decide +kernel
theorem dX1_become_22 : decode cX1_become 22 = .ok (.getfield 9, 3) := by decide +kernel
theorem dX1_become_25 : decode cX1_become 25 = .ok (.iconst 0, 1) := by decide +kernel
theorem dX1_become_26 : decode cX1_become 26 = .ok (.bipush 40, 2) := by decide +kernel
theorem dX1_become_28 : decode cX1_become 28 = .ok (.invokestatic 46, 3) := by decide +kernel
theorem dX1_become_31 : decode cX1_become 31 = .ok (.aload_n 1, 1) := by decide +kernel
theorem dX1_become_32 : decode cX1_become 32 = .ok (.getfield 19, 3) := by decide +kernel
theorem dX1_become_35 : decode cX1_become 35 = .ok (.iconst 0, 1) := by decide +kernel
theorem dX1_become_36 : decode cX1_become 36 = .ok (.aload_n 0, 1) := by decide +kernel
theorem dX1_become_37 : decode cX1_become 37 = .ok (.getfield 19, 3) := by decide +kernel
theorem dX1_become_40 : decode cX1_become 40 = .ok (.iconst 0, 1) := by decide +kernel
theorem dX1_become_41 : decode cX1_become 41 = .ok (.bipush 40, 2) := by decide +kernel
theorem dX1_become_43 : decode cX1_become 43 = .ok (.invokestatic 46, 3) := by decide +kernel
theorem dX1_become_46 : decode cX1_become 46 = .ok (.aload_n 1, 1) := by decide +kernel
theorem dX1_become_47 : decode cX1_become 47 = .ok (.getfield 22, 3) := by decide +kernel
theorem dX1_become_50 : decode cX1_become 50 = .ok (.iconst 0, 1) := by decide +kernel
theorem dX1_become_51 : decode cX1_become 51 = .ok (.aload_n 0, 1) := by decide +kernel
theorem dX1_become_52 : decode cX1_become 52 = .ok (.getfield 22, 3) := by decide +kernel
theorem dX1_become_55 : decode cX1_become 55 = .ok (.iconst 0, 1) := by decide +kernel
theorem dX1_become_56 : decode cX1_become 56 = .ok (.bipush 40, 2) := by decide +kernel
theorem dX1_become_58 : decode cX1_become 58 = .ok (.invokestatic 46, 3) := by decide +kernel
theorem dX1_become_61 : decode cX1_become 61 = .ok (.aload_n 1, 1) := by decide +kernel
theorem dX1_become_62 : decode cX1_become 62 = .ok (.getfield 25, 3) := by decide +kernel
theorem dX1_become_65 : decode cX1_become 65 = .ok (.iconst 0, 1) := by decide +kernel
theorem dX1_become_66 : decode cX1_become 66 = .ok (.aload_n 0, 1) := by decide +kernel
theorem dX1_become_67 : decode cX1_become 67 = .ok (.getfield 25, 3) := by decide +kernel
theorem dX1_become_70 : decode cX1_become 70 = .ok (.iconst 0, 1) := by decide +kernel
theorem dX1_become_71 : decode cX1_become 71 = .ok (.bipush 40, 2) := by decide +kernel
theorem dX1_become_73 : decode cX1_become 73 = .ok (.invokestatic 46, 3) := by decide +kernel
theorem dX1_become_76 : decode cX1_become 76 = .ok (.aload_n 1, 1) := by decide +kernel
theorem dX1_become_77 : decode cX1_become 77 = .ok (.getfield 28, 3) := by decide +kernel
theorem dX1_become_80 : decode cX1_become 80 = .ok (.iconst 0, 1) := by decide +kernel
theorem dX1_become_81 : decode cX1_become 81 = .ok (.aload_n 0, 1) := by decide +kernel
theorem dX1_become_82 : decode cX1_become 82 = .ok (.getfield 28, 3) := by decide +kernel
theorem dX1_become_85 : decode cX1_become 85 = .ok (.iconst 0, 1) := by decide +kernel
theorem dX1_become_86 : decode cX1_become 86 = .ok (.bipush 40, 2) := by decide +kernel
theorem dX1_become_88 : decode cX1_become 88 = .ok (.invokestatic 46, 3) := by decide +kernel
theorem dX1_become_91 : decode cX1_become 91 = .ok (.return_, 1) := by decide +kernel
theorem dX1_cutBy_0 : decode cX1_cutBy 0 = .ok (.aload_n 0, 1) := by decide +kernel
theorem dX1_cutBy_1 : decode cX1_cutBy 1 = .ok (.iconst 0, 1) := by decide +kernel
theorem dX1_cutBy_2 : decode cX1_cutBy 2 = .ok (.putfield 32, 3) := by decide +kernel
theorem dX1_cutBy_5 : decode cX1_cutBy 5 = .ok (.iconst 0, 1) := by decide +kernel
theorem dX1_cutBy_6 : decode cX1_cutBy 6 = .ok (.istore_n 2, 1) := by decide +kernel
theorem dX1_cutBy_7 : decode cX1_cutBy 7 = .ok (.iconst 0, 1) := by decide +kernel
theorem dX1_cutBy_8 : decode cX1_cutBy 8 = .ok (.istore_n 3, 1) := by decide +kernel
theorem dX1_cutBy_9 : decode cX1_cutBy 9 = .ok (.iload_n 3, 1) := by decide +kernel
theorem dX1_cutBy_10 : decode cX1_cutBy 10 = .ok (.aload_n 0, 1) := by decide +kernel
theorem dX1_cutBy_11 : decode cX1_cutBy 11 = .ok (.getfield 15, 3) := by decide +kernel
theorem dX1_cutBy_14 : decode cX1_cutBy 14 = .ok (.if_icmp .ge 107, 3) := by decide +kernel
theorem dX1_cutBy_17 : decode cX1_cutBy 17 = .ok (.iload_n 3, 1) := by decide +kernel
theorem dX1_cutBy_18 : decode cX1_cutBy 18 = .ok (.iload_n 2, 1) := by decide +kernel
theorem dX1_cutBy_19 : decode cX1_cutBy 19 = .ok (.isub, 1) := by decide +kernel
theorem dX1_cutBy_20 : decode cX1_cutBy 20 = .ok (.iconst 1, 1) := by decide +kernel
theorem dX1_cutBy_21 : decode cX1_cutBy 21 = .ok (.iadd, 1) := by decide +kernel
theorem dX1_cutBy_22 : decode cX1_cutBy 22 = .ok (.istore 4, 2) := by decide +kernel
theorem dX1_cutBy_24 : decode cX1_cutBy 24 = .ok (.iload 4, 2) := by decide +kernel
theorem dX1_cutBy_26 : decode cX1_cutBy 26 = .ok (.aload_n 1, 1) := by decide +kernel
theorem dX1_cutBy_27 : decode cX1_cutBy 27 = .ok (.getfield 52, 3) := by decide +kernel
theorem dX1_cutBy_30 : decode cX1_cutBy 30 = .ok (.iconst 3, 1) := by decide +kernel
theorem dX1_cutBy_31 : decode cX1_cutBy 31 = .ok (.iaload, 1) := by decide +kernel
theorem dX1_cutBy_32 : decode cX1_cutBy 32 = .ok (.if_icmp .lt 16, 3) := by decide +kernel
theorem dX1_cutBy_35 : decode cX1_cutBy 35 = .ok (.aload_n 1, 1) := by decide +kernel
theorem dX1_cutBy_36 : decode cX1_cutBy 36 = .ok (.aload_n 0, 1) := by decide +kernel
theorem dX1_cutBy_37 : decode cX1_cutBy 37 = .ok (.iload_n 3, 1) := by decide +kernel
theorem dX1_cutBy_38 : decode cX1_cutBy 38 = .ok (.invokevirtual 57, 3) := by decide +kernel
theorem dX1_cutBy_41 : decode cX1_cutBy 41 = .ok (.ifCond .eq 7, 3) := by decide +kernel
theorem dX1_cutBy_44 : decode cX1_cutBy 44 = .ok (.iconst 1, 1) := by decide +kernel
theorem dX1_cutBy_45 : decode cX1_cutBy 45 = .ok (.goto 4, 3) := by decide +kernel
theorem dX1_cutBy_48 : decode cX1_cutBy 48 = .ok (.iconst 0, 1) := by decide +kernel
theorem dX1_cutBy_49 : decode cX1_cutBy 49 = .ok (.istore 5, 2) := by decide +kernel
theorem dX1_cutBy_51 : decode cX1_cutBy 51 = .ok (.iload 4, 2) := by decide +kernel
theorem dX1_cutBy_53 : decode cX1_cutBy 53 = .ok (.aload_n 1, 1) := by decide +kernel
theorem dX1_cutBy_54 : decode cX1_cutBy 54 = .ok (.getfield 52, 3) := by decide +kernel
theorem dX1_cutBy_57 : decode cX1_cutBy 57 = .ok (.iconst 4, 1) := by decide +kernel
theorem dX1_cutBy_58 : decode cX1_cutBy 58 = .ok (.iaload, 1) := by decide +kernel
theorem dX1_cutBy_59 : decode cX1_cutBy 59 = .ok (.if_icmp .lt 7, 3) := by decide +kernel
theorem dX1_cutBy_62 : decode cX1_cutBy 62 = .ok (.iconst 1, 1) := by decide +kernel
theorem dX1_cutBy_63 : decode cX1_cutBy 63 = .ok (.goto 4, 3) := by decide +kernel
theorem dX1_cutBy_66 : decode cX1_cutBy 66 = .ok (.iconst 0, 1) := by decide +kernel
theorem dX1_cutBy_67 : decode cX1_cutBy 67 = .ok (.istore 6, 2) := by decide +kernel
theorem dX1_cutBy_69 : decode cX1_cutBy 69 = .ok (.iload 5, 2) := by decide +kernel
theorem dX1_cutBy_71 : decode cX1_cutBy 71 = .ok (.ifCond .ne 18, 3) := by decide +kernel
theorem dX1_cutBy_74 : decode cX1_cutBy 74 = .ok (.iload 6, 2) := by decide +kernel
theorem dX1_cutBy_76 : decode cX1_cutBy 76 = .ok (.ifCond .ne 13, 3) := by decide +kernel
theorem dX1_cutBy_79 : decode cX1_cutBy 79 = .ok (.iload_n 3, 1) := by decide +kernel
theorem dX1_cutBy_80 : decode cX1_cutBy 80 = .ok (.aload_n 0, 1) := by decide +kernel
theorem dX1_cutBy_81 : decode cX1_cutBy 81 = .ok (.getfield 15, 3) := by decide +kernel
theorem dX1_cutBy_84 : decode cX1_cutBy 84 = .ok (.iconst 1, 1) := by decide +kernel
theorem dX1_cutBy_85 : decode cX1_cutBy 85 = .ok (.isub, 1) := by decide +kernel
theorem dX1_cutBy_86 : decode cX1_cutBy 86 = .ok (.if_icmp .ne 29, 3) := by decide +kernel
theorem dX1_cutBy_89 : decode cX1_cutBy 89 = .ok (.aload_n 0, 1) := by decide +kernel
theorem dX1_cutBy_90 : decode cX1_cutBy 90 = .ok (.iload_n 2, 1) := by decide +kernel
theorem dX1_cutBy_91 : decode cX1_cutBy 91 = .ok (.iload 4, 2) := by decide +kernel
theorem dX1_cutBy_93 : decode cX1_cutBy 93 = .ok (.iload 6, 2) := by decide +kernel
theorem dX1_cutBy_95 : decode cX1_cutBy 95 = .ok (.ifCond .eq 12, 3) := by decide +kernel
theorem dX1_cutBy_98 : decode cX1_cutBy 98 = .ok (.iload 5, 2) := by decide +kernel
theorem dX1_cutBy_100 : decode cX1_cutBy 100 = .ok (.ifCond .ne 7, 3) := by decide +kernel
theorem dX1_cutBy_103 : decode cX1_cutBy 103 = .ok (.iconst 1, 1) := by decide +kernel
theorem dX1_cutBy_104 : decode cX1_cutBy 104 = .ok (.goto 4, 3) := by decide +kernel
theorem dX1_cutBy_107 : decode cX1_cutBy 107 = .ok (.iconst 0, 1) := by decide +kernel
theorem dX1_cutBy_108 : decode cX1_cutBy 108 = .ok (.invokevirtual 61, 3) := by decide +kernel
theorem dX1_cutBy_111 : decode cX1_cutBy 111 = .ok (.iload_n 3, 1) := by decide +kernel
theorem dX1_cutBy_112 : decode cX1_cutBy 112 = .ok (.iconst 1, 1) := by decide +kernel
theorem dX1_cutBy_113 : decode cX1_cutBy 113 = .ok (.iadd, 1) := by decide +kernel
theorem dX1_cutBy_114 : decode cX1_cutBy 114 = .ok (.istore_n 2, 1) := by decide +kernel
theorem dX1_cutBy_115 : decode cX1_cutBy 115 = .ok (.iinc 3 1, 3) := by decide +kernel
theorem dX1_cutBy_118 : decode cX1_cutBy 118 = .ok (.goto (-109), 3) := by decide +kernel
theorem dX1_cutBy_121 : decode cX1_cutBy 121 = .ok (.return_, 1) := by decide +kernel
theorem dX1_addPiece_0 : decode cX1_addPiece 0 = .ok (.aload_n 0, 1) := by decide +kernel
theorem dX1_addPiece_1 : decode cX1_addPiece 1 = .ok (.getfield 32, 3) := by decide +kernel
theorem dX1_addPiece_4 : decode cX1_addPiece 4 = .ok (.bipush 40, 2) := by decide +kernel
theorem dX1_addPiece_6 : decode cX1_addPiece 6 = .ok (.if_icmp .ge 66, 3) := by decide +kernel
theorem dX1_addPiece_9 : decode cX1_addPiece 9 = .ok (.aload_n 0, 1) := by decide +kernel
theorem dX1_addPiece_10 : decode cX1_addPiece 10 = .ok (.getfield 19, 3) := by decide +kernel
theorem dX1_addPiece_13 : decode cX1_addPiece 13 = .ok (.aload_n 0, 1) := by decide +kernel
theorem dX1_addPiece_14 : decode cX1_addPiece 14 = .ok (.getfield 32, 3) := by decide +kernel
theorem dX1_addPiece_17 : decode cX1_addPiece 17 = .ok (.iload_n 1, 1) := by decide +kernel
theorem dX1_addPiece_18 : decode cX1_addPiece 18 = .ok (.iastore, 1) := by decide +kernel
theorem dX1_addPiece_19 : decode cX1_addPiece 19 = .ok (.aload_n 0, 1) := by decide +kernel
theorem dX1_addPiece_20 : decode cX1_addPiece 20 = .ok (.getfield 22, 3) := by decide +kernel
theorem dX1_addPiece_23 : decode cX1_addPiece 23 = .ok (.aload_n 0, 1) := by decide +kernel
theorem dX1_addPiece_24 : decode cX1_addPiece 24 = .ok (.getfield 32, 3) := by decide +kernel
theorem dX1_addPiece_27 : decode cX1_addPiece 27 = .ok (.iload_n 2, 1) := by decide +kernel
theorem dX1_addPiece_28 : decode cX1_addPiece 28 = .ok (.iastore, 1) := by decide +kernel
theorem dX1_addPiece_29 : decode cX1_addPiece 29 = .ok (.aload_n 0, 1) := by decide +kernel
theorem dX1_addPiece_30 : decode cX1_addPiece 30 = .ok (.getfield 25, 3) := by decide +kernel
theorem dX1_addPiece_33 : decode cX1_addPiece 33 = .ok (.aload_n 0, 1) := by decide +kernel
theorem dX1_addPiece_34 : decode cX1_addPiece 34 = .ok (.getfield 32, 3) := by decide +kernel
theorem dX1_addPiece_37 : decode cX1_addPiece 37 = .ok (.iload_n 3, 1) := by decide +kernel
theorem dX1_addPiece_38 : decode cX1_addPiece 38 = .ok (.ifCond .eq 7, 3) := by decide +kernel
theorem dX1_addPiece_41 : decode cX1_addPiece 41 = .ok (.iconst 1, 1) := by decide +kernel
theorem dX1_addPiece_42 : decode cX1_addPiece 42 = .ok (.goto 4, 3) := by decide +kernel
theorem dX1_addPiece_45 : decode cX1_addPiece 45 = .ok (.iconst 0, 1) := by decide +kernel
theorem dX1_addPiece_46 : decode cX1_addPiece 46 = .ok (.iastore, 1) := by decide +kernel
theorem dX1_addPiece_47 : decode cX1_addPiece 47 = .ok (.aload_n 0, 1) := by decide +kernel
theorem dX1_addPiece_48 : decode cX1_addPiece 48 = .ok (.getfield 28, 3) := by decide +kernel
theorem dX1_addPiece_51 : decode cX1_addPiece 51 = .ok (.aload_n 0, 1) := by decide +kernel
theorem dX1_addPiece_52 : decode cX1_addPiece 52 = .ok (.getfield 32, 3) := by decide +kernel
theorem dX1_addPiece_55 : decode cX1_addPiece 55 = .ok (.aload_n 0, 1) := by decide +kernel
theorem dX1_addPiece_56 : decode cX1_addPiece 56 = .ok (.iload_n 1, 1) := by decide +kernel
theorem dX1_addPiece_57 : decode cX1_addPiece 57 = .ok (.iload_n 2, 1) := by decide +kernel
theorem dX1_addPiece_58 : decode cX1_addPiece 58 = .ok (.invokevirtual 65, 3) := by decide +kernel
theorem dX1_addPiece_61 : decode cX1_addPiece 61 = .ok (.lastore, 1) := by decide +kernel
theorem dX1_addPiece_62 : decode cX1_addPiece 62 = .ok (.aload_n 0, 1) := by decide +kernel
theorem dX1_addPiece_63 : decode cX1_addPiece 63 = .ok (.dup, 1) := by decide +kernel
theorem dX1_addPiece_64 : decode cX1_addPiece 64 = .ok (.getfield 32, 3) := by decide +kernel
theorem dX1_addPiece_67 : decode cX1_addPiece 67 = .ok (.iconst 1, 1) := by decide +kernel
theorem dX1_addPiece_68 : decode cX1_addPiece 68 = .ok (.iadd, 1) := by decide +kernel
theorem dX1_addPiece_69 : decode cX1_addPiece 69 = .ok (.putfield 32, 3) := by decide +kernel
theorem dX1_addPiece_72 : decode cX1_addPiece 72 = .ok (.return_, 1) := by decide +kernel
theorem dX1_packed_0 : decode cX1_packed 0 = .ok (.lconst 1, 1) := by decide +kernel
theorem dX1_packed_1 : decode cX1_packed 1 = .ok (.lstore_n 3, 1) := by decide +kernel
theorem dX1_packed_2 : decode cX1_packed 2 = .ok (.iload_n 1, 1) := by decide +kernel
theorem dX1_packed_3 : decode cX1_packed 3 = .ok (.istore 5, 2) := by decide +kernel
theorem dX1_packed_5 : decode cX1_packed 5 = .ok (.iload 5, 2) := by decide +kernel
theorem dX1_packed_7 : decode cX1_packed 7 = .ok (.iload_n 1, 1) := by decide +kernel
theorem dX1_packed_8 : decode cX1_packed 8 = .ok (.iload_n 2, 1) := by decide +kernel
theorem dX1_packed_9 : decode cX1_packed 9 = .ok (.iadd, 1) := by decide +kernel
theorem dX1_packed_10 : decode cX1_packed 10 = .ok (.if_icmp .ge 24, 3) := by decide +kernel
theorem dX1_packed_13 : decode cX1_packed 13 = .ok (.lload_n 3, 1) := by decide +kernel
theorem dX1_packed_14 : decode cX1_packed 14 = .ok (.iconst 3, 1) := by decide +kernel
theorem dX1_packed_15 : decode cX1_packed 15 = .ok (.lshl, 1) := by decide +kernel
theorem dX1_packed_16 : decode cX1_packed 16 = .ok (.aload_n 0, 1) := by decide +kernel
theorem dX1_packed_17 : decode cX1_packed 17 = .ok (.getfield 9, 3) := by decide +kernel
theorem dX1_packed_20 : decode cX1_packed 20 = .ok (.iload 5, 2) := by decide +kernel
theorem dX1_packed_22 : decode cX1_packed 22 = .ok (.iaload, 1) := by decide +kernel
theorem dX1_packed_23 : decode cX1_packed 23 = .ok (.iconst 1, 1) := by decide +kernel
theorem dX1_packed_24 : decode cX1_packed 24 = .ok (.isub, 1) := by decide +kernel
theorem dX1_packed_25 : decode cX1_packed 25 = .ok (.i2l, 1) := by decide +kernel
theorem dX1_packed_26 : decode cX1_packed 26 = .ok (.lor, 1) := by decide +kernel
theorem dX1_packed_27 : decode cX1_packed 27 = .ok (.lstore_n 3, 1) := by decide +kernel
theorem dX1_packed_28 : decode cX1_packed 28 = .ok (.iinc 5 1, 3) := by decide +kernel
theorem dX1_packed_31 : decode cX1_packed 31 = .ok (.goto (-26), 3) := by decide +kernel
theorem dX1_packed_34 : decode cX1_packed 34 = .ok (.lload_n 3, 1) := by decide +kernel
theorem dX1_packed_35 : decode cX1_packed 35 = .ok (.lreturn, 1) := by decide +kernel
theorem dX1_pieceAt_0 : decode cX1_pieceAt 0 = .ok (.iconst 0, 1) := by decide +kernel
theorem dX1_pieceAt_1 : decode cX1_pieceAt 1 = .ok (.istore_n 2, 1) := by decide +kernel
theorem dX1_pieceAt_2 : decode cX1_pieceAt 2 = .ok (.iload_n 2, 1) := by decide +kernel
theorem dX1_pieceAt_3 : decode cX1_pieceAt 3 = .ok (.aload_n 0, 1) := by decide +kernel
theorem dX1_pieceAt_4 : decode cX1_pieceAt 4 = .ok (.getfield 32, 3) := by decide +kernel
theorem dX1_pieceAt_7 : decode cX1_pieceAt 7 = .ok (.iconst 1, 1) := by decide +kernel
theorem dX1_pieceAt_8 : decode cX1_pieceAt 8 = .ok (.isub, 1) := by decide +kernel
theorem dX1_pieceAt_9 : decode cX1_pieceAt 9 = .ok (.if_icmp .ge 26, 3) := by decide +kernel
theorem dX1_pieceAt_12 : decode cX1_pieceAt 12 = .ok (.iload_n 1, 1) := by decide +kernel
theorem dX1_pieceAt_13 : decode cX1_pieceAt 13 = .ok (.aload_n 0, 1) := by decide +kernel
theorem dX1_pieceAt_14 : decode cX1_pieceAt 14 = .ok (.getfield 19, 3) := by decide +kernel
theorem dX1_pieceAt_17 : decode cX1_pieceAt 17 = .ok (.iload_n 2, 1) := by decide +kernel
theorem dX1_pieceAt_18 : decode cX1_pieceAt 18 = .ok (.iaload, 1) := by decide +kernel
theorem dX1_pieceAt_19 : decode cX1_pieceAt 19 = .ok (.aload_n 0, 1) := by decide +kernel
theorem dX1_pieceAt_20 : decode cX1_pieceAt 20 = .ok (.getfield 22, 3) := by decide +kernel
theorem dX1_pieceAt_23 : decode cX1_pieceAt 23 = .ok (.iload_n 2, 1) := by decide +kernel
theorem dX1_pieceAt_24 : decode cX1_pieceAt 24 = .ok (.iaload, 1) := by decide +kernel
theorem dX1_pieceAt_25 : decode cX1_pieceAt 25 = .ok (.iadd, 1) := by decide +kernel
theorem dX1_pieceAt_26 : decode cX1_pieceAt 26 = .ok (.if_icmp .lt 9, 3) := by decide +kernel
theorem dX1_pieceAt_29 : decode cX1_pieceAt 29 = .ok (.iinc 2 1, 3) := by decide +kernel
theorem dX1_pieceAt_32 : decode cX1_pieceAt 32 = .ok (.goto (-30), 3) := by decide +kernel
theorem dX1_pieceAt_35 : decode cX1_pieceAt 35 = .ok (.iload_n 2, 1) := by decide +kernel
theorem dX1_pieceAt_36 : decode cX1_pieceAt 36 = .ok (.ireturn, 1) := by decide +kernel
theorem dX1_endsBehind_0 : decode cX1_endsBehind 0 = .ok (.aload_n 0, 1) := by decide +kernel
theorem dX1_endsBehind_1 : decode cX1_endsBehind 1 = .ok (.iload_n 1, 1) := by decide +kernel
theorem dX1_endsBehind_2 : decode cX1_endsBehind 2 = .ok (.invokevirtual 69, 3) := by decide +kernel
theorem dX1_endsBehind_5 : decode cX1_endsBehind 5 = .ok (.istore_n 2, 1) := by decide +kernel
theorem dX1_endsBehind_6 : decode cX1_endsBehind 6 = .ok (.iload_n 2, 1) := by decide +kernel
theorem dX1_endsBehind_7 : decode cX1_endsBehind 7 = .ok (.aload_n 0, 1) := by decide +kernel
theorem dX1_endsBehind_8 : decode cX1_endsBehind 8 = .ok (.getfield 32, 3) := by decide +kernel
theorem dX1_endsBehind_11 : decode cX1_endsBehind 11 = .ok (.if_icmp .ge 26, 3) := by decide +kernel
theorem dX1_endsBehind_14 : decode cX1_endsBehind 14 = .ok (.iload_n 1, 1) := by decide +kernel
theorem dX1_endsBehind_15 : decode cX1_endsBehind 15 = .ok (.aload_n 0, 1) := by decide +kernel
theorem dX1_endsBehind_16 : decode cX1_endsBehind 16 = .ok (.getfield 19, 3) := by decide +kernel
theorem dX1_endsBehind_19 : decode cX1_endsBehind 19 = .ok (.iload_n 2, 1) := by decide +kernel
theorem dX1_endsBehind_20 : decode cX1_endsBehind 20 = .ok (.iaload, 1) := by decide +kernel
theorem dX1_endsBehind_21 : decode cX1_endsBehind 21 = .ok (.aload_n 0, 1) := by decide +kernel
theorem dX1_endsBehind_22 : decode cX1_endsBehind 22 = .ok (.getfield 22, 3) := by decide +kernel
theorem dX1_endsBehind_25 : decode cX1_endsBehind 25 = .ok (.iload_n 2, 1) := by decide +kernel
theorem dX1_endsBehind_26 : decode cX1_endsBehind 26 = .ok (.iaload, 1) := by decide +kernel
theorem dX1_endsBehind_27 : decode cX1_endsBehind 27 = .ok (.iadd, 1) := by decide +kernel
theorem dX1_endsBehind_28 : decode cX1_endsBehind 28 = .ok (.iconst 1, 1) := by decide +kernel
theorem dX1_endsBehind_29 : decode cX1_endsBehind 29 = .ok (.isub, 1) := by decide +kernel
theorem dX1_endsBehind_30 : decode cX1_endsBehind 30 = .ok (.if_icmp .ne 7, 3) := by decide +kernel
theorem dX1_endsBehind_33 : decode cX1_endsBehind 33 = .ok (.iconst 1, 1) := by decide +kernel
theorem dX1_endsBehind_34 : decode cX1_endsBehind 34 = .ok (.goto 4, 3) := by decide +kernel
theorem dX1_endsBehind_37 : decode cX1_endsBehind 37 = .ok (.iconst 0, 1) := by decide +kernel
theorem dX1_endsBehind_38 : decode cX1_endsBehind 38 = .ok (.ireturn, 1) := by decide +kernel
theorem dX1_has_0 : decode cX1_has 0 = .ok (.aload_n 0, 1) := by decide +kernel
theorem dX1_has_1 : decode cX1_has 1 = .ok (.aload_n 0, 1) := by decide +kernel
theorem dX1_has_2 : decode cX1_has 2 = .ok (.getfield 32, 3) := by decide +kernel
theorem dX1_has_5 : decode cX1_has 5 = .ok (.lload_n 1, 1) := by decide +kernel
theorem dX1_has_6 : decode cX1_has 6 = .ok (.invokevirtual 73, 3) := by decide +kernel
theorem dX1_has_9 : decode cX1_has 9 = .ok (.ireturn, 1) := by decide +kernel
theorem dX1_hasAheadOf_0 : decode cX1_hasAheadOf 0 = .ok (.iconst 0, 1) := by decide +kernel
theorem dX1_hasAheadOf_1 : decode cX1_hasAheadOf 1 = .ok (.istore 4, 2) := by decide +kernel
theorem dX1_hasAheadOf_3 : decode cX1_hasAheadOf 3 = .ok (.iload 4, 2) := by decide +kernel
theorem dX1_hasAheadOf_5 : decode cX1_hasAheadOf 5 = .ok (.iload_n 1, 1) := by decide +kernel
theorem dX1_hasAheadOf_6 : decode cX1_hasAheadOf 6 = .ok (.if_icmp .ge 32, 3) := by decide +kernel
theorem dX1_hasAheadOf_9 : decode cX1_hasAheadOf 9 = .ok (.iload 4, 2) := by decide +kernel
theorem dX1_hasAheadOf_11 : decode cX1_hasAheadOf 11 = .ok (.aload_n 0, 1) := by decide +kernel
theorem dX1_hasAheadOf_12 : decode cX1_hasAheadOf 12 = .ok (.getfield 32, 3) := by decide +kernel
theorem dX1_hasAheadOf_15 : decode cX1_hasAheadOf 15 = .ok (.if_icmp .ge 23, 3) := by decide +kernel
theorem dX1_hasAheadOf_18 : decode cX1_hasAheadOf 18 = .ok (.aload_n 0, 1) := by decide +kernel
theorem dX1_hasAheadOf_19 : decode cX1_hasAheadOf 19 = .ok (.getfield 28, 3) := by decide +kernel
theorem dX1_hasAheadOf_22 : decode cX1_hasAheadOf 22 = .ok (.iload 4, 2) := by decide +kernel
theorem dX1_hasAheadOf_24 : decode cX1_hasAheadOf 24 = .ok (.laload, 1) := by decide +kernel
theorem dX1_hasAheadOf_25 : decode cX1_hasAheadOf 25 = .ok (.lload_n 2, 1) := by decide +kernel
theorem dX1_hasAheadOf_26 : decode cX1_hasAheadOf 26 = .ok (.lcmp, 1) := by decide +kernel
theorem dX1_hasAheadOf_27 : decode cX1_hasAheadOf 27 = .ok (.ifCond .ne 5, 3) := by decide +kernel
theorem dX1_hasAheadOf_30 : decode cX1_hasAheadOf 30 = .ok (.iconst 1, 1) := by decide +kernel
theorem dX1_hasAheadOf_31 : decode cX1_hasAheadOf 31 = .ok (.ireturn, 1) := by decide +kernel
theorem dX1_hasAheadOf_32 : decode cX1_hasAheadOf 32 = .ok (.iinc 4 1, 3) := by decide +kernel
theorem dX1_hasAheadOf_35 : decode cX1_hasAheadOf 35 = .ok (.goto (-32), 3) := by decide +kernel
theorem dX1_hasAheadOf_38 : decode cX1_hasAheadOf 38 = .ok (.iconst 0, 1) := by decide +kernel
theorem dX1_hasAheadOf_39 : decode cX1_hasAheadOf 39 = .ok (.ireturn, 1) := by decide +kernel
theorem dX1_unlikePieces_0 : decode cX1_unlikePieces 0 = .ok (.aload_n 0, 1) := by decide +kernel
theorem dX1_unlikePieces_1 : decode cX1_unlikePieces 1 = .ok (.aload_n 0, 1) := by decide +kernel
theorem dX1_unlikePieces_2 : decode cX1_unlikePieces 2 = .ok (.invokevirtual 77, 3) := by decide +kernel
theorem dX1_unlikePieces_5 : decode cX1_unlikePieces 5 = .ok (.ireturn, 1) := by decide +kernel
theorem dX1_unlikePiecesAlsoIn_0 : decode cX1_unlikePiecesAlsoIn 0 = .ok (.iconst 0, 1) := by decide +kernel
theorem dX1_unlikePiecesAlsoIn_1 : decode cX1_unlikePiecesAlsoIn 1 = .ok (.istore_n 2, 1) := by decide +kernel
theorem dX1_unlikePiecesAlsoIn_2 : decode cX1_unlikePiecesAlsoIn 2 = .ok (.iconst 0, 1) := by decide +kernel
theorem dX1_unlikePiecesAlsoIn_3 : decode cX1_unlikePiecesAlsoIn 3 = .ok (.istore_n 3, 1) := by decide +kernel
theorem dX1_unlikePiecesAlsoIn_4 : decode cX1_unlikePiecesAlsoIn 4 = .ok (.iload_n 3, 1) := by decide +kernel
theorem dX1_unlikePiecesAlsoIn_5 : decode cX1_unlikePiecesAlsoIn 5 = .ok (.aload_n 0, 1) := by decide +kernel
theorem dX1_unlikePiecesAlsoIn_6 : decode cX1_unlikePiecesAlsoIn 6 = .ok (.getfield 32, 3) := by decide +kernel
theorem dX1_unlikePiecesAlsoIn_9 : decode cX1_unlikePiecesAlsoIn 9 = .ok (.if_icmp .ge 39, 3) := by decide +kernel
theorem dX1_unlikePiecesAlsoIn_12 : decode cX1_unlikePiecesAlsoIn 12 = .ok (.aload_n 0, 1) := by decide +kernel
theorem dX1_unlikePiecesAlsoIn_13 : decode cX1_unlikePiecesAlsoIn 13 = .ok (.iload_n 3, 1) := by decide +kernel
theorem dX1_unlikePiecesAlsoIn_14 : decode cX1_unlikePiecesAlsoIn 14 = .ok (.aload_n 0, 1) := by decide +kernel
theorem dX1_unlikePiecesAlsoIn_15 : decode cX1_unlikePiecesAlsoIn 15 = .ok (.getfield 28, 3) := by decide +kernel
theorem dX1_unlikePiecesAlsoIn_18 : decode cX1_unlikePiecesAlsoIn 18 = .ok (.iload_n 3, 1) := by decide +kernel
theorem dX1_unlikePiecesAlsoIn_19 : decode cX1_unlikePiecesAlsoIn 19 = .ok (.laload, 1) := by decide +kernel
theorem dX1_unlikePiecesAlsoIn_20 : decode cX1_unlikePiecesAlsoIn 20 = .ok (.invokevirtual 73, 3) := by decide +kernel
theorem dX1_unlikePiecesAlsoIn_23 : decode cX1_unlikePiecesAlsoIn 23 = .ok (.ifCond .ne 19, 3) := by decide +kernel
theorem dX1_unlikePiecesAlsoIn_26 : decode cX1_unlikePiecesAlsoIn 26 = .ok (.aload_n 1, 1) := by decide +kernel
theorem dX1_unlikePiecesAlsoIn_27 : decode cX1_unlikePiecesAlsoIn 27 = .ok (.aload_n 0, 1) := by decide +kernel
theorem dX1_unlikePiecesAlsoIn_28 : decode cX1_unlikePiecesAlsoIn 28 = .ok (.getfield 28, 3) := by decide +kernel
theorem dX1_unlikePiecesAlsoIn_31 : decode cX1_unlikePiecesAlsoIn 31 = .ok (.iload_n 3, 1) := by decide +kernel
theorem dX1_unlikePiecesAlsoIn_32 : decode cX1_unlikePiecesAlsoIn 32 = .ok (.laload, 1) := by decide +kernel
theorem dX1_unlikePiecesAlsoIn_33 : decode cX1_unlikePiecesAlsoIn 33 = .ok (.invokevirtual 81, 3) := by decide +kernel
theorem dX1_unlikePiecesAlsoIn_36 : decode cX1_unlikePiecesAlsoIn 36 = .ok (.ifCond .eq 6, 3) := by decide +kernel
theorem dX1_unlikePiecesAlsoIn_39 : decode cX1_unlikePiecesAlsoIn 39 = .ok (.iinc 2 1, 3) := by decide +kernel
theorem dX1_unlikePiecesAlsoIn_42 : decode cX1_unlikePiecesAlsoIn 42 = .ok (.iinc 3 1, 3) := by decide +kernel
theorem dX1_unlikePiecesAlsoIn_45 : decode cX1_unlikePiecesAlsoIn 45 = .ok (.goto (-41), 3) := by decide +kernel
theorem dX1_unlikePiecesAlsoIn_48 : decode cX1_unlikePiecesAlsoIn 48 = .ok (.iload_n 2, 1) := by decide +kernel
theorem dX1_unlikePiecesAlsoIn_49 : decode cX1_unlikePiecesAlsoIn 49 = .ok (.ireturn, 1) := by decide +kernel
theorem dX1_signsAlsoIn_0 : decode cX1_signsAlsoIn 0 = .ok (.iconst 0, 1) := by decide +kernel
theorem dX1_signsAlsoIn_1 : decode cX1_signsAlsoIn 1 = .ok (.istore_n 2, 1) := by decide +kernel
theorem dX1_signsAlsoIn_2 : decode cX1_signsAlsoIn 2 = .ok (.iconst 0, 1) := by decide +kernel
theorem dX1_signsAlsoIn_3 : decode cX1_signsAlsoIn 3 = .ok (.istore_n 3, 1) := by decide +kernel
theorem dX1_signsAlsoIn_4 : decode cX1_signsAlsoIn 4 = .ok (.iload_n 3, 1) := by decide +kernel
theorem dX1_signsAlsoIn_5 : decode cX1_signsAlsoIn 5 = .ok (.aload_n 0, 1) := by decide +kernel
theorem dX1_signsAlsoIn_6 : decode cX1_signsAlsoIn 6 = .ok (.getfield 32, 3) := by decide +kernel
theorem dX1_signsAlsoIn_9 : decode cX1_signsAlsoIn 9 = .ok (.if_icmp .ge 31, 3) := by decide +kernel
theorem dX1_signsAlsoIn_12 : decode cX1_signsAlsoIn 12 = .ok (.aload_n 1, 1) := by decide +kernel
theorem dX1_signsAlsoIn_13 : decode cX1_signsAlsoIn 13 = .ok (.aload_n 0, 1) := by decide +kernel
theorem dX1_signsAlsoIn_14 : decode cX1_signsAlsoIn 14 = .ok (.getfield 28, 3) := by decide +kernel
theorem dX1_signsAlsoIn_17 : decode cX1_signsAlsoIn 17 = .ok (.iload_n 3, 1) := by decide +kernel
theorem dX1_signsAlsoIn_18 : decode cX1_signsAlsoIn 18 = .ok (.laload, 1) := by decide +kernel
theorem dX1_signsAlsoIn_19 : decode cX1_signsAlsoIn 19 = .ok (.invokevirtual 81, 3) := by decide +kernel
theorem dX1_signsAlsoIn_22 : decode cX1_signsAlsoIn 22 = .ok (.ifCond .eq 12, 3) := by decide +kernel
theorem dX1_signsAlsoIn_25 : decode cX1_signsAlsoIn 25 = .ok (.iload_n 2, 1) := by decide +kernel
theorem dX1_signsAlsoIn_26 : decode cX1_signsAlsoIn 26 = .ok (.aload_n 0, 1) := by decide +kernel
theorem dX1_signsAlsoIn_27 : decode cX1_signsAlsoIn 27 = .ok (.getfield 22, 3) := by decide +kernel
theorem dX1_signsAlsoIn_30 : decode cX1_signsAlsoIn 30 = .ok (.iload_n 3, 1) := by decide +kernel
theorem dX1_signsAlsoIn_31 : decode cX1_signsAlsoIn 31 = .ok (.iaload, 1) := by decide +kernel
theorem dX1_signsAlsoIn_32 : decode cX1_signsAlsoIn 32 = .ok (.iadd, 1) := by decide +kernel
theorem dX1_signsAlsoIn_33 : decode cX1_signsAlsoIn 33 = .ok (.istore_n 2, 1) := by decide +kernel
theorem dX1_signsAlsoIn_34 : decode cX1_signsAlsoIn 34 = .ok (.iinc 3 1, 3) := by decide +kernel
theorem dX1_signsAlsoIn_37 : decode cX1_signsAlsoIn 37 = .ok (.goto (-33), 3) := by decide +kernel
theorem dX1_signsAlsoIn_40 : decode cX1_signsAlsoIn 40 = .ok (.iload_n 2, 1) := by decide +kernel
theorem dX1_signsAlsoIn_41 : decode cX1_signsAlsoIn 41 = .ok (.ireturn, 1) := by decide +kernel
theorem dX1_piecesBegunLike_0 : decode cX1_piecesBegunLike 0 = .ok (.iconst 0, 1) := by decide +kernel
theorem dX1_piecesBegunLike_1 : decode cX1_piecesBegunLike 1 = .ok (.istore_n 2, 1) := by decide +kernel
theorem dX1_piecesBegunLike_2 : decode cX1_piecesBegunLike 2 = .ok (.iload_n 2, 1) := by decide +kernel
theorem dX1_piecesBegunLike_3 : decode cX1_piecesBegunLike 3 = .ok (.aload_n 0, 1) := by decide +kernel
theorem dX1_piecesBegunLike_4 : decode cX1_piecesBegunLike 4 = .ok (.getfield 32, 3) := by decide +kernel
theorem dX1_piecesBegunLike_7 : decode cX1_piecesBegunLike 7 = .ok (.if_icmp .ge 33, 3) := by decide +kernel
theorem dX1_piecesBegunLike_10 : decode cX1_piecesBegunLike 10 = .ok (.iload_n 2, 1) := by decide +kernel
theorem dX1_piecesBegunLike_11 : decode cX1_piecesBegunLike 11 = .ok (.aload_n 1, 1) := by decide +kernel
theorem dX1_piecesBegunLike_12 : decode cX1_piecesBegunLike 12 = .ok (.getfield 32, 3) := by decide +kernel
theorem dX1_piecesBegunLike_15 : decode cX1_piecesBegunLike 15 = .ok (.if_icmp .ge 25, 3) := by decide +kernel
theorem dX1_piecesBegunLike_18 : decode cX1_piecesBegunLike 18 = .ok (.aload_n 0, 1) := by decide +kernel
theorem dX1_piecesBegunLike_19 : decode cX1_piecesBegunLike 19 = .ok (.getfield 28, 3) := by decide +kernel
theorem dX1_piecesBegunLike_22 : decode cX1_piecesBegunLike 22 = .ok (.iload_n 2, 1) := by decide +kernel
theorem dX1_piecesBegunLike_23 : decode cX1_piecesBegunLike 23 = .ok (.laload, 1) := by decide +kernel
theorem dX1_piecesBegunLike_24 : decode cX1_piecesBegunLike 24 = .ok (.aload_n 1, 1) := by decide +kernel
theorem dX1_piecesBegunLike_25 : decode cX1_piecesBegunLike 25 = .ok (.getfield 28, 3) := by decide +kernel
theorem dX1_piecesBegunLike_28 : decode cX1_piecesBegunLike 28 = .ok (.iload_n 2, 1) := by decide +kernel
theorem dX1_piecesBegunLike_29 : decode cX1_piecesBegunLike 29 = .ok (.laload, 1) := by decide +kernel
theorem dX1_piecesBegunLike_30 : decode cX1_piecesBegunLike 30 = .ok (.lcmp, 1) := by decide +kernel
theorem dX1_piecesBegunLike_31 : decode cX1_piecesBegunLike 31 = .ok (.ifCond .ne 9, 3) := by decide +kernel
theorem dX1_piecesBegunLike_34 : decode cX1_piecesBegunLike 34 = .ok (.iinc 2 1, 3) := by decide +kernel
theorem dX1_piecesBegunLike_37 : decode cX1_piecesBegunLike 37 = .ok (.goto (-35), 3) := by decide +kernel
theorem dX1_piecesBegunLike_40 : decode cX1_piecesBegunLike 40 = .ok (.iload_n 2, 1) := by decide +kernel
theorem dX1_piecesBegunLike_41 : decode cX1_piecesBegunLike 41 = .ok (.ireturn, 1) := by decide +kernel
theorem dX1_forcedPieces_0 : decode cX1_forcedPieces 0 = .ok (.iconst 0, 1) := by decide +kernel
theorem dX1_forcedPieces_1 : decode cX1_forcedPieces 1 = .ok (.istore_n 1, 1) := by decide +kernel
theorem dX1_forcedPieces_2 : decode cX1_forcedPieces 2 = .ok (.iconst 0, 1) := by decide +kernel
theorem dX1_forcedPieces_3 : decode cX1_forcedPieces 3 = .ok (.istore_n 2, 1) := by decide +kernel
theorem dX1_forcedPieces_4 : decode cX1_forcedPieces 4 = .ok (.iload_n 2, 1) := by decide +kernel
theorem dX1_forcedPieces_5 : decode cX1_forcedPieces 5 = .ok (.aload_n 0, 1) := by decide +kernel
theorem dX1_forcedPieces_6 : decode cX1_forcedPieces 6 = .ok (.getfield 32, 3) := by decide +kernel
theorem dX1_forcedPieces_9 : decode cX1_forcedPieces 9 = .ok (.if_icmp .ge 18, 3) := by decide +kernel
theorem dX1_forcedPieces_12 : decode cX1_forcedPieces 12 = .ok (.iload_n 1, 1) := by decide +kernel
theorem dX1_forcedPieces_13 : decode cX1_forcedPieces 13 = .ok (.aload_n 0, 1) := by decide +kernel
theorem dX1_forcedPieces_14 : decode cX1_forcedPieces 14 = .ok (.getfield 25, 3) := by decide +kernel
theorem dX1_forcedPieces_17 : decode cX1_forcedPieces 17 = .ok (.iload_n 2, 1) := by decide +kernel
theorem dX1_forcedPieces_18 : decode cX1_forcedPieces 18 = .ok (.iaload, 1) := by decide +kernel
theorem dX1_forcedPieces_19 : decode cX1_forcedPieces 19 = .ok (.iadd, 1) := by decide +kernel
theorem dX1_forcedPieces_20 : decode cX1_forcedPieces 20 = .ok (.istore_n 1, 1) := by decide +kernel
theorem dX1_forcedPieces_21 : decode cX1_forcedPieces 21 = .ok (.iinc 2 1, 3) := by decide +kernel
theorem dX1_forcedPieces_24 : decode cX1_forcedPieces 24 = .ok (.goto (-20), 3) := by decide +kernel
theorem dX1_forcedPieces_27 : decode cX1_forcedPieces 27 = .ok (.iload_n 1, 1) := by decide +kernel
theorem dX1_forcedPieces_28 : decode cX1_forcedPieces 28 = .ok (.ireturn, 1) := by decide +kernel
theorem dX1_longestPiece_0 : decode cX1_longestPiece 0 = .ok (.iconst 0, 1) := by decide +kernel
theorem dX1_longestPiece_1 : decode cX1_longestPiece 1 = .ok (.istore_n 1, 1) := by decide +kernel
theorem dX1_longestPiece_2 : decode cX1_longestPiece 2 = .ok (.iconst 0, 1) := by decide +kernel
theorem dX1_longestPiece_3 : decode cX1_longestPiece 3 = .ok (.istore_n 2, 1) := by decide +kernel
theorem dX1_longestPiece_4 : decode cX1_longestPiece 4 = .ok (.iload_n 2, 1) := by decide +kernel
theorem dX1_longestPiece_5 : decode cX1_longestPiece 5 = .ok (.aload_n 0, 1) := by decide +kernel
theorem dX1_longestPiece_6 : decode cX1_longestPiece 6 = .ok (.getfield 32, 3) := by decide +kernel
theorem dX1_longestPiece_9 : decode cX1_longestPiece 9 = .ok (.if_icmp .ge 20, 3) := by decide +kernel
theorem dX1_longestPiece_12 : decode cX1_longestPiece 12 = .ok (.iload_n 1, 1) := by decide +kernel
theorem dX1_longestPiece_13 : decode cX1_longestPiece 13 = .ok (.aload_n 0, 1) := by decide +kernel
theorem dX1_longestPiece_14 : decode cX1_longestPiece 14 = .ok (.getfield 22, 3) := by decide +kernel
theorem dX1_longestPiece_17 : decode cX1_longestPiece 17 = .ok (.iload_n 2, 1) := by decide +kernel
theorem dX1_longestPiece_18 : decode cX1_longestPiece 18 = .ok (.iaload, 1) := by decide +kernel
theorem dX1_longestPiece_19 : decode cX1_longestPiece 19 = .ok (.invokestatic 85, 3) := by decide +kernel
theorem dX1_longestPiece_22 : decode cX1_longestPiece 22 = .ok (.istore_n 1, 1) := by decide +kernel
theorem dX1_longestPiece_23 : decode cX1_longestPiece 23 = .ok (.iinc 2 1, 3) := by decide +kernel
theorem dX1_longestPiece_26 : decode cX1_longestPiece 26 = .ok (.goto (-22), 3) := by decide +kernel
theorem dX1_longestPiece_29 : decode cX1_longestPiece 29 = .ok (.iload_n 1, 1) := by decide +kernel
theorem dX1_longestPiece_30 : decode cX1_longestPiece 30 = .ok (.ireturn, 1) := by decide +kernel
theorem dX2_init_0 : decode cX2_init 0 = .ok (.aload_n 0, 1) := by decide +kernel
theorem dX2_init_1 : decode cX2_init 1 = .ok (.invokespecial 3, 3) := by decide +kernel
theorem dX2_init_4 : decode cX2_init 4 = .ok (.aload_n 0, 1) := by decide +kernel
theorem dX2_init_5 : decode cX2_init 5 = .ok (.bipush 6, 2) := by decide +kernel
theorem dX2_init_7 : decode cX2_init 7 = .ok (.anewarray 9, 3) := by decide +kernel
theorem dX2_init_10 : decode cX2_init 10 = .ok (.putfield 11, 3) := by decide +kernel
theorem dX2_init_13 : decode cX2_init 13 = .ok (.aload_n 0, 1) := by decide +kernel
theorem dX2_init_14 : decode cX2_init 14 = .ok (.iconst 0, 1) := by decide +kernel
theorem dX2_init_15 : decode cX2_init 15 = .ok (.putfield 17, 3) := by decide +kernel
theorem dX2_init_18 : decode cX2_init 18 = .ok (.iconst 0, 1) := by decide +kernel
theorem dX2_init_19 : decode cX2_init 19 = .ok (.istore_n 1, 1) := by decide +kernel
theorem dX2_init_20 : decode cX2_init 20 = .ok (.iload_n 1, 1) := by decide +kernel
theorem dX2_init_21 : decode cX2_init 21 = .ok (.bipush 6, 2) := by decide +kernel
theorem dX2_init_23 : decode cX2_init 23 = .ok (.if_icmp .ge 22, 3) := by decide +kernel
theorem dX2_init_26 : decode cX2_init 26 = .ok (.aload_n 0, 1) := by decide +kernel
theorem dX2_init_27 : decode cX2_init 27 = .ok (.getfield 11, 3) := by decide +kernel
theorem dX2_init_30 : decode cX2_init 30 = .ok (.iload_n 1, 1) := by decide +kernel
theorem dX2_init_31 : decode cX2_init 31 = .ok (.new 9, 3) := by decide +kernel
theorem dX2_init_34 : decode cX2_init 34 = .ok (.dup, 1) := by decide +kernel
theorem dX2_init_35 : decode cX2_init 35 = .ok (.invokespecial 21, 3) := by decide +kernel
theorem dX2_init_38 : decode cX2_init 38 = .ok (.aastore, 1) := by decide +kernel
theorem dX2_init_39 : decode cX2_init 39 = .ok (.iinc 1 1, 3) := by decide +kernel
theorem dX2_init_42 : decode cX2_init 42 = .ok (.goto (-22), 3) := by decide +kernel
theorem dX2_init_45 : decode cX2_init 45 = .ok (.return_, 1) := by decide +kernel
theorem dX2_push_0 : decode cX2_push 0 = .ok (.aload_n 0, 1) := by decide +kernel
theorem dX2_push_1 : decode cX2_push 1 = .ok (.getfield 17, 3) := by decide +kernel
theorem dX2_push_4 : decode cX2_push 4 = .ok (.bipush 6, 2) := by decide +kernel
theorem dX2_push_6 : decode cX2_push 6 = .ok (.if_icmp .lt 7, 3) := by decide +kernel
theorem dX2_push_9 : decode cX2_push 9 = .ok (.aload_n 0, 1) := by decide +kernel
theorem dX2_push_10 : decode cX2_push 10 = .ok (.invokevirtual 22, 3) := by decide +kernel
theorem dX2_push_13 : decode cX2_push 13 = .ok (.aload_n 0, 1) := by decide +kernel
theorem dX2_push_14 : decode cX2_push 14 = .ok (.getfield 11, 3) := by decide +kernel
theorem dX2_push_17 : decode cX2_push 17 = .ok (.aload_n 0, 1) := by decide +kernel
theorem dX2_push_18 : decode cX2_push 18 = .ok (.getfield 17, 3) := by decide +kernel
theorem dX2_push_21 : decode cX2_push 21 = .ok (.aaload, 1) := by decide +kernel
theorem dX2_push_22 : decode cX2_push 22 = .ok (.aload_n 1, 1) := by decide +kernel
theorem dX2_push_23 : decode cX2_push 23 = .ok (.invokevirtual 25, 3) := by decide +kernel
theorem dX2_push_26 : decode cX2_push 26 = .ok (.aload_n 0, 1) := by decide +kernel
theorem dX2_push_27 : decode cX2_push 27 = .ok (.dup, 1) := by decide +kernel
theorem dX2_push_28 : decode cX2_push 28 = .ok (.getfield 17, 3) := by decide +kernel
theorem dX2_push_31 : decode cX2_push 31 = .ok (.iconst 1, 1) := by decide +kernel
theorem dX2_push_32 : decode cX2_push 32 = .ok (.iadd, 1) := by decide +kernel
theorem dX2_push_33 : decode cX2_push 33 = .ok (.putfield 17, 3) := by decide +kernel
theorem dX2_push_36 : decode cX2_push 36 = .ok (.return_, 1) := by decide +kernel
theorem dX2_dropOldest_0 : decode cX2_dropOldest 0 = .ok (.aload_n 0, 1) := by decide +kernel
theorem dX2_dropOldest_1 : decode cX2_dropOldest 1 = .ok (.getfield 11, 3) := by decide +kernel
theorem dX2_dropOldest_4 : decode cX2_dropOldest 4 = .ok (.iconst 0, 1) := by decide +kernel
theorem dX2_dropOldest_5 : decode cX2_dropOldest 5 = .ok (.aaload, 1) := by decide +kernel
theorem dX2_dropOldest_6 : decode cX2_dropOldest 6 = .ok (.astore_n 1, 1) := by decide +kernel
theorem dX2_dropOldest_7 : decode cX2_dropOldest 7 = .ok (.iconst 1, 1) := by decide +kernel
theorem dX2_dropOldest_8 : decode cX2_dropOldest 8 = .ok (.istore_n 2, 1) := by decide +kernel
theorem dX2_dropOldest_9 : decode cX2_dropOldest 9 = .ok (.iload_n 2, 1) := by decide +kernel
theorem dX2_dropOldest_10 : decode cX2_dropOldest 10 = .ok (.bipush 6, 2) := by decide +kernel
theorem dX2_dropOldest_12 : decode cX2_dropOldest 12 = .ok (.if_icmp .ge 23, 3) := by decide +kernel
theorem dX2_dropOldest_15 : decode cX2_dropOldest 15 = .ok (.aload_n 0, 1) := by decide +kernel
theorem dX2_dropOldest_16 : decode cX2_dropOldest 16 = .ok (.getfield 11, 3) := by decide +kernel
theorem dX2_dropOldest_19 : decode cX2_dropOldest 19 = .ok (.iload_n 2, 1) := by decide +kernel
theorem dX2_dropOldest_20 : decode cX2_dropOldest 20 = .ok (.iconst 1, 1) := by decide +kernel
theorem dX2_dropOldest_21 : decode cX2_dropOldest 21 = .ok (.isub, 1) := by decide +kernel
theorem dX2_dropOldest_22 : decode cX2_dropOldest 22 = .ok (.aload_n 0, 1) := by decide +kernel
theorem dX2_dropOldest_23 : decode cX2_dropOldest 23 = .ok (.getfield 11, 3) := by decide +kernel
theorem dX2_dropOldest_26 : decode cX2_dropOldest 26 = .ok (.iload_n 2, 1) := by decide +kernel
theorem dX2_dropOldest_27 : decode cX2_dropOldest 27 = .ok (.aaload, 1) := by decide +kernel
theorem dX2_dropOldest_28 : decode cX2_dropOldest 28 = .ok (.aastore, 1) := by decide +kernel
theorem dX2_dropOldest_29 : decode cX2_dropOldest 29 = .ok (.iinc 2 1, 3) := by decide +kernel
theorem dX2_dropOldest_32 : decode cX2_dropOldest 32 = .ok (.goto (-23), 3) := by decide +kernel
theorem dX2_dropOldest_35 : decode cX2_dropOldest 35 = .ok (.aload_n 0, 1) := by decide +kernel
theorem dX2_dropOldest_36 : decode cX2_dropOldest 36 = .ok (.getfield 11, 3) := by decide +kernel
theorem dX2_dropOldest_39 : decode cX2_dropOldest 39 = .ok (.iconst 5, 1) := by decide +kernel
theorem dX2_dropOldest_40 : decode cX2_dropOldest 40 = .ok (.aload_n 1, 1) := by decide +kernel
theorem dX2_dropOldest_41 : decode cX2_dropOldest 41 = .ok (.aastore, 1) := by decide +kernel
theorem dX2_dropOldest_42 : decode cX2_dropOldest 42 = .ok (.aload_n 0, 1) := by decide +kernel
theorem dX2_dropOldest_43 : decode cX2_dropOldest 43 = .ok (.iconst 5, 1) := by decide +kernel
theorem dX2_dropOldest_44 : decode cX2_dropOldest 44 = .ok (.putfield 17, 3) := by decide +kernel
theorem dX2_dropOldest_47 : decode cX2_dropOldest 47 = .ok (.return_, 1) := by decide +kernel
theorem dX2_popInto_0 : decode cX2_popInto 0 = .ok (.aload_n 0, 1) := by decide +kernel
theorem dX2_popInto_1 : decode cX2_popInto 1 = .ok (.getfield 17, 3) := by decide +kernel
theorem dX2_popInto_4 : decode cX2_popInto 4 = .ok (.ifCond .le 26, 3) := by decide +kernel
theorem dX2_popInto_7 : decode cX2_popInto 7 = .ok (.aload_n 0, 1) := by decide +kernel
theorem dX2_popInto_8 : decode cX2_popInto 8 = .ok (.dup, 1) := by decide +kernel
theorem dX2_popInto_9 : decode cX2_popInto 9 = .ok (.getfield 17, 3) := by decide +kernel
theorem dX2_popInto_12 : decode cX2_popInto 12 = .ok (.iconst 1, 1) := by decide +kernel
theorem dX2_popInto_13 : decode cX2_popInto 13 = .ok (.isub, 1) := by decide +kernel
theorem dX2_popInto_14 : decode cX2_popInto 14 = .ok (.putfield 17, 3) := by decide +kernel
theorem dX2_popInto_17 : decode cX2_popInto 17 = .ok (.aload_n 1, 1) := by decide +kernel
theorem dX2_popInto_18 : decode cX2_popInto 18 = .ok (.aload_n 0, 1) := by decide +kernel
theorem dX2_popInto_19 : decode cX2_popInto 19 = .ok (.getfield 11, 3) := by decide +kernel
theorem dX2_popInto_22 : decode cX2_popInto 22 = .ok (.aload_n 0, 1) := by decide +kernel
theorem dX2_popInto_23 : decode cX2_popInto 23 = .ok (.getfield 17, 3) := by decide +kernel
theorem dX2_popInto_26 : decode cX2_popInto 26 = .ok (.aaload, 1) := by decide +kernel
theorem dX2_popInto_27 : decode cX2_popInto 27 = .ok (.invokevirtual 25, 3) := by decide +kernel
theorem dX2_popInto_30 : decode cX2_popInto 30 = .ok (.return_, 1) := by decide +kernel
theorem dX3_init_0 : decode cX3_init 0 = .ok (.aload_n 0, 1) := by decide +kernel
theorem dX3_init_1 : decode cX3_init 1 = .ok (.invokespecial 3, 3) := by decide +kernel
theorem dX3_init_4 : decode cX3_init 4 = .ok (.aload_n 0, 1) := by decide +kernel
theorem dX3_init_5 : decode cX3_init 5 = .ok (.getstatic 9, 3) := by decide +kernel
theorem dX3_init_8 : decode cX3_init 8 = .ok (.invokevirtual 13, 3) := by decide +kernel
theorem dX3_init_11 : decode cX3_init 11 = .ok (.checkcast 14, 3) := by decide +kernel
theorem dX3_init_14 : decode cX3_init 14 = .ok (.putfield 18, 3) := by decide +kernel
theorem dX3_init_17 : decode cX3_init 17 = .ok (.return_, 1) := by decide +kernel
theorem dX3_become_0 : decode cX3_become 0 = .ok (.aload_n 1, 1) := by decide +kernel
theorem dX3_become_1 : decode cX3_become 1 = .ok (.getfield 18, 3) := by decide +kernel
theorem dX3_become_4 : decode cX3_become 4 = .ok (.iconst 0, 1) := by decide +kernel
theorem dX3_become_5 : decode cX3_become 5 = .ok (.aload_n 0, 1) := by decide +kernel
theorem dX3_become_6 : decode cX3_become 6 = .ok (.getfield 18, 3) := by decide +kernel
theorem dX3_become_9 : decode cX3_become 9 = .ok (.iconst 0, 1) := by decide +kernel
theorem dX3_become_10 : decode cX3_become 10 = .ok (.iconst 5, 1) := by decide +kernel
theorem dX3_become_11 : decode cX3_become 11 = .ok (.invokestatic 23, 3) := by decide +kernel
theorem dX3_become_14 : decode cX3_become 14 = .ok (.return_, 1) := by decide +kernel
theorem dX3_sumAt_0 : decode cX3_sumAt 0 = .ok (.iconst 0, 1) := by decide +kernel
theorem dX3_sumAt_1 : decode cX3_sumAt 1 = .ok (.istore_n 3, 1) := by decide +kernel
theorem dX3_sumAt_2 : decode cX3_sumAt 2 = .ok (.iconst 0, 1) := by decide +kernel
theorem dX3_sumAt_3 : decode cX3_sumAt 3 = .ok (.istore 4, 2) := by decide +kernel
theorem dX3_sumAt_5 : decode cX3_sumAt 5 = .ok (.iload 4, 2) := by decide +kernel
theorem dX3_sumAt_7 : decode cX3_sumAt 7 = .ok (.aload_n 0, 1) := by decide +kernel
theorem dX3_sumAt_8 : decode cX3_sumAt 8 = .ok (.getfield 18, 3) := by decide +kernel
theorem dX3_sumAt_11 : decode cX3_sumAt 11 = .ok (.iconst 0, 1) := by decide +kernel
theorem dX3_sumAt_12 : decode cX3_sumAt 12 = .ok (.iaload, 1) := by decide +kernel
theorem dX3_sumAt_13 : decode cX3_sumAt 13 = .ok (.if_icmp .ge 32, 3) := by decide +kernel
theorem dX3_sumAt_16 : decode cX3_sumAt 16 = .ok (.iload 4, 2) := by decide +kernel
theorem dX3_sumAt_18 : decode cX3_sumAt 18 = .ok (.iload_n 2, 1) := by decide +kernel
theorem dX3_sumAt_19 : decode cX3_sumAt 19 = .ok (.if_icmp .gt 26, 3) := by decide +kernel
theorem dX3_sumAt_22 : decode cX3_sumAt 22 = .ok (.iload_n 3, 1) := by decide +kernel
theorem dX3_sumAt_23 : decode cX3_sumAt 23 = .ok (.aload_n 1, 1) := by decide +kernel
theorem dX3_sumAt_24 : decode cX3_sumAt 24 = .ok (.getfield 29, 3) := by decide +kernel
theorem dX3_sumAt_27 : decode cX3_sumAt 27 = .ok (.iload_n 2, 1) := by decide +kernel
theorem dX3_sumAt_28 : decode cX3_sumAt 28 = .ok (.iload 4, 2) := by decide +kernel
theorem dX3_sumAt_30 : decode cX3_sumAt 30 = .ok (.isub, 1) := by decide +kernel
theorem dX3_sumAt_31 : decode cX3_sumAt 31 = .ok (.iaload, 1) := by decide +kernel
theorem dX3_sumAt_32 : decode cX3_sumAt 32 = .ok (.iload 4, 2) := by decide +kernel
theorem dX3_sumAt_34 : decode cX3_sumAt 34 = .ok (.iconst 1, 1) := by decide +kernel
theorem dX3_sumAt_35 : decode cX3_sumAt 35 = .ok (.iadd, 1) := by decide +kernel
theorem dX3_sumAt_36 : decode cX3_sumAt 36 = .ok (.imul, 1) := by decide +kernel
theorem dX3_sumAt_37 : decode cX3_sumAt 37 = .ok (.iadd, 1) := by decide +kernel
theorem dX3_sumAt_38 : decode cX3_sumAt 38 = .ok (.istore_n 3, 1) := by decide +kernel
theorem dX3_sumAt_39 : decode cX3_sumAt 39 = .ok (.iinc 4 1, 3) := by decide +kernel
theorem dX3_sumAt_42 : decode cX3_sumAt 42 = .ok (.goto (-37), 3) := by decide +kernel
theorem dX3_sumAt_45 : decode cX3_sumAt 45 = .ok (.iload_n 3, 1) := by decide +kernel
theorem dX3_sumAt_46 : decode cX3_sumAt 46 = .ok (.ireturn, 1) := by decide +kernel
theorem dX3_endPieceAt_0 : decode cX3_endPieceAt 0 = .ok (.aload_n 0, 1) := by decide +kernel
theorem dX3_endPieceAt_1 : decode cX3_endPieceAt 1 = .ok (.getfield 18, 3) := by decide +kernel
theorem dX3_endPieceAt_4 : decode cX3_endPieceAt 4 = .ok (.iconst 1, 1) := by decide +kernel
theorem dX3_endPieceAt_5 : decode cX3_endPieceAt 5 = .ok (.iaload, 1) := by decide +kernel
theorem dX3_endPieceAt_6 : decode cX3_endPieceAt 6 = .ok (.istore_n 3, 1) := by decide +kernel
theorem dX3_endPieceAt_7 : decode cX3_endPieceAt 7 = .ok (.iload_n 3, 1) := by decide +kernel
theorem dX3_endPieceAt_8 : decode cX3_endPieceAt 8 = .ok (.ifCond .le 24, 3) := by decide +kernel
theorem dX3_endPieceAt_11 : decode cX3_endPieceAt 11 = .ok (.aload_n 0, 1) := by decide +kernel
theorem dX3_endPieceAt_12 : decode cX3_endPieceAt 12 = .ok (.aload_n 1, 1) := by decide +kernel
theorem dX3_endPieceAt_13 : decode cX3_endPieceAt 13 = .ok (.iload_n 2, 1) := by decide +kernel
theorem dX3_endPieceAt_14 : decode cX3_endPieceAt 14 = .ok (.invokevirtual 34, 3) := by decide +kernel
theorem dX3_endPieceAt_17 : decode cX3_endPieceAt 17 = .ok (.iload_n 3, 1) := by decide +kernel
theorem dX3_endPieceAt_18 : decode cX3_endPieceAt 18 = .ok (.irem, 1) := by decide +kernel
theorem dX3_endPieceAt_19 : decode cX3_endPieceAt 19 = .ok (.aload_n 0, 1) := by decide +kernel
theorem dX3_endPieceAt_20 : decode cX3_endPieceAt 20 = .ok (.getfield 18, 3) := by decide +kernel
theorem dX3_endPieceAt_23 : decode cX3_endPieceAt 23 = .ok (.iconst 2, 1) := by decide +kernel
theorem dX3_endPieceAt_24 : decode cX3_endPieceAt 24 = .ok (.iaload, 1) := by decide +kernel
theorem dX3_endPieceAt_25 : decode cX3_endPieceAt 25 = .ok (.if_icmp .ne 7, 3) := by decide +kernel
theorem dX3_endPieceAt_28 : decode cX3_endPieceAt 28 = .ok (.iconst 1, 1) := by decide +kernel
theorem dX3_endPieceAt_29 : decode cX3_endPieceAt 29 = .ok (.goto 4, 3) := by decide +kernel
theorem dX3_endPieceAt_32 : decode cX3_endPieceAt 32 = .ok (.iconst 0, 1) := by decide +kernel
theorem dX3_endPieceAt_33 : decode cX3_endPieceAt 33 = .ok (.ireturn, 1) := by decide +kernel
theorem dX4_init_0 : decode cX4_init 0 = .ok (.aload_n 0, 1) := by decide +kernel
theorem dX4_init_1 : decode cX4_init 1 = .ok (.invokespecial 3, 3) := by decide +kernel
theorem dX4_init_4 : decode cX4_init 4 = .ok (.aload_n 0, 1) := by decide +kernel
theorem dX4_init_5 : decode cX4_init 5 = .ok (.iconst 4, 1) := by decide +kernel
theorem dX4_init_6 : decode cX4_init 6 = .ok (.anewarray 9, 3) := by decide +kernel
theorem dX4_init_9 : decode cX4_init 9 = .ok (.putfield 11, 3) := by decide +kernel
theorem dX4_init_12 : decode cX4_init 12 = .ok (.aload_n 0, 1) := by decide +kernel
theorem dX4_init_13 : decode cX4_init 13 = .ok (.new 17, 3) := by decide +kernel
theorem dX4_init_16 : decode cX4_init 16 = .ok (.dup, 1) := by decide +kernel
theorem dX4_init_17 : decode cX4_init 17 = .ok (.invokespecial 19, 3) := by decide +kernel
theorem dX4_init_20 : decode cX4_init 20 = .ok (.putfield 20, 3) := by decide +kernel
theorem dX4_init_23 : decode cX4_init 23 = .ok (.aload_n 0, 1) := by decide +kernel
theorem dX4_init_24 : decode cX4_init 24 = .ok (.new 24, 3) := by decide +kernel
theorem dX4_init_27 : decode cX4_init 27 = .ok (.dup, 1) := by decide +kernel
theorem dX4_init_28 : decode cX4_init 28 = .ok (.invokespecial 26, 3) := by decide +kernel
theorem dX4_init_31 : decode cX4_init 31 = .ok (.putfield 27, 3) := by decide +kernel
theorem dX4_init_34 : decode cX4_init 34 = .ok (.iconst 0, 1) := by decide +kernel
theorem dX4_init_35 : decode cX4_init 35 = .ok (.istore_n 1, 1) := by decide +kernel
theorem dX4_init_36 : decode cX4_init 36 = .ok (.iload_n 1, 1) := by decide +kernel
theorem dX4_init_37 : decode cX4_init 37 = .ok (.iconst 4, 1) := by decide +kernel
theorem dX4_init_38 : decode cX4_init 38 = .ok (.if_icmp .ge 22, 3) := by decide +kernel
theorem dX4_init_41 : decode cX4_init 41 = .ok (.aload_n 0, 1) := by decide +kernel
theorem dX4_init_42 : decode cX4_init 42 = .ok (.getfield 11, 3) := by decide +kernel
theorem dX4_init_45 : decode cX4_init 45 = .ok (.iload_n 1, 1) := by decide +kernel
theorem dX4_init_46 : decode cX4_init 46 = .ok (.new 9, 3) := by decide +kernel
theorem dX4_init_49 : decode cX4_init 49 = .ok (.dup, 1) := by decide +kernel
theorem dX4_init_50 : decode cX4_init 50 = .ok (.invokespecial 31, 3) := by decide +kernel
theorem dX4_init_53 : decode cX4_init 53 = .ok (.aastore, 1) := by decide +kernel
theorem dX4_init_54 : decode cX4_init 54 = .ok (.iinc 1 1, 3) := by decide +kernel
theorem dX4_init_57 : decode cX4_init 57 = .ok (.goto (-21), 3) := by decide +kernel
theorem dX4_init_60 : decode cX4_init 60 = .ok (.return_, 1) := by decide +kernel
theorem dX4_become_0 : decode cX4_become 0 = .ok (.iconst 0, 1) := by decide +kernel
theorem dX4_become_1 : decode cX4_become 1 = .ok (.istore_n 2, 1) := by decide +kernel
theorem dX4_become_2 : decode cX4_become 2 = .ok (.iload_n 2, 1) := by decide +kernel
theorem dX4_become_3 : decode cX4_become 3 = .ok (.iconst 4, 1) := by decide +kernel
theorem dX4_become_4 : decode cX4_become 4 = .ok (.if_icmp .ge 24, 3) := by decide +kernel
theorem dX4_become_7 : decode cX4_become 7 = .ok (.aload_n 0, 1) := by decide +kernel
theorem dX4_become_8 : decode cX4_become 8 = .ok (.getfield 11, 3) := by decide +kernel
theorem dX4_become_11 : decode cX4_become 11 = .ok (.iload_n 2, 1) := by decide +kernel
theorem dX4_become_12 : decode cX4_become 12 = .ok (.aaload, 1) := by decide +kernel
theorem dX4_become_13 : decode cX4_become 13 = .ok (.aload_n 1, 1) := by decide +kernel
theorem dX4_become_14 : decode cX4_become 14 = .ok (.getfield 11, 3) := by decide +kernel
theorem dX4_become_17 : decode cX4_become 17 = .ok (.iload_n 2, 1) := by decide +kernel
theorem dX4_become_18 : decode cX4_become 18 = .ok (.aaload, 1) := by decide +kernel
theorem dX4_become_19 : decode cX4_become 19 = .ok (.invokevirtual 32, 3) := by decide +kernel
theorem dX4_become_22 : decode cX4_become 22 = .ok (.iinc 2 1, 3) := by decide +kernel
theorem dX4_become_25 : decode cX4_become 25 = .ok (.goto (-23), 3) := by decide +kernel
theorem dX4_become_28 : decode cX4_become 28 = .ok (.aload_n 0, 1) := by decide +kernel
theorem dX4_become_29 : decode cX4_become 29 = .ok (.getfield 20, 3) := by decide +kernel
theorem dX4_become_32 : decode cX4_become 32 = .ok (.aload_n 1, 1) := by decide +kernel
theorem dX4_become_33 : decode cX4_become 33 = .ok (.getfield 20, 3) := by decide +kernel
theorem dX4_become_36 : decode cX4_become 36 = .ok (.invokevirtual 36, 3) := by decide +kernel
theorem dX4_become_39 : decode cX4_become 39 = .ok (.aload_n 0, 1) := by decide +kernel
theorem dX4_become_40 : decode cX4_become 40 = .ok (.getfield 27, 3) := by decide +kernel
theorem dX4_become_43 : decode cX4_become 43 = .ok (.aload_n 1, 1) := by decide +kernel
theorem dX4_become_44 : decode cX4_become 44 = .ok (.getfield 27, 3) := by decide +kernel
theorem dX4_become_47 : decode cX4_become 47 = .ok (.invokevirtual 39, 3) := by decide +kernel
theorem dX4_become_50 : decode cX4_become 50 = .ok (.return_, 1) := by decide +kernel
theorem dX4_becomeChanged_0 : decode cX4_becomeChanged 0 = .ok (.aload_n 0, 1) := by decide +kernel
theorem dX4_becomeChanged_1 : decode cX4_becomeChanged 1 = .ok (.aload_n 1, 1) := by decide +kernel
theorem dX4_becomeChanged_2 : decode cX4_becomeChanged 2 = .ok (.invokevirtual 42, 3) := by decide +kernel
theorem dX4_becomeChanged_5 : decode cX4_becomeChanged 5 = .ok (.aload_n 0, 1) := by decide +kernel
theorem dX4_becomeChanged_6 : decode cX4_becomeChanged 6 = .ok (.getfield 20, 3) := by decide +kernel
theorem dX4_becomeChanged_9 : decode cX4_becomeChanged 9 = .ok (.aload_n 0, 1) := by decide +kernel
theorem dX4_becomeChanged_10 : decode cX4_becomeChanged 10 = .ok (.getfield 11, 3) := by decide +kernel
theorem dX4_becomeChanged_13 : decode cX4_becomeChanged 13 = .ok (.iload_n 2, 1) := by decide +kernel
theorem dX4_becomeChanged_14 : decode cX4_becomeChanged 14 = .ok (.aaload, 1) := by decide +kernel
theorem dX4_becomeChanged_15 : decode cX4_becomeChanged 15 = .ok (.invokevirtual 45, 3) := by decide +kernel
theorem dX4_becomeChanged_18 : decode cX4_becomeChanged 18 = .ok (.aload_n 0, 1) := by decide +kernel
theorem dX4_becomeChanged_19 : decode cX4_becomeChanged 19 = .ok (.getfield 20, 3) := by decide +kernel
theorem dX4_becomeChanged_22 : decode cX4_becomeChanged 22 = .ok (.aload_n 3, 1) := by decide +kernel
theorem dX4_becomeChanged_23 : decode cX4_becomeChanged 23 = .ok (.invokevirtual 48, 3) := by decide +kernel
theorem dX4_becomeChanged_26 : decode cX4_becomeChanged 26 = .ok (.ifCond .ne 12, 3) := by decide +kernel
theorem dX4_becomeChanged_29 : decode cX4_becomeChanged 29 = .ok (.aload_n 0, 1) := by decide +kernel
theorem dX4_becomeChanged_30 : decode cX4_becomeChanged 30 = .ok (.getfield 20, 3) := by decide +kernel
theorem dX4_becomeChanged_33 : decode cX4_becomeChanged 33 = .ok (.aload_n 3, 1) := by decide +kernel
theorem dX4_becomeChanged_34 : decode cX4_becomeChanged 34 = .ok (.invokevirtual 52, 3) := by decide +kernel
theorem dX4_becomeChanged_37 : decode cX4_becomeChanged 37 = .ok (.pop, 1) := by decide +kernel
theorem dX4_becomeChanged_38 : decode cX4_becomeChanged 38 = .ok (.aload_n 0, 1) := by decide +kernel
theorem dX4_becomeChanged_39 : decode cX4_becomeChanged 39 = .ok (.getfield 20, 3) := by decide +kernel
theorem dX4_becomeChanged_42 : decode cX4_becomeChanged 42 = .ok (.aload_n 3, 1) := by decide +kernel
theorem dX4_becomeChanged_43 : decode cX4_becomeChanged 43 = .ok (.invokevirtual 48, 3) := by decide +kernel
theorem dX4_becomeChanged_46 : decode cX4_becomeChanged 46 = .ok (.ifCond .ne 5, 3) := by decide +kernel
theorem dX4_becomeChanged_49 : decode cX4_becomeChanged 49 = .ok (.iconst 0, 1) := by decide +kernel
theorem dX4_becomeChanged_50 : decode cX4_becomeChanged 50 = .ok (.ireturn, 1) := by decide +kernel
theorem dX4_becomeChanged_51 : decode cX4_becomeChanged 51 = .ok (.aload_n 0, 1) := by decide +kernel
theorem dX4_becomeChanged_52 : decode cX4_becomeChanged 52 = .ok (.getfield 20, 3) := by decide +kernel
theorem dX4_becomeChanged_55 : decode cX4_becomeChanged 55 = .ok (.aload_n 3, 1) := by decide +kernel
theorem dX4_becomeChanged_56 : decode cX4_becomeChanged 56 = .ok (.invokevirtual 56, 3) := by decide +kernel
theorem dX4_becomeChanged_59 : decode cX4_becomeChanged 59 = .ok (.aload_n 0, 1) := by decide +kernel
theorem dX4_becomeChanged_60 : decode cX4_becomeChanged 60 = .ok (.getfield 11, 3) := by decide +kernel
theorem dX4_becomeChanged_63 : decode cX4_becomeChanged 63 = .ok (.iload_n 2, 1) := by decide +kernel
theorem dX4_becomeChanged_64 : decode cX4_becomeChanged 64 = .ok (.aaload, 1) := by decide +kernel
theorem dX4_becomeChanged_65 : decode cX4_becomeChanged 65 = .ok (.aload_n 3, 1) := by decide +kernel
theorem dX4_becomeChanged_66 : decode cX4_becomeChanged 66 = .ok (.invokevirtual 32, 3) := by decide +kernel
theorem dX4_becomeChanged_69 : decode cX4_becomeChanged 69 = .ok (.iconst 1, 1) := by decide +kernel
theorem dX4_becomeChanged_70 : decode cX4_becomeChanged 70 = .ok (.ireturn, 1) := by decide +kernel
theorem dX4_textsWith_0 : decode cX4_textsWith 0 = .ok (.iconst 0, 1) := by decide +kernel
theorem dX4_textsWith_1 : decode cX4_textsWith 1 = .ok (.istore_n 3, 1) := by decide +kernel
theorem dX4_textsWith_2 : decode cX4_textsWith 2 = .ok (.iconst 0, 1) := by decide +kernel
theorem dX4_textsWith_3 : decode cX4_textsWith 3 = .ok (.istore 4, 2) := by decide +kernel
theorem dX4_textsWith_5 : decode cX4_textsWith 5 = .ok (.iload 4, 2) := by decide +kernel
theorem dX4_textsWith_7 : decode cX4_textsWith 7 = .ok (.iconst 4, 1) := by decide +kernel
theorem dX4_textsWith_8 : decode cX4_textsWith 8 = .ok (.if_icmp .ge 30, 3) := by decide +kernel
theorem dX4_textsWith_11 : decode cX4_textsWith 11 = .ok (.aload_n 0, 1) := by decide +kernel
theorem dX4_textsWith_12 : decode cX4_textsWith 12 = .ok (.getfield 11, 3) := by decide +kernel
theorem dX4_textsWith_15 : decode cX4_textsWith 15 = .ok (.iload 4, 2) := by decide +kernel
theorem dX4_textsWith_17 : decode cX4_textsWith 17 = .ok (.aaload, 1) := by decide +kernel
theorem dX4_textsWith_18 : decode cX4_textsWith 18 = .ok (.lload_n 1, 1) := by decide +kernel
theorem dX4_textsWith_19 : decode cX4_textsWith 19 = .ok (.invokevirtual 59, 3) := by decide +kernel
theorem dX4_textsWith_22 : decode cX4_textsWith 22 = .ok (.ifCond .eq 10, 3) := by decide +kernel
theorem dX4_textsWith_25 : decode cX4_textsWith 25 = .ok (.iload_n 3, 1) := by decide +kernel
theorem dX4_textsWith_26 : decode cX4_textsWith 26 = .ok (.iconst 1, 1) := by decide +kernel
theorem dX4_textsWith_27 : decode cX4_textsWith 27 = .ok (.iload 4, 2) := by decide +kernel
theorem dX4_textsWith_29 : decode cX4_textsWith 29 = .ok (.ishl, 1) := by decide +kernel
theorem dX4_textsWith_30 : decode cX4_textsWith 30 = .ok (.ior, 1) := by decide +kernel
theorem dX4_textsWith_31 : decode cX4_textsWith 31 = .ok (.istore_n 3, 1) := by decide +kernel
theorem dX4_textsWith_32 : decode cX4_textsWith 32 = .ok (.iinc 4 1, 3) := by decide +kernel
theorem dX4_textsWith_35 : decode cX4_textsWith 35 = .ok (.goto (-30), 3) := by decide +kernel
theorem dX4_textsWith_38 : decode cX4_textsWith 38 = .ok (.iload_n 3, 1) := by decide +kernel
theorem dX4_textsWith_39 : decode cX4_textsWith 39 = .ok (.ireturn, 1) := by decide +kernel
theorem dX4_signsOwnedAlone_0 : decode cX4_signsOwnedAlone 0 = .ok (.aload_n 0, 1) := by decide +kernel
theorem dX4_signsOwnedAlone_1 : decode cX4_signsOwnedAlone 1 = .ok (.getfield 11, 3) := by decide +kernel
theorem dX4_signsOwnedAlone_4 : decode cX4_signsOwnedAlone 4 = .ok (.iload_n 1, 1) := by decide +kernel
theorem dX4_signsOwnedAlone_5 : decode cX4_signsOwnedAlone 5 = .ok (.aaload, 1) := by decide +kernel
theorem dX4_signsOwnedAlone_6 : decode cX4_signsOwnedAlone 6 = .ok (.astore_n 2, 1) := by decide +kernel
theorem dX4_signsOwnedAlone_7 : decode cX4_signsOwnedAlone 7 = .ok (.iconst 0, 1) := by decide +kernel
theorem dX4_signsOwnedAlone_8 : decode cX4_signsOwnedAlone 8 = .ok (.istore_n 3, 1) := by decide +kernel
theorem dX4_signsOwnedAlone_9 : decode cX4_signsOwnedAlone 9 = .ok (.iconst 0, 1) := by decide +kernel
theorem dX4_signsOwnedAlone_10 : decode cX4_signsOwnedAlone 10 = .ok (.istore 4, 2) := by decide +kernel
theorem dX4_signsOwnedAlone_12 : decode cX4_signsOwnedAlone 12 = .ok (.iload 4, 2) := by decide +kernel
theorem dX4_signsOwnedAlone_14 : decode cX4_signsOwnedAlone 14 = .ok (.aload_n 2, 1) := by decide +kernel
theorem dX4_signsOwnedAlone_15 : decode cX4_signsOwnedAlone 15 = .ok (.getfield 63, 3) := by decide +kernel
theorem dX4_signsOwnedAlone_18 : decode cX4_signsOwnedAlone 18 = .ok (.if_icmp .ge 36, 3) := by decide +kernel
theorem dX4_signsOwnedAlone_21 : decode cX4_signsOwnedAlone 21 = .ok (.aload_n 0, 1) := by decide +kernel
theorem dX4_signsOwnedAlone_22 : decode cX4_signsOwnedAlone 22 = .ok (.aload_n 2, 1) := by decide +kernel
theorem dX4_signsOwnedAlone_23 : decode cX4_signsOwnedAlone 23 = .ok (.getfield 67, 3) := by decide +kernel
theorem dX4_signsOwnedAlone_26 : decode cX4_signsOwnedAlone 26 = .ok (.iload 4, 2) := by decide +kernel
theorem dX4_signsOwnedAlone_28 : decode cX4_signsOwnedAlone 28 = .ok (.laload, 1) := by decide +kernel
theorem dX4_signsOwnedAlone_29 : decode cX4_signsOwnedAlone 29 = .ok (.invokevirtual 71, 3) := by decide +kernel
theorem dX4_signsOwnedAlone_32 : decode cX4_signsOwnedAlone 32 = .ok (.iconst 1, 1) := by decide +kernel
theorem dX4_signsOwnedAlone_33 : decode cX4_signsOwnedAlone 33 = .ok (.iload_n 1, 1) := by decide +kernel
theorem dX4_signsOwnedAlone_34 : decode cX4_signsOwnedAlone 34 = .ok (.ishl, 1) := by decide +kernel
theorem dX4_signsOwnedAlone_35 : decode cX4_signsOwnedAlone 35 = .ok (.if_icmp .ne 13, 3) := by decide +kernel
theorem dX4_signsOwnedAlone_38 : decode cX4_signsOwnedAlone 38 = .ok (.iload_n 3, 1) := by decide +kernel
theorem dX4_signsOwnedAlone_39 : decode cX4_signsOwnedAlone 39 = .ok (.aload_n 2, 1) := by decide +kernel
theorem dX4_signsOwnedAlone_40 : decode cX4_signsOwnedAlone 40 = .ok (.getfield 75, 3) := by decide +kernel
theorem dX4_signsOwnedAlone_43 : decode cX4_signsOwnedAlone 43 = .ok (.iload 4, 2) := by decide +kernel
theorem dX4_signsOwnedAlone_45 : decode cX4_signsOwnedAlone 45 = .ok (.iaload, 1) := by decide +kernel
theorem dX4_signsOwnedAlone_46 : decode cX4_signsOwnedAlone 46 = .ok (.iadd, 1) := by decide +kernel
theorem dX4_signsOwnedAlone_47 : decode cX4_signsOwnedAlone 47 = .ok (.istore_n 3, 1) := by decide +kernel
theorem dX4_signsOwnedAlone_48 : decode cX4_signsOwnedAlone 48 = .ok (.iinc 4 1, 3) := by decide +kernel
theorem dX4_signsOwnedAlone_51 : decode cX4_signsOwnedAlone 51 = .ok (.goto (-39), 3) := by decide +kernel
theorem dX4_signsOwnedAlone_54 : decode cX4_signsOwnedAlone 54 = .ok (.iload_n 3, 1) := by decide +kernel
theorem dX4_signsOwnedAlone_55 : decode cX4_signsOwnedAlone 55 = .ok (.ireturn, 1) := by decide +kernel
theorem dX4_signs_0 : decode cX4_signs 0 = .ok (.iconst 0, 1) := by decide +kernel
theorem dX4_signs_1 : decode cX4_signs 1 = .ok (.istore_n 1, 1) := by decide +kernel
theorem dX4_signs_2 : decode cX4_signs 2 = .ok (.iconst 0, 1) := by decide +kernel
theorem dX4_signs_3 : decode cX4_signs 3 = .ok (.istore_n 2, 1) := by decide +kernel
theorem dX4_signs_4 : decode cX4_signs 4 = .ok (.iload_n 2, 1) := by decide +kernel
theorem dX4_signs_5 : decode cX4_signs 5 = .ok (.iconst 4, 1) := by decide +kernel
theorem dX4_signs_6 : decode cX4_signs 6 = .ok (.if_icmp .ge 21, 3) := by decide +kernel
theorem dX4_signs_9 : decode cX4_signs 9 = .ok (.iload_n 1, 1) := by decide +kernel
theorem dX4_signs_10 : decode cX4_signs 10 = .ok (.aload_n 0, 1) := by decide +kernel
theorem dX4_signs_11 : decode cX4_signs 11 = .ok (.getfield 11, 3) := by decide +kernel
theorem dX4_signs_14 : decode cX4_signs 14 = .ok (.iload_n 2, 1) := by decide +kernel
theorem dX4_signs_15 : decode cX4_signs 15 = .ok (.aaload, 1) := by decide +kernel
theorem dX4_signs_16 : decode cX4_signs 16 = .ok (.getfield 79, 3) := by decide +kernel
theorem dX4_signs_19 : decode cX4_signs 19 = .ok (.iadd, 1) := by decide +kernel
theorem dX4_signs_20 : decode cX4_signs 20 = .ok (.istore_n 1, 1) := by decide +kernel
theorem dX4_signs_21 : decode cX4_signs 21 = .ok (.iinc 2 1, 3) := by decide +kernel
theorem dX4_signs_24 : decode cX4_signs 24 = .ok (.goto (-20), 3) := by decide +kernel
theorem dX4_signs_27 : decode cX4_signs 27 = .ok (.iload_n 1, 1) := by decide +kernel
theorem dX4_signs_28 : decode cX4_signs 28 = .ok (.ireturn, 1) := by decide +kernel
theorem dX4_pieces_0 : decode cX4_pieces 0 = .ok (.iconst 0, 1) := by decide +kernel
theorem dX4_pieces_1 : decode cX4_pieces 1 = .ok (.istore_n 1, 1) := by decide +kernel
theorem dX4_pieces_2 : decode cX4_pieces 2 = .ok (.iconst 0, 1) := by decide +kernel
theorem dX4_pieces_3 : decode cX4_pieces 3 = .ok (.istore_n 2, 1) := by decide +kernel
theorem dX4_pieces_4 : decode cX4_pieces 4 = .ok (.iload_n 2, 1) := by decide +kernel
theorem dX4_pieces_5 : decode cX4_pieces 5 = .ok (.iconst 4, 1) := by decide +kernel
theorem dX4_pieces_6 : decode cX4_pieces 6 = .ok (.if_icmp .ge 21, 3) := by decide +kernel
theorem dX4_pieces_9 : decode cX4_pieces 9 = .ok (.iload_n 1, 1) := by decide +kernel
theorem dX4_pieces_10 : decode cX4_pieces 10 = .ok (.aload_n 0, 1) := by decide +kernel
theorem dX4_pieces_11 : decode cX4_pieces 11 = .ok (.getfield 11, 3) := by decide +kernel
theorem dX4_pieces_14 : decode cX4_pieces 14 = .ok (.iload_n 2, 1) := by decide +kernel
theorem dX4_pieces_15 : decode cX4_pieces 15 = .ok (.aaload, 1) := by decide +kernel
theorem dX4_pieces_16 : decode cX4_pieces 16 = .ok (.getfield 63, 3) := by decide +kernel
theorem dX4_pieces_19 : decode cX4_pieces 19 = .ok (.iadd, 1) := by decide +kernel
theorem dX4_pieces_20 : decode cX4_pieces 20 = .ok (.istore_n 1, 1) := by decide +kernel
theorem dX4_pieces_21 : decode cX4_pieces 21 = .ok (.iinc 2 1, 3) := by decide +kernel
theorem dX4_pieces_24 : decode cX4_pieces 24 = .ok (.goto (-20), 3) := by decide +kernel
theorem dX4_pieces_27 : decode cX4_pieces 27 = .ok (.iload_n 1, 1) := by decide +kernel
theorem dX4_pieces_28 : decode cX4_pieces 28 = .ok (.ireturn, 1) := by decide +kernel
theorem dX5_init_0 : decode cX5_init 0 = .ok (.aload_n 0, 1) := by decide +kernel
theorem dX5_init_1 : decode cX5_init 1 = .ok (.invokespecial 3, 3) := by decide +kernel
theorem dX5_init_4 : decode cX5_init 4 = .ok (.aload_n 0, 1) := by decide +kernel
theorem dX5_init_5 : decode cX5_init 5 = .ok (.bipush 60, 2) := by decide +kernel
theorem dX5_init_7 : decode cX5_init 7 = .ok (.newarray .long, 2) := by decide +kernel
theorem dX5_init_9 : decode cX5_init 9 = .ok (.putfield 9, 3) := by decide +kernel
theorem dX5_init_12 : decode cX5_init 12 = .ok (.aload_n 0, 1) := by decide +kernel
theorem dX5_init_13 : decode cX5_init 13 = .ok (.bipush 60, 2) := by decide +kernel
theorem dX5_init_15 : decode cX5_init 15 = .ok (.newarray .int, 2) := by decide +kernel
theorem dX5_init_17 : decode cX5_init 17 = .ok (.putfield 15, 3) := by decide +kernel
theorem dX5_init_20 : decode cX5_init 20 = .ok (.aload_n 0, 1) := by decide +kernel
theorem dX5_init_21 : decode cX5_init 21 = .ok (.bipush 60, 2) := by decide +kernel
theorem dX5_init_23 : decode cX5_init 23 = .ok (.newarray .int, 2) := by decide +kernel
theorem dX5_init_25 : decode cX5_init 25 = .ok (.putfield 19, 3) := by decide +kernel
theorem dX5_init_28 : decode cX5_init 28 = .ok (.aload_n 0, 1) := by decide +kernel
theorem dX5_init_29 : decode cX5_init 29 = .ok (.iconst 0, 1) := by decide +kernel
theorem dX5_init_30 : decode cX5_init 30 = .ok (.putfield 22, 3) := by decide +kernel
theorem dX5_init_33 : decode cX5_init 33 = .ok (.aload_n 0, 1) := by decide +kernel
theorem dX5_init_34 : decode cX5_init 34 = .ok (.iconst 0, 1) := by decide +kernel
theorem dX5_init_35 : decode cX5_init 35 = .ok (.putfield 26, 3) := by decide +kernel
theorem dX5_init_38 : decode cX5_init 38 = .ok (.return_, 1) := by decide +kernel
theorem dX5_become_0 : decode cX5_become 0 = .ok (.aload_n 1, 1) := by decide +kernel
theorem dX5_become_1 : decode cX5_become 1 = .ok (.getfield 9, 3) := by decide +kernel
theorem dX5_become_4 : decode cX5_become 4 = .ok (.iconst 0, 1) := by decide +kernel
theorem dX5_become_5 : decode cX5_become 5 = .ok (.aload_n 0, 1) := by decide +kernel
theorem dX5_become_6 : decode cX5_become 6 = .ok (.getfield 9, 3) := by decide +kernel
theorem dX5_become_9 : decode cX5_become 9 = .ok (.iconst 0, 1) := by decide +kernel
theorem dX5_become_10 : decode cX5_become 10 = .ok (.bipush 60, 2) := by decide +kernel
theorem dX5_become_12 : decode cX5_become 12 = .ok (.invokestatic 29, 3) := by decide +kernel
theorem dX5_become_15 : decode cX5_become 15 = .ok (.aload_n 1, 1) := by decide +kernel
theorem dX5_become_16 : decode cX5_become 16 = .ok (.getfield 15, 3) := by decide +kernel
theorem dX5_become_19 : decode cX5_become 19 = .ok (.iconst 0, 1) := by decide +kernel
theorem dX5_become_20 : decode cX5_become 20 = .ok (.aload_n 0, 1) := by decide +kernel
theorem dX5_become_21 : decode cX5_become 21 = .ok (.getfield 15, 3) := by decide +kernel
theorem dX5_become_24 : decode cX5_become 24 = .ok (.iconst 0, 1) := by decide +kernel
theorem dX5_become_25 : decode cX5_become 25 = .ok (.bipush 60, 2) := by decide +kernel
theorem dX5_become_27 : decode cX5_become 27 = .ok (.invokestatic 29, 3) := by decide +kernel
theorem dX5_become_30 : decode cX5_become 30 = .ok (.aload_n 1, 1) := by decide +kernel
theorem dX5_become_31 : decode cX5_become 31 = .ok (.getfield 19, 3) := by decide +kernel
theorem dX5_become_34 : decode cX5_become 34 = .ok (.iconst 0, 1) := by decide +kernel
theorem dX5_become_35 : decode cX5_become 35 = .ok (.aload_n 0, 1) := by decide +kernel
theorem dX5_become_36 : decode cX5_become 36 = .ok (.getfield 19, 3) := by decide +kernel
theorem dX5_become_39 : decode cX5_become 39 = .ok (.iconst 0, 1) := by decide +kernel
theorem dX5_become_40 : decode cX5_become 40 = .ok (.bipush 60, 2) := by decide +kernel
theorem dX5_become_42 : decode cX5_become 42 = .ok (.invokestatic 29, 3) := by decide +kernel
theorem dX5_become_45 : decode cX5_become 45 = .ok (.aload_n 0, 1) := by decide +kernel
theorem dX5_become_46 : decode cX5_become 46 = .ok (.aload_n 1, 1) := by decide +kernel
theorem dX5_become_47 : decode cX5_become 47 = .ok (.getfield 22, 3) := by decide +kernel
theorem dX5_become_50 : decode cX5_become 50 = .ok (.putfield 22, 3) := by decide +kernel
theorem dX5_become_53 : decode cX5_become 53 = .ok (.aload_n 0, 1) := by decide +kernel
theorem dX5_become_54 : decode cX5_become 54 = .ok (.aload_n 1, 1) := by decide +kernel
theorem dX5_become_55 : decode cX5_become 55 = .ok (.getfield 26, 3) := by decide +kernel
theorem dX5_become_58 : decode cX5_become 58 = .ok (.putfield 26, 3) := by decide +kernel
theorem dX5_become_61 : decode cX5_become 61 = .ok (.return_, 1) := by decide +kernel
theorem dX5_isFree_0 : decode cX5_isFree 0 = .ok (.aload_n 0, 1) := by decide +kernel
theorem dX5_isFree_1 : decode cX5_isFree 1 = .ok (.getfield 9, 3) := by decide +kernel
theorem dX5_isFree_4 : decode cX5_isFree 4 = .ok (.iload_n 1, 1) := by decide +kernel
theorem dX5_isFree_5 : decode cX5_isFree 5 = .ok (.laload, 1) := by decide +kernel
theorem dX5_isFree_6 : decode cX5_isFree 6 = .ok (.lconst 0, 1) := by decide +kernel
theorem dX5_isFree_7 : decode cX5_isFree 7 = .ok (.lcmp, 1) := by decide +kernel
theorem dX5_isFree_8 : decode cX5_isFree 8 = .ok (.ifCond .ne 7, 3) := by decide +kernel
theorem dX5_isFree_11 : decode cX5_isFree 11 = .ok (.iconst 1, 1) := by decide +kernel
theorem dX5_isFree_12 : decode cX5_isFree 12 = .ok (.goto 4, 3) := by decide +kernel
theorem dX5_isFree_15 : decode cX5_isFree 15 = .ok (.iconst 0, 1) := by decide +kernel
theorem dX5_isFree_16 : decode cX5_isFree 16 = .ok (.ireturn, 1) := by decide +kernel
theorem dX5_isUnowned_0 : decode cX5_isUnowned 0 = .ok (.aload_n 0, 1) := by decide +kernel
theorem dX5_isUnowned_1 : decode cX5_isUnowned 1 = .ok (.getfield 9, 3) := by decide +kernel
theorem dX5_isUnowned_4 : decode cX5_isUnowned 4 = .ok (.iload_n 1, 1) := by decide +kernel
theorem dX5_isUnowned_5 : decode cX5_isUnowned 5 = .ok (.laload, 1) := by decide +kernel
theorem dX5_isUnowned_6 : decode cX5_isUnowned 6 = .ok (.lconst 0, 1) := by decide +kernel
theorem dX5_isUnowned_7 : decode cX5_isUnowned 7 = .ok (.lcmp, 1) := by decide +kernel
theorem dX5_isUnowned_8 : decode cX5_isUnowned 8 = .ok (.ifCond .eq 16, 3) := by decide +kernel
theorem dX5_isUnowned_11 : decode cX5_isUnowned 11 = .ok (.aload_n 0, 1) := by decide +kernel
theorem dX5_isUnowned_12 : decode cX5_isUnowned 12 = .ok (.getfield 19, 3) := by decide +kernel
theorem dX5_isUnowned_15 : decode cX5_isUnowned 15 = .ok (.iload_n 1, 1) := by decide +kernel
theorem dX5_isUnowned_16 : decode cX5_isUnowned 16 = .ok (.iaload, 1) := by decide +kernel
theorem dX5_isUnowned_17 : decode cX5_isUnowned 17 = .ok (.ifCond .ne 7, 3) := by decide +kernel
theorem dX5_isUnowned_20 : decode cX5_isUnowned 20 = .ok (.iconst 1, 1) := by decide +kernel
theorem dX5_isUnowned_21 : decode cX5_isUnowned 21 = .ok (.goto 4, 3) := by decide +kernel
theorem dX5_isUnowned_24 : decode cX5_isUnowned 24 = .ok (.iconst 0, 1) := by decide +kernel
theorem dX5_isUnowned_25 : decode cX5_isUnowned 25 = .ok (.ireturn, 1) := by decide +kernel
theorem dX5_slotOf_0 : decode cX5_slotOf 0 = .ok (.iconst 0, 1) := by decide +kernel
theorem dX5_slotOf_1 : decode cX5_slotOf 1 = .ok (.istore_n 3, 1) := by decide +kernel
theorem dX5_slotOf_2 : decode cX5_slotOf 2 = .ok (.iload_n 3, 1) := by decide +kernel
theorem dX5_slotOf_3 : decode cX5_slotOf 3 = .ok (.bipush 60, 2) := by decide +kernel
theorem dX5_slotOf_5 : decode cX5_slotOf 5 = .ok (.if_icmp .ge 22, 3) := by decide +kernel
theorem dX5_slotOf_8 : decode cX5_slotOf 8 = .ok (.aload_n 0, 1) := by decide +kernel
theorem dX5_slotOf_9 : decode cX5_slotOf 9 = .ok (.getfield 9, 3) := by decide +kernel
theorem dX5_slotOf_12 : decode cX5_slotOf 12 = .ok (.iload_n 3, 1) := by decide +kernel
theorem dX5_slotOf_13 : decode cX5_slotOf 13 = .ok (.laload, 1) := by decide +kernel
theorem dX5_slotOf_14 : decode cX5_slotOf 14 = .ok (.lload_n 1, 1) := by decide +kernel
theorem dX5_slotOf_15 : decode cX5_slotOf 15 = .ok (.lcmp, 1) := by decide +kernel
theorem dX5_slotOf_16 : decode cX5_slotOf 16 = .ok (.ifCond .ne 5, 3) := by decide +kernel
theorem dX5_slotOf_19 : decode cX5_slotOf 19 = .ok (.iload_n 3, 1) := by decide +kernel
theorem dX5_slotOf_20 : decode cX5_slotOf 20 = .ok (.ireturn, 1) := by decide +kernel
theorem dX5_slotOf_21 : decode cX5_slotOf 21 = .ok (.iinc 3 1, 3) := by decide +kernel
theorem dX5_slotOf_24 : decode cX5_slotOf 24 = .ok (.goto (-22), 3) := by decide +kernel
theorem dX5_slotOf_27 : decode cX5_slotOf 27 = .ok (.iconst (-1), 1) := by decide +kernel
theorem dX5_slotOf_28 : decode cX5_slotOf 28 = .ok (.ireturn, 1) := by decide +kernel
theorem dX5_firstSign_0 : decode cX5_firstSign 0 = .ok (.aload_n 0, 1) := by decide +kernel
theorem dX5_firstSign_1 : decode cX5_firstSign 1 = .ok (.getfield 9, 3) := by decide +kernel
theorem dX5_firstSign_4 : decode cX5_firstSign 4 = .ok (.iload_n 1, 1) := by decide +kernel
theorem dX5_firstSign_5 : decode cX5_firstSign 5 = .ok (.laload, 1) := by decide +kernel
theorem dX5_firstSign_6 : decode cX5_firstSign 6 = .ok (.iconst 3, 1) := by decide +kernel
theorem dX5_firstSign_7 : decode cX5_firstSign 7 = .ok (.aload_n 0, 1) := by decide +kernel
theorem dX5_firstSign_8 : decode cX5_firstSign 8 = .ok (.getfield 15, 3) := by decide +kernel
theorem dX5_firstSign_11 : decode cX5_firstSign 11 = .ok (.iload_n 1, 1) := by decide +kernel
theorem dX5_firstSign_12 : decode cX5_firstSign 12 = .ok (.iaload, 1) := by decide +kernel
theorem dX5_firstSign_13 : decode cX5_firstSign 13 = .ok (.iconst 1, 1) := by decide +kernel
theorem dX5_firstSign_14 : decode cX5_firstSign 14 = .ok (.isub, 1) := by decide +kernel
theorem dX5_firstSign_15 : decode cX5_firstSign 15 = .ok (.imul, 1) := by decide +kernel
theorem dX5_firstSign_16 : decode cX5_firstSign 16 = .ok (.lshr, 1) := by decide +kernel
theorem dX5_firstSign_17 : decode cX5_firstSign 17 = .ok (.ldc2_w 35, 3) := by decide +kernel
theorem dX5_firstSign_20 : decode cX5_firstSign 20 = .ok (.land, 1) := by decide +kernel
theorem dX5_firstSign_21 : decode cX5_firstSign 21 = .ok (.l2i, 1) := by decide +kernel
theorem dX5_firstSign_22 : decode cX5_firstSign 22 = .ok (.iconst 1, 1) := by decide +kernel
theorem dX5_firstSign_23 : decode cX5_firstSign 23 = .ok (.iadd, 1) := by decide +kernel
theorem dX5_firstSign_24 : decode cX5_firstSign 24 = .ok (.ireturn, 1) := by decide +kernel
theorem dX5_lastSign_0 : decode cX5_lastSign 0 = .ok (.aload_n 0, 1) := by decide +kernel
theorem dX5_lastSign_1 : decode cX5_lastSign 1 = .ok (.getfield 9, 3) := by decide +kernel
theorem dX5_lastSign_4 : decode cX5_lastSign 4 = .ok (.iload_n 1, 1) := by decide +kernel
theorem dX5_lastSign_5 : decode cX5_lastSign 5 = .ok (.laload, 1) := by decide +kernel
theorem dX5_lastSign_6 : decode cX5_lastSign 6 = .ok (.ldc2_w 35, 3) := by decide +kernel
theorem dX5_lastSign_9 : decode cX5_lastSign 9 = .ok (.land, 1) := by decide +kernel
theorem dX5_lastSign_10 : decode cX5_lastSign 10 = .ok (.l2i, 1) := by decide +kernel
theorem dX5_lastSign_11 : decode cX5_lastSign 11 = .ok (.iconst 1, 1) := by decide +kernel
theorem dX5_lastSign_12 : decode cX5_lastSign 12 = .ok (.iadd, 1) := by decide +kernel
theorem dX5_lastSign_13 : decode cX5_lastSign 13 = .ok (.ireturn, 1) := by decide +kernel
theorem dX5_loseOwner_0 : decode cX5_loseOwner 0 = .ok (.iconst 0, 1) := by decide +kernel
theorem dX5_loseOwner_1 : decode cX5_loseOwner 1 = .ok (.istore_n 2, 1) := by decide +kernel
theorem dX5_loseOwner_2 : decode cX5_loseOwner 2 = .ok (.iload_n 2, 1) := by decide +kernel
theorem dX5_loseOwner_3 : decode cX5_loseOwner 3 = .ok (.aload_n 1, 1) := by decide +kernel
theorem dX5_loseOwner_4 : decode cX5_loseOwner 4 = .ok (.getfield 37, 3) := by decide +kernel
theorem dX5_loseOwner_7 : decode cX5_loseOwner 7 = .ok (.if_icmp .ge 35, 3) := by decide +kernel
theorem dX5_loseOwner_10 : decode cX5_loseOwner 10 = .ok (.aload_n 0, 1) := by decide +kernel
theorem dX5_loseOwner_11 : decode cX5_loseOwner 11 = .ok (.aload_n 1, 1) := by decide +kernel
theorem dX5_loseOwner_12 : decode cX5_loseOwner 12 = .ok (.getfield 42, 3) := by decide +kernel
theorem dX5_loseOwner_15 : decode cX5_loseOwner 15 = .ok (.iload_n 2, 1) := by decide +kernel
theorem dX5_loseOwner_16 : decode cX5_loseOwner 16 = .ok (.laload, 1) := by decide +kernel
theorem dX5_loseOwner_17 : decode cX5_loseOwner 17 = .ok (.invokevirtual 43, 3) := by decide +kernel
theorem dX5_loseOwner_20 : decode cX5_loseOwner 20 = .ok (.istore_n 3, 1) := by decide +kernel
theorem dX5_loseOwner_21 : decode cX5_loseOwner 21 = .ok (.iload_n 3, 1) := by decide +kernel
theorem dX5_loseOwner_22 : decode cX5_loseOwner 22 = .ok (.iconst (-1), 1) := by decide +kernel
theorem dX5_loseOwner_23 : decode cX5_loseOwner 23 = .ok (.if_icmp .eq 13, 3) := by decide +kernel
theorem dX5_loseOwner_26 : decode cX5_loseOwner 26 = .ok (.aload_n 0, 1) := by decide +kernel
theorem dX5_loseOwner_27 : decode cX5_loseOwner 27 = .ok (.getfield 19, 3) := by decide +kernel
theorem dX5_loseOwner_30 : decode cX5_loseOwner 30 = .ok (.iload_n 3, 1) := by decide +kernel
theorem dX5_loseOwner_31 : decode cX5_loseOwner 31 = .ok (.dup2, 1) := by decide +kernel
theorem dX5_loseOwner_32 : decode cX5_loseOwner 32 = .ok (.iaload, 1) := by decide +kernel
theorem dX5_loseOwner_33 : decode cX5_loseOwner 33 = .ok (.iconst 1, 1) := by decide +kernel
theorem dX5_loseOwner_34 : decode cX5_loseOwner 34 = .ok (.isub, 1) := by decide +kernel
theorem dX5_loseOwner_35 : decode cX5_loseOwner 35 = .ok (.iastore, 1) := by decide +kernel
theorem dX5_loseOwner_36 : decode cX5_loseOwner 36 = .ok (.iinc 2 1, 3) := by decide +kernel
theorem dX5_loseOwner_39 : decode cX5_loseOwner 39 = .ok (.goto (-37), 3) := by decide +kernel
theorem dX5_loseOwner_42 : decode cX5_loseOwner 42 = .ok (.return_, 1) := by decide +kernel
theorem dX5_getOwner_0 : decode cX5_getOwner 0 = .ok (.iconst 0, 1) := by decide +kernel
theorem dX5_getOwner_1 : decode cX5_getOwner 1 = .ok (.istore_n 2, 1) := by decide +kernel
theorem dX5_getOwner_2 : decode cX5_getOwner 2 = .ok (.iload_n 2, 1) := by decide +kernel
theorem dX5_getOwner_3 : decode cX5_getOwner 3 = .ok (.aload_n 1, 1) := by decide +kernel
theorem dX5_getOwner_4 : decode cX5_getOwner 4 = .ok (.getfield 37, 3) := by decide +kernel
theorem dX5_getOwner_7 : decode cX5_getOwner 7 = .ok (.if_icmp .ge 57, 3) := by decide +kernel
theorem dX5_getOwner_10 : decode cX5_getOwner 10 = .ok (.aload_n 0, 1) := by decide +kernel
theorem dX5_getOwner_11 : decode cX5_getOwner 11 = .ok (.aload_n 1, 1) := by decide +kernel
theorem dX5_getOwner_12 : decode cX5_getOwner 12 = .ok (.getfield 42, 3) := by decide +kernel
theorem dX5_getOwner_15 : decode cX5_getOwner 15 = .ok (.iload_n 2, 1) := by decide +kernel
theorem dX5_getOwner_16 : decode cX5_getOwner 16 = .ok (.laload, 1) := by decide +kernel
theorem dX5_getOwner_17 : decode cX5_getOwner 17 = .ok (.invokevirtual 43, 3) := by decide +kernel
theorem dX5_getOwner_20 : decode cX5_getOwner 20 = .ok (.istore_n 3, 1) := by decide +kernel
theorem dX5_getOwner_21 : decode cX5_getOwner 21 = .ok (.iload_n 3, 1) := by decide +kernel
theorem dX5_getOwner_22 : decode cX5_getOwner 22 = .ok (.iconst (-1), 1) := by decide +kernel
theorem dX5_getOwner_23 : decode cX5_getOwner 23 = .ok (.if_icmp .ne 20, 3) := by decide +kernel
theorem dX5_getOwner_26 : decode cX5_getOwner 26 = .ok (.aload_n 0, 1) := by decide +kernel
theorem dX5_getOwner_27 : decode cX5_getOwner 27 = .ok (.aload_n 1, 1) := by decide +kernel
theorem dX5_getOwner_28 : decode cX5_getOwner 28 = .ok (.getfield 42, 3) := by decide +kernel
theorem dX5_getOwner_31 : decode cX5_getOwner 31 = .ok (.iload_n 2, 1) := by decide +kernel
theorem dX5_getOwner_32 : decode cX5_getOwner 32 = .ok (.laload, 1) := by decide +kernel
theorem dX5_getOwner_33 : decode cX5_getOwner 33 = .ok (.aload_n 1, 1) := by decide +kernel
theorem dX5_getOwner_34 : decode cX5_getOwner 34 = .ok (.getfield 47, 3) := by decide +kernel
theorem dX5_getOwner_37 : decode cX5_getOwner 37 = .ok (.iload_n 2, 1) := by decide +kernel
theorem dX5_getOwner_38 : decode cX5_getOwner 38 = .ok (.iaload, 1) := by decide +kernel
theorem dX5_getOwner_39 : decode cX5_getOwner 39 = .ok (.invokevirtual 48, 3) := by decide +kernel
theorem dX5_getOwner_42 : decode cX5_getOwner 42 = .ok (.istore_n 3, 1) := by decide +kernel
theorem dX5_getOwner_43 : decode cX5_getOwner 43 = .ok (.iload_n 3, 1) := by decide +kernel
theorem dX5_getOwner_44 : decode cX5_getOwner 44 = .ok (.iconst (-1), 1) := by decide +kernel
theorem dX5_getOwner_45 : decode cX5_getOwner 45 = .ok (.if_icmp .eq 13, 3) := by decide +kernel
theorem dX5_getOwner_48 : decode cX5_getOwner 48 = .ok (.aload_n 0, 1) := by decide +kernel
theorem dX5_getOwner_49 : decode cX5_getOwner 49 = .ok (.getfield 19, 3) := by decide +kernel
theorem dX5_getOwner_52 : decode cX5_getOwner 52 = .ok (.iload_n 3, 1) := by decide +kernel
theorem dX5_getOwner_53 : decode cX5_getOwner 53 = .ok (.dup2, 1) := by decide +kernel
theorem dX5_getOwner_54 : decode cX5_getOwner 54 = .ok (.iaload, 1) := by decide +kernel
theorem dX5_getOwner_55 : decode cX5_getOwner 55 = .ok (.iconst 1, 1) := by decide +kernel
theorem dX5_getOwner_56 : decode cX5_getOwner 56 = .ok (.iadd, 1) := by decide +kernel
theorem dX5_getOwner_57 : decode cX5_getOwner 57 = .ok (.iastore, 1) := by decide +kernel
theorem dX5_getOwner_58 : decode cX5_getOwner 58 = .ok (.iinc 2 1, 3) := by decide +kernel
theorem dX5_getOwner_61 : decode cX5_getOwner 61 = .ok (.goto (-59), 3) := by decide +kernel
theorem dX5_getOwner_64 : decode cX5_getOwner 64 = .ok (.return_, 1) := by decide +kernel
theorem dX5_takeIn_0 : decode cX5_takeIn 0 = .ok (.aload_n 0, 1) := by decide +kernel
theorem dX5_takeIn_1 : decode cX5_takeIn 1 = .ok (.lconst 0, 1) := by decide +kernel
theorem dX5_takeIn_2 : decode cX5_takeIn 2 = .ok (.invokevirtual 43, 3) := by decide +kernel
theorem dX5_takeIn_5 : decode cX5_takeIn 5 = .ok (.istore 4, 2) := by decide +kernel
theorem dX5_takeIn_7 : decode cX5_takeIn 7 = .ok (.iload 4, 2) := by decide +kernel
theorem dX5_takeIn_9 : decode cX5_takeIn 9 = .ok (.iconst (-1), 1) := by decide +kernel
theorem dX5_takeIn_10 : decode cX5_takeIn 10 = .ok (.if_icmp .eq 37, 3) := by decide +kernel
theorem dX5_takeIn_13 : decode cX5_takeIn 13 = .ok (.aload_n 0, 1) := by decide +kernel
theorem dX5_takeIn_14 : decode cX5_takeIn 14 = .ok (.getfield 9, 3) := by decide +kernel
theorem dX5_takeIn_17 : decode cX5_takeIn 17 = .ok (.iload 4, 2) := by decide +kernel
theorem dX5_takeIn_19 : decode cX5_takeIn 19 = .ok (.lload_n 1, 1) := by decide +kernel
end
section
theorem dX5_takeIn_20 : decode cX5_takeIn 20 = .ok (.lastore, 1) := by decide +kernel
theorem dX5_takeIn_21 : decode cX5_takeIn 21 = .ok (.aload_n 0, 1) := by decide +kernel
theorem dX5_takeIn_22 : decode cX5_takeIn 22 = .ok (.getfield 15, 3) := by decide +kernel
theorem dX5_takeIn_25 : decode cX5_takeIn 25 = .ok (.iload 4, 2) := by decide +kernel
theorem dX5_takeIn_27 : decode cX5_takeIn 27 = .ok (.iload_n 3, 1) := by decide +kernel
theorem dX5_takeIn_28 : decode cX5_takeIn 28 = .ok (.iastore, 1) := by decide +kernel
theorem dX5_takeIn_29 : decode cX5_takeIn 29 = .ok (.aload_n 0, 1) := by decide +kernel
theorem dX5_takeIn_30 : decode cX5_takeIn 30 = .ok (.getfield 19, 3) := by decide +kernel
theorem dX5_takeIn_33 : decode cX5_takeIn 33 = .ok (.iload 4, 2) := by decide +kernel
theorem dX5_takeIn_35 : decode cX5_takeIn 35 = .ok (.iconst 0, 1) := by decide +kernel
theorem dX5_takeIn_36 : decode cX5_takeIn 36 = .ok (.iastore, 1) := by decide +kernel
theorem dX5_takeIn_37 : decode cX5_takeIn 37 = .ok (.aload_n 0, 1) := by decide +kernel
theorem dX5_takeIn_38 : decode cX5_takeIn 38 = .ok (.dup, 1) := by decide +kernel
theorem dX5_takeIn_39 : decode cX5_takeIn 39 = .ok (.getfield 22, 3) := by decide +kernel
theorem dX5_takeIn_42 : decode cX5_takeIn 42 = .ok (.iconst 1, 1) := by decide +kernel
theorem dX5_takeIn_43 : decode cX5_takeIn 43 = .ok (.iadd, 1) := by decide +kernel
theorem dX5_takeIn_44 : decode cX5_takeIn 44 = .ok (.putfield 22, 3) := by decide +kernel
theorem dX5_takeIn_47 : decode cX5_takeIn 47 = .ok (.iload 4, 2) := by decide +kernel
theorem dX5_takeIn_49 : decode cX5_takeIn 49 = .ok (.ireturn, 1) := by decide +kernel
theorem dX5_removeUnownedBut_0 : decode cX5_removeUnownedBut 0 = .ok (.iconst 0, 1) := by decide +kernel
theorem dX5_removeUnownedBut_1 : decode cX5_removeUnownedBut 1 = .ok (.istore_n 2, 1) := by decide +kernel
theorem dX5_removeUnownedBut_2 : decode cX5_removeUnownedBut 2 = .ok (.iconst 0, 1) := by decide +kernel
theorem dX5_removeUnownedBut_3 : decode cX5_removeUnownedBut 3 = .ok (.istore_n 3, 1) := by decide +kernel
theorem dX5_removeUnownedBut_4 : decode cX5_removeUnownedBut 4 = .ok (.iload_n 3, 1) := by decide +kernel
theorem dX5_removeUnownedBut_5 : decode cX5_removeUnownedBut 5 = .ok (.bipush 60, 2) := by decide +kernel
theorem dX5_removeUnownedBut_7 : decode cX5_removeUnownedBut 7 = .ok (.if_icmp .ge 40, 3) := by decide +kernel
theorem dX5_removeUnownedBut_10 : decode cX5_removeUnownedBut 10 = .ok (.aload_n 0, 1) := by decide +kernel
theorem dX5_removeUnownedBut_11 : decode cX5_removeUnownedBut 11 = .ok (.iload_n 3, 1) := by decide +kernel
theorem dX5_removeUnownedBut_12 : decode cX5_removeUnownedBut 12 = .ok (.invokevirtual 52, 3) := by decide +kernel
theorem dX5_removeUnownedBut_15 : decode cX5_removeUnownedBut 15 = .ok (.ifCond .eq 26, 3) := by decide +kernel
theorem dX5_removeUnownedBut_18 : decode cX5_removeUnownedBut 18 = .ok (.aload_n 1, 1) := by decide +kernel
theorem dX5_removeUnownedBut_19 : decode cX5_removeUnownedBut 19 = .ok (.aload_n 0, 1) := by decide +kernel
theorem dX5_removeUnownedBut_20 : decode cX5_removeUnownedBut 20 = .ok (.getfield 9, 3) := by decide +kernel
theorem dX5_removeUnownedBut_23 : decode cX5_removeUnownedBut 23 = .ok (.iload_n 3, 1) := by decide +kernel
theorem dX5_removeUnownedBut_24 : decode cX5_removeUnownedBut 24 = .ok (.laload, 1) := by decide +kernel
theorem dX5_removeUnownedBut_25 : decode cX5_removeUnownedBut 25 = .ok (.invokevirtual 56, 3) := by decide +kernel
theorem dX5_removeUnownedBut_28 : decode cX5_removeUnownedBut 28 = .ok (.ifCond .ne 13, 3) := by decide +kernel
theorem dX5_removeUnownedBut_31 : decode cX5_removeUnownedBut 31 = .ok (.aload_n 0, 1) := by decide +kernel
theorem dX5_removeUnownedBut_32 : decode cX5_removeUnownedBut 32 = .ok (.getfield 9, 3) := by decide +kernel
theorem dX5_removeUnownedBut_35 : decode cX5_removeUnownedBut 35 = .ok (.iload_n 3, 1) := by decide +kernel
theorem dX5_removeUnownedBut_36 : decode cX5_removeUnownedBut 36 = .ok (.lconst 0, 1) := by decide +kernel
theorem dX5_removeUnownedBut_37 : decode cX5_removeUnownedBut 37 = .ok (.lastore, 1) := by decide +kernel
theorem dX5_removeUnownedBut_38 : decode cX5_removeUnownedBut 38 = .ok (.iinc 2 1, 3) := by decide +kernel
theorem dX5_removeUnownedBut_41 : decode cX5_removeUnownedBut 41 = .ok (.iinc 3 1, 3) := by decide +kernel
theorem dX5_removeUnownedBut_44 : decode cX5_removeUnownedBut 44 = .ok (.goto (-40), 3) := by decide +kernel
theorem dX5_removeUnownedBut_47 : decode cX5_removeUnownedBut 47 = .ok (.aload_n 0, 1) := by decide +kernel
theorem dX5_removeUnownedBut_48 : decode cX5_removeUnownedBut 48 = .ok (.dup, 1) := by decide +kernel
theorem dX5_removeUnownedBut_49 : decode cX5_removeUnownedBut 49 = .ok (.getfield 26, 3) := by decide +kernel
theorem dX5_removeUnownedBut_52 : decode cX5_removeUnownedBut 52 = .ok (.iload_n 2, 1) := by decide +kernel
theorem dX5_removeUnownedBut_53 : decode cX5_removeUnownedBut 53 = .ok (.iadd, 1) := by decide +kernel
theorem dX5_removeUnownedBut_54 : decode cX5_removeUnownedBut 54 = .ok (.putfield 26, 3) := by decide +kernel
theorem dX5_removeUnownedBut_57 : decode cX5_removeUnownedBut 57 = .ok (.iload_n 2, 1) := by decide +kernel
theorem dX5_removeUnownedBut_58 : decode cX5_removeUnownedBut 58 = .ok (.ireturn, 1) := by decide +kernel
theorem dX5_hasRoomFor_0 : decode cX5_hasRoomFor 0 = .ok (.aload_n 0, 1) := by decide +kernel
theorem dX5_hasRoomFor_1 : decode cX5_hasRoomFor 1 = .ok (.aload_n 1, 1) := by decide +kernel
theorem dX5_hasRoomFor_2 : decode cX5_hasRoomFor 2 = .ok (.invokevirtual 60, 3) := by decide +kernel
theorem dX5_hasRoomFor_5 : decode cX5_hasRoomFor 5 = .ok (.bipush 60, 2) := by decide +kernel
theorem dX5_hasRoomFor_7 : decode cX5_hasRoomFor 7 = .ok (.aload_n 0, 1) := by decide +kernel
theorem dX5_hasRoomFor_8 : decode cX5_hasRoomFor 8 = .ok (.invokevirtual 64, 3) := by decide +kernel
theorem dX5_hasRoomFor_11 : decode cX5_hasRoomFor 11 = .ok (.isub, 1) := by decide +kernel
theorem dX5_hasRoomFor_12 : decode cX5_hasRoomFor 12 = .ok (.if_icmp .gt 23, 3) := by decide +kernel
theorem dX5_hasRoomFor_15 : decode cX5_hasRoomFor 15 = .ok (.aload_n 0, 1) := by decide +kernel
theorem dX5_hasRoomFor_16 : decode cX5_hasRoomFor 16 = .ok (.aload_n 1, 1) := by decide +kernel
theorem dX5_hasRoomFor_17 : decode cX5_hasRoomFor 17 = .ok (.invokevirtual 67, 3) := by decide +kernel
theorem dX5_hasRoomFor_20 : decode cX5_hasRoomFor 20 = .ok (.sipush 150, 3) := by decide +kernel
theorem dX5_hasRoomFor_23 : decode cX5_hasRoomFor 23 = .ok (.aload_n 0, 1) := by decide +kernel
theorem dX5_hasRoomFor_24 : decode cX5_hasRoomFor 24 = .ok (.invokevirtual 70, 3) := by decide +kernel
theorem dX5_hasRoomFor_27 : decode cX5_hasRoomFor 27 = .ok (.isub, 1) := by decide +kernel
theorem dX5_hasRoomFor_28 : decode cX5_hasRoomFor 28 = .ok (.if_icmp .gt 7, 3) := by decide +kernel
theorem dX5_hasRoomFor_31 : decode cX5_hasRoomFor 31 = .ok (.iconst 1, 1) := by decide +kernel
theorem dX5_hasRoomFor_32 : decode cX5_hasRoomFor 32 = .ok (.goto 4, 3) := by decide +kernel
theorem dX5_hasRoomFor_35 : decode cX5_hasRoomFor 35 = .ok (.iconst 0, 1) := by decide +kernel
theorem dX5_hasRoomFor_36 : decode cX5_hasRoomFor 36 = .ok (.ireturn, 1) := by decide +kernel
theorem dX5_slotsNeededBy_0 : decode cX5_slotsNeededBy 0 = .ok (.iconst 0, 1) := by decide +kernel
theorem dX5_slotsNeededBy_1 : decode cX5_slotsNeededBy 1 = .ok (.istore_n 2, 1) := by decide +kernel
theorem dX5_slotsNeededBy_2 : decode cX5_slotsNeededBy 2 = .ok (.iconst 0, 1) := by decide +kernel
theorem dX5_slotsNeededBy_3 : decode cX5_slotsNeededBy 3 = .ok (.istore_n 3, 1) := by decide +kernel
theorem dX5_slotsNeededBy_4 : decode cX5_slotsNeededBy 4 = .ok (.iload_n 3, 1) := by decide +kernel
theorem dX5_slotsNeededBy_5 : decode cX5_slotsNeededBy 5 = .ok (.aload_n 1, 1) := by decide +kernel
theorem dX5_slotsNeededBy_6 : decode cX5_slotsNeededBy 6 = .ok (.getfield 37, 3) := by decide +kernel
theorem dX5_slotsNeededBy_9 : decode cX5_slotsNeededBy 9 = .ok (.if_icmp .ge 40, 3) := by decide +kernel
theorem dX5_slotsNeededBy_12 : decode cX5_slotsNeededBy 12 = .ok (.aload_n 1, 1) := by decide +kernel
theorem dX5_slotsNeededBy_13 : decode cX5_slotsNeededBy 13 = .ok (.iload_n 3, 1) := by decide +kernel
theorem dX5_slotsNeededBy_14 : decode cX5_slotsNeededBy 14 = .ok (.aload_n 1, 1) := by decide +kernel
theorem dX5_slotsNeededBy_15 : decode cX5_slotsNeededBy 15 = .ok (.getfield 42, 3) := by decide +kernel
theorem dX5_slotsNeededBy_18 : decode cX5_slotsNeededBy 18 = .ok (.iload_n 3, 1) := by decide +kernel
theorem dX5_slotsNeededBy_19 : decode cX5_slotsNeededBy 19 = .ok (.laload, 1) := by decide +kernel
theorem dX5_slotsNeededBy_20 : decode cX5_slotsNeededBy 20 = .ok (.invokevirtual 73, 3) := by decide +kernel
theorem dX5_slotsNeededBy_23 : decode cX5_slotsNeededBy 23 = .ok (.ifCond .ne 20, 3) := by decide +kernel
theorem dX5_slotsNeededBy_26 : decode cX5_slotsNeededBy 26 = .ok (.aload_n 0, 1) := by decide +kernel
theorem dX5_slotsNeededBy_27 : decode cX5_slotsNeededBy 27 = .ok (.aload_n 1, 1) := by decide +kernel
theorem dX5_slotsNeededBy_28 : decode cX5_slotsNeededBy 28 = .ok (.getfield 42, 3) := by decide +kernel
theorem dX5_slotsNeededBy_31 : decode cX5_slotsNeededBy 31 = .ok (.iload_n 3, 1) := by decide +kernel
theorem dX5_slotsNeededBy_32 : decode cX5_slotsNeededBy 32 = .ok (.laload, 1) := by decide +kernel
theorem dX5_slotsNeededBy_33 : decode cX5_slotsNeededBy 33 = .ok (.invokevirtual 43, 3) := by decide +kernel
theorem dX5_slotsNeededBy_36 : decode cX5_slotsNeededBy 36 = .ok (.iconst (-1), 1) := by decide +kernel
theorem dX5_slotsNeededBy_37 : decode cX5_slotsNeededBy 37 = .ok (.if_icmp .ne 6, 3) := by decide +kernel
theorem dX5_slotsNeededBy_40 : decode cX5_slotsNeededBy 40 = .ok (.iinc 2 1, 3) := by decide +kernel
theorem dX5_slotsNeededBy_43 : decode cX5_slotsNeededBy 43 = .ok (.iinc 3 1, 3) := by decide +kernel
theorem dX5_slotsNeededBy_46 : decode cX5_slotsNeededBy 46 = .ok (.goto (-42), 3) := by decide +kernel
theorem dX5_slotsNeededBy_49 : decode cX5_slotsNeededBy 49 = .ok (.iload_n 2, 1) := by decide +kernel
theorem dX5_slotsNeededBy_50 : decode cX5_slotsNeededBy 50 = .ok (.ireturn, 1) := by decide +kernel
theorem dX5_roomNeededBy_0 : decode cX5_roomNeededBy 0 = .ok (.iconst 0, 1) := by decide +kernel
theorem dX5_roomNeededBy_1 : decode cX5_roomNeededBy 1 = .ok (.istore_n 2, 1) := by decide +kernel
theorem dX5_roomNeededBy_2 : decode cX5_roomNeededBy 2 = .ok (.iconst 0, 1) := by decide +kernel
theorem dX5_roomNeededBy_3 : decode cX5_roomNeededBy 3 = .ok (.istore_n 3, 1) := by decide +kernel
theorem dX5_roomNeededBy_4 : decode cX5_roomNeededBy 4 = .ok (.iload_n 3, 1) := by decide +kernel
theorem dX5_roomNeededBy_5 : decode cX5_roomNeededBy 5 = .ok (.aload_n 1, 1) := by decide +kernel
theorem dX5_roomNeededBy_6 : decode cX5_roomNeededBy 6 = .ok (.getfield 37, 3) := by decide +kernel
theorem dX5_roomNeededBy_9 : decode cX5_roomNeededBy 9 = .ok (.if_icmp .ge 46, 3) := by decide +kernel
theorem dX5_roomNeededBy_12 : decode cX5_roomNeededBy 12 = .ok (.aload_n 1, 1) := by decide +kernel
theorem dX5_roomNeededBy_13 : decode cX5_roomNeededBy 13 = .ok (.iload_n 3, 1) := by decide +kernel
theorem dX5_roomNeededBy_14 : decode cX5_roomNeededBy 14 = .ok (.aload_n 1, 1) := by decide +kernel
theorem dX5_roomNeededBy_15 : decode cX5_roomNeededBy 15 = .ok (.getfield 42, 3) := by decide +kernel
theorem dX5_roomNeededBy_18 : decode cX5_roomNeededBy 18 = .ok (.iload_n 3, 1) := by decide +kernel
theorem dX5_roomNeededBy_19 : decode cX5_roomNeededBy 19 = .ok (.laload, 1) := by decide +kernel
theorem dX5_roomNeededBy_20 : decode cX5_roomNeededBy 20 = .ok (.invokevirtual 73, 3) := by decide +kernel
theorem dX5_roomNeededBy_23 : decode cX5_roomNeededBy 23 = .ok (.ifCond .ne 26, 3) := by decide +kernel
theorem dX5_roomNeededBy_26 : decode cX5_roomNeededBy 26 = .ok (.aload_n 0, 1) := by decide +kernel
theorem dX5_roomNeededBy_27 : decode cX5_roomNeededBy 27 = .ok (.aload_n 1, 1) := by decide +kernel
theorem dX5_roomNeededBy_28 : decode cX5_roomNeededBy 28 = .ok (.getfield 42, 3) := by decide +kernel
theorem dX5_roomNeededBy_31 : decode cX5_roomNeededBy 31 = .ok (.iload_n 3, 1) := by decide +kernel
theorem dX5_roomNeededBy_32 : decode cX5_roomNeededBy 32 = .ok (.laload, 1) := by decide +kernel
theorem dX5_roomNeededBy_33 : decode cX5_roomNeededBy 33 = .ok (.invokevirtual 43, 3) := by decide +kernel
theorem dX5_roomNeededBy_36 : decode cX5_roomNeededBy 36 = .ok (.iconst (-1), 1) := by decide +kernel
theorem dX5_roomNeededBy_37 : decode cX5_roomNeededBy 37 = .ok (.if_icmp .ne 12, 3) := by decide +kernel
theorem dX5_roomNeededBy_40 : decode cX5_roomNeededBy 40 = .ok (.iload_n 2, 1) := by decide +kernel
theorem dX5_roomNeededBy_41 : decode cX5_roomNeededBy 41 = .ok (.aload_n 1, 1) := by decide +kernel
theorem dX5_roomNeededBy_42 : decode cX5_roomNeededBy 42 = .ok (.getfield 47, 3) := by decide +kernel
theorem dX5_roomNeededBy_45 : decode cX5_roomNeededBy 45 = .ok (.iload_n 3, 1) := by decide +kernel
theorem dX5_roomNeededBy_46 : decode cX5_roomNeededBy 46 = .ok (.iaload, 1) := by decide +kernel
theorem dX5_roomNeededBy_47 : decode cX5_roomNeededBy 47 = .ok (.iadd, 1) := by decide +kernel
theorem dX5_roomNeededBy_48 : decode cX5_roomNeededBy 48 = .ok (.istore_n 2, 1) := by decide +kernel
theorem dX5_roomNeededBy_49 : decode cX5_roomNeededBy 49 = .ok (.iinc 3 1, 3) := by decide +kernel
theorem dX5_roomNeededBy_52 : decode cX5_roomNeededBy 52 = .ok (.goto (-48), 3) := by decide +kernel
theorem dX5_roomNeededBy_55 : decode cX5_roomNeededBy 55 = .ok (.iload_n 2, 1) := by decide +kernel
theorem dX5_roomNeededBy_56 : decode cX5_roomNeededBy 56 = .ok (.ireturn, 1) := by decide +kernel
theorem dX5_pieces_0 : decode cX5_pieces 0 = .ok (.iconst 0, 1) := by decide +kernel
theorem dX5_pieces_1 : decode cX5_pieces 1 = .ok (.istore_n 1, 1) := by decide +kernel
theorem dX5_pieces_2 : decode cX5_pieces 2 = .ok (.iconst 0, 1) := by decide +kernel
theorem dX5_pieces_3 : decode cX5_pieces 3 = .ok (.istore_n 2, 1) := by decide +kernel
theorem dX5_pieces_4 : decode cX5_pieces 4 = .ok (.iload_n 2, 1) := by decide +kernel
theorem dX5_pieces_5 : decode cX5_pieces 5 = .ok (.bipush 60, 2) := by decide +kernel
theorem dX5_pieces_7 : decode cX5_pieces 7 = .ok (.if_icmp .ge 20, 3) := by decide +kernel
theorem dX5_pieces_10 : decode cX5_pieces 10 = .ok (.aload_n 0, 1) := by decide +kernel
theorem dX5_pieces_11 : decode cX5_pieces 11 = .ok (.iload_n 2, 1) := by decide +kernel
theorem dX5_pieces_12 : decode cX5_pieces 12 = .ok (.invokevirtual 77, 3) := by decide +kernel
theorem dX5_pieces_15 : decode cX5_pieces 15 = .ok (.ifCond .ne 6, 3) := by decide +kernel
theorem dX5_pieces_18 : decode cX5_pieces 18 = .ok (.iinc 1 1, 3) := by decide +kernel
theorem dX5_pieces_21 : decode cX5_pieces 21 = .ok (.iinc 2 1, 3) := by decide +kernel
theorem dX5_pieces_24 : decode cX5_pieces 24 = .ok (.goto (-20), 3) := by decide +kernel
theorem dX5_pieces_27 : decode cX5_pieces 27 = .ok (.iload_n 1, 1) := by decide +kernel
theorem dX5_pieces_28 : decode cX5_pieces 28 = .ok (.ireturn, 1) := by decide +kernel
theorem dX5_size_0 : decode cX5_size 0 = .ok (.iconst 0, 1) := by decide +kernel
theorem dX5_size_1 : decode cX5_size 1 = .ok (.istore_n 1, 1) := by decide +kernel
theorem dX5_size_2 : decode cX5_size 2 = .ok (.iconst 0, 1) := by decide +kernel
theorem dX5_size_3 : decode cX5_size 3 = .ok (.istore_n 2, 1) := by decide +kernel
theorem dX5_size_4 : decode cX5_size 4 = .ok (.iload_n 2, 1) := by decide +kernel
theorem dX5_size_5 : decode cX5_size 5 = .ok (.bipush 60, 2) := by decide +kernel
theorem dX5_size_7 : decode cX5_size 7 = .ok (.if_icmp .ge 26, 3) := by decide +kernel
theorem dX5_size_10 : decode cX5_size 10 = .ok (.aload_n 0, 1) := by decide +kernel
theorem dX5_size_11 : decode cX5_size 11 = .ok (.iload_n 2, 1) := by decide +kernel
theorem dX5_size_12 : decode cX5_size 12 = .ok (.invokevirtual 77, 3) := by decide +kernel
theorem dX5_size_15 : decode cX5_size 15 = .ok (.ifCond .ne 12, 3) := by decide +kernel
theorem dX5_size_18 : decode cX5_size 18 = .ok (.iload_n 1, 1) := by decide +kernel
theorem dX5_size_19 : decode cX5_size 19 = .ok (.aload_n 0, 1) := by decide +kernel
theorem dX5_size_20 : decode cX5_size 20 = .ok (.getfield 15, 3) := by decide +kernel
theorem dX5_size_23 : decode cX5_size 23 = .ok (.iload_n 2, 1) := by decide +kernel
theorem dX5_size_24 : decode cX5_size 24 = .ok (.iaload, 1) := by decide +kernel
theorem dX5_size_25 : decode cX5_size 25 = .ok (.iadd, 1) := by decide +kernel
theorem dX5_size_26 : decode cX5_size 26 = .ok (.istore_n 1, 1) := by decide +kernel
theorem dX5_size_27 : decode cX5_size 27 = .ok (.iinc 2 1, 3) := by decide +kernel
theorem dX5_size_30 : decode cX5_size 30 = .ok (.goto (-26), 3) := by decide +kernel
theorem dX5_size_33 : decode cX5_size 33 = .ok (.iload_n 1, 1) := by decide +kernel
theorem dX5_size_34 : decode cX5_size 34 = .ok (.ireturn, 1) := by decide +kernel
theorem dX5_unownedPieces_0 : decode cX5_unownedPieces 0 = .ok (.iconst 0, 1) := by decide +kernel
theorem dX5_unownedPieces_1 : decode cX5_unownedPieces 1 = .ok (.istore_n 1, 1) := by decide +kernel
theorem dX5_unownedPieces_2 : decode cX5_unownedPieces 2 = .ok (.iconst 0, 1) := by decide +kernel
theorem dX5_unownedPieces_3 : decode cX5_unownedPieces 3 = .ok (.istore_n 2, 1) := by decide +kernel
theorem dX5_unownedPieces_4 : decode cX5_unownedPieces 4 = .ok (.iload_n 2, 1) := by decide +kernel
theorem dX5_unownedPieces_5 : decode cX5_unownedPieces 5 = .ok (.bipush 60, 2) := by decide +kernel
theorem dX5_unownedPieces_7 : decode cX5_unownedPieces 7 = .ok (.if_icmp .ge 20, 3) := by decide +kernel
theorem dX5_unownedPieces_10 : decode cX5_unownedPieces 10 = .ok (.aload_n 0, 1) := by decide +kernel
theorem dX5_unownedPieces_11 : decode cX5_unownedPieces 11 = .ok (.iload_n 2, 1) := by decide +kernel
theorem dX5_unownedPieces_12 : decode cX5_unownedPieces 12 = .ok (.invokevirtual 52, 3) := by decide +kernel
theorem dX5_unownedPieces_15 : decode cX5_unownedPieces 15 = .ok (.ifCond .eq 6, 3) := by decide +kernel
theorem dX5_unownedPieces_18 : decode cX5_unownedPieces 18 = .ok (.iinc 1 1, 3) := by decide +kernel
theorem dX5_unownedPieces_21 : decode cX5_unownedPieces 21 = .ok (.iinc 2 1, 3) := by decide +kernel
theorem dX5_unownedPieces_24 : decode cX5_unownedPieces 24 = .ok (.goto (-20), 3) := by decide +kernel
theorem dX5_unownedPieces_27 : decode cX5_unownedPieces 27 = .ok (.iload_n 1, 1) := by decide +kernel
theorem dX5_unownedPieces_28 : decode cX5_unownedPieces 28 = .ok (.ireturn, 1) := by decide +kernel
theorem dX5_unownedSize_0 : decode cX5_unownedSize 0 = .ok (.iconst 0, 1) := by decide +kernel
theorem dX5_unownedSize_1 : decode cX5_unownedSize 1 = .ok (.istore_n 1, 1) := by decide +kernel
theorem dX5_unownedSize_2 : decode cX5_unownedSize 2 = .ok (.iconst 0, 1) := by decide +kernel
theorem dX5_unownedSize_3 : decode cX5_unownedSize 3 = .ok (.istore_n 2, 1) := by decide +kernel
theorem dX5_unownedSize_4 : decode cX5_unownedSize 4 = .ok (.iload_n 2, 1) := by decide +kernel
theorem dX5_unownedSize_5 : decode cX5_unownedSize 5 = .ok (.bipush 60, 2) := by decide +kernel
theorem dX5_unownedSize_7 : decode cX5_unownedSize 7 = .ok (.if_icmp .ge 26, 3) := by decide +kernel
theorem dX5_unownedSize_10 : decode cX5_unownedSize 10 = .ok (.aload_n 0, 1) := by decide +kernel
theorem dX5_unownedSize_11 : decode cX5_unownedSize 11 = .ok (.iload_n 2, 1) := by decide +kernel
theorem dX5_unownedSize_12 : decode cX5_unownedSize 12 = .ok (.invokevirtual 52, 3) := by decide +kernel
theorem dX5_unownedSize_15 : decode cX5_unownedSize 15 = .ok (.ifCond .eq 12, 3) := by decide +kernel
theorem dX5_unownedSize_18 : decode cX5_unownedSize 18 = .ok (.iload_n 1, 1) := by decide +kernel
theorem dX5_unownedSize_19 : decode cX5_unownedSize 19 = .ok (.aload_n 0, 1) := by decide +kernel
theorem dX5_unownedSize_20 : decode cX5_unownedSize 20 = .ok (.getfield 15, 3) := by decide +kernel
theorem dX5_unownedSize_23 : decode cX5_unownedSize 23 = .ok (.iload_n 2, 1) := by decide +kernel
theorem dX5_unownedSize_24 : decode cX5_unownedSize 24 = .ok (.iaload, 1) := by decide +kernel
theorem dX5_unownedSize_25 : decode cX5_unownedSize 25 = .ok (.iadd, 1) := by decide +kernel
theorem dX5_unownedSize_26 : decode cX5_unownedSize 26 = .ok (.istore_n 1, 1) := by decide +kernel
theorem dX5_unownedSize_27 : decode cX5_unownedSize 27 = .ok (.iinc 2 1, 3) := by decide +kernel
theorem dX5_unownedSize_30 : decode cX5_unownedSize 30 = .ok (.goto (-26), 3) := by decide +kernel
theorem dX5_unownedSize_33 : decode cX5_unownedSize 33 = .ok (.iload_n 1, 1) := by decide +kernel
theorem dX5_unownedSize_34 : decode cX5_unownedSize 34 = .ok (.ireturn, 1) := by decide +kernel
theorem dX5_mostOwners_0 : decode cX5_mostOwners 0 = .ok (.iconst 0, 1) := by decide +kernel
theorem dX5_mostOwners_1 : decode cX5_mostOwners 1 = .ok (.istore_n 1, 1) := by decide +kernel
theorem dX5_mostOwners_2 : decode cX5_mostOwners 2 = .ok (.iconst 0, 1) := by decide +kernel
theorem dX5_mostOwners_3 : decode cX5_mostOwners 3 = .ok (.istore_n 2, 1) := by decide +kernel
theorem dX5_mostOwners_4 : decode cX5_mostOwners 4 = .ok (.iload_n 2, 1) := by decide +kernel
theorem dX5_mostOwners_5 : decode cX5_mostOwners 5 = .ok (.bipush 60, 2) := by decide +kernel
theorem dX5_mostOwners_7 : decode cX5_mostOwners 7 = .ok (.if_icmp .ge 28, 3) := by decide +kernel
theorem dX5_mostOwners_10 : decode cX5_mostOwners 10 = .ok (.aload_n 0, 1) := by decide +kernel
theorem dX5_mostOwners_11 : decode cX5_mostOwners 11 = .ok (.iload_n 2, 1) := by decide +kernel
theorem dX5_mostOwners_12 : decode cX5_mostOwners 12 = .ok (.invokevirtual 77, 3) := by decide +kernel
theorem dX5_mostOwners_15 : decode cX5_mostOwners 15 = .ok (.ifCond .ne 14, 3) := by decide +kernel
theorem dX5_mostOwners_18 : decode cX5_mostOwners 18 = .ok (.iload_n 1, 1) := by decide +kernel
theorem dX5_mostOwners_19 : decode cX5_mostOwners 19 = .ok (.aload_n 0, 1) := by decide +kernel
theorem dX5_mostOwners_20 : decode cX5_mostOwners 20 = .ok (.getfield 19, 3) := by decide +kernel
theorem dX5_mostOwners_23 : decode cX5_mostOwners 23 = .ok (.iload_n 2, 1) := by decide +kernel
theorem dX5_mostOwners_24 : decode cX5_mostOwners 24 = .ok (.iaload, 1) := by decide +kernel
theorem dX5_mostOwners_25 : decode cX5_mostOwners 25 = .ok (.invokestatic 80, 3) := by decide +kernel
theorem dX5_mostOwners_28 : decode cX5_mostOwners 28 = .ok (.istore_n 1, 1) := by decide +kernel
theorem dX5_mostOwners_29 : decode cX5_mostOwners 29 = .ok (.iinc 2 1, 3) := by decide +kernel
theorem dX5_mostOwners_32 : decode cX5_mostOwners 32 = .ok (.goto (-28), 3) := by decide +kernel
theorem dX5_mostOwners_35 : decode cX5_mostOwners 35 = .ok (.iload_n 1, 1) := by decide +kernel
theorem dX5_mostOwners_36 : decode cX5_mostOwners 36 = .ok (.ireturn, 1) := by decide +kernel
theorem dX6_init_0 : decode cX6_init 0 = .ok (.aload_n 0, 1) := by decide +kernel
theorem dX6_init_1 : decode cX6_init 1 = .ok (.invokespecial 1, 3) := by decide +kernel
theorem dX6_init_4 : decode cX6_init 4 = .ok (.aload_n 0, 1) := by decide +kernel
theorem dX6_init_5 : decode cX6_init 5 = .ok (.new 7, 3) := by decide +kernel
theorem dX6_init_8 : decode cX6_init 8 = .ok (.dup, 1) := by decide +kernel
theorem dX6_init_9 : decode cX6_init 9 = .ok (.invokespecial 9, 3) := by decide +kernel
theorem dX6_init_12 : decode cX6_init 12 = .ok (.putfield 10, 3) := by decide +kernel
theorem dX6_init_15 : decode cX6_init 15 = .ok (.aload_n 0, 1) := by decide +kernel
theorem dX6_init_16 : decode cX6_init 16 = .ok (.new 16, 3) := by decide +kernel
theorem dX6_init_19 : decode cX6_init 19 = .ok (.dup, 1) := by decide +kernel
theorem dX6_init_20 : decode cX6_init 20 = .ok (.invokespecial 18, 3) := by decide +kernel
theorem dX6_init_23 : decode cX6_init 23 = .ok (.putfield 19, 3) := by decide +kernel
theorem dX6_init_26 : decode cX6_init 26 = .ok (.aload_n 0, 1) := by decide +kernel
theorem dX6_init_27 : decode cX6_init 27 = .ok (.new 23, 3) := by decide +kernel
theorem dX6_init_30 : decode cX6_init 30 = .ok (.dup, 1) := by decide +kernel
theorem dX6_init_31 : decode cX6_init 31 = .ok (.invokespecial 25, 3) := by decide +kernel
theorem dX6_init_34 : decode cX6_init 34 = .ok (.putfield 26, 3) := by decide +kernel
theorem dX6_init_37 : decode cX6_init 37 = .ok (.aload_n 0, 1) := by decide +kernel
theorem dX6_init_38 : decode cX6_init 38 = .ok (.new 7, 3) := by decide +kernel
theorem dX6_init_41 : decode cX6_init 41 = .ok (.dup, 1) := by decide +kernel
theorem dX6_init_42 : decode cX6_init 42 = .ok (.invokespecial 9, 3) := by decide +kernel
theorem dX6_init_45 : decode cX6_init 45 = .ok (.putfield 30, 3) := by decide +kernel
theorem dX6_init_48 : decode cX6_init 48 = .ok (.aload_n 0, 1) := by decide +kernel
theorem dX6_init_49 : decode cX6_init 49 = .ok (.new 33, 3) := by decide +kernel
theorem dX6_init_52 : decode cX6_init 52 = .ok (.dup, 1) := by decide +kernel
theorem dX6_init_53 : decode cX6_init 53 = .ok (.invokespecial 35, 3) := by decide +kernel
theorem dX6_init_56 : decode cX6_init 56 = .ok (.putfield 36, 3) := by decide +kernel
theorem dX6_init_59 : decode cX6_init 59 = .ok (.aload_n 0, 1) := by decide +kernel
theorem dX6_init_60 : decode cX6_init 60 = .ok (.new 40, 3) := by decide +kernel
theorem dX6_init_63 : decode cX6_init 63 = .ok (.dup, 1) := by decide +kernel
theorem dX6_init_64 : decode cX6_init 64 = .ok (.invokespecial 42, 3) := by decide +kernel
theorem dX6_init_67 : decode cX6_init 67 = .ok (.putfield 43, 3) := by decide +kernel
theorem dX6_init_70 : decode cX6_init 70 = .ok (.aload_n 0, 1) := by decide +kernel
theorem dX6_init_71 : decode cX6_init 71 = .ok (.sipush 160, 3) := by decide +kernel
theorem dX6_init_74 : decode cX6_init 74 = .ok (.newarray .long, 2) := by decide +kernel
theorem dX6_init_76 : decode cX6_init 76 = .ok (.putfield 47, 3) := by decide +kernel
theorem dX6_init_79 : decode cX6_init 79 = .ok (.return_, 1) := by decide +kernel
theorem dX6_put_0 : decode cX6_put 0 = .ok (.iload_n 1, 1) := by decide +kernel
theorem dX6_put_1 : decode cX6_put 1 = .ok (.invokestatic 51, 3) := by decide +kernel
theorem dX6_put_4 : decode cX6_put 4 = .ok (.aload_n 0, 1) := by decide +kernel
theorem dX6_put_5 : decode cX6_put 5 = .ok (.invokevirtual 55, 3) := by decide +kernel
theorem dX6_put_8 : decode cX6_put 8 = .ok (.aload_n 0, 1) := by decide +kernel
theorem dX6_put_9 : decode cX6_put 9 = .ok (.getfield 36, 3) := by decide +kernel
theorem dX6_put_12 : decode cX6_put 12 = .ok (.invokevirtual 58, 3) := by decide +kernel
theorem dX6_put_15 : decode cX6_put 15 = .ok (.aload_n 0, 1) := by decide +kernel
theorem dX6_put_16 : decode cX6_put 16 = .ok (.getfield 26, 3) := by decide +kernel
theorem dX6_put_19 : decode cX6_put 19 = .ok (.aload_n 0, 1) := by decide +kernel
theorem dX6_put_20 : decode cX6_put 20 = .ok (.getfield 36, 3) := by decide +kernel
theorem dX6_put_23 : decode cX6_put 23 = .ok (.invokevirtual 61, 3) := by decide +kernel
theorem dX6_put_26 : decode cX6_put 26 = .ok (.aload_n 0, 1) := by decide +kernel
theorem dX6_put_27 : decode cX6_put 27 = .ok (.iload_n 1, 1) := by decide +kernel
theorem dX6_put_28 : decode cX6_put 28 = .ok (.invokevirtual 65, 3) := by decide +kernel
theorem dX6_put_31 : decode cX6_put 31 = .ok (.istore_n 2, 1) := by decide +kernel
theorem dX6_put_32 : decode cX6_put 32 = .ok (.aload_n 0, 1) := by decide +kernel
theorem dX6_put_33 : decode cX6_put 33 = .ok (.getfield 26, 3) := by decide +kernel
theorem dX6_put_36 : decode cX6_put 36 = .ok (.invokevirtual 69, 3) := by decide +kernel
theorem dX6_put_39 : decode cX6_put 39 = .ok (.iload_n 2, 1) := by decide +kernel
theorem dX6_put_40 : decode cX6_put 40 = .ok (.ireturn, 1) := by decide +kernel
theorem dX6_insert_0 : decode cX6_insert 0 = .ok (.iload_n 1, 1) := by decide +kernel
theorem dX6_insert_1 : decode cX6_insert 1 = .ok (.invokestatic 51, 3) := by decide +kernel
theorem dX6_insert_4 : decode cX6_insert 4 = .ok (.aload_n 0, 1) := by decide +kernel
theorem dX6_insert_5 : decode cX6_insert 5 = .ok (.getfield 10, 3) := by decide +kernel
theorem dX6_insert_8 : decode cX6_insert 8 = .ok (.getfield 70, 3) := by decide +kernel
theorem dX6_insert_11 : decode cX6_insert 11 = .ok (.iload_n 1, 1) := by decide +kernel
theorem dX6_insert_12 : decode cX6_insert 12 = .ok (.aaload, 1) := by decide +kernel
theorem dX6_insert_13 : decode cX6_insert 13 = .ok (.astore_n 3, 1) := by decide +kernel
theorem dX6_insert_14 : decode cX6_insert 14 = .ok (.iload_n 2, 1) := by decide +kernel
theorem dX6_insert_15 : decode cX6_insert 15 = .ok (.ifCond .lt 11, 3) := by decide +kernel
theorem dX6_insert_18 : decode cX6_insert 18 = .ok (.iload_n 2, 1) := by decide +kernel
theorem dX6_insert_19 : decode cX6_insert 19 = .ok (.aload_n 3, 1) := by decide +kernel
theorem dX6_insert_20 : decode cX6_insert 20 = .ok (.getfield 74, 3) := by decide +kernel
theorem dX6_insert_23 : decode cX6_insert 23 = .ok (.if_icmp .le 13, 3) := by decide +kernel
theorem dX6_insert_26 : decode cX6_insert 26 = .ok (.new 78, 3) := by decide +kernel
theorem dX6_insert_29 : decode cX6_insert 29 = .ok (.dup, 1) := by decide +kernel
theorem dX6_insert_30 : decode cX6_insert 30 = .ok (.ldc 80, 2) := by decide +kernel
theorem dX6_insert_32 : decode cX6_insert 32 = .ok (.invokespecial 82, 3) := by decide +kernel
theorem dX6_insert_35 : decode cX6_insert 35 = .ok (.athrow, 1) := by decide +kernel
theorem dX6_insert_36 : decode cX6_insert 36 = .ok (.aload_n 0, 1) := by decide +kernel
theorem dX6_insert_37 : decode cX6_insert 37 = .ok (.invokevirtual 55, 3) := by decide +kernel
theorem dX6_insert_40 : decode cX6_insert 40 = .ok (.aload_n 3, 1) := by decide +kernel
theorem dX6_insert_41 : decode cX6_insert 41 = .ok (.getfield 74, 3) := by decide +kernel
theorem dX6_insert_44 : decode cX6_insert 44 = .ok (.aload_n 0, 1) := by decide +kernel
theorem dX6_insert_45 : decode cX6_insert 45 = .ok (.getfield 26, 3) := by decide +kernel
theorem dX6_insert_48 : decode cX6_insert 48 = .ok (.invokevirtual 85, 3) := by decide +kernel
theorem dX6_insert_51 : decode cX6_insert 51 = .ok (.iadd, 1) := by decide +kernel
theorem dX6_insert_52 : decode cX6_insert 52 = .ok (.bipush 40, 2) := by decide +kernel
theorem dX6_insert_54 : decode cX6_insert 54 = .ok (.if_icmp .le 13, 3) := by decide +kernel
theorem dX6_insert_57 : decode cX6_insert 57 = .ok (.new 89, 3) := by decide +kernel
theorem dX6_insert_60 : decode cX6_insert 60 = .ok (.dup, 1) := by decide +kernel
theorem dX6_insert_61 : decode cX6_insert 61 = .ok (.ldc 91, 2) := by decide +kernel
theorem dX6_insert_63 : decode cX6_insert 63 = .ok (.invokespecial 93, 3) := by decide +kernel
theorem dX6_insert_66 : decode cX6_insert 66 = .ok (.athrow, 1) := by decide +kernel
theorem dX6_insert_67 : decode cX6_insert 67 = .ok (.aload_n 0, 1) := by decide +kernel
theorem dX6_insert_68 : decode cX6_insert 68 = .ok (.getfield 36, 3) := by decide +kernel
theorem dX6_insert_71 : decode cX6_insert 71 = .ok (.invokevirtual 58, 3) := by decide +kernel
theorem dX6_insert_74 : decode cX6_insert 74 = .ok (.aload_n 0, 1) := by decide +kernel
theorem dX6_insert_75 : decode cX6_insert 75 = .ok (.getfield 36, 3) := by decide +kernel
theorem dX6_insert_78 : decode cX6_insert 78 = .ok (.aload_n 3, 1) := by decide +kernel
theorem dX6_insert_79 : decode cX6_insert 79 = .ok (.iconst 0, 1) := by decide +kernel
theorem dX6_insert_80 : decode cX6_insert 80 = .ok (.iload_n 2, 1) := by decide +kernel
theorem dX6_insert_81 : decode cX6_insert 81 = .ok (.invokevirtual 94, 3) := by decide +kernel
theorem dX6_insert_84 : decode cX6_insert 84 = .ok (.aload_n 0, 1) := by decide +kernel
theorem dX6_insert_85 : decode cX6_insert 85 = .ok (.getfield 26, 3) := by decide +kernel
theorem dX6_insert_88 : decode cX6_insert 88 = .ok (.aload_n 0, 1) := by decide +kernel
theorem dX6_insert_89 : decode cX6_insert 89 = .ok (.getfield 36, 3) := by decide +kernel
theorem dX6_insert_92 : decode cX6_insert 92 = .ok (.invokevirtual 61, 3) := by decide +kernel
theorem dX6_insert_95 : decode cX6_insert 95 = .ok (.aload_n 0, 1) := by decide +kernel
theorem dX6_insert_96 : decode cX6_insert 96 = .ok (.getfield 36, 3) := by decide +kernel
theorem dX6_insert_99 : decode cX6_insert 99 = .ok (.aload_n 3, 1) := by decide +kernel
theorem dX6_insert_100 : decode cX6_insert 100 = .ok (.iload_n 2, 1) := by decide +kernel
theorem dX6_insert_101 : decode cX6_insert 101 = .ok (.aload_n 3, 1) := by decide +kernel
theorem dX6_insert_102 : decode cX6_insert 102 = .ok (.getfield 74, 3) := by decide +kernel
theorem dX6_insert_105 : decode cX6_insert 105 = .ok (.invokevirtual 94, 3) := by decide +kernel
theorem dX6_insert_108 : decode cX6_insert 108 = .ok (.aload_n 0, 1) := by decide +kernel
theorem dX6_insert_109 : decode cX6_insert 109 = .ok (.iload_n 1, 1) := by decide +kernel
theorem dX6_insert_110 : decode cX6_insert 110 = .ok (.invokevirtual 65, 3) := by decide +kernel
theorem dX6_insert_113 : decode cX6_insert 113 = .ok (.istore 4, 2) := by decide +kernel
theorem dX6_insert_115 : decode cX6_insert 115 = .ok (.aload_n 0, 1) := by decide +kernel
theorem dX6_insert_116 : decode cX6_insert 116 = .ok (.getfield 26, 3) := by decide +kernel
theorem dX6_insert_119 : decode cX6_insert 119 = .ok (.invokevirtual 69, 3) := by decide +kernel
theorem dX6_insert_122 : decode cX6_insert 122 = .ok (.iload 4, 2) := by decide +kernel
theorem dX6_insert_124 : decode cX6_insert 124 = .ok (.ireturn, 1) := by decide +kernel
theorem dX6_takeOut_0 : decode cX6_takeOut 0 = .ok (.iload_n 1, 1) := by decide +kernel
theorem dX6_takeOut_1 : decode cX6_takeOut 1 = .ok (.invokestatic 51, 3) := by decide +kernel
theorem dX6_takeOut_4 : decode cX6_takeOut 4 = .ok (.aload_n 0, 1) := by decide +kernel
theorem dX6_takeOut_5 : decode cX6_takeOut 5 = .ok (.getfield 10, 3) := by decide +kernel
theorem dX6_takeOut_8 : decode cX6_takeOut 8 = .ok (.getfield 70, 3) := by decide +kernel
theorem dX6_takeOut_11 : decode cX6_takeOut 11 = .ok (.iload_n 1, 1) := by decide +kernel
theorem dX6_takeOut_12 : decode cX6_takeOut 12 = .ok (.aaload, 1) := by decide +kernel
theorem dX6_takeOut_13 : decode cX6_takeOut 13 = .ok (.astore 4, 2) := by decide +kernel
theorem dX6_takeOut_15 : decode cX6_takeOut 15 = .ok (.aload 4, 2) := by decide +kernel
theorem dX6_takeOut_17 : decode cX6_takeOut 17 = .ok (.iload_n 2, 1) := by decide +kernel
theorem dX6_takeOut_18 : decode cX6_takeOut 18 = .ok (.invokestatic 98, 3) := by decide +kernel
theorem dX6_takeOut_21 : decode cX6_takeOut 21 = .ok (.iload_n 3, 1) := by decide +kernel
theorem dX6_takeOut_22 : decode cX6_takeOut 22 = .ok (.iconst 1, 1) := by decide +kernel
theorem dX6_takeOut_23 : decode cX6_takeOut 23 = .ok (.if_icmp .lt 14, 3) := by decide +kernel
theorem dX6_takeOut_26 : decode cX6_takeOut 26 = .ok (.iload_n 3, 1) := by decide +kernel
theorem dX6_takeOut_27 : decode cX6_takeOut 27 = .ok (.aload 4, 2) := by decide +kernel
theorem dX6_takeOut_29 : decode cX6_takeOut 29 = .ok (.getfield 74, 3) := by decide +kernel
theorem dX6_takeOut_32 : decode cX6_takeOut 32 = .ok (.iload_n 2, 1) := by decide +kernel
theorem dX6_takeOut_33 : decode cX6_takeOut 33 = .ok (.isub, 1) := by decide +kernel
theorem dX6_takeOut_34 : decode cX6_takeOut 34 = .ok (.if_icmp .le 13, 3) := by decide +kernel
theorem dX6_takeOut_37 : decode cX6_takeOut 37 = .ok (.new 102, 3) := by decide +kernel
theorem dX6_takeOut_40 : decode cX6_takeOut 40 = .ok (.dup, 1) := by decide +kernel
theorem dX6_takeOut_41 : decode cX6_takeOut 41 = .ok (.ldc 104, 2) := by decide +kernel
theorem dX6_takeOut_43 : decode cX6_takeOut 43 = .ok (.invokespecial 106, 3) := by decide +kernel
theorem dX6_takeOut_46 : decode cX6_takeOut 46 = .ok (.athrow, 1) := by decide +kernel
theorem dX6_takeOut_47 : decode cX6_takeOut 47 = .ok (.aload_n 0, 1) := by decide +kernel
theorem dX6_takeOut_48 : decode cX6_takeOut 48 = .ok (.getfield 36, 3) := by decide +kernel
theorem dX6_takeOut_51 : decode cX6_takeOut 51 = .ok (.invokevirtual 58, 3) := by decide +kernel
theorem dX6_takeOut_54 : decode cX6_takeOut 54 = .ok (.aload_n 0, 1) := by decide +kernel
theorem dX6_takeOut_55 : decode cX6_takeOut 55 = .ok (.getfield 36, 3) := by decide +kernel
theorem dX6_takeOut_58 : decode cX6_takeOut 58 = .ok (.aload 4, 2) := by decide +kernel
theorem dX6_takeOut_60 : decode cX6_takeOut 60 = .ok (.iconst 0, 1) := by decide +kernel
theorem dX6_takeOut_61 : decode cX6_takeOut 61 = .ok (.iload_n 2, 1) := by decide +kernel
theorem dX6_takeOut_62 : decode cX6_takeOut 62 = .ok (.invokevirtual 94, 3) := by decide +kernel
theorem dX6_takeOut_65 : decode cX6_takeOut 65 = .ok (.aload_n 0, 1) := by decide +kernel
theorem dX6_takeOut_66 : decode cX6_takeOut 66 = .ok (.getfield 36, 3) := by decide +kernel
theorem dX6_takeOut_69 : decode cX6_takeOut 69 = .ok (.aload 4, 2) := by decide +kernel
theorem dX6_takeOut_71 : decode cX6_takeOut 71 = .ok (.iload_n 2, 1) := by decide +kernel
theorem dX6_takeOut_72 : decode cX6_takeOut 72 = .ok (.iload_n 3, 1) := by decide +kernel
theorem dX6_takeOut_73 : decode cX6_takeOut 73 = .ok (.iadd, 1) := by decide +kernel
theorem dX6_takeOut_74 : decode cX6_takeOut 74 = .ok (.aload 4, 2) := by decide +kernel
theorem dX6_takeOut_76 : decode cX6_takeOut 76 = .ok (.getfield 74, 3) := by decide +kernel
theorem dX6_takeOut_79 : decode cX6_takeOut 79 = .ok (.invokevirtual 94, 3) := by decide +kernel
theorem dX6_takeOut_82 : decode cX6_takeOut 82 = .ok (.aload_n 0, 1) := by decide +kernel
theorem dX6_takeOut_83 : decode cX6_takeOut 83 = .ok (.iload_n 1, 1) := by decide +kernel
theorem dX6_takeOut_84 : decode cX6_takeOut 84 = .ok (.invokevirtual 65, 3) := by decide +kernel
theorem dX6_takeOut_87 : decode cX6_takeOut 87 = .ok (.ireturn, 1) := by decide +kernel
theorem dX6_copy_0 : decode cX6_copy 0 = .ok (.iload_n 1, 1) := by decide +kernel
theorem dX6_copy_1 : decode cX6_copy 1 = .ok (.invokestatic 51, 3) := by decide +kernel
theorem dX6_copy_4 : decode cX6_copy 4 = .ok (.iload_n 2, 1) := by decide +kernel
theorem dX6_copy_5 : decode cX6_copy 5 = .ok (.invokestatic 51, 3) := by decide +kernel
theorem dX6_copy_8 : decode cX6_copy 8 = .ok (.aload_n 0, 1) := by decide +kernel
theorem dX6_copy_9 : decode cX6_copy 9 = .ok (.getfield 36, 3) := by decide +kernel
theorem dX6_copy_12 : decode cX6_copy 12 = .ok (.aload_n 0, 1) := by decide +kernel
theorem dX6_copy_13 : decode cX6_copy 13 = .ok (.getfield 10, 3) := by decide +kernel
theorem dX6_copy_16 : decode cX6_copy 16 = .ok (.getfield 70, 3) := by decide +kernel
theorem dX6_copy_19 : decode cX6_copy 19 = .ok (.iload_n 2, 1) := by decide +kernel
theorem dX6_copy_20 : decode cX6_copy 20 = .ok (.aaload, 1) := by decide +kernel
theorem dX6_copy_21 : decode cX6_copy 21 = .ok (.invokevirtual 107, 3) := by decide +kernel
theorem dX6_copy_24 : decode cX6_copy 24 = .ok (.aload_n 0, 1) := by decide +kernel
theorem dX6_copy_25 : decode cX6_copy 25 = .ok (.iload_n 1, 1) := by decide +kernel
theorem dX6_copy_26 : decode cX6_copy 26 = .ok (.invokevirtual 65, 3) := by decide +kernel
theorem dX6_copy_29 : decode cX6_copy 29 = .ok (.ireturn, 1) := by decide +kernel
theorem dX6_rotate_0 : decode cX6_rotate 0 = .ok (.iload_n 1, 1) := by decide +kernel
theorem dX6_rotate_1 : decode cX6_rotate 1 = .ok (.invokestatic 51, 3) := by decide +kernel
theorem dX6_rotate_4 : decode cX6_rotate 4 = .ok (.aload_n 0, 1) := by decide +kernel
theorem dX6_rotate_5 : decode cX6_rotate 5 = .ok (.getfield 10, 3) := by decide +kernel
theorem dX6_rotate_8 : decode cX6_rotate 8 = .ok (.getfield 70, 3) := by decide +kernel
theorem dX6_rotate_11 : decode cX6_rotate 11 = .ok (.iload_n 1, 1) := by decide +kernel
theorem dX6_rotate_12 : decode cX6_rotate 12 = .ok (.aaload, 1) := by decide +kernel
theorem dX6_rotate_13 : decode cX6_rotate 13 = .ok (.astore_n 3, 1) := by decide +kernel
theorem dX6_rotate_14 : decode cX6_rotate 14 = .ok (.iload_n 2, 1) := by decide +kernel
theorem dX6_rotate_15 : decode cX6_rotate 15 = .ok (.iconst 1, 1) := by decide +kernel
theorem dX6_rotate_16 : decode cX6_rotate 16 = .ok (.if_icmp .lt 11, 3) := by decide +kernel
theorem dX6_rotate_19 : decode cX6_rotate 19 = .ok (.iload_n 2, 1) := by decide +kernel
theorem dX6_rotate_20 : decode cX6_rotate 20 = .ok (.aload_n 3, 1) := by decide +kernel
theorem dX6_rotate_21 : decode cX6_rotate 21 = .ok (.getfield 74, 3) := by decide +kernel
theorem dX6_rotate_24 : decode cX6_rotate 24 = .ok (.if_icmp .le 13, 3) := by decide +kernel
theorem dX6_rotate_27 : decode cX6_rotate 27 = .ok (.new 102, 3) := by decide +kernel
theorem dX6_rotate_30 : decode cX6_rotate 30 = .ok (.dup, 1) := by decide +kernel
theorem dX6_rotate_31 : decode cX6_rotate 31 = .ok (.ldc 104, 2) := by decide +kernel
theorem dX6_rotate_33 : decode cX6_rotate 33 = .ok (.invokespecial 106, 3) := by decide +kernel
theorem dX6_rotate_36 : decode cX6_rotate 36 = .ok (.athrow, 1) := by decide +kernel
theorem dX6_rotate_37 : decode cX6_rotate 37 = .ok (.aload_n 0, 1) := by decide +kernel
theorem dX6_rotate_38 : decode cX6_rotate 38 = .ok (.getfield 36, 3) := by decide +kernel
theorem dX6_rotate_41 : decode cX6_rotate 41 = .ok (.invokevirtual 58, 3) := by decide +kernel
theorem dX6_rotate_44 : decode cX6_rotate 44 = .ok (.aload_n 0, 1) := by decide +kernel
theorem dX6_rotate_45 : decode cX6_rotate 45 = .ok (.getfield 36, 3) := by decide +kernel
theorem dX6_rotate_48 : decode cX6_rotate 48 = .ok (.aload_n 3, 1) := by decide +kernel
theorem dX6_rotate_49 : decode cX6_rotate 49 = .ok (.iload_n 2, 1) := by decide +kernel
theorem dX6_rotate_50 : decode cX6_rotate 50 = .ok (.aload_n 3, 1) := by decide +kernel
theorem dX6_rotate_51 : decode cX6_rotate 51 = .ok (.getfield 74, 3) := by decide +kernel
theorem dX6_rotate_54 : decode cX6_rotate 54 = .ok (.invokevirtual 94, 3) := by decide +kernel
theorem dX6_rotate_57 : decode cX6_rotate 57 = .ok (.aload_n 0, 1) := by decide +kernel
theorem dX6_rotate_58 : decode cX6_rotate 58 = .ok (.getfield 36, 3) := by decide +kernel
theorem dX6_rotate_61 : decode cX6_rotate 61 = .ok (.aload_n 3, 1) := by decide +kernel
theorem dX6_rotate_62 : decode cX6_rotate 62 = .ok (.iconst 0, 1) := by decide +kernel
theorem dX6_rotate_63 : decode cX6_rotate 63 = .ok (.iload_n 2, 1) := by decide +kernel
theorem dX6_rotate_64 : decode cX6_rotate 64 = .ok (.invokevirtual 94, 3) := by decide +kernel
theorem dX6_rotate_67 : decode cX6_rotate 67 = .ok (.aload_n 0, 1) := by decide +kernel
theorem dX6_rotate_68 : decode cX6_rotate 68 = .ok (.iload_n 1, 1) := by decide +kernel
theorem dX6_rotate_69 : decode cX6_rotate 69 = .ok (.invokevirtual 65, 3) := by decide +kernel
theorem dX6_rotate_72 : decode cX6_rotate 72 = .ok (.ireturn, 1) := by decide +kernel
theorem dX6_drop_0 : decode cX6_drop 0 = .ok (.iload_n 1, 1) := by decide +kernel
theorem dX6_drop_1 : decode cX6_drop 1 = .ok (.invokestatic 51, 3) := by decide +kernel
theorem dX6_drop_4 : decode cX6_drop 4 = .ok (.aload_n 0, 1) := by decide +kernel
theorem dX6_drop_5 : decode cX6_drop 5 = .ok (.getfield 10, 3) := by decide +kernel
theorem dX6_drop_8 : decode cX6_drop 8 = .ok (.getfield 70, 3) := by decide +kernel
theorem dX6_drop_11 : decode cX6_drop 11 = .ok (.iload_n 1, 1) := by decide +kernel
theorem dX6_drop_12 : decode cX6_drop 12 = .ok (.aaload, 1) := by decide +kernel
theorem dX6_drop_13 : decode cX6_drop 13 = .ok (.astore_n 2, 1) := by decide +kernel
theorem dX6_drop_14 : decode cX6_drop 14 = .ok (.aload_n 2, 1) := by decide +kernel
theorem dX6_drop_15 : decode cX6_drop 15 = .ok (.getfield 74, 3) := by decide +kernel
theorem dX6_drop_18 : decode cX6_drop 18 = .ok (.istore_n 3, 1) := by decide +kernel
theorem dX6_drop_19 : decode cX6_drop 19 = .ok (.aload_n 0, 1) := by decide +kernel
theorem dX6_drop_20 : decode cX6_drop 20 = .ok (.getfield 19, 3) := by decide +kernel
theorem dX6_drop_23 : decode cX6_drop 23 = .ok (.aload_n 0, 1) := by decide +kernel
theorem dX6_drop_24 : decode cX6_drop 24 = .ok (.getfield 10, 3) := by decide +kernel
theorem dX6_drop_27 : decode cX6_drop 27 = .ok (.invokevirtual 110, 3) := by decide +kernel
theorem dX6_drop_30 : decode cX6_drop 30 = .ok (.aload_n 0, 1) := by decide +kernel
theorem dX6_drop_31 : decode cX6_drop 31 = .ok (.getfield 10, 3) := by decide +kernel
theorem dX6_drop_34 : decode cX6_drop 34 = .ok (.getfield 114, 3) := by decide +kernel
theorem dX6_drop_37 : decode cX6_drop 37 = .ok (.aload_n 2, 1) := by decide +kernel
theorem dX6_drop_38 : decode cX6_drop 38 = .ok (.invokevirtual 118, 3) := by decide +kernel
theorem dX6_drop_41 : decode cX6_drop 41 = .ok (.aload_n 2, 1) := by decide +kernel
theorem dX6_drop_42 : decode cX6_drop 42 = .ok (.invokevirtual 58, 3) := by decide +kernel
theorem dX6_drop_45 : decode cX6_drop 45 = .ok (.iload_n 3, 1) := by decide +kernel
theorem dX6_drop_46 : decode cX6_drop 46 = .ok (.ireturn, 1) := by decide +kernel
theorem dX6_sweep_0 : decode cX6_sweep 0 = .ok (.aload_n 0, 1) := by decide +kernel
theorem dX6_sweep_1 : decode cX6_sweep 1 = .ok (.getfield 19, 3) := by decide +kernel
theorem dX6_sweep_4 : decode cX6_sweep 4 = .ok (.aload_n 0, 1) := by decide +kernel
theorem dX6_sweep_5 : decode cX6_sweep 5 = .ok (.getfield 10, 3) := by decide +kernel
theorem dX6_sweep_8 : decode cX6_sweep 8 = .ok (.invokevirtual 110, 3) := by decide +kernel
theorem dX6_sweep_11 : decode cX6_sweep 11 = .ok (.aload_n 0, 1) := by decide +kernel
theorem dX6_sweep_12 : decode cX6_sweep 12 = .ok (.getfield 36, 3) := by decide +kernel
theorem dX6_sweep_15 : decode cX6_sweep 15 = .ok (.invokevirtual 58, 3) := by decide +kernel
theorem dX6_sweep_18 : decode cX6_sweep 18 = .ok (.aload_n 0, 1) := by decide +kernel
theorem dX6_sweep_19 : decode cX6_sweep 19 = .ok (.getfield 10, 3) := by decide +kernel
theorem dX6_sweep_22 : decode cX6_sweep 22 = .ok (.getfield 114, 3) := by decide +kernel
theorem dX6_sweep_25 : decode cX6_sweep 25 = .ok (.aload_n 0, 1) := by decide +kernel
theorem dX6_sweep_26 : decode cX6_sweep 26 = .ok (.getfield 36, 3) := by decide +kernel
theorem dX6_sweep_29 : decode cX6_sweep 29 = .ok (.invokevirtual 123, 3) := by decide +kernel
theorem dX6_sweep_32 : decode cX6_sweep 32 = .ok (.ireturn, 1) := by decide +kernel
theorem dX6_set_0 : decode cX6_set 0 = .ok (.iload_n 1, 1) := by decide +kernel
theorem dX6_set_1 : decode cX6_set 1 = .ok (.invokestatic 127, 3) := by decide +kernel
theorem dX6_set_4 : decode cX6_set 4 = .ok (.iload_n 1, 1) := by decide +kernel
theorem dX6_set_5 : decode cX6_set 5 = .ok (.iload_n 2, 1) := by decide +kernel
theorem dX6_set_6 : decode cX6_set 6 = .ok (.invokestatic 130, 3) := by decide +kernel
theorem dX6_set_9 : decode cX6_set 9 = .ok (.aload_n 0, 1) := by decide +kernel
theorem dX6_set_10 : decode cX6_set 10 = .ok (.getfield 10, 3) := by decide +kernel
theorem dX6_set_13 : decode cX6_set 13 = .ok (.getfield 134, 3) := by decide +kernel
theorem dX6_set_16 : decode cX6_set 16 = .ok (.getfield 137, 3) := by decide +kernel
theorem dX6_set_19 : decode cX6_set 19 = .ok (.iload_n 1, 1) := by decide +kernel
theorem dX6_set_20 : decode cX6_set 20 = .ok (.iaload, 1) := by decide +kernel
theorem dX6_set_21 : decode cX6_set 21 = .ok (.istore_n 3, 1) := by decide +kernel
theorem dX6_set_22 : decode cX6_set 22 = .ok (.aload_n 0, 1) := by decide +kernel
theorem dX6_set_23 : decode cX6_set 23 = .ok (.getfield 19, 3) := by decide +kernel
theorem dX6_set_26 : decode cX6_set 26 = .ok (.aload_n 0, 1) := by decide +kernel
theorem dX6_set_27 : decode cX6_set 27 = .ok (.getfield 10, 3) := by decide +kernel
theorem dX6_set_30 : decode cX6_set 30 = .ok (.invokevirtual 110, 3) := by decide +kernel
theorem dX6_set_33 : decode cX6_set 33 = .ok (.aload_n 0, 1) := by decide +kernel
theorem dX6_set_34 : decode cX6_set 34 = .ok (.getfield 10, 3) := by decide +kernel
theorem dX6_set_37 : decode cX6_set 37 = .ok (.getfield 134, 3) := by decide +kernel
theorem dX6_set_40 : decode cX6_set 40 = .ok (.getfield 137, 3) := by decide +kernel
theorem dX6_set_43 : decode cX6_set 43 = .ok (.iload_n 1, 1) := by decide +kernel
theorem dX6_set_44 : decode cX6_set 44 = .ok (.iload_n 2, 1) := by decide +kernel
theorem dX6_set_45 : decode cX6_set 45 = .ok (.iastore, 1) := by decide +kernel
theorem dX6_set_46 : decode cX6_set 46 = .ok (.iload_n 3, 1) := by decide +kernel
theorem dX6_set_47 : decode cX6_set 47 = .ok (.ireturn, 1) := by decide +kernel
theorem dX6_append_0 : decode cX6_append 0 = .ok (.iload_n 1, 1) := by decide +kernel
theorem dX6_append_1 : decode cX6_append 1 = .ok (.bipush 33, 2) := by decide +kernel
theorem dX6_append_3 : decode cX6_append 3 = .ok (.if_icmp .lt 9, 3) := by decide +kernel
theorem dX6_append_6 : decode cX6_append 6 = .ok (.iload_n 1, 1) := by decide +kernel
theorem dX6_append_7 : decode cX6_append 7 = .ok (.bipush 126, 2) := by decide +kernel
theorem dX6_append_9 : decode cX6_append 9 = .ok (.if_icmp .le 13, 3) := by decide +kernel
theorem dX6_append_12 : decode cX6_append 12 = .ok (.new 102, 3) := by decide +kernel
theorem dX6_append_15 : decode cX6_append 15 = .ok (.dup, 1) := by decide +kernel
theorem dX6_append_16 : decode cX6_append 16 = .ok (.ldc 141, 2) := by decide +kernel
theorem dX6_append_18 : decode cX6_append 18 = .ok (.invokespecial 106, 3) := by decide +kernel
theorem dX6_append_21 : decode cX6_append 21 = .ok (.athrow, 1) := by decide +kernel
theorem dX6_append_22 : decode cX6_append 22 = .ok (.aload_n 0, 1) := by decide +kernel
theorem dX6_append_23 : decode cX6_append 23 = .ok (.getfield 26, 3) := by decide +kernel
theorem dX6_append_26 : decode cX6_append 26 = .ok (.getfield 143, 3) := by decide +kernel
theorem dX6_append_29 : decode cX6_append 29 = .ok (.bipush 60, 2) := by decide +kernel
theorem dX6_append_31 : decode cX6_append 31 = .ok (.if_icmp .lt 13, 3) := by decide +kernel
theorem dX6_append_34 : decode cX6_append 34 = .ok (.new 89, 3) := by decide +kernel
theorem dX6_append_37 : decode cX6_append 37 = .ok (.dup, 1) := by decide +kernel
theorem dX6_append_38 : decode cX6_append 38 = .ok (.ldc 144, 2) := by decide +kernel
theorem dX6_append_40 : decode cX6_append 40 = .ok (.invokespecial 93, 3) := by decide +kernel
theorem dX6_append_43 : decode cX6_append 43 = .ok (.athrow, 1) := by decide +kernel
theorem dX6_append_44 : decode cX6_append 44 = .ok (.aload_n 0, 1) := by decide +kernel
theorem dX6_append_45 : decode cX6_append 45 = .ok (.getfield 26, 3) := by decide +kernel
theorem dX6_append_48 : decode cX6_append 48 = .ok (.iload_n 1, 1) := by decide +kernel
theorem dX6_append_49 : decode cX6_append 49 = .ok (.invokevirtual 146, 3) := by decide +kernel
theorem dX6_append_52 : decode cX6_append 52 = .ok (.aload_n 0, 1) := by decide +kernel
theorem dX6_append_53 : decode cX6_append 53 = .ok (.getfield 26, 3) := by decide +kernel
theorem dX6_append_56 : decode cX6_append 56 = .ok (.getfield 143, 3) := by decide +kernel
theorem dX6_append_59 : decode cX6_append 59 = .ok (.ireturn, 1) := by decide +kernel
theorem dX6_clearBuffer_0 : decode cX6_clearBuffer 0 = .ok (.aload_n 0, 1) := by decide +kernel
theorem dX6_clearBuffer_1 : decode cX6_clearBuffer 1 = .ok (.getfield 26, 3) := by decide +kernel
theorem dX6_clearBuffer_4 : decode cX6_clearBuffer 4 = .ok (.getfield 143, 3) := by decide +kernel
theorem dX6_clearBuffer_7 : decode cX6_clearBuffer 7 = .ok (.istore_n 1, 1) := by decide +kernel
theorem dX6_clearBuffer_8 : decode cX6_clearBuffer 8 = .ok (.aload_n 0, 1) := by decide +kernel
theorem dX6_clearBuffer_9 : decode cX6_clearBuffer 9 = .ok (.getfield 26, 3) := by decide +kernel
theorem dX6_clearBuffer_12 : decode cX6_clearBuffer 12 = .ok (.invokevirtual 69, 3) := by decide +kernel
theorem dX6_clearBuffer_15 : decode cX6_clearBuffer 15 = .ok (.iload_n 1, 1) := by decide +kernel
theorem dX6_clearBuffer_16 : decode cX6_clearBuffer 16 = .ok (.ireturn, 1) := by decide +kernel
theorem dX6_firstError_0 : decode cX6_firstError 0 = .ok (.aload_n 0, 1) := by decide +kernel
theorem dX6_firstError_1 : decode cX6_firstError 1 = .ok (.getfield 26, 3) := by decide +kernel
theorem dX6_firstError_4 : decode cX6_firstError 4 = .ok (.invokevirtual 149, 3) := by decide +kernel
theorem dX6_firstError_7 : decode cX6_firstError 7 = .ok (.ireturn, 1) := by decide +kernel
theorem dX6_undo_0 : decode cX6_undo 0 = .ok (.aload_n 0, 1) := by decide +kernel
theorem dX6_undo_1 : decode cX6_undo 1 = .ok (.getfield 19, 3) := by decide +kernel
theorem dX6_undo_4 : decode cX6_undo 4 = .ok (.getfield 152, 3) := by decide +kernel
theorem dX6_undo_7 : decode cX6_undo 7 = .ok (.ifCond .ne 13, 3) := by decide +kernel
theorem dX6_undo_10 : decode cX6_undo 10 = .ok (.new 89, 3) := by decide +kernel
theorem dX6_undo_13 : decode cX6_undo 13 = .ok (.dup, 1) := by decide +kernel
theorem dX6_undo_14 : decode cX6_undo 14 = .ok (.ldc 155, 2) := by decide +kernel
theorem dX6_undo_16 : decode cX6_undo 16 = .ok (.invokespecial 93, 3) := by decide +kernel
theorem dX6_undo_19 : decode cX6_undo 19 = .ok (.athrow, 1) := by decide +kernel
theorem dX6_undo_20 : decode cX6_undo 20 = .ok (.aload_n 0, 1) := by decide +kernel
theorem dX6_undo_21 : decode cX6_undo 21 = .ok (.getfield 19, 3) := by decide +kernel
theorem dX6_undo_24 : decode cX6_undo 24 = .ok (.aload_n 0, 1) := by decide +kernel
theorem dX6_undo_25 : decode cX6_undo 25 = .ok (.getfield 10, 3) := by decide +kernel
theorem dX6_undo_28 : decode cX6_undo 28 = .ok (.invokevirtual 157, 3) := by decide +kernel
theorem dX6_undo_31 : decode cX6_undo 31 = .ok (.aload_n 0, 1) := by decide +kernel
theorem dX6_undo_32 : decode cX6_undo 32 = .ok (.getfield 19, 3) := by decide +kernel
theorem dX6_undo_35 : decode cX6_undo 35 = .ok (.getfield 152, 3) := by decide +kernel
theorem dX6_undo_38 : decode cX6_undo 38 = .ok (.ireturn, 1) := by decide +kernel
theorem dX6_sign_0 : decode cX6_sign 0 = .ok (.iload_n 1, 1) := by decide +kernel
theorem dX6_sign_1 : decode cX6_sign 1 = .ok (.invokestatic 51, 3) := by decide +kernel
theorem dX6_sign_4 : decode cX6_sign 4 = .ok (.aload_n 0, 1) := by decide +kernel
theorem dX6_sign_5 : decode cX6_sign 5 = .ok (.getfield 10, 3) := by decide +kernel
theorem dX6_sign_8 : decode cX6_sign 8 = .ok (.getfield 70, 3) := by decide +kernel
theorem dX6_sign_11 : decode cX6_sign 11 = .ok (.iload_n 1, 1) := by decide +kernel
theorem dX6_sign_12 : decode cX6_sign 12 = .ok (.aaload, 1) := by decide +kernel
theorem dX6_sign_13 : decode cX6_sign 13 = .ok (.astore 4, 2) := by decide +kernel
theorem dX6_sign_15 : decode cX6_sign 15 = .ok (.aload 4, 2) := by decide +kernel
theorem dX6_sign_17 : decode cX6_sign 17 = .ok (.iload_n 2, 1) := by decide +kernel
theorem dX6_sign_18 : decode cX6_sign 18 = .ok (.invokestatic 98, 3) := by decide +kernel
theorem dX6_sign_21 : decode cX6_sign 21 = .ok (.iload_n 3, 1) := by decide +kernel
theorem dX6_sign_22 : decode cX6_sign 22 = .ok (.iconst 3, 1) := by decide +kernel
theorem dX6_sign_23 : decode cX6_sign 23 = .ok (.invokestatic 160, 3) := by decide +kernel
theorem dX6_sign_26 : decode cX6_sign 26 = .ok (.iload_n 3, 1) := by decide +kernel
theorem dX6_sign_27 : decode cX6_sign 27 = .ok (.tableswitch 54 0 2 #[25, 33, 47], 25) := by decide +kernel
theorem dX6_sign_52 : decode cX6_sign 52 = .ok (.aload 4, 2) := by decide +kernel
theorem dX6_sign_54 : decode cX6_sign 54 = .ok (.getfield 163, 3) := by decide +kernel
theorem dX6_sign_57 : decode cX6_sign 57 = .ok (.iload_n 2, 1) := by decide +kernel
theorem dX6_sign_58 : decode cX6_sign 58 = .ok (.iaload, 1) := by decide +kernel
theorem dX6_sign_59 : decode cX6_sign 59 = .ok (.ireturn, 1) := by decide +kernel
theorem dX6_sign_60 : decode cX6_sign 60 = .ok (.aload_n 0, 1) := by decide +kernel
theorem dX6_sign_61 : decode cX6_sign 61 = .ok (.getfield 10, 3) := by decide +kernel
theorem dX6_sign_64 : decode cX6_sign 64 = .ok (.getfield 134, 3) := by decide +kernel
theorem dX6_sign_67 : decode cX6_sign 67 = .ok (.aload 4, 2) := by decide +kernel
theorem dX6_sign_69 : decode cX6_sign 69 = .ok (.iload_n 2, 1) := by decide +kernel
theorem dX6_sign_70 : decode cX6_sign 70 = .ok (.invokevirtual 165, 3) := by decide +kernel
theorem dX6_sign_73 : decode cX6_sign 73 = .ok (.ireturn, 1) := by decide +kernel
theorem dX6_sign_74 : decode cX6_sign 74 = .ok (.aload 4, 2) := by decide +kernel
theorem dX6_sign_76 : decode cX6_sign 76 = .ok (.iload_n 2, 1) := by decide +kernel
theorem dX6_sign_77 : decode cX6_sign 77 = .ok (.invokevirtual 169, 3) := by decide +kernel
theorem dX6_sign_80 : decode cX6_sign 80 = .ok (.ireturn, 1) := by decide +kernel
theorem dX6_sign_81 : decode cX6_sign 81 = .ok (.aload 4, 2) := by decide +kernel
theorem dX6_sign_83 : decode cX6_sign 83 = .ok (.iload_n 2, 1) := by decide +kernel
theorem dX6_sign_84 : decode cX6_sign 84 = .ok (.invokevirtual 172, 3) := by decide +kernel
theorem dX6_sign_87 : decode cX6_sign 87 = .ok (.ifCond .eq 7, 3) := by decide +kernel
theorem dX6_sign_90 : decode cX6_sign 90 = .ok (.iconst 1, 1) := by decide +kernel
theorem dX6_sign_91 : decode cX6_sign 91 = .ok (.goto 4, 3) := by decide +kernel
theorem dX6_sign_94 : decode cX6_sign 94 = .ok (.iconst 0, 1) := by decide +kernel
theorem dX6_sign_95 : decode cX6_sign 95 = .ok (.ireturn, 1) := by decide +kernel
theorem dX6_piece_0 : decode cX6_piece 0 = .ok (.iload_n 1, 1) := by decide +kernel
theorem dX6_piece_1 : decode cX6_piece 1 = .ok (.invokestatic 51, 3) := by decide +kernel
theorem dX6_piece_4 : decode cX6_piece 4 = .ok (.iload_n 2, 1) := by decide +kernel
theorem dX6_piece_5 : decode cX6_piece 5 = .ok (.ifCond .ge 13, 3) := by decide +kernel
theorem dX6_piece_8 : decode cX6_piece 8 = .ok (.new 102, 3) := by decide +kernel
theorem dX6_piece_11 : decode cX6_piece 11 = .ok (.dup, 1) := by decide +kernel
theorem dX6_piece_12 : decode cX6_piece 12 = .ok (.ldc 176, 2) := by decide +kernel
theorem dX6_piece_14 : decode cX6_piece 14 = .ok (.invokespecial 106, 3) := by decide +kernel
theorem dX6_piece_17 : decode cX6_piece 17 = .ok (.athrow, 1) := by decide +kernel
theorem dX6_piece_18 : decode cX6_piece 18 = .ok (.iload_n 3, 1) := by decide +kernel
theorem dX6_piece_19 : decode cX6_piece 19 = .ok (.iconst 4, 1) := by decide +kernel
theorem dX6_piece_20 : decode cX6_piece 20 = .ok (.invokestatic 160, 3) := by decide +kernel
theorem dX6_piece_23 : decode cX6_piece 23 = .ok (.aload_n 0, 1) := by decide +kernel
theorem dX6_piece_24 : decode cX6_piece 24 = .ok (.getfield 10, 3) := by decide +kernel
theorem dX6_piece_27 : decode cX6_piece 27 = .ok (.getfield 70, 3) := by decide +kernel
theorem dX6_piece_30 : decode cX6_piece 30 = .ok (.iload_n 1, 1) := by decide +kernel
theorem dX6_piece_31 : decode cX6_piece 31 = .ok (.aaload, 1) := by decide +kernel
theorem dX6_piece_32 : decode cX6_piece 32 = .ok (.astore 4, 2) := by decide +kernel
theorem dX6_piece_34 : decode cX6_piece 34 = .ok (.iload_n 2, 1) := by decide +kernel
theorem dX6_piece_35 : decode cX6_piece 35 = .ok (.aload 4, 2) := by decide +kernel
theorem dX6_piece_37 : decode cX6_piece 37 = .ok (.getfield 178, 3) := by decide +kernel
theorem dX6_piece_40 : decode cX6_piece 40 = .ok (.if_icmp .lt 5, 3) := by decide +kernel
theorem dX6_piece_43 : decode cX6_piece 43 = .ok (.iconst (-1), 1) := by decide +kernel
theorem dX6_piece_44 : decode cX6_piece 44 = .ok (.ireturn, 1) := by decide +kernel
theorem dX6_piece_45 : decode cX6_piece 45 = .ok (.iload_n 3, 1) := by decide +kernel
theorem dX6_piece_46 : decode cX6_piece 46 = .ok (.tableswitch 72 0 3 #[30, 48, 56, 64], 30) := by decide +kernel
theorem dX6_piece_76 : decode cX6_piece 76 = .ok (.aload_n 0, 1) := by decide +kernel
theorem dX6_piece_77 : decode cX6_piece 77 = .ok (.getfield 10, 3) := by decide +kernel
theorem dX6_piece_80 : decode cX6_piece 80 = .ok (.getfield 114, 3) := by decide +kernel
theorem dX6_piece_83 : decode cX6_piece 83 = .ok (.aload 4, 2) := by decide +kernel
theorem dX6_piece_85 : decode cX6_piece 85 = .ok (.getfield 181, 3) := by decide +kernel
theorem dX6_piece_88 : decode cX6_piece 88 = .ok (.iload_n 2, 1) := by decide +kernel
theorem dX6_piece_89 : decode cX6_piece 89 = .ok (.laload, 1) := by decide +kernel
theorem dX6_piece_90 : decode cX6_piece 90 = .ok (.invokevirtual 184, 3) := by decide +kernel
theorem dX6_piece_93 : decode cX6_piece 93 = .ok (.ireturn, 1) := by decide +kernel
theorem dX6_piece_94 : decode cX6_piece 94 = .ok (.aload 4, 2) := by decide +kernel
theorem dX6_piece_96 : decode cX6_piece 96 = .ok (.getfield 188, 3) := by decide +kernel
theorem dX6_piece_99 : decode cX6_piece 99 = .ok (.iload_n 2, 1) := by decide +kernel
theorem dX6_piece_100 : decode cX6_piece 100 = .ok (.iaload, 1) := by decide +kernel
theorem dX6_piece_101 : decode cX6_piece 101 = .ok (.ireturn, 1) := by decide +kernel
theorem dX6_piece_102 : decode cX6_piece 102 = .ok (.aload 4, 2) := by decide +kernel
theorem dX6_piece_104 : decode cX6_piece 104 = .ok (.getfield 191, 3) := by decide +kernel
theorem dX6_piece_107 : decode cX6_piece 107 = .ok (.iload_n 2, 1) := by decide +kernel
theorem dX6_piece_108 : decode cX6_piece 108 = .ok (.iaload, 1) := by decide +kernel
theorem dX6_piece_109 : decode cX6_piece 109 = .ok (.ireturn, 1) := by decide +kernel
theorem dX6_piece_110 : decode cX6_piece 110 = .ok (.aload 4, 2) := by decide +kernel
theorem dX6_piece_112 : decode cX6_piece 112 = .ok (.getfield 194, 3) := by decide +kernel
theorem dX6_piece_115 : decode cX6_piece 115 = .ok (.iload_n 2, 1) := by decide +kernel
theorem dX6_piece_116 : decode cX6_piece 116 = .ok (.iaload, 1) := by decide +kernel
theorem dX6_piece_117 : decode cX6_piece 117 = .ok (.ireturn, 1) := by decide +kernel
theorem dX6_piece_118 : decode cX6_piece 118 = .ok (.aload_n 0, 1) := by decide +kernel
theorem dX6_piece_119 : decode cX6_piece 119 = .ok (.getfield 10, 3) := by decide +kernel
theorem dX6_piece_122 : decode cX6_piece 122 = .ok (.aload 4, 2) := by decide +kernel
theorem dX6_piece_124 : decode cX6_piece 124 = .ok (.getfield 181, 3) := by decide +kernel
theorem dX6_piece_127 : decode cX6_piece 127 = .ok (.iload_n 2, 1) := by decide +kernel
theorem dX6_piece_128 : decode cX6_piece 128 = .ok (.laload, 1) := by decide +kernel
theorem dX6_piece_129 : decode cX6_piece 129 = .ok (.invokevirtual 197, 3) := by decide +kernel
theorem dX6_piece_132 : decode cX6_piece 132 = .ok (.invokestatic 200, 3) := by decide +kernel
theorem dX6_piece_135 : decode cX6_piece 135 = .ok (.iconst 1, 1) := by decide +kernel
theorem dX6_piece_136 : decode cX6_piece 136 = .ok (.isub, 1) := by decide +kernel
theorem dX6_piece_137 : decode cX6_piece 137 = .ok (.ireturn, 1) := by decide +kernel
theorem dX6_slot_0 : decode cX6_slot 0 = .ok (.iload_n 1, 1) := by decide +kernel
theorem dX6_slot_1 : decode cX6_slot 1 = .ok (.ifCond .lt 9, 3) := by decide +kernel
theorem dX6_slot_4 : decode cX6_slot 4 = .ok (.iload_n 1, 1) := by decide +kernel
theorem dX6_slot_5 : decode cX6_slot 5 = .ok (.bipush 60, 2) := by decide +kernel
theorem dX6_slot_7 : decode cX6_slot 7 = .ok (.if_icmp .lt 13, 3) := by decide +kernel
theorem dX6_slot_10 : decode cX6_slot 10 = .ok (.new 78, 3) := by decide +kernel
theorem dX6_slot_13 : decode cX6_slot 13 = .ok (.dup, 1) := by decide +kernel
theorem dX6_slot_14 : decode cX6_slot 14 = .ok (.ldc 205, 2) := by decide +kernel
theorem dX6_slot_16 : decode cX6_slot 16 = .ok (.invokespecial 82, 3) := by decide +kernel
theorem dX6_slot_19 : decode cX6_slot 19 = .ok (.athrow, 1) := by decide +kernel
theorem dX6_slot_20 : decode cX6_slot 20 = .ok (.iload_n 2, 1) := by decide +kernel
theorem dX6_slot_21 : decode cX6_slot 21 = .ok (.iconst 4, 1) := by decide +kernel
theorem dX6_slot_22 : decode cX6_slot 22 = .ok (.invokestatic 160, 3) := by decide +kernel
theorem dX6_slot_25 : decode cX6_slot 25 = .ok (.aload_n 0, 1) := by decide +kernel
theorem dX6_slot_26 : decode cX6_slot 26 = .ok (.getfield 10, 3) := by decide +kernel
theorem dX6_slot_29 : decode cX6_slot 29 = .ok (.getfield 114, 3) := by decide +kernel
theorem dX6_slot_32 : decode cX6_slot 32 = .ok (.astore_n 3, 1) := by decide +kernel
theorem dX6_slot_33 : decode cX6_slot 33 = .ok (.aload_n 3, 1) := by decide +kernel
theorem dX6_slot_34 : decode cX6_slot 34 = .ok (.iload_n 1, 1) := by decide +kernel
theorem dX6_slot_35 : decode cX6_slot 35 = .ok (.invokevirtual 207, 3) := by decide +kernel
theorem dX6_slot_38 : decode cX6_slot 38 = .ok (.ifCond .eq 5, 3) := by decide +kernel
theorem dX6_slot_41 : decode cX6_slot 41 = .ok (.iconst (-1), 1) := by decide +kernel
theorem dX6_slot_42 : decode cX6_slot 42 = .ok (.ireturn, 1) := by decide +kernel
theorem dX6_slot_43 : decode cX6_slot 43 = .ok (.iload_n 2, 1) := by decide +kernel
theorem dX6_slot_44 : decode cX6_slot 44 = .ok (.tableswitch 58 0 3 #[32, 39, 46, 52], 32) := by decide +kernel
theorem dX6_slot_76 : decode cX6_slot 76 = .ok (.aload_n 3, 1) := by decide +kernel
theorem dX6_slot_77 : decode cX6_slot 77 = .ok (.getfield 210, 3) := by decide +kernel
theorem dX6_slot_80 : decode cX6_slot 80 = .ok (.iload_n 1, 1) := by decide +kernel
theorem dX6_slot_81 : decode cX6_slot 81 = .ok (.iaload, 1) := by decide +kernel
theorem dX6_slot_82 : decode cX6_slot 82 = .ok (.ireturn, 1) := by decide +kernel
theorem dX6_slot_83 : decode cX6_slot 83 = .ok (.aload_n 3, 1) := by decide +kernel
theorem dX6_slot_84 : decode cX6_slot 84 = .ok (.getfield 211, 3) := by decide +kernel
theorem dX6_slot_87 : decode cX6_slot 87 = .ok (.iload_n 1, 1) := by decide +kernel
theorem dX6_slot_88 : decode cX6_slot 88 = .ok (.iaload, 1) := by decide +kernel
theorem dX6_slot_89 : decode cX6_slot 89 = .ok (.ireturn, 1) := by decide +kernel
theorem dX6_slot_90 : decode cX6_slot 90 = .ok (.aload_n 3, 1) := by decide +kernel
theorem dX6_slot_91 : decode cX6_slot 91 = .ok (.iload_n 1, 1) := by decide +kernel
theorem dX6_slot_92 : decode cX6_slot 92 = .ok (.invokevirtual 214, 3) := by decide +kernel
theorem dX6_slot_95 : decode cX6_slot 95 = .ok (.ireturn, 1) := by decide +kernel
theorem dX6_slot_96 : decode cX6_slot 96 = .ok (.aload_n 3, 1) := by decide +kernel
theorem dX6_slot_97 : decode cX6_slot 97 = .ok (.iload_n 1, 1) := by decide +kernel
theorem dX6_slot_98 : decode cX6_slot 98 = .ok (.invokevirtual 217, 3) := by decide +kernel
theorem dX6_slot_101 : decode cX6_slot 101 = .ok (.ireturn, 1) := by decide +kernel
theorem dX6_slot_102 : decode cX6_slot 102 = .ok (.aload_n 0, 1) := by decide +kernel
theorem dX6_slot_103 : decode cX6_slot 103 = .ok (.getfield 10, 3) := by decide +kernel
theorem dX6_slot_106 : decode cX6_slot 106 = .ok (.aload_n 3, 1) := by decide +kernel
theorem dX6_slot_107 : decode cX6_slot 107 = .ok (.getfield 220, 3) := by decide +kernel
theorem dX6_slot_110 : decode cX6_slot 110 = .ok (.iload_n 1, 1) := by decide +kernel
theorem dX6_slot_111 : decode cX6_slot 111 = .ok (.laload, 1) := by decide +kernel
theorem dX6_slot_112 : decode cX6_slot 112 = .ok (.invokevirtual 197, 3) := by decide +kernel
theorem dX6_slot_115 : decode cX6_slot 115 = .ok (.ireturn, 1) := by decide +kernel
theorem dX6_text_0 : decode cX6_text 0 = .ok (.iload_n 1, 1) := by decide +kernel
theorem dX6_text_1 : decode cX6_text 1 = .ok (.invokestatic 51, 3) := by decide +kernel
theorem dX6_text_4 : decode cX6_text 4 = .ok (.iload_n 2, 1) := by decide +kernel
theorem dX6_text_5 : decode cX6_text 5 = .ok (.iconst 5, 1) := by decide +kernel
theorem dX6_text_6 : decode cX6_text 6 = .ok (.invokestatic 160, 3) := by decide +kernel
theorem dX6_text_9 : decode cX6_text 9 = .ok (.aload_n 0, 1) := by decide +kernel
theorem dX6_text_10 : decode cX6_text 10 = .ok (.getfield 10, 3) := by decide +kernel
theorem dX6_text_13 : decode cX6_text 13 = .ok (.getfield 70, 3) := by decide +kernel
theorem dX6_text_16 : decode cX6_text 16 = .ok (.iload_n 1, 1) := by decide +kernel
theorem dX6_text_17 : decode cX6_text 17 = .ok (.aaload, 1) := by decide +kernel
theorem dX6_text_18 : decode cX6_text 18 = .ok (.astore_n 3, 1) := by decide +kernel
theorem dX6_text_19 : decode cX6_text 19 = .ok (.iload_n 2, 1) := by decide +kernel
theorem dX6_text_20 : decode cX6_text 20 = .ok (.tableswitch 61 0 4 #[36, 41, 46, 51, 56], 36) := by decide +kernel
theorem dX6_text_56 : decode cX6_text 56 = .ok (.aload_n 3, 1) := by decide +kernel
theorem dX6_text_57 : decode cX6_text 57 = .ok (.getfield 74, 3) := by decide +kernel
theorem dX6_text_60 : decode cX6_text 60 = .ok (.ireturn, 1) := by decide +kernel
theorem dX6_text_61 : decode cX6_text 61 = .ok (.aload_n 3, 1) := by decide +kernel
theorem dX6_text_62 : decode cX6_text 62 = .ok (.getfield 178, 3) := by decide +kernel
theorem dX6_text_65 : decode cX6_text 65 = .ok (.ireturn, 1) := by decide +kernel
theorem dX6_text_66 : decode cX6_text 66 = .ok (.aload_n 3, 1) := by decide +kernel
theorem dX6_text_67 : decode cX6_text 67 = .ok (.invokevirtual 221, 3) := by decide +kernel
theorem dX6_text_70 : decode cX6_text 70 = .ok (.ireturn, 1) := by decide +kernel
theorem dX6_text_71 : decode cX6_text 71 = .ok (.aload_n 3, 1) := by decide +kernel
theorem dX6_text_72 : decode cX6_text 72 = .ok (.invokevirtual 224, 3) := by decide +kernel
theorem dX6_text_75 : decode cX6_text 75 = .ok (.ireturn, 1) := by decide +kernel
theorem dX6_text_76 : decode cX6_text 76 = .ok (.aload_n 3, 1) := by decide +kernel
theorem dX6_text_77 : decode cX6_text 77 = .ok (.invokevirtual 227, 3) := by decide +kernel
theorem dX6_text_80 : decode cX6_text 80 = .ok (.ireturn, 1) := by decide +kernel
theorem dX6_text_81 : decode cX6_text 81 = .ok (.aload_n 0, 1) := by decide +kernel
theorem dX6_text_82 : decode cX6_text 82 = .ok (.getfield 10, 3) := by decide +kernel
theorem dX6_text_85 : decode cX6_text 85 = .ok (.iload_n 1, 1) := by decide +kernel
theorem dX6_text_86 : decode cX6_text 86 = .ok (.invokevirtual 230, 3) := by decide +kernel
theorem dX6_text_89 : decode cX6_text 89 = .ok (.ireturn, 1) := by decide +kernel
theorem dX6_common_0 : decode cX6_common 0 = .ok (.iload_n 1, 1) := by decide +kernel
theorem dX6_common_1 : decode cX6_common 1 = .ok (.invokestatic 51, 3) := by decide +kernel
theorem dX6_common_4 : decode cX6_common 4 = .ok (.iload_n 2, 1) := by decide +kernel
theorem dX6_common_5 : decode cX6_common 5 = .ok (.invokestatic 51, 3) := by decide +kernel
theorem dX6_common_8 : decode cX6_common 8 = .ok (.iload_n 3, 1) := by decide +kernel
theorem dX6_common_9 : decode cX6_common 9 = .ok (.iconst 2, 1) := by decide +kernel
theorem dX6_common_10 : decode cX6_common 10 = .ok (.invokestatic 160, 3) := by decide +kernel
theorem dX6_common_13 : decode cX6_common 13 = .ok (.aload_n 0, 1) := by decide +kernel
theorem dX6_common_14 : decode cX6_common 14 = .ok (.getfield 10, 3) := by decide +kernel
theorem dX6_common_17 : decode cX6_common 17 = .ok (.getfield 70, 3) := by decide +kernel
theorem dX6_common_20 : decode cX6_common 20 = .ok (.iload_n 1, 1) := by decide +kernel
theorem dX6_common_21 : decode cX6_common 21 = .ok (.aaload, 1) := by decide +kernel
theorem dX6_common_22 : decode cX6_common 22 = .ok (.astore 4, 2) := by decide +kernel
theorem dX6_common_24 : decode cX6_common 24 = .ok (.aload_n 0, 1) := by decide +kernel
theorem dX6_common_25 : decode cX6_common 25 = .ok (.getfield 10, 3) := by decide +kernel
theorem dX6_common_28 : decode cX6_common 28 = .ok (.getfield 70, 3) := by decide +kernel
theorem dX6_common_31 : decode cX6_common 31 = .ok (.iload_n 2, 1) := by decide +kernel
theorem dX6_common_32 : decode cX6_common 32 = .ok (.aaload, 1) := by decide +kernel
theorem dX6_common_33 : decode cX6_common 33 = .ok (.astore 5, 2) := by decide +kernel
theorem dX6_common_35 : decode cX6_common 35 = .ok (.iload_n 3, 1) := by decide +kernel
theorem dX6_common_36 : decode cX6_common 36 = .ok (.lookupswitch 44 #[(0, 28), (1, 36)], 28) := by decide +kernel
theorem dX6_common_64 : decode cX6_common 64 = .ok (.aload 4, 2) := by decide +kernel
theorem dX6_common_66 : decode cX6_common 66 = .ok (.aload 5, 2) := by decide +kernel
theorem dX6_common_68 : decode cX6_common 68 = .ok (.invokevirtual 233, 3) := by decide +kernel
theorem dX6_common_71 : decode cX6_common 71 = .ok (.ireturn, 1) := by decide +kernel
theorem dX6_common_72 : decode cX6_common 72 = .ok (.aload 4, 2) := by decide +kernel
theorem dX6_common_74 : decode cX6_common 74 = .ok (.aload 5, 2) := by decide +kernel
theorem dX6_common_76 : decode cX6_common 76 = .ok (.invokevirtual 236, 3) := by decide +kernel
theorem dX6_common_79 : decode cX6_common 79 = .ok (.ireturn, 1) := by decide +kernel
theorem dX6_common_80 : decode cX6_common 80 = .ok (.aload 4, 2) := by decide +kernel
theorem dX6_common_82 : decode cX6_common 82 = .ok (.aload 5, 2) := by decide +kernel
theorem dX6_common_84 : decode cX6_common 84 = .ok (.invokevirtual 239, 3) := by decide +kernel
theorem dX6_common_87 : decode cX6_common 87 = .ok (.ireturn, 1) := by decide +kernel
theorem dX6_count_0 : decode cX6_count 0 = .ok (.iload_n 1, 1) := by decide +kernel
theorem dX6_count_1 : decode cX6_count 1 = .ok (.bipush 9, 2) := by decide +kernel
theorem dX6_count_3 : decode cX6_count 3 = .ok (.invokestatic 160, 3) := by decide +kernel
theorem dX6_count_6 : decode cX6_count 6 = .ok (.aload_n 0, 1) := by decide +kernel
theorem dX6_count_7 : decode cX6_count 7 = .ok (.getfield 10, 3) := by decide +kernel
theorem dX6_count_10 : decode cX6_count 10 = .ok (.getfield 114, 3) := by decide +kernel
theorem dX6_count_13 : decode cX6_count 13 = .ok (.astore_n 2, 1) := by decide +kernel
theorem dX6_count_14 : decode cX6_count 14 = .ok (.iload_n 1, 1) := by decide +kernel
theorem dX6_count_15 : decode cX6_count 15 = .ok (.tableswitch 100 0 8 #[49, 57, 65, 70, 75, 80, 85, 90, 95], 49) := by decide +kernel
theorem dX6_count_64 : decode cX6_count 64 = .ok (.aload_n 0, 1) := by decide +kernel
theorem dX6_count_65 : decode cX6_count 65 = .ok (.getfield 10, 3) := by decide +kernel
theorem dX6_count_68 : decode cX6_count 68 = .ok (.invokevirtual 242, 3) := by decide +kernel
theorem dX6_count_71 : decode cX6_count 71 = .ok (.ireturn, 1) := by decide +kernel
theorem dX6_count_72 : decode cX6_count 72 = .ok (.aload_n 0, 1) := by decide +kernel
theorem dX6_count_73 : decode cX6_count 73 = .ok (.getfield 10, 3) := by decide +kernel
theorem dX6_count_76 : decode cX6_count 76 = .ok (.invokevirtual 243, 3) := by decide +kernel
theorem dX6_count_79 : decode cX6_count 79 = .ok (.ireturn, 1) := by decide +kernel
theorem dX6_count_80 : decode cX6_count 80 = .ok (.aload_n 2, 1) := by decide +kernel
theorem dX6_count_81 : decode cX6_count 81 = .ok (.invokevirtual 245, 3) := by decide +kernel
theorem dX6_count_84 : decode cX6_count 84 = .ok (.ireturn, 1) := by decide +kernel
theorem dX6_count_85 : decode cX6_count 85 = .ok (.aload_n 2, 1) := by decide +kernel
theorem dX6_count_86 : decode cX6_count 86 = .ok (.invokevirtual 246, 3) := by decide +kernel
theorem dX6_count_89 : decode cX6_count 89 = .ok (.ireturn, 1) := by decide +kernel
theorem dX6_count_90 : decode cX6_count 90 = .ok (.aload_n 2, 1) := by decide +kernel
theorem dX6_count_91 : decode cX6_count 91 = .ok (.invokevirtual 249, 3) := by decide +kernel
theorem dX6_count_94 : decode cX6_count 94 = .ok (.ireturn, 1) := by decide +kernel
theorem dX6_count_95 : decode cX6_count 95 = .ok (.aload_n 2, 1) := by decide +kernel
theorem dX6_count_96 : decode cX6_count 96 = .ok (.invokevirtual 252, 3) := by decide +kernel
theorem dX6_count_99 : decode cX6_count 99 = .ok (.ireturn, 1) := by decide +kernel
theorem dX6_count_100 : decode cX6_count 100 = .ok (.aload_n 2, 1) := by decide +kernel
theorem dX6_count_101 : decode cX6_count 101 = .ok (.invokevirtual 255, 3) := by decide +kernel
theorem dX6_count_104 : decode cX6_count 104 = .ok (.ireturn, 1) := by decide +kernel
theorem dX6_count_105 : decode cX6_count 105 = .ok (.aload_n 2, 1) := by decide +kernel
theorem dX6_count_106 : decode cX6_count 106 = .ok (.getfield 258, 3) := by decide +kernel
theorem dX6_count_109 : decode cX6_count 109 = .ok (.ireturn, 1) := by decide +kernel
theorem dX6_count_110 : decode cX6_count 110 = .ok (.aload_n 2, 1) := by decide +kernel
theorem dX6_count_111 : decode cX6_count 111 = .ok (.getfield 261, 3) := by decide +kernel
theorem dX6_count_114 : decode cX6_count 114 = .ok (.ireturn, 1) := by decide +kernel
theorem dX6_count_115 : decode cX6_count 115 = .ok (.aload_n 0, 1) := by decide +kernel
theorem dX6_count_116 : decode cX6_count 116 = .ok (.getfield 19, 3) := by decide +kernel
theorem dX6_count_119 : decode cX6_count 119 = .ok (.getfield 152, 3) := by decide +kernel
theorem dX6_count_122 : decode cX6_count 122 = .ok (.ireturn, 1) := by decide +kernel
theorem dX6_setting_0 : decode cX6_setting 0 = .ok (.iload_n 1, 1) := by decide +kernel
theorem dX6_setting_1 : decode cX6_setting 1 = .ok (.invokestatic 127, 3) := by decide +kernel
theorem dX6_setting_4 : decode cX6_setting 4 = .ok (.aload_n 0, 1) := by decide +kernel
theorem dX6_setting_5 : decode cX6_setting 5 = .ok (.getfield 10, 3) := by decide +kernel
theorem dX6_setting_8 : decode cX6_setting 8 = .ok (.getfield 134, 3) := by decide +kernel
theorem dX6_setting_11 : decode cX6_setting 11 = .ok (.getfield 137, 3) := by decide +kernel
theorem dX6_setting_14 : decode cX6_setting 14 = .ok (.iload_n 1, 1) := by decide +kernel
theorem dX6_setting_15 : decode cX6_setting 15 = .ok (.iaload, 1) := by decide +kernel
theorem dX6_setting_16 : decode cX6_setting 16 = .ok (.ireturn, 1) := by decide +kernel
theorem dX6_ifPut_0 : decode cX6_ifPut 0 = .ok (.iload_n 1, 1) := by decide +kernel
theorem dX6_ifPut_1 : decode cX6_ifPut 1 = .ok (.invokestatic 51, 3) := by decide +kernel
theorem dX6_ifPut_4 : decode cX6_ifPut 4 = .ok (.iload_n 2, 1) := by decide +kernel
theorem dX6_ifPut_5 : decode cX6_ifPut 5 = .ok (.iconst 3, 1) := by decide +kernel
theorem dX6_ifPut_6 : decode cX6_ifPut 6 = .ok (.invokestatic 160, 3) := by decide +kernel
theorem dX6_ifPut_9 : decode cX6_ifPut 9 = .ok (.aload_n 0, 1) := by decide +kernel
theorem dX6_ifPut_10 : decode cX6_ifPut 10 = .ok (.getfield 26, 3) := by decide +kernel
theorem dX6_ifPut_13 : decode cX6_ifPut 13 = .ok (.invokevirtual 264, 3) := by decide +kernel
theorem dX6_ifPut_16 : decode cX6_ifPut 16 = .ok (.ifCond .ne 5, 3) := by decide +kernel
theorem dX6_ifPut_19 : decode cX6_ifPut 19 = .ok (.iconst (-1), 1) := by decide +kernel
theorem dX6_ifPut_20 : decode cX6_ifPut 20 = .ok (.ireturn, 1) := by decide +kernel
theorem dX6_ifPut_21 : decode cX6_ifPut 21 = .ok (.aload_n 0, 1) := by decide +kernel
theorem dX6_ifPut_22 : decode cX6_ifPut 22 = .ok (.getfield 36, 3) := by decide +kernel
theorem dX6_ifPut_25 : decode cX6_ifPut 25 = .ok (.invokevirtual 58, 3) := by decide +kernel
theorem dX6_ifPut_28 : decode cX6_ifPut 28 = .ok (.aload_n 0, 1) := by decide +kernel
theorem dX6_ifPut_29 : decode cX6_ifPut 29 = .ok (.getfield 26, 3) := by decide +kernel
theorem dX6_ifPut_32 : decode cX6_ifPut 32 = .ok (.aload_n 0, 1) := by decide +kernel
theorem dX6_ifPut_33 : decode cX6_ifPut 33 = .ok (.getfield 36, 3) := by decide +kernel
theorem dX6_ifPut_36 : decode cX6_ifPut 36 = .ok (.invokevirtual 61, 3) := by decide +kernel
theorem dX6_ifPut_39 : decode cX6_ifPut 39 = .ok (.aload_n 0, 1) := by decide +kernel
theorem dX6_ifPut_40 : decode cX6_ifPut 40 = .ok (.getfield 36, 3) := by decide +kernel
theorem dX6_ifPut_43 : decode cX6_ifPut 43 = .ok (.aload_n 0, 1) := by decide +kernel
theorem dX6_ifPut_44 : decode cX6_ifPut 44 = .ok (.getfield 10, 3) := by decide +kernel
theorem dX6_ifPut_47 : decode cX6_ifPut 47 = .ok (.getfield 134, 3) := by decide +kernel
theorem dX6_ifPut_50 : decode cX6_ifPut 50 = .ok (.invokevirtual 268, 3) := by decide +kernel
theorem dX6_ifPut_53 : decode cX6_ifPut 53 = .ok (.iload_n 2, 1) := by decide +kernel
theorem dX6_ifPut_54 : decode cX6_ifPut 54 = .ok (.tableswitch 64 0 2 #[26, 34, 49], 26) := by decide +kernel
theorem dX6_ifPut_80 : decode cX6_ifPut 80 = .ok (.aload_n 0, 1) := by decide +kernel
theorem dX6_ifPut_81 : decode cX6_ifPut 81 = .ok (.getfield 36, 3) := by decide +kernel
theorem dX6_ifPut_84 : decode cX6_ifPut 84 = .ok (.getfield 178, 3) := by decide +kernel
theorem dX6_ifPut_87 : decode cX6_ifPut 87 = .ok (.ireturn, 1) := by decide +kernel
theorem dX6_ifPut_88 : decode cX6_ifPut 88 = .ok (.aload_n 0, 1) := by decide +kernel
theorem dX6_ifPut_89 : decode cX6_ifPut 89 = .ok (.getfield 10, 3) := by decide +kernel
theorem dX6_ifPut_92 : decode cX6_ifPut 92 = .ok (.getfield 114, 3) := by decide +kernel
theorem dX6_ifPut_95 : decode cX6_ifPut 95 = .ok (.aload_n 0, 1) := by decide +kernel
theorem dX6_ifPut_96 : decode cX6_ifPut 96 = .ok (.getfield 36, 3) := by decide +kernel
theorem dX6_ifPut_99 : decode cX6_ifPut 99 = .ok (.invokevirtual 272, 3) := by decide +kernel
theorem dX6_ifPut_102 : decode cX6_ifPut 102 = .ok (.ireturn, 1) := by decide +kernel
theorem dX6_ifPut_103 : decode cX6_ifPut 103 = .ok (.aload_n 0, 1) := by decide +kernel
theorem dX6_ifPut_104 : decode cX6_ifPut 104 = .ok (.getfield 10, 3) := by decide +kernel
theorem dX6_ifPut_107 : decode cX6_ifPut 107 = .ok (.getfield 114, 3) := by decide +kernel
theorem dX6_ifPut_110 : decode cX6_ifPut 110 = .ok (.aload_n 0, 1) := by decide +kernel
theorem dX6_ifPut_111 : decode cX6_ifPut 111 = .ok (.getfield 36, 3) := by decide +kernel
theorem dX6_ifPut_114 : decode cX6_ifPut 114 = .ok (.invokevirtual 275, 3) := by decide +kernel
theorem dX6_ifPut_117 : decode cX6_ifPut 117 = .ok (.ireturn, 1) := by decide +kernel
theorem dX6_ifPut_118 : decode cX6_ifPut 118 = .ok (.aload_n 0, 1) := by decide +kernel
theorem dX6_ifPut_119 : decode cX6_ifPut 119 = .ok (.getfield 30, 3) := by decide +kernel
theorem dX6_ifPut_122 : decode cX6_ifPut 122 = .ok (.aload_n 0, 1) := by decide +kernel
theorem dX6_ifPut_123 : decode cX6_ifPut 123 = .ok (.getfield 10, 3) := by decide +kernel
theorem dX6_ifPut_126 : decode cX6_ifPut 126 = .ok (.iload_n 1, 1) := by decide +kernel
theorem dX6_ifPut_127 : decode cX6_ifPut 127 = .ok (.aload_n 0, 1) := by decide +kernel
theorem dX6_ifPut_128 : decode cX6_ifPut 128 = .ok (.getfield 36, 3) := by decide +kernel
theorem dX6_ifPut_131 : decode cX6_ifPut 131 = .ok (.invokevirtual 278, 3) := by decide +kernel
theorem dX6_ifPut_134 : decode cX6_ifPut 134 = .ok (.ifCond .eq 7, 3) := by decide +kernel
theorem dX6_ifPut_137 : decode cX6_ifPut 137 = .ok (.iconst 0, 1) := by decide +kernel
theorem dX6_ifPut_138 : decode cX6_ifPut 138 = .ok (.goto 4, 3) := by decide +kernel
theorem dX6_ifPut_141 : decode cX6_ifPut 141 = .ok (.iconst 1, 1) := by decide +kernel
theorem dX6_ifPut_142 : decode cX6_ifPut 142 = .ok (.ireturn, 1) := by decide +kernel
theorem dX6_ifSet_0 : decode cX6_ifSet 0 = .ok (.iload_n 1, 1) := by decide +kernel
theorem dX6_ifSet_1 : decode cX6_ifSet 1 = .ok (.invokestatic 51, 3) := by decide +kernel
theorem dX6_ifSet_4 : decode cX6_ifSet 4 = .ok (.iload_n 2, 1) := by decide +kernel
theorem dX6_ifSet_5 : decode cX6_ifSet 5 = .ok (.invokestatic 127, 3) := by decide +kernel
theorem dX6_ifSet_8 : decode cX6_ifSet 8 = .ok (.iload_n 2, 1) := by decide +kernel
theorem dX6_ifSet_9 : decode cX6_ifSet 9 = .ok (.iload_n 3, 1) := by decide +kernel
theorem dX6_ifSet_10 : decode cX6_ifSet 10 = .ok (.invokestatic 130, 3) := by decide +kernel
theorem dX6_ifSet_13 : decode cX6_ifSet 13 = .ok (.aload_n 0, 1) := by decide +kernel
theorem dX6_ifSet_14 : decode cX6_ifSet 14 = .ok (.getfield 43, 3) := by decide +kernel
theorem dX6_ifSet_17 : decode cX6_ifSet 17 = .ok (.aload_n 0, 1) := by decide +kernel
theorem dX6_ifSet_18 : decode cX6_ifSet 18 = .ok (.getfield 10, 3) := by decide +kernel
theorem dX6_ifSet_21 : decode cX6_ifSet 21 = .ok (.getfield 134, 3) := by decide +kernel
theorem dX6_ifSet_24 : decode cX6_ifSet 24 = .ok (.invokevirtual 282, 3) := by decide +kernel
theorem dX6_ifSet_27 : decode cX6_ifSet 27 = .ok (.aload_n 0, 1) := by decide +kernel
theorem dX6_ifSet_28 : decode cX6_ifSet 28 = .ok (.getfield 43, 3) := by decide +kernel
theorem dX6_ifSet_31 : decode cX6_ifSet 31 = .ok (.getfield 137, 3) := by decide +kernel
theorem dX6_ifSet_34 : decode cX6_ifSet 34 = .ok (.iload_n 2, 1) := by decide +kernel
theorem dX6_ifSet_35 : decode cX6_ifSet 35 = .ok (.iload_n 3, 1) := by decide +kernel
theorem dX6_ifSet_36 : decode cX6_ifSet 36 = .ok (.iastore, 1) := by decide +kernel
theorem dX6_ifSet_37 : decode cX6_ifSet 37 = .ok (.aload_n 0, 1) := by decide +kernel
theorem dX6_ifSet_38 : decode cX6_ifSet 38 = .ok (.getfield 36, 3) := by decide +kernel
theorem dX6_ifSet_41 : decode cX6_ifSet 41 = .ok (.aload_n 0, 1) := by decide +kernel
theorem dX6_ifSet_42 : decode cX6_ifSet 42 = .ok (.getfield 10, 3) := by decide +kernel
theorem dX6_ifSet_45 : decode cX6_ifSet 45 = .ok (.getfield 70, 3) := by decide +kernel
theorem dX6_ifSet_48 : decode cX6_ifSet 48 = .ok (.iload_n 1, 1) := by decide +kernel
theorem dX6_ifSet_49 : decode cX6_ifSet 49 = .ok (.aaload, 1) := by decide +kernel
theorem dX6_ifSet_50 : decode cX6_ifSet 50 = .ok (.invokevirtual 107, 3) := by decide +kernel
theorem dX6_ifSet_53 : decode cX6_ifSet 53 = .ok (.aload_n 0, 1) := by decide +kernel
theorem dX6_ifSet_54 : decode cX6_ifSet 54 = .ok (.getfield 36, 3) := by decide +kernel
theorem dX6_ifSet_57 : decode cX6_ifSet 57 = .ok (.aload_n 0, 1) := by decide +kernel
theorem dX6_ifSet_58 : decode cX6_ifSet 58 = .ok (.getfield 43, 3) := by decide +kernel
theorem dX6_ifSet_61 : decode cX6_ifSet 61 = .ok (.invokevirtual 268, 3) := by decide +kernel
theorem dX6_ifSet_64 : decode cX6_ifSet 64 = .ok (.aload_n 0, 1) := by decide +kernel
theorem dX6_ifSet_65 : decode cX6_ifSet 65 = .ok (.getfield 36, 3) := by decide +kernel
theorem dX6_ifSet_68 : decode cX6_ifSet 68 = .ok (.getfield 178, 3) := by decide +kernel
theorem dX6_ifSet_71 : decode cX6_ifSet 71 = .ok (.ireturn, 1) := by decide +kernel
theorem dX6_bestDivisor_0 : decode cX6_bestDivisor 0 = .ok (.iconst 1, 1) := by decide +kernel
theorem dX6_bestDivisor_1 : decode cX6_bestDivisor 1 = .ok (.istore_n 1, 1) := by decide +kernel
theorem dX6_bestDivisor_2 : decode cX6_bestDivisor 2 = .ok (.aload_n 0, 1) := by decide +kernel
theorem dX6_bestDivisor_3 : decode cX6_bestDivisor 3 = .ok (.iconst 1, 1) := by decide +kernel
theorem dX6_bestDivisor_4 : decode cX6_bestDivisor 4 = .ok (.invokevirtual 285, 3) := by decide +kernel
theorem dX6_bestDivisor_7 : decode cX6_bestDivisor 7 = .ok (.istore_n 2, 1) := by decide +kernel
theorem dX6_bestDivisor_8 : decode cX6_bestDivisor 8 = .ok (.iconst 2, 1) := by decide +kernel
theorem dX6_bestDivisor_9 : decode cX6_bestDivisor 9 = .ok (.istore_n 3, 1) := by decide +kernel
theorem dX6_bestDivisor_10 : decode cX6_bestDivisor 10 = .ok (.iload_n 3, 1) := by decide +kernel
theorem dX6_bestDivisor_11 : decode cX6_bestDivisor 11 = .ok (.bipush 9, 2) := by decide +kernel
theorem dX6_bestDivisor_13 : decode cX6_bestDivisor 13 = .ok (.if_icmp .gt 27, 3) := by decide +kernel
theorem dX6_bestDivisor_16 : decode cX6_bestDivisor 16 = .ok (.aload_n 0, 1) := by decide +kernel
theorem dX6_bestDivisor_17 : decode cX6_bestDivisor 17 = .ok (.iload_n 3, 1) := by decide +kernel
theorem dX6_bestDivisor_18 : decode cX6_bestDivisor 18 = .ok (.invokevirtual 285, 3) := by decide +kernel
theorem dX6_bestDivisor_21 : decode cX6_bestDivisor 21 = .ok (.istore 4, 2) := by decide +kernel
theorem dX6_bestDivisor_23 : decode cX6_bestDivisor 23 = .ok (.iload 4, 2) := by decide +kernel
theorem dX6_bestDivisor_25 : decode cX6_bestDivisor 25 = .ok (.iload_n 2, 1) := by decide +kernel
theorem dX6_bestDivisor_26 : decode cX6_bestDivisor 26 = .ok (.if_icmp .gt 8, 3) := by decide +kernel
theorem dX6_bestDivisor_29 : decode cX6_bestDivisor 29 = .ok (.iload 4, 2) := by decide +kernel
theorem dX6_bestDivisor_31 : decode cX6_bestDivisor 31 = .ok (.istore_n 2, 1) := by decide +kernel
theorem dX6_bestDivisor_32 : decode cX6_bestDivisor 32 = .ok (.iload_n 3, 1) := by decide +kernel
theorem dX6_bestDivisor_33 : decode cX6_bestDivisor 33 = .ok (.istore_n 1, 1) := by decide +kernel
theorem dX6_bestDivisor_34 : decode cX6_bestDivisor 34 = .ok (.iinc 3 1, 3) := by decide +kernel
theorem dX6_bestDivisor_37 : decode cX6_bestDivisor 37 = .ok (.goto (-27), 3) := by decide +kernel
theorem dX6_bestDivisor_40 : decode cX6_bestDivisor 40 = .ok (.iload_n 1, 1) := by decide +kernel
theorem dX6_bestDivisor_41 : decode cX6_bestDivisor 41 = .ok (.ireturn, 1) := by decide +kernel
theorem dX6_savedShare_0 : decode cX6_savedShare 0 = .ok (.aload_n 0, 1) := by decide +kernel
theorem dX6_savedShare_1 : decode cX6_savedShare 1 = .ok (.getfield 10, 3) := by decide +kernel
theorem dX6_savedShare_4 : decode cX6_savedShare 4 = .ok (.invokevirtual 242, 3) := by decide +kernel
theorem dX6_savedShare_7 : decode cX6_savedShare 7 = .ok (.istore_n 1, 1) := by decide +kernel
theorem dX6_savedShare_8 : decode cX6_savedShare 8 = .ok (.iload_n 1, 1) := by decide +kernel
theorem dX6_savedShare_9 : decode cX6_savedShare 9 = .ok (.ifCond .gt 5, 3) := by decide +kernel
theorem dX6_savedShare_12 : decode cX6_savedShare 12 = .ok (.dconst 0, 1) := by decide +kernel
theorem dX6_savedShare_13 : decode cX6_savedShare 13 = .ok (.dreturn, 1) := by decide +kernel
theorem dX6_savedShare_14 : decode cX6_savedShare 14 = .ok (.aload_n 0, 1) := by decide +kernel
theorem dX6_savedShare_15 : decode cX6_savedShare 15 = .ok (.getfield 10, 3) := by decide +kernel
theorem dX6_savedShare_18 : decode cX6_savedShare 18 = .ok (.getfield 114, 3) := by decide +kernel
theorem dX6_savedShare_21 : decode cX6_savedShare 21 = .ok (.invokevirtual 246, 3) := by decide +kernel
theorem dX6_savedShare_24 : decode cX6_savedShare 24 = .ok (.aload_n 0, 1) := by decide +kernel
theorem dX6_savedShare_25 : decode cX6_savedShare 25 = .ok (.getfield 10, 3) := by decide +kernel
theorem dX6_savedShare_28 : decode cX6_savedShare 28 = .ok (.getfield 114, 3) := by decide +kernel
theorem dX6_savedShare_31 : decode cX6_savedShare 31 = .ok (.invokevirtual 252, 3) := by decide +kernel
theorem dX6_savedShare_34 : decode cX6_savedShare 34 = .ok (.isub, 1) := by decide +kernel
theorem dX6_savedShare_35 : decode cX6_savedShare 35 = .ok (.istore_n 2, 1) := by decide +kernel
theorem dX6_savedShare_36 : decode cX6_savedShare 36 = .ok (.dconst 1, 1) := by decide +kernel
theorem dX6_savedShare_37 : decode cX6_savedShare 37 = .ok (.iload_n 2, 1) := by decide +kernel
theorem dX6_savedShare_38 : decode cX6_savedShare 38 = .ok (.i2d, 1) := by decide +kernel
theorem dX6_savedShare_39 : decode cX6_savedShare 39 = .ok (.iload_n 1, 1) := by decide +kernel
theorem dX6_savedShare_40 : decode cX6_savedShare 40 = .ok (.i2d, 1) := by decide +kernel
theorem dX6_savedShare_41 : decode cX6_savedShare 41 = .ok (.ddiv, 1) := by decide +kernel
theorem dX6_savedShare_42 : decode cX6_savedShare 42 = .ok (.dsub, 1) := by decide +kernel
theorem dX6_savedShare_43 : decode cX6_savedShare 43 = .ok (.dreturn, 1) := by decide +kernel
theorem dX6_digest_0 : decode cX6_digest 0 = .ok (.ldc2_w 288, 3) := by decide +kernel
theorem dX6_digest_3 : decode cX6_digest 3 = .ok (.lstore_n 1, 1) := by decide +kernel
theorem dX6_digest_4 : decode cX6_digest 4 = .ok (.iconst 0, 1) := by decide +kernel
theorem dX6_digest_5 : decode cX6_digest 5 = .ok (.istore_n 3, 1) := by decide +kernel
theorem dX6_digest_6 : decode cX6_digest 6 = .ok (.iload_n 3, 1) := by decide +kernel
theorem dX6_digest_7 : decode cX6_digest 7 = .ok (.bipush 9, 2) := by decide +kernel
theorem dX6_digest_9 : decode cX6_digest 9 = .ok (.if_icmp .gt 20, 3) := by decide +kernel
theorem dX6_digest_12 : decode cX6_digest 12 = .ok (.lload_n 1, 1) := by decide +kernel
theorem dX6_digest_13 : decode cX6_digest 13 = .ok (.aload_n 0, 1) := by decide +kernel
theorem dX6_digest_14 : decode cX6_digest 14 = .ok (.iload_n 3, 1) := by decide +kernel
theorem dX6_digest_15 : decode cX6_digest 15 = .ok (.invokevirtual 290, 3) := by decide +kernel
theorem dX6_digest_18 : decode cX6_digest 18 = .ok (.i2l, 1) := by decide +kernel
theorem dX6_digest_19 : decode cX6_digest 19 = .ok (.invokestatic 293, 3) := by decide +kernel
theorem dX6_digest_22 : decode cX6_digest 22 = .ok (.lstore_n 1, 1) := by decide +kernel
theorem dX6_digest_23 : decode cX6_digest 23 = .ok (.iinc 3 1, 3) := by decide +kernel
theorem dX6_digest_26 : decode cX6_digest 26 = .ok (.goto (-20), 3) := by decide +kernel
theorem dX6_digest_29 : decode cX6_digest 29 = .ok (.iconst 0, 1) := by decide +kernel
theorem dX6_digest_30 : decode cX6_digest 30 = .ok (.istore_n 3, 1) := by decide +kernel
theorem dX6_digest_31 : decode cX6_digest 31 = .ok (.iload_n 3, 1) := by decide +kernel
theorem dX6_digest_32 : decode cX6_digest 32 = .ok (.iconst 5, 1) := by decide +kernel
theorem dX6_digest_33 : decode cX6_digest 33 = .ok (.if_icmp .ge 20, 3) := by decide +kernel
theorem dX6_digest_36 : decode cX6_digest 36 = .ok (.lload_n 1, 1) := by decide +kernel
theorem dX6_digest_37 : decode cX6_digest 37 = .ok (.aload_n 0, 1) := by decide +kernel
theorem dX6_digest_38 : decode cX6_digest 38 = .ok (.iload_n 3, 1) := by decide +kernel
theorem dX6_digest_39 : decode cX6_digest 39 = .ok (.invokevirtual 297, 3) := by decide +kernel
theorem dX6_digest_42 : decode cX6_digest 42 = .ok (.i2l, 1) := by decide +kernel
theorem dX6_digest_43 : decode cX6_digest 43 = .ok (.invokestatic 293, 3) := by decide +kernel
theorem dX6_digest_46 : decode cX6_digest 46 = .ok (.lstore_n 1, 1) := by decide +kernel
theorem dX6_digest_47 : decode cX6_digest 47 = .ok (.iinc 3 1, 3) := by decide +kernel
theorem dX6_digest_50 : decode cX6_digest 50 = .ok (.goto (-19), 3) := by decide +kernel
theorem dX6_digest_53 : decode cX6_digest 53 = .ok (.iconst 0, 1) := by decide +kernel
theorem dX6_digest_54 : decode cX6_digest 54 = .ok (.istore_n 3, 1) := by decide +kernel
theorem dX6_digest_55 : decode cX6_digest 55 = .ok (.iload_n 3, 1) := by decide +kernel
theorem dX6_digest_56 : decode cX6_digest 56 = .ok (.iconst 4, 1) := by decide +kernel
theorem dX6_digest_57 : decode cX6_digest 57 = .ok (.if_icmp .ge 16, 3) := by decide +kernel
theorem dX6_digest_60 : decode cX6_digest 60 = .ok (.aload_n 0, 1) := by decide +kernel
theorem dX6_digest_61 : decode cX6_digest 61 = .ok (.lload_n 1, 1) := by decide +kernel
theorem dX6_digest_62 : decode cX6_digest 62 = .ok (.iload_n 3, 1) := by decide +kernel
theorem dX6_digest_63 : decode cX6_digest 63 = .ok (.invokevirtual 300, 3) := by decide +kernel
theorem dX6_digest_66 : decode cX6_digest 66 = .ok (.lstore_n 1, 1) := by decide +kernel
theorem dX6_digest_67 : decode cX6_digest 67 = .ok (.iinc 3 1, 3) := by decide +kernel
theorem dX6_digest_70 : decode cX6_digest 70 = .ok (.goto (-15), 3) := by decide +kernel
theorem dX6_digest_73 : decode cX6_digest 73 = .ok (.iconst 0, 1) := by decide +kernel
theorem dX6_digest_74 : decode cX6_digest 74 = .ok (.istore_n 3, 1) := by decide +kernel
theorem dX6_digest_75 : decode cX6_digest 75 = .ok (.iload_n 3, 1) := by decide +kernel
theorem dX6_digest_76 : decode cX6_digest 76 = .ok (.bipush 60, 2) := by decide +kernel
theorem dX6_digest_78 : decode cX6_digest 78 = .ok (.if_icmp .ge 16, 3) := by decide +kernel
theorem dX6_digest_81 : decode cX6_digest 81 = .ok (.aload_n 0, 1) := by decide +kernel
theorem dX6_digest_82 : decode cX6_digest 82 = .ok (.lload_n 1, 1) := by decide +kernel
theorem dX6_digest_83 : decode cX6_digest 83 = .ok (.iload_n 3, 1) := by decide +kernel
theorem dX6_digest_84 : decode cX6_digest 84 = .ok (.invokevirtual 304, 3) := by decide +kernel
theorem dX6_digest_87 : decode cX6_digest 87 = .ok (.lstore_n 1, 1) := by decide +kernel
theorem dX6_digest_88 : decode cX6_digest 88 = .ok (.iinc 3 1, 3) := by decide +kernel
theorem dX6_digest_91 : decode cX6_digest 91 = .ok (.goto (-16), 3) := by decide +kernel
theorem dX6_digest_94 : decode cX6_digest 94 = .ok (.lload_n 1, 1) := by decide +kernel
theorem dX6_digest_95 : decode cX6_digest 95 = .ok (.aload_n 0, 1) := by decide +kernel
theorem dX6_digest_96 : decode cX6_digest 96 = .ok (.invokevirtual 307, 3) := by decide +kernel
theorem dX6_digest_99 : decode cX6_digest 99 = .ok (.i2l, 1) := by decide +kernel
theorem dX6_digest_100 : decode cX6_digest 100 = .ok (.invokestatic 293, 3) := by decide +kernel
theorem dX6_digest_103 : decode cX6_digest 103 = .ok (.lstore_n 1, 1) := by decide +kernel
theorem dX6_digest_104 : decode cX6_digest 104 = .ok (.lload_n 1, 1) := by decide +kernel
theorem dX6_digest_105 : decode cX6_digest 105 = .ok (.aload_n 0, 1) := by decide +kernel
theorem dX6_digest_106 : decode cX6_digest 106 = .ok (.invokevirtual 310, 3) := by decide +kernel
theorem dX6_digest_109 : decode cX6_digest 109 = .ok (.invokestatic 314, 3) := by decide +kernel
theorem dX6_digest_112 : decode cX6_digest 112 = .ok (.invokestatic 293, 3) := by decide +kernel
theorem dX6_digest_115 : decode cX6_digest 115 = .ok (.lstore_n 1, 1) := by decide +kernel
theorem dX6_digest_116 : decode cX6_digest 116 = .ok (.lload_n 1, 1) := by decide +kernel
theorem dX6_digest_117 : decode cX6_digest 117 = .ok (.aload_n 0, 1) := by decide +kernel
theorem dX6_digest_118 : decode cX6_digest 118 = .ok (.getfield 26, 3) := by decide +kernel
theorem dX6_digest_121 : decode cX6_digest 121 = .ok (.getfield 143, 3) := by decide +kernel
theorem dX6_digest_124 : decode cX6_digest 124 = .ok (.i2l, 1) := by decide +kernel
theorem dX6_digest_125 : decode cX6_digest 125 = .ok (.invokestatic 293, 3) := by decide +kernel
theorem dX6_digest_128 : decode cX6_digest 128 = .ok (.lstore_n 1, 1) := by decide +kernel
theorem dX6_digest_129 : decode cX6_digest 129 = .ok (.iconst 0, 1) := by decide +kernel
theorem dX6_digest_130 : decode cX6_digest 130 = .ok (.istore_n 3, 1) := by decide +kernel
theorem dX6_digest_131 : decode cX6_digest 131 = .ok (.iload_n 3, 1) := by decide +kernel
theorem dX6_digest_132 : decode cX6_digest 132 = .ok (.aload_n 0, 1) := by decide +kernel
theorem dX6_digest_133 : decode cX6_digest 133 = .ok (.getfield 26, 3) := by decide +kernel
theorem dX6_digest_136 : decode cX6_digest 136 = .ok (.getfield 143, 3) := by decide +kernel
theorem dX6_digest_139 : decode cX6_digest 139 = .ok (.if_icmp .ge 24, 3) := by decide +kernel
theorem dX6_digest_142 : decode cX6_digest 142 = .ok (.lload_n 1, 1) := by decide +kernel
theorem dX6_digest_143 : decode cX6_digest 143 = .ok (.aload_n 0, 1) := by decide +kernel
theorem dX6_digest_144 : decode cX6_digest 144 = .ok (.getfield 26, 3) := by decide +kernel
theorem dX6_digest_147 : decode cX6_digest 147 = .ok (.getfield 318, 3) := by decide +kernel
theorem dX6_digest_150 : decode cX6_digest 150 = .ok (.iload_n 3, 1) := by decide +kernel
theorem dX6_digest_151 : decode cX6_digest 151 = .ok (.iaload, 1) := by decide +kernel
theorem dX6_digest_152 : decode cX6_digest 152 = .ok (.i2l, 1) := by decide +kernel
theorem dX6_digest_153 : decode cX6_digest 153 = .ok (.invokestatic 293, 3) := by decide +kernel
theorem dX6_digest_156 : decode cX6_digest 156 = .ok (.lstore_n 1, 1) := by decide +kernel
theorem dX6_digest_157 : decode cX6_digest 157 = .ok (.iinc 3 1, 3) := by decide +kernel
theorem dX6_digest_160 : decode cX6_digest 160 = .ok (.goto (-29), 3) := by decide +kernel
theorem dX6_digest_163 : decode cX6_digest 163 = .ok (.lload_n 1, 1) := by decide +kernel
theorem dX6_digest_164 : decode cX6_digest 164 = .ok (.lreturn, 1) := by decide +kernel
theorem dX6_requireText_0 : decode cX6_requireText 0 = .ok (.iload_n 0, 1) := by decide +kernel
theorem dX6_requireText_1 : decode cX6_requireText 1 = .ok (.ifCond .lt 8, 3) := by decide +kernel
theorem dX6_requireText_4 : decode cX6_requireText 4 = .ok (.iload_n 0, 1) := by decide +kernel
theorem dX6_requireText_5 : decode cX6_requireText 5 = .ok (.iconst 4, 1) := by decide +kernel
theorem dX6_requireText_6 : decode cX6_requireText 6 = .ok (.if_icmp .lt 14, 3) := by decide +kernel
theorem dX6_requireText_9 : decode cX6_requireText 9 = .ok (.new 78, 3) := by decide +kernel
theorem dX6_requireText_12 : decode cX6_requireText 12 = .ok (.dup, 1) := by decide +kernel
theorem dX6_requireText_13 : decode cX6_requireText 13 = .ok (.ldc_w 321, 3) := by decide +kernel
theorem dX6_requireText_16 : decode cX6_requireText 16 = .ok (.invokespecial 82, 3) := by decide +kernel
theorem dX6_requireText_19 : decode cX6_requireText 19 = .ok (.athrow, 1) := by decide +kernel
theorem dX6_requireText_20 : decode cX6_requireText 20 = .ok (.return_, 1) := by decide +kernel
theorem dX6_requirePlace_0 : decode cX6_requirePlace 0 = .ok (.iload_n 1, 1) := by decide +kernel
theorem dX6_requirePlace_1 : decode cX6_requirePlace 1 = .ok (.ifCond .lt 11, 3) := by decide +kernel
theorem dX6_requirePlace_4 : decode cX6_requirePlace 4 = .ok (.iload_n 1, 1) := by decide +kernel
theorem dX6_requirePlace_5 : decode cX6_requirePlace 5 = .ok (.aload_n 0, 1) := by decide +kernel
theorem dX6_requirePlace_6 : decode cX6_requirePlace 6 = .ok (.getfield 74, 3) := by decide +kernel
theorem dX6_requirePlace_9 : decode cX6_requirePlace 9 = .ok (.if_icmp .lt 13, 3) := by decide +kernel
theorem dX6_requirePlace_12 : decode cX6_requirePlace 12 = .ok (.new 78, 3) := by decide +kernel
theorem dX6_requirePlace_15 : decode cX6_requirePlace 15 = .ok (.dup, 1) := by decide +kernel
theorem dX6_requirePlace_16 : decode cX6_requirePlace 16 = .ok (.ldc 80, 2) := by decide +kernel
theorem dX6_requirePlace_18 : decode cX6_requirePlace 18 = .ok (.invokespecial 82, 3) := by decide +kernel
theorem dX6_requirePlace_21 : decode cX6_requirePlace 21 = .ok (.athrow, 1) := by decide +kernel
theorem dX6_requirePlace_22 : decode cX6_requirePlace 22 = .ok (.return_, 1) := by decide +kernel
theorem dX6_requireSetting_0 : decode cX6_requireSetting 0 = .ok (.iload_n 0, 1) := by decide +kernel
theorem dX6_requireSetting_1 : decode cX6_requireSetting 1 = .ok (.ifCond .lt 8, 3) := by decide +kernel
theorem dX6_requireSetting_4 : decode cX6_requireSetting 4 = .ok (.iload_n 0, 1) := by decide +kernel
theorem dX6_requireSetting_5 : decode cX6_requireSetting 5 = .ok (.iconst 5, 1) := by decide +kernel
theorem dX6_requireSetting_6 : decode cX6_requireSetting 6 = .ok (.if_icmp .lt 14, 3) := by decide +kernel
theorem dX6_requireSetting_9 : decode cX6_requireSetting 9 = .ok (.new 78, 3) := by decide +kernel
theorem dX6_requireSetting_12 : decode cX6_requireSetting 12 = .ok (.dup, 1) := by decide +kernel
theorem dX6_requireSetting_13 : decode cX6_requireSetting 13 = .ok (.ldc_w 323, 3) := by decide +kernel
theorem dX6_requireSetting_16 : decode cX6_requireSetting 16 = .ok (.invokespecial 82, 3) := by decide +kernel
theorem dX6_requireSetting_19 : decode cX6_requireSetting 19 = .ok (.athrow, 1) := by decide +kernel
theorem dX6_requireSetting_20 : decode cX6_requireSetting 20 = .ok (.return_, 1) := by decide +kernel
theorem dX6_requireValue_0 : decode cX6_requireValue 0 = .ok (.iload_n 1, 1) := by decide +kernel
theorem dX6_requireValue_1 : decode cX6_requireValue 1 = .ok (.getstatic 325, 3) := by decide +kernel
theorem dX6_requireValue_4 : decode cX6_requireValue 4 = .ok (.iload_n 0, 1) := by decide +kernel
theorem dX6_requireValue_5 : decode cX6_requireValue 5 = .ok (.iaload, 1) := by decide +kernel
theorem dX6_requireValue_6 : decode cX6_requireValue 6 = .ok (.if_icmp .lt 12, 3) := by decide +kernel
theorem dX6_requireValue_9 : decode cX6_requireValue 9 = .ok (.iload_n 1, 1) := by decide +kernel
theorem dX6_requireValue_10 : decode cX6_requireValue 10 = .ok (.getstatic 328, 3) := by decide +kernel
theorem dX6_requireValue_13 : decode cX6_requireValue 13 = .ok (.iload_n 0, 1) := by decide +kernel
theorem dX6_requireValue_14 : decode cX6_requireValue 14 = .ok (.iaload, 1) := by decide +kernel
theorem dX6_requireValue_15 : decode cX6_requireValue 15 = .ok (.if_icmp .le 14, 3) := by decide +kernel
theorem dX6_requireValue_18 : decode cX6_requireValue 18 = .ok (.new 102, 3) := by decide +kernel
theorem dX6_requireValue_21 : decode cX6_requireValue 21 = .ok (.dup, 1) := by decide +kernel
theorem dX6_requireValue_22 : decode cX6_requireValue 22 = .ok (.ldc_w 331, 3) := by decide +kernel
theorem dX6_requireValue_25 : decode cX6_requireValue 25 = .ok (.invokespecial 106, 3) := by decide +kernel
theorem dX6_requireValue_28 : decode cX6_requireValue 28 = .ok (.athrow, 1) := by decide +kernel
theorem dX6_requireValue_29 : decode cX6_requireValue 29 = .ok (.return_, 1) := by decide +kernel
theorem dX6_requireWhat_0 : decode cX6_requireWhat 0 = .ok (.iload_n 0, 1) := by decide +kernel
theorem dX6_requireWhat_1 : decode cX6_requireWhat 1 = .ok (.ifCond .lt 8, 3) := by decide +kernel
theorem dX6_requireWhat_4 : decode cX6_requireWhat 4 = .ok (.iload_n 0, 1) := by decide +kernel
theorem dX6_requireWhat_5 : decode cX6_requireWhat 5 = .ok (.iload_n 1, 1) := by decide +kernel
theorem dX6_requireWhat_6 : decode cX6_requireWhat 6 = .ok (.if_icmp .le 14, 3) := by decide +kernel
theorem dX6_requireWhat_9 : decode cX6_requireWhat 9 = .ok (.new 102, 3) := by decide +kernel
theorem dX6_requireWhat_12 : decode cX6_requireWhat 12 = .ok (.dup, 1) := by decide +kernel
theorem dX6_requireWhat_13 : decode cX6_requireWhat 13 = .ok (.ldc_w 333, 3) := by decide +kernel
theorem dX6_requireWhat_16 : decode cX6_requireWhat 16 = .ok (.invokespecial 106, 3) := by decide +kernel
theorem dX6_requireWhat_19 : decode cX6_requireWhat 19 = .ok (.athrow, 1) := by decide +kernel
theorem dX6_requireWhat_20 : decode cX6_requireWhat 20 = .ok (.return_, 1) := by decide +kernel
theorem dX6_requireCompleteBuffer_0 : decode cX6_requireCompleteBuffer 0 = .ok (.aload_n 0, 1) := by decide +kernel
theorem dX6_requireCompleteBuffer_1 : decode cX6_requireCompleteBuffer 1 = .ok (.getfield 26, 3) := by decide +kernel
theorem dX6_requireCompleteBuffer_4 : decode cX6_requireCompleteBuffer 4 = .ok (.invokevirtual 264, 3) := by decide +kernel
theorem dX6_requireCompleteBuffer_7 : decode cX6_requireCompleteBuffer 7 = .ok (.ifCond .ne 14, 3) := by decide +kernel
theorem dX6_requireCompleteBuffer_10 : decode cX6_requireCompleteBuffer 10 = .ok (.new 102, 3) := by decide +kernel
theorem dX6_requireCompleteBuffer_13 : decode cX6_requireCompleteBuffer 13 = .ok (.dup, 1) := by decide +kernel
theorem dX6_requireCompleteBuffer_14 : decode cX6_requireCompleteBuffer 14 = .ok (.ldc_w 335, 3) := by decide +kernel
theorem dX6_requireCompleteBuffer_17 : decode cX6_requireCompleteBuffer 17 = .ok (.invokespecial 106, 3) := by decide +kernel
theorem dX6_requireCompleteBuffer_20 : decode cX6_requireCompleteBuffer 20 = .ok (.athrow, 1) := by decide +kernel
theorem dX6_requireCompleteBuffer_21 : decode cX6_requireCompleteBuffer 21 = .ok (.return_, 1) := by decide +kernel
theorem dX6_changeToTrial_0 : decode cX6_changeToTrial 0 = .ok (.aload_n 0, 1) := by decide +kernel
theorem dX6_changeToTrial_1 : decode cX6_changeToTrial 1 = .ok (.getfield 36, 3) := by decide +kernel
theorem dX6_changeToTrial_4 : decode cX6_changeToTrial 4 = .ok (.aload_n 0, 1) := by decide +kernel
theorem dX6_changeToTrial_5 : decode cX6_changeToTrial 5 = .ok (.getfield 10, 3) := by decide +kernel
theorem dX6_changeToTrial_8 : decode cX6_changeToTrial 8 = .ok (.getfield 134, 3) := by decide +kernel
theorem dX6_changeToTrial_11 : decode cX6_changeToTrial 11 = .ok (.invokevirtual 268, 3) := by decide +kernel
theorem dX6_changeToTrial_14 : decode cX6_changeToTrial 14 = .ok (.aload_n 0, 1) := by decide +kernel
theorem dX6_changeToTrial_15 : decode cX6_changeToTrial 15 = .ok (.getfield 30, 3) := by decide +kernel
theorem dX6_changeToTrial_18 : decode cX6_changeToTrial 18 = .ok (.aload_n 0, 1) := by decide +kernel
theorem dX6_changeToTrial_19 : decode cX6_changeToTrial 19 = .ok (.getfield 10, 3) := by decide +kernel
theorem dX6_changeToTrial_22 : decode cX6_changeToTrial 22 = .ok (.iload_n 1, 1) := by decide +kernel
theorem dX6_changeToTrial_23 : decode cX6_changeToTrial 23 = .ok (.aload_n 0, 1) := by decide +kernel
theorem dX6_changeToTrial_24 : decode cX6_changeToTrial 24 = .ok (.getfield 36, 3) := by decide +kernel
theorem dX6_changeToTrial_27 : decode cX6_changeToTrial 27 = .ok (.invokevirtual 278, 3) := by decide +kernel
theorem dX6_changeToTrial_30 : decode cX6_changeToTrial 30 = .ok (.ifCond .ne 14, 3) := by decide +kernel
theorem dX6_changeToTrial_33 : decode cX6_changeToTrial 33 = .ok (.new 89, 3) := by decide +kernel
theorem dX6_changeToTrial_36 : decode cX6_changeToTrial 36 = .ok (.dup, 1) := by decide +kernel
theorem dX6_changeToTrial_37 : decode cX6_changeToTrial 37 = .ok (.ldc_w 337, 3) := by decide +kernel
theorem dX6_changeToTrial_40 : decode cX6_changeToTrial 40 = .ok (.invokespecial 93, 3) := by decide +kernel
theorem dX6_changeToTrial_43 : decode cX6_changeToTrial 43 = .ok (.athrow, 1) := by decide +kernel
theorem dX6_changeToTrial_44 : decode cX6_changeToTrial 44 = .ok (.aload_n 0, 1) := by decide +kernel
theorem dX6_changeToTrial_45 : decode cX6_changeToTrial 45 = .ok (.getfield 19, 3) := by decide +kernel
theorem dX6_changeToTrial_48 : decode cX6_changeToTrial 48 = .ok (.aload_n 0, 1) := by decide +kernel
theorem dX6_changeToTrial_49 : decode cX6_changeToTrial 49 = .ok (.getfield 10, 3) := by decide +kernel
theorem dX6_changeToTrial_52 : decode cX6_changeToTrial 52 = .ok (.invokevirtual 110, 3) := by decide +kernel
theorem dX6_changeToTrial_55 : decode cX6_changeToTrial 55 = .ok (.aload_n 0, 1) := by decide +kernel
theorem dX6_changeToTrial_56 : decode cX6_changeToTrial 56 = .ok (.getfield 10, 3) := by decide +kernel
theorem dX6_changeToTrial_59 : decode cX6_changeToTrial 59 = .ok (.aload_n 0, 1) := by decide +kernel
theorem dX6_changeToTrial_60 : decode cX6_changeToTrial 60 = .ok (.getfield 30, 3) := by decide +kernel
theorem dX6_changeToTrial_63 : decode cX6_changeToTrial 63 = .ok (.invokevirtual 339, 3) := by decide +kernel
theorem dX6_changeToTrial_66 : decode cX6_changeToTrial 66 = .ok (.aload_n 0, 1) := by decide +kernel
theorem dX6_changeToTrial_67 : decode cX6_changeToTrial 67 = .ok (.getfield 36, 3) := by decide +kernel
theorem dX6_changeToTrial_70 : decode cX6_changeToTrial 70 = .ok (.getfield 178, 3) := by decide +kernel
theorem dX6_changeToTrial_73 : decode cX6_changeToTrial 73 = .ok (.ireturn, 1) := by decide +kernel
theorem dX6_unlikeLengthsWith_0 : decode cX6_unlikeLengthsWith 0 = .ok (.aload_n 0, 1) := by decide +kernel
end
section
theorem dX6_unlikeLengthsWith_1 : decode cX6_unlikeLengthsWith 1 = .ok (.getfield 43, 3) := by decide +kernel
theorem dX6_unlikeLengthsWith_4 : decode cX6_unlikeLengthsWith 4 = .ok (.aload_n 0, 1) := by decide +kernel
theorem dX6_unlikeLengthsWith_5 : decode cX6_unlikeLengthsWith 5 = .ok (.getfield 10, 3) := by decide +kernel
theorem dX6_unlikeLengthsWith_8 : decode cX6_unlikeLengthsWith 8 = .ok (.getfield 134, 3) := by decide +kernel
theorem dX6_unlikeLengthsWith_11 : decode cX6_unlikeLengthsWith 11 = .ok (.invokevirtual 282, 3) := by decide +kernel
theorem dX6_unlikeLengthsWith_14 : decode cX6_unlikeLengthsWith 14 = .ok (.aload_n 0, 1) := by decide +kernel
theorem dX6_unlikeLengthsWith_15 : decode cX6_unlikeLengthsWith 15 = .ok (.getfield 43, 3) := by decide +kernel
theorem dX6_unlikeLengthsWith_18 : decode cX6_unlikeLengthsWith 18 = .ok (.getfield 137, 3) := by decide +kernel
theorem dX6_unlikeLengthsWith_21 : decode cX6_unlikeLengthsWith 21 = .ok (.iconst 1, 1) := by decide +kernel
theorem dX6_unlikeLengthsWith_22 : decode cX6_unlikeLengthsWith 22 = .ok (.iload_n 1, 1) := by decide +kernel
theorem dX6_unlikeLengthsWith_23 : decode cX6_unlikeLengthsWith 23 = .ok (.iastore, 1) := by decide +kernel
theorem dX6_unlikeLengthsWith_24 : decode cX6_unlikeLengthsWith 24 = .ok (.iconst 0, 1) := by decide +kernel
theorem dX6_unlikeLengthsWith_25 : decode cX6_unlikeLengthsWith 25 = .ok (.istore_n 2, 1) := by decide +kernel
theorem dX6_unlikeLengthsWith_26 : decode cX6_unlikeLengthsWith 26 = .ok (.iconst 0, 1) := by decide +kernel
theorem dX6_unlikeLengthsWith_27 : decode cX6_unlikeLengthsWith 27 = .ok (.istore_n 3, 1) := by decide +kernel
theorem dX6_unlikeLengthsWith_28 : decode cX6_unlikeLengthsWith 28 = .ok (.iconst 0, 1) := by decide +kernel
theorem dX6_unlikeLengthsWith_29 : decode cX6_unlikeLengthsWith 29 = .ok (.istore 4, 2) := by decide +kernel
theorem dX6_unlikeLengthsWith_31 : decode cX6_unlikeLengthsWith 31 = .ok (.iload 4, 2) := by decide +kernel
theorem dX6_unlikeLengthsWith_33 : decode cX6_unlikeLengthsWith 33 = .ok (.iconst 4, 1) := by decide +kernel
theorem dX6_unlikeLengthsWith_34 : decode cX6_unlikeLengthsWith 34 = .ok (.if_icmp .ge 113, 3) := by decide +kernel
theorem dX6_unlikeLengthsWith_37 : decode cX6_unlikeLengthsWith 37 = .ok (.aload_n 0, 1) := by decide +kernel
theorem dX6_unlikeLengthsWith_38 : decode cX6_unlikeLengthsWith 38 = .ok (.getfield 36, 3) := by decide +kernel
theorem dX6_unlikeLengthsWith_41 : decode cX6_unlikeLengthsWith 41 = .ok (.aload_n 0, 1) := by decide +kernel
theorem dX6_unlikeLengthsWith_42 : decode cX6_unlikeLengthsWith 42 = .ok (.getfield 10, 3) := by decide +kernel
theorem dX6_unlikeLengthsWith_45 : decode cX6_unlikeLengthsWith 45 = .ok (.getfield 70, 3) := by decide +kernel
theorem dX6_unlikeLengthsWith_48 : decode cX6_unlikeLengthsWith 48 = .ok (.iload 4, 2) := by decide +kernel
theorem dX6_unlikeLengthsWith_50 : decode cX6_unlikeLengthsWith 50 = .ok (.aaload, 1) := by decide +kernel
theorem dX6_unlikeLengthsWith_51 : decode cX6_unlikeLengthsWith 51 = .ok (.invokevirtual 107, 3) := by decide +kernel
theorem dX6_unlikeLengthsWith_54 : decode cX6_unlikeLengthsWith 54 = .ok (.aload_n 0, 1) := by decide +kernel
theorem dX6_unlikeLengthsWith_55 : decode cX6_unlikeLengthsWith 55 = .ok (.getfield 36, 3) := by decide +kernel
theorem dX6_unlikeLengthsWith_58 : decode cX6_unlikeLengthsWith 58 = .ok (.aload_n 0, 1) := by decide +kernel
theorem dX6_unlikeLengthsWith_59 : decode cX6_unlikeLengthsWith 59 = .ok (.getfield 43, 3) := by decide +kernel
theorem dX6_unlikeLengthsWith_62 : decode cX6_unlikeLengthsWith 62 = .ok (.invokevirtual 268, 3) := by decide +kernel
theorem dX6_unlikeLengthsWith_65 : decode cX6_unlikeLengthsWith 65 = .ok (.iconst 0, 1) := by decide +kernel
theorem dX6_unlikeLengthsWith_66 : decode cX6_unlikeLengthsWith 66 = .ok (.istore 5, 2) := by decide +kernel
theorem dX6_unlikeLengthsWith_68 : decode cX6_unlikeLengthsWith 68 = .ok (.iload 5, 2) := by decide +kernel
theorem dX6_unlikeLengthsWith_70 : decode cX6_unlikeLengthsWith 70 = .ok (.aload_n 0, 1) := by decide +kernel
theorem dX6_unlikeLengthsWith_71 : decode cX6_unlikeLengthsWith 71 = .ok (.getfield 36, 3) := by decide +kernel
theorem dX6_unlikeLengthsWith_74 : decode cX6_unlikeLengthsWith 74 = .ok (.getfield 178, 3) := by decide +kernel
theorem dX6_unlikeLengthsWith_77 : decode cX6_unlikeLengthsWith 77 = .ok (.if_icmp .ge 64, 3) := by decide +kernel
theorem dX6_unlikeLengthsWith_80 : decode cX6_unlikeLengthsWith 80 = .ok (.aload_n 0, 1) := by decide +kernel
theorem dX6_unlikeLengthsWith_81 : decode cX6_unlikeLengthsWith 81 = .ok (.getfield 36, 3) := by decide +kernel
theorem dX6_unlikeLengthsWith_84 : decode cX6_unlikeLengthsWith 84 = .ok (.getfield 181, 3) := by decide +kernel
theorem dX6_unlikeLengthsWith_87 : decode cX6_unlikeLengthsWith 87 = .ok (.iload 5, 2) := by decide +kernel
theorem dX6_unlikeLengthsWith_89 : decode cX6_unlikeLengthsWith 89 = .ok (.laload, 1) := by decide +kernel
theorem dX6_unlikeLengthsWith_90 : decode cX6_unlikeLengthsWith 90 = .ok (.lstore 6, 2) := by decide +kernel
theorem dX6_unlikeLengthsWith_92 : decode cX6_unlikeLengthsWith 92 = .ok (.iload_n 2, 1) := by decide +kernel
theorem dX6_unlikeLengthsWith_93 : decode cX6_unlikeLengthsWith 93 = .ok (.aload_n 0, 1) := by decide +kernel
theorem dX6_unlikeLengthsWith_94 : decode cX6_unlikeLengthsWith 94 = .ok (.getfield 47, 3) := by decide +kernel
theorem dX6_unlikeLengthsWith_97 : decode cX6_unlikeLengthsWith 97 = .ok (.arraylength, 1) := by decide +kernel
theorem dX6_unlikeLengthsWith_98 : decode cX6_unlikeLengthsWith 98 = .ok (.if_icmp .ge 37, 3) := by decide +kernel
theorem dX6_unlikeLengthsWith_101 : decode cX6_unlikeLengthsWith 101 = .ok (.aload_n 0, 1) := by decide +kernel
theorem dX6_unlikeLengthsWith_102 : decode cX6_unlikeLengthsWith 102 = .ok (.lload 6, 2) := by decide +kernel
theorem dX6_unlikeLengthsWith_104 : decode cX6_unlikeLengthsWith 104 = .ok (.iload_n 2, 1) := by decide +kernel
theorem dX6_unlikeLengthsWith_105 : decode cX6_unlikeLengthsWith 105 = .ok (.invokevirtual 341, 3) := by decide +kernel
theorem dX6_unlikeLengthsWith_108 : decode cX6_unlikeLengthsWith 108 = .ok (.ifCond .ne 27, 3) := by decide +kernel
theorem dX6_unlikeLengthsWith_111 : decode cX6_unlikeLengthsWith 111 = .ok (.aload_n 0, 1) := by decide +kernel
theorem dX6_unlikeLengthsWith_112 : decode cX6_unlikeLengthsWith 112 = .ok (.getfield 47, 3) := by decide +kernel
theorem dX6_unlikeLengthsWith_115 : decode cX6_unlikeLengthsWith 115 = .ok (.iload_n 2, 1) := by decide +kernel
theorem dX6_unlikeLengthsWith_116 : decode cX6_unlikeLengthsWith 116 = .ok (.lload 6, 2) := by decide +kernel
theorem dX6_unlikeLengthsWith_118 : decode cX6_unlikeLengthsWith 118 = .ok (.lastore, 1) := by decide +kernel
theorem dX6_unlikeLengthsWith_119 : decode cX6_unlikeLengthsWith 119 = .ok (.iinc 2 1, 3) := by decide +kernel
theorem dX6_unlikeLengthsWith_122 : decode cX6_unlikeLengthsWith 122 = .ok (.iload_n 3, 1) := by decide +kernel
theorem dX6_unlikeLengthsWith_123 : decode cX6_unlikeLengthsWith 123 = .ok (.aload_n 0, 1) := by decide +kernel
theorem dX6_unlikeLengthsWith_124 : decode cX6_unlikeLengthsWith 124 = .ok (.getfield 36, 3) := by decide +kernel
theorem dX6_unlikeLengthsWith_127 : decode cX6_unlikeLengthsWith 127 = .ok (.getfield 191, 3) := by decide +kernel
theorem dX6_unlikeLengthsWith_130 : decode cX6_unlikeLengthsWith 130 = .ok (.iload 5, 2) := by decide +kernel
theorem dX6_unlikeLengthsWith_132 : decode cX6_unlikeLengthsWith 132 = .ok (.iaload, 1) := by decide +kernel
theorem dX6_unlikeLengthsWith_133 : decode cX6_unlikeLengthsWith 133 = .ok (.iadd, 1) := by decide +kernel
theorem dX6_unlikeLengthsWith_134 : decode cX6_unlikeLengthsWith 134 = .ok (.istore_n 3, 1) := by decide +kernel
theorem dX6_unlikeLengthsWith_135 : decode cX6_unlikeLengthsWith 135 = .ok (.iinc 5 1, 3) := by decide +kernel
theorem dX6_unlikeLengthsWith_138 : decode cX6_unlikeLengthsWith 138 = .ok (.goto (-70), 3) := by decide +kernel
theorem dX6_unlikeLengthsWith_141 : decode cX6_unlikeLengthsWith 141 = .ok (.iinc 4 1, 3) := by decide +kernel
theorem dX6_unlikeLengthsWith_144 : decode cX6_unlikeLengthsWith 144 = .ok (.goto (-113), 3) := by decide +kernel
theorem dX6_unlikeLengthsWith_147 : decode cX6_unlikeLengthsWith 147 = .ok (.iload_n 3, 1) := by decide +kernel
theorem dX6_unlikeLengthsWith_148 : decode cX6_unlikeLengthsWith 148 = .ok (.ireturn, 1) := by decide +kernel
theorem dX6_hasSeen_0 : decode cX6_hasSeen 0 = .ok (.iconst 0, 1) := by decide +kernel
theorem dX6_hasSeen_1 : decode cX6_hasSeen 1 = .ok (.istore 4, 2) := by decide +kernel
theorem dX6_hasSeen_3 : decode cX6_hasSeen 3 = .ok (.iload 4, 2) := by decide +kernel
theorem dX6_hasSeen_5 : decode cX6_hasSeen 5 = .ok (.iload_n 3, 1) := by decide +kernel
theorem dX6_hasSeen_6 : decode cX6_hasSeen 6 = .ok (.if_icmp .ge 23, 3) := by decide +kernel
theorem dX6_hasSeen_9 : decode cX6_hasSeen 9 = .ok (.aload_n 0, 1) := by decide +kernel
theorem dX6_hasSeen_10 : decode cX6_hasSeen 10 = .ok (.getfield 47, 3) := by decide +kernel
theorem dX6_hasSeen_13 : decode cX6_hasSeen 13 = .ok (.iload 4, 2) := by decide +kernel
theorem dX6_hasSeen_15 : decode cX6_hasSeen 15 = .ok (.laload, 1) := by decide +kernel
theorem dX6_hasSeen_16 : decode cX6_hasSeen 16 = .ok (.lload_n 1, 1) := by decide +kernel
theorem dX6_hasSeen_17 : decode cX6_hasSeen 17 = .ok (.lcmp, 1) := by decide +kernel
theorem dX6_hasSeen_18 : decode cX6_hasSeen 18 = .ok (.ifCond .ne 5, 3) := by decide +kernel
theorem dX6_hasSeen_21 : decode cX6_hasSeen 21 = .ok (.iconst 1, 1) := by decide +kernel
theorem dX6_hasSeen_22 : decode cX6_hasSeen 22 = .ok (.ireturn, 1) := by decide +kernel
theorem dX6_hasSeen_23 : decode cX6_hasSeen 23 = .ok (.iinc 4 1, 3) := by decide +kernel
theorem dX6_hasSeen_26 : decode cX6_hasSeen 26 = .ok (.goto (-23), 3) := by decide +kernel
theorem dX6_hasSeen_29 : decode cX6_hasSeen 29 = .ok (.iconst 0, 1) := by decide +kernel
theorem dX6_hasSeen_30 : decode cX6_hasSeen 30 = .ok (.ireturn, 1) := by decide +kernel
theorem dX6_mix_0 : decode cX6_mix 0 = .ok (.ldc2_w 345, 3) := by decide +kernel
theorem dX6_mix_3 : decode cX6_mix 3 = .ok (.lload_n 0, 1) := by decide +kernel
theorem dX6_mix_4 : decode cX6_mix 4 = .ok (.lmul, 1) := by decide +kernel
theorem dX6_mix_5 : decode cX6_mix 5 = .ok (.lload_n 2, 1) := by decide +kernel
theorem dX6_mix_6 : decode cX6_mix 6 = .ok (.ladd, 1) := by decide +kernel
theorem dX6_mix_7 : decode cX6_mix 7 = .ok (.lreturn, 1) := by decide +kernel
theorem dX6_mixText_0 : decode cX6_mixText 0 = .ok (.lload_n 1, 1) := by decide +kernel
theorem dX6_mixText_1 : decode cX6_mixText 1 = .ok (.lstore 4, 2) := by decide +kernel
theorem dX6_mixText_3 : decode cX6_mixText 3 = .ok (.iconst 0, 1) := by decide +kernel
theorem dX6_mixText_4 : decode cX6_mixText 4 = .ok (.istore 6, 2) := by decide +kernel
theorem dX6_mixText_6 : decode cX6_mixText 6 = .ok (.iload 6, 2) := by decide +kernel
theorem dX6_mixText_8 : decode cX6_mixText 8 = .ok (.iconst 5, 1) := by decide +kernel
theorem dX6_mixText_9 : decode cX6_mixText 9 = .ok (.if_icmp .gt 24, 3) := by decide +kernel
theorem dX6_mixText_12 : decode cX6_mixText 12 = .ok (.lload 4, 2) := by decide +kernel
theorem dX6_mixText_14 : decode cX6_mixText 14 = .ok (.aload_n 0, 1) := by decide +kernel
theorem dX6_mixText_15 : decode cX6_mixText 15 = .ok (.iload_n 3, 1) := by decide +kernel
theorem dX6_mixText_16 : decode cX6_mixText 16 = .ok (.iload 6, 2) := by decide +kernel
theorem dX6_mixText_18 : decode cX6_mixText 18 = .ok (.invokevirtual 347, 3) := by decide +kernel
theorem dX6_mixText_21 : decode cX6_mixText 21 = .ok (.i2l, 1) := by decide +kernel
theorem dX6_mixText_22 : decode cX6_mixText 22 = .ok (.invokestatic 293, 3) := by decide +kernel
theorem dX6_mixText_25 : decode cX6_mixText 25 = .ok (.lstore 4, 2) := by decide +kernel
theorem dX6_mixText_27 : decode cX6_mixText 27 = .ok (.iinc 6 1, 3) := by decide +kernel
theorem dX6_mixText_30 : decode cX6_mixText 30 = .ok (.goto (-24), 3) := by decide +kernel
theorem dX6_mixText_33 : decode cX6_mixText 33 = .ok (.aload_n 0, 1) := by decide +kernel
theorem dX6_mixText_34 : decode cX6_mixText 34 = .ok (.lload 4, 2) := by decide +kernel
theorem dX6_mixText_36 : decode cX6_mixText 36 = .ok (.iload_n 3, 1) := by decide +kernel
theorem dX6_mixText_37 : decode cX6_mixText 37 = .ok (.invokevirtual 351, 3) := by decide +kernel
theorem dX6_mixText_40 : decode cX6_mixText 40 = .ok (.lstore 4, 2) := by decide +kernel
theorem dX6_mixText_42 : decode cX6_mixText 42 = .ok (.aload_n 0, 1) := by decide +kernel
theorem dX6_mixText_43 : decode cX6_mixText 43 = .ok (.lload 4, 2) := by decide +kernel
theorem dX6_mixText_45 : decode cX6_mixText 45 = .ok (.iload_n 3, 1) := by decide +kernel
theorem dX6_mixText_46 : decode cX6_mixText 46 = .ok (.invokevirtual 354, 3) := by decide +kernel
theorem dX6_mixText_49 : decode cX6_mixText 49 = .ok (.lstore 4, 2) := by decide +kernel
theorem dX6_mixText_51 : decode cX6_mixText 51 = .ok (.iconst 0, 1) := by decide +kernel
theorem dX6_mixText_52 : decode cX6_mixText 52 = .ok (.istore 6, 2) := by decide +kernel
theorem dX6_mixText_54 : decode cX6_mixText 54 = .ok (.iload 6, 2) := by decide +kernel
theorem dX6_mixText_56 : decode cX6_mixText 56 = .ok (.iconst 2, 1) := by decide +kernel
theorem dX6_mixText_57 : decode cX6_mixText 57 = .ok (.if_icmp .gt 25, 3) := by decide +kernel
theorem dX6_mixText_60 : decode cX6_mixText 60 = .ok (.lload 4, 2) := by decide +kernel
theorem dX6_mixText_62 : decode cX6_mixText 62 = .ok (.aload_n 0, 1) := by decide +kernel
theorem dX6_mixText_63 : decode cX6_mixText 63 = .ok (.iload_n 3, 1) := by decide +kernel
theorem dX6_mixText_64 : decode cX6_mixText 64 = .ok (.iconst 0, 1) := by decide +kernel
theorem dX6_mixText_65 : decode cX6_mixText 65 = .ok (.iload 6, 2) := by decide +kernel
theorem dX6_mixText_67 : decode cX6_mixText 67 = .ok (.invokevirtual 357, 3) := by decide +kernel
theorem dX6_mixText_70 : decode cX6_mixText 70 = .ok (.i2l, 1) := by decide +kernel
theorem dX6_mixText_71 : decode cX6_mixText 71 = .ok (.invokestatic 293, 3) := by decide +kernel
theorem dX6_mixText_74 : decode cX6_mixText 74 = .ok (.lstore 4, 2) := by decide +kernel
theorem dX6_mixText_76 : decode cX6_mixText 76 = .ok (.iinc 6 1, 3) := by decide +kernel
theorem dX6_mixText_79 : decode cX6_mixText 79 = .ok (.goto (-25), 3) := by decide +kernel
theorem dX6_mixText_82 : decode cX6_mixText 82 = .ok (.iconst 0, 1) := by decide +kernel
theorem dX6_mixText_83 : decode cX6_mixText 83 = .ok (.istore 6, 2) := by decide +kernel
theorem dX6_mixText_85 : decode cX6_mixText 85 = .ok (.iload 6, 2) := by decide +kernel
theorem dX6_mixText_87 : decode cX6_mixText 87 = .ok (.iconst 3, 1) := by decide +kernel
theorem dX6_mixText_88 : decode cX6_mixText 88 = .ok (.if_icmp .gt 24, 3) := by decide +kernel
theorem dX6_mixText_91 : decode cX6_mixText 91 = .ok (.lload 4, 2) := by decide +kernel
theorem dX6_mixText_93 : decode cX6_mixText 93 = .ok (.aload_n 0, 1) := by decide +kernel
theorem dX6_mixText_94 : decode cX6_mixText 94 = .ok (.iload_n 3, 1) := by decide +kernel
theorem dX6_mixText_95 : decode cX6_mixText 95 = .ok (.iload 6, 2) := by decide +kernel
theorem dX6_mixText_97 : decode cX6_mixText 97 = .ok (.invokevirtual 361, 3) := by decide +kernel
theorem dX6_mixText_100 : decode cX6_mixText 100 = .ok (.i2l, 1) := by decide +kernel
theorem dX6_mixText_101 : decode cX6_mixText 101 = .ok (.invokestatic 293, 3) := by decide +kernel
theorem dX6_mixText_104 : decode cX6_mixText 104 = .ok (.lstore 4, 2) := by decide +kernel
theorem dX6_mixText_106 : decode cX6_mixText 106 = .ok (.iinc 6 1, 3) := by decide +kernel
theorem dX6_mixText_109 : decode cX6_mixText 109 = .ok (.goto (-24), 3) := by decide +kernel
theorem dX6_mixText_112 : decode cX6_mixText 112 = .ok (.lload 4, 2) := by decide +kernel
theorem dX6_mixText_114 : decode cX6_mixText 114 = .ok (.aload_n 0, 1) := by decide +kernel
theorem dX6_mixText_115 : decode cX6_mixText 115 = .ok (.iload_n 3, 1) := by decide +kernel
theorem dX6_mixText_116 : decode cX6_mixText 116 = .ok (.iconst 1, 1) := by decide +kernel
theorem dX6_mixText_117 : decode cX6_mixText 117 = .ok (.iconst 2, 1) := by decide +kernel
theorem dX6_mixText_118 : decode cX6_mixText 118 = .ok (.invokevirtual 364, 3) := by decide +kernel
theorem dX6_mixText_121 : decode cX6_mixText 121 = .ok (.i2l, 1) := by decide +kernel
theorem dX6_mixText_122 : decode cX6_mixText 122 = .ok (.invokestatic 293, 3) := by decide +kernel
theorem dX6_mixText_125 : decode cX6_mixText 125 = .ok (.lreturn, 1) := by decide +kernel
theorem dX6_mixSigns_0 : decode cX6_mixSigns 0 = .ok (.lload_n 1, 1) := by decide +kernel
theorem dX6_mixSigns_1 : decode cX6_mixSigns 1 = .ok (.lstore 4, 2) := by decide +kernel
theorem dX6_mixSigns_3 : decode cX6_mixSigns 3 = .ok (.aload_n 0, 1) := by decide +kernel
theorem dX6_mixSigns_4 : decode cX6_mixSigns 4 = .ok (.getfield 10, 3) := by decide +kernel
theorem dX6_mixSigns_7 : decode cX6_mixSigns 7 = .ok (.getfield 70, 3) := by decide +kernel
theorem dX6_mixSigns_10 : decode cX6_mixSigns 10 = .ok (.iload_n 3, 1) := by decide +kernel
theorem dX6_mixSigns_11 : decode cX6_mixSigns 11 = .ok (.aaload, 1) := by decide +kernel
theorem dX6_mixSigns_12 : decode cX6_mixSigns 12 = .ok (.getfield 74, 3) := by decide +kernel
theorem dX6_mixSigns_15 : decode cX6_mixSigns 15 = .ok (.istore 6, 2) := by decide +kernel
theorem dX6_mixSigns_17 : decode cX6_mixSigns 17 = .ok (.iconst 0, 1) := by decide +kernel
theorem dX6_mixSigns_18 : decode cX6_mixSigns 18 = .ok (.istore 7, 2) := by decide +kernel
theorem dX6_mixSigns_20 : decode cX6_mixSigns 20 = .ok (.iload 7, 2) := by decide +kernel
theorem dX6_mixSigns_22 : decode cX6_mixSigns 22 = .ok (.iload 6, 2) := by decide +kernel
theorem dX6_mixSigns_24 : decode cX6_mixSigns 24 = .ok (.if_icmp .ge 41, 3) := by decide +kernel
theorem dX6_mixSigns_27 : decode cX6_mixSigns 27 = .ok (.iconst 0, 1) := by decide +kernel
theorem dX6_mixSigns_28 : decode cX6_mixSigns 28 = .ok (.istore 8, 2) := by decide +kernel
theorem dX6_mixSigns_30 : decode cX6_mixSigns 30 = .ok (.iload 8, 2) := by decide +kernel
theorem dX6_mixSigns_32 : decode cX6_mixSigns 32 = .ok (.iconst 3, 1) := by decide +kernel
theorem dX6_mixSigns_33 : decode cX6_mixSigns 33 = .ok (.if_icmp .gt 26, 3) := by decide +kernel
theorem dX6_mixSigns_36 : decode cX6_mixSigns 36 = .ok (.lload 4, 2) := by decide +kernel
theorem dX6_mixSigns_38 : decode cX6_mixSigns 38 = .ok (.aload_n 0, 1) := by decide +kernel
theorem dX6_mixSigns_39 : decode cX6_mixSigns 39 = .ok (.iload_n 3, 1) := by decide +kernel
theorem dX6_mixSigns_40 : decode cX6_mixSigns 40 = .ok (.iload 7, 2) := by decide +kernel
theorem dX6_mixSigns_42 : decode cX6_mixSigns 42 = .ok (.iload 8, 2) := by decide +kernel
theorem dX6_mixSigns_44 : decode cX6_mixSigns 44 = .ok (.invokevirtual 367, 3) := by decide +kernel
theorem dX6_mixSigns_47 : decode cX6_mixSigns 47 = .ok (.i2l, 1) := by decide +kernel
theorem dX6_mixSigns_48 : decode cX6_mixSigns 48 = .ok (.invokestatic 293, 3) := by decide +kernel
theorem dX6_mixSigns_51 : decode cX6_mixSigns 51 = .ok (.lstore 4, 2) := by decide +kernel
theorem dX6_mixSigns_53 : decode cX6_mixSigns 53 = .ok (.iinc 8 1, 3) := by decide +kernel
theorem dX6_mixSigns_56 : decode cX6_mixSigns 56 = .ok (.goto (-26), 3) := by decide +kernel
theorem dX6_mixSigns_59 : decode cX6_mixSigns 59 = .ok (.iinc 7 1, 3) := by decide +kernel
theorem dX6_mixSigns_62 : decode cX6_mixSigns 62 = .ok (.goto (-42), 3) := by decide +kernel
theorem dX6_mixSigns_65 : decode cX6_mixSigns 65 = .ok (.lload 4, 2) := by decide +kernel
theorem dX6_mixSigns_67 : decode cX6_mixSigns 67 = .ok (.lreturn, 1) := by decide +kernel
theorem dX6_mixPieces_0 : decode cX6_mixPieces 0 = .ok (.lload_n 1, 1) := by decide +kernel
theorem dX6_mixPieces_1 : decode cX6_mixPieces 1 = .ok (.lstore 4, 2) := by decide +kernel
theorem dX6_mixPieces_3 : decode cX6_mixPieces 3 = .ok (.aload_n 0, 1) := by decide +kernel
theorem dX6_mixPieces_4 : decode cX6_mixPieces 4 = .ok (.getfield 10, 3) := by decide +kernel
theorem dX6_mixPieces_7 : decode cX6_mixPieces 7 = .ok (.getfield 70, 3) := by decide +kernel
theorem dX6_mixPieces_10 : decode cX6_mixPieces 10 = .ok (.iload_n 3, 1) := by decide +kernel
theorem dX6_mixPieces_11 : decode cX6_mixPieces 11 = .ok (.aaload, 1) := by decide +kernel
theorem dX6_mixPieces_12 : decode cX6_mixPieces 12 = .ok (.getfield 178, 3) := by decide +kernel
theorem dX6_mixPieces_15 : decode cX6_mixPieces 15 = .ok (.istore 6, 2) := by decide +kernel
theorem dX6_mixPieces_17 : decode cX6_mixPieces 17 = .ok (.iconst 0, 1) := by decide +kernel
theorem dX6_mixPieces_18 : decode cX6_mixPieces 18 = .ok (.istore 7, 2) := by decide +kernel
theorem dX6_mixPieces_20 : decode cX6_mixPieces 20 = .ok (.iload 7, 2) := by decide +kernel
theorem dX6_mixPieces_22 : decode cX6_mixPieces 22 = .ok (.iload 6, 2) := by decide +kernel
theorem dX6_mixPieces_24 : decode cX6_mixPieces 24 = .ok (.if_icmp .ge 41, 3) := by decide +kernel
theorem dX6_mixPieces_27 : decode cX6_mixPieces 27 = .ok (.iconst 0, 1) := by decide +kernel
theorem dX6_mixPieces_28 : decode cX6_mixPieces 28 = .ok (.istore 8, 2) := by decide +kernel
theorem dX6_mixPieces_30 : decode cX6_mixPieces 30 = .ok (.iload 8, 2) := by decide +kernel
theorem dX6_mixPieces_32 : decode cX6_mixPieces 32 = .ok (.iconst 4, 1) := by decide +kernel
theorem dX6_mixPieces_33 : decode cX6_mixPieces 33 = .ok (.if_icmp .gt 26, 3) := by decide +kernel
theorem dX6_mixPieces_36 : decode cX6_mixPieces 36 = .ok (.lload 4, 2) := by decide +kernel
theorem dX6_mixPieces_38 : decode cX6_mixPieces 38 = .ok (.aload_n 0, 1) := by decide +kernel
theorem dX6_mixPieces_39 : decode cX6_mixPieces 39 = .ok (.iload_n 3, 1) := by decide +kernel
theorem dX6_mixPieces_40 : decode cX6_mixPieces 40 = .ok (.iload 7, 2) := by decide +kernel
theorem dX6_mixPieces_42 : decode cX6_mixPieces 42 = .ok (.iload 8, 2) := by decide +kernel
theorem dX6_mixPieces_44 : decode cX6_mixPieces 44 = .ok (.invokevirtual 370, 3) := by decide +kernel
theorem dX6_mixPieces_47 : decode cX6_mixPieces 47 = .ok (.i2l, 1) := by decide +kernel
theorem dX6_mixPieces_48 : decode cX6_mixPieces 48 = .ok (.invokestatic 293, 3) := by decide +kernel
theorem dX6_mixPieces_51 : decode cX6_mixPieces 51 = .ok (.lstore 4, 2) := by decide +kernel
theorem dX6_mixPieces_53 : decode cX6_mixPieces 53 = .ok (.iinc 8 1, 3) := by decide +kernel
theorem dX6_mixPieces_56 : decode cX6_mixPieces 56 = .ok (.goto (-26), 3) := by decide +kernel
theorem dX6_mixPieces_59 : decode cX6_mixPieces 59 = .ok (.iinc 7 1, 3) := by decide +kernel
theorem dX6_mixPieces_62 : decode cX6_mixPieces 62 = .ok (.goto (-42), 3) := by decide +kernel
theorem dX6_mixPieces_65 : decode cX6_mixPieces 65 = .ok (.lload 4, 2) := by decide +kernel
theorem dX6_mixPieces_67 : decode cX6_mixPieces 67 = .ok (.lreturn, 1) := by decide +kernel
theorem dX6_mixSlot_0 : decode cX6_mixSlot 0 = .ok (.aload_n 0, 1) := by decide +kernel
theorem dX6_mixSlot_1 : decode cX6_mixSlot 1 = .ok (.getfield 10, 3) := by decide +kernel
theorem dX6_mixSlot_4 : decode cX6_mixSlot 4 = .ok (.getfield 114, 3) := by decide +kernel
theorem dX6_mixSlot_7 : decode cX6_mixSlot 7 = .ok (.iload_n 3, 1) := by decide +kernel
theorem dX6_mixSlot_8 : decode cX6_mixSlot 8 = .ok (.invokevirtual 207, 3) := by decide +kernel
theorem dX6_mixSlot_11 : decode cX6_mixSlot 11 = .ok (.ifCond .eq 5, 3) := by decide +kernel
theorem dX6_mixSlot_14 : decode cX6_mixSlot 14 = .ok (.lload_n 1, 1) := by decide +kernel
theorem dX6_mixSlot_15 : decode cX6_mixSlot 15 = .ok (.lreturn, 1) := by decide +kernel
theorem dX6_mixSlot_16 : decode cX6_mixSlot 16 = .ok (.lload_n 1, 1) := by decide +kernel
theorem dX6_mixSlot_17 : decode cX6_mixSlot 17 = .ok (.iload_n 3, 1) := by decide +kernel
theorem dX6_mixSlot_18 : decode cX6_mixSlot 18 = .ok (.i2l, 1) := by decide +kernel
theorem dX6_mixSlot_19 : decode cX6_mixSlot 19 = .ok (.invokestatic 293, 3) := by decide +kernel
theorem dX6_mixSlot_22 : decode cX6_mixSlot 22 = .ok (.lstore 4, 2) := by decide +kernel
theorem dX6_mixSlot_24 : decode cX6_mixSlot 24 = .ok (.iconst 0, 1) := by decide +kernel
theorem dX6_mixSlot_25 : decode cX6_mixSlot 25 = .ok (.istore 6, 2) := by decide +kernel
theorem dX6_mixSlot_27 : decode cX6_mixSlot 27 = .ok (.iload 6, 2) := by decide +kernel
theorem dX6_mixSlot_29 : decode cX6_mixSlot 29 = .ok (.iconst 4, 1) := by decide +kernel
theorem dX6_mixSlot_30 : decode cX6_mixSlot 30 = .ok (.if_icmp .gt 24, 3) := by decide +kernel
theorem dX6_mixSlot_33 : decode cX6_mixSlot 33 = .ok (.lload 4, 2) := by decide +kernel
theorem dX6_mixSlot_35 : decode cX6_mixSlot 35 = .ok (.aload_n 0, 1) := by decide +kernel
theorem dX6_mixSlot_36 : decode cX6_mixSlot 36 = .ok (.iload_n 3, 1) := by decide +kernel
theorem dX6_mixSlot_37 : decode cX6_mixSlot 37 = .ok (.iload 6, 2) := by decide +kernel
theorem dX6_mixSlot_39 : decode cX6_mixSlot 39 = .ok (.invokevirtual 373, 3) := by decide +kernel
theorem dX6_mixSlot_42 : decode cX6_mixSlot 42 = .ok (.i2l, 1) := by decide +kernel
theorem dX6_mixSlot_43 : decode cX6_mixSlot 43 = .ok (.invokestatic 293, 3) := by decide +kernel
theorem dX6_mixSlot_46 : decode cX6_mixSlot 46 = .ok (.lstore 4, 2) := by decide +kernel
theorem dX6_mixSlot_48 : decode cX6_mixSlot 48 = .ok (.iinc 6 1, 3) := by decide +kernel
theorem dX6_mixSlot_51 : decode cX6_mixSlot 51 = .ok (.goto (-24), 3) := by decide +kernel
theorem dX6_mixSlot_54 : decode cX6_mixSlot 54 = .ok (.lload 4, 2) := by decide +kernel
theorem dX6_mixSlot_56 : decode cX6_mixSlot 56 = .ok (.lreturn, 1) := by decide +kernel
theorem dX6_bitsOfShare_0 : decode cX6_bitsOfShare 0 = .ok (.dload_n 0, 1) := by decide +kernel
theorem dX6_bitsOfShare_1 : decode cX6_bitsOfShare 1 = .ok (.dconst 0, 1) := by decide +kernel
theorem dX6_bitsOfShare_2 : decode cX6_bitsOfShare 2 = .ok (.dcmp .l, 1) := by decide +kernel
theorem dX6_bitsOfShare_3 : decode cX6_bitsOfShare 3 = .ok (.ifCond .gt 5, 3) := by decide +kernel
theorem dX6_bitsOfShare_6 : decode cX6_bitsOfShare 6 = .ok (.lconst 0, 1) := by decide +kernel
theorem dX6_bitsOfShare_7 : decode cX6_bitsOfShare 7 = .ok (.lreturn, 1) := by decide +kernel
theorem dX6_bitsOfShare_8 : decode cX6_bitsOfShare 8 = .ok (.dload_n 0, 1) := by decide +kernel
theorem dX6_bitsOfShare_9 : decode cX6_bitsOfShare 9 = .ok (.dstore_n 2, 1) := by decide +kernel
theorem dX6_bitsOfShare_10 : decode cX6_bitsOfShare 10 = .ok (.ldc2_w 376, 3) := by decide +kernel
theorem dX6_bitsOfShare_13 : decode cX6_bitsOfShare 13 = .ok (.lstore 4, 2) := by decide +kernel
theorem dX6_bitsOfShare_15 : decode cX6_bitsOfShare 15 = .ok (.dload_n 2, 1) := by decide +kernel
theorem dX6_bitsOfShare_16 : decode cX6_bitsOfShare 16 = .ok (.dconst 1, 1) := by decide +kernel
theorem dX6_bitsOfShare_17 : decode cX6_bitsOfShare 17 = .ok (.dcmp .g, 1) := by decide +kernel
theorem dX6_bitsOfShare_18 : decode cX6_bitsOfShare 18 = .ok (.ifCond .ge 25, 3) := by decide +kernel
theorem dX6_bitsOfShare_21 : decode cX6_bitsOfShare 21 = .ok (.lload 4, 2) := by decide +kernel
theorem dX6_bitsOfShare_23 : decode cX6_bitsOfShare 23 = .ok (.lconst 1, 1) := by decide +kernel
theorem dX6_bitsOfShare_24 : decode cX6_bitsOfShare 24 = .ok (.lcmp, 1) := by decide +kernel
theorem dX6_bitsOfShare_25 : decode cX6_bitsOfShare 25 = .ok (.ifCond .le 18, 3) := by decide +kernel
theorem dX6_bitsOfShare_28 : decode cX6_bitsOfShare 28 = .ok (.dload_n 2, 1) := by decide +kernel
theorem dX6_bitsOfShare_29 : decode cX6_bitsOfShare 29 = .ok (.ldc2_w 378, 3) := by decide +kernel
theorem dX6_bitsOfShare_32 : decode cX6_bitsOfShare 32 = .ok (.dmul, 1) := by decide +kernel
theorem dX6_bitsOfShare_33 : decode cX6_bitsOfShare 33 = .ok (.dstore_n 2, 1) := by decide +kernel
theorem dX6_bitsOfShare_34 : decode cX6_bitsOfShare 34 = .ok (.lload 4, 2) := by decide +kernel
theorem dX6_bitsOfShare_36 : decode cX6_bitsOfShare 36 = .ok (.lconst 1, 1) := by decide +kernel
theorem dX6_bitsOfShare_37 : decode cX6_bitsOfShare 37 = .ok (.lsub, 1) := by decide +kernel
theorem dX6_bitsOfShare_38 : decode cX6_bitsOfShare 38 = .ok (.lstore 4, 2) := by decide +kernel
theorem dX6_bitsOfShare_40 : decode cX6_bitsOfShare 40 = .ok (.goto (-25), 3) := by decide +kernel
theorem dX6_bitsOfShare_43 : decode cX6_bitsOfShare 43 = .ok (.lload 4, 2) := by decide +kernel
theorem dX6_bitsOfShare_45 : decode cX6_bitsOfShare 45 = .ok (.bipush 52, 2) := by decide +kernel
theorem dX6_bitsOfShare_47 : decode cX6_bitsOfShare 47 = .ok (.lshl, 1) := by decide +kernel
theorem dX6_bitsOfShare_48 : decode cX6_bitsOfShare 48 = .ok (.dload_n 2, 1) := by decide +kernel
theorem dX6_bitsOfShare_49 : decode cX6_bitsOfShare 49 = .ok (.dconst 1, 1) := by decide +kernel
theorem dX6_bitsOfShare_50 : decode cX6_bitsOfShare 50 = .ok (.dsub, 1) := by decide +kernel
theorem dX6_bitsOfShare_51 : decode cX6_bitsOfShare 51 = .ok (.ldc2_w 380, 3) := by decide +kernel
theorem dX6_bitsOfShare_54 : decode cX6_bitsOfShare 54 = .ok (.dmul, 1) := by decide +kernel
theorem dX6_bitsOfShare_55 : decode cX6_bitsOfShare 55 = .ok (.d2l, 1) := by decide +kernel
theorem dX6_bitsOfShare_56 : decode cX6_bitsOfShare 56 = .ok (.lor, 1) := by decide +kernel
theorem dX6_bitsOfShare_57 : decode cX6_bitsOfShare 57 = .ok (.lreturn, 1) := by decide +kernel
theorem dX7_init_0 : decode cX7_init 0 = .ok (.aload_n 0, 1) := by decide +kernel
theorem dX7_init_1 : decode cX7_init 1 = .ok (.invokespecial 1, 3) := by decide +kernel
theorem dX7_init_4 : decode cX7_init 4 = .ok (.aload_n 0, 1) := by decide +kernel
theorem dX7_init_5 : decode cX7_init 5 = .ok (.sipush 611, 3) := by decide +kernel
theorem dX7_init_8 : decode cX7_init 8 = .ok (.newarray .int, 2) := by decide +kernel
theorem dX7_init_10 : decode cX7_init 10 = .ok (.putfield 7, 3) := by decide +kernel
theorem dX7_init_13 : decode cX7_init 13 = .ok (.aload_n 0, 1) := by decide +kernel
theorem dX7_init_14 : decode cX7_init 14 = .ok (.bipush 60, 2) := by decide +kernel
theorem dX7_init_16 : decode cX7_init 16 = .ok (.newarray .long, 2) := by decide +kernel
theorem dX7_init_18 : decode cX7_init 18 = .ok (.putfield 13, 3) := by decide +kernel
theorem dX7_init_21 : decode cX7_init 21 = .ok (.aload_n 0, 1) := by decide +kernel
theorem dX7_init_22 : decode cX7_init 22 = .ok (.sipush 3666, 3) := by decide +kernel
theorem dX7_init_25 : decode cX7_init 25 = .ok (.newarray .int, 2) := by decide +kernel
theorem dX7_init_27 : decode cX7_init 27 = .ok (.putfield 17, 3) := by decide +kernel
theorem dX7_init_30 : decode cX7_init 30 = .ok (.aload_n 0, 1) := by decide +kernel
theorem dX7_init_31 : decode cX7_init 31 = .ok (.sipush 360, 3) := by decide +kernel
theorem dX7_init_34 : decode cX7_init 34 = .ok (.newarray .long, 2) := by decide +kernel
theorem dX7_init_36 : decode cX7_init 36 = .ok (.putfield 20, 3) := by decide +kernel
theorem dX7_init_39 : decode cX7_init 39 = .ok (.aload_n 0, 1) := by decide +kernel
theorem dX7_init_40 : decode cX7_init 40 = .ok (.bipush 60, 2) := by decide +kernel
theorem dX7_init_42 : decode cX7_init 42 = .ok (.newarray .int, 2) := by decide +kernel
theorem dX7_init_44 : decode cX7_init 44 = .ok (.putfield 23, 3) := by decide +kernel
theorem dX7_init_47 : decode cX7_init 47 = .ok (.aload_n 0, 1) := by decide +kernel
theorem dX7_init_48 : decode cX7_init 48 = .ok (.bipush 80, 2) := by decide +kernel
theorem dX7_init_50 : decode cX7_init 50 = .ok (.newarray .int, 2) := by decide +kernel
theorem dX7_init_52 : decode cX7_init 52 = .ok (.putfield 26, 3) := by decide +kernel
theorem dX7_init_55 : decode cX7_init 55 = .ok (.aload_n 0, 1) := by decide +kernel
theorem dX7_init_56 : decode cX7_init 56 = .ok (.bipush 40, 2) := by decide +kernel
theorem dX7_init_58 : decode cX7_init 58 = .ok (.newarray .long, 2) := by decide +kernel
theorem dX7_init_60 : decode cX7_init 60 = .ok (.putfield 29, 3) := by decide +kernel
theorem dX7_init_63 : decode cX7_init 63 = .ok (.aload_n 0, 1) := by decide +kernel
theorem dX7_init_64 : decode cX7_init 64 = .ok (.bipush 40, 2) := by decide +kernel
theorem dX7_init_66 : decode cX7_init 66 = .ok (.newarray .int, 2) := by decide +kernel
theorem dX7_init_68 : decode cX7_init 68 = .ok (.putfield 32, 3) := by decide +kernel
theorem dX7_init_71 : decode cX7_init 71 = .ok (.aload_n 0, 1) := by decide +kernel
theorem dX7_init_72 : decode cX7_init 72 = .ok (.bipush 40, 2) := by decide +kernel
theorem dX7_init_74 : decode cX7_init 74 = .ok (.newarray .int, 2) := by decide +kernel
theorem dX7_init_76 : decode cX7_init 76 = .ok (.putfield 35, 3) := by decide +kernel
theorem dX7_init_79 : decode cX7_init 79 = .ok (.aload_n 0, 1) := by decide +kernel
theorem dX7_init_80 : decode cX7_init 80 = .ok (.bipush 40, 2) := by decide +kernel
theorem dX7_init_82 : decode cX7_init 82 = .ok (.newarray .int, 2) := by decide +kernel
theorem dX7_init_84 : decode cX7_init 84 = .ok (.putfield 38, 3) := by decide +kernel
theorem dX7_init_87 : decode cX7_init 87 = .ok (.aload_n 0, 1) := by decide +kernel
theorem dX7_init_88 : decode cX7_init 88 = .ok (.sipush 160, 3) := by decide +kernel
theorem dX7_init_91 : decode cX7_init 91 = .ok (.newarray .long, 2) := by decide +kernel
theorem dX7_init_93 : decode cX7_init 93 = .ok (.putfield 41, 3) := by decide +kernel
theorem dX7_init_96 : decode cX7_init 96 = .ok (.aload_n 0, 1) := by decide +kernel
theorem dX7_init_97 : decode cX7_init 97 = .ok (.sipush 160, 3) := by decide +kernel
theorem dX7_init_100 : decode cX7_init 100 = .ok (.newarray .int, 2) := by decide +kernel
theorem dX7_init_102 : decode cX7_init 102 = .ok (.putfield 44, 3) := by decide +kernel
theorem dX7_init_105 : decode cX7_init 105 = .ok (.aload_n 0, 1) := by decide +kernel
theorem dX7_init_106 : decode cX7_init 106 = .ok (.getfield 7, 3) := by decide +kernel
theorem dX7_init_109 : decode cX7_init 109 = .ok (.iconst 0, 1) := by decide +kernel
theorem dX7_init_110 : decode cX7_init 110 = .ok (.iconst 3, 1) := by decide +kernel
theorem dX7_init_111 : decode cX7_init 111 = .ok (.iastore, 1) := by decide +kernel
theorem dX7_init_112 : decode cX7_init 112 = .ok (.aload_n 0, 1) := by decide +kernel
theorem dX7_init_113 : decode cX7_init 113 = .ok (.getfield 7, 3) := by decide +kernel
theorem dX7_init_116 : decode cX7_init 116 = .ok (.iconst 1, 1) := by decide +kernel
theorem dX7_init_117 : decode cX7_init 117 = .ok (.iconst 4, 1) := by decide +kernel
theorem dX7_init_118 : decode cX7_init 118 = .ok (.iastore, 1) := by decide +kernel
theorem dX7_init_119 : decode cX7_init 119 = .ok (.aload_n 0, 1) := by decide +kernel
theorem dX7_init_120 : decode cX7_init 120 = .ok (.getfield 7, 3) := by decide +kernel
theorem dX7_init_123 : decode cX7_init 123 = .ok (.iconst 3, 1) := by decide +kernel
theorem dX7_init_124 : decode cX7_init 124 = .ok (.iconst 2, 1) := by decide +kernel
theorem dX7_init_125 : decode cX7_init 125 = .ok (.iastore, 1) := by decide +kernel
theorem dX7_init_126 : decode cX7_init 126 = .ok (.aload_n 0, 1) := by decide +kernel
theorem dX7_init_127 : decode cX7_init 127 = .ok (.getfield 7, 3) := by decide +kernel
theorem dX7_init_130 : decode cX7_init 130 = .ok (.iconst 4, 1) := by decide +kernel
theorem dX7_init_131 : decode cX7_init 131 = .ok (.bipush 10, 2) := by decide +kernel
theorem dX7_init_133 : decode cX7_init 133 = .ok (.iastore, 1) := by decide +kernel
theorem dX7_init_134 : decode cX7_init 134 = .ok (.return_, 1) := by decide +kernel
theorem dX7_thrown_0 : decode cX7_thrown 0 = .ok (.aload_n 0, 1) := by decide +kernel
theorem dX7_thrown_1 : decode cX7_thrown 1 = .ok (.getfield 47, 3) := by decide +kernel
theorem dX7_thrown_4 : decode cX7_thrown 4 = .ok (.ireturn, 1) := by decide +kernel
theorem dX7_within_0 : decode cX7_within 0 = .ok (.iload_n 0, 1) := by decide +kernel
theorem dX7_within_1 : decode cX7_within 1 = .ok (.iload_n 1, 1) := by decide +kernel
theorem dX7_within_2 : decode cX7_within 2 = .ok (.if_icmp .lt 12, 3) := by decide +kernel
theorem dX7_within_5 : decode cX7_within 5 = .ok (.iload_n 0, 1) := by decide +kernel
theorem dX7_within_6 : decode cX7_within 6 = .ok (.iload_n 2, 1) := by decide +kernel
theorem dX7_within_7 : decode cX7_within 7 = .ok (.if_icmp .gt 7, 3) := by decide +kernel
theorem dX7_within_10 : decode cX7_within 10 = .ok (.iconst 1, 1) := by decide +kernel
theorem dX7_within_11 : decode cX7_within 11 = .ok (.goto 4, 3) := by decide +kernel
theorem dX7_within_14 : decode cX7_within 14 = .ok (.iconst 0, 1) := by decide +kernel
theorem dX7_within_15 : decode cX7_within 15 = .ok (.ireturn, 1) := by decide +kernel
theorem dX7_save_0 : decode cX7_save 0 = .ok (.aload_n 0, 1) := by decide +kernel
theorem dX7_save_1 : decode cX7_save 1 = .ok (.getfield 51, 3) := by decide +kernel
theorem dX7_save_4 : decode cX7_save 4 = .ok (.bipush 6, 2) := by decide +kernel
theorem dX7_save_6 : decode cX7_save 6 = .ok (.if_icmp .ne 77, 3) := by decide +kernel
theorem dX7_save_9 : decode cX7_save 9 = .ok (.sipush 611, 3) := by decide +kernel
theorem dX7_save_12 : decode cX7_save 12 = .ok (.istore_n 1, 1) := by decide +kernel
theorem dX7_save_13 : decode cX7_save 13 = .ok (.iload_n 1, 1) := by decide +kernel
theorem dX7_save_14 : decode cX7_save 14 = .ok (.sipush 3666, 3) := by decide +kernel
theorem dX7_save_17 : decode cX7_save 17 = .ok (.if_icmp .ge 25, 3) := by decide +kernel
theorem dX7_save_20 : decode cX7_save 20 = .ok (.aload_n 0, 1) := by decide +kernel
theorem dX7_save_21 : decode cX7_save 21 = .ok (.getfield 17, 3) := by decide +kernel
theorem dX7_save_24 : decode cX7_save 24 = .ok (.iload_n 1, 1) := by decide +kernel
theorem dX7_save_25 : decode cX7_save 25 = .ok (.sipush 611, 3) := by decide +kernel
theorem dX7_save_28 : decode cX7_save 28 = .ok (.isub, 1) := by decide +kernel
theorem dX7_save_29 : decode cX7_save 29 = .ok (.aload_n 0, 1) := by decide +kernel
theorem dX7_save_30 : decode cX7_save 30 = .ok (.getfield 17, 3) := by decide +kernel
theorem dX7_save_33 : decode cX7_save 33 = .ok (.iload_n 1, 1) := by decide +kernel
theorem dX7_save_34 : decode cX7_save 34 = .ok (.iaload, 1) := by decide +kernel
theorem dX7_save_35 : decode cX7_save 35 = .ok (.iastore, 1) := by decide +kernel
theorem dX7_save_36 : decode cX7_save 36 = .ok (.iinc 1 1, 3) := by decide +kernel
theorem dX7_save_39 : decode cX7_save 39 = .ok (.goto (-26), 3) := by decide +kernel
theorem dX7_save_42 : decode cX7_save 42 = .ok (.bipush 60, 2) := by decide +kernel
theorem dX7_save_44 : decode cX7_save 44 = .ok (.istore_n 1, 1) := by decide +kernel
theorem dX7_save_45 : decode cX7_save 45 = .ok (.iload_n 1, 1) := by decide +kernel
theorem dX7_save_46 : decode cX7_save 46 = .ok (.sipush 360, 3) := by decide +kernel
theorem dX7_save_49 : decode cX7_save 49 = .ok (.if_icmp .ge 24, 3) := by decide +kernel
theorem dX7_save_52 : decode cX7_save 52 = .ok (.aload_n 0, 1) := by decide +kernel
theorem dX7_save_53 : decode cX7_save 53 = .ok (.getfield 20, 3) := by decide +kernel
theorem dX7_save_56 : decode cX7_save 56 = .ok (.iload_n 1, 1) := by decide +kernel
theorem dX7_save_57 : decode cX7_save 57 = .ok (.bipush 60, 2) := by decide +kernel
theorem dX7_save_59 : decode cX7_save 59 = .ok (.isub, 1) := by decide +kernel
theorem dX7_save_60 : decode cX7_save 60 = .ok (.aload_n 0, 1) := by decide +kernel
theorem dX7_save_61 : decode cX7_save 61 = .ok (.getfield 20, 3) := by decide +kernel
theorem dX7_save_64 : decode cX7_save 64 = .ok (.iload_n 1, 1) := by decide +kernel
theorem dX7_save_65 : decode cX7_save 65 = .ok (.laload, 1) := by decide +kernel
theorem dX7_save_66 : decode cX7_save 66 = .ok (.lastore, 1) := by decide +kernel
theorem dX7_save_67 : decode cX7_save 67 = .ok (.iinc 1 1, 3) := by decide +kernel
theorem dX7_save_70 : decode cX7_save 70 = .ok (.goto (-25), 3) := by decide +kernel
theorem dX7_save_73 : decode cX7_save 73 = .ok (.aload_n 0, 1) := by decide +kernel
theorem dX7_save_74 : decode cX7_save 74 = .ok (.dup, 1) := by decide +kernel
theorem dX7_save_75 : decode cX7_save 75 = .ok (.getfield 51, 3) := by decide +kernel
theorem dX7_save_78 : decode cX7_save 78 = .ok (.iconst 1, 1) := by decide +kernel
theorem dX7_save_79 : decode cX7_save 79 = .ok (.isub, 1) := by decide +kernel
theorem dX7_save_80 : decode cX7_save 80 = .ok (.putfield 51, 3) := by decide +kernel
theorem dX7_save_83 : decode cX7_save 83 = .ok (.iconst 0, 1) := by decide +kernel
theorem dX7_save_84 : decode cX7_save 84 = .ok (.istore_n 1, 1) := by decide +kernel
theorem dX7_save_85 : decode cX7_save 85 = .ok (.iload_n 1, 1) := by decide +kernel
theorem dX7_save_86 : decode cX7_save 86 = .ok (.sipush 611, 3) := by decide +kernel
theorem dX7_save_89 : decode cX7_save 89 = .ok (.if_icmp .ge 30, 3) := by decide +kernel
theorem dX7_save_92 : decode cX7_save 92 = .ok (.aload_n 0, 1) := by decide +kernel
theorem dX7_save_93 : decode cX7_save 93 = .ok (.getfield 17, 3) := by decide +kernel
theorem dX7_save_96 : decode cX7_save 96 = .ok (.sipush 611, 3) := by decide +kernel
theorem dX7_save_99 : decode cX7_save 99 = .ok (.aload_n 0, 1) := by decide +kernel
theorem dX7_save_100 : decode cX7_save 100 = .ok (.getfield 51, 3) := by decide +kernel
theorem dX7_save_103 : decode cX7_save 103 = .ok (.imul, 1) := by decide +kernel
theorem dX7_save_104 : decode cX7_save 104 = .ok (.iload_n 1, 1) := by decide +kernel
theorem dX7_save_105 : decode cX7_save 105 = .ok (.iadd, 1) := by decide +kernel
theorem dX7_save_106 : decode cX7_save 106 = .ok (.aload_n 0, 1) := by decide +kernel
theorem dX7_save_107 : decode cX7_save 107 = .ok (.getfield 7, 3) := by decide +kernel
theorem dX7_save_110 : decode cX7_save 110 = .ok (.iload_n 1, 1) := by decide +kernel
theorem dX7_save_111 : decode cX7_save 111 = .ok (.iaload, 1) := by decide +kernel
theorem dX7_save_112 : decode cX7_save 112 = .ok (.iastore, 1) := by decide +kernel
theorem dX7_save_113 : decode cX7_save 113 = .ok (.iinc 1 1, 3) := by decide +kernel
theorem dX7_save_116 : decode cX7_save 116 = .ok (.goto (-31), 3) := by decide +kernel
theorem dX7_save_119 : decode cX7_save 119 = .ok (.iconst 0, 1) := by decide +kernel
theorem dX7_save_120 : decode cX7_save 120 = .ok (.istore_n 1, 1) := by decide +kernel
theorem dX7_save_121 : decode cX7_save 121 = .ok (.iload_n 1, 1) := by decide +kernel
theorem dX7_save_122 : decode cX7_save 122 = .ok (.bipush 60, 2) := by decide +kernel
theorem dX7_save_124 : decode cX7_save 124 = .ok (.if_icmp .ge 29, 3) := by decide +kernel
theorem dX7_save_127 : decode cX7_save 127 = .ok (.aload_n 0, 1) := by decide +kernel
theorem dX7_save_128 : decode cX7_save 128 = .ok (.getfield 20, 3) := by decide +kernel
theorem dX7_save_131 : decode cX7_save 131 = .ok (.bipush 60, 2) := by decide +kernel
theorem dX7_save_133 : decode cX7_save 133 = .ok (.aload_n 0, 1) := by decide +kernel
theorem dX7_save_134 : decode cX7_save 134 = .ok (.getfield 51, 3) := by decide +kernel
theorem dX7_save_137 : decode cX7_save 137 = .ok (.imul, 1) := by decide +kernel
theorem dX7_save_138 : decode cX7_save 138 = .ok (.iload_n 1, 1) := by decide +kernel
theorem dX7_save_139 : decode cX7_save 139 = .ok (.iadd, 1) := by decide +kernel
theorem dX7_save_140 : decode cX7_save 140 = .ok (.aload_n 0, 1) := by decide +kernel
theorem dX7_save_141 : decode cX7_save 141 = .ok (.getfield 13, 3) := by decide +kernel
theorem dX7_save_144 : decode cX7_save 144 = .ok (.iload_n 1, 1) := by decide +kernel
theorem dX7_save_145 : decode cX7_save 145 = .ok (.laload, 1) := by decide +kernel
theorem dX7_save_146 : decode cX7_save 146 = .ok (.lastore, 1) := by decide +kernel
theorem dX7_save_147 : decode cX7_save 147 = .ok (.iinc 1 1, 3) := by decide +kernel
theorem dX7_save_150 : decode cX7_save 150 = .ok (.goto (-29), 3) := by decide +kernel
theorem dX7_save_153 : decode cX7_save 153 = .ok (.aload_n 0, 1) := by decide +kernel
theorem dX7_save_154 : decode cX7_save 154 = .ok (.dup, 1) := by decide +kernel
theorem dX7_save_155 : decode cX7_save 155 = .ok (.getfield 51, 3) := by decide +kernel
theorem dX7_save_158 : decode cX7_save 158 = .ok (.iconst 1, 1) := by decide +kernel
theorem dX7_save_159 : decode cX7_save 159 = .ok (.iadd, 1) := by decide +kernel
theorem dX7_save_160 : decode cX7_save 160 = .ok (.putfield 51, 3) := by decide +kernel
theorem dX7_save_163 : decode cX7_save 163 = .ok (.return_, 1) := by decide +kernel
theorem dX7_isText_0 : decode cX7_isText 0 = .ok (.iload_n 0, 1) := by decide +kernel
theorem dX7_isText_1 : decode cX7_isText 1 = .ok (.iconst 0, 1) := by decide +kernel
theorem dX7_isText_2 : decode cX7_isText 2 = .ok (.iconst 3, 1) := by decide +kernel
theorem dX7_isText_3 : decode cX7_isText 3 = .ok (.invokestatic 54, 3) := by decide +kernel
theorem dX7_isText_6 : decode cX7_isText 6 = .ok (.ireturn, 1) := by decide +kernel
theorem dX7_signsOf_0 : decode cX7_signsOf 0 = .ok (.aload_n 0, 1) := by decide +kernel
theorem dX7_signsOf_1 : decode cX7_signsOf 1 = .ok (.getfield 7, 3) := by decide +kernel
theorem dX7_signsOf_4 : decode cX7_signsOf 4 = .ok (.bipush 7, 2) := by decide +kernel
theorem dX7_signsOf_6 : decode cX7_signsOf 6 = .ok (.iload_n 1, 1) := by decide +kernel
theorem dX7_signsOf_7 : decode cX7_signsOf 7 = .ok (.iadd, 1) := by decide +kernel
theorem dX7_signsOf_8 : decode cX7_signsOf 8 = .ok (.iaload, 1) := by decide +kernel
theorem dX7_signsOf_9 : decode cX7_signsOf 9 = .ok (.ireturn, 1) := by decide +kernel
theorem dX7_valueAt_0 : decode cX7_valueAt 0 = .ok (.aload_n 0, 1) := by decide +kernel
theorem dX7_valueAt_1 : decode cX7_valueAt 1 = .ok (.getfield 7, 3) := by decide +kernel
theorem dX7_valueAt_4 : decode cX7_valueAt 4 = .ok (.bipush 11, 2) := by decide +kernel
theorem dX7_valueAt_6 : decode cX7_valueAt 6 = .ok (.bipush 40, 2) := by decide +kernel
theorem dX7_valueAt_8 : decode cX7_valueAt 8 = .ok (.iload_n 1, 1) := by decide +kernel
theorem dX7_valueAt_9 : decode cX7_valueAt 9 = .ok (.imul, 1) := by decide +kernel
theorem dX7_valueAt_10 : decode cX7_valueAt 10 = .ok (.iadd, 1) := by decide +kernel
theorem dX7_valueAt_11 : decode cX7_valueAt 11 = .ok (.iload_n 2, 1) := by decide +kernel
theorem dX7_valueAt_12 : decode cX7_valueAt 12 = .ok (.iadd, 1) := by decide +kernel
theorem dX7_valueAt_13 : decode cX7_valueAt 13 = .ok (.iaload, 1) := by decide +kernel
theorem dX7_valueAt_14 : decode cX7_valueAt 14 = .ok (.ireturn, 1) := by decide +kernel
theorem dX7_markAt_0 : decode cX7_markAt 0 = .ok (.aload_n 0, 1) := by decide +kernel
theorem dX7_markAt_1 : decode cX7_markAt 1 = .ok (.getfield 7, 3) := by decide +kernel
theorem dX7_markAt_4 : decode cX7_markAt 4 = .ok (.sipush 171, 3) := by decide +kernel
theorem dX7_markAt_7 : decode cX7_markAt 7 = .ok (.bipush 40, 2) := by decide +kernel
theorem dX7_markAt_9 : decode cX7_markAt 9 = .ok (.iload_n 1, 1) := by decide +kernel
theorem dX7_markAt_10 : decode cX7_markAt 10 = .ok (.imul, 1) := by decide +kernel
theorem dX7_markAt_11 : decode cX7_markAt 11 = .ok (.iadd, 1) := by decide +kernel
theorem dX7_markAt_12 : decode cX7_markAt 12 = .ok (.iload_n 2, 1) := by decide +kernel
theorem dX7_markAt_13 : decode cX7_markAt 13 = .ok (.iadd, 1) := by decide +kernel
theorem dX7_markAt_14 : decode cX7_markAt 14 = .ok (.iaload, 1) := by decide +kernel
theorem dX7_markAt_15 : decode cX7_markAt 15 = .ok (.ireturn, 1) := by decide +kernel
theorem dX7_slotAt_0 : decode cX7_slotAt 0 = .ok (.aload_n 0, 1) := by decide +kernel
theorem dX7_slotAt_1 : decode cX7_slotAt 1 = .ok (.getfield 7, 3) := by decide +kernel
theorem dX7_slotAt_4 : decode cX7_slotAt 4 = .ok (.sipush 331, 3) := by decide +kernel
theorem dX7_slotAt_7 : decode cX7_slotAt 7 = .ok (.bipush 40, 2) := by decide +kernel
theorem dX7_slotAt_9 : decode cX7_slotAt 9 = .ok (.iload_n 1, 1) := by decide +kernel
theorem dX7_slotAt_10 : decode cX7_slotAt 10 = .ok (.imul, 1) := by decide +kernel
theorem dX7_slotAt_11 : decode cX7_slotAt 11 = .ok (.iadd, 1) := by decide +kernel
theorem dX7_slotAt_12 : decode cX7_slotAt 12 = .ok (.iload_n 2, 1) := by decide +kernel
theorem dX7_slotAt_13 : decode cX7_slotAt 13 = .ok (.iadd, 1) := by decide +kernel
theorem dX7_slotAt_14 : decode cX7_slotAt 14 = .ok (.iaload, 1) := by decide +kernel
theorem dX7_slotAt_15 : decode cX7_slotAt 15 = .ok (.ireturn, 1) := by decide +kernel
theorem dX7_takeRow_0 : decode cX7_takeRow 0 = .ok (.aload_n 0, 1) := by decide +kernel
theorem dX7_takeRow_1 : decode cX7_takeRow 1 = .ok (.aload_n 0, 1) := by decide +kernel
theorem dX7_takeRow_2 : decode cX7_takeRow 2 = .ok (.iload_n 1, 1) := by decide +kernel
theorem dX7_takeRow_3 : decode cX7_takeRow 3 = .ok (.invokevirtual 58, 3) := by decide +kernel
theorem dX7_takeRow_6 : decode cX7_takeRow 6 = .ok (.putfield 62, 3) := by decide +kernel
theorem dX7_takeRow_9 : decode cX7_takeRow 9 = .ok (.iconst 0, 1) := by decide +kernel
theorem dX7_takeRow_10 : decode cX7_takeRow 10 = .ok (.istore_n 2, 1) := by decide +kernel
theorem dX7_takeRow_11 : decode cX7_takeRow 11 = .ok (.iload_n 2, 1) := by decide +kernel
theorem dX7_takeRow_12 : decode cX7_takeRow 12 = .ok (.aload_n 0, 1) := by decide +kernel
theorem dX7_takeRow_13 : decode cX7_takeRow 13 = .ok (.getfield 62, 3) := by decide +kernel
theorem dX7_takeRow_16 : decode cX7_takeRow 16 = .ok (.if_icmp .ge 21, 3) := by decide +kernel
theorem dX7_takeRow_19 : decode cX7_takeRow 19 = .ok (.aload_n 0, 1) := by decide +kernel
theorem dX7_takeRow_20 : decode cX7_takeRow 20 = .ok (.getfield 26, 3) := by decide +kernel
theorem dX7_takeRow_23 : decode cX7_takeRow 23 = .ok (.iload_n 2, 1) := by decide +kernel
theorem dX7_takeRow_24 : decode cX7_takeRow 24 = .ok (.aload_n 0, 1) := by decide +kernel
theorem dX7_takeRow_25 : decode cX7_takeRow 25 = .ok (.iload_n 1, 1) := by decide +kernel
theorem dX7_takeRow_26 : decode cX7_takeRow 26 = .ok (.iload_n 2, 1) := by decide +kernel
theorem dX7_takeRow_27 : decode cX7_takeRow 27 = .ok (.invokevirtual 65, 3) := by decide +kernel
theorem dX7_takeRow_30 : decode cX7_takeRow 30 = .ok (.iastore, 1) := by decide +kernel
theorem dX7_takeRow_31 : decode cX7_takeRow 31 = .ok (.iinc 2 1, 3) := by decide +kernel
theorem dX7_takeRow_34 : decode cX7_takeRow 34 = .ok (.goto (-23), 3) := by decide +kernel
theorem dX7_takeRow_37 : decode cX7_takeRow 37 = .ok (.return_, 1) := by decide +kernel
theorem dX7_sumAt_0 : decode cX7_sumAt 0 = .ok (.iconst 0, 1) := by decide +kernel
theorem dX7_sumAt_1 : decode cX7_sumAt 1 = .ok (.istore_n 2, 1) := by decide +kernel
theorem dX7_sumAt_2 : decode cX7_sumAt 2 = .ok (.iconst 0, 1) := by decide +kernel
theorem dX7_sumAt_3 : decode cX7_sumAt 3 = .ok (.istore_n 3, 1) := by decide +kernel
theorem dX7_sumAt_4 : decode cX7_sumAt 4 = .ok (.iload_n 3, 1) := by decide +kernel
theorem dX7_sumAt_5 : decode cX7_sumAt 5 = .ok (.aload_n 0, 1) := by decide +kernel
theorem dX7_sumAt_6 : decode cX7_sumAt 6 = .ok (.getfield 7, 3) := by decide +kernel
theorem dX7_sumAt_9 : decode cX7_sumAt 9 = .ok (.iconst 0, 1) := by decide +kernel
theorem dX7_sumAt_10 : decode cX7_sumAt 10 = .ok (.iaload, 1) := by decide +kernel
theorem dX7_sumAt_11 : decode cX7_sumAt 11 = .ok (.if_icmp .ge 29, 3) := by decide +kernel
theorem dX7_sumAt_14 : decode cX7_sumAt 14 = .ok (.iload_n 3, 1) := by decide +kernel
theorem dX7_sumAt_15 : decode cX7_sumAt 15 = .ok (.iload_n 1, 1) := by decide +kernel
theorem dX7_sumAt_16 : decode cX7_sumAt 16 = .ok (.if_icmp .gt 24, 3) := by decide +kernel
theorem dX7_sumAt_19 : decode cX7_sumAt 19 = .ok (.iload_n 2, 1) := by decide +kernel
theorem dX7_sumAt_20 : decode cX7_sumAt 20 = .ok (.iload_n 3, 1) := by decide +kernel
theorem dX7_sumAt_21 : decode cX7_sumAt 21 = .ok (.iconst 1, 1) := by decide +kernel
theorem dX7_sumAt_22 : decode cX7_sumAt 22 = .ok (.iadd, 1) := by decide +kernel
theorem dX7_sumAt_23 : decode cX7_sumAt 23 = .ok (.aload_n 0, 1) := by decide +kernel
theorem dX7_sumAt_24 : decode cX7_sumAt 24 = .ok (.getfield 26, 3) := by decide +kernel
theorem dX7_sumAt_27 : decode cX7_sumAt 27 = .ok (.iload_n 1, 1) := by decide +kernel
theorem dX7_sumAt_28 : decode cX7_sumAt 28 = .ok (.iload_n 3, 1) := by decide +kernel
theorem dX7_sumAt_29 : decode cX7_sumAt 29 = .ok (.isub, 1) := by decide +kernel
theorem dX7_sumAt_30 : decode cX7_sumAt 30 = .ok (.iaload, 1) := by decide +kernel
theorem dX7_sumAt_31 : decode cX7_sumAt 31 = .ok (.imul, 1) := by decide +kernel
theorem dX7_sumAt_32 : decode cX7_sumAt 32 = .ok (.iadd, 1) := by decide +kernel
theorem dX7_sumAt_33 : decode cX7_sumAt 33 = .ok (.istore_n 2, 1) := by decide +kernel
theorem dX7_sumAt_34 : decode cX7_sumAt 34 = .ok (.iinc 3 1, 3) := by decide +kernel
theorem dX7_sumAt_37 : decode cX7_sumAt 37 = .ok (.goto (-33), 3) := by decide +kernel
theorem dX7_sumAt_40 : decode cX7_sumAt 40 = .ok (.iload_n 2, 1) := by decide +kernel
theorem dX7_sumAt_41 : decode cX7_sumAt 41 = .ok (.ireturn, 1) := by decide +kernel
theorem dX7_endAt_0 : decode cX7_endAt 0 = .ok (.iload_n 2, 1) := by decide +kernel
theorem dX7_endAt_1 : decode cX7_endAt 1 = .ok (.aload_n 0, 1) := by decide +kernel
theorem dX7_endAt_2 : decode cX7_endAt 2 = .ok (.getfield 7, 3) := by decide +kernel
theorem dX7_endAt_5 : decode cX7_endAt 5 = .ok (.iconst 3, 1) := by decide +kernel
theorem dX7_endAt_6 : decode cX7_endAt 6 = .ok (.iaload, 1) := by decide +kernel
theorem dX7_endAt_7 : decode cX7_endAt 7 = .ok (.if_icmp .lt 26, 3) := by decide +kernel
theorem dX7_endAt_10 : decode cX7_endAt 10 = .ok (.aload_n 0, 1) := by decide +kernel
theorem dX7_endAt_11 : decode cX7_endAt 11 = .ok (.iload_n 1, 1) := by decide +kernel
theorem dX7_endAt_12 : decode cX7_endAt 12 = .ok (.invokevirtual 69, 3) := by decide +kernel
theorem dX7_endAt_15 : decode cX7_endAt 15 = .ok (.aload_n 0, 1) := by decide +kernel
theorem dX7_endAt_16 : decode cX7_endAt 16 = .ok (.getfield 7, 3) := by decide +kernel
theorem dX7_endAt_19 : decode cX7_endAt 19 = .ok (.iconst 1, 1) := by decide +kernel
theorem dX7_endAt_20 : decode cX7_endAt 20 = .ok (.iaload, 1) := by decide +kernel
theorem dX7_endAt_21 : decode cX7_endAt 21 = .ok (.irem, 1) := by decide +kernel
theorem dX7_endAt_22 : decode cX7_endAt 22 = .ok (.aload_n 0, 1) := by decide +kernel
theorem dX7_endAt_23 : decode cX7_endAt 23 = .ok (.getfield 7, 3) := by decide +kernel
theorem dX7_endAt_26 : decode cX7_endAt 26 = .ok (.iconst 2, 1) := by decide +kernel
theorem dX7_endAt_27 : decode cX7_endAt 27 = .ok (.iaload, 1) := by decide +kernel
theorem dX7_endAt_28 : decode cX7_endAt 28 = .ok (.if_icmp .ne 5, 3) := by decide +kernel
theorem dX7_endAt_31 : decode cX7_endAt 31 = .ok (.iconst 1, 1) := by decide +kernel
theorem dX7_endAt_32 : decode cX7_endAt 32 = .ok (.ireturn, 1) := by decide +kernel
theorem dX7_endAt_33 : decode cX7_endAt 33 = .ok (.iload_n 2, 1) := by decide +kernel
theorem dX7_endAt_34 : decode cX7_endAt 34 = .ok (.aload_n 0, 1) := by decide +kernel
theorem dX7_endAt_35 : decode cX7_endAt 35 = .ok (.getfield 7, 3) := by decide +kernel
theorem dX7_endAt_38 : decode cX7_endAt 38 = .ok (.iconst 4, 1) := by decide +kernel
theorem dX7_endAt_39 : decode cX7_endAt 39 = .ok (.iaload, 1) := by decide +kernel
theorem dX7_endAt_40 : decode cX7_endAt 40 = .ok (.if_icmp .ne 7, 3) := by decide +kernel
theorem dX7_endAt_43 : decode cX7_endAt 43 = .ok (.iconst 2, 1) := by decide +kernel
theorem dX7_endAt_44 : decode cX7_endAt 44 = .ok (.goto 18, 3) := by decide +kernel
theorem dX7_endAt_47 : decode cX7_endAt 47 = .ok (.iload_n 1, 1) := by decide +kernel
theorem dX7_endAt_48 : decode cX7_endAt 48 = .ok (.aload_n 0, 1) := by decide +kernel
theorem dX7_endAt_49 : decode cX7_endAt 49 = .ok (.getfield 62, 3) := by decide +kernel
theorem dX7_endAt_52 : decode cX7_endAt 52 = .ok (.iconst 1, 1) := by decide +kernel
theorem dX7_endAt_53 : decode cX7_endAt 53 = .ok (.isub, 1) := by decide +kernel
theorem dX7_endAt_54 : decode cX7_endAt 54 = .ok (.if_icmp .ne 7, 3) := by decide +kernel
theorem dX7_endAt_57 : decode cX7_endAt 57 = .ok (.iconst 3, 1) := by decide +kernel
theorem dX7_endAt_58 : decode cX7_endAt 58 = .ok (.goto 4, 3) := by decide +kernel
theorem dX7_endAt_61 : decode cX7_endAt 61 = .ok (.iconst 0, 1) := by decide +kernel
theorem dX7_endAt_62 : decode cX7_endAt 62 = .ok (.ireturn, 1) := by decide +kernel
theorem dX7_cut_0 : decode cX7_cut 0 = .ok (.aload_n 0, 1) := by decide +kernel
theorem dX7_cut_1 : decode cX7_cut 1 = .ok (.iconst 0, 1) := by decide +kernel
theorem dX7_cut_2 : decode cX7_cut 2 = .ok (.putfield 72, 3) := by decide +kernel
theorem dX7_cut_5 : decode cX7_cut 5 = .ok (.lconst 0, 1) := by decide +kernel
theorem dX7_cut_6 : decode cX7_cut 6 = .ok (.lstore_n 1, 1) := by decide +kernel
theorem dX7_cut_7 : decode cX7_cut 7 = .ok (.iconst 0, 1) := by decide +kernel
theorem dX7_cut_8 : decode cX7_cut 8 = .ok (.istore_n 3, 1) := by decide +kernel
theorem dX7_cut_9 : decode cX7_cut 9 = .ok (.iconst 0, 1) := by decide +kernel
theorem dX7_cut_10 : decode cX7_cut 10 = .ok (.istore 4, 2) := by decide +kernel
theorem dX7_cut_12 : decode cX7_cut 12 = .ok (.iload 4, 2) := by decide +kernel
theorem dX7_cut_14 : decode cX7_cut 14 = .ok (.aload_n 0, 1) := by decide +kernel
theorem dX7_cut_15 : decode cX7_cut 15 = .ok (.getfield 62, 3) := by decide +kernel
theorem dX7_cut_18 : decode cX7_cut 18 = .ok (.if_icmp .ge 88, 3) := by decide +kernel
theorem dX7_cut_21 : decode cX7_cut 21 = .ok (.lload_n 1, 1) := by decide +kernel
theorem dX7_cut_22 : decode cX7_cut 22 = .ok (.aload_n 0, 1) := by decide +kernel
theorem dX7_cut_23 : decode cX7_cut 23 = .ok (.getfield 26, 3) := by decide +kernel
theorem dX7_cut_26 : decode cX7_cut 26 = .ok (.iload 4, 2) := by decide +kernel
theorem dX7_cut_28 : decode cX7_cut 28 = .ok (.iaload, 1) := by decide +kernel
theorem dX7_cut_29 : decode cX7_cut 29 = .ok (.iconst 1, 1) := by decide +kernel
theorem dX7_cut_30 : decode cX7_cut 30 = .ok (.isub, 1) := by decide +kernel
theorem dX7_cut_31 : decode cX7_cut 31 = .ok (.i2l, 1) := by decide +kernel
theorem dX7_cut_32 : decode cX7_cut 32 = .ok (.iconst 3, 1) := by decide +kernel
theorem dX7_cut_33 : decode cX7_cut 33 = .ok (.iload_n 3, 1) := by decide +kernel
theorem dX7_cut_34 : decode cX7_cut 34 = .ok (.imul, 1) := by decide +kernel
theorem dX7_cut_35 : decode cX7_cut 35 = .ok (.lshl, 1) := by decide +kernel
theorem dX7_cut_36 : decode cX7_cut 36 = .ok (.lor, 1) := by decide +kernel
theorem dX7_cut_37 : decode cX7_cut 37 = .ok (.lstore_n 1, 1) := by decide +kernel
theorem dX7_cut_38 : decode cX7_cut 38 = .ok (.iinc 3 1, 3) := by decide +kernel
theorem dX7_cut_41 : decode cX7_cut 41 = .ok (.aload_n 0, 1) := by decide +kernel
theorem dX7_cut_42 : decode cX7_cut 42 = .ok (.iload 4, 2) := by decide +kernel
theorem dX7_cut_44 : decode cX7_cut 44 = .ok (.iload_n 3, 1) := by decide +kernel
theorem dX7_cut_45 : decode cX7_cut 45 = .ok (.invokevirtual 75, 3) := by decide +kernel
theorem dX7_cut_48 : decode cX7_cut 48 = .ok (.istore 5, 2) := by decide +kernel
theorem dX7_cut_50 : decode cX7_cut 50 = .ok (.iload 5, 2) := by decide +kernel
theorem dX7_cut_52 : decode cX7_cut 52 = .ok (.ifCond .eq 48, 3) := by decide +kernel
theorem dX7_cut_55 : decode cX7_cut 55 = .ok (.aload_n 0, 1) := by decide +kernel
theorem dX7_cut_56 : decode cX7_cut 56 = .ok (.getfield 29, 3) := by decide +kernel
theorem dX7_cut_59 : decode cX7_cut 59 = .ok (.aload_n 0, 1) := by decide +kernel
theorem dX7_cut_60 : decode cX7_cut 60 = .ok (.getfield 72, 3) := by decide +kernel
theorem dX7_cut_63 : decode cX7_cut 63 = .ok (.lload_n 1, 1) := by decide +kernel
theorem dX7_cut_64 : decode cX7_cut 64 = .ok (.lastore, 1) := by decide +kernel
theorem dX7_cut_65 : decode cX7_cut 65 = .ok (.aload_n 0, 1) := by decide +kernel
theorem dX7_cut_66 : decode cX7_cut 66 = .ok (.getfield 32, 3) := by decide +kernel
theorem dX7_cut_69 : decode cX7_cut 69 = .ok (.aload_n 0, 1) := by decide +kernel
theorem dX7_cut_70 : decode cX7_cut 70 = .ok (.getfield 72, 3) := by decide +kernel
theorem dX7_cut_73 : decode cX7_cut 73 = .ok (.iload_n 3, 1) := by decide +kernel
theorem dX7_cut_74 : decode cX7_cut 74 = .ok (.iastore, 1) := by decide +kernel
theorem dX7_cut_75 : decode cX7_cut 75 = .ok (.aload_n 0, 1) := by decide +kernel
theorem dX7_cut_76 : decode cX7_cut 76 = .ok (.getfield 35, 3) := by decide +kernel
theorem dX7_cut_79 : decode cX7_cut 79 = .ok (.aload_n 0, 1) := by decide +kernel
theorem dX7_cut_80 : decode cX7_cut 80 = .ok (.getfield 72, 3) := by decide +kernel
theorem dX7_cut_83 : decode cX7_cut 83 = .ok (.iload 5, 2) := by decide +kernel
theorem dX7_cut_85 : decode cX7_cut 85 = .ok (.iastore, 1) := by decide +kernel
theorem dX7_cut_86 : decode cX7_cut 86 = .ok (.aload_n 0, 1) := by decide +kernel
theorem dX7_cut_87 : decode cX7_cut 87 = .ok (.dup, 1) := by decide +kernel
theorem dX7_cut_88 : decode cX7_cut 88 = .ok (.getfield 72, 3) := by decide +kernel
theorem dX7_cut_91 : decode cX7_cut 91 = .ok (.iconst 1, 1) := by decide +kernel
theorem dX7_cut_92 : decode cX7_cut 92 = .ok (.iadd, 1) := by decide +kernel
theorem dX7_cut_93 : decode cX7_cut 93 = .ok (.putfield 72, 3) := by decide +kernel
theorem dX7_cut_96 : decode cX7_cut 96 = .ok (.lconst 0, 1) := by decide +kernel
theorem dX7_cut_97 : decode cX7_cut 97 = .ok (.lstore_n 1, 1) := by decide +kernel
theorem dX7_cut_98 : decode cX7_cut 98 = .ok (.iconst 0, 1) := by decide +kernel
theorem dX7_cut_99 : decode cX7_cut 99 = .ok (.istore_n 3, 1) := by decide +kernel
theorem dX7_cut_100 : decode cX7_cut 100 = .ok (.iinc 4 1, 3) := by decide +kernel
theorem dX7_cut_103 : decode cX7_cut 103 = .ok (.goto (-91), 3) := by decide +kernel
theorem dX7_cut_106 : decode cX7_cut 106 = .ok (.return_, 1) := by decide +kernel
theorem dX7_isAlike_0 : decode cX7_isAlike 0 = .ok (.aload_n 0, 1) := by decide +kernel
theorem dX7_isAlike_1 : decode cX7_isAlike 1 = .ok (.getfield 29, 3) := by decide +kernel
theorem dX7_isAlike_4 : decode cX7_isAlike 4 = .ok (.iload_n 1, 1) := by decide +kernel
theorem dX7_isAlike_5 : decode cX7_isAlike 5 = .ok (.laload, 1) := by decide +kernel
theorem dX7_isAlike_6 : decode cX7_isAlike 6 = .ok (.aload_n 0, 1) := by decide +kernel
theorem dX7_isAlike_7 : decode cX7_isAlike 7 = .ok (.getfield 29, 3) := by decide +kernel
theorem dX7_isAlike_10 : decode cX7_isAlike 10 = .ok (.iload_n 2, 1) := by decide +kernel
theorem dX7_isAlike_11 : decode cX7_isAlike 11 = .ok (.laload, 1) := by decide +kernel
theorem dX7_isAlike_12 : decode cX7_isAlike 12 = .ok (.lcmp, 1) := by decide +kernel
theorem dX7_isAlike_13 : decode cX7_isAlike 13 = .ok (.ifCond .ne 22, 3) := by decide +kernel
theorem dX7_isAlike_16 : decode cX7_isAlike 16 = .ok (.aload_n 0, 1) := by decide +kernel
theorem dX7_isAlike_17 : decode cX7_isAlike 17 = .ok (.getfield 32, 3) := by decide +kernel
theorem dX7_isAlike_20 : decode cX7_isAlike 20 = .ok (.iload_n 1, 1) := by decide +kernel
theorem dX7_isAlike_21 : decode cX7_isAlike 21 = .ok (.iaload, 1) := by decide +kernel
theorem dX7_isAlike_22 : decode cX7_isAlike 22 = .ok (.aload_n 0, 1) := by decide +kernel
theorem dX7_isAlike_23 : decode cX7_isAlike 23 = .ok (.getfield 32, 3) := by decide +kernel
theorem dX7_isAlike_26 : decode cX7_isAlike 26 = .ok (.iload_n 2, 1) := by decide +kernel
theorem dX7_isAlike_27 : decode cX7_isAlike 27 = .ok (.iaload, 1) := by decide +kernel
theorem dX7_isAlike_28 : decode cX7_isAlike 28 = .ok (.if_icmp .ne 7, 3) := by decide +kernel
theorem dX7_isAlike_31 : decode cX7_isAlike 31 = .ok (.iconst 1, 1) := by decide +kernel
theorem dX7_isAlike_32 : decode cX7_isAlike 32 = .ok (.goto 4, 3) := by decide +kernel
theorem dX7_isAlike_35 : decode cX7_isAlike 35 = .ok (.iconst 0, 1) := by decide +kernel
theorem dX7_isAlike_36 : decode cX7_isAlike 36 = .ok (.ireturn, 1) := by decide +kernel
theorem dX7_isFirstSuch_0 : decode cX7_isFirstSuch 0 = .ok (.iconst 1, 1) := by decide +kernel
theorem dX7_isFirstSuch_1 : decode cX7_isFirstSuch 1 = .ok (.istore_n 2, 1) := by decide +kernel
theorem dX7_isFirstSuch_2 : decode cX7_isFirstSuch 2 = .ok (.iconst 0, 1) := by decide +kernel
theorem dX7_isFirstSuch_3 : decode cX7_isFirstSuch 3 = .ok (.istore_n 3, 1) := by decide +kernel
theorem dX7_isFirstSuch_4 : decode cX7_isFirstSuch 4 = .ok (.iload_n 3, 1) := by decide +kernel
theorem dX7_isFirstSuch_5 : decode cX7_isFirstSuch 5 = .ok (.iload_n 1, 1) := by decide +kernel
theorem dX7_isFirstSuch_6 : decode cX7_isFirstSuch 6 = .ok (.if_icmp .ge 28, 3) := by decide +kernel
theorem dX7_isFirstSuch_9 : decode cX7_isFirstSuch 9 = .ok (.iload_n 2, 1) := by decide +kernel
theorem dX7_isFirstSuch_10 : decode cX7_isFirstSuch 10 = .ok (.ifCond .eq 16, 3) := by decide +kernel
theorem dX7_isFirstSuch_13 : decode cX7_isFirstSuch 13 = .ok (.aload_n 0, 1) := by decide +kernel
theorem dX7_isFirstSuch_14 : decode cX7_isFirstSuch 14 = .ok (.iload_n 3, 1) := by decide +kernel
theorem dX7_isFirstSuch_15 : decode cX7_isFirstSuch 15 = .ok (.iload_n 1, 1) := by decide +kernel
theorem dX7_isFirstSuch_16 : decode cX7_isFirstSuch 16 = .ok (.invokevirtual 78, 3) := by decide +kernel
theorem dX7_isFirstSuch_19 : decode cX7_isFirstSuch 19 = .ok (.ifCond .ne 7, 3) := by decide +kernel
theorem dX7_isFirstSuch_22 : decode cX7_isFirstSuch 22 = .ok (.iconst 1, 1) := by decide +kernel
theorem dX7_isFirstSuch_23 : decode cX7_isFirstSuch 23 = .ok (.goto 4, 3) := by decide +kernel
theorem dX7_isFirstSuch_26 : decode cX7_isFirstSuch 26 = .ok (.iconst 0, 1) := by decide +kernel
theorem dX7_isFirstSuch_27 : decode cX7_isFirstSuch 27 = .ok (.istore_n 2, 1) := by decide +kernel
theorem dX7_isFirstSuch_28 : decode cX7_isFirstSuch 28 = .ok (.iinc 3 1, 3) := by decide +kernel
theorem dX7_isFirstSuch_31 : decode cX7_isFirstSuch 31 = .ok (.goto (-27), 3) := by decide +kernel
theorem dX7_isFirstSuch_34 : decode cX7_isFirstSuch 34 = .ok (.iload_n 2, 1) := by decide +kernel
theorem dX7_isFirstSuch_35 : decode cX7_isFirstSuch 35 = .ok (.ireturn, 1) := by decide +kernel
theorem dX7_isKept_0 : decode cX7_isKept 0 = .ok (.aload_n 0, 1) := by decide +kernel
theorem dX7_isKept_1 : decode cX7_isKept 1 = .ok (.getfield 7, 3) := by decide +kernel
theorem dX7_isKept_4 : decode cX7_isKept 4 = .ok (.sipush 491, 3) := by decide +kernel
theorem dX7_isKept_7 : decode cX7_isKept 7 = .ok (.iload_n 1, 1) := by decide +kernel
theorem dX7_isKept_8 : decode cX7_isKept 8 = .ok (.iadd, 1) := by decide +kernel
theorem dX7_isKept_9 : decode cX7_isKept 9 = .ok (.iaload, 1) := by decide +kernel
theorem dX7_isKept_10 : decode cX7_isKept 10 = .ok (.ifCond .le 7, 3) := by decide +kernel
theorem dX7_isKept_13 : decode cX7_isKept 13 = .ok (.iconst 1, 1) := by decide +kernel
theorem dX7_isKept_14 : decode cX7_isKept 14 = .ok (.goto 4, 3) := by decide +kernel
theorem dX7_isKept_17 : decode cX7_isKept 17 = .ok (.iconst 0, 1) := by decide +kernel
theorem dX7_isKept_18 : decode cX7_isKept 18 = .ok (.ireturn, 1) := by decide +kernel
theorem dX7_slotFor_0 : decode cX7_slotFor 0 = .ok (.iconst (-1), 1) := by decide +kernel
theorem dX7_slotFor_1 : decode cX7_slotFor 1 = .ok (.istore_n 2, 1) := by decide +kernel
theorem dX7_slotFor_2 : decode cX7_slotFor 2 = .ok (.iconst 0, 1) := by decide +kernel
theorem dX7_slotFor_3 : decode cX7_slotFor 3 = .ok (.istore_n 3, 1) := by decide +kernel
theorem dX7_slotFor_4 : decode cX7_slotFor 4 = .ok (.iload_n 3, 1) := by decide +kernel
theorem dX7_slotFor_5 : decode cX7_slotFor 5 = .ok (.bipush 60, 2) := by decide +kernel
theorem dX7_slotFor_7 : decode cX7_slotFor 7 = .ok (.if_icmp .ge 62, 3) := by decide +kernel
theorem dX7_slotFor_10 : decode cX7_slotFor 10 = .ok (.aload_n 0, 1) := by decide +kernel
theorem dX7_slotFor_11 : decode cX7_slotFor 11 = .ok (.getfield 7, 3) := by decide +kernel
theorem dX7_slotFor_14 : decode cX7_slotFor 14 = .ok (.sipush 491, 3) := by decide +kernel
theorem dX7_slotFor_17 : decode cX7_slotFor 17 = .ok (.iload_n 3, 1) := by decide +kernel
theorem dX7_slotFor_18 : decode cX7_slotFor 18 = .ok (.iadd, 1) := by decide +kernel
theorem dX7_slotFor_19 : decode cX7_slotFor 19 = .ok (.iaload, 1) := by decide +kernel
theorem dX7_slotFor_20 : decode cX7_slotFor 20 = .ok (.aload_n 0, 1) := by decide +kernel
theorem dX7_slotFor_21 : decode cX7_slotFor 21 = .ok (.getfield 32, 3) := by decide +kernel
theorem dX7_slotFor_24 : decode cX7_slotFor 24 = .ok (.iload_n 1, 1) := by decide +kernel
theorem dX7_slotFor_25 : decode cX7_slotFor 25 = .ok (.iaload, 1) := by decide +kernel
theorem dX7_slotFor_26 : decode cX7_slotFor 26 = .ok (.if_icmp .ne 23, 3) := by decide +kernel
theorem dX7_slotFor_29 : decode cX7_slotFor 29 = .ok (.aload_n 0, 1) := by decide +kernel
theorem dX7_slotFor_30 : decode cX7_slotFor 30 = .ok (.getfield 13, 3) := by decide +kernel
theorem dX7_slotFor_33 : decode cX7_slotFor 33 = .ok (.iload_n 3, 1) := by decide +kernel
theorem dX7_slotFor_34 : decode cX7_slotFor 34 = .ok (.laload, 1) := by decide +kernel
theorem dX7_slotFor_35 : decode cX7_slotFor 35 = .ok (.aload_n 0, 1) := by decide +kernel
theorem dX7_slotFor_36 : decode cX7_slotFor 36 = .ok (.getfield 29, 3) := by decide +kernel
theorem dX7_slotFor_39 : decode cX7_slotFor 39 = .ok (.iload_n 1, 1) := by decide +kernel
theorem dX7_slotFor_40 : decode cX7_slotFor 40 = .ok (.laload, 1) := by decide +kernel
theorem dX7_slotFor_41 : decode cX7_slotFor 41 = .ok (.lcmp, 1) := by decide +kernel
theorem dX7_slotFor_42 : decode cX7_slotFor 42 = .ok (.ifCond .ne 7, 3) := by decide +kernel
theorem dX7_slotFor_45 : decode cX7_slotFor 45 = .ok (.iconst 1, 1) := by decide +kernel
theorem dX7_slotFor_46 : decode cX7_slotFor 46 = .ok (.goto 4, 3) := by decide +kernel
theorem dX7_slotFor_49 : decode cX7_slotFor 49 = .ok (.iconst 0, 1) := by decide +kernel
theorem dX7_slotFor_50 : decode cX7_slotFor 50 = .ok (.istore 4, 2) := by decide +kernel
theorem dX7_slotFor_52 : decode cX7_slotFor 52 = .ok (.iload 4, 2) := by decide +kernel
theorem dX7_slotFor_54 : decode cX7_slotFor 54 = .ok (.ifCond .eq 7, 3) := by decide +kernel
theorem dX7_slotFor_57 : decode cX7_slotFor 57 = .ok (.iload_n 3, 1) := by decide +kernel
theorem dX7_slotFor_58 : decode cX7_slotFor 58 = .ok (.goto 4, 3) := by decide +kernel
theorem dX7_slotFor_61 : decode cX7_slotFor 61 = .ok (.iload_n 2, 1) := by decide +kernel
theorem dX7_slotFor_62 : decode cX7_slotFor 62 = .ok (.istore_n 2, 1) := by decide +kernel
theorem dX7_slotFor_63 : decode cX7_slotFor 63 = .ok (.iinc 3 1, 3) := by decide +kernel
theorem dX7_slotFor_66 : decode cX7_slotFor 66 = .ok (.goto (-62), 3) := by decide +kernel
theorem dX7_slotFor_69 : decode cX7_slotFor 69 = .ok (.iload_n 2, 1) := by decide +kernel
theorem dX7_slotFor_70 : decode cX7_slotFor 70 = .ok (.ireturn, 1) := by decide +kernel
theorem dX7_freeSlots_0 : decode cX7_freeSlots 0 = .ok (.iconst 0, 1) := by decide +kernel
theorem dX7_freeSlots_1 : decode cX7_freeSlots 1 = .ok (.istore_n 1, 1) := by decide +kernel
theorem dX7_freeSlots_2 : decode cX7_freeSlots 2 = .ok (.iconst 0, 1) := by decide +kernel
theorem dX7_freeSlots_3 : decode cX7_freeSlots 3 = .ok (.istore_n 2, 1) := by decide +kernel
theorem dX7_freeSlots_4 : decode cX7_freeSlots 4 = .ok (.iload_n 2, 1) := by decide +kernel
theorem dX7_freeSlots_5 : decode cX7_freeSlots 5 = .ok (.bipush 60, 2) := by decide +kernel
theorem dX7_freeSlots_7 : decode cX7_freeSlots 7 = .ok (.if_icmp .ge 25, 3) := by decide +kernel
theorem dX7_freeSlots_10 : decode cX7_freeSlots 10 = .ok (.iload_n 1, 1) := by decide +kernel
theorem dX7_freeSlots_11 : decode cX7_freeSlots 11 = .ok (.aload_n 0, 1) := by decide +kernel
theorem dX7_freeSlots_12 : decode cX7_freeSlots 12 = .ok (.iload_n 2, 1) := by decide +kernel
theorem dX7_freeSlots_13 : decode cX7_freeSlots 13 = .ok (.invokevirtual 82, 3) := by decide +kernel
theorem dX7_freeSlots_16 : decode cX7_freeSlots 16 = .ok (.ifCond .eq 7, 3) := by decide +kernel
theorem dX7_freeSlots_19 : decode cX7_freeSlots 19 = .ok (.iconst 0, 1) := by decide +kernel
theorem dX7_freeSlots_20 : decode cX7_freeSlots 20 = .ok (.goto 4, 3) := by decide +kernel
theorem dX7_freeSlots_23 : decode cX7_freeSlots 23 = .ok (.iconst 1, 1) := by decide +kernel
theorem dX7_freeSlots_24 : decode cX7_freeSlots 24 = .ok (.iadd, 1) := by decide +kernel
theorem dX7_freeSlots_25 : decode cX7_freeSlots 25 = .ok (.istore_n 1, 1) := by decide +kernel
theorem dX7_freeSlots_26 : decode cX7_freeSlots 26 = .ok (.iinc 2 1, 3) := by decide +kernel
theorem dX7_freeSlots_29 : decode cX7_freeSlots 29 = .ok (.goto (-25), 3) := by decide +kernel
theorem dX7_freeSlots_32 : decode cX7_freeSlots 32 = .ok (.iload_n 1, 1) := by decide +kernel
theorem dX7_freeSlots_33 : decode cX7_freeSlots 33 = .ok (.ireturn, 1) := by decide +kernel
theorem dX7_storeSize_0 : decode cX7_storeSize 0 = .ok (.iconst 0, 1) := by decide +kernel
theorem dX7_storeSize_1 : decode cX7_storeSize 1 = .ok (.istore_n 1, 1) := by decide +kernel
theorem dX7_storeSize_2 : decode cX7_storeSize 2 = .ok (.iconst 0, 1) := by decide +kernel
theorem dX7_storeSize_3 : decode cX7_storeSize 3 = .ok (.istore_n 2, 1) := by decide +kernel
theorem dX7_storeSize_4 : decode cX7_storeSize 4 = .ok (.iload_n 2, 1) := by decide +kernel
theorem dX7_storeSize_5 : decode cX7_storeSize 5 = .ok (.bipush 60, 2) := by decide +kernel
theorem dX7_storeSize_7 : decode cX7_storeSize 7 = .ok (.if_icmp .ge 22, 3) := by decide +kernel
theorem dX7_storeSize_10 : decode cX7_storeSize 10 = .ok (.iload_n 1, 1) := by decide +kernel
theorem dX7_storeSize_11 : decode cX7_storeSize 11 = .ok (.aload_n 0, 1) := by decide +kernel
theorem dX7_storeSize_12 : decode cX7_storeSize 12 = .ok (.getfield 7, 3) := by decide +kernel
theorem dX7_storeSize_15 : decode cX7_storeSize 15 = .ok (.sipush 491, 3) := by decide +kernel
theorem dX7_storeSize_18 : decode cX7_storeSize 18 = .ok (.iload_n 2, 1) := by decide +kernel
theorem dX7_storeSize_19 : decode cX7_storeSize 19 = .ok (.iadd, 1) := by decide +kernel
theorem dX7_storeSize_20 : decode cX7_storeSize 20 = .ok (.iaload, 1) := by decide +kernel
theorem dX7_storeSize_21 : decode cX7_storeSize 21 = .ok (.iadd, 1) := by decide +kernel
theorem dX7_storeSize_22 : decode cX7_storeSize 22 = .ok (.istore_n 1, 1) := by decide +kernel
theorem dX7_storeSize_23 : decode cX7_storeSize 23 = .ok (.iinc 2 1, 3) := by decide +kernel
theorem dX7_storeSize_26 : decode cX7_storeSize 26 = .ok (.goto (-22), 3) := by decide +kernel
theorem dX7_storeSize_29 : decode cX7_storeSize 29 = .ok (.iload_n 1, 1) := by decide +kernel
theorem dX7_storeSize_30 : decode cX7_storeSize 30 = .ok (.ireturn, 1) := by decide +kernel
theorem dX7_missing_0 : decode cX7_missing 0 = .ok (.iconst 0, 1) := by decide +kernel
theorem dX7_missing_1 : decode cX7_missing 1 = .ok (.istore_n 2, 1) := by decide +kernel
theorem dX7_missing_2 : decode cX7_missing 2 = .ok (.iconst 0, 1) := by decide +kernel
theorem dX7_missing_3 : decode cX7_missing 3 = .ok (.istore_n 3, 1) := by decide +kernel
theorem dX7_missing_4 : decode cX7_missing 4 = .ok (.iload_n 3, 1) := by decide +kernel
theorem dX7_missing_5 : decode cX7_missing 5 = .ok (.aload_n 0, 1) := by decide +kernel
theorem dX7_missing_6 : decode cX7_missing 6 = .ok (.getfield 72, 3) := by decide +kernel
theorem dX7_missing_9 : decode cX7_missing 9 = .ok (.if_icmp .ge 59, 3) := by decide +kernel
theorem dX7_missing_12 : decode cX7_missing 12 = .ok (.aload_n 0, 1) := by decide +kernel
theorem dX7_missing_13 : decode cX7_missing 13 = .ok (.iload_n 3, 1) := by decide +kernel
theorem dX7_missing_14 : decode cX7_missing 14 = .ok (.invokevirtual 86, 3) := by decide +kernel
theorem dX7_missing_17 : decode cX7_missing 17 = .ok (.ifCond .eq 16, 3) := by decide +kernel
theorem dX7_missing_20 : decode cX7_missing 20 = .ok (.aload_n 0, 1) := by decide +kernel
theorem dX7_missing_21 : decode cX7_missing 21 = .ok (.iload_n 3, 1) := by decide +kernel
theorem dX7_missing_22 : decode cX7_missing 22 = .ok (.invokevirtual 89, 3) := by decide +kernel
theorem dX7_missing_25 : decode cX7_missing 25 = .ok (.iconst (-1), 1) := by decide +kernel
theorem dX7_missing_26 : decode cX7_missing 26 = .ok (.if_icmp .ne 7, 3) := by decide +kernel
theorem dX7_missing_29 : decode cX7_missing 29 = .ok (.iconst 1, 1) := by decide +kernel
theorem dX7_missing_30 : decode cX7_missing 30 = .ok (.goto 4, 3) := by decide +kernel
theorem dX7_missing_33 : decode cX7_missing 33 = .ok (.iconst 0, 1) := by decide +kernel
theorem dX7_missing_34 : decode cX7_missing 34 = .ok (.istore 4, 2) := by decide +kernel
theorem dX7_missing_36 : decode cX7_missing 36 = .ok (.iload_n 2, 1) := by decide +kernel
theorem dX7_missing_37 : decode cX7_missing 37 = .ok (.iload 4, 2) := by decide +kernel
theorem dX7_missing_39 : decode cX7_missing 39 = .ok (.ifCond .eq 20, 3) := by decide +kernel
theorem dX7_missing_42 : decode cX7_missing 42 = .ok (.iload_n 1, 1) := by decide +kernel
theorem dX7_missing_43 : decode cX7_missing 43 = .ok (.ifCond .eq 12, 3) := by decide +kernel
theorem dX7_missing_46 : decode cX7_missing 46 = .ok (.aload_n 0, 1) := by decide +kernel
theorem dX7_missing_47 : decode cX7_missing 47 = .ok (.getfield 32, 3) := by decide +kernel
theorem dX7_missing_50 : decode cX7_missing 50 = .ok (.iload_n 3, 1) := by decide +kernel
theorem dX7_missing_51 : decode cX7_missing 51 = .ok (.iaload, 1) := by decide +kernel
theorem dX7_missing_52 : decode cX7_missing 52 = .ok (.goto 8, 3) := by decide +kernel
theorem dX7_missing_55 : decode cX7_missing 55 = .ok (.iconst 1, 1) := by decide +kernel
theorem dX7_missing_56 : decode cX7_missing 56 = .ok (.goto 4, 3) := by decide +kernel
theorem dX7_missing_59 : decode cX7_missing 59 = .ok (.iconst 0, 1) := by decide +kernel
theorem dX7_missing_60 : decode cX7_missing 60 = .ok (.iadd, 1) := by decide +kernel
theorem dX7_missing_61 : decode cX7_missing 61 = .ok (.istore_n 2, 1) := by decide +kernel
theorem dX7_missing_62 : decode cX7_missing 62 = .ok (.iinc 3 1, 3) := by decide +kernel
theorem dX7_missing_65 : decode cX7_missing 65 = .ok (.goto (-61), 3) := by decide +kernel
theorem dX7_missing_68 : decode cX7_missing 68 = .ok (.iload_n 2, 1) := by decide +kernel
theorem dX7_missing_69 : decode cX7_missing 69 = .ok (.ireturn, 1) := by decide +kernel
theorem dX7_ownersBut_0 : decode cX7_ownersBut 0 = .ok (.aload_n 0, 1) := by decide +kernel
theorem dX7_ownersBut_1 : decode cX7_ownersBut 1 = .ok (.getfield 7, 3) := by decide +kernel
theorem dX7_ownersBut_4 : decode cX7_ownersBut 4 = .ok (.sipush 551, 3) := by decide +kernel
theorem dX7_ownersBut_7 : decode cX7_ownersBut 7 = .ok (.iload_n 1, 1) := by decide +kernel
theorem dX7_ownersBut_8 : decode cX7_ownersBut 8 = .ok (.iadd, 1) := by decide +kernel
theorem dX7_ownersBut_9 : decode cX7_ownersBut 9 = .ok (.iaload, 1) := by decide +kernel
theorem dX7_ownersBut_10 : decode cX7_ownersBut 10 = .ok (.istore_n 3, 1) := by decide +kernel
theorem dX7_ownersBut_11 : decode cX7_ownersBut 11 = .ok (.iconst 0, 1) := by decide +kernel
theorem dX7_ownersBut_12 : decode cX7_ownersBut 12 = .ok (.istore 4, 2) := by decide +kernel
theorem dX7_ownersBut_14 : decode cX7_ownersBut 14 = .ok (.iload 4, 2) := by decide +kernel
theorem dX7_ownersBut_16 : decode cX7_ownersBut 16 = .ok (.aload_n 0, 1) := by decide +kernel
theorem dX7_ownersBut_17 : decode cX7_ownersBut 17 = .ok (.iload_n 2, 1) := by decide +kernel
theorem dX7_ownersBut_18 : decode cX7_ownersBut 18 = .ok (.invokevirtual 58, 3) := by decide +kernel
theorem dX7_ownersBut_21 : decode cX7_ownersBut 21 = .ok (.if_icmp .ge 38, 3) := by decide +kernel
theorem dX7_ownersBut_24 : decode cX7_ownersBut 24 = .ok (.iload_n 3, 1) := by decide +kernel
theorem dX7_ownersBut_25 : decode cX7_ownersBut 25 = .ok (.aload_n 0, 1) := by decide +kernel
theorem dX7_ownersBut_26 : decode cX7_ownersBut 26 = .ok (.iload_n 2, 1) := by decide +kernel
theorem dX7_ownersBut_27 : decode cX7_ownersBut 27 = .ok (.iload 4, 2) := by decide +kernel
theorem dX7_ownersBut_29 : decode cX7_ownersBut 29 = .ok (.invokevirtual 92, 3) := by decide +kernel
theorem dX7_ownersBut_32 : decode cX7_ownersBut 32 = .ok (.ifCond .eq 18, 3) := by decide +kernel
theorem dX7_ownersBut_35 : decode cX7_ownersBut 35 = .ok (.aload_n 0, 1) := by decide +kernel
theorem dX7_ownersBut_36 : decode cX7_ownersBut 36 = .ok (.iload_n 2, 1) := by decide +kernel
theorem dX7_ownersBut_37 : decode cX7_ownersBut 37 = .ok (.iload 4, 2) := by decide +kernel
theorem dX7_ownersBut_39 : decode cX7_ownersBut 39 = .ok (.invokevirtual 95, 3) := by decide +kernel
theorem dX7_ownersBut_42 : decode cX7_ownersBut 42 = .ok (.iload_n 1, 1) := by decide +kernel
theorem dX7_ownersBut_43 : decode cX7_ownersBut 43 = .ok (.if_icmp .ne 7, 3) := by decide +kernel
theorem dX7_ownersBut_46 : decode cX7_ownersBut 46 = .ok (.iconst 1, 1) := by decide +kernel
theorem dX7_ownersBut_47 : decode cX7_ownersBut 47 = .ok (.goto 4, 3) := by decide +kernel
theorem dX7_ownersBut_50 : decode cX7_ownersBut 50 = .ok (.iconst 0, 1) := by decide +kernel
theorem dX7_ownersBut_51 : decode cX7_ownersBut 51 = .ok (.isub, 1) := by decide +kernel
theorem dX7_ownersBut_52 : decode cX7_ownersBut 52 = .ok (.istore_n 3, 1) := by decide +kernel
theorem dX7_ownersBut_53 : decode cX7_ownersBut 53 = .ok (.iinc 4 1, 3) := by decide +kernel
theorem dX7_ownersBut_56 : decode cX7_ownersBut 56 = .ok (.goto (-42), 3) := by decide +kernel
theorem dX7_ownersBut_59 : decode cX7_ownersBut 59 = .ok (.iload_n 3, 1) := by decide +kernel
theorem dX7_ownersBut_60 : decode cX7_ownersBut 60 = .ok (.ireturn, 1) := by decide +kernel
theorem dX7_isNew_0 : decode cX7_isNew 0 = .ok (.iconst 0, 1) := by decide +kernel
theorem dX7_isNew_1 : decode cX7_isNew 1 = .ok (.istore_n 2, 1) := by decide +kernel
theorem dX7_isNew_2 : decode cX7_isNew 2 = .ok (.iconst 0, 1) := by decide +kernel
theorem dX7_isNew_3 : decode cX7_isNew 3 = .ok (.istore_n 3, 1) := by decide +kernel
theorem dX7_isNew_4 : decode cX7_isNew 4 = .ok (.iload_n 3, 1) := by decide +kernel
theorem dX7_isNew_5 : decode cX7_isNew 5 = .ok (.aload_n 0, 1) := by decide +kernel
theorem dX7_isNew_6 : decode cX7_isNew 6 = .ok (.getfield 72, 3) := by decide +kernel
theorem dX7_isNew_9 : decode cX7_isNew 9 = .ok (.if_icmp .ge 54, 3) := by decide +kernel
theorem dX7_isNew_12 : decode cX7_isNew 12 = .ok (.iload_n 2, 1) := by decide +kernel
theorem dX7_isNew_13 : decode cX7_isNew 13 = .ok (.ifCond .ne 38, 3) := by decide +kernel
theorem dX7_isNew_16 : decode cX7_isNew 16 = .ok (.aload_n 0, 1) := by decide +kernel
theorem dX7_isNew_17 : decode cX7_isNew 17 = .ok (.getfield 7, 3) := by decide +kernel
theorem dX7_isNew_20 : decode cX7_isNew 20 = .ok (.sipush 491, 3) := by decide +kernel
theorem dX7_isNew_23 : decode cX7_isNew 23 = .ok (.iload_n 1, 1) := by decide +kernel
theorem dX7_isNew_24 : decode cX7_isNew 24 = .ok (.iadd, 1) := by decide +kernel
theorem dX7_isNew_25 : decode cX7_isNew 25 = .ok (.iaload, 1) := by decide +kernel
theorem dX7_isNew_26 : decode cX7_isNew 26 = .ok (.aload_n 0, 1) := by decide +kernel
theorem dX7_isNew_27 : decode cX7_isNew 27 = .ok (.getfield 32, 3) := by decide +kernel
theorem dX7_isNew_30 : decode cX7_isNew 30 = .ok (.iload_n 3, 1) := by decide +kernel
theorem dX7_isNew_31 : decode cX7_isNew 31 = .ok (.iaload, 1) := by decide +kernel
theorem dX7_isNew_32 : decode cX7_isNew 32 = .ok (.if_icmp .ne 23, 3) := by decide +kernel
theorem dX7_isNew_35 : decode cX7_isNew 35 = .ok (.aload_n 0, 1) := by decide +kernel
theorem dX7_isNew_36 : decode cX7_isNew 36 = .ok (.getfield 13, 3) := by decide +kernel
theorem dX7_isNew_39 : decode cX7_isNew 39 = .ok (.iload_n 1, 1) := by decide +kernel
theorem dX7_isNew_40 : decode cX7_isNew 40 = .ok (.laload, 1) := by decide +kernel
theorem dX7_isNew_41 : decode cX7_isNew 41 = .ok (.aload_n 0, 1) := by decide +kernel
theorem dX7_isNew_42 : decode cX7_isNew 42 = .ok (.getfield 29, 3) := by decide +kernel
theorem dX7_isNew_45 : decode cX7_isNew 45 = .ok (.iload_n 3, 1) := by decide +kernel
theorem dX7_isNew_46 : decode cX7_isNew 46 = .ok (.laload, 1) := by decide +kernel
theorem dX7_isNew_47 : decode cX7_isNew 47 = .ok (.lcmp, 1) := by decide +kernel
theorem dX7_isNew_48 : decode cX7_isNew 48 = .ok (.ifCond .ne 7, 3) := by decide +kernel
theorem dX7_isNew_51 : decode cX7_isNew 51 = .ok (.iconst 1, 1) := by decide +kernel
theorem dX7_isNew_52 : decode cX7_isNew 52 = .ok (.goto 4, 3) := by decide +kernel
theorem dX7_isNew_55 : decode cX7_isNew 55 = .ok (.iconst 0, 1) := by decide +kernel
theorem dX7_isNew_56 : decode cX7_isNew 56 = .ok (.istore_n 2, 1) := by decide +kernel
theorem dX7_isNew_57 : decode cX7_isNew 57 = .ok (.iinc 3 1, 3) := by decide +kernel
theorem dX7_isNew_60 : decode cX7_isNew 60 = .ok (.goto (-56), 3) := by decide +kernel
theorem dX7_isNew_63 : decode cX7_isNew 63 = .ok (.iload_n 2, 1) := by decide +kernel
theorem dX7_isNew_64 : decode cX7_isNew 64 = .ok (.ireturn, 1) := by decide +kernel
theorem dX7_canBeSwept_0 : decode cX7_canBeSwept 0 = .ok (.aload_n 0, 1) := by decide +kernel
theorem dX7_canBeSwept_1 : decode cX7_canBeSwept 1 = .ok (.iload_n 1, 1) := by decide +kernel
theorem dX7_canBeSwept_2 : decode cX7_canBeSwept 2 = .ok (.invokevirtual 82, 3) := by decide +kernel
theorem dX7_canBeSwept_5 : decode cX7_canBeSwept 5 = .ok (.ifCond .eq 24, 3) := by decide +kernel
theorem dX7_canBeSwept_8 : decode cX7_canBeSwept 8 = .ok (.aload_n 0, 1) := by decide +kernel
theorem dX7_canBeSwept_9 : decode cX7_canBeSwept 9 = .ok (.iload_n 1, 1) := by decide +kernel
theorem dX7_canBeSwept_10 : decode cX7_canBeSwept 10 = .ok (.iload_n 2, 1) := by decide +kernel
theorem dX7_canBeSwept_11 : decode cX7_canBeSwept 11 = .ok (.invokevirtual 98, 3) := by decide +kernel
theorem dX7_canBeSwept_14 : decode cX7_canBeSwept 14 = .ok (.ifCond .ne 15, 3) := by decide +kernel
theorem dX7_canBeSwept_17 : decode cX7_canBeSwept 17 = .ok (.aload_n 0, 1) := by decide +kernel
theorem dX7_canBeSwept_18 : decode cX7_canBeSwept 18 = .ok (.iload_n 1, 1) := by decide +kernel
theorem dX7_canBeSwept_19 : decode cX7_canBeSwept 19 = .ok (.invokevirtual 101, 3) := by decide +kernel
theorem dX7_canBeSwept_22 : decode cX7_canBeSwept 22 = .ok (.ifCond .ne 7, 3) := by decide +kernel
theorem dX7_canBeSwept_25 : decode cX7_canBeSwept 25 = .ok (.iconst 1, 1) := by decide +kernel
theorem dX7_canBeSwept_26 : decode cX7_canBeSwept 26 = .ok (.goto 4, 3) := by decide +kernel
theorem dX7_canBeSwept_29 : decode cX7_canBeSwept 29 = .ok (.iconst 0, 1) := by decide +kernel
theorem dX7_canBeSwept_30 : decode cX7_canBeSwept 30 = .ok (.ireturn, 1) := by decide +kernel
theorem dX7_fitsAsItIs_0 : decode cX7_fitsAsItIs 0 = .ok (.aload_n 0, 1) := by decide +kernel
theorem dX7_fitsAsItIs_1 : decode cX7_fitsAsItIs 1 = .ok (.iconst 0, 1) := by decide +kernel
theorem dX7_fitsAsItIs_2 : decode cX7_fitsAsItIs 2 = .ok (.invokevirtual 104, 3) := by decide +kernel
theorem dX7_fitsAsItIs_5 : decode cX7_fitsAsItIs 5 = .ok (.aload_n 0, 1) := by decide +kernel
theorem dX7_fitsAsItIs_6 : decode cX7_fitsAsItIs 6 = .ok (.invokevirtual 108, 3) := by decide +kernel
theorem dX7_fitsAsItIs_9 : decode cX7_fitsAsItIs 9 = .ok (.if_icmp .gt 23, 3) := by decide +kernel
theorem dX7_fitsAsItIs_12 : decode cX7_fitsAsItIs 12 = .ok (.aload_n 0, 1) := by decide +kernel
theorem dX7_fitsAsItIs_13 : decode cX7_fitsAsItIs 13 = .ok (.invokevirtual 112, 3) := by decide +kernel
theorem dX7_fitsAsItIs_16 : decode cX7_fitsAsItIs 16 = .ok (.aload_n 0, 1) := by decide +kernel
theorem dX7_fitsAsItIs_17 : decode cX7_fitsAsItIs 17 = .ok (.iconst 1, 1) := by decide +kernel
theorem dX7_fitsAsItIs_18 : decode cX7_fitsAsItIs 18 = .ok (.invokevirtual 104, 3) := by decide +kernel
theorem dX7_fitsAsItIs_21 : decode cX7_fitsAsItIs 21 = .ok (.iadd, 1) := by decide +kernel
theorem dX7_fitsAsItIs_22 : decode cX7_fitsAsItIs 22 = .ok (.sipush 150, 3) := by decide +kernel
theorem dX7_fitsAsItIs_25 : decode cX7_fitsAsItIs 25 = .ok (.if_icmp .gt 7, 3) := by decide +kernel
theorem dX7_fitsAsItIs_28 : decode cX7_fitsAsItIs 28 = .ok (.iconst 1, 1) := by decide +kernel
theorem dX7_fitsAsItIs_29 : decode cX7_fitsAsItIs 29 = .ok (.goto 4, 3) := by decide +kernel
theorem dX7_fitsAsItIs_32 : decode cX7_fitsAsItIs 32 = .ok (.iconst 0, 1) := by decide +kernel
theorem dX7_fitsAsItIs_33 : decode cX7_fitsAsItIs 33 = .ok (.ireturn, 1) := by decide +kernel
theorem dX7_fitsSwept_0 : decode cX7_fitsSwept 0 = .ok (.aload_n 0, 1) := by decide +kernel
theorem dX7_fitsSwept_1 : decode cX7_fitsSwept 1 = .ok (.invokevirtual 108, 3) := by decide +kernel
theorem dX7_fitsSwept_4 : decode cX7_fitsSwept 4 = .ok (.istore_n 2, 1) := by decide +kernel
theorem dX7_fitsSwept_5 : decode cX7_fitsSwept 5 = .ok (.aload_n 0, 1) := by decide +kernel
theorem dX7_fitsSwept_6 : decode cX7_fitsSwept 6 = .ok (.invokevirtual 112, 3) := by decide +kernel
theorem dX7_fitsSwept_9 : decode cX7_fitsSwept 9 = .ok (.istore_n 3, 1) := by decide +kernel
theorem dX7_fitsSwept_10 : decode cX7_fitsSwept 10 = .ok (.iconst 0, 1) := by decide +kernel
theorem dX7_fitsSwept_11 : decode cX7_fitsSwept 11 = .ok (.istore 4, 2) := by decide +kernel
theorem dX7_fitsSwept_13 : decode cX7_fitsSwept 13 = .ok (.iload 4, 2) := by decide +kernel
theorem dX7_fitsSwept_15 : decode cX7_fitsSwept 15 = .ok (.bipush 60, 2) := by decide +kernel
theorem dX7_fitsSwept_17 : decode cX7_fitsSwept 17 = .ok (.if_icmp .ge 36, 3) := by decide +kernel
theorem dX7_fitsSwept_20 : decode cX7_fitsSwept 20 = .ok (.aload_n 0, 1) := by decide +kernel
theorem dX7_fitsSwept_21 : decode cX7_fitsSwept 21 = .ok (.iload 4, 2) := by decide +kernel
theorem dX7_fitsSwept_23 : decode cX7_fitsSwept 23 = .ok (.iload_n 1, 1) := by decide +kernel
theorem dX7_fitsSwept_24 : decode cX7_fitsSwept 24 = .ok (.invokevirtual 115, 3) := by decide +kernel
theorem dX7_fitsSwept_27 : decode cX7_fitsSwept 27 = .ok (.ifCond .eq 20, 3) := by decide +kernel
theorem dX7_fitsSwept_30 : decode cX7_fitsSwept 30 = .ok (.iinc 2 1, 3) := by decide +kernel
theorem dX7_fitsSwept_33 : decode cX7_fitsSwept 33 = .ok (.iload_n 3, 1) := by decide +kernel
theorem dX7_fitsSwept_34 : decode cX7_fitsSwept 34 = .ok (.aload_n 0, 1) := by decide +kernel
theorem dX7_fitsSwept_35 : decode cX7_fitsSwept 35 = .ok (.getfield 7, 3) := by decide +kernel
theorem dX7_fitsSwept_38 : decode cX7_fitsSwept 38 = .ok (.sipush 491, 3) := by decide +kernel
theorem dX7_fitsSwept_41 : decode cX7_fitsSwept 41 = .ok (.iload 4, 2) := by decide +kernel
theorem dX7_fitsSwept_43 : decode cX7_fitsSwept 43 = .ok (.iadd, 1) := by decide +kernel
theorem dX7_fitsSwept_44 : decode cX7_fitsSwept 44 = .ok (.iaload, 1) := by decide +kernel
theorem dX7_fitsSwept_45 : decode cX7_fitsSwept 45 = .ok (.isub, 1) := by decide +kernel
theorem dX7_fitsSwept_46 : decode cX7_fitsSwept 46 = .ok (.istore_n 3, 1) := by decide +kernel
theorem dX7_fitsSwept_47 : decode cX7_fitsSwept 47 = .ok (.iinc 4 1, 3) := by decide +kernel
theorem dX7_fitsSwept_50 : decode cX7_fitsSwept 50 = .ok (.goto (-37), 3) := by decide +kernel
theorem dX7_fitsSwept_53 : decode cX7_fitsSwept 53 = .ok (.aload_n 0, 1) := by decide +kernel
theorem dX7_fitsSwept_54 : decode cX7_fitsSwept 54 = .ok (.iconst 0, 1) := by decide +kernel
theorem dX7_fitsSwept_55 : decode cX7_fitsSwept 55 = .ok (.invokevirtual 104, 3) := by decide +kernel
theorem dX7_fitsSwept_58 : decode cX7_fitsSwept 58 = .ok (.iload_n 2, 1) := by decide +kernel
theorem dX7_fitsSwept_59 : decode cX7_fitsSwept 59 = .ok (.if_icmp .gt 20, 3) := by decide +kernel
theorem dX7_fitsSwept_62 : decode cX7_fitsSwept 62 = .ok (.iload_n 3, 1) := by decide +kernel
theorem dX7_fitsSwept_63 : decode cX7_fitsSwept 63 = .ok (.aload_n 0, 1) := by decide +kernel
theorem dX7_fitsSwept_64 : decode cX7_fitsSwept 64 = .ok (.iconst 1, 1) := by decide +kernel
theorem dX7_fitsSwept_65 : decode cX7_fitsSwept 65 = .ok (.invokevirtual 104, 3) := by decide +kernel
theorem dX7_fitsSwept_68 : decode cX7_fitsSwept 68 = .ok (.iadd, 1) := by decide +kernel
theorem dX7_fitsSwept_69 : decode cX7_fitsSwept 69 = .ok (.sipush 150, 3) := by decide +kernel
theorem dX7_fitsSwept_72 : decode cX7_fitsSwept 72 = .ok (.if_icmp .gt 7, 3) := by decide +kernel
theorem dX7_fitsSwept_75 : decode cX7_fitsSwept 75 = .ok (.iconst 1, 1) := by decide +kernel
theorem dX7_fitsSwept_76 : decode cX7_fitsSwept 76 = .ok (.goto 4, 3) := by decide +kernel
theorem dX7_fitsSwept_79 : decode cX7_fitsSwept 79 = .ok (.iconst 0, 1) := by decide +kernel
theorem dX7_fitsSwept_80 : decode cX7_fitsSwept 80 = .ok (.ireturn, 1) := by decide +kernel
theorem dX7_isRefused_0 : decode cX7_isRefused 0 = .ok (.aload_n 0, 1) := by decide +kernel
theorem dX7_isRefused_1 : decode cX7_isRefused 1 = .ok (.invokevirtual 118, 3) := by decide +kernel
theorem dX7_isRefused_4 : decode cX7_isRefused 4 = .ok (.ifCond .ne 15, 3) := by decide +kernel
theorem dX7_isRefused_7 : decode cX7_isRefused 7 = .ok (.aload_n 0, 1) := by decide +kernel
theorem dX7_isRefused_8 : decode cX7_isRefused 8 = .ok (.iload_n 1, 1) := by decide +kernel
theorem dX7_isRefused_9 : decode cX7_isRefused 9 = .ok (.invokevirtual 122, 3) := by decide +kernel
theorem dX7_isRefused_12 : decode cX7_isRefused 12 = .ok (.ifCond .ne 7, 3) := by decide +kernel
theorem dX7_isRefused_15 : decode cX7_isRefused 15 = .ok (.iconst 1, 1) := by decide +kernel
theorem dX7_isRefused_16 : decode cX7_isRefused 16 = .ok (.goto 4, 3) := by decide +kernel
theorem dX7_isRefused_19 : decode cX7_isRefused 19 = .ok (.iconst 0, 1) := by decide +kernel
theorem dX7_isRefused_20 : decode cX7_isRefused 20 = .ok (.ireturn, 1) := by decide +kernel
theorem dX7_sweepSlot_0 : decode cX7_sweepSlot 0 = .ok (.aload_n 0, 1) := by decide +kernel
theorem dX7_sweepSlot_1 : decode cX7_sweepSlot 1 = .ok (.getfield 7, 3) := by decide +kernel
theorem dX7_sweepSlot_4 : decode cX7_sweepSlot 4 = .ok (.sipush 491, 3) := by decide +kernel
theorem dX7_sweepSlot_7 : decode cX7_sweepSlot 7 = .ok (.iload_n 1, 1) := by decide +kernel
theorem dX7_sweepSlot_8 : decode cX7_sweepSlot 8 = .ok (.iadd, 1) := by decide +kernel
theorem dX7_sweepSlot_9 : decode cX7_sweepSlot 9 = .ok (.iconst 0, 1) := by decide +kernel
theorem dX7_sweepSlot_10 : decode cX7_sweepSlot 10 = .ok (.iastore, 1) := by decide +kernel
theorem dX7_sweepSlot_11 : decode cX7_sweepSlot 11 = .ok (.aload_n 0, 1) := by decide +kernel
theorem dX7_sweepSlot_12 : decode cX7_sweepSlot 12 = .ok (.getfield 7, 3) := by decide +kernel
theorem dX7_sweepSlot_15 : decode cX7_sweepSlot 15 = .ok (.sipush 551, 3) := by decide +kernel
theorem dX7_sweepSlot_18 : decode cX7_sweepSlot 18 = .ok (.iload_n 1, 1) := by decide +kernel
theorem dX7_sweepSlot_19 : decode cX7_sweepSlot 19 = .ok (.iadd, 1) := by decide +kernel
theorem dX7_sweepSlot_20 : decode cX7_sweepSlot 20 = .ok (.iconst 0, 1) := by decide +kernel
theorem dX7_sweepSlot_21 : decode cX7_sweepSlot 21 = .ok (.iastore, 1) := by decide +kernel
theorem dX7_sweepSlot_22 : decode cX7_sweepSlot 22 = .ok (.aload_n 0, 1) := by decide +kernel
theorem dX7_sweepSlot_23 : decode cX7_sweepSlot 23 = .ok (.getfield 13, 3) := by decide +kernel
theorem dX7_sweepSlot_26 : decode cX7_sweepSlot 26 = .ok (.iload_n 1, 1) := by decide +kernel
theorem dX7_sweepSlot_27 : decode cX7_sweepSlot 27 = .ok (.lconst 0, 1) := by decide +kernel
theorem dX7_sweepSlot_28 : decode cX7_sweepSlot 28 = .ok (.lastore, 1) := by decide +kernel
theorem dX7_sweepSlot_29 : decode cX7_sweepSlot 29 = .ok (.aload_n 0, 1) := by decide +kernel
theorem dX7_sweepSlot_30 : decode cX7_sweepSlot 30 = .ok (.getfield 7, 3) := by decide +kernel
theorem dX7_sweepSlot_33 : decode cX7_sweepSlot 33 = .ok (.bipush 6, 2) := by decide +kernel
theorem dX7_sweepSlot_35 : decode cX7_sweepSlot 35 = .ok (.dup2, 1) := by decide +kernel
theorem dX7_sweepSlot_36 : decode cX7_sweepSlot 36 = .ok (.iaload, 1) := by decide +kernel
theorem dX7_sweepSlot_37 : decode cX7_sweepSlot 37 = .ok (.iconst 1, 1) := by decide +kernel
theorem dX7_sweepSlot_38 : decode cX7_sweepSlot 38 = .ok (.iadd, 1) := by decide +kernel
theorem dX7_sweepSlot_39 : decode cX7_sweepSlot 39 = .ok (.iastore, 1) := by decide +kernel
theorem dX7_sweepSlot_40 : decode cX7_sweepSlot 40 = .ok (.return_, 1) := by decide +kernel
theorem dX7_clearText_0 : decode cX7_clearText 0 = .ok (.iconst 0, 1) := by decide +kernel
theorem dX7_clearText_1 : decode cX7_clearText 1 = .ok (.istore_n 2, 1) := by decide +kernel
theorem dX7_clearText_2 : decode cX7_clearText 2 = .ok (.iload_n 2, 1) := by decide +kernel
theorem dX7_clearText_3 : decode cX7_clearText 3 = .ok (.bipush 60, 2) := by decide +kernel
theorem dX7_clearText_5 : decode cX7_clearText 5 = .ok (.if_icmp .ge 25, 3) := by decide +kernel
theorem dX7_clearText_8 : decode cX7_clearText 8 = .ok (.aload_n 0, 1) := by decide +kernel
theorem dX7_clearText_9 : decode cX7_clearText 9 = .ok (.getfield 7, 3) := by decide +kernel
theorem dX7_clearText_12 : decode cX7_clearText 12 = .ok (.sipush 551, 3) := by decide +kernel
theorem dX7_clearText_15 : decode cX7_clearText 15 = .ok (.iload_n 2, 1) := by decide +kernel
theorem dX7_clearText_16 : decode cX7_clearText 16 = .ok (.iadd, 1) := by decide +kernel
theorem dX7_clearText_17 : decode cX7_clearText 17 = .ok (.aload_n 0, 1) := by decide +kernel
theorem dX7_clearText_18 : decode cX7_clearText 18 = .ok (.iload_n 2, 1) := by decide +kernel
theorem dX7_clearText_19 : decode cX7_clearText 19 = .ok (.iload_n 1, 1) := by decide +kernel
theorem dX7_clearText_20 : decode cX7_clearText 20 = .ok (.invokevirtual 98, 3) := by decide +kernel
theorem dX7_clearText_23 : decode cX7_clearText 23 = .ok (.iastore, 1) := by decide +kernel
theorem dX7_clearText_24 : decode cX7_clearText 24 = .ok (.iinc 2 1, 3) := by decide +kernel
theorem dX7_clearText_27 : decode cX7_clearText 27 = .ok (.goto (-25), 3) := by decide +kernel
theorem dX7_clearText_30 : decode cX7_clearText 30 = .ok (.aload_n 0, 1) := by decide +kernel
theorem dX7_clearText_31 : decode cX7_clearText 31 = .ok (.getfield 7, 3) := by decide +kernel
theorem dX7_clearText_34 : decode cX7_clearText 34 = .ok (.bipush 7, 2) := by decide +kernel
theorem dX7_clearText_36 : decode cX7_clearText 36 = .ok (.iload_n 1, 1) := by decide +kernel
theorem dX7_clearText_37 : decode cX7_clearText 37 = .ok (.iadd, 1) := by decide +kernel
theorem dX7_clearText_38 : decode cX7_clearText 38 = .ok (.iconst 0, 1) := by decide +kernel
theorem dX7_clearText_39 : decode cX7_clearText 39 = .ok (.iastore, 1) := by decide +kernel
theorem dX7_clearText_40 : decode cX7_clearText 40 = .ok (.iconst 0, 1) := by decide +kernel
theorem dX7_clearText_41 : decode cX7_clearText 41 = .ok (.istore_n 2, 1) := by decide +kernel
theorem dX7_clearText_42 : decode cX7_clearText 42 = .ok (.iload_n 2, 1) := by decide +kernel
theorem dX7_clearText_43 : decode cX7_clearText 43 = .ok (.bipush 40, 2) := by decide +kernel
theorem dX7_clearText_45 : decode cX7_clearText 45 = .ok (.if_icmp .ge 56, 3) := by decide +kernel
theorem dX7_clearText_48 : decode cX7_clearText 48 = .ok (.aload_n 0, 1) := by decide +kernel
theorem dX7_clearText_49 : decode cX7_clearText 49 = .ok (.getfield 7, 3) := by decide +kernel
theorem dX7_clearText_52 : decode cX7_clearText 52 = .ok (.bipush 11, 2) := by decide +kernel
theorem dX7_clearText_54 : decode cX7_clearText 54 = .ok (.bipush 40, 2) := by decide +kernel
theorem dX7_clearText_56 : decode cX7_clearText 56 = .ok (.iload_n 1, 1) := by decide +kernel
theorem dX7_clearText_57 : decode cX7_clearText 57 = .ok (.imul, 1) := by decide +kernel
theorem dX7_clearText_58 : decode cX7_clearText 58 = .ok (.iadd, 1) := by decide +kernel
theorem dX7_clearText_59 : decode cX7_clearText 59 = .ok (.iload_n 2, 1) := by decide +kernel
theorem dX7_clearText_60 : decode cX7_clearText 60 = .ok (.iadd, 1) := by decide +kernel
theorem dX7_clearText_61 : decode cX7_clearText 61 = .ok (.iconst 0, 1) := by decide +kernel
theorem dX7_clearText_62 : decode cX7_clearText 62 = .ok (.iastore, 1) := by decide +kernel
theorem dX7_clearText_63 : decode cX7_clearText 63 = .ok (.aload_n 0, 1) := by decide +kernel
theorem dX7_clearText_64 : decode cX7_clearText 64 = .ok (.getfield 7, 3) := by decide +kernel
theorem dX7_clearText_67 : decode cX7_clearText 67 = .ok (.sipush 171, 3) := by decide +kernel
theorem dX7_clearText_70 : decode cX7_clearText 70 = .ok (.bipush 40, 2) := by decide +kernel
theorem dX7_clearText_72 : decode cX7_clearText 72 = .ok (.iload_n 1, 1) := by decide +kernel
theorem dX7_clearText_73 : decode cX7_clearText 73 = .ok (.imul, 1) := by decide +kernel
theorem dX7_clearText_74 : decode cX7_clearText 74 = .ok (.iadd, 1) := by decide +kernel
theorem dX7_clearText_75 : decode cX7_clearText 75 = .ok (.iload_n 2, 1) := by decide +kernel
theorem dX7_clearText_76 : decode cX7_clearText 76 = .ok (.iadd, 1) := by decide +kernel
theorem dX7_clearText_77 : decode cX7_clearText 77 = .ok (.iconst 0, 1) := by decide +kernel
theorem dX7_clearText_78 : decode cX7_clearText 78 = .ok (.iastore, 1) := by decide +kernel
theorem dX7_clearText_79 : decode cX7_clearText 79 = .ok (.aload_n 0, 1) := by decide +kernel
theorem dX7_clearText_80 : decode cX7_clearText 80 = .ok (.getfield 7, 3) := by decide +kernel
theorem dX7_clearText_83 : decode cX7_clearText 83 = .ok (.sipush 331, 3) := by decide +kernel
theorem dX7_clearText_86 : decode cX7_clearText 86 = .ok (.bipush 40, 2) := by decide +kernel
theorem dX7_clearText_88 : decode cX7_clearText 88 = .ok (.iload_n 1, 1) := by decide +kernel
theorem dX7_clearText_89 : decode cX7_clearText 89 = .ok (.imul, 1) := by decide +kernel
theorem dX7_clearText_90 : decode cX7_clearText 90 = .ok (.iadd, 1) := by decide +kernel
theorem dX7_clearText_91 : decode cX7_clearText 91 = .ok (.iload_n 2, 1) := by decide +kernel
theorem dX7_clearText_92 : decode cX7_clearText 92 = .ok (.iadd, 1) := by decide +kernel
theorem dX7_clearText_93 : decode cX7_clearText 93 = .ok (.iconst 0, 1) := by decide +kernel
theorem dX7_clearText_94 : decode cX7_clearText 94 = .ok (.iastore, 1) := by decide +kernel
theorem dX7_clearText_95 : decode cX7_clearText 95 = .ok (.iinc 2 1, 3) := by decide +kernel
theorem dX7_clearText_98 : decode cX7_clearText 98 = .ok (.goto (-56), 3) := by decide +kernel
theorem dX7_clearText_101 : decode cX7_clearText 101 = .ok (.return_, 1) := by decide +kernel
theorem dX7_lowestFree_0 : decode cX7_lowestFree 0 = .ok (.iconst 0, 1) := by decide +kernel
theorem dX7_lowestFree_1 : decode cX7_lowestFree 1 = .ok (.istore_n 1, 1) := by decide +kernel
theorem dX7_lowestFree_2 : decode cX7_lowestFree 2 = .ok (.aload_n 0, 1) := by decide +kernel
theorem dX7_lowestFree_3 : decode cX7_lowestFree 3 = .ok (.iload_n 1, 1) := by decide +kernel
theorem dX7_lowestFree_4 : decode cX7_lowestFree 4 = .ok (.invokevirtual 82, 3) := by decide +kernel
theorem dX7_lowestFree_7 : decode cX7_lowestFree 7 = .ok (.ifCond .eq 9, 3) := by decide +kernel
theorem dX7_lowestFree_10 : decode cX7_lowestFree 10 = .ok (.iinc 1 1, 3) := by decide +kernel
theorem dX7_lowestFree_13 : decode cX7_lowestFree 13 = .ok (.goto (-11), 3) := by decide +kernel
theorem dX7_lowestFree_16 : decode cX7_lowestFree 16 = .ok (.iload_n 1, 1) := by decide +kernel
theorem dX7_lowestFree_17 : decode cX7_lowestFree 17 = .ok (.ireturn, 1) := by decide +kernel
theorem dX7_comes_0 : decode cX7_comes 0 = .ok (.aload_n 0, 1) := by decide +kernel
theorem dX7_comes_1 : decode cX7_comes 1 = .ok (.iload_n 1, 1) := by decide +kernel
theorem dX7_comes_2 : decode cX7_comes 2 = .ok (.invokevirtual 89, 3) := by decide +kernel
theorem dX7_comes_5 : decode cX7_comes 5 = .ok (.istore_n 2, 1) := by decide +kernel
theorem dX7_comes_6 : decode cX7_comes 6 = .ok (.iload_n 2, 1) := by decide +kernel
theorem dX7_comes_7 : decode cX7_comes 7 = .ok (.iconst (-1), 1) := by decide +kernel
theorem dX7_comes_8 : decode cX7_comes 8 = .ok (.if_icmp .ne 46, 3) := by decide +kernel
theorem dX7_comes_11 : decode cX7_comes 11 = .ok (.aload_n 0, 1) := by decide +kernel
theorem dX7_comes_12 : decode cX7_comes 12 = .ok (.invokevirtual 125, 3) := by decide +kernel
theorem dX7_comes_15 : decode cX7_comes 15 = .ok (.istore_n 2, 1) := by decide +kernel
theorem dX7_comes_16 : decode cX7_comes 16 = .ok (.aload_n 0, 1) := by decide +kernel
theorem dX7_comes_17 : decode cX7_comes 17 = .ok (.getfield 7, 3) := by decide +kernel
theorem dX7_comes_20 : decode cX7_comes 20 = .ok (.sipush 491, 3) := by decide +kernel
theorem dX7_comes_23 : decode cX7_comes 23 = .ok (.iload_n 2, 1) := by decide +kernel
theorem dX7_comes_24 : decode cX7_comes 24 = .ok (.iadd, 1) := by decide +kernel
theorem dX7_comes_25 : decode cX7_comes 25 = .ok (.aload_n 0, 1) := by decide +kernel
theorem dX7_comes_26 : decode cX7_comes 26 = .ok (.getfield 32, 3) := by decide +kernel
theorem dX7_comes_29 : decode cX7_comes 29 = .ok (.iload_n 1, 1) := by decide +kernel
theorem dX7_comes_30 : decode cX7_comes 30 = .ok (.iaload, 1) := by decide +kernel
theorem dX7_comes_31 : decode cX7_comes 31 = .ok (.iastore, 1) := by decide +kernel
theorem dX7_comes_32 : decode cX7_comes 32 = .ok (.aload_n 0, 1) := by decide +kernel
theorem dX7_comes_33 : decode cX7_comes 33 = .ok (.getfield 13, 3) := by decide +kernel
theorem dX7_comes_36 : decode cX7_comes 36 = .ok (.iload_n 2, 1) := by decide +kernel
theorem dX7_comes_37 : decode cX7_comes 37 = .ok (.aload_n 0, 1) := by decide +kernel
theorem dX7_comes_38 : decode cX7_comes 38 = .ok (.getfield 29, 3) := by decide +kernel
theorem dX7_comes_41 : decode cX7_comes 41 = .ok (.iload_n 1, 1) := by decide +kernel
theorem dX7_comes_42 : decode cX7_comes 42 = .ok (.laload, 1) := by decide +kernel
theorem dX7_comes_43 : decode cX7_comes 43 = .ok (.lastore, 1) := by decide +kernel
theorem dX7_comes_44 : decode cX7_comes 44 = .ok (.aload_n 0, 1) := by decide +kernel
theorem dX7_comes_45 : decode cX7_comes 45 = .ok (.getfield 7, 3) := by decide +kernel
theorem dX7_comes_48 : decode cX7_comes 48 = .ok (.iconst 5, 1) := by decide +kernel
theorem dX7_comes_49 : decode cX7_comes 49 = .ok (.dup2, 1) := by decide +kernel
theorem dX7_comes_50 : decode cX7_comes 50 = .ok (.iaload, 1) := by decide +kernel
theorem dX7_comes_51 : decode cX7_comes 51 = .ok (.iconst 1, 1) := by decide +kernel
theorem dX7_comes_52 : decode cX7_comes 52 = .ok (.iadd, 1) := by decide +kernel
theorem dX7_comes_53 : decode cX7_comes 53 = .ok (.iastore, 1) := by decide +kernel
theorem dX7_comes_54 : decode cX7_comes 54 = .ok (.aload_n 0, 1) := by decide +kernel
theorem dX7_comes_55 : decode cX7_comes 55 = .ok (.getfield 7, 3) := by decide +kernel
theorem dX7_comes_58 : decode cX7_comes 58 = .ok (.sipush 551, 3) := by decide +kernel
theorem dX7_comes_61 : decode cX7_comes 61 = .ok (.iload_n 2, 1) := by decide +kernel
theorem dX7_comes_62 : decode cX7_comes 62 = .ok (.iadd, 1) := by decide +kernel
theorem dX7_comes_63 : decode cX7_comes 63 = .ok (.dup2, 1) := by decide +kernel
theorem dX7_comes_64 : decode cX7_comes 64 = .ok (.iaload, 1) := by decide +kernel
theorem dX7_comes_65 : decode cX7_comes 65 = .ok (.iconst 1, 1) := by decide +kernel
theorem dX7_comes_66 : decode cX7_comes 66 = .ok (.iadd, 1) := by decide +kernel
theorem dX7_comes_67 : decode cX7_comes 67 = .ok (.iastore, 1) := by decide +kernel
theorem dX7_comes_68 : decode cX7_comes 68 = .ok (.iload_n 2, 1) := by decide +kernel
theorem dX7_comes_69 : decode cX7_comes 69 = .ok (.ireturn, 1) := by decide +kernel
theorem dX7_lay_0 : decode cX7_lay 0 = .ok (.aload_n 0, 1) := by decide +kernel
theorem dX7_lay_1 : decode cX7_lay 1 = .ok (.invokevirtual 118, 3) := by decide +kernel
theorem dX7_lay_4 : decode cX7_lay 4 = .ok (.ifCond .ne 7, 3) := by decide +kernel
theorem dX7_lay_7 : decode cX7_lay 7 = .ok (.iconst 1, 1) := by decide +kernel
theorem dX7_lay_8 : decode cX7_lay 8 = .ok (.goto 4, 3) := by decide +kernel
theorem dX7_lay_11 : decode cX7_lay 11 = .ok (.iconst 0, 1) := by decide +kernel
theorem dX7_lay_12 : decode cX7_lay 12 = .ok (.istore_n 2, 1) := by decide +kernel
theorem dX7_lay_13 : decode cX7_lay 13 = .ok (.aload_n 0, 1) := by decide +kernel
theorem dX7_lay_14 : decode cX7_lay 14 = .ok (.iload_n 1, 1) := by decide +kernel
theorem dX7_lay_15 : decode cX7_lay 15 = .ok (.invokevirtual 128, 3) := by decide +kernel
theorem dX7_lay_18 : decode cX7_lay 18 = .ok (.iconst 0, 1) := by decide +kernel
theorem dX7_lay_19 : decode cX7_lay 19 = .ok (.istore_n 3, 1) := by decide +kernel
theorem dX7_lay_20 : decode cX7_lay 20 = .ok (.iload_n 3, 1) := by decide +kernel
theorem dX7_lay_21 : decode cX7_lay 21 = .ok (.bipush 60, 2) := by decide +kernel
theorem dX7_lay_23 : decode cX7_lay 23 = .ok (.if_icmp .ge 27, 3) := by decide +kernel
theorem dX7_lay_26 : decode cX7_lay 26 = .ok (.iload_n 2, 1) := by decide +kernel
theorem dX7_lay_27 : decode cX7_lay 27 = .ok (.ifCond .eq 23, 3) := by decide +kernel
theorem dX7_lay_30 : decode cX7_lay 30 = .ok (.aload_n 0, 1) := by decide +kernel
theorem dX7_lay_31 : decode cX7_lay 31 = .ok (.iload_n 3, 1) := by decide +kernel
theorem dX7_lay_32 : decode cX7_lay 32 = .ok (.iload_n 1, 1) := by decide +kernel
theorem dX7_lay_33 : decode cX7_lay 33 = .ok (.invokevirtual 115, 3) := by decide +kernel
theorem dX7_lay_36 : decode cX7_lay 36 = .ok (.ifCond .eq 8, 3) := by decide +kernel
theorem dX7_lay_39 : decode cX7_lay 39 = .ok (.aload_n 0, 1) := by decide +kernel
theorem dX7_lay_40 : decode cX7_lay 40 = .ok (.iload_n 3, 1) := by decide +kernel
theorem dX7_lay_41 : decode cX7_lay 41 = .ok (.invokevirtual 132, 3) := by decide +kernel
theorem dX7_lay_44 : decode cX7_lay 44 = .ok (.iinc 3 1, 3) := by decide +kernel
end
section
theorem dX7_lay_47 : decode cX7_lay 47 = .ok (.goto (-27), 3) := by decide +kernel
theorem dX7_lay_50 : decode cX7_lay 50 = .ok (.aload_n 0, 1) := by decide +kernel
theorem dX7_lay_51 : decode cX7_lay 51 = .ok (.getfield 7, 3) := by decide +kernel
theorem dX7_lay_54 : decode cX7_lay 54 = .ok (.bipush 7, 2) := by decide +kernel
theorem dX7_lay_56 : decode cX7_lay 56 = .ok (.iload_n 1, 1) := by decide +kernel
theorem dX7_lay_57 : decode cX7_lay 57 = .ok (.iadd, 1) := by decide +kernel
theorem dX7_lay_58 : decode cX7_lay 58 = .ok (.aload_n 0, 1) := by decide +kernel
theorem dX7_lay_59 : decode cX7_lay 59 = .ok (.getfield 62, 3) := by decide +kernel
theorem dX7_lay_62 : decode cX7_lay 62 = .ok (.iastore, 1) := by decide +kernel
theorem dX7_lay_63 : decode cX7_lay 63 = .ok (.iconst 0, 1) := by decide +kernel
theorem dX7_lay_64 : decode cX7_lay 64 = .ok (.istore_n 3, 1) := by decide +kernel
theorem dX7_lay_65 : decode cX7_lay 65 = .ok (.iconst 0, 1) := by decide +kernel
theorem dX7_lay_66 : decode cX7_lay 66 = .ok (.istore 4, 2) := by decide +kernel
theorem dX7_lay_68 : decode cX7_lay 68 = .ok (.iload 4, 2) := by decide +kernel
theorem dX7_lay_70 : decode cX7_lay 70 = .ok (.aload_n 0, 1) := by decide +kernel
theorem dX7_lay_71 : decode cX7_lay 71 = .ok (.getfield 72, 3) := by decide +kernel
theorem dX7_lay_74 : decode cX7_lay 74 = .ok (.if_icmp .ge 116, 3) := by decide +kernel
theorem dX7_lay_77 : decode cX7_lay 77 = .ok (.aload_n 0, 1) := by decide +kernel
theorem dX7_lay_78 : decode cX7_lay 78 = .ok (.iload 4, 2) := by decide +kernel
theorem dX7_lay_80 : decode cX7_lay 80 = .ok (.invokevirtual 135, 3) := by decide +kernel
theorem dX7_lay_83 : decode cX7_lay 83 = .ok (.istore 5, 2) := by decide +kernel
theorem dX7_lay_85 : decode cX7_lay 85 = .ok (.iconst 1, 1) := by decide +kernel
theorem dX7_lay_86 : decode cX7_lay 86 = .ok (.istore 6, 2) := by decide +kernel
theorem dX7_lay_88 : decode cX7_lay 88 = .ok (.iload 6, 2) := by decide +kernel
theorem dX7_lay_90 : decode cX7_lay 90 = .ok (.aload_n 0, 1) := by decide +kernel
theorem dX7_lay_91 : decode cX7_lay 91 = .ok (.getfield 32, 3) := by decide +kernel
theorem dX7_lay_94 : decode cX7_lay 94 = .ok (.iload 4, 2) := by decide +kernel
theorem dX7_lay_96 : decode cX7_lay 96 = .ok (.iaload, 1) := by decide +kernel
theorem dX7_lay_97 : decode cX7_lay 97 = .ok (.if_icmp .gt 87, 3) := by decide +kernel
theorem dX7_lay_100 : decode cX7_lay 100 = .ok (.aload_n 0, 1) := by decide +kernel
theorem dX7_lay_101 : decode cX7_lay 101 = .ok (.getfield 7, 3) := by decide +kernel
theorem dX7_lay_104 : decode cX7_lay 104 = .ok (.bipush 11, 2) := by decide +kernel
theorem dX7_lay_106 : decode cX7_lay 106 = .ok (.bipush 40, 2) := by decide +kernel
theorem dX7_lay_108 : decode cX7_lay 108 = .ok (.iload_n 1, 1) := by decide +kernel
theorem dX7_lay_109 : decode cX7_lay 109 = .ok (.imul, 1) := by decide +kernel
theorem dX7_lay_110 : decode cX7_lay 110 = .ok (.iadd, 1) := by decide +kernel
theorem dX7_lay_111 : decode cX7_lay 111 = .ok (.iload_n 3, 1) := by decide +kernel
theorem dX7_lay_112 : decode cX7_lay 112 = .ok (.iadd, 1) := by decide +kernel
theorem dX7_lay_113 : decode cX7_lay 113 = .ok (.aload_n 0, 1) := by decide +kernel
theorem dX7_lay_114 : decode cX7_lay 114 = .ok (.getfield 26, 3) := by decide +kernel
theorem dX7_lay_117 : decode cX7_lay 117 = .ok (.iload_n 3, 1) := by decide +kernel
theorem dX7_lay_118 : decode cX7_lay 118 = .ok (.iaload, 1) := by decide +kernel
theorem dX7_lay_119 : decode cX7_lay 119 = .ok (.iastore, 1) := by decide +kernel
theorem dX7_lay_120 : decode cX7_lay 120 = .ok (.aload_n 0, 1) := by decide +kernel
theorem dX7_lay_121 : decode cX7_lay 121 = .ok (.getfield 7, 3) := by decide +kernel
theorem dX7_lay_124 : decode cX7_lay 124 = .ok (.sipush 171, 3) := by decide +kernel
theorem dX7_lay_127 : decode cX7_lay 127 = .ok (.bipush 40, 2) := by decide +kernel
theorem dX7_lay_129 : decode cX7_lay 129 = .ok (.iload_n 1, 1) := by decide +kernel
theorem dX7_lay_130 : decode cX7_lay 130 = .ok (.imul, 1) := by decide +kernel
theorem dX7_lay_131 : decode cX7_lay 131 = .ok (.iadd, 1) := by decide +kernel
theorem dX7_lay_132 : decode cX7_lay 132 = .ok (.iload_n 3, 1) := by decide +kernel
theorem dX7_lay_133 : decode cX7_lay 133 = .ok (.iadd, 1) := by decide +kernel
theorem dX7_lay_134 : decode cX7_lay 134 = .ok (.iload 6, 2) := by decide +kernel
theorem dX7_lay_136 : decode cX7_lay 136 = .ok (.aload_n 0, 1) := by decide +kernel
theorem dX7_lay_137 : decode cX7_lay 137 = .ok (.getfield 32, 3) := by decide +kernel
theorem dX7_lay_140 : decode cX7_lay 140 = .ok (.iload 4, 2) := by decide +kernel
theorem dX7_lay_142 : decode cX7_lay 142 = .ok (.iaload, 1) := by decide +kernel
theorem dX7_lay_143 : decode cX7_lay 143 = .ok (.if_icmp .ne 13, 3) := by decide +kernel
theorem dX7_lay_146 : decode cX7_lay 146 = .ok (.aload_n 0, 1) := by decide +kernel
theorem dX7_lay_147 : decode cX7_lay 147 = .ok (.getfield 35, 3) := by decide +kernel
theorem dX7_lay_150 : decode cX7_lay 150 = .ok (.iload 4, 2) := by decide +kernel
theorem dX7_lay_152 : decode cX7_lay 152 = .ok (.iaload, 1) := by decide +kernel
theorem dX7_lay_153 : decode cX7_lay 153 = .ok (.goto 4, 3) := by decide +kernel
theorem dX7_lay_156 : decode cX7_lay 156 = .ok (.iconst 0, 1) := by decide +kernel
theorem dX7_lay_157 : decode cX7_lay 157 = .ok (.iastore, 1) := by decide +kernel
theorem dX7_lay_158 : decode cX7_lay 158 = .ok (.aload_n 0, 1) := by decide +kernel
theorem dX7_lay_159 : decode cX7_lay 159 = .ok (.getfield 7, 3) := by decide +kernel
theorem dX7_lay_162 : decode cX7_lay 162 = .ok (.sipush 331, 3) := by decide +kernel
theorem dX7_lay_165 : decode cX7_lay 165 = .ok (.bipush 40, 2) := by decide +kernel
theorem dX7_lay_167 : decode cX7_lay 167 = .ok (.iload_n 1, 1) := by decide +kernel
theorem dX7_lay_168 : decode cX7_lay 168 = .ok (.imul, 1) := by decide +kernel
theorem dX7_lay_169 : decode cX7_lay 169 = .ok (.iadd, 1) := by decide +kernel
theorem dX7_lay_170 : decode cX7_lay 170 = .ok (.iload_n 3, 1) := by decide +kernel
theorem dX7_lay_171 : decode cX7_lay 171 = .ok (.iadd, 1) := by decide +kernel
theorem dX7_lay_172 : decode cX7_lay 172 = .ok (.iload 5, 2) := by decide +kernel
theorem dX7_lay_174 : decode cX7_lay 174 = .ok (.iastore, 1) := by decide +kernel
theorem dX7_lay_175 : decode cX7_lay 175 = .ok (.iinc 3 1, 3) := by decide +kernel
theorem dX7_lay_178 : decode cX7_lay 178 = .ok (.iinc 6 1, 3) := by decide +kernel
theorem dX7_lay_181 : decode cX7_lay 181 = .ok (.goto (-93), 3) := by decide +kernel
theorem dX7_lay_184 : decode cX7_lay 184 = .ok (.iinc 4 1, 3) := by decide +kernel
theorem dX7_lay_187 : decode cX7_lay 187 = .ok (.goto (-119), 3) := by decide +kernel
theorem dX7_lay_190 : decode cX7_lay 190 = .ok (.aload_n 0, 1) := by decide +kernel
theorem dX7_lay_191 : decode cX7_lay 191 = .ok (.getfield 72, 3) := by decide +kernel
theorem dX7_lay_194 : decode cX7_lay 194 = .ok (.ireturn, 1) := by decide +kernel
theorem dX7_takes_0 : decode cX7_takes 0 = .ok (.aload_n 0, 1) := by decide +kernel
theorem dX7_takes_1 : decode cX7_takes 1 = .ok (.getfield 138, 3) := by decide +kernel
theorem dX7_takes_4 : decode cX7_takes 4 = .ok (.istore_n 2, 1) := by decide +kernel
theorem dX7_takes_5 : decode cX7_takes 5 = .ok (.iload_n 1, 1) := by decide +kernel
theorem dX7_takes_6 : decode cX7_takes 6 = .ok (.bipush 97, 2) := by decide +kernel
theorem dX7_takes_8 : decode cX7_takes 8 = .ok (.bipush 104, 2) := by decide +kernel
theorem dX7_takes_10 : decode cX7_takes 10 = .ok (.invokestatic 54, 3) := by decide +kernel
theorem dX7_takes_13 : decode cX7_takes 13 = .ok (.istore_n 3, 1) := by decide +kernel
theorem dX7_takes_14 : decode cX7_takes 14 = .ok (.iload_n 3, 1) := by decide +kernel
theorem dX7_takes_15 : decode cX7_takes 15 = .ok (.ifCond .eq 7, 3) := by decide +kernel
theorem dX7_takes_18 : decode cX7_takes 18 = .ok (.iconst 1, 1) := by decide +kernel
theorem dX7_takes_19 : decode cX7_takes 19 = .ok (.goto 26, 3) := by decide +kernel
theorem dX7_takes_22 : decode cX7_takes 22 = .ok (.iload_n 2, 1) := by decide +kernel
theorem dX7_takes_23 : decode cX7_takes 23 = .ok (.ifCond .eq 21, 3) := by decide +kernel
theorem dX7_takes_26 : decode cX7_takes 26 = .ok (.iload_n 1, 1) := by decide +kernel
theorem dX7_takes_27 : decode cX7_takes 27 = .ok (.bipush 50, 2) := by decide +kernel
theorem dX7_takes_29 : decode cX7_takes 29 = .ok (.bipush 57, 2) := by decide +kernel
theorem dX7_takes_31 : decode cX7_takes 31 = .ok (.invokestatic 54, 3) := by decide +kernel
theorem dX7_takes_34 : decode cX7_takes 34 = .ok (.ifCond .eq 10, 3) := by decide +kernel
theorem dX7_takes_37 : decode cX7_takes 37 = .ok (.iload_n 1, 1) := by decide +kernel
theorem dX7_takes_38 : decode cX7_takes 38 = .ok (.bipush 49, 2) := by decide +kernel
theorem dX7_takes_40 : decode cX7_takes 40 = .ok (.isub, 1) := by decide +kernel
theorem dX7_takes_41 : decode cX7_takes 41 = .ok (.goto 4, 3) := by decide +kernel
theorem dX7_takes_44 : decode cX7_takes 44 = .ok (.iconst 0, 1) := by decide +kernel
theorem dX7_takes_45 : decode cX7_takes 45 = .ok (.istore 4, 2) := by decide +kernel
theorem dX7_takes_47 : decode cX7_takes 47 = .ok (.iload 4, 2) := by decide +kernel
theorem dX7_takes_49 : decode cX7_takes 49 = .ok (.ifCond .le 19, 3) := by decide +kernel
theorem dX7_takes_52 : decode cX7_takes 52 = .ok (.aload_n 0, 1) := by decide +kernel
theorem dX7_takes_53 : decode cX7_takes 53 = .ok (.getfield 142, 3) := by decide +kernel
theorem dX7_takes_56 : decode cX7_takes 56 = .ok (.iload 4, 2) := by decide +kernel
theorem dX7_takes_58 : decode cX7_takes 58 = .ok (.iadd, 1) := by decide +kernel
theorem dX7_takes_59 : decode cX7_takes 59 = .ok (.bipush 40, 2) := by decide +kernel
theorem dX7_takes_61 : decode cX7_takes 61 = .ok (.if_icmp .gt 7, 3) := by decide +kernel
theorem dX7_takes_64 : decode cX7_takes 64 = .ok (.iconst 1, 1) := by decide +kernel
theorem dX7_takes_65 : decode cX7_takes 65 = .ok (.goto 4, 3) := by decide +kernel
theorem dX7_takes_68 : decode cX7_takes 68 = .ok (.iconst 0, 1) := by decide +kernel
theorem dX7_takes_69 : decode cX7_takes 69 = .ok (.istore 5, 2) := by decide +kernel
theorem dX7_takes_71 : decode cX7_takes 71 = .ok (.aload_n 0, 1) := by decide +kernel
theorem dX7_takes_72 : decode cX7_takes 72 = .ok (.iload_n 3, 1) := by decide +kernel
theorem dX7_takes_73 : decode cX7_takes 73 = .ok (.putfield 138, 3) := by decide +kernel
theorem dX7_takes_76 : decode cX7_takes 76 = .ok (.iconst 0, 1) := by decide +kernel
theorem dX7_takes_77 : decode cX7_takes 77 = .ok (.istore 6, 2) := by decide +kernel
theorem dX7_takes_79 : decode cX7_takes 79 = .ok (.iload 5, 2) := by decide +kernel
theorem dX7_takes_81 : decode cX7_takes 81 = .ok (.ifCond .eq 59, 3) := by decide +kernel
theorem dX7_takes_84 : decode cX7_takes 84 = .ok (.iload 6, 2) := by decide +kernel
theorem dX7_takes_86 : decode cX7_takes 86 = .ok (.iload 4, 2) := by decide +kernel
theorem dX7_takes_88 : decode cX7_takes 88 = .ok (.if_icmp .ge 52, 3) := by decide +kernel
theorem dX7_takes_91 : decode cX7_takes 91 = .ok (.aload_n 0, 1) := by decide +kernel
theorem dX7_takes_92 : decode cX7_takes 92 = .ok (.getfield 38, 3) := by decide +kernel
theorem dX7_takes_95 : decode cX7_takes 95 = .ok (.aload_n 0, 1) := by decide +kernel
theorem dX7_takes_96 : decode cX7_takes 96 = .ok (.getfield 142, 3) := by decide +kernel
theorem dX7_takes_99 : decode cX7_takes 99 = .ok (.iload_n 3, 1) := by decide +kernel
theorem dX7_takes_100 : decode cX7_takes 100 = .ok (.ifCond .eq 12, 3) := by decide +kernel
theorem dX7_takes_103 : decode cX7_takes 103 = .ok (.iload_n 1, 1) := by decide +kernel
theorem dX7_takes_104 : decode cX7_takes 104 = .ok (.bipush 97, 2) := by decide +kernel
theorem dX7_takes_106 : decode cX7_takes 106 = .ok (.isub, 1) := by decide +kernel
theorem dX7_takes_107 : decode cX7_takes 107 = .ok (.iconst 1, 1) := by decide +kernel
theorem dX7_takes_108 : decode cX7_takes 108 = .ok (.iadd, 1) := by decide +kernel
theorem dX7_takes_109 : decode cX7_takes 109 = .ok (.goto 14, 3) := by decide +kernel
theorem dX7_takes_112 : decode cX7_takes 112 = .ok (.aload_n 0, 1) := by decide +kernel
theorem dX7_takes_113 : decode cX7_takes 113 = .ok (.getfield 38, 3) := by decide +kernel
theorem dX7_takes_116 : decode cX7_takes 116 = .ok (.aload_n 0, 1) := by decide +kernel
theorem dX7_takes_117 : decode cX7_takes 117 = .ok (.getfield 142, 3) := by decide +kernel
theorem dX7_takes_120 : decode cX7_takes 120 = .ok (.iconst 1, 1) := by decide +kernel
theorem dX7_takes_121 : decode cX7_takes 121 = .ok (.isub, 1) := by decide +kernel
theorem dX7_takes_122 : decode cX7_takes 122 = .ok (.iaload, 1) := by decide +kernel
theorem dX7_takes_123 : decode cX7_takes 123 = .ok (.iastore, 1) := by decide +kernel
theorem dX7_takes_124 : decode cX7_takes 124 = .ok (.aload_n 0, 1) := by decide +kernel
theorem dX7_takes_125 : decode cX7_takes 125 = .ok (.dup, 1) := by decide +kernel
theorem dX7_takes_126 : decode cX7_takes 126 = .ok (.getfield 142, 3) := by decide +kernel
theorem dX7_takes_129 : decode cX7_takes 129 = .ok (.iconst 1, 1) := by decide +kernel
theorem dX7_takes_130 : decode cX7_takes 130 = .ok (.iadd, 1) := by decide +kernel
theorem dX7_takes_131 : decode cX7_takes 131 = .ok (.putfield 142, 3) := by decide +kernel
theorem dX7_takes_134 : decode cX7_takes 134 = .ok (.iinc 6 1, 3) := by decide +kernel
theorem dX7_takes_137 : decode cX7_takes 137 = .ok (.goto (-58), 3) := by decide +kernel
theorem dX7_takes_140 : decode cX7_takes 140 = .ok (.iload 5, 2) := by decide +kernel
theorem dX7_takes_142 : decode cX7_takes 142 = .ok (.ireturn, 1) := by decide +kernel
theorem dX7_rightUpTo_0 : decode cX7_rightUpTo 0 = .ok (.aload_n 0, 1) := by decide +kernel
theorem dX7_rightUpTo_1 : decode cX7_rightUpTo 1 = .ok (.iconst 0, 1) := by decide +kernel
theorem dX7_rightUpTo_2 : decode cX7_rightUpTo 2 = .ok (.putfield 142, 3) := by decide +kernel
theorem dX7_rightUpTo_5 : decode cX7_rightUpTo 5 = .ok (.aload_n 0, 1) := by decide +kernel
theorem dX7_rightUpTo_6 : decode cX7_rightUpTo 6 = .ok (.iconst 0, 1) := by decide +kernel
theorem dX7_rightUpTo_7 : decode cX7_rightUpTo 7 = .ok (.putfield 138, 3) := by decide +kernel
theorem dX7_rightUpTo_10 : decode cX7_rightUpTo 10 = .ok (.iconst 0, 1) := by decide +kernel
theorem dX7_rightUpTo_11 : decode cX7_rightUpTo 11 = .ok (.istore_n 1, 1) := by decide +kernel
theorem dX7_rightUpTo_12 : decode cX7_rightUpTo 12 = .ok (.iload_n 1, 1) := by decide +kernel
theorem dX7_rightUpTo_13 : decode cX7_rightUpTo 13 = .ok (.aload_n 0, 1) := by decide +kernel
theorem dX7_rightUpTo_14 : decode cX7_rightUpTo 14 = .ok (.getfield 145, 3) := by decide +kernel
theorem dX7_rightUpTo_17 : decode cX7_rightUpTo 17 = .ok (.if_icmp .ge 22, 3) := by decide +kernel
theorem dX7_rightUpTo_20 : decode cX7_rightUpTo 20 = .ok (.aload_n 0, 1) := by decide +kernel
theorem dX7_rightUpTo_21 : decode cX7_rightUpTo 21 = .ok (.aload_n 0, 1) := by decide +kernel
theorem dX7_rightUpTo_22 : decode cX7_rightUpTo 22 = .ok (.getfield 23, 3) := by decide +kernel
theorem dX7_rightUpTo_25 : decode cX7_rightUpTo 25 = .ok (.iload_n 1, 1) := by decide +kernel
theorem dX7_rightUpTo_26 : decode cX7_rightUpTo 26 = .ok (.iaload, 1) := by decide +kernel
theorem dX7_rightUpTo_27 : decode cX7_rightUpTo 27 = .ok (.invokevirtual 148, 3) := by decide +kernel
theorem dX7_rightUpTo_30 : decode cX7_rightUpTo 30 = .ok (.ifCond .eq 9, 3) := by decide +kernel
theorem dX7_rightUpTo_33 : decode cX7_rightUpTo 33 = .ok (.iinc 1 1, 3) := by decide +kernel
theorem dX7_rightUpTo_36 : decode cX7_rightUpTo 36 = .ok (.goto (-24), 3) := by decide +kernel
theorem dX7_rightUpTo_39 : decode cX7_rightUpTo 39 = .ok (.iload_n 1, 1) := by decide +kernel
theorem dX7_rightUpTo_40 : decode cX7_rightUpTo 40 = .ok (.ireturn, 1) := by decide +kernel
theorem dX7_isWhole_0 : decode cX7_isWhole 0 = .ok (.aload_n 0, 1) := by decide +kernel
theorem dX7_isWhole_1 : decode cX7_isWhole 1 = .ok (.invokevirtual 151, 3) := by decide +kernel
theorem dX7_isWhole_4 : decode cX7_isWhole 4 = .ok (.aload_n 0, 1) := by decide +kernel
theorem dX7_isWhole_5 : decode cX7_isWhole 5 = .ok (.getfield 145, 3) := by decide +kernel
theorem dX7_isWhole_8 : decode cX7_isWhole 8 = .ok (.if_icmp .ne 14, 3) := by decide +kernel
theorem dX7_isWhole_11 : decode cX7_isWhole 11 = .ok (.aload_n 0, 1) := by decide +kernel
theorem dX7_isWhole_12 : decode cX7_isWhole 12 = .ok (.getfield 145, 3) := by decide +kernel
theorem dX7_isWhole_15 : decode cX7_isWhole 15 = .ok (.ifCond .le 7, 3) := by decide +kernel
theorem dX7_isWhole_18 : decode cX7_isWhole 18 = .ok (.iconst 1, 1) := by decide +kernel
theorem dX7_isWhole_19 : decode cX7_isWhole 19 = .ok (.goto 4, 3) := by decide +kernel
theorem dX7_isWhole_22 : decode cX7_isWhole 22 = .ok (.iconst 0, 1) := by decide +kernel
theorem dX7_isWhole_23 : decode cX7_isWhole 23 = .ok (.ireturn, 1) := by decide +kernel
theorem dX7_takeTold_0 : decode cX7_takeTold 0 = .ok (.aload_n 0, 1) := by decide +kernel
theorem dX7_takeTold_1 : decode cX7_takeTold 1 = .ok (.aload_n 0, 1) := by decide +kernel
theorem dX7_takeTold_2 : decode cX7_takeTold 2 = .ok (.getfield 142, 3) := by decide +kernel
theorem dX7_takeTold_5 : decode cX7_takeTold 5 = .ok (.putfield 62, 3) := by decide +kernel
theorem dX7_takeTold_8 : decode cX7_takeTold 8 = .ok (.iconst 0, 1) := by decide +kernel
theorem dX7_takeTold_9 : decode cX7_takeTold 9 = .ok (.istore_n 1, 1) := by decide +kernel
theorem dX7_takeTold_10 : decode cX7_takeTold 10 = .ok (.iload_n 1, 1) := by decide +kernel
theorem dX7_takeTold_11 : decode cX7_takeTold 11 = .ok (.aload_n 0, 1) := by decide +kernel
theorem dX7_takeTold_12 : decode cX7_takeTold 12 = .ok (.getfield 62, 3) := by decide +kernel
theorem dX7_takeTold_15 : decode cX7_takeTold 15 = .ok (.if_icmp .ge 21, 3) := by decide +kernel
theorem dX7_takeTold_18 : decode cX7_takeTold 18 = .ok (.aload_n 0, 1) := by decide +kernel
theorem dX7_takeTold_19 : decode cX7_takeTold 19 = .ok (.getfield 26, 3) := by decide +kernel
theorem dX7_takeTold_22 : decode cX7_takeTold 22 = .ok (.iload_n 1, 1) := by decide +kernel
theorem dX7_takeTold_23 : decode cX7_takeTold 23 = .ok (.aload_n 0, 1) := by decide +kernel
theorem dX7_takeTold_24 : decode cX7_takeTold 24 = .ok (.getfield 38, 3) := by decide +kernel
theorem dX7_takeTold_27 : decode cX7_takeTold 27 = .ok (.iload_n 1, 1) := by decide +kernel
theorem dX7_takeTold_28 : decode cX7_takeTold 28 = .ok (.iaload, 1) := by decide +kernel
theorem dX7_takeTold_29 : decode cX7_takeTold 29 = .ok (.iastore, 1) := by decide +kernel
theorem dX7_takeTold_30 : decode cX7_takeTold 30 = .ok (.iinc 1 1, 3) := by decide +kernel
theorem dX7_takeTold_33 : decode cX7_takeTold 33 = .ok (.goto (-23), 3) := by decide +kernel
theorem dX7_takeTold_36 : decode cX7_takeTold 36 = .ok (.aload_n 0, 1) := by decide +kernel
theorem dX7_takeTold_37 : decode cX7_takeTold 37 = .ok (.invokevirtual 154, 3) := by decide +kernel
theorem dX7_takeTold_40 : decode cX7_takeTold 40 = .ok (.return_, 1) := by decide +kernel
theorem dX7_put_0 : decode cX7_put 0 = .ok (.aload_n 0, 1) := by decide +kernel
theorem dX7_put_1 : decode cX7_put 1 = .ok (.iload_n 1, 1) := by decide +kernel
theorem dX7_put_2 : decode cX7_put 2 = .ok (.invokestatic 157, 3) := by decide +kernel
theorem dX7_put_5 : decode cX7_put 5 = .ok (.ifCond .ne 7, 3) := by decide +kernel
theorem dX7_put_8 : decode cX7_put 8 = .ok (.iconst 1, 1) := by decide +kernel
theorem dX7_put_9 : decode cX7_put 9 = .ok (.goto 15, 3) := by decide +kernel
theorem dX7_put_12 : decode cX7_put 12 = .ok (.aload_n 0, 1) := by decide +kernel
theorem dX7_put_13 : decode cX7_put 13 = .ok (.invokevirtual 160, 3) := by decide +kernel
theorem dX7_put_16 : decode cX7_put 16 = .ok (.ifCond .eq 7, 3) := by decide +kernel
theorem dX7_put_19 : decode cX7_put 19 = .ok (.iconst 0, 1) := by decide +kernel
theorem dX7_put_20 : decode cX7_put 20 = .ok (.goto 4, 3) := by decide +kernel
theorem dX7_put_23 : decode cX7_put 23 = .ok (.iconst 2, 1) := by decide +kernel
theorem dX7_put_24 : decode cX7_put 24 = .ok (.putfield 47, 3) := by decide +kernel
theorem dX7_put_27 : decode cX7_put 27 = .ok (.aload_n 0, 1) := by decide +kernel
theorem dX7_put_28 : decode cX7_put 28 = .ok (.getfield 47, 3) := by decide +kernel
theorem dX7_put_31 : decode cX7_put 31 = .ok (.ifCond .ne 24, 3) := by decide +kernel
theorem dX7_put_34 : decode cX7_put 34 = .ok (.aload_n 0, 1) := by decide +kernel
theorem dX7_put_35 : decode cX7_put 35 = .ok (.invokevirtual 163, 3) := by decide +kernel
theorem dX7_put_38 : decode cX7_put 38 = .ok (.aload_n 0, 1) := by decide +kernel
theorem dX7_put_39 : decode cX7_put 39 = .ok (.aload_n 0, 1) := by decide +kernel
theorem dX7_put_40 : decode cX7_put 40 = .ok (.iload_n 1, 1) := by decide +kernel
theorem dX7_put_41 : decode cX7_put 41 = .ok (.invokevirtual 166, 3) := by decide +kernel
theorem dX7_put_44 : decode cX7_put 44 = .ok (.ifCond .eq 7, 3) := by decide +kernel
theorem dX7_put_47 : decode cX7_put 47 = .ok (.iconst 3, 1) := by decide +kernel
theorem dX7_put_48 : decode cX7_put 48 = .ok (.goto 4, 3) := by decide +kernel
theorem dX7_put_51 : decode cX7_put 51 = .ok (.iconst 0, 1) := by decide +kernel
theorem dX7_put_52 : decode cX7_put 52 = .ok (.putfield 47, 3) := by decide +kernel
theorem dX7_put_55 : decode cX7_put 55 = .ok (.aload_n 0, 1) := by decide +kernel
theorem dX7_put_56 : decode cX7_put 56 = .ok (.getfield 47, 3) := by decide +kernel
theorem dX7_put_59 : decode cX7_put 59 = .ok (.ifCond .le 5, 3) := by decide +kernel
theorem dX7_put_62 : decode cX7_put 62 = .ok (.iconst 0, 1) := by decide +kernel
theorem dX7_put_63 : decode cX7_put 63 = .ok (.ireturn, 1) := by decide +kernel
theorem dX7_put_64 : decode cX7_put 64 = .ok (.aload_n 0, 1) := by decide +kernel
theorem dX7_put_65 : decode cX7_put 65 = .ok (.invokevirtual 169, 3) := by decide +kernel
theorem dX7_put_68 : decode cX7_put 68 = .ok (.aload_n 0, 1) := by decide +kernel
theorem dX7_put_69 : decode cX7_put 69 = .ok (.iconst 0, 1) := by decide +kernel
theorem dX7_put_70 : decode cX7_put 70 = .ok (.putfield 145, 3) := by decide +kernel
theorem dX7_put_73 : decode cX7_put 73 = .ok (.aload_n 0, 1) := by decide +kernel
theorem dX7_put_74 : decode cX7_put 74 = .ok (.iload_n 1, 1) := by decide +kernel
theorem dX7_put_75 : decode cX7_put 75 = .ok (.invokevirtual 172, 3) := by decide +kernel
theorem dX7_put_78 : decode cX7_put 78 = .ok (.ireturn, 1) := by decide +kernel
theorem dX7_takeInserted_0 : decode cX7_takeInserted 0 = .ok (.aload_n 0, 1) := by decide +kernel
theorem dX7_takeInserted_1 : decode cX7_takeInserted 1 = .ok (.iload_n 1, 1) := by decide +kernel
theorem dX7_takeInserted_2 : decode cX7_takeInserted 2 = .ok (.invokevirtual 175, 3) := by decide +kernel
theorem dX7_takeInserted_5 : decode cX7_takeInserted 5 = .ok (.aload_n 0, 1) := by decide +kernel
theorem dX7_takeInserted_6 : decode cX7_takeInserted 6 = .ok (.getfield 62, 3) := by decide +kernel
theorem dX7_takeInserted_9 : decode cX7_takeInserted 9 = .ok (.iconst 1, 1) := by decide +kernel
theorem dX7_takeInserted_10 : decode cX7_takeInserted 10 = .ok (.isub, 1) := by decide +kernel
theorem dX7_takeInserted_11 : decode cX7_takeInserted 11 = .ok (.istore_n 3, 1) := by decide +kernel
theorem dX7_takeInserted_12 : decode cX7_takeInserted 12 = .ok (.iload_n 3, 1) := by decide +kernel
theorem dX7_takeInserted_13 : decode cX7_takeInserted 13 = .ok (.iload_n 2, 1) := by decide +kernel
theorem dX7_takeInserted_14 : decode cX7_takeInserted 14 = .ok (.if_icmp .lt 26, 3) := by decide +kernel
theorem dX7_takeInserted_17 : decode cX7_takeInserted 17 = .ok (.aload_n 0, 1) := by decide +kernel
theorem dX7_takeInserted_18 : decode cX7_takeInserted 18 = .ok (.getfield 26, 3) := by decide +kernel
theorem dX7_takeInserted_21 : decode cX7_takeInserted 21 = .ok (.iload_n 3, 1) := by decide +kernel
theorem dX7_takeInserted_22 : decode cX7_takeInserted 22 = .ok (.aload_n 0, 1) := by decide +kernel
theorem dX7_takeInserted_23 : decode cX7_takeInserted 23 = .ok (.getfield 142, 3) := by decide +kernel
theorem dX7_takeInserted_26 : decode cX7_takeInserted 26 = .ok (.iadd, 1) := by decide +kernel
theorem dX7_takeInserted_27 : decode cX7_takeInserted 27 = .ok (.aload_n 0, 1) := by decide +kernel
theorem dX7_takeInserted_28 : decode cX7_takeInserted 28 = .ok (.getfield 26, 3) := by decide +kernel
theorem dX7_takeInserted_31 : decode cX7_takeInserted 31 = .ok (.iload_n 3, 1) := by decide +kernel
theorem dX7_takeInserted_32 : decode cX7_takeInserted 32 = .ok (.iaload, 1) := by decide +kernel
theorem dX7_takeInserted_33 : decode cX7_takeInserted 33 = .ok (.iastore, 1) := by decide +kernel
theorem dX7_takeInserted_34 : decode cX7_takeInserted 34 = .ok (.iinc 3 (-1), 3) := by decide +kernel
theorem dX7_takeInserted_37 : decode cX7_takeInserted 37 = .ok (.goto (-25), 3) := by decide +kernel
theorem dX7_takeInserted_40 : decode cX7_takeInserted 40 = .ok (.iconst 0, 1) := by decide +kernel
theorem dX7_takeInserted_41 : decode cX7_takeInserted 41 = .ok (.istore_n 3, 1) := by decide +kernel
theorem dX7_takeInserted_42 : decode cX7_takeInserted 42 = .ok (.iload_n 3, 1) := by decide +kernel
theorem dX7_takeInserted_43 : decode cX7_takeInserted 43 = .ok (.aload_n 0, 1) := by decide +kernel
theorem dX7_takeInserted_44 : decode cX7_takeInserted 44 = .ok (.getfield 142, 3) := by decide +kernel
theorem dX7_takeInserted_47 : decode cX7_takeInserted 47 = .ok (.if_icmp .ge 23, 3) := by decide +kernel
theorem dX7_takeInserted_50 : decode cX7_takeInserted 50 = .ok (.aload_n 0, 1) := by decide +kernel
theorem dX7_takeInserted_51 : decode cX7_takeInserted 51 = .ok (.getfield 26, 3) := by decide +kernel
theorem dX7_takeInserted_54 : decode cX7_takeInserted 54 = .ok (.iload_n 2, 1) := by decide +kernel
theorem dX7_takeInserted_55 : decode cX7_takeInserted 55 = .ok (.iload_n 3, 1) := by decide +kernel
theorem dX7_takeInserted_56 : decode cX7_takeInserted 56 = .ok (.iadd, 1) := by decide +kernel
theorem dX7_takeInserted_57 : decode cX7_takeInserted 57 = .ok (.aload_n 0, 1) := by decide +kernel
theorem dX7_takeInserted_58 : decode cX7_takeInserted 58 = .ok (.getfield 38, 3) := by decide +kernel
theorem dX7_takeInserted_61 : decode cX7_takeInserted 61 = .ok (.iload_n 3, 1) := by decide +kernel
theorem dX7_takeInserted_62 : decode cX7_takeInserted 62 = .ok (.iaload, 1) := by decide +kernel
theorem dX7_takeInserted_63 : decode cX7_takeInserted 63 = .ok (.iastore, 1) := by decide +kernel
theorem dX7_takeInserted_64 : decode cX7_takeInserted 64 = .ok (.iinc 3 1, 3) := by decide +kernel
theorem dX7_takeInserted_67 : decode cX7_takeInserted 67 = .ok (.goto (-25), 3) := by decide +kernel
theorem dX7_takeInserted_70 : decode cX7_takeInserted 70 = .ok (.aload_n 0, 1) := by decide +kernel
theorem dX7_takeInserted_71 : decode cX7_takeInserted 71 = .ok (.dup, 1) := by decide +kernel
theorem dX7_takeInserted_72 : decode cX7_takeInserted 72 = .ok (.getfield 62, 3) := by decide +kernel
theorem dX7_takeInserted_75 : decode cX7_takeInserted 75 = .ok (.aload_n 0, 1) := by decide +kernel
theorem dX7_takeInserted_76 : decode cX7_takeInserted 76 = .ok (.getfield 142, 3) := by decide +kernel
theorem dX7_takeInserted_79 : decode cX7_takeInserted 79 = .ok (.iadd, 1) := by decide +kernel
theorem dX7_takeInserted_80 : decode cX7_takeInserted 80 = .ok (.putfield 62, 3) := by decide +kernel
theorem dX7_takeInserted_83 : decode cX7_takeInserted 83 = .ok (.aload_n 0, 1) := by decide +kernel
theorem dX7_takeInserted_84 : decode cX7_takeInserted 84 = .ok (.invokevirtual 154, 3) := by decide +kernel
theorem dX7_takeInserted_87 : decode cX7_takeInserted 87 = .ok (.return_, 1) := by decide +kernel
theorem dX7_insert_0 : decode cX7_insert 0 = .ok (.aload_n 0, 1) := by decide +kernel
theorem dX7_insert_1 : decode cX7_insert 1 = .ok (.iload_n 1, 1) := by decide +kernel
theorem dX7_insert_2 : decode cX7_insert 2 = .ok (.invokestatic 157, 3) := by decide +kernel
theorem dX7_insert_5 : decode cX7_insert 5 = .ok (.ifCond .eq 16, 3) := by decide +kernel
theorem dX7_insert_8 : decode cX7_insert 8 = .ok (.iload_n 2, 1) := by decide +kernel
theorem dX7_insert_9 : decode cX7_insert 9 = .ok (.iconst 0, 1) := by decide +kernel
theorem dX7_insert_10 : decode cX7_insert 10 = .ok (.aload_n 0, 1) := by decide +kernel
theorem dX7_insert_11 : decode cX7_insert 11 = .ok (.iload_n 1, 1) := by decide +kernel
theorem dX7_insert_12 : decode cX7_insert 12 = .ok (.invokevirtual 58, 3) := by decide +kernel
theorem dX7_insert_15 : decode cX7_insert 15 = .ok (.invokestatic 54, 3) := by decide +kernel
theorem dX7_insert_18 : decode cX7_insert 18 = .ok (.ifCond .ne 7, 3) := by decide +kernel
theorem dX7_insert_21 : decode cX7_insert 21 = .ok (.iconst 1, 1) := by decide +kernel
theorem dX7_insert_22 : decode cX7_insert 22 = .ok (.goto 15, 3) := by decide +kernel
theorem dX7_insert_25 : decode cX7_insert 25 = .ok (.aload_n 0, 1) := by decide +kernel
theorem dX7_insert_26 : decode cX7_insert 26 = .ok (.invokevirtual 160, 3) := by decide +kernel
theorem dX7_insert_29 : decode cX7_insert 29 = .ok (.ifCond .eq 7, 3) := by decide +kernel
theorem dX7_insert_32 : decode cX7_insert 32 = .ok (.iconst 0, 1) := by decide +kernel
theorem dX7_insert_33 : decode cX7_insert 33 = .ok (.goto 4, 3) := by decide +kernel
theorem dX7_insert_36 : decode cX7_insert 36 = .ok (.iconst 2, 1) := by decide +kernel
theorem dX7_insert_37 : decode cX7_insert 37 = .ok (.putfield 47, 3) := by decide +kernel
theorem dX7_insert_40 : decode cX7_insert 40 = .ok (.aload_n 0, 1) := by decide +kernel
theorem dX7_insert_41 : decode cX7_insert 41 = .ok (.getfield 47, 3) := by decide +kernel
theorem dX7_insert_44 : decode cX7_insert 44 = .ok (.ifCond .ne 27, 3) := by decide +kernel
theorem dX7_insert_47 : decode cX7_insert 47 = .ok (.aload_n 0, 1) := by decide +kernel
theorem dX7_insert_48 : decode cX7_insert 48 = .ok (.aload_n 0, 1) := by decide +kernel
theorem dX7_insert_49 : decode cX7_insert 49 = .ok (.iload_n 1, 1) := by decide +kernel
theorem dX7_insert_50 : decode cX7_insert 50 = .ok (.invokevirtual 58, 3) := by decide +kernel
theorem dX7_insert_53 : decode cX7_insert 53 = .ok (.aload_n 0, 1) := by decide +kernel
theorem dX7_insert_54 : decode cX7_insert 54 = .ok (.getfield 142, 3) := by decide +kernel
theorem dX7_insert_57 : decode cX7_insert 57 = .ok (.iadd, 1) := by decide +kernel
theorem dX7_insert_58 : decode cX7_insert 58 = .ok (.bipush 40, 2) := by decide +kernel
theorem dX7_insert_60 : decode cX7_insert 60 = .ok (.if_icmp .le 7, 3) := by decide +kernel
theorem dX7_insert_63 : decode cX7_insert 63 = .ok (.iconst 3, 1) := by decide +kernel
theorem dX7_insert_64 : decode cX7_insert 64 = .ok (.goto 4, 3) := by decide +kernel
theorem dX7_insert_67 : decode cX7_insert 67 = .ok (.iconst 0, 1) := by decide +kernel
theorem dX7_insert_68 : decode cX7_insert 68 = .ok (.putfield 47, 3) := by decide +kernel
theorem dX7_insert_71 : decode cX7_insert 71 = .ok (.aload_n 0, 1) := by decide +kernel
theorem dX7_insert_72 : decode cX7_insert 72 = .ok (.getfield 47, 3) := by decide +kernel
theorem dX7_insert_75 : decode cX7_insert 75 = .ok (.ifCond .ne 26, 3) := by decide +kernel
theorem dX7_insert_78 : decode cX7_insert 78 = .ok (.aload_n 0, 1) := by decide +kernel
theorem dX7_insert_79 : decode cX7_insert 79 = .ok (.iload_n 1, 1) := by decide +kernel
theorem dX7_insert_80 : decode cX7_insert 80 = .ok (.iload_n 2, 1) := by decide +kernel
theorem dX7_insert_81 : decode cX7_insert 81 = .ok (.invokevirtual 178, 3) := by decide +kernel
theorem dX7_insert_84 : decode cX7_insert 84 = .ok (.aload_n 0, 1) := by decide +kernel
theorem dX7_insert_85 : decode cX7_insert 85 = .ok (.aload_n 0, 1) := by decide +kernel
theorem dX7_insert_86 : decode cX7_insert 86 = .ok (.iload_n 1, 1) := by decide +kernel
theorem dX7_insert_87 : decode cX7_insert 87 = .ok (.invokevirtual 166, 3) := by decide +kernel
theorem dX7_insert_90 : decode cX7_insert 90 = .ok (.ifCond .eq 7, 3) := by decide +kernel
theorem dX7_insert_93 : decode cX7_insert 93 = .ok (.iconst 3, 1) := by decide +kernel
theorem dX7_insert_94 : decode cX7_insert 94 = .ok (.goto 4, 3) := by decide +kernel
theorem dX7_insert_97 : decode cX7_insert 97 = .ok (.iconst 0, 1) := by decide +kernel
theorem dX7_insert_98 : decode cX7_insert 98 = .ok (.putfield 47, 3) := by decide +kernel
theorem dX7_insert_101 : decode cX7_insert 101 = .ok (.aload_n 0, 1) := by decide +kernel
theorem dX7_insert_102 : decode cX7_insert 102 = .ok (.getfield 47, 3) := by decide +kernel
theorem dX7_insert_105 : decode cX7_insert 105 = .ok (.ifCond .le 5, 3) := by decide +kernel
theorem dX7_insert_108 : decode cX7_insert 108 = .ok (.iconst 0, 1) := by decide +kernel
theorem dX7_insert_109 : decode cX7_insert 109 = .ok (.ireturn, 1) := by decide +kernel
theorem dX7_insert_110 : decode cX7_insert 110 = .ok (.aload_n 0, 1) := by decide +kernel
theorem dX7_insert_111 : decode cX7_insert 111 = .ok (.invokevirtual 169, 3) := by decide +kernel
theorem dX7_insert_114 : decode cX7_insert 114 = .ok (.aload_n 0, 1) := by decide +kernel
theorem dX7_insert_115 : decode cX7_insert 115 = .ok (.iconst 0, 1) := by decide +kernel
theorem dX7_insert_116 : decode cX7_insert 116 = .ok (.putfield 145, 3) := by decide +kernel
theorem dX7_insert_119 : decode cX7_insert 119 = .ok (.aload_n 0, 1) := by decide +kernel
theorem dX7_insert_120 : decode cX7_insert 120 = .ok (.iload_n 1, 1) := by decide +kernel
theorem dX7_insert_121 : decode cX7_insert 121 = .ok (.invokevirtual 172, 3) := by decide +kernel
theorem dX7_insert_124 : decode cX7_insert 124 = .ok (.ireturn, 1) := by decide +kernel
theorem dX7_change_0 : decode cX7_change 0 = .ok (.aload_n 0, 1) := by decide +kernel
theorem dX7_change_1 : decode cX7_change 1 = .ok (.aload_n 0, 1) := by decide +kernel
theorem dX7_change_2 : decode cX7_change 2 = .ok (.iload_n 1, 1) := by decide +kernel
theorem dX7_change_3 : decode cX7_change 3 = .ok (.invokevirtual 166, 3) := by decide +kernel
theorem dX7_change_6 : decode cX7_change 6 = .ok (.ifCond .eq 7, 3) := by decide +kernel
theorem dX7_change_9 : decode cX7_change 9 = .ok (.iload_n 2, 1) := by decide +kernel
theorem dX7_change_10 : decode cX7_change 10 = .ok (.goto 4, 3) := by decide +kernel
theorem dX7_change_13 : decode cX7_change 13 = .ok (.iconst 0, 1) := by decide +kernel
theorem dX7_change_14 : decode cX7_change 14 = .ok (.putfield 47, 3) := by decide +kernel
theorem dX7_change_17 : decode cX7_change 17 = .ok (.aload_n 0, 1) := by decide +kernel
theorem dX7_change_18 : decode cX7_change 18 = .ok (.getfield 47, 3) := by decide +kernel
theorem dX7_change_21 : decode cX7_change 21 = .ok (.ifCond .le 5, 3) := by decide +kernel
theorem dX7_change_24 : decode cX7_change 24 = .ok (.iconst 0, 1) := by decide +kernel
theorem dX7_change_25 : decode cX7_change 25 = .ok (.ireturn, 1) := by decide +kernel
theorem dX7_change_26 : decode cX7_change 26 = .ok (.aload_n 0, 1) := by decide +kernel
theorem dX7_change_27 : decode cX7_change 27 = .ok (.invokevirtual 169, 3) := by decide +kernel
theorem dX7_change_30 : decode cX7_change 30 = .ok (.aload_n 0, 1) := by decide +kernel
theorem dX7_change_31 : decode cX7_change 31 = .ok (.iload_n 1, 1) := by decide +kernel
theorem dX7_change_32 : decode cX7_change 32 = .ok (.invokevirtual 172, 3) := by decide +kernel
theorem dX7_change_35 : decode cX7_change 35 = .ok (.ireturn, 1) := by decide +kernel
theorem dX7_isPlace_0 : decode cX7_isPlace 0 = .ok (.iload_n 1, 1) := by decide +kernel
theorem dX7_isPlace_1 : decode cX7_isPlace 1 = .ok (.invokestatic 157, 3) := by decide +kernel
theorem dX7_isPlace_4 : decode cX7_isPlace 4 = .ok (.ifCond .eq 22, 3) := by decide +kernel
theorem dX7_isPlace_7 : decode cX7_isPlace 7 = .ok (.iload_n 2, 1) := by decide +kernel
theorem dX7_isPlace_8 : decode cX7_isPlace 8 = .ok (.iconst 0, 1) := by decide +kernel
theorem dX7_isPlace_9 : decode cX7_isPlace 9 = .ok (.aload_n 0, 1) := by decide +kernel
theorem dX7_isPlace_10 : decode cX7_isPlace 10 = .ok (.iload_n 1, 1) := by decide +kernel
theorem dX7_isPlace_11 : decode cX7_isPlace 11 = .ok (.invokevirtual 58, 3) := by decide +kernel
theorem dX7_isPlace_14 : decode cX7_isPlace 14 = .ok (.iconst 1, 1) := by decide +kernel
theorem dX7_isPlace_15 : decode cX7_isPlace 15 = .ok (.isub, 1) := by decide +kernel
theorem dX7_isPlace_16 : decode cX7_isPlace 16 = .ok (.invokestatic 54, 3) := by decide +kernel
theorem dX7_isPlace_19 : decode cX7_isPlace 19 = .ok (.ifCond .eq 7, 3) := by decide +kernel
theorem dX7_isPlace_22 : decode cX7_isPlace 22 = .ok (.iconst 1, 1) := by decide +kernel
theorem dX7_isPlace_23 : decode cX7_isPlace 23 = .ok (.goto 4, 3) := by decide +kernel
theorem dX7_isPlace_26 : decode cX7_isPlace 26 = .ok (.iconst 0, 1) := by decide +kernel
theorem dX7_isPlace_27 : decode cX7_isPlace 27 = .ok (.ireturn, 1) := by decide +kernel
theorem dX7_takeOut_0 : decode cX7_takeOut 0 = .ok (.aload_n 0, 1) := by decide +kernel
theorem dX7_takeOut_1 : decode cX7_takeOut 1 = .ok (.aload_n 0, 1) := by decide +kernel
theorem dX7_takeOut_2 : decode cX7_takeOut 2 = .ok (.iload_n 1, 1) := by decide +kernel
theorem dX7_takeOut_3 : decode cX7_takeOut 3 = .ok (.iload_n 2, 1) := by decide +kernel
theorem dX7_takeOut_4 : decode cX7_takeOut 4 = .ok (.invokevirtual 182, 3) := by decide +kernel
theorem dX7_takeOut_7 : decode cX7_takeOut 7 = .ok (.ifCond .ne 7, 3) := by decide +kernel
theorem dX7_takeOut_10 : decode cX7_takeOut 10 = .ok (.iconst 1, 1) := by decide +kernel
theorem dX7_takeOut_11 : decode cX7_takeOut 11 = .ok (.goto 23, 3) := by decide +kernel
theorem dX7_takeOut_14 : decode cX7_takeOut 14 = .ok (.iload_n 3, 1) := by decide +kernel
theorem dX7_takeOut_15 : decode cX7_takeOut 15 = .ok (.iconst 1, 1) := by decide +kernel
theorem dX7_takeOut_16 : decode cX7_takeOut 16 = .ok (.aload_n 0, 1) := by decide +kernel
theorem dX7_takeOut_17 : decode cX7_takeOut 17 = .ok (.iload_n 1, 1) := by decide +kernel
theorem dX7_takeOut_18 : decode cX7_takeOut 18 = .ok (.invokevirtual 58, 3) := by decide +kernel
theorem dX7_takeOut_21 : decode cX7_takeOut 21 = .ok (.iload_n 2, 1) := by decide +kernel
theorem dX7_takeOut_22 : decode cX7_takeOut 22 = .ok (.isub, 1) := by decide +kernel
theorem dX7_takeOut_23 : decode cX7_takeOut 23 = .ok (.invokestatic 54, 3) := by decide +kernel
theorem dX7_takeOut_26 : decode cX7_takeOut 26 = .ok (.ifCond .eq 7, 3) := by decide +kernel
theorem dX7_takeOut_29 : decode cX7_takeOut 29 = .ok (.iconst 0, 1) := by decide +kernel
theorem dX7_takeOut_30 : decode cX7_takeOut 30 = .ok (.goto 4, 3) := by decide +kernel
theorem dX7_takeOut_33 : decode cX7_takeOut 33 = .ok (.iconst 2, 1) := by decide +kernel
theorem dX7_takeOut_34 : decode cX7_takeOut 34 = .ok (.putfield 47, 3) := by decide +kernel
theorem dX7_takeOut_37 : decode cX7_takeOut 37 = .ok (.aload_n 0, 1) := by decide +kernel
theorem dX7_takeOut_38 : decode cX7_takeOut 38 = .ok (.getfield 47, 3) := by decide +kernel
theorem dX7_takeOut_41 : decode cX7_takeOut 41 = .ok (.ifCond .le 5, 3) := by decide +kernel
theorem dX7_takeOut_44 : decode cX7_takeOut 44 = .ok (.iconst 0, 1) := by decide +kernel
theorem dX7_takeOut_45 : decode cX7_takeOut 45 = .ok (.ireturn, 1) := by decide +kernel
theorem dX7_takeOut_46 : decode cX7_takeOut 46 = .ok (.aload_n 0, 1) := by decide +kernel
theorem dX7_takeOut_47 : decode cX7_takeOut 47 = .ok (.iload_n 1, 1) := by decide +kernel
theorem dX7_takeOut_48 : decode cX7_takeOut 48 = .ok (.invokevirtual 175, 3) := by decide +kernel
theorem dX7_takeOut_51 : decode cX7_takeOut 51 = .ok (.aload_n 0, 1) := by decide +kernel
theorem dX7_takeOut_52 : decode cX7_takeOut 52 = .ok (.dup, 1) := by decide +kernel
theorem dX7_takeOut_53 : decode cX7_takeOut 53 = .ok (.getfield 62, 3) := by decide +kernel
theorem dX7_takeOut_56 : decode cX7_takeOut 56 = .ok (.iload_n 3, 1) := by decide +kernel
theorem dX7_takeOut_57 : decode cX7_takeOut 57 = .ok (.isub, 1) := by decide +kernel
theorem dX7_takeOut_58 : decode cX7_takeOut 58 = .ok (.putfield 62, 3) := by decide +kernel
theorem dX7_takeOut_61 : decode cX7_takeOut 61 = .ok (.iload_n 2, 1) := by decide +kernel
theorem dX7_takeOut_62 : decode cX7_takeOut 62 = .ok (.istore 4, 2) := by decide +kernel
theorem dX7_takeOut_64 : decode cX7_takeOut 64 = .ok (.iload 4, 2) := by decide +kernel
theorem dX7_takeOut_66 : decode cX7_takeOut 66 = .ok (.aload_n 0, 1) := by decide +kernel
theorem dX7_takeOut_67 : decode cX7_takeOut 67 = .ok (.getfield 62, 3) := by decide +kernel
theorem dX7_takeOut_70 : decode cX7_takeOut 70 = .ok (.if_icmp .ge 25, 3) := by decide +kernel
theorem dX7_takeOut_73 : decode cX7_takeOut 73 = .ok (.aload_n 0, 1) := by decide +kernel
theorem dX7_takeOut_74 : decode cX7_takeOut 74 = .ok (.getfield 26, 3) := by decide +kernel
theorem dX7_takeOut_77 : decode cX7_takeOut 77 = .ok (.iload 4, 2) := by decide +kernel
theorem dX7_takeOut_79 : decode cX7_takeOut 79 = .ok (.aload_n 0, 1) := by decide +kernel
theorem dX7_takeOut_80 : decode cX7_takeOut 80 = .ok (.getfield 26, 3) := by decide +kernel
theorem dX7_takeOut_83 : decode cX7_takeOut 83 = .ok (.iload 4, 2) := by decide +kernel
theorem dX7_takeOut_85 : decode cX7_takeOut 85 = .ok (.iload_n 3, 1) := by decide +kernel
theorem dX7_takeOut_86 : decode cX7_takeOut 86 = .ok (.iadd, 1) := by decide +kernel
theorem dX7_takeOut_87 : decode cX7_takeOut 87 = .ok (.iaload, 1) := by decide +kernel
theorem dX7_takeOut_88 : decode cX7_takeOut 88 = .ok (.iastore, 1) := by decide +kernel
theorem dX7_takeOut_89 : decode cX7_takeOut 89 = .ok (.iinc 4 1, 3) := by decide +kernel
theorem dX7_takeOut_92 : decode cX7_takeOut 92 = .ok (.goto (-28), 3) := by decide +kernel
theorem dX7_takeOut_95 : decode cX7_takeOut 95 = .ok (.aload_n 0, 1) := by decide +kernel
theorem dX7_takeOut_96 : decode cX7_takeOut 96 = .ok (.invokevirtual 154, 3) := by decide +kernel
theorem dX7_takeOut_99 : decode cX7_takeOut 99 = .ok (.aload_n 0, 1) := by decide +kernel
theorem dX7_takeOut_100 : decode cX7_takeOut 100 = .ok (.iload_n 1, 1) := by decide +kernel
theorem dX7_takeOut_101 : decode cX7_takeOut 101 = .ok (.iconst 3, 1) := by decide +kernel
theorem dX7_takeOut_102 : decode cX7_takeOut 102 = .ok (.invokevirtual 185, 3) := by decide +kernel
theorem dX7_takeOut_105 : decode cX7_takeOut 105 = .ok (.ireturn, 1) := by decide +kernel
theorem dX7_copy_0 : decode cX7_copy 0 = .ok (.aload_n 0, 1) := by decide +kernel
theorem dX7_copy_1 : decode cX7_copy 1 = .ok (.iload_n 1, 1) := by decide +kernel
theorem dX7_copy_2 : decode cX7_copy 2 = .ok (.invokestatic 157, 3) := by decide +kernel
theorem dX7_copy_5 : decode cX7_copy 5 = .ok (.ifCond .eq 14, 3) := by decide +kernel
theorem dX7_copy_8 : decode cX7_copy 8 = .ok (.iload_n 2, 1) := by decide +kernel
theorem dX7_copy_9 : decode cX7_copy 9 = .ok (.invokestatic 157, 3) := by decide +kernel
theorem dX7_copy_12 : decode cX7_copy 12 = .ok (.ifCond .eq 7, 3) := by decide +kernel
theorem dX7_copy_15 : decode cX7_copy 15 = .ok (.iconst 0, 1) := by decide +kernel
theorem dX7_copy_16 : decode cX7_copy 16 = .ok (.goto 4, 3) := by decide +kernel
theorem dX7_copy_19 : decode cX7_copy 19 = .ok (.iconst 1, 1) := by decide +kernel
theorem dX7_copy_20 : decode cX7_copy 20 = .ok (.putfield 47, 3) := by decide +kernel
theorem dX7_copy_23 : decode cX7_copy 23 = .ok (.aload_n 0, 1) := by decide +kernel
theorem dX7_copy_24 : decode cX7_copy 24 = .ok (.getfield 47, 3) := by decide +kernel
theorem dX7_copy_27 : decode cX7_copy 27 = .ok (.ifCond .le 5, 3) := by decide +kernel
theorem dX7_copy_30 : decode cX7_copy 30 = .ok (.iconst 0, 1) := by decide +kernel
theorem dX7_copy_31 : decode cX7_copy 31 = .ok (.ireturn, 1) := by decide +kernel
theorem dX7_copy_32 : decode cX7_copy 32 = .ok (.aload_n 0, 1) := by decide +kernel
theorem dX7_copy_33 : decode cX7_copy 33 = .ok (.iload_n 2, 1) := by decide +kernel
theorem dX7_copy_34 : decode cX7_copy 34 = .ok (.invokevirtual 175, 3) := by decide +kernel
theorem dX7_copy_37 : decode cX7_copy 37 = .ok (.aload_n 0, 1) := by decide +kernel
theorem dX7_copy_38 : decode cX7_copy 38 = .ok (.invokevirtual 154, 3) := by decide +kernel
theorem dX7_copy_41 : decode cX7_copy 41 = .ok (.aload_n 0, 1) := by decide +kernel
theorem dX7_copy_42 : decode cX7_copy 42 = .ok (.iload_n 1, 1) := by decide +kernel
theorem dX7_copy_43 : decode cX7_copy 43 = .ok (.iconst 2, 1) := by decide +kernel
theorem dX7_copy_44 : decode cX7_copy 44 = .ok (.invokevirtual 185, 3) := by decide +kernel
theorem dX7_copy_47 : decode cX7_copy 47 = .ok (.ireturn, 1) := by decide +kernel
theorem dX7_rotate_0 : decode cX7_rotate 0 = .ok (.aload_n 0, 1) := by decide +kernel
theorem dX7_rotate_1 : decode cX7_rotate 1 = .ok (.iload_n 1, 1) := by decide +kernel
theorem dX7_rotate_2 : decode cX7_rotate 2 = .ok (.invokestatic 157, 3) := by decide +kernel
theorem dX7_rotate_5 : decode cX7_rotate 5 = .ok (.ifCond .ne 7, 3) := by decide +kernel
theorem dX7_rotate_8 : decode cX7_rotate 8 = .ok (.iconst 1, 1) := by decide +kernel
theorem dX7_rotate_9 : decode cX7_rotate 9 = .ok (.goto 21, 3) := by decide +kernel
theorem dX7_rotate_12 : decode cX7_rotate 12 = .ok (.iload_n 2, 1) := by decide +kernel
theorem dX7_rotate_13 : decode cX7_rotate 13 = .ok (.iconst 1, 1) := by decide +kernel
theorem dX7_rotate_14 : decode cX7_rotate 14 = .ok (.aload_n 0, 1) := by decide +kernel
theorem dX7_rotate_15 : decode cX7_rotate 15 = .ok (.iload_n 1, 1) := by decide +kernel
theorem dX7_rotate_16 : decode cX7_rotate 16 = .ok (.invokevirtual 58, 3) := by decide +kernel
theorem dX7_rotate_19 : decode cX7_rotate 19 = .ok (.invokestatic 54, 3) := by decide +kernel
theorem dX7_rotate_22 : decode cX7_rotate 22 = .ok (.ifCond .eq 7, 3) := by decide +kernel
theorem dX7_rotate_25 : decode cX7_rotate 25 = .ok (.iconst 0, 1) := by decide +kernel
theorem dX7_rotate_26 : decode cX7_rotate 26 = .ok (.goto 4, 3) := by decide +kernel
theorem dX7_rotate_29 : decode cX7_rotate 29 = .ok (.iconst 2, 1) := by decide +kernel
theorem dX7_rotate_30 : decode cX7_rotate 30 = .ok (.putfield 47, 3) := by decide +kernel
theorem dX7_rotate_33 : decode cX7_rotate 33 = .ok (.aload_n 0, 1) := by decide +kernel
theorem dX7_rotate_34 : decode cX7_rotate 34 = .ok (.getfield 47, 3) := by decide +kernel
theorem dX7_rotate_37 : decode cX7_rotate 37 = .ok (.ifCond .le 5, 3) := by decide +kernel
theorem dX7_rotate_40 : decode cX7_rotate 40 = .ok (.iconst 0, 1) := by decide +kernel
theorem dX7_rotate_41 : decode cX7_rotate 41 = .ok (.ireturn, 1) := by decide +kernel
theorem dX7_rotate_42 : decode cX7_rotate 42 = .ok (.aload_n 0, 1) := by decide +kernel
theorem dX7_rotate_43 : decode cX7_rotate 43 = .ok (.aload_n 0, 1) := by decide +kernel
theorem dX7_rotate_44 : decode cX7_rotate 44 = .ok (.iload_n 1, 1) := by decide +kernel
theorem dX7_rotate_45 : decode cX7_rotate 45 = .ok (.invokevirtual 58, 3) := by decide +kernel
theorem dX7_rotate_48 : decode cX7_rotate 48 = .ok (.putfield 62, 3) := by decide +kernel
theorem dX7_rotate_51 : decode cX7_rotate 51 = .ok (.iconst 0, 1) := by decide +kernel
theorem dX7_rotate_52 : decode cX7_rotate 52 = .ok (.istore_n 3, 1) := by decide +kernel
theorem dX7_rotate_53 : decode cX7_rotate 53 = .ok (.iload_n 3, 1) := by decide +kernel
theorem dX7_rotate_54 : decode cX7_rotate 54 = .ok (.aload_n 0, 1) := by decide +kernel
theorem dX7_rotate_55 : decode cX7_rotate 55 = .ok (.getfield 62, 3) := by decide +kernel
theorem dX7_rotate_58 : decode cX7_rotate 58 = .ok (.if_icmp .ge 28, 3) := by decide +kernel
theorem dX7_rotate_61 : decode cX7_rotate 61 = .ok (.aload_n 0, 1) := by decide +kernel
theorem dX7_rotate_62 : decode cX7_rotate 62 = .ok (.getfield 26, 3) := by decide +kernel
theorem dX7_rotate_65 : decode cX7_rotate 65 = .ok (.iload_n 3, 1) := by decide +kernel
theorem dX7_rotate_66 : decode cX7_rotate 66 = .ok (.aload_n 0, 1) := by decide +kernel
theorem dX7_rotate_67 : decode cX7_rotate 67 = .ok (.iload_n 1, 1) := by decide +kernel
theorem dX7_rotate_68 : decode cX7_rotate 68 = .ok (.iload_n 3, 1) := by decide +kernel
theorem dX7_rotate_69 : decode cX7_rotate 69 = .ok (.iload_n 2, 1) := by decide +kernel
theorem dX7_rotate_70 : decode cX7_rotate 70 = .ok (.iadd, 1) := by decide +kernel
theorem dX7_rotate_71 : decode cX7_rotate 71 = .ok (.aload_n 0, 1) := by decide +kernel
theorem dX7_rotate_72 : decode cX7_rotate 72 = .ok (.getfield 62, 3) := by decide +kernel
theorem dX7_rotate_75 : decode cX7_rotate 75 = .ok (.irem, 1) := by decide +kernel
theorem dX7_rotate_76 : decode cX7_rotate 76 = .ok (.invokevirtual 65, 3) := by decide +kernel
theorem dX7_rotate_79 : decode cX7_rotate 79 = .ok (.iastore, 1) := by decide +kernel
theorem dX7_rotate_80 : decode cX7_rotate 80 = .ok (.iinc 3 1, 3) := by decide +kernel
theorem dX7_rotate_83 : decode cX7_rotate 83 = .ok (.goto (-30), 3) := by decide +kernel
theorem dX7_rotate_86 : decode cX7_rotate 86 = .ok (.aload_n 0, 1) := by decide +kernel
theorem dX7_rotate_87 : decode cX7_rotate 87 = .ok (.invokevirtual 154, 3) := by decide +kernel
theorem dX7_rotate_90 : decode cX7_rotate 90 = .ok (.aload_n 0, 1) := by decide +kernel
theorem dX7_rotate_91 : decode cX7_rotate 91 = .ok (.iload_n 1, 1) := by decide +kernel
theorem dX7_rotate_92 : decode cX7_rotate 92 = .ok (.iconst 3, 1) := by decide +kernel
theorem dX7_rotate_93 : decode cX7_rotate 93 = .ok (.invokevirtual 185, 3) := by decide +kernel
theorem dX7_rotate_96 : decode cX7_rotate 96 = .ok (.ireturn, 1) := by decide +kernel
theorem dX7_drop_0 : decode cX7_drop 0 = .ok (.aload_n 0, 1) := by decide +kernel
theorem dX7_drop_1 : decode cX7_drop 1 = .ok (.iload_n 1, 1) := by decide +kernel
theorem dX7_drop_2 : decode cX7_drop 2 = .ok (.invokestatic 157, 3) := by decide +kernel
theorem dX7_drop_5 : decode cX7_drop 5 = .ok (.ifCond .eq 7, 3) := by decide +kernel
theorem dX7_drop_8 : decode cX7_drop 8 = .ok (.iconst 0, 1) := by decide +kernel
theorem dX7_drop_9 : decode cX7_drop 9 = .ok (.goto 4, 3) := by decide +kernel
theorem dX7_drop_12 : decode cX7_drop 12 = .ok (.iconst 1, 1) := by decide +kernel
theorem dX7_drop_13 : decode cX7_drop 13 = .ok (.putfield 47, 3) := by decide +kernel
theorem dX7_drop_16 : decode cX7_drop 16 = .ok (.aload_n 0, 1) := by decide +kernel
theorem dX7_drop_17 : decode cX7_drop 17 = .ok (.getfield 47, 3) := by decide +kernel
theorem dX7_drop_20 : decode cX7_drop 20 = .ok (.ifCond .le 5, 3) := by decide +kernel
theorem dX7_drop_23 : decode cX7_drop 23 = .ok (.iconst 0, 1) := by decide +kernel
theorem dX7_drop_24 : decode cX7_drop 24 = .ok (.ireturn, 1) := by decide +kernel
theorem dX7_drop_25 : decode cX7_drop 25 = .ok (.aload_n 0, 1) := by decide +kernel
theorem dX7_drop_26 : decode cX7_drop 26 = .ok (.invokevirtual 169, 3) := by decide +kernel
theorem dX7_drop_29 : decode cX7_drop 29 = .ok (.aload_n 0, 1) := by decide +kernel
theorem dX7_drop_30 : decode cX7_drop 30 = .ok (.iload_n 1, 1) := by decide +kernel
theorem dX7_drop_31 : decode cX7_drop 31 = .ok (.invokevirtual 58, 3) := by decide +kernel
theorem dX7_drop_34 : decode cX7_drop 34 = .ok (.istore_n 2, 1) := by decide +kernel
theorem dX7_drop_35 : decode cX7_drop 35 = .ok (.aload_n 0, 1) := by decide +kernel
theorem dX7_drop_36 : decode cX7_drop 36 = .ok (.iload_n 1, 1) := by decide +kernel
theorem dX7_drop_37 : decode cX7_drop 37 = .ok (.invokevirtual 128, 3) := by decide +kernel
theorem dX7_drop_40 : decode cX7_drop 40 = .ok (.iload_n 2, 1) := by decide +kernel
theorem dX7_drop_41 : decode cX7_drop 41 = .ok (.ireturn, 1) := by decide +kernel
theorem dX7_sweep_0 : decode cX7_sweep 0 = .ok (.aload_n 0, 1) := by decide +kernel
theorem dX7_sweep_1 : decode cX7_sweep 1 = .ok (.iconst 0, 1) := by decide +kernel
theorem dX7_sweep_2 : decode cX7_sweep 2 = .ok (.putfield 47, 3) := by decide +kernel
theorem dX7_sweep_5 : decode cX7_sweep 5 = .ok (.aload_n 0, 1) := by decide +kernel
theorem dX7_sweep_6 : decode cX7_sweep 6 = .ok (.invokevirtual 169, 3) := by decide +kernel
theorem dX7_sweep_9 : decode cX7_sweep 9 = .ok (.aload_n 0, 1) := by decide +kernel
theorem dX7_sweep_10 : decode cX7_sweep 10 = .ok (.getfield 7, 3) := by decide +kernel
theorem dX7_sweep_13 : decode cX7_sweep 13 = .ok (.bipush 6, 2) := by decide +kernel
theorem dX7_sweep_15 : decode cX7_sweep 15 = .ok (.iaload, 1) := by decide +kernel
theorem dX7_sweep_16 : decode cX7_sweep 16 = .ok (.istore_n 1, 1) := by decide +kernel
theorem dX7_sweep_17 : decode cX7_sweep 17 = .ok (.iconst 0, 1) := by decide +kernel
theorem dX7_sweep_18 : decode cX7_sweep 18 = .ok (.istore_n 2, 1) := by decide +kernel
theorem dX7_sweep_19 : decode cX7_sweep 19 = .ok (.iload_n 2, 1) := by decide +kernel
theorem dX7_sweep_20 : decode cX7_sweep 20 = .ok (.bipush 60, 2) := by decide +kernel
theorem dX7_sweep_22 : decode cX7_sweep 22 = .ok (.if_icmp .ge 35, 3) := by decide +kernel
theorem dX7_sweep_25 : decode cX7_sweep 25 = .ok (.aload_n 0, 1) := by decide +kernel
theorem dX7_sweep_26 : decode cX7_sweep 26 = .ok (.iload_n 2, 1) := by decide +kernel
theorem dX7_sweep_27 : decode cX7_sweep 27 = .ok (.invokevirtual 82, 3) := by decide +kernel
theorem dX7_sweep_30 : decode cX7_sweep 30 = .ok (.ifCond .eq 21, 3) := by decide +kernel
theorem dX7_sweep_33 : decode cX7_sweep 33 = .ok (.aload_n 0, 1) := by decide +kernel
theorem dX7_sweep_34 : decode cX7_sweep 34 = .ok (.getfield 7, 3) := by decide +kernel
theorem dX7_sweep_37 : decode cX7_sweep 37 = .ok (.sipush 551, 3) := by decide +kernel
theorem dX7_sweep_40 : decode cX7_sweep 40 = .ok (.iload_n 2, 1) := by decide +kernel
theorem dX7_sweep_41 : decode cX7_sweep 41 = .ok (.iadd, 1) := by decide +kernel
theorem dX7_sweep_42 : decode cX7_sweep 42 = .ok (.iaload, 1) := by decide +kernel
theorem dX7_sweep_43 : decode cX7_sweep 43 = .ok (.ifCond .ne 8, 3) := by decide +kernel
theorem dX7_sweep_46 : decode cX7_sweep 46 = .ok (.aload_n 0, 1) := by decide +kernel
theorem dX7_sweep_47 : decode cX7_sweep 47 = .ok (.iload_n 2, 1) := by decide +kernel
theorem dX7_sweep_48 : decode cX7_sweep 48 = .ok (.invokevirtual 132, 3) := by decide +kernel
theorem dX7_sweep_51 : decode cX7_sweep 51 = .ok (.iinc 2 1, 3) := by decide +kernel
theorem dX7_sweep_54 : decode cX7_sweep 54 = .ok (.goto (-35), 3) := by decide +kernel
theorem dX7_sweep_57 : decode cX7_sweep 57 = .ok (.aload_n 0, 1) := by decide +kernel
theorem dX7_sweep_58 : decode cX7_sweep 58 = .ok (.getfield 7, 3) := by decide +kernel
theorem dX7_sweep_61 : decode cX7_sweep 61 = .ok (.bipush 6, 2) := by decide +kernel
theorem dX7_sweep_63 : decode cX7_sweep 63 = .ok (.iaload, 1) := by decide +kernel
theorem dX7_sweep_64 : decode cX7_sweep 64 = .ok (.iload_n 1, 1) := by decide +kernel
theorem dX7_sweep_65 : decode cX7_sweep 65 = .ok (.isub, 1) := by decide +kernel
theorem dX7_sweep_66 : decode cX7_sweep 66 = .ok (.ireturn, 1) := by decide +kernel
theorem dX7_isSetting_0 : decode cX7_isSetting 0 = .ok (.iload_n 0, 1) := by decide +kernel
theorem dX7_isSetting_1 : decode cX7_isSetting 1 = .ok (.iconst 0, 1) := by decide +kernel
theorem dX7_isSetting_2 : decode cX7_isSetting 2 = .ok (.iconst 4, 1) := by decide +kernel
theorem dX7_isSetting_3 : decode cX7_isSetting 3 = .ok (.invokestatic 54, 3) := by decide +kernel
theorem dX7_isSetting_6 : decode cX7_isSetting 6 = .ok (.ireturn, 1) := by decide +kernel
theorem dX7_isValue_0 : decode cX7_isValue 0 = .ok (.iload_n 0, 1) := by decide +kernel
theorem dX7_isValue_1 : decode cX7_isValue 1 = .ok (.tableswitch 55 0 3 #[31, 39, 47, 31], 31) := by decide +kernel
theorem dX7_isValue_32 : decode cX7_isValue 32 = .ok (.iload_n 1, 1) := by decide +kernel
theorem dX7_isValue_33 : decode cX7_isValue 33 = .ok (.iconst 1, 1) := by decide +kernel
theorem dX7_isValue_34 : decode cX7_isValue 34 = .ok (.bipush 6, 2) := by decide +kernel
theorem dX7_isValue_36 : decode cX7_isValue 36 = .ok (.invokestatic 54, 3) := by decide +kernel
theorem dX7_isValue_39 : decode cX7_isValue 39 = .ok (.ireturn, 1) := by decide +kernel
theorem dX7_isValue_40 : decode cX7_isValue 40 = .ok (.iload_n 1, 1) := by decide +kernel
theorem dX7_isValue_41 : decode cX7_isValue 41 = .ok (.iconst 1, 1) := by decide +kernel
theorem dX7_isValue_42 : decode cX7_isValue 42 = .ok (.bipush 9, 2) := by decide +kernel
theorem dX7_isValue_44 : decode cX7_isValue 44 = .ok (.invokestatic 54, 3) := by decide +kernel
theorem dX7_isValue_47 : decode cX7_isValue 47 = .ok (.ireturn, 1) := by decide +kernel
theorem dX7_isValue_48 : decode cX7_isValue 48 = .ok (.iload_n 1, 1) := by decide +kernel
theorem dX7_isValue_49 : decode cX7_isValue 49 = .ok (.iconst 0, 1) := by decide +kernel
theorem dX7_isValue_50 : decode cX7_isValue 50 = .ok (.bipush 8, 2) := by decide +kernel
theorem dX7_isValue_52 : decode cX7_isValue 52 = .ok (.invokestatic 54, 3) := by decide +kernel
theorem dX7_isValue_55 : decode cX7_isValue 55 = .ok (.ireturn, 1) := by decide +kernel
theorem dX7_isValue_56 : decode cX7_isValue 56 = .ok (.iload_n 1, 1) := by decide +kernel
theorem dX7_isValue_57 : decode cX7_isValue 57 = .ok (.bipush 6, 2) := by decide +kernel
theorem dX7_isValue_59 : decode cX7_isValue 59 = .ok (.bipush 20, 2) := by decide +kernel
theorem dX7_isValue_61 : decode cX7_isValue 61 = .ok (.invokestatic 54, 3) := by decide +kernel
theorem dX7_isValue_64 : decode cX7_isValue 64 = .ok (.ireturn, 1) := by decide +kernel
theorem dX7_set_0 : decode cX7_set 0 = .ok (.aload_n 0, 1) := by decide +kernel
theorem dX7_set_1 : decode cX7_set 1 = .ok (.iload_n 1, 1) := by decide +kernel
theorem dX7_set_2 : decode cX7_set 2 = .ok (.invokestatic 188, 3) := by decide +kernel
theorem dX7_set_5 : decode cX7_set 5 = .ok (.ifCond .ne 7, 3) := by decide +kernel
theorem dX7_set_8 : decode cX7_set 8 = .ok (.iconst 1, 1) := by decide +kernel
theorem dX7_set_9 : decode cX7_set 9 = .ok (.goto 16, 3) := by decide +kernel
theorem dX7_set_12 : decode cX7_set 12 = .ok (.iload_n 1, 1) := by decide +kernel
theorem dX7_set_13 : decode cX7_set 13 = .ok (.iload_n 2, 1) := by decide +kernel
theorem dX7_set_14 : decode cX7_set 14 = .ok (.invokestatic 191, 3) := by decide +kernel
theorem dX7_set_17 : decode cX7_set 17 = .ok (.ifCond .eq 7, 3) := by decide +kernel
theorem dX7_set_20 : decode cX7_set 20 = .ok (.iconst 0, 1) := by decide +kernel
theorem dX7_set_21 : decode cX7_set 21 = .ok (.goto 4, 3) := by decide +kernel
theorem dX7_set_24 : decode cX7_set 24 = .ok (.iconst 2, 1) := by decide +kernel
theorem dX7_set_25 : decode cX7_set 25 = .ok (.putfield 47, 3) := by decide +kernel
theorem dX7_set_28 : decode cX7_set 28 = .ok (.aload_n 0, 1) := by decide +kernel
theorem dX7_set_29 : decode cX7_set 29 = .ok (.getfield 47, 3) := by decide +kernel
theorem dX7_set_32 : decode cX7_set 32 = .ok (.ifCond .le 5, 3) := by decide +kernel
theorem dX7_set_35 : decode cX7_set 35 = .ok (.iconst 0, 1) := by decide +kernel
theorem dX7_set_36 : decode cX7_set 36 = .ok (.ireturn, 1) := by decide +kernel
theorem dX7_set_37 : decode cX7_set 37 = .ok (.aload_n 0, 1) := by decide +kernel
theorem dX7_set_38 : decode cX7_set 38 = .ok (.invokevirtual 169, 3) := by decide +kernel
theorem dX7_set_41 : decode cX7_set 41 = .ok (.aload_n 0, 1) := by decide +kernel
theorem dX7_set_42 : decode cX7_set 42 = .ok (.getfield 7, 3) := by decide +kernel
theorem dX7_set_45 : decode cX7_set 45 = .ok (.iload_n 1, 1) := by decide +kernel
theorem dX7_set_46 : decode cX7_set 46 = .ok (.iaload, 1) := by decide +kernel
theorem dX7_set_47 : decode cX7_set 47 = .ok (.istore_n 3, 1) := by decide +kernel
theorem dX7_set_48 : decode cX7_set 48 = .ok (.aload_n 0, 1) := by decide +kernel
theorem dX7_set_49 : decode cX7_set 49 = .ok (.getfield 7, 3) := by decide +kernel
theorem dX7_set_52 : decode cX7_set 52 = .ok (.iload_n 1, 1) := by decide +kernel
theorem dX7_set_53 : decode cX7_set 53 = .ok (.iload_n 2, 1) := by decide +kernel
theorem dX7_set_54 : decode cX7_set 54 = .ok (.iastore, 1) := by decide +kernel
theorem dX7_set_55 : decode cX7_set 55 = .ok (.iload_n 3, 1) := by decide +kernel
theorem dX7_set_56 : decode cX7_set 56 = .ok (.ireturn, 1) := by decide +kernel
theorem dX7_append_0 : decode cX7_append 0 = .ok (.aload_n 0, 1) := by decide +kernel
theorem dX7_append_1 : decode cX7_append 1 = .ok (.iload_n 1, 1) := by decide +kernel
theorem dX7_append_2 : decode cX7_append 2 = .ok (.bipush 33, 2) := by decide +kernel
theorem dX7_append_4 : decode cX7_append 4 = .ok (.bipush 126, 2) := by decide +kernel
theorem dX7_append_6 : decode cX7_append 6 = .ok (.invokestatic 54, 3) := by decide +kernel
theorem dX7_append_9 : decode cX7_append 9 = .ok (.ifCond .ne 7, 3) := by decide +kernel
theorem dX7_append_12 : decode cX7_append 12 = .ok (.iconst 1, 1) := by decide +kernel
theorem dX7_append_13 : decode cX7_append 13 = .ok (.goto 17, 3) := by decide +kernel
theorem dX7_append_16 : decode cX7_append 16 = .ok (.aload_n 0, 1) := by decide +kernel
theorem dX7_append_17 : decode cX7_append 17 = .ok (.getfield 145, 3) := by decide +kernel
theorem dX7_append_20 : decode cX7_append 20 = .ok (.bipush 60, 2) := by decide +kernel
theorem dX7_append_22 : decode cX7_append 22 = .ok (.if_icmp .ne 7, 3) := by decide +kernel
theorem dX7_append_25 : decode cX7_append 25 = .ok (.iconst 2, 1) := by decide +kernel
theorem dX7_append_26 : decode cX7_append 26 = .ok (.goto 4, 3) := by decide +kernel
theorem dX7_append_29 : decode cX7_append 29 = .ok (.iconst 0, 1) := by decide +kernel
theorem dX7_append_30 : decode cX7_append 30 = .ok (.putfield 47, 3) := by decide +kernel
theorem dX7_append_33 : decode cX7_append 33 = .ok (.aload_n 0, 1) := by decide +kernel
theorem dX7_append_34 : decode cX7_append 34 = .ok (.getfield 47, 3) := by decide +kernel
theorem dX7_append_37 : decode cX7_append 37 = .ok (.ifCond .le 5, 3) := by decide +kernel
theorem dX7_append_40 : decode cX7_append 40 = .ok (.iconst 0, 1) := by decide +kernel
theorem dX7_append_41 : decode cX7_append 41 = .ok (.ireturn, 1) := by decide +kernel
theorem dX7_append_42 : decode cX7_append 42 = .ok (.aload_n 0, 1) := by decide +kernel
theorem dX7_append_43 : decode cX7_append 43 = .ok (.getfield 23, 3) := by decide +kernel
theorem dX7_append_46 : decode cX7_append 46 = .ok (.aload_n 0, 1) := by decide +kernel
theorem dX7_append_47 : decode cX7_append 47 = .ok (.getfield 145, 3) := by decide +kernel
theorem dX7_append_50 : decode cX7_append 50 = .ok (.iload_n 1, 1) := by decide +kernel
theorem dX7_append_51 : decode cX7_append 51 = .ok (.iastore, 1) := by decide +kernel
theorem dX7_append_52 : decode cX7_append 52 = .ok (.aload_n 0, 1) := by decide +kernel
theorem dX7_append_53 : decode cX7_append 53 = .ok (.dup, 1) := by decide +kernel
theorem dX7_append_54 : decode cX7_append 54 = .ok (.getfield 145, 3) := by decide +kernel
theorem dX7_append_57 : decode cX7_append 57 = .ok (.iconst 1, 1) := by decide +kernel
theorem dX7_append_58 : decode cX7_append 58 = .ok (.iadd, 1) := by decide +kernel
theorem dX7_append_59 : decode cX7_append 59 = .ok (.putfield 145, 3) := by decide +kernel
theorem dX7_append_62 : decode cX7_append 62 = .ok (.aload_n 0, 1) := by decide +kernel
theorem dX7_append_63 : decode cX7_append 63 = .ok (.getfield 145, 3) := by decide +kernel
theorem dX7_append_66 : decode cX7_append 66 = .ok (.ireturn, 1) := by decide +kernel
theorem dX7_clearBuffer_0 : decode cX7_clearBuffer 0 = .ok (.aload_n 0, 1) := by decide +kernel
theorem dX7_clearBuffer_1 : decode cX7_clearBuffer 1 = .ok (.iconst 0, 1) := by decide +kernel
theorem dX7_clearBuffer_2 : decode cX7_clearBuffer 2 = .ok (.putfield 47, 3) := by decide +kernel
theorem dX7_clearBuffer_5 : decode cX7_clearBuffer 5 = .ok (.aload_n 0, 1) := by decide +kernel
theorem dX7_clearBuffer_6 : decode cX7_clearBuffer 6 = .ok (.getfield 145, 3) := by decide +kernel
theorem dX7_clearBuffer_9 : decode cX7_clearBuffer 9 = .ok (.istore_n 1, 1) := by decide +kernel
theorem dX7_clearBuffer_10 : decode cX7_clearBuffer 10 = .ok (.aload_n 0, 1) := by decide +kernel
theorem dX7_clearBuffer_11 : decode cX7_clearBuffer 11 = .ok (.iconst 0, 1) := by decide +kernel
theorem dX7_clearBuffer_12 : decode cX7_clearBuffer 12 = .ok (.putfield 145, 3) := by decide +kernel
theorem dX7_clearBuffer_15 : decode cX7_clearBuffer 15 = .ok (.iload_n 1, 1) := by decide +kernel
theorem dX7_clearBuffer_16 : decode cX7_clearBuffer 16 = .ok (.ireturn, 1) := by decide +kernel
theorem dX7_firstError_0 : decode cX7_firstError 0 = .ok (.aload_n 0, 1) := by decide +kernel
theorem dX7_firstError_1 : decode cX7_firstError 1 = .ok (.iconst 0, 1) := by decide +kernel
theorem dX7_firstError_2 : decode cX7_firstError 2 = .ok (.putfield 47, 3) := by decide +kernel
theorem dX7_firstError_5 : decode cX7_firstError 5 = .ok (.aload_n 0, 1) := by decide +kernel
theorem dX7_firstError_6 : decode cX7_firstError 6 = .ok (.invokevirtual 151, 3) := by decide +kernel
theorem dX7_firstError_9 : decode cX7_firstError 9 = .ok (.ireturn, 1) := by decide +kernel
theorem dX7_undo_0 : decode cX7_undo 0 = .ok (.aload_n 0, 1) := by decide +kernel
theorem dX7_undo_1 : decode cX7_undo 1 = .ok (.aload_n 0, 1) := by decide +kernel
theorem dX7_undo_2 : decode cX7_undo 2 = .ok (.getfield 51, 3) := by decide +kernel
theorem dX7_undo_5 : decode cX7_undo 5 = .ok (.ifCond .le 7, 3) := by decide +kernel
theorem dX7_undo_8 : decode cX7_undo 8 = .ok (.iconst 0, 1) := by decide +kernel
theorem dX7_undo_9 : decode cX7_undo 9 = .ok (.goto 4, 3) := by decide +kernel
theorem dX7_undo_12 : decode cX7_undo 12 = .ok (.iconst 1, 1) := by decide +kernel
theorem dX7_undo_13 : decode cX7_undo 13 = .ok (.putfield 47, 3) := by decide +kernel
theorem dX7_undo_16 : decode cX7_undo 16 = .ok (.aload_n 0, 1) := by decide +kernel
theorem dX7_undo_17 : decode cX7_undo 17 = .ok (.getfield 47, 3) := by decide +kernel
theorem dX7_undo_20 : decode cX7_undo 20 = .ok (.ifCond .le 5, 3) := by decide +kernel
theorem dX7_undo_23 : decode cX7_undo 23 = .ok (.iconst 0, 1) := by decide +kernel
theorem dX7_undo_24 : decode cX7_undo 24 = .ok (.ireturn, 1) := by decide +kernel
theorem dX7_undo_25 : decode cX7_undo 25 = .ok (.aload_n 0, 1) := by decide +kernel
theorem dX7_undo_26 : decode cX7_undo 26 = .ok (.dup, 1) := by decide +kernel
theorem dX7_undo_27 : decode cX7_undo 27 = .ok (.getfield 51, 3) := by decide +kernel
theorem dX7_undo_30 : decode cX7_undo 30 = .ok (.iconst 1, 1) := by decide +kernel
theorem dX7_undo_31 : decode cX7_undo 31 = .ok (.isub, 1) := by decide +kernel
theorem dX7_undo_32 : decode cX7_undo 32 = .ok (.putfield 51, 3) := by decide +kernel
theorem dX7_undo_35 : decode cX7_undo 35 = .ok (.iconst 0, 1) := by decide +kernel
theorem dX7_undo_36 : decode cX7_undo 36 = .ok (.istore_n 1, 1) := by decide +kernel
theorem dX7_undo_37 : decode cX7_undo 37 = .ok (.iload_n 1, 1) := by decide +kernel
theorem dX7_undo_38 : decode cX7_undo 38 = .ok (.sipush 611, 3) := by decide +kernel
theorem dX7_undo_41 : decode cX7_undo 41 = .ok (.if_icmp .ge 30, 3) := by decide +kernel
theorem dX7_undo_44 : decode cX7_undo 44 = .ok (.aload_n 0, 1) := by decide +kernel
theorem dX7_undo_45 : decode cX7_undo 45 = .ok (.getfield 7, 3) := by decide +kernel
theorem dX7_undo_48 : decode cX7_undo 48 = .ok (.iload_n 1, 1) := by decide +kernel
theorem dX7_undo_49 : decode cX7_undo 49 = .ok (.aload_n 0, 1) := by decide +kernel
theorem dX7_undo_50 : decode cX7_undo 50 = .ok (.getfield 17, 3) := by decide +kernel
theorem dX7_undo_53 : decode cX7_undo 53 = .ok (.sipush 611, 3) := by decide +kernel
theorem dX7_undo_56 : decode cX7_undo 56 = .ok (.aload_n 0, 1) := by decide +kernel
theorem dX7_undo_57 : decode cX7_undo 57 = .ok (.getfield 51, 3) := by decide +kernel
theorem dX7_undo_60 : decode cX7_undo 60 = .ok (.imul, 1) := by decide +kernel
theorem dX7_undo_61 : decode cX7_undo 61 = .ok (.iload_n 1, 1) := by decide +kernel
theorem dX7_undo_62 : decode cX7_undo 62 = .ok (.iadd, 1) := by decide +kernel
theorem dX7_undo_63 : decode cX7_undo 63 = .ok (.iaload, 1) := by decide +kernel
theorem dX7_undo_64 : decode cX7_undo 64 = .ok (.iastore, 1) := by decide +kernel
theorem dX7_undo_65 : decode cX7_undo 65 = .ok (.iinc 1 1, 3) := by decide +kernel
theorem dX7_undo_68 : decode cX7_undo 68 = .ok (.goto (-31), 3) := by decide +kernel
theorem dX7_undo_71 : decode cX7_undo 71 = .ok (.iconst 0, 1) := by decide +kernel
theorem dX7_undo_72 : decode cX7_undo 72 = .ok (.istore_n 1, 1) := by decide +kernel
theorem dX7_undo_73 : decode cX7_undo 73 = .ok (.iload_n 1, 1) := by decide +kernel
theorem dX7_undo_74 : decode cX7_undo 74 = .ok (.bipush 60, 2) := by decide +kernel
theorem dX7_undo_76 : decode cX7_undo 76 = .ok (.if_icmp .ge 29, 3) := by decide +kernel
theorem dX7_undo_79 : decode cX7_undo 79 = .ok (.aload_n 0, 1) := by decide +kernel
theorem dX7_undo_80 : decode cX7_undo 80 = .ok (.getfield 13, 3) := by decide +kernel
theorem dX7_undo_83 : decode cX7_undo 83 = .ok (.iload_n 1, 1) := by decide +kernel
theorem dX7_undo_84 : decode cX7_undo 84 = .ok (.aload_n 0, 1) := by decide +kernel
theorem dX7_undo_85 : decode cX7_undo 85 = .ok (.getfield 20, 3) := by decide +kernel
theorem dX7_undo_88 : decode cX7_undo 88 = .ok (.bipush 60, 2) := by decide +kernel
theorem dX7_undo_90 : decode cX7_undo 90 = .ok (.aload_n 0, 1) := by decide +kernel
theorem dX7_undo_91 : decode cX7_undo 91 = .ok (.getfield 51, 3) := by decide +kernel
theorem dX7_undo_94 : decode cX7_undo 94 = .ok (.imul, 1) := by decide +kernel
theorem dX7_undo_95 : decode cX7_undo 95 = .ok (.iload_n 1, 1) := by decide +kernel
theorem dX7_undo_96 : decode cX7_undo 96 = .ok (.iadd, 1) := by decide +kernel
theorem dX7_undo_97 : decode cX7_undo 97 = .ok (.laload, 1) := by decide +kernel
theorem dX7_undo_98 : decode cX7_undo 98 = .ok (.lastore, 1) := by decide +kernel
theorem dX7_undo_99 : decode cX7_undo 99 = .ok (.iinc 1 1, 3) := by decide +kernel
theorem dX7_undo_102 : decode cX7_undo 102 = .ok (.goto (-29), 3) := by decide +kernel
theorem dX7_undo_105 : decode cX7_undo 105 = .ok (.aload_n 0, 1) := by decide +kernel
theorem dX7_undo_106 : decode cX7_undo 106 = .ok (.getfield 51, 3) := by decide +kernel
theorem dX7_undo_109 : decode cX7_undo 109 = .ok (.ireturn, 1) := by decide +kernel
theorem dX7_piecesUpTo_0 : decode cX7_piecesUpTo 0 = .ok (.iconst 0, 1) := by decide +kernel
theorem dX7_piecesUpTo_1 : decode cX7_piecesUpTo 1 = .ok (.istore_n 3, 1) := by decide +kernel
theorem dX7_piecesUpTo_2 : decode cX7_piecesUpTo 2 = .ok (.iconst 0, 1) := by decide +kernel
theorem dX7_piecesUpTo_3 : decode cX7_piecesUpTo 3 = .ok (.istore 4, 2) := by decide +kernel
theorem dX7_piecesUpTo_5 : decode cX7_piecesUpTo 5 = .ok (.iload 4, 2) := by decide +kernel
theorem dX7_piecesUpTo_7 : decode cX7_piecesUpTo 7 = .ok (.iload_n 2, 1) := by decide +kernel
theorem dX7_piecesUpTo_8 : decode cX7_piecesUpTo 8 = .ok (.if_icmp .ge 27, 3) := by decide +kernel
theorem dX7_piecesUpTo_11 : decode cX7_piecesUpTo 11 = .ok (.iload_n 3, 1) := by decide +kernel
theorem dX7_piecesUpTo_12 : decode cX7_piecesUpTo 12 = .ok (.aload_n 0, 1) := by decide +kernel
theorem dX7_piecesUpTo_13 : decode cX7_piecesUpTo 13 = .ok (.iload_n 1, 1) := by decide +kernel
theorem dX7_piecesUpTo_14 : decode cX7_piecesUpTo 14 = .ok (.iload 4, 2) := by decide +kernel
theorem dX7_piecesUpTo_16 : decode cX7_piecesUpTo 16 = .ok (.invokevirtual 92, 3) := by decide +kernel
theorem dX7_piecesUpTo_19 : decode cX7_piecesUpTo 19 = .ok (.ifCond .ne 7, 3) := by decide +kernel
theorem dX7_piecesUpTo_22 : decode cX7_piecesUpTo 22 = .ok (.iconst 0, 1) := by decide +kernel
theorem dX7_piecesUpTo_23 : decode cX7_piecesUpTo 23 = .ok (.goto 4, 3) := by decide +kernel
theorem dX7_piecesUpTo_26 : decode cX7_piecesUpTo 26 = .ok (.iconst 1, 1) := by decide +kernel
theorem dX7_piecesUpTo_27 : decode cX7_piecesUpTo 27 = .ok (.iadd, 1) := by decide +kernel
theorem dX7_piecesUpTo_28 : decode cX7_piecesUpTo 28 = .ok (.istore_n 3, 1) := by decide +kernel
theorem dX7_piecesUpTo_29 : decode cX7_piecesUpTo 29 = .ok (.iinc 4 1, 3) := by decide +kernel
theorem dX7_piecesUpTo_32 : decode cX7_piecesUpTo 32 = .ok (.goto (-27), 3) := by decide +kernel
theorem dX7_piecesUpTo_35 : decode cX7_piecesUpTo 35 = .ok (.iload_n 3, 1) := by decide +kernel
theorem dX7_piecesUpTo_36 : decode cX7_piecesUpTo 36 = .ok (.ireturn, 1) := by decide +kernel
theorem dX7_signNow_0 : decode cX7_signNow 0 = .ok (.aload_n 0, 1) := by decide +kernel
theorem dX7_signNow_1 : decode cX7_signNow 1 = .ok (.iload_n 1, 1) := by decide +kernel
theorem dX7_signNow_2 : decode cX7_signNow 2 = .ok (.invokevirtual 175, 3) := by decide +kernel
theorem dX7_signNow_5 : decode cX7_signNow 5 = .ok (.iload_n 3, 1) := by decide +kernel
theorem dX7_signNow_6 : decode cX7_signNow 6 = .ok (.tableswitch 46 0 2 #[26, 33, 39], 26) := by decide +kernel
theorem dX7_signNow_32 : decode cX7_signNow 32 = .ok (.aload_n 0, 1) := by decide +kernel
theorem dX7_signNow_33 : decode cX7_signNow 33 = .ok (.getfield 26, 3) := by decide +kernel
theorem dX7_signNow_36 : decode cX7_signNow 36 = .ok (.iload_n 2, 1) := by decide +kernel
theorem dX7_signNow_37 : decode cX7_signNow 37 = .ok (.iaload, 1) := by decide +kernel
theorem dX7_signNow_38 : decode cX7_signNow 38 = .ok (.ireturn, 1) := by decide +kernel
theorem dX7_signNow_39 : decode cX7_signNow 39 = .ok (.aload_n 0, 1) := by decide +kernel
theorem dX7_signNow_40 : decode cX7_signNow 40 = .ok (.iload_n 2, 1) := by decide +kernel
theorem dX7_signNow_41 : decode cX7_signNow 41 = .ok (.invokevirtual 69, 3) := by decide +kernel
theorem dX7_signNow_44 : decode cX7_signNow 44 = .ok (.ireturn, 1) := by decide +kernel
theorem dX7_signNow_45 : decode cX7_signNow 45 = .ok (.aload_n 0, 1) := by decide +kernel
theorem dX7_signNow_46 : decode cX7_signNow 46 = .ok (.iload_n 1, 1) := by decide +kernel
theorem dX7_signNow_47 : decode cX7_signNow 47 = .ok (.iload_n 2, 1) := by decide +kernel
theorem dX7_signNow_48 : decode cX7_signNow 48 = .ok (.invokevirtual 194, 3) := by decide +kernel
theorem dX7_signNow_51 : decode cX7_signNow 51 = .ok (.ireturn, 1) := by decide +kernel
theorem dX7_signNow_52 : decode cX7_signNow 52 = .ok (.aload_n 0, 1) := by decide +kernel
theorem dX7_signNow_53 : decode cX7_signNow 53 = .ok (.iload_n 1, 1) := by decide +kernel
theorem dX7_signNow_54 : decode cX7_signNow 54 = .ok (.iload_n 2, 1) := by decide +kernel
theorem dX7_signNow_55 : decode cX7_signNow 55 = .ok (.invokevirtual 92, 3) := by decide +kernel
theorem dX7_signNow_58 : decode cX7_signNow 58 = .ok (.ifCond .ne 7, 3) := by decide +kernel
theorem dX7_signNow_61 : decode cX7_signNow 61 = .ok (.iconst 0, 1) := by decide +kernel
theorem dX7_signNow_62 : decode cX7_signNow 62 = .ok (.goto 4, 3) := by decide +kernel
theorem dX7_signNow_65 : decode cX7_signNow 65 = .ok (.iconst 1, 1) := by decide +kernel
theorem dX7_signNow_66 : decode cX7_signNow 66 = .ok (.ireturn, 1) := by decide +kernel
theorem dX7_sign_0 : decode cX7_sign 0 = .ok (.aload_n 0, 1) := by decide +kernel
theorem dX7_sign_1 : decode cX7_sign 1 = .ok (.aload_n 0, 1) := by decide +kernel
theorem dX7_sign_2 : decode cX7_sign 2 = .ok (.iload_n 1, 1) := by decide +kernel
theorem dX7_sign_3 : decode cX7_sign 3 = .ok (.iload_n 2, 1) := by decide +kernel
theorem dX7_sign_4 : decode cX7_sign 4 = .ok (.invokevirtual 182, 3) := by decide +kernel
theorem dX7_sign_7 : decode cX7_sign 7 = .ok (.ifCond .ne 7, 3) := by decide +kernel
theorem dX7_sign_10 : decode cX7_sign 10 = .ok (.iconst 1, 1) := by decide +kernel
theorem dX7_sign_11 : decode cX7_sign 11 = .ok (.goto 17, 3) := by decide +kernel
theorem dX7_sign_14 : decode cX7_sign 14 = .ok (.iload_n 3, 1) := by decide +kernel
theorem dX7_sign_15 : decode cX7_sign 15 = .ok (.iconst 0, 1) := by decide +kernel
theorem dX7_sign_16 : decode cX7_sign 16 = .ok (.iconst 3, 1) := by decide +kernel
theorem dX7_sign_17 : decode cX7_sign 17 = .ok (.invokestatic 54, 3) := by decide +kernel
theorem dX7_sign_20 : decode cX7_sign 20 = .ok (.ifCond .eq 7, 3) := by decide +kernel
theorem dX7_sign_23 : decode cX7_sign 23 = .ok (.iconst 0, 1) := by decide +kernel
theorem dX7_sign_24 : decode cX7_sign 24 = .ok (.goto 4, 3) := by decide +kernel
theorem dX7_sign_27 : decode cX7_sign 27 = .ok (.iconst 2, 1) := by decide +kernel
theorem dX7_sign_28 : decode cX7_sign 28 = .ok (.putfield 47, 3) := by decide +kernel
theorem dX7_sign_31 : decode cX7_sign 31 = .ok (.aload_n 0, 1) := by decide +kernel
theorem dX7_sign_32 : decode cX7_sign 32 = .ok (.getfield 47, 3) := by decide +kernel
theorem dX7_sign_35 : decode cX7_sign 35 = .ok (.ifCond .le 7, 3) := by decide +kernel
theorem dX7_sign_38 : decode cX7_sign 38 = .ok (.iconst 0, 1) := by decide +kernel
theorem dX7_sign_39 : decode cX7_sign 39 = .ok (.goto 10, 3) := by decide +kernel
theorem dX7_sign_42 : decode cX7_sign 42 = .ok (.aload_n 0, 1) := by decide +kernel
theorem dX7_sign_43 : decode cX7_sign 43 = .ok (.iload_n 1, 1) := by decide +kernel
theorem dX7_sign_44 : decode cX7_sign 44 = .ok (.iload_n 2, 1) := by decide +kernel
theorem dX7_sign_45 : decode cX7_sign 45 = .ok (.iload_n 3, 1) := by decide +kernel
theorem dX7_sign_46 : decode cX7_sign 46 = .ok (.invokevirtual 197, 3) := by decide +kernel
theorem dX7_sign_49 : decode cX7_sign 49 = .ok (.ireturn, 1) := by decide +kernel
theorem dX7_piecesOf_0 : decode cX7_piecesOf 0 = .ok (.aload_n 0, 1) := by decide +kernel
theorem dX7_piecesOf_1 : decode cX7_piecesOf 1 = .ok (.iload_n 1, 1) := by decide +kernel
theorem dX7_piecesOf_2 : decode cX7_piecesOf 2 = .ok (.aload_n 0, 1) := by decide +kernel
theorem dX7_piecesOf_3 : decode cX7_piecesOf 3 = .ok (.iload_n 1, 1) := by decide +kernel
theorem dX7_piecesOf_4 : decode cX7_piecesOf 4 = .ok (.invokevirtual 58, 3) := by decide +kernel
theorem dX7_piecesOf_7 : decode cX7_piecesOf 7 = .ok (.invokevirtual 194, 3) := by decide +kernel
theorem dX7_piecesOf_10 : decode cX7_piecesOf 10 = .ok (.ireturn, 1) := by decide +kernel
theorem dX7_firstOf_0 : decode cX7_firstOf 0 = .ok (.iconst 0, 1) := by decide +kernel
theorem dX7_firstOf_1 : decode cX7_firstOf 1 = .ok (.istore_n 3, 1) := by decide +kernel
theorem dX7_firstOf_2 : decode cX7_firstOf 2 = .ok (.iload_n 2, 1) := by decide +kernel
theorem dX7_firstOf_3 : decode cX7_firstOf 3 = .ok (.istore 4, 2) := by decide +kernel
theorem dX7_firstOf_5 : decode cX7_firstOf 5 = .ok (.iload 4, 2) := by decide +kernel
theorem dX7_firstOf_7 : decode cX7_firstOf 7 = .ok (.ifCond .le 28, 3) := by decide +kernel
theorem dX7_firstOf_10 : decode cX7_firstOf 10 = .ok (.iload 4, 2) := by decide +kernel
theorem dX7_firstOf_12 : decode cX7_firstOf 12 = .ok (.aload_n 0, 1) := by decide +kernel
theorem dX7_firstOf_13 : decode cX7_firstOf 13 = .ok (.iload_n 1, 1) := by decide +kernel
theorem dX7_firstOf_14 : decode cX7_firstOf 14 = .ok (.iload_n 3, 1) := by decide +kernel
theorem dX7_firstOf_15 : decode cX7_firstOf 15 = .ok (.invokevirtual 92, 3) := by decide +kernel
theorem dX7_firstOf_18 : decode cX7_firstOf 18 = .ok (.ifCond .ne 7, 3) := by decide +kernel
theorem dX7_firstOf_21 : decode cX7_firstOf 21 = .ok (.iconst 0, 1) := by decide +kernel
theorem dX7_firstOf_22 : decode cX7_firstOf 22 = .ok (.goto 4, 3) := by decide +kernel
theorem dX7_firstOf_25 : decode cX7_firstOf 25 = .ok (.iconst 1, 1) := by decide +kernel
theorem dX7_firstOf_26 : decode cX7_firstOf 26 = .ok (.isub, 1) := by decide +kernel
theorem dX7_firstOf_27 : decode cX7_firstOf 27 = .ok (.istore 4, 2) := by decide +kernel
theorem dX7_firstOf_29 : decode cX7_firstOf 29 = .ok (.iinc 3 1, 3) := by decide +kernel
theorem dX7_firstOf_32 : decode cX7_firstOf 32 = .ok (.goto (-27), 3) := by decide +kernel
theorem dX7_firstOf_35 : decode cX7_firstOf 35 = .ok (.iload_n 3, 1) := by decide +kernel
theorem dX7_firstOf_36 : decode cX7_firstOf 36 = .ok (.ireturn, 1) := by decide +kernel
theorem dX7_has_0 : decode cX7_has 0 = .ok (.iconst 0, 1) := by decide +kernel
theorem dX7_has_1 : decode cX7_has 1 = .ok (.istore_n 3, 1) := by decide +kernel
theorem dX7_has_2 : decode cX7_has 2 = .ok (.iconst 0, 1) := by decide +kernel
theorem dX7_has_3 : decode cX7_has 3 = .ok (.istore 4, 2) := by decide +kernel
theorem dX7_has_5 : decode cX7_has 5 = .ok (.iload 4, 2) := by decide +kernel
theorem dX7_has_7 : decode cX7_has 7 = .ok (.aload_n 0, 1) := by decide +kernel
theorem dX7_has_8 : decode cX7_has 8 = .ok (.iload_n 1, 1) := by decide +kernel
theorem dX7_has_9 : decode cX7_has 9 = .ok (.invokevirtual 58, 3) := by decide +kernel
theorem dX7_has_12 : decode cX7_has 12 = .ok (.if_icmp .ge 30, 3) := by decide +kernel
theorem dX7_has_15 : decode cX7_has 15 = .ok (.iload_n 3, 1) := by decide +kernel
theorem dX7_has_16 : decode cX7_has 16 = .ok (.ifCond .ne 14, 3) := by decide +kernel
theorem dX7_has_19 : decode cX7_has 19 = .ok (.aload_n 0, 1) := by decide +kernel
theorem dX7_has_20 : decode cX7_has 20 = .ok (.iload_n 1, 1) := by decide +kernel
theorem dX7_has_21 : decode cX7_has 21 = .ok (.iload 4, 2) := by decide +kernel
theorem dX7_has_23 : decode cX7_has 23 = .ok (.invokevirtual 95, 3) := by decide +kernel
theorem dX7_has_26 : decode cX7_has 26 = .ok (.iload_n 2, 1) := by decide +kernel
theorem dX7_has_27 : decode cX7_has 27 = .ok (.if_icmp .ne 7, 3) := by decide +kernel
theorem dX7_has_30 : decode cX7_has 30 = .ok (.iconst 1, 1) := by decide +kernel
theorem dX7_has_31 : decode cX7_has 31 = .ok (.goto 4, 3) := by decide +kernel
theorem dX7_has_34 : decode cX7_has 34 = .ok (.iconst 0, 1) := by decide +kernel
theorem dX7_has_35 : decode cX7_has 35 = .ok (.istore_n 3, 1) := by decide +kernel
theorem dX7_has_36 : decode cX7_has 36 = .ok (.iinc 4 1, 3) := by decide +kernel
theorem dX7_has_39 : decode cX7_has 39 = .ok (.goto (-34), 3) := by decide +kernel
theorem dX7_has_42 : decode cX7_has 42 = .ok (.iload_n 3, 1) := by decide +kernel
theorem dX7_has_43 : decode cX7_has 43 = .ok (.ireturn, 1) := by decide +kernel
theorem dX7_textsWith_0 : decode cX7_textsWith 0 = .ok (.iconst 0, 1) := by decide +kernel
theorem dX7_textsWith_1 : decode cX7_textsWith 1 = .ok (.istore_n 2, 1) := by decide +kernel
theorem dX7_textsWith_2 : decode cX7_textsWith 2 = .ok (.iconst 0, 1) := by decide +kernel
theorem dX7_textsWith_3 : decode cX7_textsWith 3 = .ok (.istore_n 3, 1) := by decide +kernel
theorem dX7_textsWith_4 : decode cX7_textsWith 4 = .ok (.iload_n 3, 1) := by decide +kernel
theorem dX7_textsWith_5 : decode cX7_textsWith 5 = .ok (.iconst 4, 1) := by decide +kernel
theorem dX7_textsWith_6 : decode cX7_textsWith 6 = .ok (.if_icmp .ge 28, 3) := by decide +kernel
theorem dX7_textsWith_9 : decode cX7_textsWith 9 = .ok (.iload_n 2, 1) := by decide +kernel
theorem dX7_textsWith_10 : decode cX7_textsWith 10 = .ok (.aload_n 0, 1) := by decide +kernel
theorem dX7_textsWith_11 : decode cX7_textsWith 11 = .ok (.iload_n 3, 1) := by decide +kernel
theorem dX7_textsWith_12 : decode cX7_textsWith 12 = .ok (.iload_n 1, 1) := by decide +kernel
theorem dX7_textsWith_13 : decode cX7_textsWith 13 = .ok (.invokevirtual 201, 3) := by decide +kernel
theorem dX7_textsWith_16 : decode cX7_textsWith 16 = .ok (.ifCond .eq 9, 3) := by decide +kernel
theorem dX7_textsWith_19 : decode cX7_textsWith 19 = .ok (.iconst 1, 1) := by decide +kernel
theorem dX7_textsWith_20 : decode cX7_textsWith 20 = .ok (.iload_n 3, 1) := by decide +kernel
theorem dX7_textsWith_21 : decode cX7_textsWith 21 = .ok (.ishl, 1) := by decide +kernel
theorem dX7_textsWith_22 : decode cX7_textsWith 22 = .ok (.goto 4, 3) := by decide +kernel
theorem dX7_textsWith_25 : decode cX7_textsWith 25 = .ok (.iconst 0, 1) := by decide +kernel
theorem dX7_textsWith_26 : decode cX7_textsWith 26 = .ok (.ior, 1) := by decide +kernel
theorem dX7_textsWith_27 : decode cX7_textsWith 27 = .ok (.istore_n 2, 1) := by decide +kernel
theorem dX7_textsWith_28 : decode cX7_textsWith 28 = .ok (.iinc 3 1, 3) := by decide +kernel
theorem dX7_textsWith_31 : decode cX7_textsWith 31 = .ok (.goto (-27), 3) := by decide +kernel
theorem dX7_textsWith_34 : decode cX7_textsWith 34 = .ok (.iload_n 2, 1) := by decide +kernel
theorem dX7_textsWith_35 : decode cX7_textsWith 35 = .ok (.ireturn, 1) := by decide +kernel
theorem dX7_ones_0 : decode cX7_ones 0 = .ok (.iload_n 0, 1) := by decide +kernel
theorem dX7_ones_1 : decode cX7_ones 1 = .ok (.iconst 1, 1) := by decide +kernel
theorem dX7_ones_2 : decode cX7_ones 2 = .ok (.iand, 1) := by decide +kernel
theorem dX7_ones_3 : decode cX7_ones 3 = .ok (.iload_n 0, 1) := by decide +kernel
theorem dX7_ones_4 : decode cX7_ones 4 = .ok (.iconst 1, 1) := by decide +kernel
theorem dX7_ones_5 : decode cX7_ones 5 = .ok (.ishr, 1) := by decide +kernel
theorem dX7_ones_6 : decode cX7_ones 6 = .ok (.iconst 1, 1) := by decide +kernel
theorem dX7_ones_7 : decode cX7_ones 7 = .ok (.iand, 1) := by decide +kernel
theorem dX7_ones_8 : decode cX7_ones 8 = .ok (.iadd, 1) := by decide +kernel
theorem dX7_ones_9 : decode cX7_ones 9 = .ok (.iload_n 0, 1) := by decide +kernel
theorem dX7_ones_10 : decode cX7_ones 10 = .ok (.iconst 2, 1) := by decide +kernel
theorem dX7_ones_11 : decode cX7_ones 11 = .ok (.ishr, 1) := by decide +kernel
theorem dX7_ones_12 : decode cX7_ones 12 = .ok (.iconst 1, 1) := by decide +kernel
theorem dX7_ones_13 : decode cX7_ones 13 = .ok (.iand, 1) := by decide +kernel
theorem dX7_ones_14 : decode cX7_ones 14 = .ok (.iadd, 1) := by decide +kernel
theorem dX7_ones_15 : decode cX7_ones 15 = .ok (.iload_n 0, 1) := by decide +kernel
theorem dX7_ones_16 : decode cX7_ones 16 = .ok (.iconst 3, 1) := by decide +kernel
theorem dX7_ones_17 : decode cX7_ones 17 = .ok (.ishr, 1) := by decide +kernel
theorem dX7_ones_18 : decode cX7_ones 18 = .ok (.iconst 1, 1) := by decide +kernel
theorem dX7_ones_19 : decode cX7_ones 19 = .ok (.iand, 1) := by decide +kernel
theorem dX7_ones_20 : decode cX7_ones 20 = .ok (.iadd, 1) := by decide +kernel
theorem dX7_ones_21 : decode cX7_ones 21 = .ok (.ireturn, 1) := by decide +kernel
theorem dX7_pieceNow_0 : decode cX7_pieceNow 0 = .ok (.iload_n 2, 1) := by decide +kernel
theorem dX7_pieceNow_1 : decode cX7_pieceNow 1 = .ok (.aload_n 0, 1) := by decide +kernel
theorem dX7_pieceNow_2 : decode cX7_pieceNow 2 = .ok (.iload_n 1, 1) := by decide +kernel
theorem dX7_pieceNow_3 : decode cX7_pieceNow 3 = .ok (.invokevirtual 204, 3) := by decide +kernel
theorem dX7_pieceNow_6 : decode cX7_pieceNow 6 = .ok (.if_icmp .lt 5, 3) := by decide +kernel
theorem dX7_pieceNow_9 : decode cX7_pieceNow 9 = .ok (.iconst (-1), 1) := by decide +kernel
theorem dX7_pieceNow_10 : decode cX7_pieceNow 10 = .ok (.ireturn, 1) := by decide +kernel
theorem dX7_pieceNow_11 : decode cX7_pieceNow 11 = .ok (.aload_n 0, 1) := by decide +kernel
theorem dX7_pieceNow_12 : decode cX7_pieceNow 12 = .ok (.iload_n 1, 1) := by decide +kernel
theorem dX7_pieceNow_13 : decode cX7_pieceNow 13 = .ok (.iload_n 2, 1) := by decide +kernel
theorem dX7_pieceNow_14 : decode cX7_pieceNow 14 = .ok (.invokevirtual 207, 3) := by decide +kernel
theorem dX7_pieceNow_17 : decode cX7_pieceNow 17 = .ok (.istore 4, 2) := by decide +kernel
theorem dX7_pieceNow_19 : decode cX7_pieceNow 19 = .ok (.aload_n 0, 1) := by decide +kernel
theorem dX7_pieceNow_20 : decode cX7_pieceNow 20 = .ok (.iload_n 1, 1) := by decide +kernel
theorem dX7_pieceNow_21 : decode cX7_pieceNow 21 = .ok (.iload 4, 2) := by decide +kernel
theorem dX7_pieceNow_23 : decode cX7_pieceNow 23 = .ok (.invokevirtual 95, 3) := by decide +kernel
theorem dX7_pieceNow_26 : decode cX7_pieceNow 26 = .ok (.istore 5, 2) := by decide +kernel
theorem dX7_pieceNow_28 : decode cX7_pieceNow 28 = .ok (.iload_n 3, 1) := by decide +kernel
theorem dX7_pieceNow_29 : decode cX7_pieceNow 29 = .ok (.tableswitch 80 0 3 #[31, 34, 37, 49], 31) := by decide +kernel
theorem dX7_pieceNow_60 : decode cX7_pieceNow 60 = .ok (.iload 5, 2) := by decide +kernel
theorem dX7_pieceNow_62 : decode cX7_pieceNow 62 = .ok (.ireturn, 1) := by decide +kernel
theorem dX7_pieceNow_63 : decode cX7_pieceNow 63 = .ok (.iload 4, 2) := by decide +kernel
theorem dX7_pieceNow_65 : decode cX7_pieceNow 65 = .ok (.ireturn, 1) := by decide +kernel
theorem dX7_pieceNow_66 : decode cX7_pieceNow 66 = .ok (.aload_n 0, 1) := by decide +kernel
theorem dX7_pieceNow_67 : decode cX7_pieceNow 67 = .ok (.getfield 7, 3) := by decide +kernel
theorem dX7_pieceNow_70 : decode cX7_pieceNow 70 = .ok (.sipush 491, 3) := by decide +kernel
theorem dX7_pieceNow_73 : decode cX7_pieceNow 73 = .ok (.iload 5, 2) := by decide +kernel
theorem dX7_pieceNow_75 : decode cX7_pieceNow 75 = .ok (.iadd, 1) := by decide +kernel
theorem dX7_pieceNow_76 : decode cX7_pieceNow 76 = .ok (.iaload, 1) := by decide +kernel
theorem dX7_pieceNow_77 : decode cX7_pieceNow 77 = .ok (.ireturn, 1) := by decide +kernel
theorem dX7_pieceNow_78 : decode cX7_pieceNow 78 = .ok (.aload_n 0, 1) := by decide +kernel
theorem dX7_pieceNow_79 : decode cX7_pieceNow 79 = .ok (.iload_n 1, 1) := by decide +kernel
theorem dX7_pieceNow_80 : decode cX7_pieceNow 80 = .ok (.iload 4, 2) := by decide +kernel
theorem dX7_pieceNow_82 : decode cX7_pieceNow 82 = .ok (.aload_n 0, 1) := by decide +kernel
theorem dX7_pieceNow_83 : decode cX7_pieceNow 83 = .ok (.getfield 7, 3) := by decide +kernel
theorem dX7_pieceNow_86 : decode cX7_pieceNow 86 = .ok (.sipush 491, 3) := by decide +kernel
theorem dX7_pieceNow_89 : decode cX7_pieceNow 89 = .ok (.iload 5, 2) := by decide +kernel
theorem dX7_pieceNow_91 : decode cX7_pieceNow 91 = .ok (.iadd, 1) := by decide +kernel
theorem dX7_pieceNow_92 : decode cX7_pieceNow 92 = .ok (.iaload, 1) := by decide +kernel
theorem dX7_pieceNow_93 : decode cX7_pieceNow 93 = .ok (.iadd, 1) := by decide +kernel
theorem dX7_pieceNow_94 : decode cX7_pieceNow 94 = .ok (.iconst 1, 1) := by decide +kernel
theorem dX7_pieceNow_95 : decode cX7_pieceNow 95 = .ok (.isub, 1) := by decide +kernel
theorem dX7_pieceNow_96 : decode cX7_pieceNow 96 = .ok (.invokevirtual 92, 3) := by decide +kernel
theorem dX7_pieceNow_99 : decode cX7_pieceNow 99 = .ok (.iconst 2, 1) := by decide +kernel
theorem dX7_pieceNow_100 : decode cX7_pieceNow 100 = .ok (.if_icmp .ne 7, 3) := by decide +kernel
theorem dX7_pieceNow_103 : decode cX7_pieceNow 103 = .ok (.iconst 1, 1) := by decide +kernel
theorem dX7_pieceNow_104 : decode cX7_pieceNow 104 = .ok (.goto 4, 3) := by decide +kernel
theorem dX7_pieceNow_107 : decode cX7_pieceNow 107 = .ok (.iconst 0, 1) := by decide +kernel
theorem dX7_pieceNow_108 : decode cX7_pieceNow 108 = .ok (.ireturn, 1) := by decide +kernel
theorem dX7_pieceNow_109 : decode cX7_pieceNow 109 = .ok (.aload_n 0, 1) := by decide +kernel
theorem dX7_pieceNow_110 : decode cX7_pieceNow 110 = .ok (.iload 5, 2) := by decide +kernel
theorem dX7_pieceNow_112 : decode cX7_pieceNow 112 = .ok (.invokevirtual 210, 3) := by decide +kernel
theorem dX7_pieceNow_115 : decode cX7_pieceNow 115 = .ok (.iconst 1, 1) := by decide +kernel
theorem dX7_pieceNow_116 : decode cX7_pieceNow 116 = .ok (.iload_n 1, 1) := by decide +kernel
theorem dX7_pieceNow_117 : decode cX7_pieceNow 117 = .ok (.ishl, 1) := by decide +kernel
theorem dX7_pieceNow_118 : decode cX7_pieceNow 118 = .ok (.iconst (-1), 1) := by decide +kernel
theorem dX7_pieceNow_119 : decode cX7_pieceNow 119 = .ok (.ixor, 1) := by decide +kernel
theorem dX7_pieceNow_120 : decode cX7_pieceNow 120 = .ok (.iand, 1) := by decide +kernel
theorem dX7_pieceNow_121 : decode cX7_pieceNow 121 = .ok (.invokestatic 213, 3) := by decide +kernel
theorem dX7_pieceNow_124 : decode cX7_pieceNow 124 = .ok (.ireturn, 1) := by decide +kernel
theorem dX7_piece_0 : decode cX7_piece 0 = .ok (.aload_n 0, 1) := by decide +kernel
theorem dX7_piece_1 : decode cX7_piece 1 = .ok (.iload_n 1, 1) := by decide +kernel
theorem dX7_piece_2 : decode cX7_piece 2 = .ok (.invokestatic 157, 3) := by decide +kernel
theorem dX7_piece_5 : decode cX7_piece 5 = .ok (.ifCond .ne 7, 3) := by decide +kernel
theorem dX7_piece_8 : decode cX7_piece 8 = .ok (.iconst 1, 1) := by decide +kernel
theorem dX7_piece_9 : decode cX7_piece 9 = .ok (.goto 21, 3) := by decide +kernel
theorem dX7_piece_12 : decode cX7_piece 12 = .ok (.iload_n 2, 1) := by decide +kernel
theorem dX7_piece_13 : decode cX7_piece 13 = .ok (.ifCond .lt 16, 3) := by decide +kernel
theorem dX7_piece_16 : decode cX7_piece 16 = .ok (.iload_n 3, 1) := by decide +kernel
theorem dX7_piece_17 : decode cX7_piece 17 = .ok (.iconst 0, 1) := by decide +kernel
theorem dX7_piece_18 : decode cX7_piece 18 = .ok (.iconst 4, 1) := by decide +kernel
theorem dX7_piece_19 : decode cX7_piece 19 = .ok (.invokestatic 54, 3) := by decide +kernel
theorem dX7_piece_22 : decode cX7_piece 22 = .ok (.ifCond .eq 7, 3) := by decide +kernel
theorem dX7_piece_25 : decode cX7_piece 25 = .ok (.iconst 0, 1) := by decide +kernel
theorem dX7_piece_26 : decode cX7_piece 26 = .ok (.goto 4, 3) := by decide +kernel
theorem dX7_piece_29 : decode cX7_piece 29 = .ok (.iconst 2, 1) := by decide +kernel
theorem dX7_piece_30 : decode cX7_piece 30 = .ok (.putfield 47, 3) := by decide +kernel
theorem dX7_piece_33 : decode cX7_piece 33 = .ok (.aload_n 0, 1) := by decide +kernel
theorem dX7_piece_34 : decode cX7_piece 34 = .ok (.getfield 47, 3) := by decide +kernel
theorem dX7_piece_37 : decode cX7_piece 37 = .ok (.ifCond .le 7, 3) := by decide +kernel
theorem dX7_piece_40 : decode cX7_piece 40 = .ok (.iconst 0, 1) := by decide +kernel
theorem dX7_piece_41 : decode cX7_piece 41 = .ok (.goto 10, 3) := by decide +kernel
theorem dX7_piece_44 : decode cX7_piece 44 = .ok (.aload_n 0, 1) := by decide +kernel
theorem dX7_piece_45 : decode cX7_piece 45 = .ok (.iload_n 1, 1) := by decide +kernel
theorem dX7_piece_46 : decode cX7_piece 46 = .ok (.iload_n 2, 1) := by decide +kernel
theorem dX7_piece_47 : decode cX7_piece 47 = .ok (.iload_n 3, 1) := by decide +kernel
theorem dX7_piece_48 : decode cX7_piece 48 = .ok (.invokevirtual 216, 3) := by decide +kernel
theorem dX7_piece_51 : decode cX7_piece 51 = .ok (.ireturn, 1) := by decide +kernel
theorem dX7_valueIn_0 : decode cX7_valueIn 0 = .ok (.aload_n 0, 1) := by decide +kernel
theorem dX7_valueIn_1 : decode cX7_valueIn 1 = .ok (.getfield 13, 3) := by decide +kernel
theorem dX7_valueIn_4 : decode cX7_valueIn 4 = .ok (.iload_n 1, 1) := by decide +kernel
theorem dX7_valueIn_5 : decode cX7_valueIn 5 = .ok (.laload, 1) := by decide +kernel
theorem dX7_valueIn_6 : decode cX7_valueIn 6 = .ok (.iconst 3, 1) := by decide +kernel
theorem dX7_valueIn_7 : decode cX7_valueIn 7 = .ok (.iload_n 2, 1) := by decide +kernel
theorem dX7_valueIn_8 : decode cX7_valueIn 8 = .ok (.imul, 1) := by decide +kernel
theorem dX7_valueIn_9 : decode cX7_valueIn 9 = .ok (.lshr, 1) := by decide +kernel
theorem dX7_valueIn_10 : decode cX7_valueIn 10 = .ok (.ldc2_w 219, 3) := by decide +kernel
theorem dX7_valueIn_13 : decode cX7_valueIn 13 = .ok (.land, 1) := by decide +kernel
theorem dX7_valueIn_14 : decode cX7_valueIn 14 = .ok (.l2i, 1) := by decide +kernel
theorem dX7_valueIn_15 : decode cX7_valueIn 15 = .ok (.iconst 1, 1) := by decide +kernel
theorem dX7_valueIn_16 : decode cX7_valueIn 16 = .ok (.iadd, 1) := by decide +kernel
theorem dX7_valueIn_17 : decode cX7_valueIn 17 = .ok (.ireturn, 1) := by decide +kernel
theorem dX7_slotNow_0 : decode cX7_slotNow 0 = .ok (.aload_n 0, 1) := by decide +kernel
theorem dX7_slotNow_1 : decode cX7_slotNow 1 = .ok (.iload_n 1, 1) := by decide +kernel
theorem dX7_slotNow_2 : decode cX7_slotNow 2 = .ok (.invokevirtual 82, 3) := by decide +kernel
theorem dX7_slotNow_5 : decode cX7_slotNow 5 = .ok (.ifCond .ne 5, 3) := by decide +kernel
theorem dX7_slotNow_8 : decode cX7_slotNow 8 = .ok (.iconst (-1), 1) := by decide +kernel
theorem dX7_slotNow_9 : decode cX7_slotNow 9 = .ok (.ireturn, 1) := by decide +kernel
theorem dX7_slotNow_10 : decode cX7_slotNow 10 = .ok (.iload_n 2, 1) := by decide +kernel
theorem dX7_slotNow_11 : decode cX7_slotNow 11 = .ok (.tableswitch 76 0 3 #[29, 40, 51, 58], 29) := by decide +kernel
theorem dX7_slotNow_40 : decode cX7_slotNow 40 = .ok (.aload_n 0, 1) := by decide +kernel
theorem dX7_slotNow_41 : decode cX7_slotNow 41 = .ok (.getfield 7, 3) := by decide +kernel
theorem dX7_slotNow_44 : decode cX7_slotNow 44 = .ok (.sipush 491, 3) := by decide +kernel
theorem dX7_slotNow_47 : decode cX7_slotNow 47 = .ok (.iload_n 1, 1) := by decide +kernel
theorem dX7_slotNow_48 : decode cX7_slotNow 48 = .ok (.iadd, 1) := by decide +kernel
theorem dX7_slotNow_49 : decode cX7_slotNow 49 = .ok (.iaload, 1) := by decide +kernel
theorem dX7_slotNow_50 : decode cX7_slotNow 50 = .ok (.ireturn, 1) := by decide +kernel
theorem dX7_slotNow_51 : decode cX7_slotNow 51 = .ok (.aload_n 0, 1) := by decide +kernel
theorem dX7_slotNow_52 : decode cX7_slotNow 52 = .ok (.getfield 7, 3) := by decide +kernel
theorem dX7_slotNow_55 : decode cX7_slotNow 55 = .ok (.sipush 551, 3) := by decide +kernel
theorem dX7_slotNow_58 : decode cX7_slotNow 58 = .ok (.iload_n 1, 1) := by decide +kernel
theorem dX7_slotNow_59 : decode cX7_slotNow 59 = .ok (.iadd, 1) := by decide +kernel
theorem dX7_slotNow_60 : decode cX7_slotNow 60 = .ok (.iaload, 1) := by decide +kernel
theorem dX7_slotNow_61 : decode cX7_slotNow 61 = .ok (.ireturn, 1) := by decide +kernel
theorem dX7_slotNow_62 : decode cX7_slotNow 62 = .ok (.aload_n 0, 1) := by decide +kernel
theorem dX7_slotNow_63 : decode cX7_slotNow 63 = .ok (.iload_n 1, 1) := by decide +kernel
theorem dX7_slotNow_64 : decode cX7_slotNow 64 = .ok (.iconst 0, 1) := by decide +kernel
theorem dX7_slotNow_65 : decode cX7_slotNow 65 = .ok (.invokevirtual 221, 3) := by decide +kernel
theorem dX7_slotNow_68 : decode cX7_slotNow 68 = .ok (.ireturn, 1) := by decide +kernel
theorem dX7_slotNow_69 : decode cX7_slotNow 69 = .ok (.aload_n 0, 1) := by decide +kernel
theorem dX7_slotNow_70 : decode cX7_slotNow 70 = .ok (.iload_n 1, 1) := by decide +kernel
theorem dX7_slotNow_71 : decode cX7_slotNow 71 = .ok (.aload_n 0, 1) := by decide +kernel
theorem dX7_slotNow_72 : decode cX7_slotNow 72 = .ok (.getfield 7, 3) := by decide +kernel
theorem dX7_slotNow_75 : decode cX7_slotNow 75 = .ok (.sipush 491, 3) := by decide +kernel
theorem dX7_slotNow_78 : decode cX7_slotNow 78 = .ok (.iload_n 1, 1) := by decide +kernel
theorem dX7_slotNow_79 : decode cX7_slotNow 79 = .ok (.iadd, 1) := by decide +kernel
theorem dX7_slotNow_80 : decode cX7_slotNow 80 = .ok (.iaload, 1) := by decide +kernel
theorem dX7_slotNow_81 : decode cX7_slotNow 81 = .ok (.iconst 1, 1) := by decide +kernel
theorem dX7_slotNow_82 : decode cX7_slotNow 82 = .ok (.isub, 1) := by decide +kernel
theorem dX7_slotNow_83 : decode cX7_slotNow 83 = .ok (.invokevirtual 221, 3) := by decide +kernel
theorem dX7_slotNow_86 : decode cX7_slotNow 86 = .ok (.ireturn, 1) := by decide +kernel
theorem dX7_slotNow_87 : decode cX7_slotNow 87 = .ok (.aload_n 0, 1) := by decide +kernel
theorem dX7_slotNow_88 : decode cX7_slotNow 88 = .ok (.iload_n 1, 1) := by decide +kernel
theorem dX7_slotNow_89 : decode cX7_slotNow 89 = .ok (.invokevirtual 210, 3) := by decide +kernel
theorem dX7_slotNow_92 : decode cX7_slotNow 92 = .ok (.ireturn, 1) := by decide +kernel
theorem dX7_slot_0 : decode cX7_slot 0 = .ok (.aload_n 0, 1) := by decide +kernel
theorem dX7_slot_1 : decode cX7_slot 1 = .ok (.iload_n 1, 1) := by decide +kernel
theorem dX7_slot_2 : decode cX7_slot 2 = .ok (.iconst 0, 1) := by decide +kernel
theorem dX7_slot_3 : decode cX7_slot 3 = .ok (.bipush 59, 2) := by decide +kernel
theorem dX7_slot_5 : decode cX7_slot 5 = .ok (.invokestatic 54, 3) := by decide +kernel
theorem dX7_slot_8 : decode cX7_slot 8 = .ok (.ifCond .ne 7, 3) := by decide +kernel
theorem dX7_slot_11 : decode cX7_slot 11 = .ok (.iconst 1, 1) := by decide +kernel
theorem dX7_slot_12 : decode cX7_slot 12 = .ok (.goto 17, 3) := by decide +kernel
theorem dX7_slot_15 : decode cX7_slot 15 = .ok (.iload_n 2, 1) := by decide +kernel
theorem dX7_slot_16 : decode cX7_slot 16 = .ok (.iconst 0, 1) := by decide +kernel
theorem dX7_slot_17 : decode cX7_slot 17 = .ok (.iconst 4, 1) := by decide +kernel
theorem dX7_slot_18 : decode cX7_slot 18 = .ok (.invokestatic 54, 3) := by decide +kernel
theorem dX7_slot_21 : decode cX7_slot 21 = .ok (.ifCond .eq 7, 3) := by decide +kernel
theorem dX7_slot_24 : decode cX7_slot 24 = .ok (.iconst 0, 1) := by decide +kernel
theorem dX7_slot_25 : decode cX7_slot 25 = .ok (.goto 4, 3) := by decide +kernel
theorem dX7_slot_28 : decode cX7_slot 28 = .ok (.iconst 2, 1) := by decide +kernel
theorem dX7_slot_29 : decode cX7_slot 29 = .ok (.putfield 47, 3) := by decide +kernel
theorem dX7_slot_32 : decode cX7_slot 32 = .ok (.aload_n 0, 1) := by decide +kernel
theorem dX7_slot_33 : decode cX7_slot 33 = .ok (.getfield 47, 3) := by decide +kernel
theorem dX7_slot_36 : decode cX7_slot 36 = .ok (.ifCond .le 7, 3) := by decide +kernel
theorem dX7_slot_39 : decode cX7_slot 39 = .ok (.iconst 0, 1) := by decide +kernel
theorem dX7_slot_40 : decode cX7_slot 40 = .ok (.goto 9, 3) := by decide +kernel
theorem dX7_slot_43 : decode cX7_slot 43 = .ok (.aload_n 0, 1) := by decide +kernel
theorem dX7_slot_44 : decode cX7_slot 44 = .ok (.iload_n 1, 1) := by decide +kernel
theorem dX7_slot_45 : decode cX7_slot 45 = .ok (.iload_n 2, 1) := by decide +kernel
theorem dX7_slot_46 : decode cX7_slot 46 = .ok (.invokevirtual 224, 3) := by decide +kernel
theorem dX7_slot_49 : decode cX7_slot 49 = .ok (.ireturn, 1) := by decide +kernel
theorem dX7_unlikePieces_0 : decode cX7_unlikePieces 0 = .ok (.iconst 0, 1) := by decide +kernel
theorem dX7_unlikePieces_1 : decode cX7_unlikePieces 1 = .ok (.istore_n 2, 1) := by decide +kernel
theorem dX7_unlikePieces_2 : decode cX7_unlikePieces 2 = .ok (.iconst 0, 1) := by decide +kernel
theorem dX7_unlikePieces_3 : decode cX7_unlikePieces 3 = .ok (.istore_n 3, 1) := by decide +kernel
theorem dX7_unlikePieces_4 : decode cX7_unlikePieces 4 = .ok (.iload_n 3, 1) := by decide +kernel
theorem dX7_unlikePieces_5 : decode cX7_unlikePieces 5 = .ok (.bipush 60, 2) := by decide +kernel
theorem dX7_unlikePieces_7 : decode cX7_unlikePieces 7 = .ok (.if_icmp .ge 34, 3) := by decide +kernel
theorem dX7_unlikePieces_10 : decode cX7_unlikePieces 10 = .ok (.iload_n 2, 1) := by decide +kernel
theorem dX7_unlikePieces_11 : decode cX7_unlikePieces 11 = .ok (.aload_n 0, 1) := by decide +kernel
theorem dX7_unlikePieces_12 : decode cX7_unlikePieces 12 = .ok (.iload_n 3, 1) := by decide +kernel
theorem dX7_unlikePieces_13 : decode cX7_unlikePieces 13 = .ok (.invokevirtual 82, 3) := by decide +kernel
theorem dX7_unlikePieces_16 : decode cX7_unlikePieces 16 = .ok (.ifCond .eq 16, 3) := by decide +kernel
theorem dX7_unlikePieces_19 : decode cX7_unlikePieces 19 = .ok (.aload_n 0, 1) := by decide +kernel
theorem dX7_unlikePieces_20 : decode cX7_unlikePieces 20 = .ok (.iload_n 1, 1) := by decide +kernel
theorem dX7_unlikePieces_21 : decode cX7_unlikePieces 21 = .ok (.iload_n 3, 1) := by decide +kernel
theorem dX7_unlikePieces_22 : decode cX7_unlikePieces 22 = .ok (.invokevirtual 201, 3) := by decide +kernel
theorem dX7_unlikePieces_25 : decode cX7_unlikePieces 25 = .ok (.ifCond .eq 7, 3) := by decide +kernel
theorem dX7_unlikePieces_28 : decode cX7_unlikePieces 28 = .ok (.iconst 1, 1) := by decide +kernel
theorem dX7_unlikePieces_29 : decode cX7_unlikePieces 29 = .ok (.goto 4, 3) := by decide +kernel
theorem dX7_unlikePieces_32 : decode cX7_unlikePieces 32 = .ok (.iconst 0, 1) := by decide +kernel
theorem dX7_unlikePieces_33 : decode cX7_unlikePieces 33 = .ok (.iadd, 1) := by decide +kernel
theorem dX7_unlikePieces_34 : decode cX7_unlikePieces 34 = .ok (.istore_n 2, 1) := by decide +kernel
theorem dX7_unlikePieces_35 : decode cX7_unlikePieces 35 = .ok (.iinc 3 1, 3) := by decide +kernel
theorem dX7_unlikePieces_38 : decode cX7_unlikePieces 38 = .ok (.goto (-34), 3) := by decide +kernel
theorem dX7_unlikePieces_41 : decode cX7_unlikePieces 41 = .ok (.iload_n 2, 1) := by decide +kernel
theorem dX7_unlikePieces_42 : decode cX7_unlikePieces 42 = .ok (.ireturn, 1) := by decide +kernel
theorem dX7_forcedPieces_0 : decode cX7_forcedPieces 0 = .ok (.iconst 0, 1) := by decide +kernel
theorem dX7_forcedPieces_1 : decode cX7_forcedPieces 1 = .ok (.istore_n 2, 1) := by decide +kernel
theorem dX7_forcedPieces_2 : decode cX7_forcedPieces 2 = .ok (.iconst 0, 1) := by decide +kernel
theorem dX7_forcedPieces_3 : decode cX7_forcedPieces 3 = .ok (.istore_n 3, 1) := by decide +kernel
theorem dX7_forcedPieces_4 : decode cX7_forcedPieces 4 = .ok (.iload_n 3, 1) := by decide +kernel
theorem dX7_forcedPieces_5 : decode cX7_forcedPieces 5 = .ok (.aload_n 0, 1) := by decide +kernel
theorem dX7_forcedPieces_6 : decode cX7_forcedPieces 6 = .ok (.iload_n 1, 1) := by decide +kernel
theorem dX7_forcedPieces_7 : decode cX7_forcedPieces 7 = .ok (.invokevirtual 58, 3) := by decide +kernel
theorem dX7_forcedPieces_10 : decode cX7_forcedPieces 10 = .ok (.if_icmp .ge 27, 3) := by decide +kernel
theorem dX7_forcedPieces_13 : decode cX7_forcedPieces 13 = .ok (.iload_n 2, 1) := by decide +kernel
theorem dX7_forcedPieces_14 : decode cX7_forcedPieces 14 = .ok (.aload_n 0, 1) := by decide +kernel
theorem dX7_forcedPieces_15 : decode cX7_forcedPieces 15 = .ok (.iload_n 1, 1) := by decide +kernel
theorem dX7_forcedPieces_16 : decode cX7_forcedPieces 16 = .ok (.iload_n 3, 1) := by decide +kernel
theorem dX7_forcedPieces_17 : decode cX7_forcedPieces 17 = .ok (.invokevirtual 92, 3) := by decide +kernel
theorem dX7_forcedPieces_20 : decode cX7_forcedPieces 20 = .ok (.iconst 2, 1) := by decide +kernel
theorem dX7_forcedPieces_21 : decode cX7_forcedPieces 21 = .ok (.if_icmp .ne 7, 3) := by decide +kernel
theorem dX7_forcedPieces_24 : decode cX7_forcedPieces 24 = .ok (.iconst 1, 1) := by decide +kernel
theorem dX7_forcedPieces_25 : decode cX7_forcedPieces 25 = .ok (.goto 4, 3) := by decide +kernel
theorem dX7_forcedPieces_28 : decode cX7_forcedPieces 28 = .ok (.iconst 0, 1) := by decide +kernel
theorem dX7_forcedPieces_29 : decode cX7_forcedPieces 29 = .ok (.iadd, 1) := by decide +kernel
theorem dX7_forcedPieces_30 : decode cX7_forcedPieces 30 = .ok (.istore_n 2, 1) := by decide +kernel
theorem dX7_forcedPieces_31 : decode cX7_forcedPieces 31 = .ok (.iinc 3 1, 3) := by decide +kernel
theorem dX7_forcedPieces_34 : decode cX7_forcedPieces 34 = .ok (.goto (-30), 3) := by decide +kernel
theorem dX7_forcedPieces_37 : decode cX7_forcedPieces 37 = .ok (.iload_n 2, 1) := by decide +kernel
theorem dX7_forcedPieces_38 : decode cX7_forcedPieces 38 = .ok (.ireturn, 1) := by decide +kernel
theorem dX7_longestPiece_0 : decode cX7_longestPiece 0 = .ok (.iconst 0, 1) := by decide +kernel
theorem dX7_longestPiece_1 : decode cX7_longestPiece 1 = .ok (.istore_n 2, 1) := by decide +kernel
theorem dX7_longestPiece_2 : decode cX7_longestPiece 2 = .ok (.iconst 0, 1) := by decide +kernel
theorem dX7_longestPiece_3 : decode cX7_longestPiece 3 = .ok (.istore_n 3, 1) := by decide +kernel
theorem dX7_longestPiece_4 : decode cX7_longestPiece 4 = .ok (.iload_n 3, 1) := by decide +kernel
theorem dX7_longestPiece_5 : decode cX7_longestPiece 5 = .ok (.aload_n 0, 1) := by decide +kernel
theorem dX7_longestPiece_6 : decode cX7_longestPiece 6 = .ok (.iload_n 1, 1) := by decide +kernel
theorem dX7_longestPiece_7 : decode cX7_longestPiece 7 = .ok (.invokevirtual 58, 3) := by decide +kernel
end
section
theorem dX7_longestPiece_10 : decode cX7_longestPiece 10 = .ok (.if_icmp .ge 39, 3) := by decide +kernel
theorem dX7_longestPiece_13 : decode cX7_longestPiece 13 = .ok (.aload_n 0, 1) := by decide +kernel
theorem dX7_longestPiece_14 : decode cX7_longestPiece 14 = .ok (.getfield 7, 3) := by decide +kernel
theorem dX7_longestPiece_17 : decode cX7_longestPiece 17 = .ok (.sipush 491, 3) := by decide +kernel
theorem dX7_longestPiece_20 : decode cX7_longestPiece 20 = .ok (.aload_n 0, 1) := by decide +kernel
theorem dX7_longestPiece_21 : decode cX7_longestPiece 21 = .ok (.iload_n 1, 1) := by decide +kernel
theorem dX7_longestPiece_22 : decode cX7_longestPiece 22 = .ok (.iload_n 3, 1) := by decide +kernel
theorem dX7_longestPiece_23 : decode cX7_longestPiece 23 = .ok (.invokevirtual 95, 3) := by decide +kernel
theorem dX7_longestPiece_26 : decode cX7_longestPiece 26 = .ok (.iadd, 1) := by decide +kernel
theorem dX7_longestPiece_27 : decode cX7_longestPiece 27 = .ok (.iaload, 1) := by decide +kernel
theorem dX7_longestPiece_28 : decode cX7_longestPiece 28 = .ok (.istore 4, 2) := by decide +kernel
theorem dX7_longestPiece_30 : decode cX7_longestPiece 30 = .ok (.iload 4, 2) := by decide +kernel
theorem dX7_longestPiece_32 : decode cX7_longestPiece 32 = .ok (.iload_n 2, 1) := by decide +kernel
theorem dX7_longestPiece_33 : decode cX7_longestPiece 33 = .ok (.if_icmp .le 8, 3) := by decide +kernel
theorem dX7_longestPiece_36 : decode cX7_longestPiece 36 = .ok (.iload 4, 2) := by decide +kernel
theorem dX7_longestPiece_38 : decode cX7_longestPiece 38 = .ok (.goto 4, 3) := by decide +kernel
theorem dX7_longestPiece_41 : decode cX7_longestPiece 41 = .ok (.iload_n 2, 1) := by decide +kernel
theorem dX7_longestPiece_42 : decode cX7_longestPiece 42 = .ok (.istore_n 2, 1) := by decide +kernel
theorem dX7_longestPiece_43 : decode cX7_longestPiece 43 = .ok (.iinc 3 1, 3) := by decide +kernel
theorem dX7_longestPiece_46 : decode cX7_longestPiece 46 = .ok (.goto (-42), 3) := by decide +kernel
theorem dX7_longestPiece_49 : decode cX7_longestPiece 49 = .ok (.iload_n 2, 1) := by decide +kernel
theorem dX7_longestPiece_50 : decode cX7_longestPiece 50 = .ok (.ireturn, 1) := by decide +kernel
theorem dX7_ownSigns_0 : decode cX7_ownSigns 0 = .ok (.iconst 0, 1) := by decide +kernel
theorem dX7_ownSigns_1 : decode cX7_ownSigns 1 = .ok (.istore_n 2, 1) := by decide +kernel
theorem dX7_ownSigns_2 : decode cX7_ownSigns 2 = .ok (.iconst 0, 1) := by decide +kernel
theorem dX7_ownSigns_3 : decode cX7_ownSigns 3 = .ok (.istore_n 3, 1) := by decide +kernel
theorem dX7_ownSigns_4 : decode cX7_ownSigns 4 = .ok (.iload_n 3, 1) := by decide +kernel
theorem dX7_ownSigns_5 : decode cX7_ownSigns 5 = .ok (.aload_n 0, 1) := by decide +kernel
theorem dX7_ownSigns_6 : decode cX7_ownSigns 6 = .ok (.iload_n 1, 1) := by decide +kernel
theorem dX7_ownSigns_7 : decode cX7_ownSigns 7 = .ok (.invokevirtual 58, 3) := by decide +kernel
theorem dX7_ownSigns_10 : decode cX7_ownSigns 10 = .ok (.if_icmp .ge 33, 3) := by decide +kernel
theorem dX7_ownSigns_13 : decode cX7_ownSigns 13 = .ok (.iload_n 2, 1) := by decide +kernel
theorem dX7_ownSigns_14 : decode cX7_ownSigns 14 = .ok (.aload_n 0, 1) := by decide +kernel
theorem dX7_ownSigns_15 : decode cX7_ownSigns 15 = .ok (.aload_n 0, 1) := by decide +kernel
theorem dX7_ownSigns_16 : decode cX7_ownSigns 16 = .ok (.iload_n 1, 1) := by decide +kernel
theorem dX7_ownSigns_17 : decode cX7_ownSigns 17 = .ok (.iload_n 3, 1) := by decide +kernel
theorem dX7_ownSigns_18 : decode cX7_ownSigns 18 = .ok (.invokevirtual 95, 3) := by decide +kernel
theorem dX7_ownSigns_21 : decode cX7_ownSigns 21 = .ok (.invokevirtual 210, 3) := by decide +kernel
theorem dX7_ownSigns_24 : decode cX7_ownSigns 24 = .ok (.iconst 1, 1) := by decide +kernel
theorem dX7_ownSigns_25 : decode cX7_ownSigns 25 = .ok (.iload_n 1, 1) := by decide +kernel
theorem dX7_ownSigns_26 : decode cX7_ownSigns 26 = .ok (.ishl, 1) := by decide +kernel
theorem dX7_ownSigns_27 : decode cX7_ownSigns 27 = .ok (.if_icmp .ne 7, 3) := by decide +kernel
theorem dX7_ownSigns_30 : decode cX7_ownSigns 30 = .ok (.iconst 1, 1) := by decide +kernel
theorem dX7_ownSigns_31 : decode cX7_ownSigns 31 = .ok (.goto 4, 3) := by decide +kernel
theorem dX7_ownSigns_34 : decode cX7_ownSigns 34 = .ok (.iconst 0, 1) := by decide +kernel
theorem dX7_ownSigns_35 : decode cX7_ownSigns 35 = .ok (.iadd, 1) := by decide +kernel
theorem dX7_ownSigns_36 : decode cX7_ownSigns 36 = .ok (.istore_n 2, 1) := by decide +kernel
theorem dX7_ownSigns_37 : decode cX7_ownSigns 37 = .ok (.iinc 3 1, 3) := by decide +kernel
theorem dX7_ownSigns_40 : decode cX7_ownSigns 40 = .ok (.goto (-36), 3) := by decide +kernel
theorem dX7_ownSigns_43 : decode cX7_ownSigns 43 = .ok (.iload_n 2, 1) := by decide +kernel
theorem dX7_ownSigns_44 : decode cX7_ownSigns 44 = .ok (.ireturn, 1) := by decide +kernel
theorem dX7_textNow_0 : decode cX7_textNow 0 = .ok (.iload_n 2, 1) := by decide +kernel
theorem dX7_textNow_1 : decode cX7_textNow 1 = .ok (.tableswitch 65 0 4 #[35, 41, 47, 53, 59], 35) := by decide +kernel
theorem dX7_textNow_36 : decode cX7_textNow 36 = .ok (.aload_n 0, 1) := by decide +kernel
theorem dX7_textNow_37 : decode cX7_textNow 37 = .ok (.iload_n 1, 1) := by decide +kernel
theorem dX7_textNow_38 : decode cX7_textNow 38 = .ok (.invokevirtual 58, 3) := by decide +kernel
theorem dX7_textNow_41 : decode cX7_textNow 41 = .ok (.ireturn, 1) := by decide +kernel
theorem dX7_textNow_42 : decode cX7_textNow 42 = .ok (.aload_n 0, 1) := by decide +kernel
theorem dX7_textNow_43 : decode cX7_textNow 43 = .ok (.iload_n 1, 1) := by decide +kernel
theorem dX7_textNow_44 : decode cX7_textNow 44 = .ok (.invokevirtual 204, 3) := by decide +kernel
theorem dX7_textNow_47 : decode cX7_textNow 47 = .ok (.ireturn, 1) := by decide +kernel
theorem dX7_textNow_48 : decode cX7_textNow 48 = .ok (.aload_n 0, 1) := by decide +kernel
theorem dX7_textNow_49 : decode cX7_textNow 49 = .ok (.iload_n 1, 1) := by decide +kernel
theorem dX7_textNow_50 : decode cX7_textNow 50 = .ok (.invokevirtual 227, 3) := by decide +kernel
theorem dX7_textNow_53 : decode cX7_textNow 53 = .ok (.ireturn, 1) := by decide +kernel
theorem dX7_textNow_54 : decode cX7_textNow 54 = .ok (.aload_n 0, 1) := by decide +kernel
theorem dX7_textNow_55 : decode cX7_textNow 55 = .ok (.iload_n 1, 1) := by decide +kernel
theorem dX7_textNow_56 : decode cX7_textNow 56 = .ok (.invokevirtual 230, 3) := by decide +kernel
theorem dX7_textNow_59 : decode cX7_textNow 59 = .ok (.ireturn, 1) := by decide +kernel
theorem dX7_textNow_60 : decode cX7_textNow 60 = .ok (.aload_n 0, 1) := by decide +kernel
theorem dX7_textNow_61 : decode cX7_textNow 61 = .ok (.iload_n 1, 1) := by decide +kernel
theorem dX7_textNow_62 : decode cX7_textNow 62 = .ok (.invokevirtual 233, 3) := by decide +kernel
theorem dX7_textNow_65 : decode cX7_textNow 65 = .ok (.ireturn, 1) := by decide +kernel
theorem dX7_textNow_66 : decode cX7_textNow 66 = .ok (.aload_n 0, 1) := by decide +kernel
theorem dX7_textNow_67 : decode cX7_textNow 67 = .ok (.iload_n 1, 1) := by decide +kernel
theorem dX7_textNow_68 : decode cX7_textNow 68 = .ok (.invokevirtual 236, 3) := by decide +kernel
theorem dX7_textNow_71 : decode cX7_textNow 71 = .ok (.ireturn, 1) := by decide +kernel
theorem dX7_text_0 : decode cX7_text 0 = .ok (.aload_n 0, 1) := by decide +kernel
theorem dX7_text_1 : decode cX7_text 1 = .ok (.iload_n 1, 1) := by decide +kernel
theorem dX7_text_2 : decode cX7_text 2 = .ok (.invokestatic 157, 3) := by decide +kernel
theorem dX7_text_5 : decode cX7_text 5 = .ok (.ifCond .ne 7, 3) := by decide +kernel
theorem dX7_text_8 : decode cX7_text 8 = .ok (.iconst 1, 1) := by decide +kernel
theorem dX7_text_9 : decode cX7_text 9 = .ok (.goto 17, 3) := by decide +kernel
theorem dX7_text_12 : decode cX7_text 12 = .ok (.iload_n 2, 1) := by decide +kernel
theorem dX7_text_13 : decode cX7_text 13 = .ok (.iconst 0, 1) := by decide +kernel
theorem dX7_text_14 : decode cX7_text 14 = .ok (.iconst 5, 1) := by decide +kernel
theorem dX7_text_15 : decode cX7_text 15 = .ok (.invokestatic 54, 3) := by decide +kernel
theorem dX7_text_18 : decode cX7_text 18 = .ok (.ifCond .eq 7, 3) := by decide +kernel
theorem dX7_text_21 : decode cX7_text 21 = .ok (.iconst 0, 1) := by decide +kernel
theorem dX7_text_22 : decode cX7_text 22 = .ok (.goto 4, 3) := by decide +kernel
theorem dX7_text_25 : decode cX7_text 25 = .ok (.iconst 2, 1) := by decide +kernel
theorem dX7_text_26 : decode cX7_text 26 = .ok (.putfield 47, 3) := by decide +kernel
theorem dX7_text_29 : decode cX7_text 29 = .ok (.aload_n 0, 1) := by decide +kernel
theorem dX7_text_30 : decode cX7_text 30 = .ok (.getfield 47, 3) := by decide +kernel
theorem dX7_text_33 : decode cX7_text 33 = .ok (.ifCond .le 7, 3) := by decide +kernel
theorem dX7_text_36 : decode cX7_text 36 = .ok (.iconst 0, 1) := by decide +kernel
theorem dX7_text_37 : decode cX7_text 37 = .ok (.goto 9, 3) := by decide +kernel
theorem dX7_text_40 : decode cX7_text 40 = .ok (.aload_n 0, 1) := by decide +kernel
theorem dX7_text_41 : decode cX7_text 41 = .ok (.iload_n 1, 1) := by decide +kernel
theorem dX7_text_42 : decode cX7_text 42 = .ok (.iload_n 2, 1) := by decide +kernel
theorem dX7_text_43 : decode cX7_text 43 = .ok (.invokevirtual 239, 3) := by decide +kernel
theorem dX7_text_46 : decode cX7_text 46 = .ok (.ireturn, 1) := by decide +kernel
theorem dX7_sharedPieces_0 : decode cX7_sharedPieces 0 = .ok (.iconst 0, 1) := by decide +kernel
theorem dX7_sharedPieces_1 : decode cX7_sharedPieces 1 = .ok (.istore_n 3, 1) := by decide +kernel
theorem dX7_sharedPieces_2 : decode cX7_sharedPieces 2 = .ok (.iconst 0, 1) := by decide +kernel
theorem dX7_sharedPieces_3 : decode cX7_sharedPieces 3 = .ok (.istore 4, 2) := by decide +kernel
theorem dX7_sharedPieces_5 : decode cX7_sharedPieces 5 = .ok (.iload 4, 2) := by decide +kernel
theorem dX7_sharedPieces_7 : decode cX7_sharedPieces 7 = .ok (.bipush 60, 2) := by decide +kernel
theorem dX7_sharedPieces_9 : decode cX7_sharedPieces 9 = .ok (.if_icmp .ge 46, 3) := by decide +kernel
theorem dX7_sharedPieces_12 : decode cX7_sharedPieces 12 = .ok (.iload_n 3, 1) := by decide +kernel
theorem dX7_sharedPieces_13 : decode cX7_sharedPieces 13 = .ok (.aload_n 0, 1) := by decide +kernel
theorem dX7_sharedPieces_14 : decode cX7_sharedPieces 14 = .ok (.iload 4, 2) := by decide +kernel
theorem dX7_sharedPieces_16 : decode cX7_sharedPieces 16 = .ok (.invokevirtual 82, 3) := by decide +kernel
theorem dX7_sharedPieces_19 : decode cX7_sharedPieces 19 = .ok (.ifCond .eq 27, 3) := by decide +kernel
theorem dX7_sharedPieces_22 : decode cX7_sharedPieces 22 = .ok (.aload_n 0, 1) := by decide +kernel
theorem dX7_sharedPieces_23 : decode cX7_sharedPieces 23 = .ok (.iload_n 1, 1) := by decide +kernel
theorem dX7_sharedPieces_24 : decode cX7_sharedPieces 24 = .ok (.iload 4, 2) := by decide +kernel
theorem dX7_sharedPieces_26 : decode cX7_sharedPieces 26 = .ok (.invokevirtual 201, 3) := by decide +kernel
theorem dX7_sharedPieces_29 : decode cX7_sharedPieces 29 = .ok (.ifCond .eq 17, 3) := by decide +kernel
theorem dX7_sharedPieces_32 : decode cX7_sharedPieces 32 = .ok (.aload_n 0, 1) := by decide +kernel
theorem dX7_sharedPieces_33 : decode cX7_sharedPieces 33 = .ok (.iload_n 2, 1) := by decide +kernel
theorem dX7_sharedPieces_34 : decode cX7_sharedPieces 34 = .ok (.iload 4, 2) := by decide +kernel
theorem dX7_sharedPieces_36 : decode cX7_sharedPieces 36 = .ok (.invokevirtual 201, 3) := by decide +kernel
theorem dX7_sharedPieces_39 : decode cX7_sharedPieces 39 = .ok (.ifCond .eq 7, 3) := by decide +kernel
theorem dX7_sharedPieces_42 : decode cX7_sharedPieces 42 = .ok (.iconst 1, 1) := by decide +kernel
theorem dX7_sharedPieces_43 : decode cX7_sharedPieces 43 = .ok (.goto 4, 3) := by decide +kernel
theorem dX7_sharedPieces_46 : decode cX7_sharedPieces 46 = .ok (.iconst 0, 1) := by decide +kernel
theorem dX7_sharedPieces_47 : decode cX7_sharedPieces 47 = .ok (.iadd, 1) := by decide +kernel
theorem dX7_sharedPieces_48 : decode cX7_sharedPieces 48 = .ok (.istore_n 3, 1) := by decide +kernel
theorem dX7_sharedPieces_49 : decode cX7_sharedPieces 49 = .ok (.iinc 4 1, 3) := by decide +kernel
theorem dX7_sharedPieces_52 : decode cX7_sharedPieces 52 = .ok (.goto (-47), 3) := by decide +kernel
theorem dX7_sharedPieces_55 : decode cX7_sharedPieces 55 = .ok (.iload_n 3, 1) := by decide +kernel
theorem dX7_sharedPieces_56 : decode cX7_sharedPieces 56 = .ok (.ireturn, 1) := by decide +kernel
theorem dX7_sharedSigns_0 : decode cX7_sharedSigns 0 = .ok (.iconst 0, 1) := by decide +kernel
theorem dX7_sharedSigns_1 : decode cX7_sharedSigns 1 = .ok (.istore_n 3, 1) := by decide +kernel
theorem dX7_sharedSigns_2 : decode cX7_sharedSigns 2 = .ok (.iconst 0, 1) := by decide +kernel
theorem dX7_sharedSigns_3 : decode cX7_sharedSigns 3 = .ok (.istore 4, 2) := by decide +kernel
theorem dX7_sharedSigns_5 : decode cX7_sharedSigns 5 = .ok (.iload 4, 2) := by decide +kernel
theorem dX7_sharedSigns_7 : decode cX7_sharedSigns 7 = .ok (.aload_n 0, 1) := by decide +kernel
theorem dX7_sharedSigns_8 : decode cX7_sharedSigns 8 = .ok (.iload_n 1, 1) := by decide +kernel
theorem dX7_sharedSigns_9 : decode cX7_sharedSigns 9 = .ok (.invokevirtual 58, 3) := by decide +kernel
theorem dX7_sharedSigns_12 : decode cX7_sharedSigns 12 = .ok (.if_icmp .ge 32, 3) := by decide +kernel
theorem dX7_sharedSigns_15 : decode cX7_sharedSigns 15 = .ok (.iload_n 3, 1) := by decide +kernel
theorem dX7_sharedSigns_16 : decode cX7_sharedSigns 16 = .ok (.aload_n 0, 1) := by decide +kernel
theorem dX7_sharedSigns_17 : decode cX7_sharedSigns 17 = .ok (.iload_n 2, 1) := by decide +kernel
theorem dX7_sharedSigns_18 : decode cX7_sharedSigns 18 = .ok (.aload_n 0, 1) := by decide +kernel
theorem dX7_sharedSigns_19 : decode cX7_sharedSigns 19 = .ok (.iload_n 1, 1) := by decide +kernel
theorem dX7_sharedSigns_20 : decode cX7_sharedSigns 20 = .ok (.iload 4, 2) := by decide +kernel
theorem dX7_sharedSigns_22 : decode cX7_sharedSigns 22 = .ok (.invokevirtual 95, 3) := by decide +kernel
theorem dX7_sharedSigns_25 : decode cX7_sharedSigns 25 = .ok (.invokevirtual 201, 3) := by decide +kernel
theorem dX7_sharedSigns_28 : decode cX7_sharedSigns 28 = .ok (.ifCond .eq 7, 3) := by decide +kernel
theorem dX7_sharedSigns_31 : decode cX7_sharedSigns 31 = .ok (.iconst 1, 1) := by decide +kernel
theorem dX7_sharedSigns_32 : decode cX7_sharedSigns 32 = .ok (.goto 4, 3) := by decide +kernel
theorem dX7_sharedSigns_35 : decode cX7_sharedSigns 35 = .ok (.iconst 0, 1) := by decide +kernel
theorem dX7_sharedSigns_36 : decode cX7_sharedSigns 36 = .ok (.iadd, 1) := by decide +kernel
theorem dX7_sharedSigns_37 : decode cX7_sharedSigns 37 = .ok (.istore_n 3, 1) := by decide +kernel
theorem dX7_sharedSigns_38 : decode cX7_sharedSigns 38 = .ok (.iinc 4 1, 3) := by decide +kernel
theorem dX7_sharedSigns_41 : decode cX7_sharedSigns 41 = .ok (.goto (-36), 3) := by decide +kernel
theorem dX7_sharedSigns_44 : decode cX7_sharedSigns 44 = .ok (.iload_n 3, 1) := by decide +kernel
theorem dX7_sharedSigns_45 : decode cX7_sharedSigns 45 = .ok (.ireturn, 1) := by decide +kernel
theorem dX7_sameBegin_0 : decode cX7_sameBegin 0 = .ok (.iconst 0, 1) := by decide +kernel
theorem dX7_sameBegin_1 : decode cX7_sameBegin 1 = .ok (.istore_n 3, 1) := by decide +kernel
theorem dX7_sameBegin_2 : decode cX7_sameBegin 2 = .ok (.iconst 0, 1) := by decide +kernel
theorem dX7_sameBegin_3 : decode cX7_sameBegin 3 = .ok (.istore 4, 2) := by decide +kernel
theorem dX7_sameBegin_5 : decode cX7_sameBegin 5 = .ok (.iload 4, 2) := by decide +kernel
theorem dX7_sameBegin_7 : decode cX7_sameBegin 7 = .ok (.aload_n 0, 1) := by decide +kernel
theorem dX7_sameBegin_8 : decode cX7_sameBegin 8 = .ok (.iload_n 1, 1) := by decide +kernel
theorem dX7_sameBegin_9 : decode cX7_sameBegin 9 = .ok (.invokevirtual 58, 3) := by decide +kernel
theorem dX7_sameBegin_12 : decode cX7_sameBegin 12 = .ok (.if_icmp .ge 57, 3) := by decide +kernel
theorem dX7_sameBegin_15 : decode cX7_sameBegin 15 = .ok (.iload 4, 2) := by decide +kernel
theorem dX7_sameBegin_17 : decode cX7_sameBegin 17 = .ok (.aload_n 0, 1) := by decide +kernel
theorem dX7_sameBegin_18 : decode cX7_sameBegin 18 = .ok (.iload_n 2, 1) := by decide +kernel
theorem dX7_sameBegin_19 : decode cX7_sameBegin 19 = .ok (.invokevirtual 58, 3) := by decide +kernel
theorem dX7_sameBegin_22 : decode cX7_sameBegin 22 = .ok (.if_icmp .ge 47, 3) := by decide +kernel
theorem dX7_sameBegin_25 : decode cX7_sameBegin 25 = .ok (.aload_n 0, 1) := by decide +kernel
theorem dX7_sameBegin_26 : decode cX7_sameBegin 26 = .ok (.iload_n 1, 1) := by decide +kernel
theorem dX7_sameBegin_27 : decode cX7_sameBegin 27 = .ok (.iload 4, 2) := by decide +kernel
theorem dX7_sameBegin_29 : decode cX7_sameBegin 29 = .ok (.invokevirtual 95, 3) := by decide +kernel
theorem dX7_sameBegin_32 : decode cX7_sameBegin 32 = .ok (.aload_n 0, 1) := by decide +kernel
theorem dX7_sameBegin_33 : decode cX7_sameBegin 33 = .ok (.iload_n 2, 1) := by decide +kernel
theorem dX7_sameBegin_34 : decode cX7_sameBegin 34 = .ok (.iload 4, 2) := by decide +kernel
theorem dX7_sameBegin_36 : decode cX7_sameBegin 36 = .ok (.invokevirtual 95, 3) := by decide +kernel
theorem dX7_sameBegin_39 : decode cX7_sameBegin 39 = .ok (.if_icmp .ne 30, 3) := by decide +kernel
theorem dX7_sameBegin_42 : decode cX7_sameBegin 42 = .ok (.iload 4, 2) := by decide +kernel
theorem dX7_sameBegin_44 : decode cX7_sameBegin 44 = .ok (.aload_n 0, 1) := by decide +kernel
theorem dX7_sameBegin_45 : decode cX7_sameBegin 45 = .ok (.getfield 7, 3) := by decide +kernel
theorem dX7_sameBegin_48 : decode cX7_sameBegin 48 = .ok (.sipush 491, 3) := by decide +kernel
theorem dX7_sameBegin_51 : decode cX7_sameBegin 51 = .ok (.aload_n 0, 1) := by decide +kernel
theorem dX7_sameBegin_52 : decode cX7_sameBegin 52 = .ok (.iload_n 1, 1) := by decide +kernel
theorem dX7_sameBegin_53 : decode cX7_sameBegin 53 = .ok (.iload 4, 2) := by decide +kernel
theorem dX7_sameBegin_55 : decode cX7_sameBegin 55 = .ok (.invokevirtual 95, 3) := by decide +kernel
theorem dX7_sameBegin_58 : decode cX7_sameBegin 58 = .ok (.iadd, 1) := by decide +kernel
theorem dX7_sameBegin_59 : decode cX7_sameBegin 59 = .ok (.iaload, 1) := by decide +kernel
theorem dX7_sameBegin_60 : decode cX7_sameBegin 60 = .ok (.iadd, 1) := by decide +kernel
theorem dX7_sameBegin_61 : decode cX7_sameBegin 61 = .ok (.istore 4, 2) := by decide +kernel
theorem dX7_sameBegin_63 : decode cX7_sameBegin 63 = .ok (.iinc 3 1, 3) := by decide +kernel
theorem dX7_sameBegin_66 : decode cX7_sameBegin 66 = .ok (.goto (-61), 3) := by decide +kernel
theorem dX7_sameBegin_69 : decode cX7_sameBegin 69 = .ok (.iload_n 3, 1) := by decide +kernel
theorem dX7_sameBegin_70 : decode cX7_sameBegin 70 = .ok (.ireturn, 1) := by decide +kernel
theorem dX7_commonNow_0 : decode cX7_commonNow 0 = .ok (.iload_n 3, 1) := by decide +kernel
theorem dX7_commonNow_1 : decode cX7_commonNow 1 = .ok (.ifCond .ne 12, 3) := by decide +kernel
theorem dX7_commonNow_4 : decode cX7_commonNow 4 = .ok (.aload_n 0, 1) := by decide +kernel
theorem dX7_commonNow_5 : decode cX7_commonNow 5 = .ok (.iload_n 1, 1) := by decide +kernel
theorem dX7_commonNow_6 : decode cX7_commonNow 6 = .ok (.iload_n 2, 1) := by decide +kernel
theorem dX7_commonNow_7 : decode cX7_commonNow 7 = .ok (.invokevirtual 242, 3) := by decide +kernel
theorem dX7_commonNow_10 : decode cX7_commonNow 10 = .ok (.goto 23, 3) := by decide +kernel
theorem dX7_commonNow_13 : decode cX7_commonNow 13 = .ok (.iload_n 3, 1) := by decide +kernel
theorem dX7_commonNow_14 : decode cX7_commonNow 14 = .ok (.iconst 1, 1) := by decide +kernel
theorem dX7_commonNow_15 : decode cX7_commonNow 15 = .ok (.if_icmp .ne 12, 3) := by decide +kernel
theorem dX7_commonNow_18 : decode cX7_commonNow 18 = .ok (.aload_n 0, 1) := by decide +kernel
theorem dX7_commonNow_19 : decode cX7_commonNow 19 = .ok (.iload_n 1, 1) := by decide +kernel
theorem dX7_commonNow_20 : decode cX7_commonNow 20 = .ok (.iload_n 2, 1) := by decide +kernel
theorem dX7_commonNow_21 : decode cX7_commonNow 21 = .ok (.invokevirtual 245, 3) := by decide +kernel
theorem dX7_commonNow_24 : decode cX7_commonNow 24 = .ok (.goto 9, 3) := by decide +kernel
theorem dX7_commonNow_27 : decode cX7_commonNow 27 = .ok (.aload_n 0, 1) := by decide +kernel
theorem dX7_commonNow_28 : decode cX7_commonNow 28 = .ok (.iload_n 1, 1) := by decide +kernel
theorem dX7_commonNow_29 : decode cX7_commonNow 29 = .ok (.iload_n 2, 1) := by decide +kernel
theorem dX7_commonNow_30 : decode cX7_commonNow 30 = .ok (.invokevirtual 248, 3) := by decide +kernel
theorem dX7_commonNow_33 : decode cX7_commonNow 33 = .ok (.ireturn, 1) := by decide +kernel
theorem dX7_common_0 : decode cX7_common 0 = .ok (.aload_n 0, 1) := by decide +kernel
theorem dX7_common_1 : decode cX7_common 1 = .ok (.iload_n 1, 1) := by decide +kernel
theorem dX7_common_2 : decode cX7_common 2 = .ok (.invokestatic 157, 3) := by decide +kernel
theorem dX7_common_5 : decode cX7_common 5 = .ok (.ifCond .eq 10, 3) := by decide +kernel
theorem dX7_common_8 : decode cX7_common 8 = .ok (.iload_n 2, 1) := by decide +kernel
theorem dX7_common_9 : decode cX7_common 9 = .ok (.invokestatic 157, 3) := by decide +kernel
theorem dX7_common_12 : decode cX7_common 12 = .ok (.ifCond .ne 7, 3) := by decide +kernel
theorem dX7_common_15 : decode cX7_common 15 = .ok (.iconst 1, 1) := by decide +kernel
theorem dX7_common_16 : decode cX7_common 16 = .ok (.goto 17, 3) := by decide +kernel
theorem dX7_common_19 : decode cX7_common 19 = .ok (.iload_n 3, 1) := by decide +kernel
theorem dX7_common_20 : decode cX7_common 20 = .ok (.iconst 0, 1) := by decide +kernel
theorem dX7_common_21 : decode cX7_common 21 = .ok (.iconst 2, 1) := by decide +kernel
theorem dX7_common_22 : decode cX7_common 22 = .ok (.invokestatic 54, 3) := by decide +kernel
theorem dX7_common_25 : decode cX7_common 25 = .ok (.ifCond .eq 7, 3) := by decide +kernel
theorem dX7_common_28 : decode cX7_common 28 = .ok (.iconst 0, 1) := by decide +kernel
theorem dX7_common_29 : decode cX7_common 29 = .ok (.goto 4, 3) := by decide +kernel
theorem dX7_common_32 : decode cX7_common 32 = .ok (.iconst 2, 1) := by decide +kernel
theorem dX7_common_33 : decode cX7_common 33 = .ok (.putfield 47, 3) := by decide +kernel
theorem dX7_common_36 : decode cX7_common 36 = .ok (.aload_n 0, 1) := by decide +kernel
theorem dX7_common_37 : decode cX7_common 37 = .ok (.getfield 47, 3) := by decide +kernel
theorem dX7_common_40 : decode cX7_common 40 = .ok (.ifCond .le 7, 3) := by decide +kernel
theorem dX7_common_43 : decode cX7_common 43 = .ok (.iconst 0, 1) := by decide +kernel
theorem dX7_common_44 : decode cX7_common 44 = .ok (.goto 10, 3) := by decide +kernel
theorem dX7_common_47 : decode cX7_common 47 = .ok (.aload_n 0, 1) := by decide +kernel
theorem dX7_common_48 : decode cX7_common 48 = .ok (.iload_n 1, 1) := by decide +kernel
theorem dX7_common_49 : decode cX7_common 49 = .ok (.iload_n 2, 1) := by decide +kernel
theorem dX7_common_50 : decode cX7_common 50 = .ok (.iload_n 3, 1) := by decide +kernel
theorem dX7_common_51 : decode cX7_common 51 = .ok (.invokevirtual 251, 3) := by decide +kernel
theorem dX7_common_54 : decode cX7_common 54 = .ok (.ireturn, 1) := by decide +kernel
theorem dX7_allSigns_0 : decode cX7_allSigns 0 = .ok (.aload_n 0, 1) := by decide +kernel
theorem dX7_allSigns_1 : decode cX7_allSigns 1 = .ok (.iconst 0, 1) := by decide +kernel
theorem dX7_allSigns_2 : decode cX7_allSigns 2 = .ok (.invokevirtual 58, 3) := by decide +kernel
theorem dX7_allSigns_5 : decode cX7_allSigns 5 = .ok (.aload_n 0, 1) := by decide +kernel
theorem dX7_allSigns_6 : decode cX7_allSigns 6 = .ok (.iconst 1, 1) := by decide +kernel
theorem dX7_allSigns_7 : decode cX7_allSigns 7 = .ok (.invokevirtual 58, 3) := by decide +kernel
theorem dX7_allSigns_10 : decode cX7_allSigns 10 = .ok (.iadd, 1) := by decide +kernel
theorem dX7_allSigns_11 : decode cX7_allSigns 11 = .ok (.aload_n 0, 1) := by decide +kernel
theorem dX7_allSigns_12 : decode cX7_allSigns 12 = .ok (.iconst 2, 1) := by decide +kernel
theorem dX7_allSigns_13 : decode cX7_allSigns 13 = .ok (.invokevirtual 58, 3) := by decide +kernel
theorem dX7_allSigns_16 : decode cX7_allSigns 16 = .ok (.iadd, 1) := by decide +kernel
theorem dX7_allSigns_17 : decode cX7_allSigns 17 = .ok (.aload_n 0, 1) := by decide +kernel
theorem dX7_allSigns_18 : decode cX7_allSigns 18 = .ok (.iconst 3, 1) := by decide +kernel
theorem dX7_allSigns_19 : decode cX7_allSigns 19 = .ok (.invokevirtual 58, 3) := by decide +kernel
theorem dX7_allSigns_22 : decode cX7_allSigns 22 = .ok (.iadd, 1) := by decide +kernel
theorem dX7_allSigns_23 : decode cX7_allSigns 23 = .ok (.ireturn, 1) := by decide +kernel
theorem dX7_allPieces_0 : decode cX7_allPieces 0 = .ok (.aload_n 0, 1) := by decide +kernel
theorem dX7_allPieces_1 : decode cX7_allPieces 1 = .ok (.iconst 0, 1) := by decide +kernel
theorem dX7_allPieces_2 : decode cX7_allPieces 2 = .ok (.invokevirtual 204, 3) := by decide +kernel
theorem dX7_allPieces_5 : decode cX7_allPieces 5 = .ok (.aload_n 0, 1) := by decide +kernel
theorem dX7_allPieces_6 : decode cX7_allPieces 6 = .ok (.iconst 1, 1) := by decide +kernel
theorem dX7_allPieces_7 : decode cX7_allPieces 7 = .ok (.invokevirtual 204, 3) := by decide +kernel
theorem dX7_allPieces_10 : decode cX7_allPieces 10 = .ok (.iadd, 1) := by decide +kernel
theorem dX7_allPieces_11 : decode cX7_allPieces 11 = .ok (.aload_n 0, 1) := by decide +kernel
theorem dX7_allPieces_12 : decode cX7_allPieces 12 = .ok (.iconst 2, 1) := by decide +kernel
theorem dX7_allPieces_13 : decode cX7_allPieces 13 = .ok (.invokevirtual 204, 3) := by decide +kernel
theorem dX7_allPieces_16 : decode cX7_allPieces 16 = .ok (.iadd, 1) := by decide +kernel
theorem dX7_allPieces_17 : decode cX7_allPieces 17 = .ok (.aload_n 0, 1) := by decide +kernel
theorem dX7_allPieces_18 : decode cX7_allPieces 18 = .ok (.iconst 3, 1) := by decide +kernel
theorem dX7_allPieces_19 : decode cX7_allPieces 19 = .ok (.invokevirtual 204, 3) := by decide +kernel
theorem dX7_allPieces_22 : decode cX7_allPieces 22 = .ok (.iadd, 1) := by decide +kernel
theorem dX7_allPieces_23 : decode cX7_allPieces 23 = .ok (.ireturn, 1) := by decide +kernel
theorem dX7_ownerless_0 : decode cX7_ownerless 0 = .ok (.iconst 0, 1) := by decide +kernel
theorem dX7_ownerless_1 : decode cX7_ownerless 1 = .ok (.istore_n 2, 1) := by decide +kernel
theorem dX7_ownerless_2 : decode cX7_ownerless 2 = .ok (.iconst 0, 1) := by decide +kernel
theorem dX7_ownerless_3 : decode cX7_ownerless 3 = .ok (.istore_n 3, 1) := by decide +kernel
theorem dX7_ownerless_4 : decode cX7_ownerless 4 = .ok (.iload_n 3, 1) := by decide +kernel
theorem dX7_ownerless_5 : decode cX7_ownerless 5 = .ok (.bipush 60, 2) := by decide +kernel
theorem dX7_ownerless_7 : decode cX7_ownerless 7 = .ok (.if_icmp .ge 67, 3) := by decide +kernel
theorem dX7_ownerless_10 : decode cX7_ownerless 10 = .ok (.aload_n 0, 1) := by decide +kernel
theorem dX7_ownerless_11 : decode cX7_ownerless 11 = .ok (.iload_n 3, 1) := by decide +kernel
theorem dX7_ownerless_12 : decode cX7_ownerless 12 = .ok (.invokevirtual 82, 3) := by decide +kernel
theorem dX7_ownerless_15 : decode cX7_ownerless 15 = .ok (.ifCond .eq 20, 3) := by decide +kernel
theorem dX7_ownerless_18 : decode cX7_ownerless 18 = .ok (.aload_n 0, 1) := by decide +kernel
theorem dX7_ownerless_19 : decode cX7_ownerless 19 = .ok (.getfield 7, 3) := by decide +kernel
theorem dX7_ownerless_22 : decode cX7_ownerless 22 = .ok (.sipush 551, 3) := by decide +kernel
theorem dX7_ownerless_25 : decode cX7_ownerless 25 = .ok (.iload_n 3, 1) := by decide +kernel
theorem dX7_ownerless_26 : decode cX7_ownerless 26 = .ok (.iadd, 1) := by decide +kernel
theorem dX7_ownerless_27 : decode cX7_ownerless 27 = .ok (.iaload, 1) := by decide +kernel
theorem dX7_ownerless_28 : decode cX7_ownerless 28 = .ok (.ifCond .ne 7, 3) := by decide +kernel
theorem dX7_ownerless_31 : decode cX7_ownerless 31 = .ok (.iconst 1, 1) := by decide +kernel
theorem dX7_ownerless_32 : decode cX7_ownerless 32 = .ok (.goto 4, 3) := by decide +kernel
theorem dX7_ownerless_35 : decode cX7_ownerless 35 = .ok (.iconst 0, 1) := by decide +kernel
theorem dX7_ownerless_36 : decode cX7_ownerless 36 = .ok (.istore 4, 2) := by decide +kernel
theorem dX7_ownerless_38 : decode cX7_ownerless 38 = .ok (.iload_n 2, 1) := by decide +kernel
theorem dX7_ownerless_39 : decode cX7_ownerless 39 = .ok (.iload 4, 2) := by decide +kernel
theorem dX7_ownerless_41 : decode cX7_ownerless 41 = .ok (.ifCond .eq 24, 3) := by decide +kernel
theorem dX7_ownerless_44 : decode cX7_ownerless 44 = .ok (.iload_n 1, 1) := by decide +kernel
theorem dX7_ownerless_45 : decode cX7_ownerless 45 = .ok (.ifCond .eq 16, 3) := by decide +kernel
theorem dX7_ownerless_48 : decode cX7_ownerless 48 = .ok (.aload_n 0, 1) := by decide +kernel
theorem dX7_ownerless_49 : decode cX7_ownerless 49 = .ok (.getfield 7, 3) := by decide +kernel
theorem dX7_ownerless_52 : decode cX7_ownerless 52 = .ok (.sipush 491, 3) := by decide +kernel
theorem dX7_ownerless_55 : decode cX7_ownerless 55 = .ok (.iload_n 3, 1) := by decide +kernel
theorem dX7_ownerless_56 : decode cX7_ownerless 56 = .ok (.iadd, 1) := by decide +kernel
theorem dX7_ownerless_57 : decode cX7_ownerless 57 = .ok (.iaload, 1) := by decide +kernel
theorem dX7_ownerless_58 : decode cX7_ownerless 58 = .ok (.goto 8, 3) := by decide +kernel
theorem dX7_ownerless_61 : decode cX7_ownerless 61 = .ok (.iconst 1, 1) := by decide +kernel
theorem dX7_ownerless_62 : decode cX7_ownerless 62 = .ok (.goto 4, 3) := by decide +kernel
theorem dX7_ownerless_65 : decode cX7_ownerless 65 = .ok (.iconst 0, 1) := by decide +kernel
theorem dX7_ownerless_66 : decode cX7_ownerless 66 = .ok (.iadd, 1) := by decide +kernel
theorem dX7_ownerless_67 : decode cX7_ownerless 67 = .ok (.istore_n 2, 1) := by decide +kernel
theorem dX7_ownerless_68 : decode cX7_ownerless 68 = .ok (.iinc 3 1, 3) := by decide +kernel
theorem dX7_ownerless_71 : decode cX7_ownerless 71 = .ok (.goto (-67), 3) := by decide +kernel
theorem dX7_ownerless_74 : decode cX7_ownerless 74 = .ok (.iload_n 2, 1) := by decide +kernel
theorem dX7_ownerless_75 : decode cX7_ownerless 75 = .ok (.ireturn, 1) := by decide +kernel
theorem dX7_mostOwners_0 : decode cX7_mostOwners 0 = .ok (.iconst 0, 1) := by decide +kernel
theorem dX7_mostOwners_1 : decode cX7_mostOwners 1 = .ok (.istore_n 1, 1) := by decide +kernel
theorem dX7_mostOwners_2 : decode cX7_mostOwners 2 = .ok (.iconst 0, 1) := by decide +kernel
theorem dX7_mostOwners_3 : decode cX7_mostOwners 3 = .ok (.istore_n 2, 1) := by decide +kernel
theorem dX7_mostOwners_4 : decode cX7_mostOwners 4 = .ok (.iload_n 2, 1) := by decide +kernel
theorem dX7_mostOwners_5 : decode cX7_mostOwners 5 = .ok (.bipush 60, 2) := by decide +kernel
theorem dX7_mostOwners_7 : decode cX7_mostOwners 7 = .ok (.if_icmp .ge 38, 3) := by decide +kernel
theorem dX7_mostOwners_10 : decode cX7_mostOwners 10 = .ok (.aload_n 0, 1) := by decide +kernel
theorem dX7_mostOwners_11 : decode cX7_mostOwners 11 = .ok (.getfield 7, 3) := by decide +kernel
theorem dX7_mostOwners_14 : decode cX7_mostOwners 14 = .ok (.sipush 551, 3) := by decide +kernel
theorem dX7_mostOwners_17 : decode cX7_mostOwners 17 = .ok (.iload_n 2, 1) := by decide +kernel
theorem dX7_mostOwners_18 : decode cX7_mostOwners 18 = .ok (.iadd, 1) := by decide +kernel
theorem dX7_mostOwners_19 : decode cX7_mostOwners 19 = .ok (.iaload, 1) := by decide +kernel
theorem dX7_mostOwners_20 : decode cX7_mostOwners 20 = .ok (.iload_n 1, 1) := by decide +kernel
theorem dX7_mostOwners_21 : decode cX7_mostOwners 21 = .ok (.if_icmp .le 16, 3) := by decide +kernel
theorem dX7_mostOwners_24 : decode cX7_mostOwners 24 = .ok (.aload_n 0, 1) := by decide +kernel
theorem dX7_mostOwners_25 : decode cX7_mostOwners 25 = .ok (.getfield 7, 3) := by decide +kernel
theorem dX7_mostOwners_28 : decode cX7_mostOwners 28 = .ok (.sipush 551, 3) := by decide +kernel
theorem dX7_mostOwners_31 : decode cX7_mostOwners 31 = .ok (.iload_n 2, 1) := by decide +kernel
theorem dX7_mostOwners_32 : decode cX7_mostOwners 32 = .ok (.iadd, 1) := by decide +kernel
theorem dX7_mostOwners_33 : decode cX7_mostOwners 33 = .ok (.iaload, 1) := by decide +kernel
theorem dX7_mostOwners_34 : decode cX7_mostOwners 34 = .ok (.goto 4, 3) := by decide +kernel
theorem dX7_mostOwners_37 : decode cX7_mostOwners 37 = .ok (.iload_n 1, 1) := by decide +kernel
theorem dX7_mostOwners_38 : decode cX7_mostOwners 38 = .ok (.istore_n 1, 1) := by decide +kernel
theorem dX7_mostOwners_39 : decode cX7_mostOwners 39 = .ok (.iinc 2 1, 3) := by decide +kernel
theorem dX7_mostOwners_42 : decode cX7_mostOwners 42 = .ok (.goto (-38), 3) := by decide +kernel
theorem dX7_mostOwners_45 : decode cX7_mostOwners 45 = .ok (.iload_n 1, 1) := by decide +kernel
theorem dX7_mostOwners_46 : decode cX7_mostOwners 46 = .ok (.ireturn, 1) := by decide +kernel
theorem dX7_counted_0 : decode cX7_counted 0 = .ok (.iload_n 1, 1) := by decide +kernel
theorem dX7_counted_1 : decode cX7_counted 1 = .ok (.tableswitch 109 0 8 #[51, 56, 61, 69, 74, 74, 89, 94, 101], 51) := by decide +kernel
theorem dX7_counted_52 : decode cX7_counted 52 = .ok (.aload_n 0, 1) := by decide +kernel
theorem dX7_counted_53 : decode cX7_counted 53 = .ok (.invokevirtual 254, 3) := by decide +kernel
theorem dX7_counted_56 : decode cX7_counted 56 = .ok (.ireturn, 1) := by decide +kernel
theorem dX7_counted_57 : decode cX7_counted 57 = .ok (.aload_n 0, 1) := by decide +kernel
theorem dX7_counted_58 : decode cX7_counted 58 = .ok (.invokevirtual 257, 3) := by decide +kernel
theorem dX7_counted_61 : decode cX7_counted 61 = .ok (.ireturn, 1) := by decide +kernel
theorem dX7_counted_62 : decode cX7_counted 62 = .ok (.bipush 60, 2) := by decide +kernel
theorem dX7_counted_64 : decode cX7_counted 64 = .ok (.aload_n 0, 1) := by decide +kernel
theorem dX7_counted_65 : decode cX7_counted 65 = .ok (.invokevirtual 108, 3) := by decide +kernel
theorem dX7_counted_68 : decode cX7_counted 68 = .ok (.isub, 1) := by decide +kernel
theorem dX7_counted_69 : decode cX7_counted 69 = .ok (.ireturn, 1) := by decide +kernel
theorem dX7_counted_70 : decode cX7_counted 70 = .ok (.aload_n 0, 1) := by decide +kernel
theorem dX7_counted_71 : decode cX7_counted 71 = .ok (.invokevirtual 112, 3) := by decide +kernel
theorem dX7_counted_74 : decode cX7_counted 74 = .ok (.ireturn, 1) := by decide +kernel
theorem dX7_counted_75 : decode cX7_counted 75 = .ok (.aload_n 0, 1) := by decide +kernel
theorem dX7_counted_76 : decode cX7_counted 76 = .ok (.iload_n 1, 1) := by decide +kernel
theorem dX7_counted_77 : decode cX7_counted 77 = .ok (.iconst 5, 1) := by decide +kernel
theorem dX7_counted_78 : decode cX7_counted 78 = .ok (.if_icmp .ne 7, 3) := by decide +kernel
theorem dX7_counted_81 : decode cX7_counted 81 = .ok (.iconst 1, 1) := by decide +kernel
theorem dX7_counted_82 : decode cX7_counted 82 = .ok (.goto 4, 3) := by decide +kernel
theorem dX7_counted_85 : decode cX7_counted 85 = .ok (.iconst 0, 1) := by decide +kernel
theorem dX7_counted_86 : decode cX7_counted 86 = .ok (.invokevirtual 260, 3) := by decide +kernel
theorem dX7_counted_89 : decode cX7_counted 89 = .ok (.ireturn, 1) := by decide +kernel
theorem dX7_counted_90 : decode cX7_counted 90 = .ok (.aload_n 0, 1) := by decide +kernel
theorem dX7_counted_91 : decode cX7_counted 91 = .ok (.invokevirtual 263, 3) := by decide +kernel
theorem dX7_counted_94 : decode cX7_counted 94 = .ok (.ireturn, 1) := by decide +kernel
theorem dX7_counted_95 : decode cX7_counted 95 = .ok (.aload_n 0, 1) := by decide +kernel
theorem dX7_counted_96 : decode cX7_counted 96 = .ok (.getfield 7, 3) := by decide +kernel
theorem dX7_counted_99 : decode cX7_counted 99 = .ok (.iconst 5, 1) := by decide +kernel
theorem dX7_counted_100 : decode cX7_counted 100 = .ok (.iaload, 1) := by decide +kernel
theorem dX7_counted_101 : decode cX7_counted 101 = .ok (.ireturn, 1) := by decide +kernel
theorem dX7_counted_102 : decode cX7_counted 102 = .ok (.aload_n 0, 1) := by decide +kernel
theorem dX7_counted_103 : decode cX7_counted 103 = .ok (.getfield 7, 3) := by decide +kernel
theorem dX7_counted_106 : decode cX7_counted 106 = .ok (.bipush 6, 2) := by decide +kernel
theorem dX7_counted_108 : decode cX7_counted 108 = .ok (.iaload, 1) := by decide +kernel
theorem dX7_counted_109 : decode cX7_counted 109 = .ok (.ireturn, 1) := by decide +kernel
theorem dX7_counted_110 : decode cX7_counted 110 = .ok (.aload_n 0, 1) := by decide +kernel
theorem dX7_counted_111 : decode cX7_counted 111 = .ok (.getfield 51, 3) := by decide +kernel
theorem dX7_counted_114 : decode cX7_counted 114 = .ok (.ireturn, 1) := by decide +kernel
theorem dX7_count_0 : decode cX7_count 0 = .ok (.aload_n 0, 1) := by decide +kernel
theorem dX7_count_1 : decode cX7_count 1 = .ok (.iload_n 1, 1) := by decide +kernel
theorem dX7_count_2 : decode cX7_count 2 = .ok (.iconst 0, 1) := by decide +kernel
theorem dX7_count_3 : decode cX7_count 3 = .ok (.bipush 9, 2) := by decide +kernel
theorem dX7_count_5 : decode cX7_count 5 = .ok (.invokestatic 54, 3) := by decide +kernel
theorem dX7_count_8 : decode cX7_count 8 = .ok (.ifCond .eq 7, 3) := by decide +kernel
theorem dX7_count_11 : decode cX7_count 11 = .ok (.iconst 0, 1) := by decide +kernel
theorem dX7_count_12 : decode cX7_count 12 = .ok (.goto 4, 3) := by decide +kernel
theorem dX7_count_15 : decode cX7_count 15 = .ok (.iconst 1, 1) := by decide +kernel
theorem dX7_count_16 : decode cX7_count 16 = .ok (.putfield 47, 3) := by decide +kernel
theorem dX7_count_19 : decode cX7_count 19 = .ok (.aload_n 0, 1) := by decide +kernel
theorem dX7_count_20 : decode cX7_count 20 = .ok (.getfield 47, 3) := by decide +kernel
theorem dX7_count_23 : decode cX7_count 23 = .ok (.ifCond .le 7, 3) := by decide +kernel
theorem dX7_count_26 : decode cX7_count 26 = .ok (.iconst 0, 1) := by decide +kernel
theorem dX7_count_27 : decode cX7_count 27 = .ok (.goto 8, 3) := by decide +kernel
theorem dX7_count_30 : decode cX7_count 30 = .ok (.aload_n 0, 1) := by decide +kernel
theorem dX7_count_31 : decode cX7_count 31 = .ok (.iload_n 1, 1) := by decide +kernel
theorem dX7_count_32 : decode cX7_count 32 = .ok (.invokevirtual 266, 3) := by decide +kernel
theorem dX7_count_35 : decode cX7_count 35 = .ok (.ireturn, 1) := by decide +kernel
theorem dX7_setting_0 : decode cX7_setting 0 = .ok (.aload_n 0, 1) := by decide +kernel
theorem dX7_setting_1 : decode cX7_setting 1 = .ok (.iload_n 1, 1) := by decide +kernel
theorem dX7_setting_2 : decode cX7_setting 2 = .ok (.invokestatic 188, 3) := by decide +kernel
theorem dX7_setting_5 : decode cX7_setting 5 = .ok (.ifCond .eq 7, 3) := by decide +kernel
theorem dX7_setting_8 : decode cX7_setting 8 = .ok (.iconst 0, 1) := by decide +kernel
theorem dX7_setting_9 : decode cX7_setting 9 = .ok (.goto 4, 3) := by decide +kernel
theorem dX7_setting_12 : decode cX7_setting 12 = .ok (.iconst 1, 1) := by decide +kernel
theorem dX7_setting_13 : decode cX7_setting 13 = .ok (.putfield 47, 3) := by decide +kernel
theorem dX7_setting_16 : decode cX7_setting 16 = .ok (.aload_n 0, 1) := by decide +kernel
theorem dX7_setting_17 : decode cX7_setting 17 = .ok (.getfield 47, 3) := by decide +kernel
theorem dX7_setting_20 : decode cX7_setting 20 = .ok (.ifCond .le 7, 3) := by decide +kernel
theorem dX7_setting_23 : decode cX7_setting 23 = .ok (.iconst 0, 1) := by decide +kernel
theorem dX7_setting_24 : decode cX7_setting 24 = .ok (.goto 9, 3) := by decide +kernel
theorem dX7_setting_27 : decode cX7_setting 27 = .ok (.aload_n 0, 1) := by decide +kernel
theorem dX7_setting_28 : decode cX7_setting 28 = .ok (.getfield 7, 3) := by decide +kernel
theorem dX7_setting_31 : decode cX7_setting 31 = .ok (.iload_n 1, 1) := by decide +kernel
theorem dX7_setting_32 : decode cX7_setting 32 = .ok (.iaload, 1) := by decide +kernel
theorem dX7_setting_33 : decode cX7_setting 33 = .ok (.ireturn, 1) := by decide +kernel
theorem dX7_putThen_0 : decode cX7_putThen 0 = .ok (.aload_n 0, 1) := by decide +kernel
theorem dX7_putThen_1 : decode cX7_putThen 1 = .ok (.invokevirtual 160, 3) := by decide +kernel
theorem dX7_putThen_4 : decode cX7_putThen 4 = .ok (.ifCond .ne 5, 3) := by decide +kernel
theorem dX7_putThen_7 : decode cX7_putThen 7 = .ok (.iconst (-1), 1) := by decide +kernel
theorem dX7_putThen_8 : decode cX7_putThen 8 = .ok (.ireturn, 1) := by decide +kernel
theorem dX7_putThen_9 : decode cX7_putThen 9 = .ok (.aload_n 0, 1) := by decide +kernel
theorem dX7_putThen_10 : decode cX7_putThen 10 = .ok (.invokevirtual 163, 3) := by decide +kernel
theorem dX7_putThen_13 : decode cX7_putThen 13 = .ok (.iload_n 2, 1) := by decide +kernel
theorem dX7_putThen_14 : decode cX7_putThen 14 = .ok (.tableswitch 46 0 2 #[26, 31, 31], 26) := by decide +kernel
theorem dX7_putThen_40 : decode cX7_putThen 40 = .ok (.aload_n 0, 1) := by decide +kernel
theorem dX7_putThen_41 : decode cX7_putThen 41 = .ok (.getfield 72, 3) := by decide +kernel
theorem dX7_putThen_44 : decode cX7_putThen 44 = .ok (.ireturn, 1) := by decide +kernel
theorem dX7_putThen_45 : decode cX7_putThen 45 = .ok (.aload_n 0, 1) := by decide +kernel
theorem dX7_putThen_46 : decode cX7_putThen 46 = .ok (.iload_n 2, 1) := by decide +kernel
theorem dX7_putThen_47 : decode cX7_putThen 47 = .ok (.iconst 2, 1) := by decide +kernel
theorem dX7_putThen_48 : decode cX7_putThen 48 = .ok (.if_icmp .ne 7, 3) := by decide +kernel
theorem dX7_putThen_51 : decode cX7_putThen 51 = .ok (.iconst 1, 1) := by decide +kernel
theorem dX7_putThen_52 : decode cX7_putThen 52 = .ok (.goto 4, 3) := by decide +kernel
theorem dX7_putThen_55 : decode cX7_putThen 55 = .ok (.iconst 0, 1) := by decide +kernel
theorem dX7_putThen_56 : decode cX7_putThen 56 = .ok (.invokevirtual 104, 3) := by decide +kernel
theorem dX7_putThen_59 : decode cX7_putThen 59 = .ok (.ireturn, 1) := by decide +kernel
theorem dX7_putThen_60 : decode cX7_putThen 60 = .ok (.aload_n 0, 1) := by decide +kernel
theorem dX7_putThen_61 : decode cX7_putThen 61 = .ok (.iload_n 1, 1) := by decide +kernel
theorem dX7_putThen_62 : decode cX7_putThen 62 = .ok (.invokevirtual 166, 3) := by decide +kernel
theorem dX7_putThen_65 : decode cX7_putThen 65 = .ok (.ifCond .eq 7, 3) := by decide +kernel
theorem dX7_putThen_68 : decode cX7_putThen 68 = .ok (.iconst 1, 1) := by decide +kernel
theorem dX7_putThen_69 : decode cX7_putThen 69 = .ok (.goto 4, 3) := by decide +kernel
theorem dX7_putThen_72 : decode cX7_putThen 72 = .ok (.iconst 0, 1) := by decide +kernel
theorem dX7_putThen_73 : decode cX7_putThen 73 = .ok (.ireturn, 1) := by decide +kernel
theorem dX7_ifPut_0 : decode cX7_ifPut 0 = .ok (.aload_n 0, 1) := by decide +kernel
theorem dX7_ifPut_1 : decode cX7_ifPut 1 = .ok (.iload_n 1, 1) := by decide +kernel
theorem dX7_ifPut_2 : decode cX7_ifPut 2 = .ok (.invokestatic 157, 3) := by decide +kernel
theorem dX7_ifPut_5 : decode cX7_ifPut 5 = .ok (.ifCond .ne 7, 3) := by decide +kernel
theorem dX7_ifPut_8 : decode cX7_ifPut 8 = .ok (.iconst 1, 1) := by decide +kernel
theorem dX7_ifPut_9 : decode cX7_ifPut 9 = .ok (.goto 17, 3) := by decide +kernel
theorem dX7_ifPut_12 : decode cX7_ifPut 12 = .ok (.iload_n 2, 1) := by decide +kernel
theorem dX7_ifPut_13 : decode cX7_ifPut 13 = .ok (.iconst 0, 1) := by decide +kernel
theorem dX7_ifPut_14 : decode cX7_ifPut 14 = .ok (.iconst 3, 1) := by decide +kernel
theorem dX7_ifPut_15 : decode cX7_ifPut 15 = .ok (.invokestatic 54, 3) := by decide +kernel
theorem dX7_ifPut_18 : decode cX7_ifPut 18 = .ok (.ifCond .eq 7, 3) := by decide +kernel
theorem dX7_ifPut_21 : decode cX7_ifPut 21 = .ok (.iconst 0, 1) := by decide +kernel
theorem dX7_ifPut_22 : decode cX7_ifPut 22 = .ok (.goto 4, 3) := by decide +kernel
theorem dX7_ifPut_25 : decode cX7_ifPut 25 = .ok (.iconst 2, 1) := by decide +kernel
theorem dX7_ifPut_26 : decode cX7_ifPut 26 = .ok (.putfield 47, 3) := by decide +kernel
theorem dX7_ifPut_29 : decode cX7_ifPut 29 = .ok (.aload_n 0, 1) := by decide +kernel
theorem dX7_ifPut_30 : decode cX7_ifPut 30 = .ok (.getfield 47, 3) := by decide +kernel
theorem dX7_ifPut_33 : decode cX7_ifPut 33 = .ok (.ifCond .le 7, 3) := by decide +kernel
theorem dX7_ifPut_36 : decode cX7_ifPut 36 = .ok (.iconst 0, 1) := by decide +kernel
theorem dX7_ifPut_37 : decode cX7_ifPut 37 = .ok (.goto 9, 3) := by decide +kernel
theorem dX7_ifPut_40 : decode cX7_ifPut 40 = .ok (.aload_n 0, 1) := by decide +kernel
theorem dX7_ifPut_41 : decode cX7_ifPut 41 = .ok (.iload_n 1, 1) := by decide +kernel
theorem dX7_ifPut_42 : decode cX7_ifPut 42 = .ok (.iload_n 2, 1) := by decide +kernel
theorem dX7_ifPut_43 : decode cX7_ifPut 43 = .ok (.invokevirtual 269, 3) := by decide +kernel
theorem dX7_ifPut_46 : decode cX7_ifPut 46 = .ok (.ireturn, 1) := by decide +kernel
theorem dX7_setThen_0 : decode cX7_setThen 0 = .ok (.aload_n 0, 1) := by decide +kernel
theorem dX7_setThen_1 : decode cX7_setThen 1 = .ok (.getfield 7, 3) := by decide +kernel
theorem dX7_setThen_4 : decode cX7_setThen 4 = .ok (.iload_n 2, 1) := by decide +kernel
theorem dX7_setThen_5 : decode cX7_setThen 5 = .ok (.iaload, 1) := by decide +kernel
theorem dX7_setThen_6 : decode cX7_setThen 6 = .ok (.istore 4, 2) := by decide +kernel
theorem dX7_setThen_8 : decode cX7_setThen 8 = .ok (.aload_n 0, 1) := by decide +kernel
theorem dX7_setThen_9 : decode cX7_setThen 9 = .ok (.getfield 7, 3) := by decide +kernel
theorem dX7_setThen_12 : decode cX7_setThen 12 = .ok (.iload_n 2, 1) := by decide +kernel
theorem dX7_setThen_13 : decode cX7_setThen 13 = .ok (.iload_n 3, 1) := by decide +kernel
theorem dX7_setThen_14 : decode cX7_setThen 14 = .ok (.iastore, 1) := by decide +kernel
theorem dX7_setThen_15 : decode cX7_setThen 15 = .ok (.aload_n 0, 1) := by decide +kernel
theorem dX7_setThen_16 : decode cX7_setThen 16 = .ok (.iload_n 1, 1) := by decide +kernel
theorem dX7_setThen_17 : decode cX7_setThen 17 = .ok (.invokevirtual 175, 3) := by decide +kernel
theorem dX7_setThen_20 : decode cX7_setThen 20 = .ok (.aload_n 0, 1) := by decide +kernel
theorem dX7_setThen_21 : decode cX7_setThen 21 = .ok (.invokevirtual 154, 3) := by decide +kernel
theorem dX7_setThen_24 : decode cX7_setThen 24 = .ok (.aload_n 0, 1) := by decide +kernel
theorem dX7_setThen_25 : decode cX7_setThen 25 = .ok (.getfield 7, 3) := by decide +kernel
theorem dX7_setThen_28 : decode cX7_setThen 28 = .ok (.iload_n 2, 1) := by decide +kernel
theorem dX7_setThen_29 : decode cX7_setThen 29 = .ok (.iload 4, 2) := by decide +kernel
theorem dX7_setThen_31 : decode cX7_setThen 31 = .ok (.iastore, 1) := by decide +kernel
theorem dX7_setThen_32 : decode cX7_setThen 32 = .ok (.aload_n 0, 1) := by decide +kernel
theorem dX7_setThen_33 : decode cX7_setThen 33 = .ok (.getfield 72, 3) := by decide +kernel
theorem dX7_setThen_36 : decode cX7_setThen 36 = .ok (.ireturn, 1) := by decide +kernel
theorem dX7_ifSet_0 : decode cX7_ifSet 0 = .ok (.aload_n 0, 1) := by decide +kernel
theorem dX7_ifSet_1 : decode cX7_ifSet 1 = .ok (.iload_n 1, 1) := by decide +kernel
theorem dX7_ifSet_2 : decode cX7_ifSet 2 = .ok (.invokestatic 157, 3) := by decide +kernel
theorem dX7_ifSet_5 : decode cX7_ifSet 5 = .ok (.ifCond .eq 10, 3) := by decide +kernel
theorem dX7_ifSet_8 : decode cX7_ifSet 8 = .ok (.iload_n 2, 1) := by decide +kernel
theorem dX7_ifSet_9 : decode cX7_ifSet 9 = .ok (.invokestatic 188, 3) := by decide +kernel
theorem dX7_ifSet_12 : decode cX7_ifSet 12 = .ok (.ifCond .ne 7, 3) := by decide +kernel
theorem dX7_ifSet_15 : decode cX7_ifSet 15 = .ok (.iconst 1, 1) := by decide +kernel
theorem dX7_ifSet_16 : decode cX7_ifSet 16 = .ok (.goto 16, 3) := by decide +kernel
theorem dX7_ifSet_19 : decode cX7_ifSet 19 = .ok (.iload_n 2, 1) := by decide +kernel
theorem dX7_ifSet_20 : decode cX7_ifSet 20 = .ok (.iload_n 3, 1) := by decide +kernel
theorem dX7_ifSet_21 : decode cX7_ifSet 21 = .ok (.invokestatic 191, 3) := by decide +kernel
theorem dX7_ifSet_24 : decode cX7_ifSet 24 = .ok (.ifCond .eq 7, 3) := by decide +kernel
theorem dX7_ifSet_27 : decode cX7_ifSet 27 = .ok (.iconst 0, 1) := by decide +kernel
theorem dX7_ifSet_28 : decode cX7_ifSet 28 = .ok (.goto 4, 3) := by decide +kernel
theorem dX7_ifSet_31 : decode cX7_ifSet 31 = .ok (.iconst 2, 1) := by decide +kernel
theorem dX7_ifSet_32 : decode cX7_ifSet 32 = .ok (.putfield 47, 3) := by decide +kernel
theorem dX7_ifSet_35 : decode cX7_ifSet 35 = .ok (.aload_n 0, 1) := by decide +kernel
theorem dX7_ifSet_36 : decode cX7_ifSet 36 = .ok (.getfield 47, 3) := by decide +kernel
theorem dX7_ifSet_39 : decode cX7_ifSet 39 = .ok (.ifCond .le 7, 3) := by decide +kernel
theorem dX7_ifSet_42 : decode cX7_ifSet 42 = .ok (.iconst 0, 1) := by decide +kernel
theorem dX7_ifSet_43 : decode cX7_ifSet 43 = .ok (.goto 10, 3) := by decide +kernel
theorem dX7_ifSet_46 : decode cX7_ifSet 46 = .ok (.aload_n 0, 1) := by decide +kernel
theorem dX7_ifSet_47 : decode cX7_ifSet 47 = .ok (.iload_n 1, 1) := by decide +kernel
theorem dX7_ifSet_48 : decode cX7_ifSet 48 = .ok (.iload_n 2, 1) := by decide +kernel
theorem dX7_ifSet_49 : decode cX7_ifSet 49 = .ok (.iload_n 3, 1) := by decide +kernel
theorem dX7_ifSet_50 : decode cX7_ifSet 50 = .ok (.invokevirtual 272, 3) := by decide +kernel
theorem dX7_ifSet_53 : decode cX7_ifSet 53 = .ok (.ireturn, 1) := by decide +kernel
theorem dX7_addUnlike_0 : decode cX7_addUnlike 0 = .ok (.iconst 0, 1) := by decide +kernel
theorem dX7_addUnlike_1 : decode cX7_addUnlike 1 = .ok (.istore_n 2, 1) := by decide +kernel
theorem dX7_addUnlike_2 : decode cX7_addUnlike 2 = .ok (.iload_n 2, 1) := by decide +kernel
theorem dX7_addUnlike_3 : decode cX7_addUnlike 3 = .ok (.aload_n 0, 1) := by decide +kernel
theorem dX7_addUnlike_4 : decode cX7_addUnlike 4 = .ok (.getfield 275, 3) := by decide +kernel
theorem dX7_addUnlike_7 : decode cX7_addUnlike 7 = .ok (.if_icmp .ge 42, 3) := by decide +kernel
theorem dX7_addUnlike_10 : decode cX7_addUnlike 10 = .ok (.aload_n 0, 1) := by decide +kernel
theorem dX7_addUnlike_11 : decode cX7_addUnlike 11 = .ok (.getfield 41, 3) := by decide +kernel
theorem dX7_addUnlike_14 : decode cX7_addUnlike 14 = .ok (.iload_n 2, 1) := by decide +kernel
theorem dX7_addUnlike_15 : decode cX7_addUnlike 15 = .ok (.laload, 1) := by decide +kernel
theorem dX7_addUnlike_16 : decode cX7_addUnlike 16 = .ok (.aload_n 0, 1) := by decide +kernel
theorem dX7_addUnlike_17 : decode cX7_addUnlike 17 = .ok (.getfield 29, 3) := by decide +kernel
theorem dX7_addUnlike_20 : decode cX7_addUnlike 20 = .ok (.iload_n 1, 1) := by decide +kernel
theorem dX7_addUnlike_21 : decode cX7_addUnlike 21 = .ok (.laload, 1) := by decide +kernel
theorem dX7_addUnlike_22 : decode cX7_addUnlike 22 = .ok (.lcmp, 1) := by decide +kernel
theorem dX7_addUnlike_23 : decode cX7_addUnlike 23 = .ok (.ifCond .ne 20, 3) := by decide +kernel
theorem dX7_addUnlike_26 : decode cX7_addUnlike 26 = .ok (.aload_n 0, 1) := by decide +kernel
theorem dX7_addUnlike_27 : decode cX7_addUnlike 27 = .ok (.getfield 44, 3) := by decide +kernel
theorem dX7_addUnlike_30 : decode cX7_addUnlike 30 = .ok (.iload_n 2, 1) := by decide +kernel
theorem dX7_addUnlike_31 : decode cX7_addUnlike 31 = .ok (.iaload, 1) := by decide +kernel
theorem dX7_addUnlike_32 : decode cX7_addUnlike 32 = .ok (.aload_n 0, 1) := by decide +kernel
theorem dX7_addUnlike_33 : decode cX7_addUnlike 33 = .ok (.getfield 32, 3) := by decide +kernel
theorem dX7_addUnlike_36 : decode cX7_addUnlike 36 = .ok (.iload_n 1, 1) := by decide +kernel
theorem dX7_addUnlike_37 : decode cX7_addUnlike 37 = .ok (.iaload, 1) := by decide +kernel
theorem dX7_addUnlike_38 : decode cX7_addUnlike 38 = .ok (.if_icmp .ne 5, 3) := by decide +kernel
theorem dX7_addUnlike_41 : decode cX7_addUnlike 41 = .ok (.iconst 0, 1) := by decide +kernel
theorem dX7_addUnlike_42 : decode cX7_addUnlike 42 = .ok (.ireturn, 1) := by decide +kernel
theorem dX7_addUnlike_43 : decode cX7_addUnlike 43 = .ok (.iinc 2 1, 3) := by decide +kernel
theorem dX7_addUnlike_46 : decode cX7_addUnlike 46 = .ok (.goto (-44), 3) := by decide +kernel
theorem dX7_addUnlike_49 : decode cX7_addUnlike 49 = .ok (.aload_n 0, 1) := by decide +kernel
theorem dX7_addUnlike_50 : decode cX7_addUnlike 50 = .ok (.getfield 41, 3) := by decide +kernel
theorem dX7_addUnlike_53 : decode cX7_addUnlike 53 = .ok (.aload_n 0, 1) := by decide +kernel
theorem dX7_addUnlike_54 : decode cX7_addUnlike 54 = .ok (.getfield 275, 3) := by decide +kernel
theorem dX7_addUnlike_57 : decode cX7_addUnlike 57 = .ok (.aload_n 0, 1) := by decide +kernel
theorem dX7_addUnlike_58 : decode cX7_addUnlike 58 = .ok (.getfield 29, 3) := by decide +kernel
theorem dX7_addUnlike_61 : decode cX7_addUnlike 61 = .ok (.iload_n 1, 1) := by decide +kernel
theorem dX7_addUnlike_62 : decode cX7_addUnlike 62 = .ok (.laload, 1) := by decide +kernel
theorem dX7_addUnlike_63 : decode cX7_addUnlike 63 = .ok (.lastore, 1) := by decide +kernel
theorem dX7_addUnlike_64 : decode cX7_addUnlike 64 = .ok (.aload_n 0, 1) := by decide +kernel
theorem dX7_addUnlike_65 : decode cX7_addUnlike 65 = .ok (.getfield 44, 3) := by decide +kernel
theorem dX7_addUnlike_68 : decode cX7_addUnlike 68 = .ok (.aload_n 0, 1) := by decide +kernel
theorem dX7_addUnlike_69 : decode cX7_addUnlike 69 = .ok (.getfield 275, 3) := by decide +kernel
theorem dX7_addUnlike_72 : decode cX7_addUnlike 72 = .ok (.aload_n 0, 1) := by decide +kernel
theorem dX7_addUnlike_73 : decode cX7_addUnlike 73 = .ok (.getfield 32, 3) := by decide +kernel
theorem dX7_addUnlike_76 : decode cX7_addUnlike 76 = .ok (.iload_n 1, 1) := by decide +kernel
theorem dX7_addUnlike_77 : decode cX7_addUnlike 77 = .ok (.iaload, 1) := by decide +kernel
theorem dX7_addUnlike_78 : decode cX7_addUnlike 78 = .ok (.iastore, 1) := by decide +kernel
theorem dX7_addUnlike_79 : decode cX7_addUnlike 79 = .ok (.aload_n 0, 1) := by decide +kernel
theorem dX7_addUnlike_80 : decode cX7_addUnlike 80 = .ok (.dup, 1) := by decide +kernel
theorem dX7_addUnlike_81 : decode cX7_addUnlike 81 = .ok (.getfield 275, 3) := by decide +kernel
theorem dX7_addUnlike_84 : decode cX7_addUnlike 84 = .ok (.iconst 1, 1) := by decide +kernel
theorem dX7_addUnlike_85 : decode cX7_addUnlike 85 = .ok (.iadd, 1) := by decide +kernel
theorem dX7_addUnlike_86 : decode cX7_addUnlike 86 = .ok (.putfield 275, 3) := by decide +kernel
theorem dX7_addUnlike_89 : decode cX7_addUnlike 89 = .ok (.aload_n 0, 1) := by decide +kernel
theorem dX7_addUnlike_90 : decode cX7_addUnlike 90 = .ok (.getfield 32, 3) := by decide +kernel
theorem dX7_addUnlike_93 : decode cX7_addUnlike 93 = .ok (.iload_n 1, 1) := by decide +kernel
theorem dX7_addUnlike_94 : decode cX7_addUnlike 94 = .ok (.iaload, 1) := by decide +kernel
theorem dX7_addUnlike_95 : decode cX7_addUnlike 95 = .ok (.ireturn, 1) := by decide +kernel
theorem dX7_lengthsBy_0 : decode cX7_lengthsBy 0 = .ok (.aload_n 0, 1) := by decide +kernel
theorem dX7_lengthsBy_1 : decode cX7_lengthsBy 1 = .ok (.iconst 0, 1) := by decide +kernel
theorem dX7_lengthsBy_2 : decode cX7_lengthsBy 2 = .ok (.putfield 275, 3) := by decide +kernel
theorem dX7_lengthsBy_5 : decode cX7_lengthsBy 5 = .ok (.iconst 0, 1) := by decide +kernel
theorem dX7_lengthsBy_6 : decode cX7_lengthsBy 6 = .ok (.istore_n 2, 1) := by decide +kernel
theorem dX7_lengthsBy_7 : decode cX7_lengthsBy 7 = .ok (.iconst 0, 1) := by decide +kernel
theorem dX7_lengthsBy_8 : decode cX7_lengthsBy 8 = .ok (.istore_n 3, 1) := by decide +kernel
theorem dX7_lengthsBy_9 : decode cX7_lengthsBy 9 = .ok (.iload_n 3, 1) := by decide +kernel
theorem dX7_lengthsBy_10 : decode cX7_lengthsBy 10 = .ok (.iconst 4, 1) := by decide +kernel
theorem dX7_lengthsBy_11 : decode cX7_lengthsBy 11 = .ok (.if_icmp .ge 47, 3) := by decide +kernel
theorem dX7_lengthsBy_14 : decode cX7_lengthsBy 14 = .ok (.aload_n 0, 1) := by decide +kernel
theorem dX7_lengthsBy_15 : decode cX7_lengthsBy 15 = .ok (.iload_n 3, 1) := by decide +kernel
theorem dX7_lengthsBy_16 : decode cX7_lengthsBy 16 = .ok (.iconst 1, 1) := by decide +kernel
theorem dX7_lengthsBy_17 : decode cX7_lengthsBy 17 = .ok (.iload_n 1, 1) := by decide +kernel
theorem dX7_lengthsBy_18 : decode cX7_lengthsBy 18 = .ok (.invokevirtual 272, 3) := by decide +kernel
theorem dX7_lengthsBy_21 : decode cX7_lengthsBy 21 = .ok (.istore 4, 2) := by decide +kernel
theorem dX7_lengthsBy_23 : decode cX7_lengthsBy 23 = .ok (.iconst 0, 1) := by decide +kernel
theorem dX7_lengthsBy_24 : decode cX7_lengthsBy 24 = .ok (.istore 5, 2) := by decide +kernel
theorem dX7_lengthsBy_26 : decode cX7_lengthsBy 26 = .ok (.iload 5, 2) := by decide +kernel
theorem dX7_lengthsBy_28 : decode cX7_lengthsBy 28 = .ok (.iload 4, 2) := by decide +kernel
theorem dX7_lengthsBy_30 : decode cX7_lengthsBy 30 = .ok (.if_icmp .ge 22, 3) := by decide +kernel
theorem dX7_lengthsBy_33 : decode cX7_lengthsBy 33 = .ok (.aload_n 0, 1) := by decide +kernel
theorem dX7_lengthsBy_34 : decode cX7_lengthsBy 34 = .ok (.iload 5, 2) := by decide +kernel
theorem dX7_lengthsBy_36 : decode cX7_lengthsBy 36 = .ok (.invokevirtual 278, 3) := by decide +kernel
theorem dX7_lengthsBy_39 : decode cX7_lengthsBy 39 = .ok (.istore 6, 2) := by decide +kernel
theorem dX7_lengthsBy_41 : decode cX7_lengthsBy 41 = .ok (.iload_n 2, 1) := by decide +kernel
theorem dX7_lengthsBy_42 : decode cX7_lengthsBy 42 = .ok (.iload 6, 2) := by decide +kernel
theorem dX7_lengthsBy_44 : decode cX7_lengthsBy 44 = .ok (.iadd, 1) := by decide +kernel
theorem dX7_lengthsBy_45 : decode cX7_lengthsBy 45 = .ok (.istore_n 2, 1) := by decide +kernel
theorem dX7_lengthsBy_46 : decode cX7_lengthsBy 46 = .ok (.iinc 5 1, 3) := by decide +kernel
theorem dX7_lengthsBy_49 : decode cX7_lengthsBy 49 = .ok (.goto (-23), 3) := by decide +kernel
theorem dX7_lengthsBy_52 : decode cX7_lengthsBy 52 = .ok (.iinc 3 1, 3) := by decide +kernel
theorem dX7_lengthsBy_55 : decode cX7_lengthsBy 55 = .ok (.goto (-46), 3) := by decide +kernel
theorem dX7_lengthsBy_58 : decode cX7_lengthsBy 58 = .ok (.iload_n 2, 1) := by decide +kernel
theorem dX7_lengthsBy_59 : decode cX7_lengthsBy 59 = .ok (.ireturn, 1) := by decide +kernel
theorem dX7_bestNow_0 : decode cX7_bestNow 0 = .ok (.bipush 9, 2) := by decide +kernel
theorem dX7_bestNow_2 : decode cX7_bestNow 2 = .ok (.istore_n 1, 1) := by decide +kernel
theorem dX7_bestNow_3 : decode cX7_bestNow 3 = .ok (.aload_n 0, 1) := by decide +kernel
theorem dX7_bestNow_4 : decode cX7_bestNow 4 = .ok (.bipush 9, 2) := by decide +kernel
theorem dX7_bestNow_6 : decode cX7_bestNow 6 = .ok (.invokevirtual 281, 3) := by decide +kernel
theorem dX7_bestNow_9 : decode cX7_bestNow 9 = .ok (.istore_n 2, 1) := by decide +kernel
theorem dX7_bestNow_10 : decode cX7_bestNow 10 = .ok (.bipush 8, 2) := by decide +kernel
theorem dX7_bestNow_12 : decode cX7_bestNow 12 = .ok (.istore_n 3, 1) := by decide +kernel
theorem dX7_bestNow_13 : decode cX7_bestNow 13 = .ok (.iload_n 3, 1) := by decide +kernel
theorem dX7_bestNow_14 : decode cX7_bestNow 14 = .ok (.ifCond .le 41, 3) := by decide +kernel
theorem dX7_bestNow_17 : decode cX7_bestNow 17 = .ok (.aload_n 0, 1) := by decide +kernel
theorem dX7_bestNow_18 : decode cX7_bestNow 18 = .ok (.iload_n 3, 1) := by decide +kernel
theorem dX7_bestNow_19 : decode cX7_bestNow 19 = .ok (.invokevirtual 281, 3) := by decide +kernel
theorem dX7_bestNow_22 : decode cX7_bestNow 22 = .ok (.istore 4, 2) := by decide +kernel
theorem dX7_bestNow_24 : decode cX7_bestNow 24 = .ok (.iload 4, 2) := by decide +kernel
theorem dX7_bestNow_26 : decode cX7_bestNow 26 = .ok (.iload_n 2, 1) := by decide +kernel
theorem dX7_bestNow_27 : decode cX7_bestNow 27 = .ok (.if_icmp .ge 7, 3) := by decide +kernel
theorem dX7_bestNow_30 : decode cX7_bestNow 30 = .ok (.iload_n 3, 1) := by decide +kernel
theorem dX7_bestNow_31 : decode cX7_bestNow 31 = .ok (.goto 4, 3) := by decide +kernel
theorem dX7_bestNow_34 : decode cX7_bestNow 34 = .ok (.iload_n 1, 1) := by decide +kernel
theorem dX7_bestNow_35 : decode cX7_bestNow 35 = .ok (.istore_n 1, 1) := by decide +kernel
theorem dX7_bestNow_36 : decode cX7_bestNow 36 = .ok (.iload 4, 2) := by decide +kernel
theorem dX7_bestNow_38 : decode cX7_bestNow 38 = .ok (.iload_n 2, 1) := by decide +kernel
theorem dX7_bestNow_39 : decode cX7_bestNow 39 = .ok (.if_icmp .ge 8, 3) := by decide +kernel
theorem dX7_bestNow_42 : decode cX7_bestNow 42 = .ok (.iload 4, 2) := by decide +kernel
theorem dX7_bestNow_44 : decode cX7_bestNow 44 = .ok (.goto 4, 3) := by decide +kernel
theorem dX7_bestNow_47 : decode cX7_bestNow 47 = .ok (.iload_n 2, 1) := by decide +kernel
theorem dX7_bestNow_48 : decode cX7_bestNow 48 = .ok (.istore_n 2, 1) := by decide +kernel
theorem dX7_bestNow_49 : decode cX7_bestNow 49 = .ok (.iinc 3 (-1), 3) := by decide +kernel
theorem dX7_bestNow_52 : decode cX7_bestNow 52 = .ok (.goto (-39), 3) := by decide +kernel
theorem dX7_bestNow_55 : decode cX7_bestNow 55 = .ok (.iload_n 1, 1) := by decide +kernel
theorem dX7_bestNow_56 : decode cX7_bestNow 56 = .ok (.ireturn, 1) := by decide +kernel
theorem dX7_bestDivisor_0 : decode cX7_bestDivisor 0 = .ok (.aload_n 0, 1) := by decide +kernel
theorem dX7_bestDivisor_1 : decode cX7_bestDivisor 1 = .ok (.iconst 0, 1) := by decide +kernel
theorem dX7_bestDivisor_2 : decode cX7_bestDivisor 2 = .ok (.putfield 47, 3) := by decide +kernel
theorem dX7_bestDivisor_5 : decode cX7_bestDivisor 5 = .ok (.aload_n 0, 1) := by decide +kernel
theorem dX7_bestDivisor_6 : decode cX7_bestDivisor 6 = .ok (.invokevirtual 284, 3) := by decide +kernel
theorem dX7_bestDivisor_9 : decode cX7_bestDivisor 9 = .ok (.ireturn, 1) := by decide +kernel
theorem dX7_saved_0 : decode cX7_saved 0 = .ok (.aload_n 0, 1) := by decide +kernel
theorem dX7_saved_1 : decode cX7_saved 1 = .ok (.invokevirtual 254, 3) := by decide +kernel
theorem dX7_saved_4 : decode cX7_saved 4 = .ok (.istore_n 1, 1) := by decide +kernel
theorem dX7_saved_5 : decode cX7_saved 5 = .ok (.iload_n 1, 1) := by decide +kernel
theorem dX7_saved_6 : decode cX7_saved 6 = .ok (.ifCond .ne 7, 3) := by decide +kernel
theorem dX7_saved_9 : decode cX7_saved 9 = .ok (.dconst 0, 1) := by decide +kernel
theorem dX7_saved_10 : decode cX7_saved 10 = .ok (.goto 19, 3) := by decide +kernel
theorem dX7_saved_13 : decode cX7_saved 13 = .ok (.dconst 1, 1) := by decide +kernel
theorem dX7_saved_14 : decode cX7_saved 14 = .ok (.aload_n 0, 1) := by decide +kernel
theorem dX7_saved_15 : decode cX7_saved 15 = .ok (.invokevirtual 112, 3) := by decide +kernel
theorem dX7_saved_18 : decode cX7_saved 18 = .ok (.aload_n 0, 1) := by decide +kernel
theorem dX7_saved_19 : decode cX7_saved 19 = .ok (.iconst 1, 1) := by decide +kernel
theorem dX7_saved_20 : decode cX7_saved 20 = .ok (.invokevirtual 260, 3) := by decide +kernel
theorem dX7_saved_23 : decode cX7_saved 23 = .ok (.isub, 1) := by decide +kernel
theorem dX7_saved_24 : decode cX7_saved 24 = .ok (.i2d, 1) := by decide +kernel
theorem dX7_saved_25 : decode cX7_saved 25 = .ok (.iload_n 1, 1) := by decide +kernel
theorem dX7_saved_26 : decode cX7_saved 26 = .ok (.i2d, 1) := by decide +kernel
theorem dX7_saved_27 : decode cX7_saved 27 = .ok (.ddiv, 1) := by decide +kernel
theorem dX7_saved_28 : decode cX7_saved 28 = .ok (.dsub, 1) := by decide +kernel
theorem dX7_saved_29 : decode cX7_saved 29 = .ok (.dreturn, 1) := by decide +kernel
theorem dX7_savedShare_0 : decode cX7_savedShare 0 = .ok (.aload_n 0, 1) := by decide +kernel
theorem dX7_savedShare_1 : decode cX7_savedShare 1 = .ok (.iconst 0, 1) := by decide +kernel
theorem dX7_savedShare_2 : decode cX7_savedShare 2 = .ok (.putfield 47, 3) := by decide +kernel
theorem dX7_savedShare_5 : decode cX7_savedShare 5 = .ok (.aload_n 0, 1) := by decide +kernel
theorem dX7_savedShare_6 : decode cX7_savedShare 6 = .ok (.invokevirtual 287, 3) := by decide +kernel
theorem dX7_savedShare_9 : decode cX7_savedShare 9 = .ok (.dreturn, 1) := by decide +kernel
theorem dX7_mix_0 : decode cX7_mix 0 = .ok (.aload_n 0, 1) := by decide +kernel
theorem dX7_mix_1 : decode cX7_mix 1 = .ok (.ldc2_w 291, 3) := by decide +kernel
theorem dX7_mix_4 : decode cX7_mix 4 = .ok (.aload_n 0, 1) := by decide +kernel
theorem dX7_mix_5 : decode cX7_mix 5 = .ok (.getfield 293, 3) := by decide +kernel
theorem dX7_mix_8 : decode cX7_mix 8 = .ok (.lmul, 1) := by decide +kernel
theorem dX7_mix_9 : decode cX7_mix 9 = .ok (.lload_n 1, 1) := by decide +kernel
theorem dX7_mix_10 : decode cX7_mix 10 = .ok (.ladd, 1) := by decide +kernel
theorem dX7_mix_11 : decode cX7_mix 11 = .ok (.putfield 293, 3) := by decide +kernel
theorem dX7_mix_14 : decode cX7_mix 14 = .ok (.return_, 1) := by decide +kernel
theorem dX7_mixText_0 : decode cX7_mixText 0 = .ok (.iconst 0, 1) := by decide +kernel
theorem dX7_mixText_1 : decode cX7_mixText 1 = .ok (.istore_n 2, 1) := by decide +kernel
theorem dX7_mixText_2 : decode cX7_mixText 2 = .ok (.iload_n 2, 1) := by decide +kernel
theorem dX7_mixText_3 : decode cX7_mixText 3 = .ok (.bipush 6, 2) := by decide +kernel
theorem dX7_mixText_5 : decode cX7_mixText 5 = .ok (.if_icmp .ge 20, 3) := by decide +kernel
theorem dX7_mixText_8 : decode cX7_mixText 8 = .ok (.aload_n 0, 1) := by decide +kernel
theorem dX7_mixText_9 : decode cX7_mixText 9 = .ok (.aload_n 0, 1) := by decide +kernel
theorem dX7_mixText_10 : decode cX7_mixText 10 = .ok (.iload_n 1, 1) := by decide +kernel
theorem dX7_mixText_11 : decode cX7_mixText 11 = .ok (.iload_n 2, 1) := by decide +kernel
theorem dX7_mixText_12 : decode cX7_mixText 12 = .ok (.invokevirtual 239, 3) := by decide +kernel
theorem dX7_mixText_15 : decode cX7_mixText 15 = .ok (.i2l, 1) := by decide +kernel
theorem dX7_mixText_16 : decode cX7_mixText 16 = .ok (.invokevirtual 297, 3) := by decide +kernel
theorem dX7_mixText_19 : decode cX7_mixText 19 = .ok (.iinc 2 1, 3) := by decide +kernel
theorem dX7_mixText_22 : decode cX7_mixText 22 = .ok (.goto (-20), 3) := by decide +kernel
theorem dX7_mixText_25 : decode cX7_mixText 25 = .ok (.iconst 0, 1) := by decide +kernel
theorem dX7_mixText_26 : decode cX7_mixText 26 = .ok (.istore_n 2, 1) := by decide +kernel
theorem dX7_mixText_27 : decode cX7_mixText 27 = .ok (.iload_n 2, 1) := by decide +kernel
theorem dX7_mixText_28 : decode cX7_mixText 28 = .ok (.iconst 4, 1) := by decide +kernel
theorem dX7_mixText_29 : decode cX7_mixText 29 = .ok (.aload_n 0, 1) := by decide +kernel
theorem dX7_mixText_30 : decode cX7_mixText 30 = .ok (.iload_n 1, 1) := by decide +kernel
theorem dX7_mixText_31 : decode cX7_mixText 31 = .ok (.invokevirtual 58, 3) := by decide +kernel
theorem dX7_mixText_34 : decode cX7_mixText 34 = .ok (.imul, 1) := by decide +kernel
theorem dX7_mixText_35 : decode cX7_mixText 35 = .ok (.if_icmp .ge 25, 3) := by decide +kernel
theorem dX7_mixText_38 : decode cX7_mixText 38 = .ok (.aload_n 0, 1) := by decide +kernel
theorem dX7_mixText_39 : decode cX7_mixText 39 = .ok (.aload_n 0, 1) := by decide +kernel
theorem dX7_mixText_40 : decode cX7_mixText 40 = .ok (.iload_n 1, 1) := by decide +kernel
theorem dX7_mixText_41 : decode cX7_mixText 41 = .ok (.iload_n 2, 1) := by decide +kernel
theorem dX7_mixText_42 : decode cX7_mixText 42 = .ok (.iconst 4, 1) := by decide +kernel
theorem dX7_mixText_43 : decode cX7_mixText 43 = .ok (.idiv, 1) := by decide +kernel
theorem dX7_mixText_44 : decode cX7_mixText 44 = .ok (.iload_n 2, 1) := by decide +kernel
theorem dX7_mixText_45 : decode cX7_mixText 45 = .ok (.iconst 4, 1) := by decide +kernel
theorem dX7_mixText_46 : decode cX7_mixText 46 = .ok (.irem, 1) := by decide +kernel
theorem dX7_mixText_47 : decode cX7_mixText 47 = .ok (.invokevirtual 197, 3) := by decide +kernel
theorem dX7_mixText_50 : decode cX7_mixText 50 = .ok (.i2l, 1) := by decide +kernel
theorem dX7_mixText_51 : decode cX7_mixText 51 = .ok (.invokevirtual 297, 3) := by decide +kernel
theorem dX7_mixText_54 : decode cX7_mixText 54 = .ok (.iinc 2 1, 3) := by decide +kernel
theorem dX7_mixText_57 : decode cX7_mixText 57 = .ok (.goto (-30), 3) := by decide +kernel
theorem dX7_mixText_60 : decode cX7_mixText 60 = .ok (.aload_n 0, 1) := by decide +kernel
theorem dX7_mixText_61 : decode cX7_mixText 61 = .ok (.iload_n 1, 1) := by decide +kernel
theorem dX7_mixText_62 : decode cX7_mixText 62 = .ok (.invokevirtual 204, 3) := by decide +kernel
theorem dX7_mixText_65 : decode cX7_mixText 65 = .ok (.istore_n 2, 1) := by decide +kernel
theorem dX7_mixText_66 : decode cX7_mixText 66 = .ok (.iconst 0, 1) := by decide +kernel
theorem dX7_mixText_67 : decode cX7_mixText 67 = .ok (.istore_n 3, 1) := by decide +kernel
theorem dX7_mixText_68 : decode cX7_mixText 68 = .ok (.iload_n 3, 1) := by decide +kernel
theorem dX7_mixText_69 : decode cX7_mixText 69 = .ok (.iconst 5, 1) := by decide +kernel
theorem dX7_mixText_70 : decode cX7_mixText 70 = .ok (.iload_n 2, 1) := by decide +kernel
theorem dX7_mixText_71 : decode cX7_mixText 71 = .ok (.imul, 1) := by decide +kernel
theorem dX7_mixText_72 : decode cX7_mixText 72 = .ok (.if_icmp .ge 25, 3) := by decide +kernel
theorem dX7_mixText_75 : decode cX7_mixText 75 = .ok (.aload_n 0, 1) := by decide +kernel
theorem dX7_mixText_76 : decode cX7_mixText 76 = .ok (.aload_n 0, 1) := by decide +kernel
theorem dX7_mixText_77 : decode cX7_mixText 77 = .ok (.iload_n 1, 1) := by decide +kernel
theorem dX7_mixText_78 : decode cX7_mixText 78 = .ok (.iload_n 3, 1) := by decide +kernel
theorem dX7_mixText_79 : decode cX7_mixText 79 = .ok (.iconst 5, 1) := by decide +kernel
theorem dX7_mixText_80 : decode cX7_mixText 80 = .ok (.idiv, 1) := by decide +kernel
theorem dX7_mixText_81 : decode cX7_mixText 81 = .ok (.iload_n 3, 1) := by decide +kernel
theorem dX7_mixText_82 : decode cX7_mixText 82 = .ok (.iconst 5, 1) := by decide +kernel
theorem dX7_mixText_83 : decode cX7_mixText 83 = .ok (.irem, 1) := by decide +kernel
theorem dX7_mixText_84 : decode cX7_mixText 84 = .ok (.invokevirtual 216, 3) := by decide +kernel
theorem dX7_mixText_87 : decode cX7_mixText 87 = .ok (.i2l, 1) := by decide +kernel
theorem dX7_mixText_88 : decode cX7_mixText 88 = .ok (.invokevirtual 297, 3) := by decide +kernel
theorem dX7_mixText_91 : decode cX7_mixText 91 = .ok (.iinc 3 1, 3) := by decide +kernel
theorem dX7_mixText_94 : decode cX7_mixText 94 = .ok (.goto (-26), 3) := by decide +kernel
theorem dX7_mixText_97 : decode cX7_mixText 97 = .ok (.iconst 0, 1) := by decide +kernel
theorem dX7_mixText_98 : decode cX7_mixText 98 = .ok (.istore_n 3, 1) := by decide +kernel
theorem dX7_mixText_99 : decode cX7_mixText 99 = .ok (.iload_n 3, 1) := by decide +kernel
theorem dX7_mixText_100 : decode cX7_mixText 100 = .ok (.iconst 3, 1) := by decide +kernel
theorem dX7_mixText_101 : decode cX7_mixText 101 = .ok (.if_icmp .ge 21, 3) := by decide +kernel
theorem dX7_mixText_104 : decode cX7_mixText 104 = .ok (.aload_n 0, 1) := by decide +kernel
theorem dX7_mixText_105 : decode cX7_mixText 105 = .ok (.aload_n 0, 1) := by decide +kernel
theorem dX7_mixText_106 : decode cX7_mixText 106 = .ok (.iload_n 1, 1) := by decide +kernel
theorem dX7_mixText_107 : decode cX7_mixText 107 = .ok (.iconst 0, 1) := by decide +kernel
theorem dX7_mixText_108 : decode cX7_mixText 108 = .ok (.iload_n 3, 1) := by decide +kernel
theorem dX7_mixText_109 : decode cX7_mixText 109 = .ok (.invokevirtual 251, 3) := by decide +kernel
theorem dX7_mixText_112 : decode cX7_mixText 112 = .ok (.i2l, 1) := by decide +kernel
theorem dX7_mixText_113 : decode cX7_mixText 113 = .ok (.invokevirtual 297, 3) := by decide +kernel
theorem dX7_mixText_116 : decode cX7_mixText 116 = .ok (.iinc 3 1, 3) := by decide +kernel
theorem dX7_mixText_119 : decode cX7_mixText 119 = .ok (.goto (-20), 3) := by decide +kernel
theorem dX7_mixText_122 : decode cX7_mixText 122 = .ok (.iconst 0, 1) := by decide +kernel
theorem dX7_mixText_123 : decode cX7_mixText 123 = .ok (.istore_n 3, 1) := by decide +kernel
theorem dX7_mixText_124 : decode cX7_mixText 124 = .ok (.iload_n 3, 1) := by decide +kernel
theorem dX7_mixText_125 : decode cX7_mixText 125 = .ok (.iconst 4, 1) := by decide +kernel
theorem dX7_mixText_126 : decode cX7_mixText 126 = .ok (.if_icmp .ge 20, 3) := by decide +kernel
theorem dX7_mixText_129 : decode cX7_mixText 129 = .ok (.aload_n 0, 1) := by decide +kernel
theorem dX7_mixText_130 : decode cX7_mixText 130 = .ok (.aload_n 0, 1) := by decide +kernel
theorem dX7_mixText_131 : decode cX7_mixText 131 = .ok (.iload_n 1, 1) := by decide +kernel
theorem dX7_mixText_132 : decode cX7_mixText 132 = .ok (.iload_n 3, 1) := by decide +kernel
theorem dX7_mixText_133 : decode cX7_mixText 133 = .ok (.invokevirtual 269, 3) := by decide +kernel
theorem dX7_mixText_136 : decode cX7_mixText 136 = .ok (.i2l, 1) := by decide +kernel
theorem dX7_mixText_137 : decode cX7_mixText 137 = .ok (.invokevirtual 297, 3) := by decide +kernel
theorem dX7_mixText_140 : decode cX7_mixText 140 = .ok (.iinc 3 1, 3) := by decide +kernel
theorem dX7_mixText_143 : decode cX7_mixText 143 = .ok (.goto (-19), 3) := by decide +kernel
theorem dX7_mixText_146 : decode cX7_mixText 146 = .ok (.aload_n 0, 1) := by decide +kernel
theorem dX7_mixText_147 : decode cX7_mixText 147 = .ok (.aload_n 0, 1) := by decide +kernel
theorem dX7_mixText_148 : decode cX7_mixText 148 = .ok (.iload_n 1, 1) := by decide +kernel
theorem dX7_mixText_149 : decode cX7_mixText 149 = .ok (.iconst 1, 1) := by decide +kernel
theorem dX7_mixText_150 : decode cX7_mixText 150 = .ok (.iconst 2, 1) := by decide +kernel
theorem dX7_mixText_151 : decode cX7_mixText 151 = .ok (.invokevirtual 272, 3) := by decide +kernel
theorem dX7_mixText_154 : decode cX7_mixText 154 = .ok (.i2l, 1) := by decide +kernel
theorem dX7_mixText_155 : decode cX7_mixText 155 = .ok (.invokevirtual 297, 3) := by decide +kernel
theorem dX7_mixText_158 : decode cX7_mixText 158 = .ok (.return_, 1) := by decide +kernel
theorem dX7_digest_0 : decode cX7_digest 0 = .ok (.aload_n 0, 1) := by decide +kernel
theorem dX7_digest_1 : decode cX7_digest 1 = .ok (.iconst 0, 1) := by decide +kernel
theorem dX7_digest_2 : decode cX7_digest 2 = .ok (.putfield 47, 3) := by decide +kernel
theorem dX7_digest_5 : decode cX7_digest 5 = .ok (.aload_n 0, 1) := by decide +kernel
theorem dX7_digest_6 : decode cX7_digest 6 = .ok (.ldc2_w 301, 3) := by decide +kernel
theorem dX7_digest_9 : decode cX7_digest 9 = .ok (.putfield 293, 3) := by decide +kernel
theorem dX7_digest_12 : decode cX7_digest 12 = .ok (.iconst 0, 1) := by decide +kernel
theorem dX7_digest_13 : decode cX7_digest 13 = .ok (.istore_n 1, 1) := by decide +kernel
theorem dX7_digest_14 : decode cX7_digest 14 = .ok (.iload_n 1, 1) := by decide +kernel
theorem dX7_digest_15 : decode cX7_digest 15 = .ok (.bipush 10, 2) := by decide +kernel
theorem dX7_digest_17 : decode cX7_digest 17 = .ok (.if_icmp .ge 19, 3) := by decide +kernel
theorem dX7_digest_20 : decode cX7_digest 20 = .ok (.aload_n 0, 1) := by decide +kernel
theorem dX7_digest_21 : decode cX7_digest 21 = .ok (.aload_n 0, 1) := by decide +kernel
theorem dX7_digest_22 : decode cX7_digest 22 = .ok (.iload_n 1, 1) := by decide +kernel
theorem dX7_digest_23 : decode cX7_digest 23 = .ok (.invokevirtual 266, 3) := by decide +kernel
theorem dX7_digest_26 : decode cX7_digest 26 = .ok (.i2l, 1) := by decide +kernel
theorem dX7_digest_27 : decode cX7_digest 27 = .ok (.invokevirtual 297, 3) := by decide +kernel
theorem dX7_digest_30 : decode cX7_digest 30 = .ok (.iinc 1 1, 3) := by decide +kernel
theorem dX7_digest_33 : decode cX7_digest 33 = .ok (.goto (-19), 3) := by decide +kernel
theorem dX7_digest_36 : decode cX7_digest 36 = .ok (.iconst 0, 1) := by decide +kernel
theorem dX7_digest_37 : decode cX7_digest 37 = .ok (.istore_n 1, 1) := by decide +kernel
theorem dX7_digest_38 : decode cX7_digest 38 = .ok (.iload_n 1, 1) := by decide +kernel
theorem dX7_digest_39 : decode cX7_digest 39 = .ok (.iconst 5, 1) := by decide +kernel
theorem dX7_digest_40 : decode cX7_digest 40 = .ok (.if_icmp .ge 20, 3) := by decide +kernel
theorem dX7_digest_43 : decode cX7_digest 43 = .ok (.aload_n 0, 1) := by decide +kernel
theorem dX7_digest_44 : decode cX7_digest 44 = .ok (.aload_n 0, 1) := by decide +kernel
theorem dX7_digest_45 : decode cX7_digest 45 = .ok (.getfield 7, 3) := by decide +kernel
theorem dX7_digest_48 : decode cX7_digest 48 = .ok (.iload_n 1, 1) := by decide +kernel
theorem dX7_digest_49 : decode cX7_digest 49 = .ok (.iaload, 1) := by decide +kernel
theorem dX7_digest_50 : decode cX7_digest 50 = .ok (.i2l, 1) := by decide +kernel
theorem dX7_digest_51 : decode cX7_digest 51 = .ok (.invokevirtual 297, 3) := by decide +kernel
theorem dX7_digest_54 : decode cX7_digest 54 = .ok (.iinc 1 1, 3) := by decide +kernel
theorem dX7_digest_57 : decode cX7_digest 57 = .ok (.goto (-19), 3) := by decide +kernel
theorem dX7_digest_60 : decode cX7_digest 60 = .ok (.iconst 0, 1) := by decide +kernel
theorem dX7_digest_61 : decode cX7_digest 61 = .ok (.istore_n 1, 1) := by decide +kernel
theorem dX7_digest_62 : decode cX7_digest 62 = .ok (.iload_n 1, 1) := by decide +kernel
theorem dX7_digest_63 : decode cX7_digest 63 = .ok (.iconst 4, 1) := by decide +kernel
theorem dX7_digest_64 : decode cX7_digest 64 = .ok (.if_icmp .ge 14, 3) := by decide +kernel
theorem dX7_digest_67 : decode cX7_digest 67 = .ok (.aload_n 0, 1) := by decide +kernel
theorem dX7_digest_68 : decode cX7_digest 68 = .ok (.iload_n 1, 1) := by decide +kernel
theorem dX7_digest_69 : decode cX7_digest 69 = .ok (.invokevirtual 303, 3) := by decide +kernel
theorem dX7_digest_72 : decode cX7_digest 72 = .ok (.iinc 1 1, 3) := by decide +kernel
theorem dX7_digest_75 : decode cX7_digest 75 = .ok (.goto (-13), 3) := by decide +kernel
theorem dX7_digest_78 : decode cX7_digest 78 = .ok (.iconst 0, 1) := by decide +kernel
theorem dX7_digest_79 : decode cX7_digest 79 = .ok (.istore_n 1, 1) := by decide +kernel
theorem dX7_digest_80 : decode cX7_digest 80 = .ok (.iload_n 1, 1) := by decide +kernel
theorem dX7_digest_81 : decode cX7_digest 81 = .ok (.bipush 60, 2) := by decide +kernel
theorem dX7_digest_83 : decode cX7_digest 83 = .ok (.if_icmp .ge 47, 3) := by decide +kernel
theorem dX7_digest_86 : decode cX7_digest 86 = .ok (.aload_n 0, 1) := by decide +kernel
theorem dX7_digest_87 : decode cX7_digest 87 = .ok (.iload_n 1, 1) := by decide +kernel
theorem dX7_digest_88 : decode cX7_digest 88 = .ok (.invokevirtual 82, 3) := by decide +kernel
theorem dX7_digest_91 : decode cX7_digest 91 = .ok (.ifCond .eq 33, 3) := by decide +kernel
theorem dX7_digest_94 : decode cX7_digest 94 = .ok (.aload_n 0, 1) := by decide +kernel
theorem dX7_digest_95 : decode cX7_digest 95 = .ok (.iload_n 1, 1) := by decide +kernel
theorem dX7_digest_96 : decode cX7_digest 96 = .ok (.i2l, 1) := by decide +kernel
theorem dX7_digest_97 : decode cX7_digest 97 = .ok (.invokevirtual 297, 3) := by decide +kernel
theorem dX7_digest_100 : decode cX7_digest 100 = .ok (.iconst 0, 1) := by decide +kernel
theorem dX7_digest_101 : decode cX7_digest 101 = .ok (.istore_n 2, 1) := by decide +kernel
theorem dX7_digest_102 : decode cX7_digest 102 = .ok (.iload_n 2, 1) := by decide +kernel
theorem dX7_digest_103 : decode cX7_digest 103 = .ok (.iconst 5, 1) := by decide +kernel
theorem dX7_digest_104 : decode cX7_digest 104 = .ok (.if_icmp .ge 20, 3) := by decide +kernel
theorem dX7_digest_107 : decode cX7_digest 107 = .ok (.aload_n 0, 1) := by decide +kernel
theorem dX7_digest_108 : decode cX7_digest 108 = .ok (.aload_n 0, 1) := by decide +kernel
theorem dX7_digest_109 : decode cX7_digest 109 = .ok (.iload_n 1, 1) := by decide +kernel
theorem dX7_digest_110 : decode cX7_digest 110 = .ok (.iload_n 2, 1) := by decide +kernel
theorem dX7_digest_111 : decode cX7_digest 111 = .ok (.invokevirtual 224, 3) := by decide +kernel
theorem dX7_digest_114 : decode cX7_digest 114 = .ok (.i2l, 1) := by decide +kernel
theorem dX7_digest_115 : decode cX7_digest 115 = .ok (.invokevirtual 297, 3) := by decide +kernel
theorem dX7_digest_118 : decode cX7_digest 118 = .ok (.iinc 2 1, 3) := by decide +kernel
theorem dX7_digest_121 : decode cX7_digest 121 = .ok (.goto (-19), 3) := by decide +kernel
theorem dX7_digest_124 : decode cX7_digest 124 = .ok (.iinc 1 1, 3) := by decide +kernel
theorem dX7_digest_127 : decode cX7_digest 127 = .ok (.goto (-47), 3) := by decide +kernel
theorem dX7_digest_130 : decode cX7_digest 130 = .ok (.aload_n 0, 1) := by decide +kernel
theorem dX7_digest_131 : decode cX7_digest 131 = .ok (.aload_n 0, 1) := by decide +kernel
theorem dX7_digest_132 : decode cX7_digest 132 = .ok (.invokevirtual 284, 3) := by decide +kernel
theorem dX7_digest_135 : decode cX7_digest 135 = .ok (.i2l, 1) := by decide +kernel
theorem dX7_digest_136 : decode cX7_digest 136 = .ok (.invokevirtual 297, 3) := by decide +kernel
theorem dX7_digest_139 : decode cX7_digest 139 = .ok (.aload_n 0, 1) := by decide +kernel
theorem dX7_digest_140 : decode cX7_digest 140 = .ok (.aload_n 0, 1) := by decide +kernel
theorem dX7_digest_141 : decode cX7_digest 141 = .ok (.invokevirtual 287, 3) := by decide +kernel
theorem dX7_digest_144 : decode cX7_digest 144 = .ok (.invokestatic 306, 3) := by decide +kernel
theorem dX7_digest_147 : decode cX7_digest 147 = .ok (.invokevirtual 297, 3) := by decide +kernel
theorem dX7_digest_150 : decode cX7_digest 150 = .ok (.aload_n 0, 1) := by decide +kernel
theorem dX7_digest_151 : decode cX7_digest 151 = .ok (.aload_n 0, 1) := by decide +kernel
theorem dX7_digest_152 : decode cX7_digest 152 = .ok (.getfield 145, 3) := by decide +kernel
theorem dX7_digest_155 : decode cX7_digest 155 = .ok (.i2l, 1) := by decide +kernel
theorem dX7_digest_156 : decode cX7_digest 156 = .ok (.invokevirtual 297, 3) := by decide +kernel
theorem dX7_digest_159 : decode cX7_digest 159 = .ok (.iconst 0, 1) := by decide +kernel
theorem dX7_digest_160 : decode cX7_digest 160 = .ok (.istore_n 1, 1) := by decide +kernel
theorem dX7_digest_161 : decode cX7_digest 161 = .ok (.iload_n 1, 1) := by decide +kernel
theorem dX7_digest_162 : decode cX7_digest 162 = .ok (.aload_n 0, 1) := by decide +kernel
theorem dX7_digest_163 : decode cX7_digest 163 = .ok (.getfield 145, 3) := by decide +kernel
theorem dX7_digest_166 : decode cX7_digest 166 = .ok (.if_icmp .ge 20, 3) := by decide +kernel
theorem dX7_digest_169 : decode cX7_digest 169 = .ok (.aload_n 0, 1) := by decide +kernel
theorem dX7_digest_170 : decode cX7_digest 170 = .ok (.aload_n 0, 1) := by decide +kernel
theorem dX7_digest_171 : decode cX7_digest 171 = .ok (.getfield 23, 3) := by decide +kernel
theorem dX7_digest_174 : decode cX7_digest 174 = .ok (.iload_n 1, 1) := by decide +kernel
theorem dX7_digest_175 : decode cX7_digest 175 = .ok (.iaload, 1) := by decide +kernel
theorem dX7_digest_176 : decode cX7_digest 176 = .ok (.i2l, 1) := by decide +kernel
theorem dX7_digest_177 : decode cX7_digest 177 = .ok (.invokevirtual 297, 3) := by decide +kernel
theorem dX7_digest_180 : decode cX7_digest 180 = .ok (.iinc 1 1, 3) := by decide +kernel
theorem dX7_digest_183 : decode cX7_digest 183 = .ok (.goto (-22), 3) := by decide +kernel
theorem dX7_digest_186 : decode cX7_digest 186 = .ok (.aload_n 0, 1) := by decide +kernel
theorem dX7_digest_187 : decode cX7_digest 187 = .ok (.getfield 293, 3) := by decide +kernel
theorem dX7_digest_190 : decode cX7_digest 190 = .ok (.lreturn, 1) := by decide +kernel
theorem dJxe99ae_isNaN_b9ae7_0 : decode cJxe99ae_isNaN_b9ae7 0 = .ok (.dload_n 0, 1) := by decide +kernel
theorem dJxe99ae_isNaN_b9ae7_1 : decode cJxe99ae_isNaN_b9ae7 1 = .ok (.dload_n 0, 1) := by decide +kernel
theorem dJxe99ae_isNaN_b9ae7_2 : decode cJxe99ae_isNaN_b9ae7 2 = .ok (.dcmp .l, 1) := by decide +kernel
theorem dJxe99ae_isNaN_b9ae7_3 : decode cJxe99ae_isNaN_b9ae7 3 = .ok (.ifCond .eq 7, 3) := by decide +kernel
theorem dJxe99ae_isNaN_b9ae7_6 : decode cJxe99ae_isNaN_b9ae7 6 = .ok (.iconst 1, 1) := by decide +kernel
theorem dJxe99ae_isNaN_b9ae7_7 : decode cJxe99ae_isNaN_b9ae7 7 = .ok (.goto 4, 3) := by decide +kernel
theorem dJxe99ae_isNaN_b9ae7_10 : decode cJxe99ae_isNaN_b9ae7 10 = .ok (.iconst 0, 1) := by decide +kernel
theorem dJxe99ae_isNaN_b9ae7_11 : decode cJxe99ae_isNaN_b9ae7 11 = .ok (.ireturn, 1) := by decide +kernel
theorem dJxe99ae_doubleToLongBits_ccdee_0 : decode cJxe99ae_doubleToLongBits_ccdee 0 = .ok (.dload_n 0, 1) := by decide +kernel
theorem dJxe99ae_doubleToLongBits_ccdee_1 : decode cJxe99ae_doubleToLongBits_ccdee 1 = .ok (.invokestatic 122, 3) := by decide +kernel
theorem dJxe99ae_doubleToLongBits_ccdee_4 : decode cJxe99ae_doubleToLongBits_ccdee 4 = .ok (.ifCond .ne 8, 3) := by decide +kernel
theorem dJxe99ae_doubleToLongBits_ccdee_7 : decode cJxe99ae_doubleToLongBits_ccdee 7 = .ok (.dload_n 0, 1) := by decide +kernel
theorem dJxe99ae_doubleToLongBits_ccdee_8 : decode cJxe99ae_doubleToLongBits_ccdee 8 = .ok (.invokestatic 134, 3) := by decide +kernel
theorem dJxe99ae_doubleToLongBits_ccdee_11 : decode cJxe99ae_doubleToLongBits_ccdee 11 = .ok (.lreturn, 1) := by decide +kernel
theorem dJxe99ae_doubleToLongBits_ccdee_12 : decode cJxe99ae_doubleToLongBits_ccdee 12 = .ok (.ldc2_w 137, 3) := by decide +kernel
theorem dJxe99ae_doubleToLongBits_ccdee_15 : decode cJxe99ae_doubleToLongBits_ccdee 15 = .ok (.lreturn, 1) := by decide +kernel
theorem dJ6_bitCount_0f7a4_0 : decode cJ6_bitCount_0f7a4 0 = .ok (.iload_n 0, 1) := by decide +kernel
theorem dJ6_bitCount_0f7a4_1 : decode cJ6_bitCount_0f7a4 1 = .ok (.iload_n 0, 1) := by decide +kernel
theorem dJ6_bitCount_0f7a4_2 : decode cJ6_bitCount_0f7a4 2 = .ok (.iconst 1, 1) := by decide +kernel
theorem dJ6_bitCount_0f7a4_3 : decode cJ6_bitCount_0f7a4 3 = .ok (.iushr, 1) := by decide +kernel
theorem dJ6_bitCount_0f7a4_4 : decode cJ6_bitCount_0f7a4 4 = .ok (.ldc_w 265, 3) := by decide +kernel
theorem dJ6_bitCount_0f7a4_7 : decode cJ6_bitCount_0f7a4 7 = .ok (.iand, 1) := by decide +kernel
theorem dJ6_bitCount_0f7a4_8 : decode cJ6_bitCount_0f7a4 8 = .ok (.isub, 1) := by decide +kernel
theorem dJ6_bitCount_0f7a4_9 : decode cJ6_bitCount_0f7a4 9 = .ok (.istore_n 0, 1) := by decide +kernel
theorem dJ6_bitCount_0f7a4_10 : decode cJ6_bitCount_0f7a4 10 = .ok (.iload_n 0, 1) := by decide +kernel
theorem dJ6_bitCount_0f7a4_11 : decode cJ6_bitCount_0f7a4 11 = .ok (.ldc_w 266, 3) := by decide +kernel
theorem dJ6_bitCount_0f7a4_14 : decode cJ6_bitCount_0f7a4 14 = .ok (.iand, 1) := by decide +kernel
theorem dJ6_bitCount_0f7a4_15 : decode cJ6_bitCount_0f7a4 15 = .ok (.iload_n 0, 1) := by decide +kernel
theorem dJ6_bitCount_0f7a4_16 : decode cJ6_bitCount_0f7a4 16 = .ok (.iconst 2, 1) := by decide +kernel
theorem dJ6_bitCount_0f7a4_17 : decode cJ6_bitCount_0f7a4 17 = .ok (.iushr, 1) := by decide +kernel
theorem dJ6_bitCount_0f7a4_18 : decode cJ6_bitCount_0f7a4 18 = .ok (.ldc_w 266, 3) := by decide +kernel
theorem dJ6_bitCount_0f7a4_21 : decode cJ6_bitCount_0f7a4 21 = .ok (.iand, 1) := by decide +kernel
theorem dJ6_bitCount_0f7a4_22 : decode cJ6_bitCount_0f7a4 22 = .ok (.iadd, 1) := by decide +kernel
theorem dJ6_bitCount_0f7a4_23 : decode cJ6_bitCount_0f7a4 23 = .ok (.istore_n 0, 1) := by decide +kernel
theorem dJ6_bitCount_0f7a4_24 : decode cJ6_bitCount_0f7a4 24 = .ok (.iload_n 0, 1) := by decide +kernel
theorem dJ6_bitCount_0f7a4_25 : decode cJ6_bitCount_0f7a4 25 = .ok (.iload_n 0, 1) := by decide +kernel
theorem dJ6_bitCount_0f7a4_26 : decode cJ6_bitCount_0f7a4 26 = .ok (.iconst 4, 1) := by decide +kernel
theorem dJ6_bitCount_0f7a4_27 : decode cJ6_bitCount_0f7a4 27 = .ok (.iushr, 1) := by decide +kernel
theorem dJ6_bitCount_0f7a4_28 : decode cJ6_bitCount_0f7a4 28 = .ok (.iadd, 1) := by decide +kernel
theorem dJ6_bitCount_0f7a4_29 : decode cJ6_bitCount_0f7a4 29 = .ok (.ldc_w 267, 3) := by decide +kernel
theorem dJ6_bitCount_0f7a4_32 : decode cJ6_bitCount_0f7a4 32 = .ok (.iand, 1) := by decide +kernel
theorem dJ6_bitCount_0f7a4_33 : decode cJ6_bitCount_0f7a4 33 = .ok (.istore_n 0, 1) := by decide +kernel
theorem dJ6_bitCount_0f7a4_34 : decode cJ6_bitCount_0f7a4 34 = .ok (.iload_n 0, 1) := by decide +kernel
theorem dJ6_bitCount_0f7a4_35 : decode cJ6_bitCount_0f7a4 35 = .ok (.iload_n 0, 1) := by decide +kernel
theorem dJ6_bitCount_0f7a4_36 : decode cJ6_bitCount_0f7a4 36 = .ok (.bipush 8, 2) := by decide +kernel
theorem dJ6_bitCount_0f7a4_38 : decode cJ6_bitCount_0f7a4 38 = .ok (.iushr, 1) := by decide +kernel
theorem dJ6_bitCount_0f7a4_39 : decode cJ6_bitCount_0f7a4 39 = .ok (.iadd, 1) := by decide +kernel
theorem dJ6_bitCount_0f7a4_40 : decode cJ6_bitCount_0f7a4 40 = .ok (.istore_n 0, 1) := by decide +kernel
theorem dJ6_bitCount_0f7a4_41 : decode cJ6_bitCount_0f7a4 41 = .ok (.iload_n 0, 1) := by decide +kernel
theorem dJ6_bitCount_0f7a4_42 : decode cJ6_bitCount_0f7a4 42 = .ok (.iload_n 0, 1) := by decide +kernel
theorem dJ6_bitCount_0f7a4_43 : decode cJ6_bitCount_0f7a4 43 = .ok (.bipush 16, 2) := by decide +kernel
theorem dJ6_bitCount_0f7a4_45 : decode cJ6_bitCount_0f7a4 45 = .ok (.iushr, 1) := by decide +kernel
theorem dJ6_bitCount_0f7a4_46 : decode cJ6_bitCount_0f7a4 46 = .ok (.iadd, 1) := by decide +kernel
theorem dJ6_bitCount_0f7a4_47 : decode cJ6_bitCount_0f7a4 47 = .ok (.istore_n 0, 1) := by decide +kernel
theorem dJ6_bitCount_0f7a4_48 : decode cJ6_bitCount_0f7a4 48 = .ok (.iload_n 0, 1) := by decide +kernel
theorem dJ6_bitCount_0f7a4_49 : decode cJ6_bitCount_0f7a4 49 = .ok (.bipush 63, 2) := by decide +kernel
theorem dJ6_bitCount_0f7a4_51 : decode cJ6_bitCount_0f7a4 51 = .ok (.iand, 1) := by decide +kernel
theorem dJ6_bitCount_0f7a4_52 : decode cJ6_bitCount_0f7a4 52 = .ok (.ireturn, 1) := by decide +kernel
theorem dJ9_max_7cf53_0 : decode cJ9_max_7cf53 0 = .ok (.iload_n 0, 1) := by decide +kernel
theorem dJ9_max_7cf53_1 : decode cJ9_max_7cf53 1 = .ok (.iload_n 1, 1) := by decide +kernel
theorem dJ9_max_7cf53_2 : decode cJ9_max_7cf53 2 = .ok (.if_icmp .lt 7, 3) := by decide +kernel
theorem dJ9_max_7cf53_5 : decode cJ9_max_7cf53 5 = .ok (.iload_n 0, 1) := by decide +kernel
theorem dJ9_max_7cf53_6 : decode cJ9_max_7cf53 6 = .ok (.goto 4, 3) := by decide +kernel
theorem dJ9_max_7cf53_9 : decode cJ9_max_7cf53 9 = .ok (.iload_n 1, 1) := by decide +kernel
theorem dJ9_max_7cf53_10 : decode cJ9_max_7cf53 10 = .ok (.ireturn, 1) := by decide +kernel
theorem dL_put_0 : decode cL_put 0 = .ok (.aload_n 2, 1) := by decide +kernel
theorem dL_put_1 : decode cL_put 1 = .ok (.iconst 0, 1) := by decide +kernel
theorem dL_put_2 : decode cL_put 2 = .ok (.aload_n 0, 1) := by decide +kernel
theorem dL_put_3 : decode cL_put 3 = .ok (.iload_n 1, 1) := by decide +kernel
theorem dL_put_4 : decode cL_put 4 = .ok (.invokevirtual 7, 3) := by decide +kernel
theorem dL_put_7 : decode cL_put 7 = .ok (.i2l, 1) := by decide +kernel
theorem dL_put_8 : decode cL_put 8 = .ok (.lastore, 1) := by decide +kernel
theorem dL_put_9 : decode cL_put 9 = .ok (.goto 12, 3) := by decide +kernel
theorem dL_put_12 : decode cL_put 12 = .ok (.astore_n 3, 1) := by decide +kernel
theorem dL_put_13 : decode cL_put 13 = .ok (.iconst 1, 1) := by decide +kernel
theorem dL_put_14 : decode cL_put 14 = .ok (.ireturn, 1) := by decide +kernel
theorem dL_put_15 : decode cL_put 15 = .ok (.astore_n 3, 1) := by decide +kernel
theorem dL_put_16 : decode cL_put 16 = .ok (.iconst 2, 1) := by decide +kernel
theorem dL_put_17 : decode cL_put 17 = .ok (.ireturn, 1) := by decide +kernel
theorem dL_put_18 : decode cL_put 18 = .ok (.astore_n 3, 1) := by decide +kernel
theorem dL_put_19 : decode cL_put 19 = .ok (.iconst 3, 1) := by decide +kernel
theorem dL_put_20 : decode cL_put 20 = .ok (.ireturn, 1) := by decide +kernel
theorem dL_put_21 : decode cL_put 21 = .ok (.iconst 0, 1) := by decide +kernel
theorem dL_put_22 : decode cL_put 22 = .ok (.ireturn, 1) := by decide +kernel
theorem dL_insert_0 : decode cL_insert 0 = .ok (.aload_n 3, 1) := by decide +kernel
theorem dL_insert_1 : decode cL_insert 1 = .ok (.iconst 0, 1) := by decide +kernel
theorem dL_insert_2 : decode cL_insert 2 = .ok (.aload_n 0, 1) := by decide +kernel
theorem dL_insert_3 : decode cL_insert 3 = .ok (.iload_n 1, 1) := by decide +kernel
theorem dL_insert_4 : decode cL_insert 4 = .ok (.iload_n 2, 1) := by decide +kernel
theorem dL_insert_5 : decode cL_insert 5 = .ok (.invokevirtual 19, 3) := by decide +kernel
theorem dL_insert_8 : decode cL_insert 8 = .ok (.i2l, 1) := by decide +kernel
theorem dL_insert_9 : decode cL_insert 9 = .ok (.lastore, 1) := by decide +kernel
theorem dL_insert_10 : decode cL_insert 10 = .ok (.goto 15, 3) := by decide +kernel
theorem dL_insert_13 : decode cL_insert 13 = .ok (.astore 4, 2) := by decide +kernel
theorem dL_insert_15 : decode cL_insert 15 = .ok (.iconst 1, 1) := by decide +kernel
theorem dL_insert_16 : decode cL_insert 16 = .ok (.ireturn, 1) := by decide +kernel
theorem dL_insert_17 : decode cL_insert 17 = .ok (.astore 4, 2) := by decide +kernel
theorem dL_insert_19 : decode cL_insert 19 = .ok (.iconst 2, 1) := by decide +kernel
theorem dL_insert_20 : decode cL_insert 20 = .ok (.ireturn, 1) := by decide +kernel
theorem dL_insert_21 : decode cL_insert 21 = .ok (.astore 4, 2) := by decide +kernel
theorem dL_insert_23 : decode cL_insert 23 = .ok (.iconst 3, 1) := by decide +kernel
theorem dL_insert_24 : decode cL_insert 24 = .ok (.ireturn, 1) := by decide +kernel
theorem dL_insert_25 : decode cL_insert 25 = .ok (.iconst 0, 1) := by decide +kernel
theorem dL_insert_26 : decode cL_insert 26 = .ok (.ireturn, 1) := by decide +kernel
theorem dL_takeOut_0 : decode cL_takeOut 0 = .ok (.aload 4, 2) := by decide +kernel
theorem dL_takeOut_2 : decode cL_takeOut 2 = .ok (.iconst 0, 1) := by decide +kernel
theorem dL_takeOut_3 : decode cL_takeOut 3 = .ok (.aload_n 0, 1) := by decide +kernel
theorem dL_takeOut_4 : decode cL_takeOut 4 = .ok (.iload_n 1, 1) := by decide +kernel
theorem dL_takeOut_5 : decode cL_takeOut 5 = .ok (.iload_n 2, 1) := by decide +kernel
theorem dL_takeOut_6 : decode cL_takeOut 6 = .ok (.iload_n 3, 1) := by decide +kernel
theorem dL_takeOut_7 : decode cL_takeOut 7 = .ok (.invokevirtual 23, 3) := by decide +kernel
theorem dL_takeOut_10 : decode cL_takeOut 10 = .ok (.i2l, 1) := by decide +kernel
theorem dL_takeOut_11 : decode cL_takeOut 11 = .ok (.lastore, 1) := by decide +kernel
theorem dL_takeOut_12 : decode cL_takeOut 12 = .ok (.goto 15, 3) := by decide +kernel
theorem dL_takeOut_15 : decode cL_takeOut 15 = .ok (.astore 5, 2) := by decide +kernel
theorem dL_takeOut_17 : decode cL_takeOut 17 = .ok (.iconst 1, 1) := by decide +kernel
theorem dL_takeOut_18 : decode cL_takeOut 18 = .ok (.ireturn, 1) := by decide +kernel
theorem dL_takeOut_19 : decode cL_takeOut 19 = .ok (.astore 5, 2) := by decide +kernel
theorem dL_takeOut_21 : decode cL_takeOut 21 = .ok (.iconst 2, 1) := by decide +kernel
theorem dL_takeOut_22 : decode cL_takeOut 22 = .ok (.ireturn, 1) := by decide +kernel
theorem dL_takeOut_23 : decode cL_takeOut 23 = .ok (.astore 5, 2) := by decide +kernel
theorem dL_takeOut_25 : decode cL_takeOut 25 = .ok (.iconst 3, 1) := by decide +kernel
theorem dL_takeOut_26 : decode cL_takeOut 26 = .ok (.ireturn, 1) := by decide +kernel
theorem dL_takeOut_27 : decode cL_takeOut 27 = .ok (.iconst 0, 1) := by decide +kernel
theorem dL_takeOut_28 : decode cL_takeOut 28 = .ok (.ireturn, 1) := by decide +kernel
theorem dL_copy_0 : decode cL_copy 0 = .ok (.aload_n 3, 1) := by decide +kernel
theorem dL_copy_1 : decode cL_copy 1 = .ok (.iconst 0, 1) := by decide +kernel
theorem dL_copy_2 : decode cL_copy 2 = .ok (.aload_n 0, 1) := by decide +kernel
theorem dL_copy_3 : decode cL_copy 3 = .ok (.iload_n 1, 1) := by decide +kernel
theorem dL_copy_4 : decode cL_copy 4 = .ok (.iload_n 2, 1) := by decide +kernel
theorem dL_copy_5 : decode cL_copy 5 = .ok (.invokevirtual 27, 3) := by decide +kernel
theorem dL_copy_8 : decode cL_copy 8 = .ok (.i2l, 1) := by decide +kernel
theorem dL_copy_9 : decode cL_copy 9 = .ok (.lastore, 1) := by decide +kernel
theorem dL_copy_10 : decode cL_copy 10 = .ok (.goto 11, 3) := by decide +kernel
theorem dL_copy_13 : decode cL_copy 13 = .ok (.astore 4, 2) := by decide +kernel
theorem dL_copy_15 : decode cL_copy 15 = .ok (.iconst 1, 1) := by decide +kernel
theorem dL_copy_16 : decode cL_copy 16 = .ok (.ireturn, 1) := by decide +kernel
theorem dL_copy_17 : decode cL_copy 17 = .ok (.astore 4, 2) := by decide +kernel
theorem dL_copy_19 : decode cL_copy 19 = .ok (.iconst 2, 1) := by decide +kernel
theorem dL_copy_20 : decode cL_copy 20 = .ok (.ireturn, 1) := by decide +kernel
theorem dL_copy_21 : decode cL_copy 21 = .ok (.iconst 0, 1) := by decide +kernel
theorem dL_copy_22 : decode cL_copy 22 = .ok (.ireturn, 1) := by decide +kernel
theorem dL_rotate_0 : decode cL_rotate 0 = .ok (.aload_n 3, 1) := by decide +kernel
theorem dL_rotate_1 : decode cL_rotate 1 = .ok (.iconst 0, 1) := by decide +kernel
theorem dL_rotate_2 : decode cL_rotate 2 = .ok (.aload_n 0, 1) := by decide +kernel
theorem dL_rotate_3 : decode cL_rotate 3 = .ok (.iload_n 1, 1) := by decide +kernel
theorem dL_rotate_4 : decode cL_rotate 4 = .ok (.iload_n 2, 1) := by decide +kernel
theorem dL_rotate_5 : decode cL_rotate 5 = .ok (.invokevirtual 30, 3) := by decide +kernel
theorem dL_rotate_8 : decode cL_rotate 8 = .ok (.i2l, 1) := by decide +kernel
theorem dL_rotate_9 : decode cL_rotate 9 = .ok (.lastore, 1) := by decide +kernel
theorem dL_rotate_10 : decode cL_rotate 10 = .ok (.goto 15, 3) := by decide +kernel
theorem dL_rotate_13 : decode cL_rotate 13 = .ok (.astore 4, 2) := by decide +kernel
theorem dL_rotate_15 : decode cL_rotate 15 = .ok (.iconst 1, 1) := by decide +kernel
theorem dL_rotate_16 : decode cL_rotate 16 = .ok (.ireturn, 1) := by decide +kernel
theorem dL_rotate_17 : decode cL_rotate 17 = .ok (.astore 4, 2) := by decide +kernel
theorem dL_rotate_19 : decode cL_rotate 19 = .ok (.iconst 2, 1) := by decide +kernel
theorem dL_rotate_20 : decode cL_rotate 20 = .ok (.ireturn, 1) := by decide +kernel
theorem dL_rotate_21 : decode cL_rotate 21 = .ok (.astore 4, 2) := by decide +kernel
theorem dL_rotate_23 : decode cL_rotate 23 = .ok (.iconst 3, 1) := by decide +kernel
theorem dL_rotate_24 : decode cL_rotate 24 = .ok (.ireturn, 1) := by decide +kernel
theorem dL_rotate_25 : decode cL_rotate 25 = .ok (.iconst 0, 1) := by decide +kernel
theorem dL_rotate_26 : decode cL_rotate 26 = .ok (.ireturn, 1) := by decide +kernel
theorem dL_drop_0 : decode cL_drop 0 = .ok (.aload_n 2, 1) := by decide +kernel
theorem dL_drop_1 : decode cL_drop 1 = .ok (.iconst 0, 1) := by decide +kernel
theorem dL_drop_2 : decode cL_drop 2 = .ok (.aload_n 0, 1) := by decide +kernel
theorem dL_drop_3 : decode cL_drop 3 = .ok (.iload_n 1, 1) := by decide +kernel
theorem dL_drop_4 : decode cL_drop 4 = .ok (.invokevirtual 33, 3) := by decide +kernel
theorem dL_drop_7 : decode cL_drop 7 = .ok (.i2l, 1) := by decide +kernel
theorem dL_drop_8 : decode cL_drop 8 = .ok (.lastore, 1) := by decide +kernel
theorem dL_drop_9 : decode cL_drop 9 = .ok (.goto 6, 3) := by decide +kernel
theorem dL_drop_12 : decode cL_drop 12 = .ok (.astore_n 3, 1) := by decide +kernel
theorem dL_drop_13 : decode cL_drop 13 = .ok (.iconst 1, 1) := by decide +kernel
theorem dL_drop_14 : decode cL_drop 14 = .ok (.ireturn, 1) := by decide +kernel
theorem dL_drop_15 : decode cL_drop 15 = .ok (.iconst 0, 1) := by decide +kernel
theorem dL_drop_16 : decode cL_drop 16 = .ok (.ireturn, 1) := by decide +kernel
theorem dL_set_0 : decode cL_set 0 = .ok (.aload_n 3, 1) := by decide +kernel
theorem dL_set_1 : decode cL_set 1 = .ok (.iconst 0, 1) := by decide +kernel
theorem dL_set_2 : decode cL_set 2 = .ok (.aload_n 0, 1) := by decide +kernel
theorem dL_set_3 : decode cL_set 3 = .ok (.iload_n 1, 1) := by decide +kernel
theorem dL_set_4 : decode cL_set 4 = .ok (.iload_n 2, 1) := by decide +kernel
theorem dL_set_5 : decode cL_set 5 = .ok (.invokevirtual 36, 3) := by decide +kernel
theorem dL_set_8 : decode cL_set 8 = .ok (.i2l, 1) := by decide +kernel
theorem dL_set_9 : decode cL_set 9 = .ok (.lastore, 1) := by decide +kernel
theorem dL_set_10 : decode cL_set 10 = .ok (.goto 11, 3) := by decide +kernel
theorem dL_set_13 : decode cL_set 13 = .ok (.astore 4, 2) := by decide +kernel
theorem dL_set_15 : decode cL_set 15 = .ok (.iconst 1, 1) := by decide +kernel
theorem dL_set_16 : decode cL_set 16 = .ok (.ireturn, 1) := by decide +kernel
theorem dL_set_17 : decode cL_set 17 = .ok (.astore 4, 2) := by decide +kernel
theorem dL_set_19 : decode cL_set 19 = .ok (.iconst 2, 1) := by decide +kernel
theorem dL_set_20 : decode cL_set 20 = .ok (.ireturn, 1) := by decide +kernel
theorem dL_set_21 : decode cL_set 21 = .ok (.iconst 0, 1) := by decide +kernel
theorem dL_set_22 : decode cL_set 22 = .ok (.ireturn, 1) := by decide +kernel
theorem dL_append_0 : decode cL_append 0 = .ok (.aload_n 2, 1) := by decide +kernel
theorem dL_append_1 : decode cL_append 1 = .ok (.iconst 0, 1) := by decide +kernel
theorem dL_append_2 : decode cL_append 2 = .ok (.aload_n 0, 1) := by decide +kernel
theorem dL_append_3 : decode cL_append 3 = .ok (.iload_n 1, 1) := by decide +kernel
theorem dL_append_4 : decode cL_append 4 = .ok (.invokevirtual 39, 3) := by decide +kernel
theorem dL_append_7 : decode cL_append 7 = .ok (.i2l, 1) := by decide +kernel
theorem dL_append_8 : decode cL_append 8 = .ok (.lastore, 1) := by decide +kernel
theorem dL_append_9 : decode cL_append 9 = .ok (.goto 9, 3) := by decide +kernel
theorem dL_append_12 : decode cL_append 12 = .ok (.astore_n 3, 1) := by decide +kernel
theorem dL_append_13 : decode cL_append 13 = .ok (.iconst 1, 1) := by decide +kernel
theorem dL_append_14 : decode cL_append 14 = .ok (.ireturn, 1) := by decide +kernel
theorem dL_append_15 : decode cL_append 15 = .ok (.astore_n 3, 1) := by decide +kernel
theorem dL_append_16 : decode cL_append 16 = .ok (.iconst 2, 1) := by decide +kernel
theorem dL_append_17 : decode cL_append 17 = .ok (.ireturn, 1) := by decide +kernel
theorem dL_append_18 : decode cL_append 18 = .ok (.iconst 0, 1) := by decide +kernel
theorem dL_append_19 : decode cL_append 19 = .ok (.ireturn, 1) := by decide +kernel
theorem dL_undo_0 : decode cL_undo 0 = .ok (.aload_n 1, 1) := by decide +kernel
theorem dL_undo_1 : decode cL_undo 1 = .ok (.iconst 0, 1) := by decide +kernel
theorem dL_undo_2 : decode cL_undo 2 = .ok (.aload_n 0, 1) := by decide +kernel
theorem dL_undo_3 : decode cL_undo 3 = .ok (.invokevirtual 42, 3) := by decide +kernel
theorem dL_undo_6 : decode cL_undo 6 = .ok (.i2l, 1) := by decide +kernel
theorem dL_undo_7 : decode cL_undo 7 = .ok (.lastore, 1) := by decide +kernel
theorem dL_undo_8 : decode cL_undo 8 = .ok (.goto 6, 3) := by decide +kernel
theorem dL_undo_11 : decode cL_undo 11 = .ok (.astore_n 2, 1) := by decide +kernel
theorem dL_undo_12 : decode cL_undo 12 = .ok (.iconst 1, 1) := by decide +kernel
theorem dL_undo_13 : decode cL_undo 13 = .ok (.ireturn, 1) := by decide +kernel
theorem dL_undo_14 : decode cL_undo 14 = .ok (.iconst 0, 1) := by decide +kernel
theorem dL_undo_15 : decode cL_undo 15 = .ok (.ireturn, 1) := by decide +kernel
theorem dL_sign_0 : decode cL_sign 0 = .ok (.aload 4, 2) := by decide +kernel
theorem dL_sign_2 : decode cL_sign 2 = .ok (.iconst 0, 1) := by decide +kernel
theorem dL_sign_3 : decode cL_sign 3 = .ok (.aload_n 0, 1) := by decide +kernel
theorem dL_sign_4 : decode cL_sign 4 = .ok (.iload_n 1, 1) := by decide +kernel
theorem dL_sign_5 : decode cL_sign 5 = .ok (.iload_n 2, 1) := by decide +kernel
theorem dL_sign_6 : decode cL_sign 6 = .ok (.iload_n 3, 1) := by decide +kernel
theorem dL_sign_7 : decode cL_sign 7 = .ok (.invokevirtual 46, 3) := by decide +kernel
theorem dL_sign_10 : decode cL_sign 10 = .ok (.i2l, 1) := by decide +kernel
theorem dL_sign_11 : decode cL_sign 11 = .ok (.lastore, 1) := by decide +kernel
theorem dL_sign_12 : decode cL_sign 12 = .ok (.goto 11, 3) := by decide +kernel
theorem dL_sign_15 : decode cL_sign 15 = .ok (.astore 5, 2) := by decide +kernel
theorem dL_sign_17 : decode cL_sign 17 = .ok (.iconst 1, 1) := by decide +kernel
theorem dL_sign_18 : decode cL_sign 18 = .ok (.ireturn, 1) := by decide +kernel
theorem dL_sign_19 : decode cL_sign 19 = .ok (.astore 5, 2) := by decide +kernel
theorem dL_sign_21 : decode cL_sign 21 = .ok (.iconst 2, 1) := by decide +kernel
theorem dL_sign_22 : decode cL_sign 22 = .ok (.ireturn, 1) := by decide +kernel
theorem dL_sign_23 : decode cL_sign 23 = .ok (.iconst 0, 1) := by decide +kernel
theorem dL_sign_24 : decode cL_sign 24 = .ok (.ireturn, 1) := by decide +kernel
theorem dL_piece_0 : decode cL_piece 0 = .ok (.aload 4, 2) := by decide +kernel
theorem dL_piece_2 : decode cL_piece 2 = .ok (.iconst 0, 1) := by decide +kernel
theorem dL_piece_3 : decode cL_piece 3 = .ok (.aload_n 0, 1) := by decide +kernel
theorem dL_piece_4 : decode cL_piece 4 = .ok (.iload_n 1, 1) := by decide +kernel
theorem dL_piece_5 : decode cL_piece 5 = .ok (.iload_n 2, 1) := by decide +kernel
theorem dL_piece_6 : decode cL_piece 6 = .ok (.iload_n 3, 1) := by decide +kernel
theorem dL_piece_7 : decode cL_piece 7 = .ok (.invokevirtual 49, 3) := by decide +kernel
theorem dL_piece_10 : decode cL_piece 10 = .ok (.i2l, 1) := by decide +kernel
theorem dL_piece_11 : decode cL_piece 11 = .ok (.lastore, 1) := by decide +kernel
theorem dL_piece_12 : decode cL_piece 12 = .ok (.goto 11, 3) := by decide +kernel
theorem dL_piece_15 : decode cL_piece 15 = .ok (.astore 5, 2) := by decide +kernel
theorem dL_piece_17 : decode cL_piece 17 = .ok (.iconst 1, 1) := by decide +kernel
theorem dL_piece_18 : decode cL_piece 18 = .ok (.ireturn, 1) := by decide +kernel
theorem dL_piece_19 : decode cL_piece 19 = .ok (.astore 5, 2) := by decide +kernel
theorem dL_piece_21 : decode cL_piece 21 = .ok (.iconst 2, 1) := by decide +kernel
theorem dL_piece_22 : decode cL_piece 22 = .ok (.ireturn, 1) := by decide +kernel
theorem dL_piece_23 : decode cL_piece 23 = .ok (.iconst 0, 1) := by decide +kernel
theorem dL_piece_24 : decode cL_piece 24 = .ok (.ireturn, 1) := by decide +kernel
theorem dL_slot_0 : decode cL_slot 0 = .ok (.aload_n 3, 1) := by decide +kernel
theorem dL_slot_1 : decode cL_slot 1 = .ok (.iconst 0, 1) := by decide +kernel
theorem dL_slot_2 : decode cL_slot 2 = .ok (.aload_n 0, 1) := by decide +kernel
theorem dL_slot_3 : decode cL_slot 3 = .ok (.iload_n 1, 1) := by decide +kernel
theorem dL_slot_4 : decode cL_slot 4 = .ok (.iload_n 2, 1) := by decide +kernel
theorem dL_slot_5 : decode cL_slot 5 = .ok (.invokevirtual 52, 3) := by decide +kernel
theorem dL_slot_8 : decode cL_slot 8 = .ok (.i2l, 1) := by decide +kernel
theorem dL_slot_9 : decode cL_slot 9 = .ok (.lastore, 1) := by decide +kernel
theorem dL_slot_10 : decode cL_slot 10 = .ok (.goto 11, 3) := by decide +kernel
theorem dL_slot_13 : decode cL_slot 13 = .ok (.astore 4, 2) := by decide +kernel
theorem dL_slot_15 : decode cL_slot 15 = .ok (.iconst 1, 1) := by decide +kernel
theorem dL_slot_16 : decode cL_slot 16 = .ok (.ireturn, 1) := by decide +kernel
theorem dL_slot_17 : decode cL_slot 17 = .ok (.astore 4, 2) := by decide +kernel
theorem dL_slot_19 : decode cL_slot 19 = .ok (.iconst 2, 1) := by decide +kernel
theorem dL_slot_20 : decode cL_slot 20 = .ok (.ireturn, 1) := by decide +kernel
theorem dL_slot_21 : decode cL_slot 21 = .ok (.iconst 0, 1) := by decide +kernel
theorem dL_slot_22 : decode cL_slot 22 = .ok (.ireturn, 1) := by decide +kernel
theorem dL_text_0 : decode cL_text 0 = .ok (.aload_n 3, 1) := by decide +kernel
theorem dL_text_1 : decode cL_text 1 = .ok (.iconst 0, 1) := by decide +kernel
theorem dL_text_2 : decode cL_text 2 = .ok (.aload_n 0, 1) := by decide +kernel
theorem dL_text_3 : decode cL_text 3 = .ok (.iload_n 1, 1) := by decide +kernel
theorem dL_text_4 : decode cL_text 4 = .ok (.iload_n 2, 1) := by decide +kernel
theorem dL_text_5 : decode cL_text 5 = .ok (.invokevirtual 55, 3) := by decide +kernel
theorem dL_text_8 : decode cL_text 8 = .ok (.i2l, 1) := by decide +kernel
theorem dL_text_9 : decode cL_text 9 = .ok (.lastore, 1) := by decide +kernel
theorem dL_text_10 : decode cL_text 10 = .ok (.goto 11, 3) := by decide +kernel
theorem dL_text_13 : decode cL_text 13 = .ok (.astore 4, 2) := by decide +kernel
theorem dL_text_15 : decode cL_text 15 = .ok (.iconst 1, 1) := by decide +kernel
theorem dL_text_16 : decode cL_text 16 = .ok (.ireturn, 1) := by decide +kernel
theorem dL_text_17 : decode cL_text 17 = .ok (.astore 4, 2) := by decide +kernel
theorem dL_text_19 : decode cL_text 19 = .ok (.iconst 2, 1) := by decide +kernel
theorem dL_text_20 : decode cL_text 20 = .ok (.ireturn, 1) := by decide +kernel
theorem dL_text_21 : decode cL_text 21 = .ok (.iconst 0, 1) := by decide +kernel
theorem dL_text_22 : decode cL_text 22 = .ok (.ireturn, 1) := by decide +kernel
theorem dL_common_0 : decode cL_common 0 = .ok (.aload 4, 2) := by decide +kernel
theorem dL_common_2 : decode cL_common 2 = .ok (.iconst 0, 1) := by decide +kernel
theorem dL_common_3 : decode cL_common 3 = .ok (.aload_n 0, 1) := by decide +kernel
theorem dL_common_4 : decode cL_common 4 = .ok (.iload_n 1, 1) := by decide +kernel
theorem dL_common_5 : decode cL_common 5 = .ok (.iload_n 2, 1) := by decide +kernel
end
section
theorem dL_common_6 : decode cL_common 6 = .ok (.iload_n 3, 1) := by decide +kernel
theorem dL_common_7 : decode cL_common 7 = .ok (.invokevirtual 58, 3) := by decide +kernel
theorem dL_common_10 : decode cL_common 10 = .ok (.i2l, 1) := by decide +kernel
theorem dL_common_11 : decode cL_common 11 = .ok (.lastore, 1) := by decide +kernel
theorem dL_common_12 : decode cL_common 12 = .ok (.goto 11, 3) := by decide +kernel
theorem dL_common_15 : decode cL_common 15 = .ok (.astore 5, 2) := by decide +kernel
theorem dL_common_17 : decode cL_common 17 = .ok (.iconst 1, 1) := by decide +kernel
theorem dL_common_18 : decode cL_common 18 = .ok (.ireturn, 1) := by decide +kernel
theorem dL_common_19 : decode cL_common 19 = .ok (.astore 5, 2) := by decide +kernel
theorem dL_common_21 : decode cL_common 21 = .ok (.iconst 2, 1) := by decide +kernel
theorem dL_common_22 : decode cL_common 22 = .ok (.ireturn, 1) := by decide +kernel
theorem dL_common_23 : decode cL_common 23 = .ok (.iconst 0, 1) := by decide +kernel
theorem dL_common_24 : decode cL_common 24 = .ok (.ireturn, 1) := by decide +kernel
theorem dL_count_0 : decode cL_count 0 = .ok (.aload_n 2, 1) := by decide +kernel
theorem dL_count_1 : decode cL_count 1 = .ok (.iconst 0, 1) := by decide +kernel
theorem dL_count_2 : decode cL_count 2 = .ok (.aload_n 0, 1) := by decide +kernel
theorem dL_count_3 : decode cL_count 3 = .ok (.iload_n 1, 1) := by decide +kernel
theorem dL_count_4 : decode cL_count 4 = .ok (.invokevirtual 61, 3) := by decide +kernel
theorem dL_count_7 : decode cL_count 7 = .ok (.i2l, 1) := by decide +kernel
theorem dL_count_8 : decode cL_count 8 = .ok (.lastore, 1) := by decide +kernel
theorem dL_count_9 : decode cL_count 9 = .ok (.goto 6, 3) := by decide +kernel
theorem dL_count_12 : decode cL_count 12 = .ok (.astore_n 3, 1) := by decide +kernel
theorem dL_count_13 : decode cL_count 13 = .ok (.iconst 1, 1) := by decide +kernel
theorem dL_count_14 : decode cL_count 14 = .ok (.ireturn, 1) := by decide +kernel
theorem dL_count_15 : decode cL_count 15 = .ok (.iconst 0, 1) := by decide +kernel
theorem dL_count_16 : decode cL_count 16 = .ok (.ireturn, 1) := by decide +kernel
theorem dL_setting_0 : decode cL_setting 0 = .ok (.aload_n 2, 1) := by decide +kernel
theorem dL_setting_1 : decode cL_setting 1 = .ok (.iconst 0, 1) := by decide +kernel
theorem dL_setting_2 : decode cL_setting 2 = .ok (.aload_n 0, 1) := by decide +kernel
theorem dL_setting_3 : decode cL_setting 3 = .ok (.iload_n 1, 1) := by decide +kernel
theorem dL_setting_4 : decode cL_setting 4 = .ok (.invokevirtual 64, 3) := by decide +kernel
theorem dL_setting_7 : decode cL_setting 7 = .ok (.i2l, 1) := by decide +kernel
theorem dL_setting_8 : decode cL_setting 8 = .ok (.lastore, 1) := by decide +kernel
theorem dL_setting_9 : decode cL_setting 9 = .ok (.goto 6, 3) := by decide +kernel
theorem dL_setting_12 : decode cL_setting 12 = .ok (.astore_n 3, 1) := by decide +kernel
theorem dL_setting_13 : decode cL_setting 13 = .ok (.iconst 1, 1) := by decide +kernel
theorem dL_setting_14 : decode cL_setting 14 = .ok (.ireturn, 1) := by decide +kernel
theorem dL_setting_15 : decode cL_setting 15 = .ok (.iconst 0, 1) := by decide +kernel
theorem dL_setting_16 : decode cL_setting 16 = .ok (.ireturn, 1) := by decide +kernel
theorem dL_ifPut_0 : decode cL_ifPut 0 = .ok (.aload_n 3, 1) := by decide +kernel
theorem dL_ifPut_1 : decode cL_ifPut 1 = .ok (.iconst 0, 1) := by decide +kernel
theorem dL_ifPut_2 : decode cL_ifPut 2 = .ok (.aload_n 0, 1) := by decide +kernel
theorem dL_ifPut_3 : decode cL_ifPut 3 = .ok (.iload_n 1, 1) := by decide +kernel
theorem dL_ifPut_4 : decode cL_ifPut 4 = .ok (.iload_n 2, 1) := by decide +kernel
theorem dL_ifPut_5 : decode cL_ifPut 5 = .ok (.invokevirtual 67, 3) := by decide +kernel
theorem dL_ifPut_8 : decode cL_ifPut 8 = .ok (.i2l, 1) := by decide +kernel
theorem dL_ifPut_9 : decode cL_ifPut 9 = .ok (.lastore, 1) := by decide +kernel
theorem dL_ifPut_10 : decode cL_ifPut 10 = .ok (.goto 11, 3) := by decide +kernel
theorem dL_ifPut_13 : decode cL_ifPut 13 = .ok (.astore 4, 2) := by decide +kernel
theorem dL_ifPut_15 : decode cL_ifPut 15 = .ok (.iconst 1, 1) := by decide +kernel
theorem dL_ifPut_16 : decode cL_ifPut 16 = .ok (.ireturn, 1) := by decide +kernel
theorem dL_ifPut_17 : decode cL_ifPut 17 = .ok (.astore 4, 2) := by decide +kernel
theorem dL_ifPut_19 : decode cL_ifPut 19 = .ok (.iconst 2, 1) := by decide +kernel
theorem dL_ifPut_20 : decode cL_ifPut 20 = .ok (.ireturn, 1) := by decide +kernel
theorem dL_ifPut_21 : decode cL_ifPut 21 = .ok (.iconst 0, 1) := by decide +kernel
theorem dL_ifPut_22 : decode cL_ifPut 22 = .ok (.ireturn, 1) := by decide +kernel
theorem dL_ifSet_0 : decode cL_ifSet 0 = .ok (.aload 4, 2) := by decide +kernel
theorem dL_ifSet_2 : decode cL_ifSet 2 = .ok (.iconst 0, 1) := by decide +kernel
theorem dL_ifSet_3 : decode cL_ifSet 3 = .ok (.aload_n 0, 1) := by decide +kernel
theorem dL_ifSet_4 : decode cL_ifSet 4 = .ok (.iload_n 1, 1) := by decide +kernel
theorem dL_ifSet_5 : decode cL_ifSet 5 = .ok (.iload_n 2, 1) := by decide +kernel
theorem dL_ifSet_6 : decode cL_ifSet 6 = .ok (.iload_n 3, 1) := by decide +kernel
theorem dL_ifSet_7 : decode cL_ifSet 7 = .ok (.invokevirtual 70, 3) := by decide +kernel
theorem dL_ifSet_10 : decode cL_ifSet 10 = .ok (.i2l, 1) := by decide +kernel
theorem dL_ifSet_11 : decode cL_ifSet 11 = .ok (.lastore, 1) := by decide +kernel
theorem dL_ifSet_12 : decode cL_ifSet 12 = .ok (.goto 11, 3) := by decide +kernel
theorem dL_ifSet_15 : decode cL_ifSet 15 = .ok (.astore 5, 2) := by decide +kernel
theorem dL_ifSet_17 : decode cL_ifSet 17 = .ok (.iconst 1, 1) := by decide +kernel
theorem dL_ifSet_18 : decode cL_ifSet 18 = .ok (.ireturn, 1) := by decide +kernel
theorem dL_ifSet_19 : decode cL_ifSet 19 = .ok (.astore 5, 2) := by decide +kernel
theorem dL_ifSet_21 : decode cL_ifSet 21 = .ok (.iconst 2, 1) := by decide +kernel
theorem dL_ifSet_22 : decode cL_ifSet 22 = .ok (.ireturn, 1) := by decide +kernel
theorem dL_ifSet_23 : decode cL_ifSet 23 = .ok (.iconst 0, 1) := by decide +kernel
theorem dL_ifSet_24 : decode cL_ifSet 24 = .ok (.ireturn, 1) := by decide +kernel
theorem dL_law_0 : decode cL_law 0 = .ok (.new 8, 3) := by decide +kernel
theorem dL_law_3 : decode cL_law 3 = .ok (.dup, 1) := by decide +kernel
theorem dL_law_4 : decode cL_law 4 = .ok (.invokespecial 73, 3) := by decide +kernel
theorem dL_law_7 : decode cL_law 7 = .ok (.astore_n 1, 1) := by decide +kernel
theorem dL_law_8 : decode cL_law 8 = .ok (.new 74, 3) := by decide +kernel
theorem dL_law_11 : decode cL_law 11 = .ok (.dup, 1) := by decide +kernel
theorem dL_law_12 : decode cL_law 12 = .ok (.invokespecial 76, 3) := by decide +kernel
theorem dL_law_15 : decode cL_law 15 = .ok (.astore_n 2, 1) := by decide +kernel
theorem dL_law_16 : decode cL_law 16 = .ok (.iconst 1, 1) := by decide +kernel
theorem dL_law_17 : decode cL_law 17 = .ok (.newarray .long, 2) := by decide +kernel
theorem dL_law_19 : decode cL_law 19 = .ok (.astore_n 3, 1) := by decide +kernel
theorem dL_law_20 : decode cL_law 20 = .ok (.iconst 0, 1) := by decide +kernel
theorem dL_law_21 : decode cL_law 21 = .ok (.istore 4, 2) := by decide +kernel
theorem dL_law_23 : decode cL_law 23 = .ok (.iload 4, 2) := by decide +kernel
theorem dL_law_25 : decode cL_law 25 = .ok (.aload_n 0, 1) := by decide +kernel
theorem dL_law_26 : decode cL_law 26 = .ok (.arraylength, 1) := by decide +kernel
theorem dL_law_27 : decode cL_law 27 = .ok (.iconst 4, 1) := by decide +kernel
theorem dL_law_28 : decode cL_law 28 = .ok (.isub, 1) := by decide +kernel
theorem dL_law_29 : decode cL_law 29 = .ok (.if_icmp .gt 1432, 3) := by decide +kernel
theorem dL_law_32 : decode cL_law 32 = .ok (.aload_n 0, 1) := by decide +kernel
theorem dL_law_33 : decode cL_law 33 = .ok (.iload 4, 2) := by decide +kernel
theorem dL_law_35 : decode cL_law 35 = .ok (.iaload, 1) := by decide +kernel
theorem dL_law_36 : decode cL_law 36 = .ok (.bipush 31, 2) := by decide +kernel
theorem dL_law_38 : decode cL_law 38 = .ok (.iand, 1) := by decide +kernel
theorem dL_law_39 : decode cL_law 39 = .ok (.tableswitch 1416 0 23 #[109, 165, 233, 313, 381, 449, 505, 518, 586, 642, 655, 668, 712, 792, 872, 940, 1008, 1088, 1144, 1200, 1268, 1348, 1361, 1402], 109) := by decide +kernel
theorem dL_law_148 : decode cL_law 148 = .ok (.aload_n 1, 1) := by decide +kernel
theorem dL_law_149 : decode cL_law 149 = .ok (.aload_n 0, 1) := by decide +kernel
theorem dL_law_150 : decode cL_law 150 = .ok (.iload 4, 2) := by decide +kernel
theorem dL_law_152 : decode cL_law 152 = .ok (.iconst 1, 1) := by decide +kernel
theorem dL_law_153 : decode cL_law 153 = .ok (.iadd, 1) := by decide +kernel
theorem dL_law_154 : decode cL_law 154 = .ok (.iaload, 1) := by decide +kernel
theorem dL_law_155 : decode cL_law 155 = .ok (.aload_n 3, 1) := by decide +kernel
theorem dL_law_156 : decode cL_law 156 = .ok (.invokestatic 77, 3) := by decide +kernel
theorem dL_law_159 : decode cL_law 159 = .ok (.istore 5, 2) := by decide +kernel
theorem dL_law_161 : decode cL_law 161 = .ok (.aload_n 2, 1) := by decide +kernel
theorem dL_law_162 : decode cL_law 162 = .ok (.aload_n 0, 1) := by decide +kernel
theorem dL_law_163 : decode cL_law 163 = .ok (.iload 4, 2) := by decide +kernel
theorem dL_law_165 : decode cL_law 165 = .ok (.iconst 1, 1) := by decide +kernel
theorem dL_law_166 : decode cL_law 166 = .ok (.iadd, 1) := by decide +kernel
theorem dL_law_167 : decode cL_law 167 = .ok (.iaload, 1) := by decide +kernel
theorem dL_law_168 : decode cL_law 168 = .ok (.invokevirtual 82, 3) := by decide +kernel
theorem dL_law_171 : decode cL_law 171 = .ok (.istore 6, 2) := by decide +kernel
theorem dL_law_173 : decode cL_law 173 = .ok (.aload_n 2, 1) := by decide +kernel
theorem dL_law_174 : decode cL_law 174 = .ok (.invokevirtual 83, 3) := by decide +kernel
theorem dL_law_177 : decode cL_law 177 = .ok (.iload 5, 2) := by decide +kernel
theorem dL_law_179 : decode cL_law 179 = .ok (.if_icmp .eq 5, 3) := by decide +kernel
theorem dL_law_182 : decode cL_law 182 = .ok (.iconst 0, 1) := by decide +kernel
theorem dL_law_183 : decode cL_law 183 = .ok (.ireturn, 1) := by decide +kernel
theorem dL_law_184 : decode cL_law 184 = .ok (.iload 5, 2) := by decide +kernel
theorem dL_law_186 : decode cL_law 186 = .ok (.ifCond .ne 15, 3) := by decide +kernel
theorem dL_law_189 : decode cL_law 189 = .ok (.aload_n 3, 1) := by decide +kernel
theorem dL_law_190 : decode cL_law 190 = .ok (.iconst 0, 1) := by decide +kernel
theorem dL_law_191 : decode cL_law 191 = .ok (.laload, 1) := by decide +kernel
theorem dL_law_192 : decode cL_law 192 = .ok (.iload 6, 2) := by decide +kernel
theorem dL_law_194 : decode cL_law 194 = .ok (.i2l, 1) := by decide +kernel
theorem dL_law_195 : decode cL_law 195 = .ok (.lcmp, 1) := by decide +kernel
theorem dL_law_196 : decode cL_law 196 = .ok (.ifCond .eq 5, 3) := by decide +kernel
theorem dL_law_199 : decode cL_law 199 = .ok (.iconst 0, 1) := by decide +kernel
theorem dL_law_200 : decode cL_law 200 = .ok (.ireturn, 1) := by decide +kernel
theorem dL_law_201 : decode cL_law 201 = .ok (.goto 1254, 3) := by decide +kernel
theorem dL_law_204 : decode cL_law 204 = .ok (.aload_n 1, 1) := by decide +kernel
theorem dL_law_205 : decode cL_law 205 = .ok (.aload_n 0, 1) := by decide +kernel
theorem dL_law_206 : decode cL_law 206 = .ok (.iload 4, 2) := by decide +kernel
theorem dL_law_208 : decode cL_law 208 = .ok (.iconst 1, 1) := by decide +kernel
theorem dL_law_209 : decode cL_law 209 = .ok (.iadd, 1) := by decide +kernel
theorem dL_law_210 : decode cL_law 210 = .ok (.iaload, 1) := by decide +kernel
theorem dL_law_211 : decode cL_law 211 = .ok (.aload_n 0, 1) := by decide +kernel
theorem dL_law_212 : decode cL_law 212 = .ok (.iload 4, 2) := by decide +kernel
theorem dL_law_214 : decode cL_law 214 = .ok (.iconst 2, 1) := by decide +kernel
theorem dL_law_215 : decode cL_law 215 = .ok (.iadd, 1) := by decide +kernel
theorem dL_law_216 : decode cL_law 216 = .ok (.iaload, 1) := by decide +kernel
theorem dL_law_217 : decode cL_law 217 = .ok (.aload_n 3, 1) := by decide +kernel
theorem dL_law_218 : decode cL_law 218 = .ok (.invokestatic 86, 3) := by decide +kernel
theorem dL_law_221 : decode cL_law 221 = .ok (.istore 5, 2) := by decide +kernel
theorem dL_law_223 : decode cL_law 223 = .ok (.aload_n 2, 1) := by decide +kernel
theorem dL_law_224 : decode cL_law 224 = .ok (.aload_n 0, 1) := by decide +kernel
theorem dL_law_225 : decode cL_law 225 = .ok (.iload 4, 2) := by decide +kernel
theorem dL_law_227 : decode cL_law 227 = .ok (.iconst 1, 1) := by decide +kernel
theorem dL_law_228 : decode cL_law 228 = .ok (.iadd, 1) := by decide +kernel
theorem dL_law_229 : decode cL_law 229 = .ok (.iaload, 1) := by decide +kernel
theorem dL_law_230 : decode cL_law 230 = .ok (.aload_n 0, 1) := by decide +kernel
theorem dL_law_231 : decode cL_law 231 = .ok (.iload 4, 2) := by decide +kernel
theorem dL_law_233 : decode cL_law 233 = .ok (.iconst 2, 1) := by decide +kernel
theorem dL_law_234 : decode cL_law 234 = .ok (.iadd, 1) := by decide +kernel
theorem dL_law_235 : decode cL_law 235 = .ok (.iaload, 1) := by decide +kernel
theorem dL_law_236 : decode cL_law 236 = .ok (.invokevirtual 89, 3) := by decide +kernel
theorem dL_law_239 : decode cL_law 239 = .ok (.istore 6, 2) := by decide +kernel
theorem dL_law_241 : decode cL_law 241 = .ok (.aload_n 2, 1) := by decide +kernel
theorem dL_law_242 : decode cL_law 242 = .ok (.invokevirtual 83, 3) := by decide +kernel
theorem dL_law_245 : decode cL_law 245 = .ok (.iload 5, 2) := by decide +kernel
theorem dL_law_247 : decode cL_law 247 = .ok (.if_icmp .eq 5, 3) := by decide +kernel
theorem dL_law_250 : decode cL_law 250 = .ok (.iconst 0, 1) := by decide +kernel
theorem dL_law_251 : decode cL_law 251 = .ok (.ireturn, 1) := by decide +kernel
theorem dL_law_252 : decode cL_law 252 = .ok (.iload 5, 2) := by decide +kernel
theorem dL_law_254 : decode cL_law 254 = .ok (.ifCond .ne 15, 3) := by decide +kernel
theorem dL_law_257 : decode cL_law 257 = .ok (.aload_n 3, 1) := by decide +kernel
theorem dL_law_258 : decode cL_law 258 = .ok (.iconst 0, 1) := by decide +kernel
theorem dL_law_259 : decode cL_law 259 = .ok (.laload, 1) := by decide +kernel
theorem dL_law_260 : decode cL_law 260 = .ok (.iload 6, 2) := by decide +kernel
theorem dL_law_262 : decode cL_law 262 = .ok (.i2l, 1) := by decide +kernel
theorem dL_law_263 : decode cL_law 263 = .ok (.lcmp, 1) := by decide +kernel
theorem dL_law_264 : decode cL_law 264 = .ok (.ifCond .eq 5, 3) := by decide +kernel
theorem dL_law_267 : decode cL_law 267 = .ok (.iconst 0, 1) := by decide +kernel
theorem dL_law_268 : decode cL_law 268 = .ok (.ireturn, 1) := by decide +kernel
theorem dL_law_269 : decode cL_law 269 = .ok (.goto 1186, 3) := by decide +kernel
theorem dL_law_272 : decode cL_law 272 = .ok (.aload_n 1, 1) := by decide +kernel
theorem dL_law_273 : decode cL_law 273 = .ok (.aload_n 0, 1) := by decide +kernel
theorem dL_law_274 : decode cL_law 274 = .ok (.iload 4, 2) := by decide +kernel
theorem dL_law_276 : decode cL_law 276 = .ok (.iconst 1, 1) := by decide +kernel
theorem dL_law_277 : decode cL_law 277 = .ok (.iadd, 1) := by decide +kernel
theorem dL_law_278 : decode cL_law 278 = .ok (.iaload, 1) := by decide +kernel
theorem dL_law_279 : decode cL_law 279 = .ok (.aload_n 0, 1) := by decide +kernel
theorem dL_law_280 : decode cL_law 280 = .ok (.iload 4, 2) := by decide +kernel
theorem dL_law_282 : decode cL_law 282 = .ok (.iconst 2, 1) := by decide +kernel
theorem dL_law_283 : decode cL_law 283 = .ok (.iadd, 1) := by decide +kernel
theorem dL_law_284 : decode cL_law 284 = .ok (.iaload, 1) := by decide +kernel
theorem dL_law_285 : decode cL_law 285 = .ok (.aload_n 0, 1) := by decide +kernel
theorem dL_law_286 : decode cL_law 286 = .ok (.iload 4, 2) := by decide +kernel
theorem dL_law_288 : decode cL_law 288 = .ok (.iconst 3, 1) := by decide +kernel
theorem dL_law_289 : decode cL_law 289 = .ok (.iadd, 1) := by decide +kernel
theorem dL_law_290 : decode cL_law 290 = .ok (.iaload, 1) := by decide +kernel
theorem dL_law_291 : decode cL_law 291 = .ok (.aload_n 3, 1) := by decide +kernel
theorem dL_law_292 : decode cL_law 292 = .ok (.invokestatic 90, 3) := by decide +kernel
theorem dL_law_295 : decode cL_law 295 = .ok (.istore 5, 2) := by decide +kernel
theorem dL_law_297 : decode cL_law 297 = .ok (.aload_n 2, 1) := by decide +kernel
theorem dL_law_298 : decode cL_law 298 = .ok (.aload_n 0, 1) := by decide +kernel
theorem dL_law_299 : decode cL_law 299 = .ok (.iload 4, 2) := by decide +kernel
theorem dL_law_301 : decode cL_law 301 = .ok (.iconst 1, 1) := by decide +kernel
theorem dL_law_302 : decode cL_law 302 = .ok (.iadd, 1) := by decide +kernel
theorem dL_law_303 : decode cL_law 303 = .ok (.iaload, 1) := by decide +kernel
theorem dL_law_304 : decode cL_law 304 = .ok (.aload_n 0, 1) := by decide +kernel
theorem dL_law_305 : decode cL_law 305 = .ok (.iload 4, 2) := by decide +kernel
theorem dL_law_307 : decode cL_law 307 = .ok (.iconst 2, 1) := by decide +kernel
theorem dL_law_308 : decode cL_law 308 = .ok (.iadd, 1) := by decide +kernel
theorem dL_law_309 : decode cL_law 309 = .ok (.iaload, 1) := by decide +kernel
theorem dL_law_310 : decode cL_law 310 = .ok (.aload_n 0, 1) := by decide +kernel
theorem dL_law_311 : decode cL_law 311 = .ok (.iload 4, 2) := by decide +kernel
theorem dL_law_313 : decode cL_law 313 = .ok (.iconst 3, 1) := by decide +kernel
theorem dL_law_314 : decode cL_law 314 = .ok (.iadd, 1) := by decide +kernel
theorem dL_law_315 : decode cL_law 315 = .ok (.iaload, 1) := by decide +kernel
theorem dL_law_316 : decode cL_law 316 = .ok (.invokevirtual 93, 3) := by decide +kernel
theorem dL_law_319 : decode cL_law 319 = .ok (.istore 6, 2) := by decide +kernel
theorem dL_law_321 : decode cL_law 321 = .ok (.aload_n 2, 1) := by decide +kernel
theorem dL_law_322 : decode cL_law 322 = .ok (.invokevirtual 83, 3) := by decide +kernel
theorem dL_law_325 : decode cL_law 325 = .ok (.iload 5, 2) := by decide +kernel
theorem dL_law_327 : decode cL_law 327 = .ok (.if_icmp .eq 5, 3) := by decide +kernel
theorem dL_law_330 : decode cL_law 330 = .ok (.iconst 0, 1) := by decide +kernel
theorem dL_law_331 : decode cL_law 331 = .ok (.ireturn, 1) := by decide +kernel
theorem dL_law_332 : decode cL_law 332 = .ok (.iload 5, 2) := by decide +kernel
theorem dL_law_334 : decode cL_law 334 = .ok (.ifCond .ne 15, 3) := by decide +kernel
theorem dL_law_337 : decode cL_law 337 = .ok (.aload_n 3, 1) := by decide +kernel
theorem dL_law_338 : decode cL_law 338 = .ok (.iconst 0, 1) := by decide +kernel
theorem dL_law_339 : decode cL_law 339 = .ok (.laload, 1) := by decide +kernel
theorem dL_law_340 : decode cL_law 340 = .ok (.iload 6, 2) := by decide +kernel
theorem dL_law_342 : decode cL_law 342 = .ok (.i2l, 1) := by decide +kernel
theorem dL_law_343 : decode cL_law 343 = .ok (.lcmp, 1) := by decide +kernel
theorem dL_law_344 : decode cL_law 344 = .ok (.ifCond .eq 5, 3) := by decide +kernel
theorem dL_law_347 : decode cL_law 347 = .ok (.iconst 0, 1) := by decide +kernel
theorem dL_law_348 : decode cL_law 348 = .ok (.ireturn, 1) := by decide +kernel
theorem dL_law_349 : decode cL_law 349 = .ok (.goto 1106, 3) := by decide +kernel
theorem dL_law_352 : decode cL_law 352 = .ok (.aload_n 1, 1) := by decide +kernel
theorem dL_law_353 : decode cL_law 353 = .ok (.aload_n 0, 1) := by decide +kernel
theorem dL_law_354 : decode cL_law 354 = .ok (.iload 4, 2) := by decide +kernel
theorem dL_law_356 : decode cL_law 356 = .ok (.iconst 1, 1) := by decide +kernel
theorem dL_law_357 : decode cL_law 357 = .ok (.iadd, 1) := by decide +kernel
theorem dL_law_358 : decode cL_law 358 = .ok (.iaload, 1) := by decide +kernel
theorem dL_law_359 : decode cL_law 359 = .ok (.aload_n 0, 1) := by decide +kernel
theorem dL_law_360 : decode cL_law 360 = .ok (.iload 4, 2) := by decide +kernel
theorem dL_law_362 : decode cL_law 362 = .ok (.iconst 2, 1) := by decide +kernel
theorem dL_law_363 : decode cL_law 363 = .ok (.iadd, 1) := by decide +kernel
theorem dL_law_364 : decode cL_law 364 = .ok (.iaload, 1) := by decide +kernel
theorem dL_law_365 : decode cL_law 365 = .ok (.aload_n 3, 1) := by decide +kernel
theorem dL_law_366 : decode cL_law 366 = .ok (.invokestatic 94, 3) := by decide +kernel
theorem dL_law_369 : decode cL_law 369 = .ok (.istore 5, 2) := by decide +kernel
theorem dL_law_371 : decode cL_law 371 = .ok (.aload_n 2, 1) := by decide +kernel
theorem dL_law_372 : decode cL_law 372 = .ok (.aload_n 0, 1) := by decide +kernel
theorem dL_law_373 : decode cL_law 373 = .ok (.iload 4, 2) := by decide +kernel
theorem dL_law_375 : decode cL_law 375 = .ok (.iconst 1, 1) := by decide +kernel
theorem dL_law_376 : decode cL_law 376 = .ok (.iadd, 1) := by decide +kernel
theorem dL_law_377 : decode cL_law 377 = .ok (.iaload, 1) := by decide +kernel
theorem dL_law_378 : decode cL_law 378 = .ok (.aload_n 0, 1) := by decide +kernel
theorem dL_law_379 : decode cL_law 379 = .ok (.iload 4, 2) := by decide +kernel
theorem dL_law_381 : decode cL_law 381 = .ok (.iconst 2, 1) := by decide +kernel
theorem dL_law_382 : decode cL_law 382 = .ok (.iadd, 1) := by decide +kernel
theorem dL_law_383 : decode cL_law 383 = .ok (.iaload, 1) := by decide +kernel
theorem dL_law_384 : decode cL_law 384 = .ok (.invokevirtual 96, 3) := by decide +kernel
theorem dL_law_387 : decode cL_law 387 = .ok (.istore 6, 2) := by decide +kernel
theorem dL_law_389 : decode cL_law 389 = .ok (.aload_n 2, 1) := by decide +kernel
theorem dL_law_390 : decode cL_law 390 = .ok (.invokevirtual 83, 3) := by decide +kernel
theorem dL_law_393 : decode cL_law 393 = .ok (.iload 5, 2) := by decide +kernel
theorem dL_law_395 : decode cL_law 395 = .ok (.if_icmp .eq 5, 3) := by decide +kernel
theorem dL_law_398 : decode cL_law 398 = .ok (.iconst 0, 1) := by decide +kernel
theorem dL_law_399 : decode cL_law 399 = .ok (.ireturn, 1) := by decide +kernel
theorem dL_law_400 : decode cL_law 400 = .ok (.iload 5, 2) := by decide +kernel
theorem dL_law_402 : decode cL_law 402 = .ok (.ifCond .ne 15, 3) := by decide +kernel
theorem dL_law_405 : decode cL_law 405 = .ok (.aload_n 3, 1) := by decide +kernel
theorem dL_law_406 : decode cL_law 406 = .ok (.iconst 0, 1) := by decide +kernel
theorem dL_law_407 : decode cL_law 407 = .ok (.laload, 1) := by decide +kernel
theorem dL_law_408 : decode cL_law 408 = .ok (.iload 6, 2) := by decide +kernel
theorem dL_law_410 : decode cL_law 410 = .ok (.i2l, 1) := by decide +kernel
theorem dL_law_411 : decode cL_law 411 = .ok (.lcmp, 1) := by decide +kernel
theorem dL_law_412 : decode cL_law 412 = .ok (.ifCond .eq 5, 3) := by decide +kernel
theorem dL_law_415 : decode cL_law 415 = .ok (.iconst 0, 1) := by decide +kernel
theorem dL_law_416 : decode cL_law 416 = .ok (.ireturn, 1) := by decide +kernel
theorem dL_law_417 : decode cL_law 417 = .ok (.goto 1038, 3) := by decide +kernel
theorem dL_law_420 : decode cL_law 420 = .ok (.aload_n 1, 1) := by decide +kernel
theorem dL_law_421 : decode cL_law 421 = .ok (.aload_n 0, 1) := by decide +kernel
theorem dL_law_422 : decode cL_law 422 = .ok (.iload 4, 2) := by decide +kernel
theorem dL_law_424 : decode cL_law 424 = .ok (.iconst 1, 1) := by decide +kernel
theorem dL_law_425 : decode cL_law 425 = .ok (.iadd, 1) := by decide +kernel
theorem dL_law_426 : decode cL_law 426 = .ok (.iaload, 1) := by decide +kernel
theorem dL_law_427 : decode cL_law 427 = .ok (.aload_n 0, 1) := by decide +kernel
theorem dL_law_428 : decode cL_law 428 = .ok (.iload 4, 2) := by decide +kernel
theorem dL_law_430 : decode cL_law 430 = .ok (.iconst 2, 1) := by decide +kernel
theorem dL_law_431 : decode cL_law 431 = .ok (.iadd, 1) := by decide +kernel
theorem dL_law_432 : decode cL_law 432 = .ok (.iaload, 1) := by decide +kernel
theorem dL_law_433 : decode cL_law 433 = .ok (.aload_n 3, 1) := by decide +kernel
theorem dL_law_434 : decode cL_law 434 = .ok (.invokestatic 97, 3) := by decide +kernel
theorem dL_law_437 : decode cL_law 437 = .ok (.istore 5, 2) := by decide +kernel
theorem dL_law_439 : decode cL_law 439 = .ok (.aload_n 2, 1) := by decide +kernel
theorem dL_law_440 : decode cL_law 440 = .ok (.aload_n 0, 1) := by decide +kernel
theorem dL_law_441 : decode cL_law 441 = .ok (.iload 4, 2) := by decide +kernel
theorem dL_law_443 : decode cL_law 443 = .ok (.iconst 1, 1) := by decide +kernel
theorem dL_law_444 : decode cL_law 444 = .ok (.iadd, 1) := by decide +kernel
theorem dL_law_445 : decode cL_law 445 = .ok (.iaload, 1) := by decide +kernel
theorem dL_law_446 : decode cL_law 446 = .ok (.aload_n 0, 1) := by decide +kernel
theorem dL_law_447 : decode cL_law 447 = .ok (.iload 4, 2) := by decide +kernel
theorem dL_law_449 : decode cL_law 449 = .ok (.iconst 2, 1) := by decide +kernel
theorem dL_law_450 : decode cL_law 450 = .ok (.iadd, 1) := by decide +kernel
theorem dL_law_451 : decode cL_law 451 = .ok (.iaload, 1) := by decide +kernel
theorem dL_law_452 : decode cL_law 452 = .ok (.invokevirtual 99, 3) := by decide +kernel
theorem dL_law_455 : decode cL_law 455 = .ok (.istore 6, 2) := by decide +kernel
theorem dL_law_457 : decode cL_law 457 = .ok (.aload_n 2, 1) := by decide +kernel
theorem dL_law_458 : decode cL_law 458 = .ok (.invokevirtual 83, 3) := by decide +kernel
theorem dL_law_461 : decode cL_law 461 = .ok (.iload 5, 2) := by decide +kernel
theorem dL_law_463 : decode cL_law 463 = .ok (.if_icmp .eq 5, 3) := by decide +kernel
theorem dL_law_466 : decode cL_law 466 = .ok (.iconst 0, 1) := by decide +kernel
theorem dL_law_467 : decode cL_law 467 = .ok (.ireturn, 1) := by decide +kernel
theorem dL_law_468 : decode cL_law 468 = .ok (.iload 5, 2) := by decide +kernel
theorem dL_law_470 : decode cL_law 470 = .ok (.ifCond .ne 15, 3) := by decide +kernel
theorem dL_law_473 : decode cL_law 473 = .ok (.aload_n 3, 1) := by decide +kernel
theorem dL_law_474 : decode cL_law 474 = .ok (.iconst 0, 1) := by decide +kernel
theorem dL_law_475 : decode cL_law 475 = .ok (.laload, 1) := by decide +kernel
theorem dL_law_476 : decode cL_law 476 = .ok (.iload 6, 2) := by decide +kernel
theorem dL_law_478 : decode cL_law 478 = .ok (.i2l, 1) := by decide +kernel
theorem dL_law_479 : decode cL_law 479 = .ok (.lcmp, 1) := by decide +kernel
theorem dL_law_480 : decode cL_law 480 = .ok (.ifCond .eq 5, 3) := by decide +kernel
theorem dL_law_483 : decode cL_law 483 = .ok (.iconst 0, 1) := by decide +kernel
theorem dL_law_484 : decode cL_law 484 = .ok (.ireturn, 1) := by decide +kernel
theorem dL_law_485 : decode cL_law 485 = .ok (.goto 970, 3) := by decide +kernel
theorem dL_law_488 : decode cL_law 488 = .ok (.aload_n 1, 1) := by decide +kernel
theorem dL_law_489 : decode cL_law 489 = .ok (.aload_n 0, 1) := by decide +kernel
theorem dL_law_490 : decode cL_law 490 = .ok (.iload 4, 2) := by decide +kernel
theorem dL_law_492 : decode cL_law 492 = .ok (.iconst 1, 1) := by decide +kernel
theorem dL_law_493 : decode cL_law 493 = .ok (.iadd, 1) := by decide +kernel
theorem dL_law_494 : decode cL_law 494 = .ok (.iaload, 1) := by decide +kernel
theorem dL_law_495 : decode cL_law 495 = .ok (.aload_n 3, 1) := by decide +kernel
theorem dL_law_496 : decode cL_law 496 = .ok (.invokestatic 100, 3) := by decide +kernel
theorem dL_law_499 : decode cL_law 499 = .ok (.istore 5, 2) := by decide +kernel
theorem dL_law_501 : decode cL_law 501 = .ok (.aload_n 2, 1) := by decide +kernel
theorem dL_law_502 : decode cL_law 502 = .ok (.aload_n 0, 1) := by decide +kernel
theorem dL_law_503 : decode cL_law 503 = .ok (.iload 4, 2) := by decide +kernel
theorem dL_law_505 : decode cL_law 505 = .ok (.iconst 1, 1) := by decide +kernel
theorem dL_law_506 : decode cL_law 506 = .ok (.iadd, 1) := by decide +kernel
theorem dL_law_507 : decode cL_law 507 = .ok (.iaload, 1) := by decide +kernel
theorem dL_law_508 : decode cL_law 508 = .ok (.invokevirtual 102, 3) := by decide +kernel
theorem dL_law_511 : decode cL_law 511 = .ok (.istore 6, 2) := by decide +kernel
theorem dL_law_513 : decode cL_law 513 = .ok (.aload_n 2, 1) := by decide +kernel
theorem dL_law_514 : decode cL_law 514 = .ok (.invokevirtual 83, 3) := by decide +kernel
theorem dL_law_517 : decode cL_law 517 = .ok (.iload 5, 2) := by decide +kernel
theorem dL_law_519 : decode cL_law 519 = .ok (.if_icmp .eq 5, 3) := by decide +kernel
theorem dL_law_522 : decode cL_law 522 = .ok (.iconst 0, 1) := by decide +kernel
theorem dL_law_523 : decode cL_law 523 = .ok (.ireturn, 1) := by decide +kernel
theorem dL_law_524 : decode cL_law 524 = .ok (.iload 5, 2) := by decide +kernel
theorem dL_law_526 : decode cL_law 526 = .ok (.ifCond .ne 15, 3) := by decide +kernel
theorem dL_law_529 : decode cL_law 529 = .ok (.aload_n 3, 1) := by decide +kernel
theorem dL_law_530 : decode cL_law 530 = .ok (.iconst 0, 1) := by decide +kernel
theorem dL_law_531 : decode cL_law 531 = .ok (.laload, 1) := by decide +kernel
theorem dL_law_532 : decode cL_law 532 = .ok (.iload 6, 2) := by decide +kernel
theorem dL_law_534 : decode cL_law 534 = .ok (.i2l, 1) := by decide +kernel
theorem dL_law_535 : decode cL_law 535 = .ok (.lcmp, 1) := by decide +kernel
theorem dL_law_536 : decode cL_law 536 = .ok (.ifCond .eq 5, 3) := by decide +kernel
theorem dL_law_539 : decode cL_law 539 = .ok (.iconst 0, 1) := by decide +kernel
theorem dL_law_540 : decode cL_law 540 = .ok (.ireturn, 1) := by decide +kernel
theorem dL_law_541 : decode cL_law 541 = .ok (.goto 914, 3) := by decide +kernel
theorem dL_law_544 : decode cL_law 544 = .ok (.aload_n 1, 1) := by decide +kernel
theorem dL_law_545 : decode cL_law 545 = .ok (.invokevirtual 103, 3) := by decide +kernel
theorem dL_law_548 : decode cL_law 548 = .ok (.aload_n 2, 1) := by decide +kernel
theorem dL_law_549 : decode cL_law 549 = .ok (.invokevirtual 106, 3) := by decide +kernel
theorem dL_law_552 : decode cL_law 552 = .ok (.if_icmp .eq 903, 3) := by decide +kernel
theorem dL_law_555 : decode cL_law 555 = .ok (.iconst 0, 1) := by decide +kernel
theorem dL_law_556 : decode cL_law 556 = .ok (.ireturn, 1) := by decide +kernel
theorem dL_law_557 : decode cL_law 557 = .ok (.aload_n 1, 1) := by decide +kernel
theorem dL_law_558 : decode cL_law 558 = .ok (.aload_n 0, 1) := by decide +kernel
theorem dL_law_559 : decode cL_law 559 = .ok (.iload 4, 2) := by decide +kernel
theorem dL_law_561 : decode cL_law 561 = .ok (.iconst 1, 1) := by decide +kernel
theorem dL_law_562 : decode cL_law 562 = .ok (.iadd, 1) := by decide +kernel
theorem dL_law_563 : decode cL_law 563 = .ok (.iaload, 1) := by decide +kernel
theorem dL_law_564 : decode cL_law 564 = .ok (.aload_n 0, 1) := by decide +kernel
theorem dL_law_565 : decode cL_law 565 = .ok (.iload 4, 2) := by decide +kernel
theorem dL_law_567 : decode cL_law 567 = .ok (.iconst 2, 1) := by decide +kernel
theorem dL_law_568 : decode cL_law 568 = .ok (.iadd, 1) := by decide +kernel
theorem dL_law_569 : decode cL_law 569 = .ok (.iaload, 1) := by decide +kernel
theorem dL_law_570 : decode cL_law 570 = .ok (.aload_n 3, 1) := by decide +kernel
theorem dL_law_571 : decode cL_law 571 = .ok (.invokestatic 107, 3) := by decide +kernel
theorem dL_law_574 : decode cL_law 574 = .ok (.istore 5, 2) := by decide +kernel
theorem dL_law_576 : decode cL_law 576 = .ok (.aload_n 2, 1) := by decide +kernel
theorem dL_law_577 : decode cL_law 577 = .ok (.aload_n 0, 1) := by decide +kernel
theorem dL_law_578 : decode cL_law 578 = .ok (.iload 4, 2) := by decide +kernel
theorem dL_law_580 : decode cL_law 580 = .ok (.iconst 1, 1) := by decide +kernel
theorem dL_law_581 : decode cL_law 581 = .ok (.iadd, 1) := by decide +kernel
theorem dL_law_582 : decode cL_law 582 = .ok (.iaload, 1) := by decide +kernel
theorem dL_law_583 : decode cL_law 583 = .ok (.aload_n 0, 1) := by decide +kernel
theorem dL_law_584 : decode cL_law 584 = .ok (.iload 4, 2) := by decide +kernel
theorem dL_law_586 : decode cL_law 586 = .ok (.iconst 2, 1) := by decide +kernel
theorem dL_law_587 : decode cL_law 587 = .ok (.iadd, 1) := by decide +kernel
theorem dL_law_588 : decode cL_law 588 = .ok (.iaload, 1) := by decide +kernel
theorem dL_law_589 : decode cL_law 589 = .ok (.invokevirtual 109, 3) := by decide +kernel
theorem dL_law_592 : decode cL_law 592 = .ok (.istore 6, 2) := by decide +kernel
theorem dL_law_594 : decode cL_law 594 = .ok (.aload_n 2, 1) := by decide +kernel
theorem dL_law_595 : decode cL_law 595 = .ok (.invokevirtual 83, 3) := by decide +kernel
theorem dL_law_598 : decode cL_law 598 = .ok (.iload 5, 2) := by decide +kernel
theorem dL_law_600 : decode cL_law 600 = .ok (.if_icmp .eq 5, 3) := by decide +kernel
theorem dL_law_603 : decode cL_law 603 = .ok (.iconst 0, 1) := by decide +kernel
theorem dL_law_604 : decode cL_law 604 = .ok (.ireturn, 1) := by decide +kernel
theorem dL_law_605 : decode cL_law 605 = .ok (.iload 5, 2) := by decide +kernel
theorem dL_law_607 : decode cL_law 607 = .ok (.ifCond .ne 15, 3) := by decide +kernel
theorem dL_law_610 : decode cL_law 610 = .ok (.aload_n 3, 1) := by decide +kernel
theorem dL_law_611 : decode cL_law 611 = .ok (.iconst 0, 1) := by decide +kernel
theorem dL_law_612 : decode cL_law 612 = .ok (.laload, 1) := by decide +kernel
theorem dL_law_613 : decode cL_law 613 = .ok (.iload 6, 2) := by decide +kernel
theorem dL_law_615 : decode cL_law 615 = .ok (.i2l, 1) := by decide +kernel
theorem dL_law_616 : decode cL_law 616 = .ok (.lcmp, 1) := by decide +kernel
theorem dL_law_617 : decode cL_law 617 = .ok (.ifCond .eq 5, 3) := by decide +kernel
theorem dL_law_620 : decode cL_law 620 = .ok (.iconst 0, 1) := by decide +kernel
theorem dL_law_621 : decode cL_law 621 = .ok (.ireturn, 1) := by decide +kernel
theorem dL_law_622 : decode cL_law 622 = .ok (.goto 833, 3) := by decide +kernel
theorem dL_law_625 : decode cL_law 625 = .ok (.aload_n 1, 1) := by decide +kernel
theorem dL_law_626 : decode cL_law 626 = .ok (.aload_n 0, 1) := by decide +kernel
theorem dL_law_627 : decode cL_law 627 = .ok (.iload 4, 2) := by decide +kernel
theorem dL_law_629 : decode cL_law 629 = .ok (.iconst 1, 1) := by decide +kernel
theorem dL_law_630 : decode cL_law 630 = .ok (.iadd, 1) := by decide +kernel
theorem dL_law_631 : decode cL_law 631 = .ok (.iaload, 1) := by decide +kernel
theorem dL_law_632 : decode cL_law 632 = .ok (.aload_n 3, 1) := by decide +kernel
theorem dL_law_633 : decode cL_law 633 = .ok (.invokestatic 110, 3) := by decide +kernel
theorem dL_law_636 : decode cL_law 636 = .ok (.istore 5, 2) := by decide +kernel
theorem dL_law_638 : decode cL_law 638 = .ok (.aload_n 2, 1) := by decide +kernel
theorem dL_law_639 : decode cL_law 639 = .ok (.aload_n 0, 1) := by decide +kernel
theorem dL_law_640 : decode cL_law 640 = .ok (.iload 4, 2) := by decide +kernel
theorem dL_law_642 : decode cL_law 642 = .ok (.iconst 1, 1) := by decide +kernel
theorem dL_law_643 : decode cL_law 643 = .ok (.iadd, 1) := by decide +kernel
theorem dL_law_644 : decode cL_law 644 = .ok (.iaload, 1) := by decide +kernel
theorem dL_law_645 : decode cL_law 645 = .ok (.invokevirtual 112, 3) := by decide +kernel
theorem dL_law_648 : decode cL_law 648 = .ok (.istore 6, 2) := by decide +kernel
theorem dL_law_650 : decode cL_law 650 = .ok (.aload_n 2, 1) := by decide +kernel
theorem dL_law_651 : decode cL_law 651 = .ok (.invokevirtual 83, 3) := by decide +kernel
theorem dL_law_654 : decode cL_law 654 = .ok (.iload 5, 2) := by decide +kernel
theorem dL_law_656 : decode cL_law 656 = .ok (.if_icmp .eq 5, 3) := by decide +kernel
theorem dL_law_659 : decode cL_law 659 = .ok (.iconst 0, 1) := by decide +kernel
theorem dL_law_660 : decode cL_law 660 = .ok (.ireturn, 1) := by decide +kernel
theorem dL_law_661 : decode cL_law 661 = .ok (.iload 5, 2) := by decide +kernel
theorem dL_law_663 : decode cL_law 663 = .ok (.ifCond .ne 15, 3) := by decide +kernel
theorem dL_law_666 : decode cL_law 666 = .ok (.aload_n 3, 1) := by decide +kernel
theorem dL_law_667 : decode cL_law 667 = .ok (.iconst 0, 1) := by decide +kernel
theorem dL_law_668 : decode cL_law 668 = .ok (.laload, 1) := by decide +kernel
theorem dL_law_669 : decode cL_law 669 = .ok (.iload 6, 2) := by decide +kernel
theorem dL_law_671 : decode cL_law 671 = .ok (.i2l, 1) := by decide +kernel
theorem dL_law_672 : decode cL_law 672 = .ok (.lcmp, 1) := by decide +kernel
theorem dL_law_673 : decode cL_law 673 = .ok (.ifCond .eq 5, 3) := by decide +kernel
theorem dL_law_676 : decode cL_law 676 = .ok (.iconst 0, 1) := by decide +kernel
theorem dL_law_677 : decode cL_law 677 = .ok (.ireturn, 1) := by decide +kernel
theorem dL_law_678 : decode cL_law 678 = .ok (.goto 777, 3) := by decide +kernel
theorem dL_law_681 : decode cL_law 681 = .ok (.aload_n 1, 1) := by decide +kernel
theorem dL_law_682 : decode cL_law 682 = .ok (.invokevirtual 113, 3) := by decide +kernel
theorem dL_law_685 : decode cL_law 685 = .ok (.aload_n 2, 1) := by decide +kernel
theorem dL_law_686 : decode cL_law 686 = .ok (.invokevirtual 116, 3) := by decide +kernel
theorem dL_law_689 : decode cL_law 689 = .ok (.if_icmp .eq 766, 3) := by decide +kernel
theorem dL_law_692 : decode cL_law 692 = .ok (.iconst 0, 1) := by decide +kernel
theorem dL_law_693 : decode cL_law 693 = .ok (.ireturn, 1) := by decide +kernel
theorem dL_law_694 : decode cL_law 694 = .ok (.aload_n 1, 1) := by decide +kernel
theorem dL_law_695 : decode cL_law 695 = .ok (.invokevirtual 117, 3) := by decide +kernel
theorem dL_law_698 : decode cL_law 698 = .ok (.aload_n 2, 1) := by decide +kernel
theorem dL_law_699 : decode cL_law 699 = .ok (.invokevirtual 120, 3) := by decide +kernel
theorem dL_law_702 : decode cL_law 702 = .ok (.if_icmp .eq 753, 3) := by decide +kernel
theorem dL_law_705 : decode cL_law 705 = .ok (.iconst 0, 1) := by decide +kernel
theorem dL_law_706 : decode cL_law 706 = .ok (.ireturn, 1) := by decide +kernel
theorem dL_law_707 : decode cL_law 707 = .ok (.aload_n 1, 1) := by decide +kernel
theorem dL_law_708 : decode cL_law 708 = .ok (.aload_n 3, 1) := by decide +kernel
theorem dL_law_709 : decode cL_law 709 = .ok (.invokestatic 121, 3) := by decide +kernel
theorem dL_law_712 : decode cL_law 712 = .ok (.istore 5, 2) := by decide +kernel
theorem dL_law_714 : decode cL_law 714 = .ok (.aload_n 2, 1) := by decide +kernel
theorem dL_law_715 : decode cL_law 715 = .ok (.invokevirtual 124, 3) := by decide +kernel
theorem dL_law_718 : decode cL_law 718 = .ok (.istore 6, 2) := by decide +kernel
theorem dL_law_720 : decode cL_law 720 = .ok (.aload_n 2, 1) := by decide +kernel
theorem dL_law_721 : decode cL_law 721 = .ok (.invokevirtual 83, 3) := by decide +kernel
theorem dL_law_724 : decode cL_law 724 = .ok (.iload 5, 2) := by decide +kernel
theorem dL_law_726 : decode cL_law 726 = .ok (.if_icmp .eq 5, 3) := by decide +kernel
theorem dL_law_729 : decode cL_law 729 = .ok (.iconst 0, 1) := by decide +kernel
theorem dL_law_730 : decode cL_law 730 = .ok (.ireturn, 1) := by decide +kernel
theorem dL_law_731 : decode cL_law 731 = .ok (.iload 5, 2) := by decide +kernel
theorem dL_law_733 : decode cL_law 733 = .ok (.ifCond .ne 15, 3) := by decide +kernel
theorem dL_law_736 : decode cL_law 736 = .ok (.aload_n 3, 1) := by decide +kernel
theorem dL_law_737 : decode cL_law 737 = .ok (.iconst 0, 1) := by decide +kernel
theorem dL_law_738 : decode cL_law 738 = .ok (.laload, 1) := by decide +kernel
theorem dL_law_739 : decode cL_law 739 = .ok (.iload 6, 2) := by decide +kernel
theorem dL_law_741 : decode cL_law 741 = .ok (.i2l, 1) := by decide +kernel
theorem dL_law_742 : decode cL_law 742 = .ok (.lcmp, 1) := by decide +kernel
theorem dL_law_743 : decode cL_law 743 = .ok (.ifCond .eq 5, 3) := by decide +kernel
theorem dL_law_746 : decode cL_law 746 = .ok (.iconst 0, 1) := by decide +kernel
theorem dL_law_747 : decode cL_law 747 = .ok (.ireturn, 1) := by decide +kernel
theorem dL_law_748 : decode cL_law 748 = .ok (.goto 707, 3) := by decide +kernel
theorem dL_law_751 : decode cL_law 751 = .ok (.aload_n 1, 1) := by decide +kernel
theorem dL_law_752 : decode cL_law 752 = .ok (.aload_n 0, 1) := by decide +kernel
theorem dL_law_753 : decode cL_law 753 = .ok (.iload 4, 2) := by decide +kernel
theorem dL_law_755 : decode cL_law 755 = .ok (.iconst 1, 1) := by decide +kernel
theorem dL_law_756 : decode cL_law 756 = .ok (.iadd, 1) := by decide +kernel
theorem dL_law_757 : decode cL_law 757 = .ok (.iaload, 1) := by decide +kernel
theorem dL_law_758 : decode cL_law 758 = .ok (.aload_n 0, 1) := by decide +kernel
theorem dL_law_759 : decode cL_law 759 = .ok (.iload 4, 2) := by decide +kernel
theorem dL_law_761 : decode cL_law 761 = .ok (.iconst 2, 1) := by decide +kernel
theorem dL_law_762 : decode cL_law 762 = .ok (.iadd, 1) := by decide +kernel
theorem dL_law_763 : decode cL_law 763 = .ok (.iaload, 1) := by decide +kernel
theorem dL_law_764 : decode cL_law 764 = .ok (.aload_n 0, 1) := by decide +kernel
theorem dL_law_765 : decode cL_law 765 = .ok (.iload 4, 2) := by decide +kernel
theorem dL_law_767 : decode cL_law 767 = .ok (.iconst 3, 1) := by decide +kernel
theorem dL_law_768 : decode cL_law 768 = .ok (.iadd, 1) := by decide +kernel
theorem dL_law_769 : decode cL_law 769 = .ok (.iaload, 1) := by decide +kernel
theorem dL_law_770 : decode cL_law 770 = .ok (.aload_n 3, 1) := by decide +kernel
theorem dL_law_771 : decode cL_law 771 = .ok (.invokestatic 125, 3) := by decide +kernel
theorem dL_law_774 : decode cL_law 774 = .ok (.istore 5, 2) := by decide +kernel
theorem dL_law_776 : decode cL_law 776 = .ok (.aload_n 2, 1) := by decide +kernel
theorem dL_law_777 : decode cL_law 777 = .ok (.aload_n 0, 1) := by decide +kernel
theorem dL_law_778 : decode cL_law 778 = .ok (.iload 4, 2) := by decide +kernel
theorem dL_law_780 : decode cL_law 780 = .ok (.iconst 1, 1) := by decide +kernel
theorem dL_law_781 : decode cL_law 781 = .ok (.iadd, 1) := by decide +kernel
theorem dL_law_782 : decode cL_law 782 = .ok (.iaload, 1) := by decide +kernel
theorem dL_law_783 : decode cL_law 783 = .ok (.aload_n 0, 1) := by decide +kernel
theorem dL_law_784 : decode cL_law 784 = .ok (.iload 4, 2) := by decide +kernel
theorem dL_law_786 : decode cL_law 786 = .ok (.iconst 2, 1) := by decide +kernel
theorem dL_law_787 : decode cL_law 787 = .ok (.iadd, 1) := by decide +kernel
theorem dL_law_788 : decode cL_law 788 = .ok (.iaload, 1) := by decide +kernel
theorem dL_law_789 : decode cL_law 789 = .ok (.aload_n 0, 1) := by decide +kernel
theorem dL_law_790 : decode cL_law 790 = .ok (.iload 4, 2) := by decide +kernel
theorem dL_law_792 : decode cL_law 792 = .ok (.iconst 3, 1) := by decide +kernel
theorem dL_law_793 : decode cL_law 793 = .ok (.iadd, 1) := by decide +kernel
theorem dL_law_794 : decode cL_law 794 = .ok (.iaload, 1) := by decide +kernel
theorem dL_law_795 : decode cL_law 795 = .ok (.invokevirtual 127, 3) := by decide +kernel
theorem dL_law_798 : decode cL_law 798 = .ok (.istore 6, 2) := by decide +kernel
theorem dL_law_800 : decode cL_law 800 = .ok (.aload_n 2, 1) := by decide +kernel
theorem dL_law_801 : decode cL_law 801 = .ok (.invokevirtual 83, 3) := by decide +kernel
theorem dL_law_804 : decode cL_law 804 = .ok (.iload 5, 2) := by decide +kernel
theorem dL_law_806 : decode cL_law 806 = .ok (.if_icmp .eq 5, 3) := by decide +kernel
theorem dL_law_809 : decode cL_law 809 = .ok (.iconst 0, 1) := by decide +kernel
theorem dL_law_810 : decode cL_law 810 = .ok (.ireturn, 1) := by decide +kernel
theorem dL_law_811 : decode cL_law 811 = .ok (.iload 5, 2) := by decide +kernel
theorem dL_law_813 : decode cL_law 813 = .ok (.ifCond .ne 15, 3) := by decide +kernel
theorem dL_law_816 : decode cL_law 816 = .ok (.aload_n 3, 1) := by decide +kernel
theorem dL_law_817 : decode cL_law 817 = .ok (.iconst 0, 1) := by decide +kernel
theorem dL_law_818 : decode cL_law 818 = .ok (.laload, 1) := by decide +kernel
theorem dL_law_819 : decode cL_law 819 = .ok (.iload 6, 2) := by decide +kernel
theorem dL_law_821 : decode cL_law 821 = .ok (.i2l, 1) := by decide +kernel
theorem dL_law_822 : decode cL_law 822 = .ok (.lcmp, 1) := by decide +kernel
theorem dL_law_823 : decode cL_law 823 = .ok (.ifCond .eq 5, 3) := by decide +kernel
theorem dL_law_826 : decode cL_law 826 = .ok (.iconst 0, 1) := by decide +kernel
theorem dL_law_827 : decode cL_law 827 = .ok (.ireturn, 1) := by decide +kernel
theorem dL_law_828 : decode cL_law 828 = .ok (.goto 627, 3) := by decide +kernel
theorem dL_law_831 : decode cL_law 831 = .ok (.aload_n 1, 1) := by decide +kernel
theorem dL_law_832 : decode cL_law 832 = .ok (.aload_n 0, 1) := by decide +kernel
theorem dL_law_833 : decode cL_law 833 = .ok (.iload 4, 2) := by decide +kernel
theorem dL_law_835 : decode cL_law 835 = .ok (.iconst 1, 1) := by decide +kernel
theorem dL_law_836 : decode cL_law 836 = .ok (.iadd, 1) := by decide +kernel
theorem dL_law_837 : decode cL_law 837 = .ok (.iaload, 1) := by decide +kernel
theorem dL_law_838 : decode cL_law 838 = .ok (.aload_n 0, 1) := by decide +kernel
theorem dL_law_839 : decode cL_law 839 = .ok (.iload 4, 2) := by decide +kernel
theorem dL_law_841 : decode cL_law 841 = .ok (.iconst 2, 1) := by decide +kernel
theorem dL_law_842 : decode cL_law 842 = .ok (.iadd, 1) := by decide +kernel
theorem dL_law_843 : decode cL_law 843 = .ok (.iaload, 1) := by decide +kernel
theorem dL_law_844 : decode cL_law 844 = .ok (.aload_n 0, 1) := by decide +kernel
theorem dL_law_845 : decode cL_law 845 = .ok (.iload 4, 2) := by decide +kernel
theorem dL_law_847 : decode cL_law 847 = .ok (.iconst 3, 1) := by decide +kernel
theorem dL_law_848 : decode cL_law 848 = .ok (.iadd, 1) := by decide +kernel
theorem dL_law_849 : decode cL_law 849 = .ok (.iaload, 1) := by decide +kernel
theorem dL_law_850 : decode cL_law 850 = .ok (.aload_n 3, 1) := by decide +kernel
theorem dL_law_851 : decode cL_law 851 = .ok (.invokestatic 128, 3) := by decide +kernel
theorem dL_law_854 : decode cL_law 854 = .ok (.istore 5, 2) := by decide +kernel
theorem dL_law_856 : decode cL_law 856 = .ok (.aload_n 2, 1) := by decide +kernel
theorem dL_law_857 : decode cL_law 857 = .ok (.aload_n 0, 1) := by decide +kernel
theorem dL_law_858 : decode cL_law 858 = .ok (.iload 4, 2) := by decide +kernel
theorem dL_law_860 : decode cL_law 860 = .ok (.iconst 1, 1) := by decide +kernel
theorem dL_law_861 : decode cL_law 861 = .ok (.iadd, 1) := by decide +kernel
theorem dL_law_862 : decode cL_law 862 = .ok (.iaload, 1) := by decide +kernel
theorem dL_law_863 : decode cL_law 863 = .ok (.aload_n 0, 1) := by decide +kernel
theorem dL_law_864 : decode cL_law 864 = .ok (.iload 4, 2) := by decide +kernel
theorem dL_law_866 : decode cL_law 866 = .ok (.iconst 2, 1) := by decide +kernel
theorem dL_law_867 : decode cL_law 867 = .ok (.iadd, 1) := by decide +kernel
theorem dL_law_868 : decode cL_law 868 = .ok (.iaload, 1) := by decide +kernel
theorem dL_law_869 : decode cL_law 869 = .ok (.aload_n 0, 1) := by decide +kernel
theorem dL_law_870 : decode cL_law 870 = .ok (.iload 4, 2) := by decide +kernel
theorem dL_law_872 : decode cL_law 872 = .ok (.iconst 3, 1) := by decide +kernel
theorem dL_law_873 : decode cL_law 873 = .ok (.iadd, 1) := by decide +kernel
theorem dL_law_874 : decode cL_law 874 = .ok (.iaload, 1) := by decide +kernel
theorem dL_law_875 : decode cL_law 875 = .ok (.invokevirtual 130, 3) := by decide +kernel
theorem dL_law_878 : decode cL_law 878 = .ok (.istore 6, 2) := by decide +kernel
theorem dL_law_880 : decode cL_law 880 = .ok (.aload_n 2, 1) := by decide +kernel
theorem dL_law_881 : decode cL_law 881 = .ok (.invokevirtual 83, 3) := by decide +kernel
theorem dL_law_884 : decode cL_law 884 = .ok (.iload 5, 2) := by decide +kernel
theorem dL_law_886 : decode cL_law 886 = .ok (.if_icmp .eq 5, 3) := by decide +kernel
theorem dL_law_889 : decode cL_law 889 = .ok (.iconst 0, 1) := by decide +kernel
theorem dL_law_890 : decode cL_law 890 = .ok (.ireturn, 1) := by decide +kernel
theorem dL_law_891 : decode cL_law 891 = .ok (.iload 5, 2) := by decide +kernel
theorem dL_law_893 : decode cL_law 893 = .ok (.ifCond .ne 15, 3) := by decide +kernel
theorem dL_law_896 : decode cL_law 896 = .ok (.aload_n 3, 1) := by decide +kernel
theorem dL_law_897 : decode cL_law 897 = .ok (.iconst 0, 1) := by decide +kernel
theorem dL_law_898 : decode cL_law 898 = .ok (.laload, 1) := by decide +kernel
theorem dL_law_899 : decode cL_law 899 = .ok (.iload 6, 2) := by decide +kernel
theorem dL_law_901 : decode cL_law 901 = .ok (.i2l, 1) := by decide +kernel
theorem dL_law_902 : decode cL_law 902 = .ok (.lcmp, 1) := by decide +kernel
theorem dL_law_903 : decode cL_law 903 = .ok (.ifCond .eq 5, 3) := by decide +kernel
theorem dL_law_906 : decode cL_law 906 = .ok (.iconst 0, 1) := by decide +kernel
theorem dL_law_907 : decode cL_law 907 = .ok (.ireturn, 1) := by decide +kernel
theorem dL_law_908 : decode cL_law 908 = .ok (.goto 547, 3) := by decide +kernel
theorem dL_law_911 : decode cL_law 911 = .ok (.aload_n 1, 1) := by decide +kernel
theorem dL_law_912 : decode cL_law 912 = .ok (.aload_n 0, 1) := by decide +kernel
theorem dL_law_913 : decode cL_law 913 = .ok (.iload 4, 2) := by decide +kernel
theorem dL_law_915 : decode cL_law 915 = .ok (.iconst 1, 1) := by decide +kernel
theorem dL_law_916 : decode cL_law 916 = .ok (.iadd, 1) := by decide +kernel
theorem dL_law_917 : decode cL_law 917 = .ok (.iaload, 1) := by decide +kernel
theorem dL_law_918 : decode cL_law 918 = .ok (.aload_n 0, 1) := by decide +kernel
theorem dL_law_919 : decode cL_law 919 = .ok (.iload 4, 2) := by decide +kernel
theorem dL_law_921 : decode cL_law 921 = .ok (.iconst 2, 1) := by decide +kernel
theorem dL_law_922 : decode cL_law 922 = .ok (.iadd, 1) := by decide +kernel
theorem dL_law_923 : decode cL_law 923 = .ok (.iaload, 1) := by decide +kernel
theorem dL_law_924 : decode cL_law 924 = .ok (.aload_n 3, 1) := by decide +kernel
theorem dL_law_925 : decode cL_law 925 = .ok (.invokestatic 131, 3) := by decide +kernel
theorem dL_law_928 : decode cL_law 928 = .ok (.istore 5, 2) := by decide +kernel
theorem dL_law_930 : decode cL_law 930 = .ok (.aload_n 2, 1) := by decide +kernel
theorem dL_law_931 : decode cL_law 931 = .ok (.aload_n 0, 1) := by decide +kernel
theorem dL_law_932 : decode cL_law 932 = .ok (.iload 4, 2) := by decide +kernel
theorem dL_law_934 : decode cL_law 934 = .ok (.iconst 1, 1) := by decide +kernel
theorem dL_law_935 : decode cL_law 935 = .ok (.iadd, 1) := by decide +kernel
theorem dL_law_936 : decode cL_law 936 = .ok (.iaload, 1) := by decide +kernel
theorem dL_law_937 : decode cL_law 937 = .ok (.aload_n 0, 1) := by decide +kernel
theorem dL_law_938 : decode cL_law 938 = .ok (.iload 4, 2) := by decide +kernel
theorem dL_law_940 : decode cL_law 940 = .ok (.iconst 2, 1) := by decide +kernel
theorem dL_law_941 : decode cL_law 941 = .ok (.iadd, 1) := by decide +kernel
theorem dL_law_942 : decode cL_law 942 = .ok (.iaload, 1) := by decide +kernel
theorem dL_law_943 : decode cL_law 943 = .ok (.invokevirtual 133, 3) := by decide +kernel
theorem dL_law_946 : decode cL_law 946 = .ok (.istore 6, 2) := by decide +kernel
theorem dL_law_948 : decode cL_law 948 = .ok (.aload_n 2, 1) := by decide +kernel
theorem dL_law_949 : decode cL_law 949 = .ok (.invokevirtual 83, 3) := by decide +kernel
theorem dL_law_952 : decode cL_law 952 = .ok (.iload 5, 2) := by decide +kernel
theorem dL_law_954 : decode cL_law 954 = .ok (.if_icmp .eq 5, 3) := by decide +kernel
theorem dL_law_957 : decode cL_law 957 = .ok (.iconst 0, 1) := by decide +kernel
theorem dL_law_958 : decode cL_law 958 = .ok (.ireturn, 1) := by decide +kernel
theorem dL_law_959 : decode cL_law 959 = .ok (.iload 5, 2) := by decide +kernel
theorem dL_law_961 : decode cL_law 961 = .ok (.ifCond .ne 15, 3) := by decide +kernel
theorem dL_law_964 : decode cL_law 964 = .ok (.aload_n 3, 1) := by decide +kernel
theorem dL_law_965 : decode cL_law 965 = .ok (.iconst 0, 1) := by decide +kernel
theorem dL_law_966 : decode cL_law 966 = .ok (.laload, 1) := by decide +kernel
theorem dL_law_967 : decode cL_law 967 = .ok (.iload 6, 2) := by decide +kernel
theorem dL_law_969 : decode cL_law 969 = .ok (.i2l, 1) := by decide +kernel
theorem dL_law_970 : decode cL_law 970 = .ok (.lcmp, 1) := by decide +kernel
theorem dL_law_971 : decode cL_law 971 = .ok (.ifCond .eq 5, 3) := by decide +kernel
theorem dL_law_974 : decode cL_law 974 = .ok (.iconst 0, 1) := by decide +kernel
theorem dL_law_975 : decode cL_law 975 = .ok (.ireturn, 1) := by decide +kernel
theorem dL_law_976 : decode cL_law 976 = .ok (.goto 479, 3) := by decide +kernel
theorem dL_law_979 : decode cL_law 979 = .ok (.aload_n 1, 1) := by decide +kernel
theorem dL_law_980 : decode cL_law 980 = .ok (.aload_n 0, 1) := by decide +kernel
theorem dL_law_981 : decode cL_law 981 = .ok (.iload 4, 2) := by decide +kernel
theorem dL_law_983 : decode cL_law 983 = .ok (.iconst 1, 1) := by decide +kernel
theorem dL_law_984 : decode cL_law 984 = .ok (.iadd, 1) := by decide +kernel
theorem dL_law_985 : decode cL_law 985 = .ok (.iaload, 1) := by decide +kernel
theorem dL_law_986 : decode cL_law 986 = .ok (.aload_n 0, 1) := by decide +kernel
theorem dL_law_987 : decode cL_law 987 = .ok (.iload 4, 2) := by decide +kernel
theorem dL_law_989 : decode cL_law 989 = .ok (.iconst 2, 1) := by decide +kernel
theorem dL_law_990 : decode cL_law 990 = .ok (.iadd, 1) := by decide +kernel
theorem dL_law_991 : decode cL_law 991 = .ok (.iaload, 1) := by decide +kernel
theorem dL_law_992 : decode cL_law 992 = .ok (.aload_n 3, 1) := by decide +kernel
theorem dL_law_993 : decode cL_law 993 = .ok (.invokestatic 134, 3) := by decide +kernel
theorem dL_law_996 : decode cL_law 996 = .ok (.istore 5, 2) := by decide +kernel
theorem dL_law_998 : decode cL_law 998 = .ok (.aload_n 2, 1) := by decide +kernel
theorem dL_law_999 : decode cL_law 999 = .ok (.aload_n 0, 1) := by decide +kernel
theorem dL_law_1000 : decode cL_law 1000 = .ok (.iload 4, 2) := by decide +kernel
theorem dL_law_1002 : decode cL_law 1002 = .ok (.iconst 1, 1) := by decide +kernel
theorem dL_law_1003 : decode cL_law 1003 = .ok (.iadd, 1) := by decide +kernel
theorem dL_law_1004 : decode cL_law 1004 = .ok (.iaload, 1) := by decide +kernel
theorem dL_law_1005 : decode cL_law 1005 = .ok (.aload_n 0, 1) := by decide +kernel
theorem dL_law_1006 : decode cL_law 1006 = .ok (.iload 4, 2) := by decide +kernel
theorem dL_law_1008 : decode cL_law 1008 = .ok (.iconst 2, 1) := by decide +kernel
theorem dL_law_1009 : decode cL_law 1009 = .ok (.iadd, 1) := by decide +kernel
theorem dL_law_1010 : decode cL_law 1010 = .ok (.iaload, 1) := by decide +kernel
theorem dL_law_1011 : decode cL_law 1011 = .ok (.invokevirtual 136, 3) := by decide +kernel
theorem dL_law_1014 : decode cL_law 1014 = .ok (.istore 6, 2) := by decide +kernel
theorem dL_law_1016 : decode cL_law 1016 = .ok (.aload_n 2, 1) := by decide +kernel
theorem dL_law_1017 : decode cL_law 1017 = .ok (.invokevirtual 83, 3) := by decide +kernel
theorem dL_law_1020 : decode cL_law 1020 = .ok (.iload 5, 2) := by decide +kernel
theorem dL_law_1022 : decode cL_law 1022 = .ok (.if_icmp .eq 5, 3) := by decide +kernel
theorem dL_law_1025 : decode cL_law 1025 = .ok (.iconst 0, 1) := by decide +kernel
theorem dL_law_1026 : decode cL_law 1026 = .ok (.ireturn, 1) := by decide +kernel
theorem dL_law_1027 : decode cL_law 1027 = .ok (.iload 5, 2) := by decide +kernel
theorem dL_law_1029 : decode cL_law 1029 = .ok (.ifCond .ne 15, 3) := by decide +kernel
theorem dL_law_1032 : decode cL_law 1032 = .ok (.aload_n 3, 1) := by decide +kernel
theorem dL_law_1033 : decode cL_law 1033 = .ok (.iconst 0, 1) := by decide +kernel
theorem dL_law_1034 : decode cL_law 1034 = .ok (.laload, 1) := by decide +kernel
theorem dL_law_1035 : decode cL_law 1035 = .ok (.iload 6, 2) := by decide +kernel
theorem dL_law_1037 : decode cL_law 1037 = .ok (.i2l, 1) := by decide +kernel
theorem dL_law_1038 : decode cL_law 1038 = .ok (.lcmp, 1) := by decide +kernel
theorem dL_law_1039 : decode cL_law 1039 = .ok (.ifCond .eq 5, 3) := by decide +kernel
theorem dL_law_1042 : decode cL_law 1042 = .ok (.iconst 0, 1) := by decide +kernel
theorem dL_law_1043 : decode cL_law 1043 = .ok (.ireturn, 1) := by decide +kernel
theorem dL_law_1044 : decode cL_law 1044 = .ok (.goto 411, 3) := by decide +kernel
theorem dL_law_1047 : decode cL_law 1047 = .ok (.aload_n 1, 1) := by decide +kernel
theorem dL_law_1048 : decode cL_law 1048 = .ok (.aload_n 0, 1) := by decide +kernel
theorem dL_law_1049 : decode cL_law 1049 = .ok (.iload 4, 2) := by decide +kernel
theorem dL_law_1051 : decode cL_law 1051 = .ok (.iconst 1, 1) := by decide +kernel
theorem dL_law_1052 : decode cL_law 1052 = .ok (.iadd, 1) := by decide +kernel
theorem dL_law_1053 : decode cL_law 1053 = .ok (.iaload, 1) := by decide +kernel
theorem dL_law_1054 : decode cL_law 1054 = .ok (.aload_n 0, 1) := by decide +kernel
theorem dL_law_1055 : decode cL_law 1055 = .ok (.iload 4, 2) := by decide +kernel
theorem dL_law_1057 : decode cL_law 1057 = .ok (.iconst 2, 1) := by decide +kernel
theorem dL_law_1058 : decode cL_law 1058 = .ok (.iadd, 1) := by decide +kernel
theorem dL_law_1059 : decode cL_law 1059 = .ok (.iaload, 1) := by decide +kernel
theorem dL_law_1060 : decode cL_law 1060 = .ok (.aload_n 0, 1) := by decide +kernel
theorem dL_law_1061 : decode cL_law 1061 = .ok (.iload 4, 2) := by decide +kernel
theorem dL_law_1063 : decode cL_law 1063 = .ok (.iconst 3, 1) := by decide +kernel
theorem dL_law_1064 : decode cL_law 1064 = .ok (.iadd, 1) := by decide +kernel
theorem dL_law_1065 : decode cL_law 1065 = .ok (.iaload, 1) := by decide +kernel
theorem dL_law_1066 : decode cL_law 1066 = .ok (.aload_n 3, 1) := by decide +kernel
theorem dL_law_1067 : decode cL_law 1067 = .ok (.invokestatic 137, 3) := by decide +kernel
theorem dL_law_1070 : decode cL_law 1070 = .ok (.istore 5, 2) := by decide +kernel
theorem dL_law_1072 : decode cL_law 1072 = .ok (.aload_n 2, 1) := by decide +kernel
theorem dL_law_1073 : decode cL_law 1073 = .ok (.aload_n 0, 1) := by decide +kernel
theorem dL_law_1074 : decode cL_law 1074 = .ok (.iload 4, 2) := by decide +kernel
theorem dL_law_1076 : decode cL_law 1076 = .ok (.iconst 1, 1) := by decide +kernel
theorem dL_law_1077 : decode cL_law 1077 = .ok (.iadd, 1) := by decide +kernel
theorem dL_law_1078 : decode cL_law 1078 = .ok (.iaload, 1) := by decide +kernel
theorem dL_law_1079 : decode cL_law 1079 = .ok (.aload_n 0, 1) := by decide +kernel
theorem dL_law_1080 : decode cL_law 1080 = .ok (.iload 4, 2) := by decide +kernel
theorem dL_law_1082 : decode cL_law 1082 = .ok (.iconst 2, 1) := by decide +kernel
theorem dL_law_1083 : decode cL_law 1083 = .ok (.iadd, 1) := by decide +kernel
theorem dL_law_1084 : decode cL_law 1084 = .ok (.iaload, 1) := by decide +kernel
theorem dL_law_1085 : decode cL_law 1085 = .ok (.aload_n 0, 1) := by decide +kernel
theorem dL_law_1086 : decode cL_law 1086 = .ok (.iload 4, 2) := by decide +kernel
theorem dL_law_1088 : decode cL_law 1088 = .ok (.iconst 3, 1) := by decide +kernel
theorem dL_law_1089 : decode cL_law 1089 = .ok (.iadd, 1) := by decide +kernel
theorem dL_law_1090 : decode cL_law 1090 = .ok (.iaload, 1) := by decide +kernel
theorem dL_law_1091 : decode cL_law 1091 = .ok (.invokevirtual 139, 3) := by decide +kernel
theorem dL_law_1094 : decode cL_law 1094 = .ok (.istore 6, 2) := by decide +kernel
theorem dL_law_1096 : decode cL_law 1096 = .ok (.aload_n 2, 1) := by decide +kernel
theorem dL_law_1097 : decode cL_law 1097 = .ok (.invokevirtual 83, 3) := by decide +kernel
theorem dL_law_1100 : decode cL_law 1100 = .ok (.iload 5, 2) := by decide +kernel
theorem dL_law_1102 : decode cL_law 1102 = .ok (.if_icmp .eq 5, 3) := by decide +kernel
theorem dL_law_1105 : decode cL_law 1105 = .ok (.iconst 0, 1) := by decide +kernel
theorem dL_law_1106 : decode cL_law 1106 = .ok (.ireturn, 1) := by decide +kernel
theorem dL_law_1107 : decode cL_law 1107 = .ok (.iload 5, 2) := by decide +kernel
theorem dL_law_1109 : decode cL_law 1109 = .ok (.ifCond .ne 15, 3) := by decide +kernel
theorem dL_law_1112 : decode cL_law 1112 = .ok (.aload_n 3, 1) := by decide +kernel
theorem dL_law_1113 : decode cL_law 1113 = .ok (.iconst 0, 1) := by decide +kernel
theorem dL_law_1114 : decode cL_law 1114 = .ok (.laload, 1) := by decide +kernel
theorem dL_law_1115 : decode cL_law 1115 = .ok (.iload 6, 2) := by decide +kernel
theorem dL_law_1117 : decode cL_law 1117 = .ok (.i2l, 1) := by decide +kernel
theorem dL_law_1118 : decode cL_law 1118 = .ok (.lcmp, 1) := by decide +kernel
theorem dL_law_1119 : decode cL_law 1119 = .ok (.ifCond .eq 5, 3) := by decide +kernel
theorem dL_law_1122 : decode cL_law 1122 = .ok (.iconst 0, 1) := by decide +kernel
theorem dL_law_1123 : decode cL_law 1123 = .ok (.ireturn, 1) := by decide +kernel
theorem dL_law_1124 : decode cL_law 1124 = .ok (.goto 331, 3) := by decide +kernel
theorem dL_law_1127 : decode cL_law 1127 = .ok (.aload_n 1, 1) := by decide +kernel
theorem dL_law_1128 : decode cL_law 1128 = .ok (.aload_n 0, 1) := by decide +kernel
theorem dL_law_1129 : decode cL_law 1129 = .ok (.iload 4, 2) := by decide +kernel
theorem dL_law_1131 : decode cL_law 1131 = .ok (.iconst 1, 1) := by decide +kernel
theorem dL_law_1132 : decode cL_law 1132 = .ok (.iadd, 1) := by decide +kernel
theorem dL_law_1133 : decode cL_law 1133 = .ok (.iaload, 1) := by decide +kernel
theorem dL_law_1134 : decode cL_law 1134 = .ok (.aload_n 3, 1) := by decide +kernel
theorem dL_law_1135 : decode cL_law 1135 = .ok (.invokestatic 140, 3) := by decide +kernel
theorem dL_law_1138 : decode cL_law 1138 = .ok (.istore 5, 2) := by decide +kernel
theorem dL_law_1140 : decode cL_law 1140 = .ok (.aload_n 2, 1) := by decide +kernel
theorem dL_law_1141 : decode cL_law 1141 = .ok (.aload_n 0, 1) := by decide +kernel
theorem dL_law_1142 : decode cL_law 1142 = .ok (.iload 4, 2) := by decide +kernel
theorem dL_law_1144 : decode cL_law 1144 = .ok (.iconst 1, 1) := by decide +kernel
theorem dL_law_1145 : decode cL_law 1145 = .ok (.iadd, 1) := by decide +kernel
theorem dL_law_1146 : decode cL_law 1146 = .ok (.iaload, 1) := by decide +kernel
theorem dL_law_1147 : decode cL_law 1147 = .ok (.invokevirtual 142, 3) := by decide +kernel
theorem dL_law_1150 : decode cL_law 1150 = .ok (.istore 6, 2) := by decide +kernel
theorem dL_law_1152 : decode cL_law 1152 = .ok (.aload_n 2, 1) := by decide +kernel
theorem dL_law_1153 : decode cL_law 1153 = .ok (.invokevirtual 83, 3) := by decide +kernel
theorem dL_law_1156 : decode cL_law 1156 = .ok (.iload 5, 2) := by decide +kernel
theorem dL_law_1158 : decode cL_law 1158 = .ok (.if_icmp .eq 5, 3) := by decide +kernel
theorem dL_law_1161 : decode cL_law 1161 = .ok (.iconst 0, 1) := by decide +kernel
theorem dL_law_1162 : decode cL_law 1162 = .ok (.ireturn, 1) := by decide +kernel
theorem dL_law_1163 : decode cL_law 1163 = .ok (.iload 5, 2) := by decide +kernel
theorem dL_law_1165 : decode cL_law 1165 = .ok (.ifCond .ne 15, 3) := by decide +kernel
theorem dL_law_1168 : decode cL_law 1168 = .ok (.aload_n 3, 1) := by decide +kernel
theorem dL_law_1169 : decode cL_law 1169 = .ok (.iconst 0, 1) := by decide +kernel
theorem dL_law_1170 : decode cL_law 1170 = .ok (.laload, 1) := by decide +kernel
theorem dL_law_1171 : decode cL_law 1171 = .ok (.iload 6, 2) := by decide +kernel
theorem dL_law_1173 : decode cL_law 1173 = .ok (.i2l, 1) := by decide +kernel
theorem dL_law_1174 : decode cL_law 1174 = .ok (.lcmp, 1) := by decide +kernel
theorem dL_law_1175 : decode cL_law 1175 = .ok (.ifCond .eq 5, 3) := by decide +kernel
theorem dL_law_1178 : decode cL_law 1178 = .ok (.iconst 0, 1) := by decide +kernel
theorem dL_law_1179 : decode cL_law 1179 = .ok (.ireturn, 1) := by decide +kernel
theorem dL_law_1180 : decode cL_law 1180 = .ok (.goto 275, 3) := by decide +kernel
theorem dL_law_1183 : decode cL_law 1183 = .ok (.aload_n 1, 1) := by decide +kernel
theorem dL_law_1184 : decode cL_law 1184 = .ok (.aload_n 0, 1) := by decide +kernel
theorem dL_law_1185 : decode cL_law 1185 = .ok (.iload 4, 2) := by decide +kernel
theorem dL_law_1187 : decode cL_law 1187 = .ok (.iconst 1, 1) := by decide +kernel
theorem dL_law_1188 : decode cL_law 1188 = .ok (.iadd, 1) := by decide +kernel
theorem dL_law_1189 : decode cL_law 1189 = .ok (.iaload, 1) := by decide +kernel
theorem dL_law_1190 : decode cL_law 1190 = .ok (.aload_n 3, 1) := by decide +kernel
theorem dL_law_1191 : decode cL_law 1191 = .ok (.invokestatic 143, 3) := by decide +kernel
theorem dL_law_1194 : decode cL_law 1194 = .ok (.istore 5, 2) := by decide +kernel
theorem dL_law_1196 : decode cL_law 1196 = .ok (.aload_n 2, 1) := by decide +kernel
theorem dL_law_1197 : decode cL_law 1197 = .ok (.aload_n 0, 1) := by decide +kernel
theorem dL_law_1198 : decode cL_law 1198 = .ok (.iload 4, 2) := by decide +kernel
theorem dL_law_1200 : decode cL_law 1200 = .ok (.iconst 1, 1) := by decide +kernel
theorem dL_law_1201 : decode cL_law 1201 = .ok (.iadd, 1) := by decide +kernel
theorem dL_law_1202 : decode cL_law 1202 = .ok (.iaload, 1) := by decide +kernel
theorem dL_law_1203 : decode cL_law 1203 = .ok (.invokevirtual 145, 3) := by decide +kernel
theorem dL_law_1206 : decode cL_law 1206 = .ok (.istore 6, 2) := by decide +kernel
theorem dL_law_1208 : decode cL_law 1208 = .ok (.aload_n 2, 1) := by decide +kernel
theorem dL_law_1209 : decode cL_law 1209 = .ok (.invokevirtual 83, 3) := by decide +kernel
theorem dL_law_1212 : decode cL_law 1212 = .ok (.iload 5, 2) := by decide +kernel
theorem dL_law_1214 : decode cL_law 1214 = .ok (.if_icmp .eq 5, 3) := by decide +kernel
theorem dL_law_1217 : decode cL_law 1217 = .ok (.iconst 0, 1) := by decide +kernel
theorem dL_law_1218 : decode cL_law 1218 = .ok (.ireturn, 1) := by decide +kernel
theorem dL_law_1219 : decode cL_law 1219 = .ok (.iload 5, 2) := by decide +kernel
theorem dL_law_1221 : decode cL_law 1221 = .ok (.ifCond .ne 15, 3) := by decide +kernel
theorem dL_law_1224 : decode cL_law 1224 = .ok (.aload_n 3, 1) := by decide +kernel
theorem dL_law_1225 : decode cL_law 1225 = .ok (.iconst 0, 1) := by decide +kernel
theorem dL_law_1226 : decode cL_law 1226 = .ok (.laload, 1) := by decide +kernel
theorem dL_law_1227 : decode cL_law 1227 = .ok (.iload 6, 2) := by decide +kernel
theorem dL_law_1229 : decode cL_law 1229 = .ok (.i2l, 1) := by decide +kernel
theorem dL_law_1230 : decode cL_law 1230 = .ok (.lcmp, 1) := by decide +kernel
theorem dL_law_1231 : decode cL_law 1231 = .ok (.ifCond .eq 5, 3) := by decide +kernel
theorem dL_law_1234 : decode cL_law 1234 = .ok (.iconst 0, 1) := by decide +kernel
theorem dL_law_1235 : decode cL_law 1235 = .ok (.ireturn, 1) := by decide +kernel
theorem dL_law_1236 : decode cL_law 1236 = .ok (.goto 219, 3) := by decide +kernel
theorem dL_law_1239 : decode cL_law 1239 = .ok (.aload_n 1, 1) := by decide +kernel
theorem dL_law_1240 : decode cL_law 1240 = .ok (.aload_n 0, 1) := by decide +kernel
theorem dL_law_1241 : decode cL_law 1241 = .ok (.iload 4, 2) := by decide +kernel
theorem dL_law_1243 : decode cL_law 1243 = .ok (.iconst 1, 1) := by decide +kernel
theorem dL_law_1244 : decode cL_law 1244 = .ok (.iadd, 1) := by decide +kernel
theorem dL_law_1245 : decode cL_law 1245 = .ok (.iaload, 1) := by decide +kernel
theorem dL_law_1246 : decode cL_law 1246 = .ok (.aload_n 0, 1) := by decide +kernel
theorem dL_law_1247 : decode cL_law 1247 = .ok (.iload 4, 2) := by decide +kernel
theorem dL_law_1249 : decode cL_law 1249 = .ok (.iconst 2, 1) := by decide +kernel
theorem dL_law_1250 : decode cL_law 1250 = .ok (.iadd, 1) := by decide +kernel
theorem dL_law_1251 : decode cL_law 1251 = .ok (.iaload, 1) := by decide +kernel
theorem dL_law_1252 : decode cL_law 1252 = .ok (.aload_n 3, 1) := by decide +kernel
theorem dL_law_1253 : decode cL_law 1253 = .ok (.invokestatic 146, 3) := by decide +kernel
theorem dL_law_1256 : decode cL_law 1256 = .ok (.istore 5, 2) := by decide +kernel
theorem dL_law_1258 : decode cL_law 1258 = .ok (.aload_n 2, 1) := by decide +kernel
theorem dL_law_1259 : decode cL_law 1259 = .ok (.aload_n 0, 1) := by decide +kernel
theorem dL_law_1260 : decode cL_law 1260 = .ok (.iload 4, 2) := by decide +kernel
theorem dL_law_1262 : decode cL_law 1262 = .ok (.iconst 1, 1) := by decide +kernel
theorem dL_law_1263 : decode cL_law 1263 = .ok (.iadd, 1) := by decide +kernel
theorem dL_law_1264 : decode cL_law 1264 = .ok (.iaload, 1) := by decide +kernel
theorem dL_law_1265 : decode cL_law 1265 = .ok (.aload_n 0, 1) := by decide +kernel
theorem dL_law_1266 : decode cL_law 1266 = .ok (.iload 4, 2) := by decide +kernel
theorem dL_law_1268 : decode cL_law 1268 = .ok (.iconst 2, 1) := by decide +kernel
theorem dL_law_1269 : decode cL_law 1269 = .ok (.iadd, 1) := by decide +kernel
theorem dL_law_1270 : decode cL_law 1270 = .ok (.iaload, 1) := by decide +kernel
theorem dL_law_1271 : decode cL_law 1271 = .ok (.invokevirtual 148, 3) := by decide +kernel
theorem dL_law_1274 : decode cL_law 1274 = .ok (.istore 6, 2) := by decide +kernel
theorem dL_law_1276 : decode cL_law 1276 = .ok (.aload_n 2, 1) := by decide +kernel
theorem dL_law_1277 : decode cL_law 1277 = .ok (.invokevirtual 83, 3) := by decide +kernel
theorem dL_law_1280 : decode cL_law 1280 = .ok (.iload 5, 2) := by decide +kernel
theorem dL_law_1282 : decode cL_law 1282 = .ok (.if_icmp .eq 5, 3) := by decide +kernel
theorem dL_law_1285 : decode cL_law 1285 = .ok (.iconst 0, 1) := by decide +kernel
theorem dL_law_1286 : decode cL_law 1286 = .ok (.ireturn, 1) := by decide +kernel
theorem dL_law_1287 : decode cL_law 1287 = .ok (.iload 5, 2) := by decide +kernel
theorem dL_law_1289 : decode cL_law 1289 = .ok (.ifCond .ne 15, 3) := by decide +kernel
theorem dL_law_1292 : decode cL_law 1292 = .ok (.aload_n 3, 1) := by decide +kernel
theorem dL_law_1293 : decode cL_law 1293 = .ok (.iconst 0, 1) := by decide +kernel
theorem dL_law_1294 : decode cL_law 1294 = .ok (.laload, 1) := by decide +kernel
theorem dL_law_1295 : decode cL_law 1295 = .ok (.iload 6, 2) := by decide +kernel
theorem dL_law_1297 : decode cL_law 1297 = .ok (.i2l, 1) := by decide +kernel
theorem dL_law_1298 : decode cL_law 1298 = .ok (.lcmp, 1) := by decide +kernel
theorem dL_law_1299 : decode cL_law 1299 = .ok (.ifCond .eq 5, 3) := by decide +kernel
theorem dL_law_1302 : decode cL_law 1302 = .ok (.iconst 0, 1) := by decide +kernel
theorem dL_law_1303 : decode cL_law 1303 = .ok (.ireturn, 1) := by decide +kernel
theorem dL_law_1304 : decode cL_law 1304 = .ok (.goto 151, 3) := by decide +kernel
theorem dL_law_1307 : decode cL_law 1307 = .ok (.aload_n 1, 1) := by decide +kernel
theorem dL_law_1308 : decode cL_law 1308 = .ok (.aload_n 0, 1) := by decide +kernel
theorem dL_law_1309 : decode cL_law 1309 = .ok (.iload 4, 2) := by decide +kernel
theorem dL_law_1311 : decode cL_law 1311 = .ok (.iconst 1, 1) := by decide +kernel
theorem dL_law_1312 : decode cL_law 1312 = .ok (.iadd, 1) := by decide +kernel
theorem dL_law_1313 : decode cL_law 1313 = .ok (.iaload, 1) := by decide +kernel
theorem dL_law_1314 : decode cL_law 1314 = .ok (.aload_n 0, 1) := by decide +kernel
theorem dL_law_1315 : decode cL_law 1315 = .ok (.iload 4, 2) := by decide +kernel
theorem dL_law_1317 : decode cL_law 1317 = .ok (.iconst 2, 1) := by decide +kernel
theorem dL_law_1318 : decode cL_law 1318 = .ok (.iadd, 1) := by decide +kernel
theorem dL_law_1319 : decode cL_law 1319 = .ok (.iaload, 1) := by decide +kernel
theorem dL_law_1320 : decode cL_law 1320 = .ok (.aload_n 0, 1) := by decide +kernel
theorem dL_law_1321 : decode cL_law 1321 = .ok (.iload 4, 2) := by decide +kernel
theorem dL_law_1323 : decode cL_law 1323 = .ok (.iconst 3, 1) := by decide +kernel
theorem dL_law_1324 : decode cL_law 1324 = .ok (.iadd, 1) := by decide +kernel
theorem dL_law_1325 : decode cL_law 1325 = .ok (.iaload, 1) := by decide +kernel
theorem dL_law_1326 : decode cL_law 1326 = .ok (.aload_n 3, 1) := by decide +kernel
theorem dL_law_1327 : decode cL_law 1327 = .ok (.invokestatic 149, 3) := by decide +kernel
theorem dL_law_1330 : decode cL_law 1330 = .ok (.istore 5, 2) := by decide +kernel
theorem dL_law_1332 : decode cL_law 1332 = .ok (.aload_n 2, 1) := by decide +kernel
theorem dL_law_1333 : decode cL_law 1333 = .ok (.aload_n 0, 1) := by decide +kernel
theorem dL_law_1334 : decode cL_law 1334 = .ok (.iload 4, 2) := by decide +kernel
theorem dL_law_1336 : decode cL_law 1336 = .ok (.iconst 1, 1) := by decide +kernel
theorem dL_law_1337 : decode cL_law 1337 = .ok (.iadd, 1) := by decide +kernel
theorem dL_law_1338 : decode cL_law 1338 = .ok (.iaload, 1) := by decide +kernel
theorem dL_law_1339 : decode cL_law 1339 = .ok (.aload_n 0, 1) := by decide +kernel
theorem dL_law_1340 : decode cL_law 1340 = .ok (.iload 4, 2) := by decide +kernel
theorem dL_law_1342 : decode cL_law 1342 = .ok (.iconst 2, 1) := by decide +kernel
theorem dL_law_1343 : decode cL_law 1343 = .ok (.iadd, 1) := by decide +kernel
theorem dL_law_1344 : decode cL_law 1344 = .ok (.iaload, 1) := by decide +kernel
theorem dL_law_1345 : decode cL_law 1345 = .ok (.aload_n 0, 1) := by decide +kernel
theorem dL_law_1346 : decode cL_law 1346 = .ok (.iload 4, 2) := by decide +kernel
theorem dL_law_1348 : decode cL_law 1348 = .ok (.iconst 3, 1) := by decide +kernel
theorem dL_law_1349 : decode cL_law 1349 = .ok (.iadd, 1) := by decide +kernel
theorem dL_law_1350 : decode cL_law 1350 = .ok (.iaload, 1) := by decide +kernel
theorem dL_law_1351 : decode cL_law 1351 = .ok (.invokevirtual 151, 3) := by decide +kernel
theorem dL_law_1354 : decode cL_law 1354 = .ok (.istore 6, 2) := by decide +kernel
theorem dL_law_1356 : decode cL_law 1356 = .ok (.aload_n 2, 1) := by decide +kernel
theorem dL_law_1357 : decode cL_law 1357 = .ok (.invokevirtual 83, 3) := by decide +kernel
theorem dL_law_1360 : decode cL_law 1360 = .ok (.iload 5, 2) := by decide +kernel
theorem dL_law_1362 : decode cL_law 1362 = .ok (.if_icmp .eq 5, 3) := by decide +kernel
theorem dL_law_1365 : decode cL_law 1365 = .ok (.iconst 0, 1) := by decide +kernel
theorem dL_law_1366 : decode cL_law 1366 = .ok (.ireturn, 1) := by decide +kernel
theorem dL_law_1367 : decode cL_law 1367 = .ok (.iload 5, 2) := by decide +kernel
theorem dL_law_1369 : decode cL_law 1369 = .ok (.ifCond .ne 15, 3) := by decide +kernel
theorem dL_law_1372 : decode cL_law 1372 = .ok (.aload_n 3, 1) := by decide +kernel
theorem dL_law_1373 : decode cL_law 1373 = .ok (.iconst 0, 1) := by decide +kernel
theorem dL_law_1374 : decode cL_law 1374 = .ok (.laload, 1) := by decide +kernel
theorem dL_law_1375 : decode cL_law 1375 = .ok (.iload 6, 2) := by decide +kernel
theorem dL_law_1377 : decode cL_law 1377 = .ok (.i2l, 1) := by decide +kernel
theorem dL_law_1378 : decode cL_law 1378 = .ok (.lcmp, 1) := by decide +kernel
theorem dL_law_1379 : decode cL_law 1379 = .ok (.ifCond .eq 5, 3) := by decide +kernel
theorem dL_law_1382 : decode cL_law 1382 = .ok (.iconst 0, 1) := by decide +kernel
theorem dL_law_1383 : decode cL_law 1383 = .ok (.ireturn, 1) := by decide +kernel
theorem dL_law_1384 : decode cL_law 1384 = .ok (.goto 71, 3) := by decide +kernel
theorem dL_law_1387 : decode cL_law 1387 = .ok (.aload_n 1, 1) := by decide +kernel
theorem dL_law_1388 : decode cL_law 1388 = .ok (.invokevirtual 152, 3) := by decide +kernel
theorem dL_law_1391 : decode cL_law 1391 = .ok (.aload_n 2, 1) := by decide +kernel
theorem dL_law_1392 : decode cL_law 1392 = .ok (.invokevirtual 155, 3) := by decide +kernel
theorem dL_law_1395 : decode cL_law 1395 = .ok (.if_icmp .eq 60, 3) := by decide +kernel
theorem dL_law_1398 : decode cL_law 1398 = .ok (.iconst 0, 1) := by decide +kernel
theorem dL_law_1399 : decode cL_law 1399 = .ok (.ireturn, 1) := by decide +kernel
theorem dL_law_1400 : decode cL_law 1400 = .ok (.aload_n 1, 1) := by decide +kernel
theorem dL_law_1401 : decode cL_law 1401 = .ok (.invokevirtual 156, 3) := by decide +kernel
theorem dL_law_1404 : decode cL_law 1404 = .ok (.dstore 5, 2) := by decide +kernel
theorem dL_law_1406 : decode cL_law 1406 = .ok (.aload_n 2, 1) := by decide +kernel
theorem dL_law_1407 : decode cL_law 1407 = .ok (.invokevirtual 160, 3) := by decide +kernel
theorem dL_law_1410 : decode cL_law 1410 = .ok (.dstore 7, 2) := by decide +kernel
theorem dL_law_1412 : decode cL_law 1412 = .ok (.dload 5, 2) := by decide +kernel
theorem dL_law_1414 : decode cL_law 1414 = .ok (.dload 7, 2) := by decide +kernel
theorem dL_law_1416 : decode cL_law 1416 = .ok (.dcmp .l, 1) := by decide +kernel
theorem dL_law_1417 : decode cL_law 1417 = .ok (.ifCond .eq 21, 3) := by decide +kernel
theorem dL_law_1420 : decode cL_law 1420 = .ok (.dload 5, 2) := by decide +kernel
theorem dL_law_1422 : decode cL_law 1422 = .ok (.dload 5, 2) := by decide +kernel
theorem dL_law_1424 : decode cL_law 1424 = .ok (.dcmp .l, 1) := by decide +kernel
theorem dL_law_1425 : decode cL_law 1425 = .ok (.ifCond .eq 11, 3) := by decide +kernel
theorem dL_law_1428 : decode cL_law 1428 = .ok (.dload 7, 2) := by decide +kernel
theorem dL_law_1430 : decode cL_law 1430 = .ok (.dload 7, 2) := by decide +kernel
theorem dL_law_1432 : decode cL_law 1432 = .ok (.dcmp .l, 1) := by decide +kernel
theorem dL_law_1433 : decode cL_law 1433 = .ok (.ifCond .ne 5, 3) := by decide +kernel
theorem dL_law_1436 : decode cL_law 1436 = .ok (.iconst 0, 1) := by decide +kernel
theorem dL_law_1437 : decode cL_law 1437 = .ok (.ireturn, 1) := by decide +kernel
theorem dL_law_1438 : decode cL_law 1438 = .ok (.goto 17, 3) := by decide +kernel
theorem dL_law_1441 : decode cL_law 1441 = .ok (.aload_n 1, 1) := by decide +kernel
theorem dL_law_1442 : decode cL_law 1442 = .ok (.invokevirtual 161, 3) := by decide +kernel
theorem dL_law_1445 : decode cL_law 1445 = .ok (.aload_n 2, 1) := by decide +kernel
theorem dL_law_1446 : decode cL_law 1446 = .ok (.invokevirtual 165, 3) := by decide +kernel
theorem dL_law_1449 : decode cL_law 1449 = .ok (.lcmp, 1) := by decide +kernel
theorem dL_law_1450 : decode cL_law 1450 = .ok (.ifCond .eq 5, 3) := by decide +kernel
theorem dL_law_1453 : decode cL_law 1453 = .ok (.iconst 0, 1) := by decide +kernel
theorem dL_law_1454 : decode cL_law 1454 = .ok (.ireturn, 1) := by decide +kernel
theorem dL_law_1455 : decode cL_law 1455 = .ok (.iinc 4 4, 3) := by decide +kernel
theorem dL_law_1458 : decode cL_law 1458 = .ok (.goto (-1435), 3) := by decide +kernel
theorem dL_law_1461 : decode cL_law 1461 = .ok (.iconst 1, 1) := by decide +kernel
theorem dL_law_1462 : decode cL_law 1462 = .ok (.ireturn, 1) := by decide +kernel
end
section
/-! A SMALL MACHINE OVER THE KIT: cells by number (number i lies at lo + i), values and locals as lists, a triple Ev for a place in a method's body, a contract Cn for a whole method. -/
abbrev mAc : Type := (Nat × (Nat → Int32)) ⊕ (Nat × (Nat → Int64)) ⊕ (Nat × Nat × (Nat → Option Nat)) ⊕ (Nat × List Value)
abbrev aI (n : Nat) (f : Nat → Int32) : mAc := .inl (n, f)
abbrev aL (n : Nat) (f : Nat → Int64) : mAc := .inr (.inl (n, f))
abbrev aR (t n : Nat) (f : Nat → Option Nat) : mAc := .inr (.inr (.inl (t, n, f)))
abbrev aO (c : Nat) (fs : List Value) : mAc := .inr (.inr (.inr (c, fs)))
abbrev mH : Type := Nat → Option mAc
def mset (h : mH) (a : Nat) (e : mAc) : mH := fun q => if q = a then some e else h q
theorem mset_s (h : mH) (a : Nat) (e : mAc) : mset h a e a = some e := by simp [mset]
theorem mset_n {h : mH} {a : Nat} {e : mAc} {q : Nat} (hq : q ≠ a) : mset h a e q = h q := by simp [mset, hq]
/-- what stays the same over a run: the launch, the kit's tables, classes of arrays, the first address, addresses of what is read alone, what is read alone -/
abbrev mX : Type := Launch × va_G × (Nat → ClassId) × Nat × (Nat → Nat) × (Nat → Option (Nat × (Nat → Int32)))
def xl (X : mX) : Launch := X.1
def xD (X : mX) : va_G := X.2.1
def xK (X : mX) : Nat → ClassId := X.2.2.1
def xlo (X : mX) : Nat := X.2.2.2.1
def xta (X : mX) : Nat → Nat := X.2.2.2.2.1
def xro (X : mX) : Nat → Option (Nat × (Nat → Int32)) := X.2.2.2.2.2
def xA (X : mX) : Nat → Prop := fun q => xlo X ≤ q
def xad (X : mX) (i : Nat) : Nat := if i < 1000000 then xlo X + i else xta X (i - 1000000)
def cv (X : mX) : Value → Value
  | .ref i => .ref (xad X i)
  | .int x => .int x
  | .long x => .long x
  | .double x => .double x
  | .float x => .float x
  | .null => .null
  | .retAddr x => .retAddr x
def cvE (X : mX) : mAc → va_E
  | .inl (n, f) => .inl (xK X 0, n, .inl f)
  | .inr (.inl (n, f)) => .inl (xK X 1, n, .inr (.inl f))
  | .inr (.inr (.inl (t, n, f))) => .inl (xK X t, n, .inr (.inr (.inr (.inr (fun j => (f j).map (xad X))))))
  | .inr (.inr (.inr (c, fs))) => .inr (c, fs.map (cv X))
theorem cv_cat (X : mX) (v : Value) : (cv X v).category = v.category := by cases v <;> rfl
theorem cv_cats (X : mX) (l : List Value) : ((l.map (cv X)).map fun v => v.category).sum = (l.map fun v => v.category).sum := by
  rw [List.map_map]
  congr 1
  exact List.map_congr_left fun v _ => cv_cat X v
/-- a method: the number of its class, its name, bytes, locals, answer, handlers, the frames and words that it nests -/
abbrev mMD : Type := Nat × MethodName × ByteArray × Nat × Option FieldType × List (Nat × Nat × Nat × Nat) × Nat × Nat
abbrev mOwn (M : mMD) : Nat := M.1
abbrev mNm (M : mMD) : MethodName := M.2.1
abbrev mBy (M : mMD) : ByteArray := M.2.2.1
abbrev mML (M : mMD) : Nat := M.2.2.2.1
abbrev mRt (M : mMD) : Option FieldType := M.2.2.2.2.1
abbrev mHH (M : mMD) : List (Nat × Nat × Nat × Nat) := M.2.2.2.2.2.1
abbrev mFr (M : mMD) : Nat := M.2.2.2.2.2.2.1
abbrev mLo (M : mMD) : Nat := M.2.2.2.2.2.2.2
def RN : Nat → String := fun k => match k with
  | 0 => RX0
  | 1 => RX1
  | 2 => RX2
  | 3 => RX3
  | 4 => RX4
  | 5 => RX5
  | 6 => RX6
  | 7 => RX7
  | 8 => RL
  | 9 => RJxe99ae
  | 10 => RJ6
  | _ => RJ9
def WL : List Cond := lw_tbl.filter goodWord
theorem WL_mem {w : Cond} (i : Nat) (h : lw_tbl[i]? = some w) (g : goodWord w = true) : w ∈ WL := List.mem_filter.mpr ⟨List.mem_of_getElem? h, g⟩
theorem WL_good : GoodIn WL WL := fun _ h => ⟨h, good_of_word (List.mem_filter.mp h).2⟩
theorem WL_tbl {w : Cond} (h : w ∈ WL) : w ∈ lw_tbl := (List.mem_filter.mp h).1
def wsM (M : mMD) : List Cond := .code (mNm M) (mBy M) (mML M) (mRt M) :: WL
def wsH (M : mMD) : List Cond := .codeWith (mNm M) (mBy M) (mML M) (mRt M) (mHH M) :: WL
def xtys (X : mX) : List (ClassId × FieldType) := [(xK X 0, .int), (xK X 1, .long), (xK X 2, .object RX1), (xK X 3, .object RX4)]
def exn : Nat → String := fun k => match k with
  | 0 => "java/lang/IndexOutOfBoundsException"
  | 1 => "java/lang/IllegalArgumentException"
  | _ => "java/lang/IllegalStateException"
def xstrs : List (Nat × String) := [(333, "what is out of range"), (323, "no such setting"), (321, "no such text"), (80, "no such place"), (176, "piece is below 0"), (331, "value is out of range"), (205, "no such slot"), (335, "the buffer is not a complete text"), (337, "the store has not enough slots or room"), (91, "the text would have more than 40 signs"), (104, "many is out of range"), (141, "code is not 33 to 126"), (144, "the buffer is full"), (155, "there is no saved state")]
def xstat : Nat → String := fun k => match k with
  | 0 => "FIRST_VALUES"
  | 1 => "LOWEST_VALUES"
  | _ => "HIGHEST_VALUES"
def exDc : List String := ["java/lang/RuntimeException", "java/lang/Exception", "java/lang/Throwable"]
/-- an array of ints that is read alone: its cell whole, its class that of int arrays -/
def va_R (X : mX) (t n : Nat) (f : Nat → Int32) (U : State) (H : Heap) : Prop := ∃ cell : Cell, H[t]? = some cell ∧ U.isArrayOf cell .int ∧ cell.vm ≠ .unknown ∧ cell.slots.size = n ∧ (∀ j : Nat, j < n → cell.slots[j]? = some (.int (f j))) ∧ ¬ xA X t
/-- what stays the same, of a state's tables and of the heap below lo -/
def Fx (X : mX) (U : State) (H : Heap) : Prop :=
  (xl X).stackTraces = false ∧ va_K (xD X) vwCl (xtys X) U ∧ (∀ k, k < 3 → va_Nw (.castable (exn k) (exn k)) U) ∧ (∀ j k, j < 3 → k < 3 → j ≠ k → va_Nc (exn j) (exn k) U) ∧ va_Nw (.castable "[I" "java/lang/Cloneable") U ∧
  (∀ q ∈ xstrs, ∃ a, vk_R RX6 q.1 q.2 a U) ∧ vx_Zq Bundle.tN "UNASSIGNED_STACK" Bundle.steD (xA X) U H ∧ vx_Zq Bundle.tN "SUPPRESSED_SENTINEL" Bundle.listD (xA X) U H ∧
  (∀ k, k < 3 → va_Z RX6 (xstat k) "[I" (.ref (xta X k)) (xA X) U H) ∧ (∀ k n f, xro X (1000000 + k) = some (n, f) → va_R X (xta X k) n f U H) ∧ va_AO RX1 U ∧ va_AO RX4 U ∧ ((∃ cell : Cell, H[xta X 0]? = some cell ∧ U.vm.findClass "[I" = some cell.cls) ∧ ¬ xA X (xta X 0)) ∧ ∀ n ∈ exDc, va_Nw (.declares (Bundle.initS n)) U
theorem va_R.go {X : mX} {t n : Nat} {f : Nat → Int32} {u U : State} {H H1 : Heap} (hvm : u.vm.Alike U.vm) (hq : ∀ a : Nat, a < H.size → ¬ xA X a → H1[a]? = H[a]?) (h : va_R X t n f u H) : va_R X t n f U H1 := by
  obtain ⟨cell, h1, h2, h3, h4, h5, h6⟩ := h
  exact ⟨cell, by rw [hq t (Array.getElem?_eq_some_iff.mp h1).1 h6]; exact h1, State.isArrayOf_alike hvm h2, h3, h4, h5, h6⟩
theorem Fx.go {X : mX} {s U : State} {H H1 : Heap} (h : Fx X s H) (hW : s.WarmedH U.vm) (hq : ∀ a : Nat, a < H.size → ¬ xA X a → H1[a]? = H[a]?) : Fx X U H1 := by
  obtain ⟨h1, h2, h3, h3b, h4, h5, h6, h7, h8, h9, h10, h11, ⟨⟨cell, e1, e2⟩, h12⟩, h13⟩ := h
  have hvm := hW.alike
  refine ⟨h1, h2.moved hvm, fun k hk => (h3 k hk).warmC hW, fun j k hj hk hn => va_Nc.moved hvm (h3b j k hj hk hn), h4.warmC hW, fun q hq' => ?_, (h6.moved hvm).kept hq, (h7.moved hvm).kept hq, fun k hk => ((h8 k hk).moved hvm).kept hq, fun k n f e => (h9 k n f e).go hvm hq, h10.moved hvm, h11.moved hvm, ⟨⟨cell, ?_, ?_⟩, h12⟩, fun n hn => (h13 n hn).warmD hW⟩
  · obtain ⟨a, ha⟩ := h5 q hq'
    exact ⟨a, ha.warm hW⟩
  · rw [hq _ (Array.getElem?_eq_some_iff.mp e1).1 h12]; exact e1
  · rw [hvm.findClass]; exact e2
/-- the numbered cells lie in the heap; f: the heap's size, where it is known -/
def Wd (X : mX) (h : mH) (f : Option Nat) (H : Heap) : Prop :=
  (∀ a e, h a = some e → a < 1000000 ∧ va_at (xD X) vwCl (xlo X + a, cvE X e) H) ∧ xlo X ≤ H.size ∧ ∀ n, f = some n → H.size = xlo X + n ∧ n < 1000000 ∧ ∀ a, n ≤ a → h a = none
theorem Wd.no {X : mX} {h : mH} {f : Option Nat} {H : Heap} (w : Wd X h f H) : Wd X h none H := ⟨w.1, w.2.1, fun n hn => by cases hn⟩
theorem Wd.to {X : mX} {h : mH} {f f' : Option Nat} {H : Heap} (w : Wd X h f H) (hf : f = f' ∨ f' = none) : Wd X h f' H := by
  rcases hf with rfl | rfl
  · exact w
  · exact w.no
/-- one cell is written -/
theorem Wd.put {X : mX} {h : mH} {f : Option Nat} {H H1 : Heap} {a : Nat} {e0 e : mAc} (w : Wd X h f H) (ha : h a = some e0) (z : H1.size = H.size) (hq : ∀ q, q ≠ xlo X + a → H1[q]? = H[q]?) (he : va_at (xD X) vwCl (xlo X + a, cvE X e) H1) : Wd X (mset h a e) f H1 := by
  refine ⟨fun b e1 hb => ?_, by rw [z]; exact w.2.1, fun n hn => ?_⟩
  · by_cases hba : b = a
    · subst hba
      rw [mset_s] at hb
      cases hb
      exact ⟨(w.1 b e0 ha).1, he⟩
    · rw [mset_n hba] at hb
      obtain ⟨k1, k2⟩ := w.1 b e1 hb
      exact ⟨k1, va_at.kept k2 (hq _ (by show xlo X + b ≠ xlo X + a; omega))⟩
  · obtain ⟨k1, k2, k3⟩ := w.2.2 n hn
    refine ⟨by rw [z]; exact k1, k2, fun b hb => ?_⟩
    have hba : b ≠ a := fun q => by
      subst q
      rw [k3 b hb] at ha
      cases ha
    rw [mset_n hba]
    exact k3 b hb
/-- one cell is new -/
theorem Wd.push {X : mX} {h : mH} {n : Nat} {H H1 : Heap} {e : mAc} (w : Wd X h (some n) H) (hn1 : n + 1 < 1000000) (z : H1.size = H.size + 1) (hq : ∀ q, q < H.size → H1[q]? = H[q]?) (he : va_at (xD X) vwCl (H.size, cvE X e) H1) : Wd X (mset h n e) (some (n + 1)) H1 := by
  obtain ⟨k1, k2, k3⟩ := w.2.2 n rfl
  refine ⟨fun b e1 hb => ?_, by rw [z]; have := w.2.1; omega, fun n' hn => ?_⟩
  · by_cases hba : b = n
    · subst hba
      rw [mset_s] at hb
      cases hb
      rw [k1] at he
      exact ⟨k2, he⟩
    · rw [mset_n hba] at hb
      obtain ⟨j1, j2⟩ := w.1 b e1 hb
      exact ⟨j1, va_at.kept j2 (hq _ j2.lt)⟩
  · cases hn
    refine ⟨by rw [z, k1]; omega, hn1, fun b hb => ?_⟩
    rw [mset_n (by omega)]
    exact k3 b (by omega)
abbrev jk : Value := .retAddr 0
/-- the machine's locals hold the listed ones, but for those that are unset -/
def LR (X : mX) (L : List Value) (ls : Array Slot) (n : Nat) : Prop := ls.size = n ∧ L.length = n ∧ lv_wf ls ∧ ∀ (i : Nat) (v : Value), L[i]? = some v → v ≠ jk → ls[i]? = some (.val (cv X v))
/-- the first half of a long or double goes when its second is written over -/
def stk (L : List Value) (j : Nat) : List Value := match L[j]? with
  | some (.long _) => L.set j jk
  | some (.double _) => L.set j jk
  | _ => L
def stl (L : List Value) (i : Nat) (v : Value) : List Value := (if i = 0 then L else stk L (i - 1)).set i v
def stl2 (L : List Value) (i : Nat) (v : Value) : List Value := (stl L i v).set (i + 1) jk
/-- the listed locals as the kit wants them -/
def lvl (X : mX) (L : List Value) : List (Nat × Value) := (List.range L.length).filterMap (fun i => match L[i]? with
  | some v => if v = jk then none else some (i, cv X v)
  | none => none)
theorem lvl_mem {X : mX} {L : List Value} {i : Nat} {w : Value} : (i, w) ∈ lvl X L ↔ ∃ v, L[i]? = some v ∧ v ≠ jk ∧ w = cv X v := by
  unfold lvl
  rw [List.mem_filterMap]
  constructor
  · rintro ⟨j, hj, h⟩
    cases hv : L[j]? with
    | none => rw [hv] at h; cases h
    | some v =>
      rw [hv] at h
      by_cases hjk : v = jk
      · simp [hjk] at h
      · simp only [hjk, if_false, Option.some.injEq, Prod.mk.injEq] at h
        obtain ⟨rfl, rfl⟩ := h
        exact ⟨v, hv, hjk, rfl⟩
  · rintro ⟨v, hv, hjk, rfl⟩
    refine ⟨i, List.mem_range.mpr (List.getElem?_eq_some_iff.mp hv).1, ?_⟩
    rw [hv]
    simp [hjk]
theorem LR.has {X : mX} {L : List Value} {ls : Array Slot} {n : Nat} (h : LR X L ls n) : lv_has ls n (lvl X L) := by
  refine ⟨h.1, h.2.2.1, fun q hq => ?_⟩
  obtain ⟨i, w⟩ := q
  obtain ⟨v, hv, hjk, rfl⟩ := lvl_mem.mp hq
  exact h.2.2.2 i v hv hjk
theorem stk_len (L : List Value) (j : Nat) : (stk L j).length = L.length := by
  unfold stk
  split <;> simp
theorem stk_get {L : List Value} {j k : Nat} {w : Value} (h : (stk L j)[k]? = some w) (hw : w ≠ jk) : L[k]? = some w ∧ ¬ (k = j ∧ w.category = 2) := by
  have set : ∀ u : Value, L[j]? = some u → (L.set j jk)[k]? = some w → L[k]? = some w ∧ ¬ (k = j ∧ w.category = 2) := by
    intro u hu h
    by_cases hk : k = j
    · subst hk
      rw [List.getElem?_set_self (List.getElem?_eq_some_iff.mp hu).1] at h
      exact absurd (Option.some.inj h).symm hw
    · rw [List.getElem?_set_ne (by omega)] at h
      exact ⟨h, fun q => hk q.1⟩
  unfold stk at h
  cases e : L[j]? with
  | none =>
    rw [e] at h
    exact ⟨h, fun q => by rw [q.1, e] at h; cases h⟩
  | some u =>
    rw [e] at h
    cases u with
    | long x => exact set _ e h
    | double x => exact set _ e h
    | _ => exact ⟨h, fun q => by rw [q.1, e] at h; rw [← Option.some.inj h] at q; exact absurd q.2 (Nat.ne_of_lt (Nat.lt_succ_self 1))⟩
theorem stl_len (L : List Value) (i : Nat) (v : Value) : (stl L i v).length = L.length := by
  unfold stl
  rw [List.length_set]
  split
  · rfl
  · exact stk_len _ _
theorem stl_get {L : List Value} {i j : Nat} {v w : Value} (hi : i < L.length) (h : (stl L i v)[j]? = some w) (hw : w ≠ jk) : (j = i ∧ w = v) ∨ (j ≠ i ∧ L[j]? = some w ∧ ¬ (j + 1 = i ∧ w.category = 2)) := by
  unfold stl at h
  by_cases hj : j = i
  · subst hj
    rw [List.getElem?_set_self (by split; exact hi; rw [stk_len]; exact hi)] at h
    exact Or.inl ⟨rfl, (Option.some.inj h).symm⟩
  · rw [List.getElem?_set_ne (by omega)] at h
    by_cases h0 : i = 0
    · rw [if_pos h0] at h
      exact Or.inr ⟨hj, h, by omega⟩
    · rw [if_neg h0] at h
      obtain ⟨h1, h2⟩ := stk_get h hw
      exact Or.inr ⟨hj, h1, fun q => h2 ⟨by omega, q.2⟩⟩
theorem LR.st1 {X : mX} {L : List Value} {ls ls' : Array Slot} {n i : Nat} {v : Value} (h : LR X L ls n) (hi : i < n) (h' : lv_has ls' n ((i, cv X v) :: (lvl X L).filter (fun q => !(q.1 == i) && !(q.1 + 1 == i && q.2.category == 2)))) : LR X (stl L i v) ls' n := by
  refine ⟨h'.1, by rw [stl_len]; exact h.2.1, h'.2.1, fun j w hj hw => ?_⟩
  refine h'.2.2 (j, cv X w) ?_
  rcases stl_get (by rw [h.2.1]; exact hi) hj hw with ⟨rfl, rfl⟩ | ⟨h1, h2, h3⟩
  · exact List.mem_cons_self
  · refine List.mem_cons_of_mem _ (List.mem_filter.mpr ⟨lvl_mem.mpr ⟨w, h2, hw, rfl⟩, ?_⟩)
    simp only [cv_cat]
    by_cases h4 : j + 1 = i
    · have h5 : ¬ w.category = 2 := fun q => h3 ⟨h4, q⟩
      simp [h1, h5]
    · simp [h1, h4]
theorem LR.st2 {X : mX} {L : List Value} {ls ls' : Array Slot} {n i : Nat} {v : Value} (h : LR X L ls n) (hi : i + 1 < n) (h' : lv_has ls' n ((i, cv X v) :: (lvl X L).filter (fun q => !(q.1 == i) && (!(q.1 == i + 1) && !(q.1 + 1 == i && q.2.category == 2))))) : LR X (stl2 L i v) ls' n := by
  refine ⟨h'.1, by unfold stl2; rw [List.length_set, stl_len]; exact h.2.1, h'.2.1, fun j w hj hw => ?_⟩
  refine h'.2.2 (j, cv X w) ?_
  unfold stl2 at hj
  by_cases h6 : j = i + 1
  · subst h6
    rw [List.getElem?_set_self (by rw [stl_len, h.2.1]; exact hi)] at hj
    exact absurd (Option.some.inj hj).symm hw
  · rw [List.getElem?_set_ne (by omega)] at hj
    rcases stl_get (by rw [h.2.1]; omega) hj hw with ⟨rfl, rfl⟩ | ⟨h1, h2, h3⟩
    · exact List.mem_cons_self
    · refine List.mem_cons_of_mem _ (List.mem_filter.mpr ⟨lvl_mem.mpr ⟨w, h2, hw, rfl⟩, ?_⟩)
      simp only [cv_cat]
      by_cases h4 : j + 1 = i
      · have h5 : ¬ w.category = 2 := fun q => h3 ⟨h4, q⟩
        simp [h1, h5, h6]
      · simp [h1, h4, h6]
/-- how a method ends: an answer, or an exception by its number -/
abbrev mO : Type := Option Value ⊕ Nat
def Qcv (X : mX) (Q : mO → mH → Prop) (f : Option Nat) : Array Value → State → Outcome → State → Prop := fun _ st oc t => ∃ (v : Option Value) (h : mH), oc = .returned (v.map (cv X)) ∧ Q (.inl v) h ∧ Wd X h f t.heap ∧ va_F (xA X) st t
def Qxv (X : mX) (Q : mO → mH → Prop) : String → State → State → Prop := fun E st t => ∃ (k : Nat) (h : mH), k < 3 ∧ E = exn k ∧ Q (.inr k) h ∧ Wd X h none t.heap ∧ va_F (xA X) st t
/-- the machine at a place of a method's body -/
def Cx (X : mX) (M : mMD) (R : Room) (p : Program) (s : State) (m : MethodId) (args : Array Value) (meth : Method) (c : Code) : Prop :=
  p.tables.exec = Jvm.exec ∧ c.code = mBy M ∧ meth.sig.returnType = mRt M ∧ c.maxLocals = mML M ∧ s.vm.findClass (RN (mOwn M)) = some m.cls ∧ (∀ w ∈ WL, w.before args s = true) ∧ meth.locks = false ∧ meth.name = (mNm M).name ∧ c.exceptionTable.toList.map (fun h => (h.startPc, h.endPc, h.handlerPc, h.catchType)) = mHH M ∧ R.frames = mFr M ∧ R.locals = mLo M ∧ Fx X s s.heap ∧ xlo X ≤ s.heap.size
/-- the heap's size if known, at the end too; cells and slots made so far, and those that the whole may make -/
abbrev mB : Type := Option Nat × Option Nat × Nat × Nat × Nat × Nat
def Ev (X : mX) (M : mMD) (B : mB) (pc : Nat) (L st : List Value) (h : mH) (Q : mO → mH → Prop) : Prop :=
  ∀ (p : Program) (e : Env) (s : State) (m : MethodId) (args : Array Value) (below : List Frame) (meth : Method) (c : Code) (H : Heap) (locs : List Loc) (ls : Array Slot) (R : Room),
    Cx X M R p s m args meth c → R.cells = B.2.2.2.2.1 → R.slots = B.2.2.2.2.2 → Wd X h B.1 H → va_S (xA X) s.heap H locs → LR X L ls (mML M) →
    W p (xl X) e R s m args below meth c H locs B.2.2.1 B.2.2.2.1 (vx_MQ below (Qcv X Q B.2.1) (Qxv X Q) args s B.2.2.2.2.1 B.2.2.2.2.2 (xA X)) (F0 m pc ls (st.map (cv X)))
def mRm (M : mMD) (mc ms : Nat) : Room := { frames := mFr M, cells := mc, slots := ms, locals := mLo M }
def mPc (X : mX) (f : Option Nat) (as : List Value) (h : mH) : Array Value → State → Prop := va_Pc (as.map (cv X)) (fun U => Wd X h f U.heap ∧ Fx X U U.heap)
/-- a whole method, from these arguments and cells; ws: its words -/
def CnW (X : mX) (M : mMD) (ws : List Cond) (f f' : Option Nat) (mc ms : Nat) (as : List Value) (h : mH) (Q : mO → mH → Prop) : Prop :=
  vx_Met (xl X) (mNm M) ws (mRm M mc ms) (mPc X f as h) (Qcv X Q f') (Qxv X Q) mc ms (xA X)
abbrev Cn (X : mX) (M : mMD) (f f' : Option Nat) (mc ms : Nat) (as : List Value) (h : mH) (Q : mO → mH → Prop) : Prop := CnW X M (wsM M) f f' mc ms as h Q
abbrev CnH (X : mX) (M : mMD) (f f' : Option Nat) (mc ms : Nat) (as : List Value) (h : mH) (Q : mO → mH → Prop) : Prop := CnW X M (wsH M) f f' mc ms as h Q
/-- the locals with which a method begins -/
def entA : List Value → List Value
  | [] => []
  | .long x :: vs => .long x :: jk :: entA vs
  | .double x :: vs => .double x :: jk :: entA vs
  | v :: vs => v :: entA vs
def ent (as : List Value) (n : Nat) : List Value := entA as ++ List.replicate (n - (entA as).length) jk
end
section
theorem ev_iconst {X : mX} {M : mMD} {B : mB} {pc : Nat} {L st : List Value} {h : mH} {Q : mO → mH → Prop} {n : Int} (v : Int32) (hd : decode (mBy M) pc = .ok (.iconst n, 1)) (hv : Int32.ofInt n = v) (k : Ev X M B (pc + 1) L (.int v :: st) h Q) : Ev X M B pc L (st) h Q :=
  fun p e s m args below meth c H locs ls R C hc hs hW hS hL => lv_iconst C.1 C.2.1 hd hv (k p e s m args below meth c H locs ls R C hc hs hW hS hL)
theorem ev_bipush {X : mX} {M : mMD} {B : mB} {pc : Nat} {L st : List Value} {h : mH} {Q : mO → mH → Prop} {n : Int} (v : Int32) (hd : decode (mBy M) pc = .ok (.bipush n, 2)) (hv : (Int8.ofInt n).toInt32 = v) (k : Ev X M B (pc + 2) L (.int v :: st) h Q) : Ev X M B pc L (st) h Q :=
  fun p e s m args below meth c H locs ls R C hc hs hW hS hL => lv_bipush C.1 C.2.1 hd hv (k p e s m args below meth c H locs ls R C hc hs hW hS hL)
theorem ev_sipush {X : mX} {M : mMD} {B : mB} {pc : Nat} {L st : List Value} {h : mH} {Q : mO → mH → Prop} {n : Int} (v : Int32) (hd : decode (mBy M) pc = .ok (.sipush n, 3)) (hv : (Int16.ofInt n).toInt32 = v) (k : Ev X M B (pc + 3) L (.int v :: st) h Q) : Ev X M B pc L (st) h Q :=
  fun p e s m args below meth c H locs ls R C hc hs hW hS hL => lv_sipush C.1 C.2.1 hd hv (k p e s m args below meth c H locs ls R C hc hs hW hS hL)
theorem ev_lconst {X : mX} {M : mMD} {B : mB} {pc : Nat} {L st : List Value} {h : mH} {Q : mO → mH → Prop} {n : Fin 2} (v : Int64) (hd : decode (mBy M) pc = .ok (.lconst n, 1)) (hv : Int64.ofNat (n : Nat) = v) (k : Ev X M B (pc + 1) L (.long v :: st) h Q) : Ev X M B pc L (st) h Q :=
  fun p e s m args below meth c H locs ls R C hc hs hW hS hL => lv_lconst C.1 C.2.1 hd hv (k p e s m args below meth c H locs ls R C hc hs hW hS hL)
theorem ev_dconst0 {X : mX} {M : mMD} {B : mB} {pc : Nat} {L st : List Value} {h : mH} {Q : mO → mH → Prop}  (hd : decode (mBy M) pc = .ok (.dconst 0, 1))  (k : Ev X M B (pc + 1) L (.double FP.dconst0 :: st) h Q) : Ev X M B pc L (st) h Q :=
  fun p e s m args below meth c H locs ls R C hc hs hW hS hL => lv_dconst0 C.1 C.2.1 hd  (k p e s m args below meth c H locs ls R C hc hs hW hS hL)
theorem ev_dconst1 {X : mX} {M : mMD} {B : mB} {pc : Nat} {L st : List Value} {h : mH} {Q : mO → mH → Prop}  (hd : decode (mBy M) pc = .ok (.dconst 1, 1))  (k : Ev X M B (pc + 1) L (.double FP.dconst1 :: st) h Q) : Ev X M B pc L (st) h Q :=
  fun p e s m args below meth c H locs ls R C hc hs hW hS hL => lv_dconst1 C.1 C.2.1 hd  (k p e s m args below meth c H locs ls R C hc hs hW hS hL)
theorem ev_iload_n {X : mX} {M : mMD} {B : mB} {pc : Nat} {L st : List Value} {h : mH} {Q : mO → mH → Prop} {k : Fin 4} {i : Nat} {x : Int32} (hd : decode (mBy M) pc = .ok (.iload_n k, 1)) (hi : (k : Nat) = i) (hl : L[i]? = some (.int x)) (k : Ev X M B (pc + 1) L (.int x :: st) h Q) : Ev X M B pc L (st) h Q :=
  fun p e s m args below meth c H locs ls R C hc hs hW hS hL => lv_iload_n C.1 C.2.1 hd hi (hL.2.2.2 _ _ hl (fun q => by cases q)) (k p e s m args below meth c H locs ls R C hc hs hW hS hL)
theorem ev_iload {X : mX} {M : mMD} {B : mB} {pc : Nat} {L st : List Value} {h : mH} {Q : mO → mH → Prop} {i : Nat} {x : Int32} (hd : decode (mBy M) pc = .ok (.iload i, 2)) (hl : L[i]? = some (.int x)) (k : Ev X M B (pc + 2) L (.int x :: st) h Q) : Ev X M B pc L (st) h Q :=
  fun p e s m args below meth c H locs ls R C hc hs hW hS hL => lv_iload C.1 C.2.1 hd (hL.2.2.2 _ _ hl (fun q => by cases q)) (k p e s m args below meth c H locs ls R C hc hs hW hS hL)
theorem ev_lload_n {X : mX} {M : mMD} {B : mB} {pc : Nat} {L st : List Value} {h : mH} {Q : mO → mH → Prop} {k : Fin 4} {i : Nat} {x : Int64} (hd : decode (mBy M) pc = .ok (.lload_n k, 1)) (hi : (k : Nat) = i) (hl : L[i]? = some (.long x)) (k : Ev X M B (pc + 1) L (.long x :: st) h Q) : Ev X M B pc L (st) h Q :=
  fun p e s m args below meth c H locs ls R C hc hs hW hS hL => lv_lload_n C.1 C.2.1 hd hi (hL.2.2.2 _ _ hl (fun q => by cases q)) (k p e s m args below meth c H locs ls R C hc hs hW hS hL)
theorem ev_lload {X : mX} {M : mMD} {B : mB} {pc : Nat} {L st : List Value} {h : mH} {Q : mO → mH → Prop} {i : Nat} {x : Int64} (hd : decode (mBy M) pc = .ok (.lload i, 2)) (hl : L[i]? = some (.long x)) (k : Ev X M B (pc + 2) L (.long x :: st) h Q) : Ev X M B pc L (st) h Q :=
  fun p e s m args below meth c H locs ls R C hc hs hW hS hL => lv_lload C.1 C.2.1 hd (hL.2.2.2 _ _ hl (fun q => by cases q)) (k p e s m args below meth c H locs ls R C hc hs hW hS hL)
theorem ev_dload_n {X : mX} {M : mMD} {B : mB} {pc : Nat} {L st : List Value} {h : mH} {Q : mO → mH → Prop} {k : Fin 4} {i : Nat} {x : UInt64} (hd : decode (mBy M) pc = .ok (.dload_n k, 1)) (hi : (k : Nat) = i) (hl : L[i]? = some (.double x)) (k : Ev X M B (pc + 1) L (.double x :: st) h Q) : Ev X M B pc L (st) h Q :=
  fun p e s m args below meth c H locs ls R C hc hs hW hS hL => lv_dload_n C.1 C.2.1 hd hi (hL.2.2.2 _ _ hl (fun q => by cases q)) (k p e s m args below meth c H locs ls R C hc hs hW hS hL)
theorem ev_dload {X : mX} {M : mMD} {B : mB} {pc : Nat} {L st : List Value} {h : mH} {Q : mO → mH → Prop} {i : Nat} {x : UInt64} (hd : decode (mBy M) pc = .ok (.dload i, 2)) (hl : L[i]? = some (.double x)) (k : Ev X M B (pc + 2) L (.double x :: st) h Q) : Ev X M B pc L (st) h Q :=
  fun p e s m args below meth c H locs ls R C hc hs hW hS hL => lv_dload C.1 C.2.1 hd (hL.2.2.2 _ _ hl (fun q => by cases q)) (k p e s m args below meth c H locs ls R C hc hs hW hS hL)
theorem ev_aload_n {X : mX} {M : mMD} {B : mB} {pc : Nat} {L st : List Value} {h : mH} {Q : mO → mH → Prop} {k : Fin 4} {i : Nat} {x : Nat} (hd : decode (mBy M) pc = .ok (.aload_n k, 1)) (hi : (k : Nat) = i) (hl : L[i]? = some (.ref x)) (k : Ev X M B (pc + 1) L (.ref x :: st) h Q) : Ev X M B pc L (st) h Q :=
  fun p e s m args below meth c H locs ls R C hc hs hW hS hL => lv_aload_n C.1 C.2.1 hd hi (hL.2.2.2 _ _ hl (fun q => by cases q)) (k p e s m args below meth c H locs ls R C hc hs hW hS hL)
theorem ev_aload {X : mX} {M : mMD} {B : mB} {pc : Nat} {L st : List Value} {h : mH} {Q : mO → mH → Prop} {i : Nat} {x : Nat} (hd : decode (mBy M) pc = .ok (.aload i, 2)) (hl : L[i]? = some (.ref x)) (k : Ev X M B (pc + 2) L (.ref x :: st) h Q) : Ev X M B pc L (st) h Q :=
  fun p e s m args below meth c H locs ls R C hc hs hW hS hL => lv_aload C.1 C.2.1 hd (hL.2.2.2 _ _ hl (fun q => by cases q)) (k p e s m args below meth c H locs ls R C hc hs hW hS hL)
theorem ev_iadd {X : mX} {M : mMD} {B : mB} {pc : Nat} {L st : List Value} {h : mH} {Q : mO → mH → Prop} {x y : Int32} (hd : decode (mBy M) pc = .ok (.iadd, 1))  (k : Ev X M B (pc + 1) L (.int (x + y) :: st) h Q) : Ev X M B pc L (.int y :: .int x :: st) h Q :=
  fun p e s m args below meth c H locs ls R C hc hs hW hS hL => lv_iadd C.1 C.2.1 hd  (k p e s m args below meth c H locs ls R C hc hs hW hS hL)
theorem ev_isub {X : mX} {M : mMD} {B : mB} {pc : Nat} {L st : List Value} {h : mH} {Q : mO → mH → Prop} {x y : Int32} (hd : decode (mBy M) pc = .ok (.isub, 1))  (k : Ev X M B (pc + 1) L (.int (x - y) :: st) h Q) : Ev X M B pc L (.int y :: .int x :: st) h Q :=
  fun p e s m args below meth c H locs ls R C hc hs hW hS hL => lv_isub C.1 C.2.1 hd  (k p e s m args below meth c H locs ls R C hc hs hW hS hL)
theorem ev_imul {X : mX} {M : mMD} {B : mB} {pc : Nat} {L st : List Value} {h : mH} {Q : mO → mH → Prop} {x y : Int32} (hd : decode (mBy M) pc = .ok (.imul, 1))  (k : Ev X M B (pc + 1) L (.int (x * y) :: st) h Q) : Ev X M B pc L (.int y :: .int x :: st) h Q :=
  fun p e s m args below meth c H locs ls R C hc hs hW hS hL => lv_imul C.1 C.2.1 hd  (k p e s m args below meth c H locs ls R C hc hs hW hS hL)
theorem ev_iand {X : mX} {M : mMD} {B : mB} {pc : Nat} {L st : List Value} {h : mH} {Q : mO → mH → Prop} {x y : Int32} (hd : decode (mBy M) pc = .ok (.iand, 1))  (k : Ev X M B (pc + 1) L (.int (x &&& y) :: st) h Q) : Ev X M B pc L (.int y :: .int x :: st) h Q :=
  fun p e s m args below meth c H locs ls R C hc hs hW hS hL => lv_iand C.1 C.2.1 hd  (k p e s m args below meth c H locs ls R C hc hs hW hS hL)
theorem ev_ior {X : mX} {M : mMD} {B : mB} {pc : Nat} {L st : List Value} {h : mH} {Q : mO → mH → Prop} {x y : Int32} (hd : decode (mBy M) pc = .ok (.ior, 1))  (k : Ev X M B (pc + 1) L (.int (x ||| y) :: st) h Q) : Ev X M B pc L (.int y :: .int x :: st) h Q :=
  fun p e s m args below meth c H locs ls R C hc hs hW hS hL => lv_ior C.1 C.2.1 hd  (k p e s m args below meth c H locs ls R C hc hs hW hS hL)
theorem ev_ixor {X : mX} {M : mMD} {B : mB} {pc : Nat} {L st : List Value} {h : mH} {Q : mO → mH → Prop} {x y : Int32} (hd : decode (mBy M) pc = .ok (.ixor, 1))  (k : Ev X M B (pc + 1) L (.int (x ^^^ y) :: st) h Q) : Ev X M B pc L (.int y :: .int x :: st) h Q :=
  fun p e s m args below meth c H locs ls R C hc hs hW hS hL => lv_ixor C.1 C.2.1 hd  (k p e s m args below meth c H locs ls R C hc hs hW hS hL)
theorem ev_ishl {X : mX} {M : mMD} {B : mB} {pc : Nat} {L st : List Value} {h : mH} {Q : mO → mH → Prop} {x y : Int32} (hd : decode (mBy M) pc = .ok (.ishl, 1))  (k : Ev X M B (pc + 1) L (.int (x <<< (y &&& 31)) :: st) h Q) : Ev X M B pc L (.int y :: .int x :: st) h Q :=
  fun p e s m args below meth c H locs ls R C hc hs hW hS hL => lv_ishl C.1 C.2.1 hd  (k p e s m args below meth c H locs ls R C hc hs hW hS hL)
theorem ev_ishr {X : mX} {M : mMD} {B : mB} {pc : Nat} {L st : List Value} {h : mH} {Q : mO → mH → Prop} {x y : Int32} (hd : decode (mBy M) pc = .ok (.ishr, 1))  (k : Ev X M B (pc + 1) L (.int (x >>> (y &&& 31)) :: st) h Q) : Ev X M B pc L (.int y :: .int x :: st) h Q :=
  fun p e s m args below meth c H locs ls R C hc hs hW hS hL => lv_ishr C.1 C.2.1 hd  (k p e s m args below meth c H locs ls R C hc hs hW hS hL)
theorem ev_idiv {X : mX} {M : mMD} {B : mB} {pc : Nat} {L st : List Value} {h : mH} {Q : mO → mH → Prop} {x y : Int32} (hd : decode (mBy M) pc = .ok (.idiv, 1)) (hne : ¬ y = 0) (k : Ev X M B (pc + 1) L (.int (x / y) :: st) h Q) : Ev X M B pc L (.int y :: .int x :: st) h Q :=
  fun p e s m args below meth c H locs ls R C hc hs hW hS hL => lv_idiv C.1 C.2.1 hd hne (k p e s m args below meth c H locs ls R C hc hs hW hS hL)
theorem ev_irem {X : mX} {M : mMD} {B : mB} {pc : Nat} {L st : List Value} {h : mH} {Q : mO → mH → Prop} {x y : Int32} (hd : decode (mBy M) pc = .ok (.irem, 1)) (hne : ¬ y = 0) (k : Ev X M B (pc + 1) L (.int (x - x / y * y) :: st) h Q) : Ev X M B pc L (.int y :: .int x :: st) h Q :=
  fun p e s m args below meth c H locs ls R C hc hs hW hS hL => lv_irem C.1 C.2.1 hd hne (k p e s m args below meth c H locs ls R C hc hs hW hS hL)
theorem ev_iushr {X : mX} {M : mMD} {B : mB} {pc : Nat} {L st : List Value} {h : mH} {Q : mO → mH → Prop} {x y : Int32} (hd : decode (mBy M) pc = .ok (.iushr, 1))  (k : Ev X M B (pc + 1) L (.int ((x.toUInt32 >>> (y.toUInt32 &&& Int32.toUInt32 31)).toInt32) :: st) h Q) : Ev X M B pc L (.int y :: .int x :: st) h Q :=
  fun p e s m args below meth c H locs ls R C hc hs hW hS hL => lv_iushr C.1 C.2.1 hd rfl (k p e s m args below meth c H locs ls R C hc hs hW hS hL)
theorem ev_ladd {X : mX} {M : mMD} {B : mB} {pc : Nat} {L st : List Value} {h : mH} {Q : mO → mH → Prop} {x y : Int64} (hd : decode (mBy M) pc = .ok (.ladd, 1))  (k : Ev X M B (pc + 1) L (.long (x + y) :: st) h Q) : Ev X M B pc L (.long y :: .long x :: st) h Q :=
  fun p e s m args below meth c H locs ls R C hc hs hW hS hL => lv_ladd C.1 C.2.1 hd  (k p e s m args below meth c H locs ls R C hc hs hW hS hL)
theorem ev_lsub {X : mX} {M : mMD} {B : mB} {pc : Nat} {L st : List Value} {h : mH} {Q : mO → mH → Prop} {x y : Int64} (hd : decode (mBy M) pc = .ok (.lsub, 1))  (k : Ev X M B (pc + 1) L (.long (x - y) :: st) h Q) : Ev X M B pc L (.long y :: .long x :: st) h Q :=
  fun p e s m args below meth c H locs ls R C hc hs hW hS hL => lv_lsub C.1 C.2.1 hd  (k p e s m args below meth c H locs ls R C hc hs hW hS hL)
theorem ev_lmul {X : mX} {M : mMD} {B : mB} {pc : Nat} {L st : List Value} {h : mH} {Q : mO → mH → Prop} {x y : Int64} (hd : decode (mBy M) pc = .ok (.lmul, 1))  (k : Ev X M B (pc + 1) L (.long (x * y) :: st) h Q) : Ev X M B pc L (.long y :: .long x :: st) h Q :=
  fun p e s m args below meth c H locs ls R C hc hs hW hS hL => lv_lmul C.1 C.2.1 hd  (k p e s m args below meth c H locs ls R C hc hs hW hS hL)
theorem ev_land {X : mX} {M : mMD} {B : mB} {pc : Nat} {L st : List Value} {h : mH} {Q : mO → mH → Prop} {x y : Int64} (hd : decode (mBy M) pc = .ok (.land, 1))  (k : Ev X M B (pc + 1) L (.long (x &&& y) :: st) h Q) : Ev X M B pc L (.long y :: .long x :: st) h Q :=
  fun p e s m args below meth c H locs ls R C hc hs hW hS hL => lv_land C.1 C.2.1 hd  (k p e s m args below meth c H locs ls R C hc hs hW hS hL)
theorem ev_lor {X : mX} {M : mMD} {B : mB} {pc : Nat} {L st : List Value} {h : mH} {Q : mO → mH → Prop} {x y : Int64} (hd : decode (mBy M) pc = .ok (.lor, 1))  (k : Ev X M B (pc + 1) L (.long (x ||| y) :: st) h Q) : Ev X M B pc L (.long y :: .long x :: st) h Q :=
  fun p e s m args below meth c H locs ls R C hc hs hW hS hL => lv_lor C.1 C.2.1 hd  (k p e s m args below meth c H locs ls R C hc hs hW hS hL)
theorem ev_lshl {X : mX} {M : mMD} {B : mB} {pc : Nat} {L st : List Value} {h : mH} {Q : mO → mH → Prop} {x : Int64} {y : Int32} (hd : decode (mBy M) pc = .ok (.lshl, 1))  (k : Ev X M B (pc + 1) L (.long (x <<< (y.toInt64 &&& 63)) :: st) h Q) : Ev X M B pc L (.int y :: .long x :: st) h Q :=
  fun p e s m args below meth c H locs ls R C hc hs hW hS hL => lv_lshl C.1 C.2.1 hd rfl (k p e s m args below meth c H locs ls R C hc hs hW hS hL)
theorem ev_lshr {X : mX} {M : mMD} {B : mB} {pc : Nat} {L st : List Value} {h : mH} {Q : mO → mH → Prop} {x : Int64} {y : Int32} (hd : decode (mBy M) pc = .ok (.lshr, 1))  (k : Ev X M B (pc + 1) L (.long (x >>> (y.toInt64 &&& 63)) :: st) h Q) : Ev X M B pc L (.int y :: .long x :: st) h Q :=
  fun p e s m args below meth c H locs ls R C hc hs hW hS hL => lv_lshr C.1 C.2.1 hd rfl (k p e s m args below meth c H locs ls R C hc hs hW hS hL)
theorem ev_lcmp {X : mX} {M : mMD} {B : mB} {pc : Nat} {L st : List Value} {h : mH} {Q : mO → mH → Prop} {x y : Int64} (hd : decode (mBy M) pc = .ok (.lcmp, 1))  (k : Ev X M B (pc + 1) L (.int (lg_cmp x y) :: st) h Q) : Ev X M B pc L (.long y :: .long x :: st) h Q :=
  fun p e s m args below meth c H locs ls R C hc hs hW hS hL => W.lcmp C.1 C.2.1 hd  (k p e s m args below meth c H locs ls R C hc hs hW hS hL)
theorem ev_i2l {X : mX} {M : mMD} {B : mB} {pc : Nat} {L st : List Value} {h : mH} {Q : mO → mH → Prop} {x : Int32} (hd : decode (mBy M) pc = .ok (.i2l, 1))  (k : Ev X M B (pc + 1) L (.long x.toInt64 :: st) h Q) : Ev X M B pc L (.int x :: st) h Q :=
  fun p e s m args below meth c H locs ls R C hc hs hW hS hL => lv_i2l C.1 C.2.1 hd rfl (k p e s m args below meth c H locs ls R C hc hs hW hS hL)
theorem ev_l2i {X : mX} {M : mMD} {B : mB} {pc : Nat} {L st : List Value} {h : mH} {Q : mO → mH → Prop} {x : Int64} (hd : decode (mBy M) pc = .ok (.l2i, 1))  (k : Ev X M B (pc + 1) L (.int x.toInt32 :: st) h Q) : Ev X M B pc L (.long x :: st) h Q :=
  fun p e s m args below meth c H locs ls R C hc hs hW hS hL => lv_l2i C.1 C.2.1 hd rfl (k p e s m args below meth c H locs ls R C hc hs hW hS hL)
theorem ev_i2d {X : mX} {M : mMD} {B : mB} {pc : Nat} {L st : List Value} {h : mH} {Q : mO → mH → Prop} {x : Int32} (hd : decode (mBy M) pc = .ok (.i2d, 1))  (k : Ev X M B (pc + 1) L (.double (FP.i2d x) :: st) h Q) : Ev X M B pc L (.int x :: st) h Q :=
  fun p e s m args below meth c H locs ls R C hc hs hW hS hL => lv_i2d C.1 C.2.1 hd  (k p e s m args below meth c H locs ls R C hc hs hW hS hL)
theorem ev_d2l {X : mX} {M : mMD} {B : mB} {pc : Nat} {L st : List Value} {h : mH} {Q : mO → mH → Prop} {x : UInt64} (hd : decode (mBy M) pc = .ok (.d2l, 1))  (k : Ev X M B (pc + 1) L (.long (FP.d2l x) :: st) h Q) : Ev X M B pc L (.double x :: st) h Q :=
  fun p e s m args below meth c H locs ls R C hc hs hW hS hL => lv_d2l C.1 C.2.1 hd  (k p e s m args below meth c H locs ls R C hc hs hW hS hL)
theorem ev_dsub {X : mX} {M : mMD} {B : mB} {pc : Nat} {L st : List Value} {h : mH} {Q : mO → mH → Prop} {x y : UInt64} (hd : decode (mBy M) pc = .ok (.dsub, 1)) (hne : vf_n64 (FP.dsub x y)) (k : Ev X M B (pc + 1) L (.double (FP.dsub x y) :: st) h Q) : Ev X M B pc L (.double y :: .double x :: st) h Q :=
  fun p e s m args below meth c H locs ls R C hc hs hW hS hL => lv_dsub C.1 C.2.1 hd hne (k p e s m args below meth c H locs ls R C hc hs hW hS hL)
theorem ev_dmul {X : mX} {M : mMD} {B : mB} {pc : Nat} {L st : List Value} {h : mH} {Q : mO → mH → Prop} {x y : UInt64} (hd : decode (mBy M) pc = .ok (.dmul, 1)) (hne : vf_n64 (FP.dmul x y)) (k : Ev X M B (pc + 1) L (.double (FP.dmul x y) :: st) h Q) : Ev X M B pc L (.double y :: .double x :: st) h Q :=
  fun p e s m args below meth c H locs ls R C hc hs hW hS hL => lv_dmul C.1 C.2.1 hd hne (k p e s m args below meth c H locs ls R C hc hs hW hS hL)
theorem ev_ddiv {X : mX} {M : mMD} {B : mB} {pc : Nat} {L st : List Value} {h : mH} {Q : mO → mH → Prop} {x y : UInt64} (hd : decode (mBy M) pc = .ok (.ddiv, 1)) (hne : vf_n64 (FP.ddiv x y)) (k : Ev X M B (pc + 1) L (.double (FP.ddiv x y) :: st) h Q) : Ev X M B pc L (.double y :: .double x :: st) h Q :=
  fun p e s m args below meth c H locs ls R C hc hs hW hS hL => lv_ddiv C.1 C.2.1 hd hne (k p e s m args below meth c H locs ls R C hc hs hW hS hL)
theorem ev_dcmp {X : mX} {M : mMD} {B : mB} {pc : Nat} {L st : List Value} {h : mH} {Q : mO → mH → Prop} {x y : UInt64} {op : CmpOp} (hd : decode (mBy M) pc = .ok (.dcmp op, 1))  (k : Ev X M B (pc + 1) L (.int (Op.cmpValue (FP.dcmp x y) op) :: st) h Q) : Ev X M B pc L (.double y :: .double x :: st) h Q :=
  fun p e s m args below meth c H locs ls R C hc hs hW hS hL => lv_dcmp C.1 C.2.1 hd  (k p e s m args below meth c H locs ls R C hc hs hW hS hL)
theorem ev_dup {X : mX} {M : mMD} {B : mB} {pc : Nat} {L st : List Value} {h : mH} {Q : mO → mH → Prop} {v : Value} (hd : decode (mBy M) pc = .ok (.dup, 1)) (hv : v.category = 1) (k : Ev X M B (pc + 1) L (v :: v :: st) h Q) : Ev X M B pc L (v :: st) h Q :=
  fun p e s m args below meth c H locs ls R C hc hs hW hS hL => lv_dup C.1 C.2.1 hd ((cv_cat X v).trans hv) (k p e s m args below meth c H locs ls R C hc hs hW hS hL)
theorem ev_pop {X : mX} {M : mMD} {B : mB} {pc : Nat} {L st : List Value} {h : mH} {Q : mO → mH → Prop} {v : Value} (hd : decode (mBy M) pc = .ok (.pop, 1)) (hv : v.category = 1) (k : Ev X M B (pc + 1) L (st) h Q) : Ev X M B pc L (v :: st) h Q :=
  fun p e s m args below meth c H locs ls R C hc hs hW hS hL => lv_pop C.1 C.2.1 hd ((cv_cat X v).trans hv) (k p e s m args below meth c H locs ls R C hc hs hW hS hL)
theorem ev_dup2 {X : mX} {M : mMD} {B : mB} {pc : Nat} {L st : List Value} {h : mH} {Q : mO → mH → Prop} {v w : Value} (hd : decode (mBy M) pc = .ok (.dup2, 1)) (hv : v.category = 1) (hw : w.category = 1) (k : Ev X M B (pc + 1) L (v :: w :: v :: w :: st) h Q) : Ev X M B pc L (v :: w :: st) h Q :=
  fun p e s m args below meth c H locs ls R C hc hs hW hS hL => lv_dup2_11 C.1 C.2.1 hd ((cv_cat X v).trans hv) ((cv_cat X w).trans hw) (k p e s m args below meth c H locs ls R C hc hs hW hS hL)
theorem ev_ldc {X : mX} {M : mMD} {B : mB} {pc : Nat} {L st : List Value} {h : mH} {Q : mO → mH → Prop} {i : Nat} (v : Int32) (hd : decode (mBy M) pc = .ok (.ldc i, 2)) (hw : Cond.constant (RN (mOwn M)) i v ∈ WL) (k : Ev X M B (pc + 2) L (.int v :: st) h Q) : Ev X M B pc L st h Q :=
  fun p e s m args below meth c H locs ls R C hc hs hW hS hL => lv_ldc C.1 C.2.1 C.2.2.2.2.1 (C.2.2.2.2.2.1 _ hw) hd (k p e s m args below meth c H locs ls R C hc hs hW hS hL)
theorem ev_ldcw {X : mX} {M : mMD} {B : mB} {pc : Nat} {L st : List Value} {h : mH} {Q : mO → mH → Prop} {i : Nat} (v : Int32) (hd : decode (mBy M) pc = .ok (.ldc_w i, 3)) (hw : Cond.constant (RN (mOwn M)) i v ∈ WL) (k : Ev X M B (pc + 3) L (.int v :: st) h Q) : Ev X M B pc L st h Q :=
  fun p e s m args below meth c H locs ls R C hc hs hW hS hL => lv_ldcw C.1 C.2.1 C.2.2.2.2.1 (C.2.2.2.2.2.1 _ hw) hd (k p e s m args below meth c H locs ls R C hc hs hW hS hL)
theorem ev_ldc2 {X : mX} {M : mMD} {B : mB} {pc : Nat} {L st : List Value} {h : mH} {Q : mO → mH → Prop} {i : Nat} (v : Int64) (hd : decode (mBy M) pc = .ok (.ldc2_w i, 3)) (hw : Cond.constantLong (RN (mOwn M)) i v ∈ WL) (k : Ev X M B (pc + 3) L (.long v :: st) h Q) : Ev X M B pc L st h Q :=
  fun p e s m args below meth c H locs ls R C hc hs hW hS hL => lv_ldc2 C.1 C.2.1 C.2.2.2.2.1 (C.2.2.2.2.2.1 _ hw) hd (k p e s m args below meth c H locs ls R C hc hs hW hS hL)
theorem ev_ldc2d {X : mX} {M : mMD} {B : mB} {pc : Nat} {L st : List Value} {h : mH} {Q : mO → mH → Prop} {i : Nat} (v : UInt64) (hd : decode (mBy M) pc = .ok (.ldc2_w i, 3)) (hw : Cond.constantDouble (RN (mOwn M)) i v ∈ WL) (k : Ev X M B (pc + 3) L (.double v :: st) h Q) : Ev X M B pc L st h Q :=
  fun p e s m args below meth c H locs ls R C hc hs hW hS hL => lv_ldc2d C.1 C.2.1 C.2.2.2.2.1 (C.2.2.2.2.2.1 _ hw) hd (k p e s m args below meth c H locs ls R C hc hs hW hS hL)
theorem ev_istore_n {X : mX} {M : mMD} {B : mB} {pc : Nat} {L st : List Value} {h : mH} {Q : mO → mH → Prop} {k : Fin 4} {i : Nat} {x : Int32} {L' : List Value} (hd : decode (mBy M) pc = .ok (.istore_n k, 1)) (hi : (k : Nat) = i) (hn : i < mML M) (hL' : stl L i (.int x) = L') (k : Ev X M B (pc + 1) L' st h Q) : Ev X M B pc L (.int x :: st) h Q := by
  subst hL'
  intro p e s m args below meth c H locs ls R C hc hs hW hS hL
  exact lv_istore_n C.1 C.2.1 hd hi hL.has hn rfl (fun ls' hl => k p e s m args below meth c H locs ls' R C hc hs hW hS (hL.st1 (v := .int x) hn hl))
theorem ev_istore {X : mX} {M : mMD} {B : mB} {pc : Nat} {L st : List Value} {h : mH} {Q : mO → mH → Prop} {i : Nat} {x : Int32} {L' : List Value} (hd : decode (mBy M) pc = .ok (.istore i, 2))  (hn : i < mML M) (hL' : stl L i (.int x) = L') (k : Ev X M B (pc + 2) L' st h Q) : Ev X M B pc L (.int x :: st) h Q := by
  subst hL'
  intro p e s m args below meth c H locs ls R C hc hs hW hS hL
  exact lv_istore C.1 C.2.1 hd  hL.has hn rfl (fun ls' hl => k p e s m args below meth c H locs ls' R C hc hs hW hS (hL.st1 (v := .int x) hn hl))
theorem ev_astore_n {X : mX} {M : mMD} {B : mB} {pc : Nat} {L st : List Value} {h : mH} {Q : mO → mH → Prop} {k : Fin 4} {i : Nat} {x : Nat} {L' : List Value} (hd : decode (mBy M) pc = .ok (.astore_n k, 1)) (hi : (k : Nat) = i) (hn : i < mML M) (hL' : stl L i (.ref x) = L') (k : Ev X M B (pc + 1) L' st h Q) : Ev X M B pc L (.ref x :: st) h Q := by
  subst hL'
  intro p e s m args below meth c H locs ls R C hc hs hW hS hL
  exact lv_astore_n C.1 C.2.1 hd hi hL.has hn rfl (fun ls' hl => k p e s m args below meth c H locs ls' R C hc hs hW hS (hL.st1 (v := .ref x) hn hl))
theorem ev_astore {X : mX} {M : mMD} {B : mB} {pc : Nat} {L st : List Value} {h : mH} {Q : mO → mH → Prop} {i : Nat} {x : Nat} {L' : List Value} (hd : decode (mBy M) pc = .ok (.astore i, 2))  (hn : i < mML M) (hL' : stl L i (.ref x) = L') (k : Ev X M B (pc + 2) L' st h Q) : Ev X M B pc L (.ref x :: st) h Q := by
  subst hL'
  intro p e s m args below meth c H locs ls R C hc hs hW hS hL
  exact lv_astore C.1 C.2.1 hd  hL.has hn rfl (fun ls' hl => k p e s m args below meth c H locs ls' R C hc hs hW hS (hL.st1 (v := .ref x) hn hl))
theorem ev_lstore_n {X : mX} {M : mMD} {B : mB} {pc : Nat} {L st : List Value} {h : mH} {Q : mO → mH → Prop} {k : Fin 4} {i : Nat} {x : Int64} {L' : List Value} (hd : decode (mBy M) pc = .ok (.lstore_n k, 1)) (hi : (k : Nat) = i) (hn : i + 1 < mML M) (hL' : stl2 L i (.long x) = L') (k : Ev X M B (pc + 1) L' st h Q) : Ev X M B pc L (.long x :: st) h Q := by
  subst hL'
  intro p e s m args below meth c H locs ls R C hc hs hW hS hL
  exact lv_lstore_n C.1 C.2.1 hd hi hL.has hn rfl (fun ls' hl => k p e s m args below meth c H locs ls' R C hc hs hW hS (hL.st2 (v := .long x) hn hl))
theorem ev_lstore {X : mX} {M : mMD} {B : mB} {pc : Nat} {L st : List Value} {h : mH} {Q : mO → mH → Prop} {i : Nat} {x : Int64} {L' : List Value} (hd : decode (mBy M) pc = .ok (.lstore i, 2))  (hn : i + 1 < mML M) (hL' : stl2 L i (.long x) = L') (k : Ev X M B (pc + 2) L' st h Q) : Ev X M B pc L (.long x :: st) h Q := by
  subst hL'
  intro p e s m args below meth c H locs ls R C hc hs hW hS hL
  exact lv_lstore C.1 C.2.1 hd  hL.has hn rfl (fun ls' hl => k p e s m args below meth c H locs ls' R C hc hs hW hS (hL.st2 (v := .long x) hn hl))
theorem ev_dstore_n {X : mX} {M : mMD} {B : mB} {pc : Nat} {L st : List Value} {h : mH} {Q : mO → mH → Prop} {k : Fin 4} {i : Nat} {x : UInt64} {L' : List Value} (hd : decode (mBy M) pc = .ok (.dstore_n k, 1)) (hi : (k : Nat) = i) (hn : i + 1 < mML M) (hL' : stl2 L i (.double x) = L') (k : Ev X M B (pc + 1) L' st h Q) : Ev X M B pc L (.double x :: st) h Q := by
  subst hL'
  intro p e s m args below meth c H locs ls R C hc hs hW hS hL
  exact lv_dstore_n C.1 C.2.1 hd hi hL.has hn rfl (fun ls' hl => k p e s m args below meth c H locs ls' R C hc hs hW hS (hL.st2 (v := .double x) hn hl))
theorem ev_dstore {X : mX} {M : mMD} {B : mB} {pc : Nat} {L st : List Value} {h : mH} {Q : mO → mH → Prop} {i : Nat} {x : UInt64} {L' : List Value} (hd : decode (mBy M) pc = .ok (.dstore i, 2))  (hn : i + 1 < mML M) (hL' : stl2 L i (.double x) = L') (k : Ev X M B (pc + 2) L' st h Q) : Ev X M B pc L (.double x :: st) h Q := by
  subst hL'
  intro p e s m args below meth c H locs ls R C hc hs hW hS hL
  exact lv_dstore C.1 C.2.1 hd  hL.has hn rfl (fun ls' hl => k p e s m args below meth c H locs ls' R C hc hs hW hS (hL.st2 (v := .double x) hn hl))
theorem ev_iinc {X : mX} {M : mMD} {B : mB} {pc : Nat} {L st : List Value} {h : mH} {Q : mO → mH → Prop} {i : Nat} {n : Int} {x : Int32} {L' : List Value} (v : Int32) (hd : decode (mBy M) pc = .ok (.iinc i n, 3)) (hl : L[i]? = some (.int x)) (hv : x + Int32.ofInt n = v) (hL' : stl L i (.int v) = L') (k : Ev X M B (pc + 3) L' st h Q) : Ev X M B pc L st h Q := by
  subst hL'
  intro p e s m args below meth c H locs ls R C hc hs hW hS hL
  obtain ⟨q, hq⟩ := List.getElem?_of_mem (lvl_mem.mpr ⟨.int x, hl, (fun q => by cases q), rfl⟩ : (i, cv X (.int x)) ∈ lvl X L)
  have hn : i < mML M := by rw [← hL.2.1]; exact (List.getElem?_eq_some_iff.mp hl).1
  exact lv_iinc C.1 C.2.1 hd hL.has hq hv hn rfl (fun ls' hl2 => k p e s m args below meth c H locs ls' R C hc hs hW hS (hL.st1 (v := .int v) hn hl2))
theorem ev_if_eq {X : mX} {M : mMD} {B : mB} {pc : Nat} {L st : List Value} {h : mH} {Q : mO → mH → Prop} {x : Int32} {off : Int} (tgt : Nat) (hd : decode (mBy M) pc = .ok (.ifCond .eq off, 3)) (ht : (pc : Int) + off = (tgt : Int)) (kt : x = 0 → Ev X M B tgt L st h Q) (kf : ¬ x = 0 → Ev X M B (pc + 3) L st h Q) : Ev X M B pc L (.int x :: st) h Q :=
  fun p e s m args below meth c H locs ls R C hc hs hW hS hL => lv_if_eq C.1 C.2.1 hd ht (fun z => kt z p e s m args below meth c H locs ls R C hc hs hW hS hL) (fun z => kf z p e s m args below meth c H locs ls R C hc hs hW hS hL)
theorem ev_if_ne {X : mX} {M : mMD} {B : mB} {pc : Nat} {L st : List Value} {h : mH} {Q : mO → mH → Prop} {x : Int32} {off : Int} (tgt : Nat) (hd : decode (mBy M) pc = .ok (.ifCond .ne off, 3)) (ht : (pc : Int) + off = (tgt : Int)) (kt : ¬ x = 0 → Ev X M B tgt L st h Q) (kf : x = 0 → Ev X M B (pc + 3) L st h Q) : Ev X M B pc L (.int x :: st) h Q :=
  fun p e s m args below meth c H locs ls R C hc hs hW hS hL => lv_if_ne C.1 C.2.1 hd ht (fun z => kt z p e s m args below meth c H locs ls R C hc hs hW hS hL) (fun z => kf z p e s m args below meth c H locs ls R C hc hs hW hS hL)
theorem ev_if_lt {X : mX} {M : mMD} {B : mB} {pc : Nat} {L st : List Value} {h : mH} {Q : mO → mH → Prop} {x : Int32} {off : Int} (tgt : Nat) (hd : decode (mBy M) pc = .ok (.ifCond .lt off, 3)) (ht : (pc : Int) + off = (tgt : Int)) (kt : x < 0 → Ev X M B tgt L st h Q) (kf : ¬ x < 0 → Ev X M B (pc + 3) L st h Q) : Ev X M B pc L (.int x :: st) h Q :=
  fun p e s m args below meth c H locs ls R C hc hs hW hS hL => lv_if_lt C.1 C.2.1 hd ht (fun z => kt z p e s m args below meth c H locs ls R C hc hs hW hS hL) (fun z => kf z p e s m args below meth c H locs ls R C hc hs hW hS hL)
theorem ev_if_ge {X : mX} {M : mMD} {B : mB} {pc : Nat} {L st : List Value} {h : mH} {Q : mO → mH → Prop} {x : Int32} {off : Int} (tgt : Nat) (hd : decode (mBy M) pc = .ok (.ifCond .ge off, 3)) (ht : (pc : Int) + off = (tgt : Int)) (kt : 0 ≤ x → Ev X M B tgt L st h Q) (kf : ¬ 0 ≤ x → Ev X M B (pc + 3) L st h Q) : Ev X M B pc L (.int x :: st) h Q :=
  fun p e s m args below meth c H locs ls R C hc hs hW hS hL => lv_if_ge C.1 C.2.1 hd ht (fun z => kt z p e s m args below meth c H locs ls R C hc hs hW hS hL) (fun z => kf z p e s m args below meth c H locs ls R C hc hs hW hS hL)
theorem ev_if_gt {X : mX} {M : mMD} {B : mB} {pc : Nat} {L st : List Value} {h : mH} {Q : mO → mH → Prop} {x : Int32} {off : Int} (tgt : Nat) (hd : decode (mBy M) pc = .ok (.ifCond .gt off, 3)) (ht : (pc : Int) + off = (tgt : Int)) (kt : 0 < x → Ev X M B tgt L st h Q) (kf : ¬ 0 < x → Ev X M B (pc + 3) L st h Q) : Ev X M B pc L (.int x :: st) h Q :=
  fun p e s m args below meth c H locs ls R C hc hs hW hS hL => lv_if_gt C.1 C.2.1 hd ht (fun z => kt z p e s m args below meth c H locs ls R C hc hs hW hS hL) (fun z => kf z p e s m args below meth c H locs ls R C hc hs hW hS hL)
theorem ev_if_le {X : mX} {M : mMD} {B : mB} {pc : Nat} {L st : List Value} {h : mH} {Q : mO → mH → Prop} {x : Int32} {off : Int} (tgt : Nat) (hd : decode (mBy M) pc = .ok (.ifCond .le off, 3)) (ht : (pc : Int) + off = (tgt : Int)) (kt : x ≤ 0 → Ev X M B tgt L st h Q) (kf : ¬ x ≤ 0 → Ev X M B (pc + 3) L st h Q) : Ev X M B pc L (.int x :: st) h Q :=
  fun p e s m args below meth c H locs ls R C hc hs hW hS hL => lv_if_le C.1 C.2.1 hd ht (fun z => kt z p e s m args below meth c H locs ls R C hc hs hW hS hL) (fun z => kf z p e s m args below meth c H locs ls R C hc hs hW hS hL)
theorem ev_icmp_eq {X : mX} {M : mMD} {B : mB} {pc : Nat} {L st : List Value} {h : mH} {Q : mO → mH → Prop} {x y : Int32} {off : Int} (tgt : Nat) (hd : decode (mBy M) pc = .ok (.if_icmp .eq off, 3)) (ht : (pc : Int) + off = (tgt : Int)) (kt : x = y → Ev X M B tgt L st h Q) (kf : ¬ x = y → Ev X M B (pc + 3) L st h Q) : Ev X M B pc L (.int y :: .int x :: st) h Q :=
  fun p e s m args below meth c H locs ls R C hc hs hW hS hL => lv_icmp_eq C.1 C.2.1 hd ht (fun z => kt z p e s m args below meth c H locs ls R C hc hs hW hS hL) (fun z => kf z p e s m args below meth c H locs ls R C hc hs hW hS hL)
theorem ev_icmp_ne {X : mX} {M : mMD} {B : mB} {pc : Nat} {L st : List Value} {h : mH} {Q : mO → mH → Prop} {x y : Int32} {off : Int} (tgt : Nat) (hd : decode (mBy M) pc = .ok (.if_icmp .ne off, 3)) (ht : (pc : Int) + off = (tgt : Int)) (kt : ¬ x = y → Ev X M B tgt L st h Q) (kf : x = y → Ev X M B (pc + 3) L st h Q) : Ev X M B pc L (.int y :: .int x :: st) h Q :=
  fun p e s m args below meth c H locs ls R C hc hs hW hS hL => lv_icmp_ne C.1 C.2.1 hd ht (fun z => kt z p e s m args below meth c H locs ls R C hc hs hW hS hL) (fun z => kf z p e s m args below meth c H locs ls R C hc hs hW hS hL)
theorem ev_icmp_lt {X : mX} {M : mMD} {B : mB} {pc : Nat} {L st : List Value} {h : mH} {Q : mO → mH → Prop} {x y : Int32} {off : Int} (tgt : Nat) (hd : decode (mBy M) pc = .ok (.if_icmp .lt off, 3)) (ht : (pc : Int) + off = (tgt : Int)) (kt : x < y → Ev X M B tgt L st h Q) (kf : ¬ x < y → Ev X M B (pc + 3) L st h Q) : Ev X M B pc L (.int y :: .int x :: st) h Q :=
  fun p e s m args below meth c H locs ls R C hc hs hW hS hL => lv_icmp_lt C.1 C.2.1 hd ht (fun z => kt z p e s m args below meth c H locs ls R C hc hs hW hS hL) (fun z => kf z p e s m args below meth c H locs ls R C hc hs hW hS hL)
theorem ev_icmp_ge {X : mX} {M : mMD} {B : mB} {pc : Nat} {L st : List Value} {h : mH} {Q : mO → mH → Prop} {x y : Int32} {off : Int} (tgt : Nat) (hd : decode (mBy M) pc = .ok (.if_icmp .ge off, 3)) (ht : (pc : Int) + off = (tgt : Int)) (kt : y ≤ x → Ev X M B tgt L st h Q) (kf : ¬ y ≤ x → Ev X M B (pc + 3) L st h Q) : Ev X M B pc L (.int y :: .int x :: st) h Q :=
  fun p e s m args below meth c H locs ls R C hc hs hW hS hL => lv_icmp_ge C.1 C.2.1 hd ht (fun z => kt z p e s m args below meth c H locs ls R C hc hs hW hS hL) (fun z => kf z p e s m args below meth c H locs ls R C hc hs hW hS hL)
theorem ev_icmp_gt {X : mX} {M : mMD} {B : mB} {pc : Nat} {L st : List Value} {h : mH} {Q : mO → mH → Prop} {x y : Int32} {off : Int} (tgt : Nat) (hd : decode (mBy M) pc = .ok (.if_icmp .gt off, 3)) (ht : (pc : Int) + off = (tgt : Int)) (kt : y < x → Ev X M B tgt L st h Q) (kf : ¬ y < x → Ev X M B (pc + 3) L st h Q) : Ev X M B pc L (.int y :: .int x :: st) h Q :=
  fun p e s m args below meth c H locs ls R C hc hs hW hS hL => lv_icmp_gt C.1 C.2.1 hd ht (fun z => kt z p e s m args below meth c H locs ls R C hc hs hW hS hL) (fun z => kf z p e s m args below meth c H locs ls R C hc hs hW hS hL)
theorem ev_icmp_le {X : mX} {M : mMD} {B : mB} {pc : Nat} {L st : List Value} {h : mH} {Q : mO → mH → Prop} {x y : Int32} {off : Int} (tgt : Nat) (hd : decode (mBy M) pc = .ok (.if_icmp .le off, 3)) (ht : (pc : Int) + off = (tgt : Int)) (kt : x ≤ y → Ev X M B tgt L st h Q) (kf : ¬ x ≤ y → Ev X M B (pc + 3) L st h Q) : Ev X M B pc L (.int y :: .int x :: st) h Q :=
  fun p e s m args below meth c H locs ls R C hc hs hW hS hL => lv_icmp_le C.1 C.2.1 hd ht (fun z => kt z p e s m args below meth c H locs ls R C hc hs hW hS hL) (fun z => kf z p e s m args below meth c H locs ls R C hc hs hW hS hL)
theorem ev_goto {X : mX} {M : mMD} {B : mB} {pc : Nat} {L st : List Value} {h : mH} {Q : mO → mH → Prop} {off : Int} (tgt : Nat) (hd : decode (mBy M) pc = .ok (.goto off, 3)) (ht : (pc : Int) + off = (tgt : Int)) (k : Ev X M B tgt L st h Q) : Ev X M B pc L st h Q :=
  fun p e s m args below meth c H locs ls R C hc hs hW hS hL => lv_goto C.1 C.2.1 hd ht (k p e s m args below meth c H locs ls R C hc hs hW hS hL)
theorem ev_tableOut {X : mX} {M : mMD} {B : mB} {pc : Nat} {L st : List Value} {h : mH} {Q : mO → mH → Prop} {dflt lo hi : Int} {offs : Array Int} {len : Nat} {x : Int32} (tgt : Nat) (hd : decode (mBy M) pc = .ok (.tableswitch dflt lo hi offs, len)) (hx : x.toInt < lo ∨ hi < x.toInt) (ht : (pc : Int) + dflt = (tgt : Int)) (k : Ev X M B tgt L st h Q) : Ev X M B pc L (.int x :: st) h Q :=
  fun p e s m args below meth c H locs ls R C hc hs hW hS hL => lv_tableOut C.1 C.2.1 hd hx ht (k p e s m args below meth c H locs ls R C hc hs hW hS hL)
theorem ev_tableIn {X : mX} {M : mMD} {B : mB} {pc : Nat} {L st : List Value} {h : mH} {Q : mO → mH → Prop} {dflt lo hi : Int} {offs : Array Int} {len : Nat} {x : Int32} {off : Int} (tgt : Nat) (hd : decode (mBy M) pc = .ok (.tableswitch dflt lo hi offs, len)) (h1 : ¬ x.toInt < lo) (h2 : ¬ hi < x.toInt) (ho : offs[(x.toInt - lo).toNat]? = some off) (ht : (pc : Int) + off = (tgt : Int)) (k : Ev X M B tgt L st h Q) : Ev X M B pc L (.int x :: st) h Q :=
  fun p e s m args below meth c H locs ls R C hc hs hW hS hL => lv_tableIn C.1 C.2.1 hd h1 h2 ho ht (k p e s m args below meth c H locs ls R C hc hs hW hS hL)
theorem ev_lookup {X : mX} {M : mMD} {B : mB} {pc : Nat} {L st : List Value} {h : mH} {Q : mO → mH → Prop} {dflt : Int} {ps : Array (Int × Int)} {len : Nat} {x : Int32} {off : Int} (tgt : Nat) (hd : decode (mBy M) pc = .ok (.lookupswitch dflt ps, len)) (hp : (ps.toList.zip (ps.toList.drop 1)).all (fun (a, next) => a.1 < next.1) = true) (ho : Op.lookupswitch.offset ps.toList dflt x.toInt = off) (ht : (pc : Int) + off = (tgt : Int)) (k : Ev X M B tgt L st h Q) : Ev X M B pc L (.int x :: st) h Q :=
  fun p e s m args below meth c H locs ls R C hc hs hW hS hL => lv_lookup C.1 C.2.1 hd hp ho ht (k p e s m args below meth c H locs ls R C hc hs hW hS hL)
end
section
def TN : Nat → u_T := fun c => match c with
  | 0 => TX0
  | 1 => TX1
  | 2 => TX2
  | 3 => TX3
  | 4 => TX4
  | 5 => TX5
  | 6 => TX6
  | _ => TX7
def NN : Nat → Nat := fun c => match c with
  | 0 => 2
  | 1 => 7
  | 2 => 2
  | 3 => 1
  | 4 => 3
  | 5 => 5
  | 6 => 7
  | _ => 21
def tyN : Nat → Nat → FieldType := fun c => match c with
  | 0 => tyX0
  | 1 => tyX1
  | 2 => tyX2
  | 3 => tyX3
  | 4 => tyX4
  | 5 => tyX5
  | 6 => tyX6
  | _ => tyX7
theorem lt8 {P : Nat → Prop} (h0 : P 0) (h1 : P 1) (h2 : P 2) (h3 : P 3) (h4 : P 4) (h5 : P 5) (h6 : P 6) (h7 : P 7) {c : Nat} (hc : c < 8) : P c := by
  match c, hc with
  | 0, _ => exact h0
  | 1, _ => exact h1
  | 2, _ => exact h2
  | 3, _ => exact h3
  | 4, _ => exact h4
  | 5, _ => exact h5
  | 6, _ => exact h6
  | 7, _ => exact h7
theorem cl_at {c : Nat} (hc : c < 8) : vwCl[c]? = some (RN c, TN c, NN c) := lt8 (P := fun c => vwCl[c]? = some (RN c, TN c, NN c)) rfl rfl rfl rfl rfl rfl rfl rfl hc
theorem nm_N {c : Nat} (hc : c < 8) : ∀ a, a < NN c → ∀ b, b < NN c → a ≠ b → (TN c a).2.1 ≠ (TN c b).2.1 := lt8 (P := fun c => ∀ a, a < NN c → ∀ b, b < NN c → a ≠ b → (TN c a).2.1 ≠ (TN c b).2.1) nmX0 nmX1 nmX2 nmX3 nmX4 nmX5 nmX6 nmX7 hc
theorem ty_N {c : Nat} (hc : c < 8) : ∀ k, k < NN c → parseFieldDescriptor (TN c k).2.2.1 = some (tyN c k) := lt8 (P := fun c => ∀ k, k < NN c → parseFieldDescriptor (TN c k).2.2.1 = some (tyN c k)) tyX0_ok tyX1_ok tyX2_ok tyX3_ok tyX4_ok tyX5_ok tyX6_ok tyX7_ok hc
theorem in_N {c : Nat} (hc : c < 8) : ∀ w ∈ u_ws (RN c) (TN c) (NN c), w ∈ WL := by
  have key : ∀ ws : List Cond, (∀ w ∈ ws, w ∈ lw_tbl ∧ goodWord w = true) → ∀ w ∈ ws, w ∈ WL := fun ws h w hw => List.mem_filter.mpr (h w hw)
  refine lt8 (P := fun c => ∀ w ∈ u_ws (RN c) (TN c) (NN c), w ∈ WL) ?_ ?_ ?_ ?_ ?_ ?_ ?_ ?_ hc <;> exact key _ (by decide +kernel)
/-- the pool's entry idx of class own means field k of class ci -/
def LkF (own idx ci k : Nat) : Prop := ci < 8 ∧ k < NN ci ∧ Cond.fieldLink (RN own) idx (TN ci k).1 (TN ci k).2.1 (TN ci k).2.2.1 ∈ WL
theorem xad_lo {X : mX} {h : mH} {f : Option Nat} {H : Heap} {a : Nat} {e : mAc} (w : Wd X h f H) (ha : h a = some e) : xad X a = xlo X + a := if_pos (w.1 a e ha).1
theorem Wd.one {X : mX} {h : mH} {f : Option Nat} {H : Heap} {a : Nat} {e : mAc} (w : Wd X h f H) (ha : h a = some e) : va_P (xD X) vwCl [(xlo X + a, cvE X e)] H := by
  intro k q hk
  have hz : k < 1 := (List.getElem?_eq_some_iff.mp hk).1
  rw [show k = 0 by omega] at hk
  cases hk
  exact (w.1 a e ha).2
theorem ev_getfield {X : mX} {M : mMD} {B : mB} {pc : Nat} {L st : List Value} {h : mH} {Q : mO → mH → Prop} {idx ci k a : Nat} {fs : List Value} {v : Value} (hd : decode (mBy M) pc = .ok (.getfield idx, 3)) (hk : LkF (mOwn M) idx ci k) (ha : h a = some (aO ci fs)) (hv : fs[k]? = some v) (kk : Ev X M B (pc + 3) L (v :: st) h Q) : Ev X M B pc L (.ref a :: st) h Q := by
  intro p e s m args below meth c H locs ls R C hc hs hW hS hL
  show W _ _ _ _ _ _ _ _ _ _ _ _ _ _ _ (F0 m pc ls (.ref (xad X a) :: st.map (cv X)))
  rw [xad_lo hW ha]
  exact va_get (D := xD X) (ci := ci) C.1 C.2.1 C.2.2.2.2.2.1 (in_N hk.1) C.2.2.2.2.1 C.2.2.2.2.2.2.2.2.2.2.2.1.2.1 (hW.one ha) 0 rfl (cl_at hk.1) k hk.2.1 (C.2.2.2.2.2.1 _ hk.2.2) (fun _ z => z) (by rw [List.getElem?_map, hv]; rfl) hd (kk p e s m args below meth c H locs ls R C hc hs hW hS hL)
theorem ev_putfield {X : mX} {M : mMD} {B : mB} {pc : Nat} {L st : List Value} {h : mH} {Q : mO → mH → Prop} {idx ci k a : Nat} {fs fs' : List Value} {v : Value} (hd : decode (mBy M) pc = .ok (.putfield idx, 3)) (hk : LkF (mOwn M) idx ci k) (hfin : (TN ci k).2.2.2 = false) (ha : h a = some (aO ci fs)) (hl : k < fs.length) (hn : narrow (tyN ci k) (cv X v) = cv X v) (hfit : fits (tyN ci k) (cv X v) = true) (hfs : fs.set k v = fs') (kk : Ev X M B (pc + 3) L st (mset h a (aO ci fs')) Q) : Ev X M B pc L (v :: .ref a :: st) h Q := by
  subst hfs
  intro p e s m args below meth c H locs ls R C hc hs hW hS hL
  show W _ _ _ _ _ _ _ _ _ _ _ _ _ _ _ (F0 m pc ls (cv X v :: .ref (xad X a) :: st.map (cv X)))
  rw [xad_lo hW ha]
  have hap := va_apart (own := RN (mOwn M)) C.2.2.2.2.2.1 (in_N hk.1) (tyN ci) (ty_N hk.1) (nm_N hk.1) C.2.2.2.2.2.2.2.2.2.2.2.1.2.1 (cl_at hk.1)
  obtain ⟨r, h1, cell, q1, q2, q3, q4⟩ := (hW.1 a _ ha).2
  have hr : r = (RN ci, TN ci, NN ci) := Option.some.inj (h1.symm.trans (cl_at hk.1))
  subst hr
  obtain ⟨hSl, hfc, kC, hkC, hkind⟩ := C.2.2.2.2.2.2.2.2.2.2.2.1.2.1.1 ci _ (cl_at hk.1)
  obtain ⟨cf, kf, fi, f, hi, hsl⟩ := hSl k hk.2.1
  have hlay := C.2.2.2.2.2.1 _ (in_N hk.1 _ (u_in_lay hk.2.1))
  unfold u_lay at hlay
  rw [if_neg (by rw [hfin]; decide)] at hlay
  have hst := (u_facts hfc hkC (u_lays C.2.2.2.2.2.1 (in_N hk.1) hk.2.1) hi).1
  have h6 := u_store hfc hkC hkind hlay hi (ty_N hk.1 k hk.2.1) hn hfit
  refine W.putK C.1 C.2.1 (f := f) ⟨C.2.2.2.2.1, C.2.2.2.2.2.1 _ hk.2.2, ⟨_, _, _, hi⟩, hst⟩ (by rw [q2]; exact h6) q1 q3 (by rw [hsl]; exact k2_hasslot (q4 k hk.2.1)) rfl rfl hd fun H' e1 e2 e3 => ?_
  rw [hsl] at e1 ⊢
  refine kk p e s m args below meth c H' _ ls R C hc hs (hW.put ha e2 e3 ⟨_, cl_at hk.1, t_OB.to (V := updV (vp_V (fs.map (cv X))) k (cv X v)) ⟨_, e1, q2, q3, t_set q4 hap hk.2.1 (cv X v)⟩ (fun j _ => ?_)⟩) (hS.put e2 e3 (Nat.le_add_right _ _)) hL
  rw [vp_updV_set (by rw [List.length_map]; exact hl), ← List.map_set]
theorem ev_putfinal {X : mX} {M : mMD} {B : mB} {pc : Nat} {L st : List Value} {h : mH} {Q : mO → mH → Prop} {idx ci k a : Nat} {fs fs' : List Value} {v : Value} (hd : decode (mBy M) pc = .ok (.putfield idx, 3)) (hk : LkF (mOwn M) idx ci k) (hfin : (TN ci k).2.2.2 = true) (hin : (mNm M).name = "<init>") (hdecl : (TN ci k).1 = RN (mOwn M)) (ha : h a = some (aO ci fs)) (hl : k < fs.length) (hn : narrow (tyN ci k) (cv X v) = cv X v) (hfit : fits (tyN ci k) (cv X v) = true) (hfs : fs.set k v = fs') (kk : Ev X M B (pc + 3) L st (mset h a (aO ci fs')) Q) : Ev X M B pc L (v :: .ref a :: st) h Q := by
  subst hfs
  intro p e s m args below meth c H locs ls R C hc hs hW hS hL
  show W _ _ _ _ _ _ _ _ _ _ _ _ _ _ _ (F0 m pc ls (cv X v :: .ref (xad X a) :: st.map (cv X)))
  rw [xad_lo hW ha]
  have hap := va_apart (own := RN (mOwn M)) C.2.2.2.2.2.1 (in_N hk.1) (tyN ci) (ty_N hk.1) (nm_N hk.1) C.2.2.2.2.2.2.2.2.2.2.2.1.2.1 (cl_at hk.1)
  obtain ⟨r, h1, cell, q1, q2, q3, q4⟩ := (hW.1 a _ ha).2
  have hr : r = (RN ci, TN ci, NN ci) := Option.some.inj (h1.symm.trans (cl_at hk.1))
  subst hr
  obtain ⟨hSl, hfc, kC, hkC, hkind⟩ := C.2.2.2.2.2.2.2.2.2.2.2.1.2.1.1 ci _ (cl_at hk.1)
  obtain ⟨cf, kf, fi, f, hi, hsl⟩ := hSl k hk.2.1
  have hlay := C.2.2.2.2.2.1 _ (in_N hk.1 _ (u_in_lay hk.2.1))
  unfold u_lay at hlay
  rw [if_pos hfin] at hlay
  have hst := (u_facts hfc hkC (u_lays C.2.2.2.2.2.1 (in_N hk.1) hk.2.1) hi).1
  have hcf : m.cls = cf := by
    obtain ⟨_, _, c', _, _, _, -, -, hf', -, -, -, hown2, -⟩ := Cond.laysFinal_spec hlay
    have e1 : c' = cf := by have := hi.symm.trans hf'; simp at this; exact this.1.symm
    rw [hdecl] at hown2
    rw [← e1]; exact Option.some.inj (C.2.2.2.2.1.symm.trans hown2)
  have h6 := u_fits hfc hkC hkind (Or.inr hlay) hi (ty_N hk.1 k hk.2.1) hn hfit
  refine W.putFinK C.1 C.2.1 C.2.2.2.2.1 (C.2.2.2.2.2.1 _ hk.2.2) hi hst hcf (C.2.2.2.2.2.2.2.1.trans hin) (by rw [q2]; exact h6) q1 q3 (by rw [hsl]; exact k2_hasslot (q4 k hk.2.1)) rfl rfl hd fun H' e1 e2 e3 => ?_
  rw [hsl] at e1 ⊢
  refine kk p e s m args below meth c H' _ ls R C hc hs (hW.put ha e2 e3 ⟨_, cl_at hk.1, t_OB.to (V := updV (vp_V (fs.map (cv X))) k (cv X v)) ⟨_, e1, q2, q3, t_set q4 hap hk.2.1 (cv X v)⟩ (fun j _ => ?_)⟩) (hS.put e2 e3 (Nat.le_add_right _ _)) hL
  rw [vp_updV_set (by rw [List.length_map]; exact hl), ← List.map_set]
theorem ev_iaload {X : mX} {M : mMD} {B : mB} {pc : Nat} {L st : List Value} {h : mH} {Q : mO → mH → Prop} {a n : Nat} {f : Nat → Int32} {i : Int32} (hd : decode (mBy M) pc = .ok (.iaload, 1)) (ha : h a = some (aI n f)) (hin : vp_in i n) (kk : Ev X M B (pc + 1) L (.int (f i.toNatClampNeg) :: st) h Q) : Ev X M B pc L (.int i :: .ref a :: st) h Q := by
  intro p e s m args below meth c H locs ls R C hc hs hW hS hL
  show W _ _ _ _ _ _ _ _ _ _ _ _ _ _ _ (F0 m pc ls (.int i :: .ref (xad X a) :: st.map (cv X)))
  rw [xad_lo hW ha]
  exact va_iald C.1 C.2.1 C.2.2.2.2.2.2.2.2.2.2.2.1.2.1 (hW.one ha) 0 0 rfl rfl hin hd (kk p e s m args below meth c H locs ls R C hc hs hW hS hL)
theorem ev_laload {X : mX} {M : mMD} {B : mB} {pc : Nat} {L st : List Value} {h : mH} {Q : mO → mH → Prop} {a n : Nat} {f : Nat → Int64} {i : Int32} (hd : decode (mBy M) pc = .ok (.laload, 1)) (ha : h a = some (aL n f)) (hin : vp_in i n) (kk : Ev X M B (pc + 1) L (.long (f i.toNatClampNeg) :: st) h Q) : Ev X M B pc L (.int i :: .ref a :: st) h Q := by
  intro p e s m args below meth c H locs ls R C hc hs hW hS hL
  show W _ _ _ _ _ _ _ _ _ _ _ _ _ _ _ (F0 m pc ls (.int i :: .ref (xad X a) :: st.map (cv X)))
  rw [xad_lo hW ha]
  exact va_lald C.1 C.2.1 C.2.2.2.2.2.2.2.2.2.2.2.1.2.1 (hW.one ha) 0 1 rfl rfl hin hd (kk p e s m args below meth c H locs ls R C hc hs hW hS hL)
def kC : Nat → String := fun t => if t = 2 then RX1 else RX4
theorem ev_aaload {X : mX} {M : mMD} {B : mB} {pc : Nat} {L st : List Value} {h : mH} {Q : mO → mH → Prop} {a n t b : Nat} {f : Nat → Option Nat} {i : Int32} (hd : decode (mBy M) pc = .ok (.aaload, 1)) (ht : t = 2 ∨ t = 3) (ha : h a = some (aR t n f)) (hin : vp_in i n) (hb : f i.toNatClampNeg = some b) (kk : Ev X M B (pc + 1) L (.ref b :: st) h Q) : Ev X M B pc L (.int i :: .ref a :: st) h Q := by
  intro p e s m args below meth c H locs ls R C hc hs hW hS hL
  show W _ _ _ _ _ _ _ _ _ _ _ _ _ _ _ (F0 m pc ls (.int i :: .ref (xad X a) :: st.map (cv X)))
  rw [xad_lo hW ha]
  refine va_aldq (C := kC t) (f := fun j => (f j).map (xad X)) C.1 C.2.1 C.2.2.2.2.2.2.2.2.2.2.2.1.2.1 (hW.one ha) 0 t rfl (by rcases ht with rfl | rfl <;> rfl) hin hd ?_
  rw [hb]
  exact kk p e s m args below meth c H locs ls R C hc hs hW hS hL
theorem ev_ialoadR {X : mX} {M : mMD} {B : mB} {pc : Nat} {L st : List Value} {h : mH} {Q : mO → mH → Prop} {j n : Nat} {f : Nat → Int32} {i : Int32} (hd : decode (mBy M) pc = .ok (.iaload, 1)) (ha : xro X (1000000 + j) = some (n, f)) (hin : vp_in i n) (kk : Ev X M B (pc + 1) L (.int (f i.toNatClampNeg) :: st) h Q) : Ev X M B pc L (.int i :: .ref (1000000 + j) :: st) h Q := by
  intro p e s m args below meth c H locs ls R C hc hs hW hS hL
  show W _ _ _ _ _ _ _ _ _ _ _ _ _ _ _ (F0 m pc ls (.int i :: .ref (xad X (1000000 + j)) :: st.map (cv X)))
  have ead : xad X (1000000 + j) = xta X j := by
    unfold xad
    rw [if_neg (by omega), Nat.add_sub_cancel_left]
  rw [ead]
  obtain ⟨cell, h1, h2, h3, h4, h5, h6⟩ := C.2.2.2.2.2.2.2.2.2.2.2.1.2.2.2.2.2.2.2.2.2.1 j n f ha
  have hlt : i.toNatClampNeg < n := Nat.not_le.mp fun q => hin (Or.inr q)
  exact W.iald (v := .int (f i.toNatClampNeg)) C.1 C.2.1 (by rw [hS.2.1 _ (Array.getElem?_eq_some_iff.mp h1).1 h6]; exact h1) h2 h3 (by rw [h4]; exact hin) (h5 _ hlt) rfl rfl hd (kk p e s m args below meth c H locs ls R C hc hs hW hS hL)
theorem ev_arraylengthR {X : mX} {M : mMD} {B : mB} {pc : Nat} {L st : List Value} {h : mH} {Q : mO → mH → Prop} {j n : Nat} {f : Nat → Int32} (hd : decode (mBy M) pc = .ok (.arraylength, 1)) (ha : xro X (1000000 + j) = some (n, f)) (kk : Ev X M B (pc + 1) L (.int (nI n) :: st) h Q) : Ev X M B pc L (.ref (1000000 + j) :: st) h Q := by
  intro p e s m args below meth c H locs ls R C hc hs hW hS hL
  show W _ _ _ _ _ _ _ _ _ _ _ _ _ _ _ (F0 m pc ls (.ref (xad X (1000000 + j)) :: st.map (cv X)))
  have ead : xad X (1000000 + j) = xta X j := by
    unfold xad
    rw [if_neg (by omega), Nat.add_sub_cancel_left]
  rw [ead]
  obtain ⟨cell, h1, h2, h3, h4, h5, h6⟩ := C.2.2.2.2.2.2.2.2.2.2.2.1.2.2.2.2.2.2.2.2.2.1 j n f ha
  exact W.alen (n := Int32.ofNat n) C.1 C.2.1 (by rw [hS.2.1 _ (Array.getElem?_eq_some_iff.mp h1).1 h6]; exact h1) h2 (by rw [h4] <;> rfl) rfl rfl hd (kk p e s m args below meth c H locs ls R C hc hs hW hS hL)
theorem ev_arraylengthL {X : mX} {M : mMD} {B : mB} {pc : Nat} {L st : List Value} {h : mH} {Q : mO → mH → Prop} {a n : Nat} {f : Nat → Int64} (hd : decode (mBy M) pc = .ok (.arraylength, 1)) (ha : h a = some (aL n f)) (kk : Ev X M B (pc + 1) L (.int (nI n) :: st) h Q) : Ev X M B pc L (.ref a :: st) h Q := by
  intro p e s m args below meth c H locs ls R C hc hs hW hS hL
  show W _ _ _ _ _ _ _ _ _ _ _ _ _ _ _ (F0 m pc ls (.ref (xad X a) :: st.map (cv X)))
  rw [xad_lo hW ha]
  exact va_alen (x := (n, .inr (.inl f))) C.1 C.2.1 C.2.2.2.2.2.2.2.2.2.2.2.1.2.1 (hW.one ha) 0 1 rfl (ty := .long) rfl rfl hd (kk p e s m args below meth c H locs ls R C hc hs hW hS hL)
theorem ev_iastore {X : mX} {M : mMD} {B : mB} {pc : Nat} {L st : List Value} {h : mH} {Q : mO → mH → Prop} {a n : Nat} {f : Nat → Int32} {i x : Int32} (hd : decode (mBy M) pc = .ok (.iastore, 1)) (ha : h a = some (aI n f)) (hin : vp_in i n) (kk : Ev X M B (pc + 1) L st (mset h a (aI n (upd f i.toNatClampNeg x))) Q) : Ev X M B pc L (.int x :: .int i :: .ref a :: st) h Q := by
  intro p e s m args below meth c H locs ls R C hc hs hW hS hL
  show W _ _ _ _ _ _ _ _ _ _ _ _ _ _ _ (F0 m pc ls (.int x :: .int i :: .ref (xad X a) :: st.map (cv X)))
  rw [xad_lo hW ha]
  refine W.iast C.1 C.2.1 ((hW.1 a _ ha).2) ((C.2.2.2.2.2.2.2.2.2.2.2.1.2.1.2 0 _ rfl).1 n (fun j => .int (f j))) (fun q => by cases q) (by show ¬ (i < 0 ∨ (arrV _ _ _).slots.size ≤ _); rw [arrV_size]; exact hin) rfl rfl hd fun H1 e1 z oq => ?_
  refine kk p e s m args below meth c H1 _ ls R C hc hs (hW.put ha z oq ?_) (hS.put z oq (Nat.le_add_right _ _)) hL
  show H1[xlo X + a]? = some (vp_cell _ _)
  rw [e1, vp_cell_i, vp_cell_i, arrV_store]
  congr 2
  funext q
  by_cases hq : q = i.toNatClampNeg
  · subst hq
    simp [updV, upd]
  · simp [updV, upd, hq]
theorem ev_lastore {X : mX} {M : mMD} {B : mB} {pc : Nat} {L st : List Value} {h : mH} {Q : mO → mH → Prop} {a n : Nat} {f : Nat → Int64} {i : Int32} {x : Int64} (hd : decode (mBy M) pc = .ok (.lastore, 1)) (ha : h a = some (aL n f)) (hin : vp_in i n) (kk : Ev X M B (pc + 1) L st (mset h a (aL n (vp_updL f i.toNatClampNeg x))) Q) : Ev X M B pc L (.long x :: .int i :: .ref a :: st) h Q := by
  intro p e s m args below meth c H locs ls R C hc hs hW hS hL
  show W _ _ _ _ _ _ _ _ _ _ _ _ _ _ _ (F0 m pc ls (.long x :: .int i :: .ref (xad X a) :: st.map (cv X)))
  rw [xad_lo hW ha]
  refine W.last C.1 C.2.1 ((hW.1 a _ ha).2) ((C.2.2.2.2.2.2.2.2.2.2.2.1.2.1.2 1 _ rfl).1 n (fun j => .long (f j))) (fun q => by cases q) (by show ¬ (i < 0 ∨ (arrV _ _ _).slots.size ≤ _); rw [arrV_size]; exact hin) rfl rfl hd fun H1 e1 z oq => ?_
  refine kk p e s m args below meth c H1 _ ls R C hc hs (hW.put ha z oq ?_) (hS.put z oq (Nat.le_add_right _ _)) hL
  show H1[xlo X + a]? = some (vp_cell _ _)
  rw [e1, vp_cell_l, vp_cell_l, arrV_store]
  congr 2
  funext q
  by_cases hq : q = i.toNatClampNeg
  · subst hq
    simp [updV, vp_updL]
  · simp [updV, vp_updL, hq]
def upR (f : Nat → Option Nat) (k : Nat) (v : Option Nat) : Nat → Option Nat := fun j => if j = k then v else f j
theorem ev_aastore {X : mX} {M : mMD} {B : mB} {pc : Nat} {L st : List Value} {h : mH} {Q : mO → mH → Prop} {a n t b cb : Nat} {f : Nat → Option Nat} {i : Int32} {fb : List Value} (hd : decode (mBy M) pc = .ok (.aastore, 1)) (ht : t = 2 ∧ cb = 1 ∨ t = 3 ∧ cb = 4) (ha : h a = some (aR t n f)) (hb : h b = some (aO cb fb)) (hin : vp_in i n) (kk : Ev X M B (pc + 1) L st (mset h a (aR t n (upR f i.toNatClampNeg (some b)))) Q) : Ev X M B pc L (.ref b :: .int i :: .ref a :: st) h Q := by
  intro p e s m args below meth c H locs ls R C hc hs hW hS hL
  show W _ _ _ _ _ _ _ _ _ _ _ _ _ _ _ (F0 m pc ls (.ref (xad X b) :: .int i :: .ref (xad X a) :: st.map (cv X)))
  rw [xad_lo hW ha, xad_lo hW hb]
  have hK := C.2.2.2.2.2.2.2.2.2.2.2.1.2.1
  have hcb : cb < 8 := by omega
  have htc : (xtys X)[t]? = some (xK X t, .object (RN cb)) := by rcases ht with ⟨rfl, rfl⟩ | ⟨rfl, rfl⟩ <;> rfl
  have hlt : i.toNatClampNeg < n := Nat.not_le.mp fun q => hin (Or.inr q)
  have h0 : ¬ i < 0 := fun q => hin (Or.inl q)
  obtain ⟨r', hr', cellV, g1, g2, g3, -⟩ := (hW.1 b _ hb).2
  have hcls := (hK.1 cb _ (cl_at hcb)).2
  obtain ⟨kA, comp, k1, k2, k3, -⟩ := (hK.2 t _ htc).2
  have hcomp : comp = (xD X).1 cb := Option.some.inj (k3.symm.trans hcls.1)
  subst hcomp
  obtain ⟨kC, hkC, -⟩ := hcls.2
  refine W.aast C.1 C.2.1 ((hW.1 a _ ha).2) (fun q h => by cases h) (fun h => by cases h) k1 k2 rfl hkC ⟨h0, by show _ < (arrV _ _ _).slots.size; rw [arrV_size]; exact hlt⟩ g1 (fun q h => by rw [g3] at h; cases h) (by rw [g2]; exact hkC) (by rw [g2]; exact va_assign hcls) rfl rfl hd fun H1 e1 z oq => ?_
  refine kk p e s m args below meth c H1 _ ls R C hc hs (hW.put ha z oq ?_) (hS.put z oq (Nat.le_add_right _ _)) hL
  show H1[xlo X + a]? = some (vp_cell _ _)
  rw [e1, vp_cell_q, vp_cell_q, arrV_store]
  congr 2
  funext q
  by_cases hq : q = i.toNatClampNeg
  · subst hq
    simp [updV, upR, va_rf, xad_lo hW hb]
  · simp [updV, upR, hq]
theorem ev_getstatic {X : mX} {M : mMD} {B : mB} {pc : Nat} {L st : List Value} {h : mH} {Q : mO → mH → Prop} {idx k : Nat} (hd : decode (mBy M) pc = .ok (.getstatic idx, 3)) (hk : k < 3) (hl : Cond.fieldLink (RN (mOwn M)) idx RX6 (xstat k) "[I" ∈ WL) (kk : Ev X M B (pc + 3) L (.ref (1000000 + k) :: st) h Q) : Ev X M B pc L st h Q := by
  intro p e s m args below meth c H locs ls R C hc hs hW hS hL
  have ead : xad X (1000000 + k) = xta X k := by
    unfold xad
    rw [if_neg (by omega), Nat.add_sub_cancel_left]
  have K := kk p e s m args below meth c H locs ls R C hc hs hW hS hL
  have e2 : cv X (.ref (1000000 + k)) = .ref (xta X k) := congrArg Value.ref ead
  rw [List.map_cons, e2] at K
  exact va_gets C.1 C.2.1 (C.2.2.2.2.2.2.2.2.2.2.2.1.2.2.2.2.2.2.2.2.1 k hk) hS C.2.2.2.2.1 (C.2.2.2.2.2.1 _ hl) (fun _ z => z) hd K
end
section
section VXIA
variable {p : Program} {l : Launch} {e : Env} {R : Room} {s : State} {m : MethodId} {args : Array Value} {below : List Frame} {meth : Method} {c : Code} {T : State} {locs : List Loc} {cells slots : Nat}
theorem vx_callI (X : Stand p l e R s m args below meth c T locs cells slots) (hexec : p.tables.exec = Jvm.exec) {own : String} {index : Nat} {y : MethodName} {bytes : ByteArray} {maxL : Nat}
    (hown : s.vm.findClass own = some m.cls) (hy1 : y.name = "<init>") (hlink : (Cond.methodLink own index y).before args s = true) (hinst : (Cond.instanceMethod y).before args s = true)
    (hcode : (Cond.code y bytes maxL none).before args s = true) (hy : y.cls ≠ "java/lang/invoke/MethodHandle" ∧ y.cls ≠ "java/lang/invoke/VarHandle")
    {W9 : Nat} {Pre : Pt → Array Value → Prop} {Post : Pt → Array Value → Option Value → Pt → Prop} {PostX : Pt → Array Value → Addr → Pt → Prop} (hK : vx_Back l R p e below s args y 3 W9 Pre Post PostX)
    {g : JFrame} (hg : g.method = m) (hsize : g.locals.size = c.maxLocals) {a : Addr} {argsL rest : List Value} (hlen : ∀ sig, parseMethodDescriptor y.desc = some sig → argsL.length = sig.parameters.length)
    (hstack : g.stack = argsL.reverse ++ .ref a :: rest) (hW : 2 * g.monitorRoom + (rest.map fun v => v.category).sum ≤ W9) (hdg : decode c.code g.pc = .ok (.invokespecial index, 3))
    (hpre : ∀ vm₁, s.WarmedH vm₁ → Pre ⟨T.setVm vm₁, locs, cells, slots⟩ (Value.ref a :: argsL).toArray) :
    (∃ (v : Option Value) (vm₁ : Vm) (B : Pt), s.WarmedH vm₁ ∧ Stand p l e R s m args below meth c B.U B.locs B.cells B.slots ∧ Post ⟨T.setVm vm₁, locs, cells, slots⟩ (Value.ref a :: argsL).toArray v B ∧
      ∀ target, Steps p.tables e below (B.U.setTop { g with pc := g.pc + 3, stack := v.toList ++ rest }) target → Steps p.tables e below (T.setTop g) target) ∨
    (∃ (q : Addr) (vm₁ : Vm) (B : Pt), s.WarmedH vm₁ ∧ Stand p l e R s m args below meth c B.U B.locs B.cells B.slots ∧ PostX ⟨T.setVm vm₁, locs, cells, slots⟩ (Value.ref a :: argsL).toArray q B ∧
      Steps p.tables e below (T.setTop g) ((B.U.setTop { g with stack := rest }).pushFrame (.throwing q))) := by
  subst hg
  have hpl : e.platform.magicAccessors = ({} : Platform).magicAccessors := by rw [X.admits.platform]
  obtain ⟨mk, methM, cM, kP, vm₁, hnamed, hmethM, hcodeM, -, hlocalsM, -, hkP, -, hW₁, hstep₁⟩ := Steps.initColdArgs (e := e) X.here hexec X.warmed hpl hown hy1 hy hlink hinst hcode (f := g) rfl hlen hstack hdg
  have X₁ := X.noted hW₁
  rcases hK g.method meth c ⟨T.setVm vm₁, locs, cells, slots⟩ { g with stack := rest } (.invokespecial index) mk (Value.ref a :: argsL).toArray X₁ rfl hsize hdg hW (X₁.named hnamed) (hpre vm₁ X₁.warmed) with ⟨v, B, X', hpost, hsteps⟩ | ⟨q, B, X', hpost, hsteps⟩
  · exact Or.inl ⟨v, vm₁, B, X₁.warmed, X', hpost, fun target h => hstep₁ _ fun acts => by rw [doInvoke_state]; exact hsteps.trans h⟩
  · exact Or.inr ⟨q, vm₁, B, X₁.warmed, X', hpost, hstep₁ _ fun acts => by rw [doInvoke_state]; exact hsteps⟩
end VXIA
section VXIB
variable {p : Program} {l : Launch} {e : Env} {R : Room} {s : State} {m : MethodId} {args : Array Value} {below : List Frame} {meth : Method} {c : Code} {H : Heap} {locs : List Loc} {cells slots : Nat}
variable {y : MethodName} {bytes cc : ByteArray} {maxL nL mc ms n index : Nat} {ret : Option FieldType} {ws : List Cond} {rm : Room} {Pc : Array Value → State → Prop} {Qc : Array Value → State → Outcome → State → Prop} {XC : String → State → State → Prop} {free : Addr → Prop} {Ts : List Cond} {own C : String} {b : Addr} {As rest : List Value} {g : JFrame}
theorem vx_runI (S : CallFix p m c cc nL s args Ts own) (hM : vx_Met l y ws rm Pc Qc XC mc ms free) (cw : CallB R s args own index y bytes maxL none ws rm mc ms n ∧ y.name = "<init>" ∧ (Cond.instanceMethod y).before args s = true) (hp : PreS s H Pc (.ref b :: As))
    (hg : g.method = m) (hn : As.length = n) (hsize : g.locals.size = nL) (hstack : g.stack = As.reverse ++ .ref b :: rest) (hW : 2 * g.monitorRoom + (rest.map fun v => v.category).sum ≤ 8) (hdg : decode cc g.pc = .ok (.invokespecial index, 3)) (hf : cells + mc ≤ R.cells ∧ slots + ms ≤ R.slots) :
    vx_Run p l e R s m args below meth c H locs cells slots mc ms g rest (Qc (Value.ref b :: As).toArray) XC free := by
  have hK : vx_Back l R p e below s args y 3 8 (PreOf R mc ms Pc) (PostOf Qc mc ms free) (vx_Post XC mc ms free) := vx_callBack cw.1 hM hp.1
  obtain ⟨⟨-, -, -, -, -, -, hcode, -, hy, hlen, hl⟩, hy1, hin⟩ := cw
  obtain ⟨hx, hb, hml, ho, -⟩ := S
  have hPc := hp.2
  intro T hT X
  rcases vx_callI X hx (bytes := bytes) (maxL := maxL) ho hy1 hl hin hcode hy hK hg (hsize.trans hml.symm) (a := b) (argsL := As) (rest := rest) (fun sig h => hn.trans (hlen sig h)) hstack hW (by rw [hb]; exact hdg)
    (fun vm₁ hW₁ => ⟨hf.1, hf.2, hPc (T.setVm vm₁) hT hW₁⟩) with ⟨v, vm₁, ⟨U', l2, c2, s2⟩, hW₁, X', ⟨g', mk, t, L, e1, e2, hq, h1, hL, h2, h3⟩, st⟩ | ⟨q, vm₁, ⟨U', l2, c2, s2⟩, hW₁, X', ⟨g', mk, t, L, E, ce, e1, e2, hq, hce, hcv, hcl, h1, hL, h2, h3⟩, st⟩
  · dsimp only [Pt.U, Pt.locs, Pt.cells, Pt.slots] at X' e1 e2 h1 h2 h3 st
    subst h1; subst h2; subst h3
    exact Or.inl ⟨v, (T.setVm vm₁).calling g' mk (Value.ref b :: As).toArray, t, U', L, hT, X', hL, e1, e2, hq, st⟩
  · dsimp only [Pt.U, Pt.locs, Pt.cells, Pt.slots] at X' e1 e2 h1 h2 h3 st hcl
    subst h1; subst h2; subst h3
    exact Or.inr ⟨q, (T.setVm vm₁).calling g' mk (Value.ref b :: As).toArray, t, U', L, E, ce, hT, X', hL, e1, e2, hq, hce, hcv, vx_cls hW₁ hcl, st⟩
end VXIB
theorem ev_ireturn {X : mX} {M : mMD} {f f' : Option Nat} {ce sl mc ms pc : Nat} {L st : List Value} {h : mH} {Q : mO → mH → Prop} {x : Int32} (hd : decode (mBy M) pc = .ok (.ireturn, 1)) (hr : mRt M = some .int)  (hf : f = f' ∨ f' = none) (hce : ce ≤ mc) (hsl : sl ≤ ms) (hq : Q (.inl (some (.int x))) h) : Ev X M (f, f', ce, sl, mc, ms) pc L [.int x] h Q := by
  intro p e s m args below meth c H locs ls R C hc hs hW hS hL
  refine vx_ret (W.widen hce hsl ?_)
  exact W.iret C.1 C.2.1 (C.2.2.1.trans hr) (fun t ht _ => ⟨(some (.int x)), h, rfl, hq, by rw [ht]; exact hW.to hf, hS.F ht⟩) hS.2.2 hd C.2.2.2.2.2.2.1
theorem ev_zreturn {X : mX} {M : mMD} {f f' : Option Nat} {ce sl mc ms pc : Nat} {L st : List Value} {h : mH} {Q : mO → mH → Prop} {x : Int32} (hd : decode (mBy M) pc = .ok (.ireturn, 1)) (hr : mRt M = some .boolean) (hx : narrow .boolean (.int x) = .int x) (hf : f = f' ∨ f' = none) (hce : ce ≤ mc) (hsl : sl ≤ ms) (hq : Q (.inl (some (.int x))) h) : Ev X M (f, f', ce, sl, mc, ms) pc L [.int x] h Q := by
  intro p e s m args below meth c H locs ls R C hc hs hW hS hL
  refine vx_ret (W.widen hce hsl ?_)
  exact W.zret C.1 C.2.1 (C.2.2.1.trans hr) hx (fun t ht _ => ⟨(some (.int x)), h, rfl, hq, by rw [ht]; exact hW.to hf, hS.F ht⟩) hS.2.2 hd C.2.2.2.2.2.2.1
theorem ev_lreturn {X : mX} {M : mMD} {f f' : Option Nat} {ce sl mc ms pc : Nat} {L st : List Value} {h : mH} {Q : mO → mH → Prop} {x : Int64} (hd : decode (mBy M) pc = .ok (.lreturn, 1)) (hr : mRt M = some .long)  (hf : f = f' ∨ f' = none) (hce : ce ≤ mc) (hsl : sl ≤ ms) (hq : Q (.inl (some (.long x))) h) : Ev X M (f, f', ce, sl, mc, ms) pc L [.long x] h Q := by
  intro p e s m args below meth c H locs ls R C hc hs hW hS hL
  refine vx_ret (W.widen hce hsl ?_)
  exact W.lret C.1 C.2.1 (C.2.2.1.trans hr) (fun t ht _ => ⟨(some (.long x)), h, rfl, hq, by rw [ht]; exact hW.to hf, hS.F ht⟩) hS.2.2 hd C.2.2.2.2.2.2.1
theorem ev_dreturn {X : mX} {M : mMD} {f f' : Option Nat} {ce sl mc ms pc : Nat} {L st : List Value} {h : mH} {Q : mO → mH → Prop} {x : UInt64} (hd : decode (mBy M) pc = .ok (.dreturn, 1)) (hr : mRt M = some .double)  (hf : f = f' ∨ f' = none) (hce : ce ≤ mc) (hsl : sl ≤ ms) (hq : Q (.inl (some (.double x))) h) : Ev X M (f, f', ce, sl, mc, ms) pc L [.double x] h Q := by
  intro p e s m args below meth c H locs ls R C hc hs hW hS hL
  refine vx_ret (W.widen hce hsl ?_)
  exact W.dret C.1 C.2.1 (C.2.2.1.trans hr) (fun t ht _ => ⟨(some (.double x)), h, rfl, hq, by rw [ht]; exact hW.to hf, hS.F ht⟩) hS.2.2 hd C.2.2.2.2.2.2.1
theorem ev_return {X : mX} {M : mMD} {f f' : Option Nat} {ce sl mc ms pc : Nat} {L st : List Value} {h : mH} {Q : mO → mH → Prop}  (hd : decode (mBy M) pc = .ok (.return_, 1)) (hr : mRt M = none)  (hf : f = f' ∨ f' = none) (hce : ce ≤ mc) (hsl : sl ≤ ms) (hq : Q (.inl none) h) : Ev X M (f, f', ce, sl, mc, ms) pc L [] h Q := by
  intro p e s m args below meth c H locs ls R C hc hs hW hS hL
  refine vx_ret (W.widen hce hsl ?_)
  exact W.vret C.1 C.2.1 (C.2.2.1.trans hr) (fun t ht _ => ⟨none, h, rfl, hq, by rw [ht]; exact hW.to hf, hS.F ht⟩) hS.2.2 hd C.2.2.2.2.2.2.1
theorem ev_new {X : mX} {M : mMD} {f' : Option Nat} {n ce sl mc ms pc : Nat} {L st : List Value} {h : mH} {Q : mO → mH → Prop} {idx ci : Nat} {fs : List Value} (hd : decode (mBy M) pc = .ok (.new idx, 3)) (hci : ci < 8) (hcl : Cond.classLink (RN (mOwn M)) idx (RN ci) ∈ WL) (hinst : Cond.instantiable (RN ci) (NN ci) ∈ WL) (hini : Cond.initialized (RN ci) ∈ WL) (hfs : ∀ j, j < NN ci → defaultValue (tyN ci j) = vp_V (fs.map (cv X)) j) (hn : n + 1 < 1000000) (hcells : ce + 1 ≤ mc) (hslots : sl + NN ci ≤ ms) (kk : Ev X M (some (n + 1), f', ce + 1, sl + NN ci, mc, ms) (pc + 3) L (.ref n :: st) (mset h n (aO ci fs)) Q) : Ev X M (some n, f', ce, sl, mc, ms) pc L st h Q := by
  intro p e s m args below meth c H locs ls R C hc hs hW hS hL
  have hK := C.2.2.2.2.2.2.2.2.2.2.2.1.2.1
  have hKn := hK.1 ci _ (cl_at hci)
  refine W.newcK C.1 C.2.1 C.2.2.2.2.1 (C.2.2.2.2.2.1 _ hcl) (C.2.2.2.2.2.1 _ hinst) (C.2.2.2.2.2.1 _ hini) rfl hd (by rw [hc]; exact hcells) (by rw [hs]; exact hslots) hKn.2.1 rfl fun H1 kC hkC e1 z1 o1 => ?_
  have hz := (hW.2.2 n rfl).1
  have e9 : Value.ref H.size = cv X (.ref n) := by
    show Value.ref H.size = Value.ref (xad X n)
    rw [hz, xad, if_pos (hW.2.2 n rfl).2.1]
  rw [e9]
  refine kk p e s m args below meth c H1 locs ls R C hc hs (hW.push hn z1 o1 ⟨_, cl_at hci, (u_born (tyN ci) C.2.2.2.2.2.1 (in_N hci) hKn hkC e1 (ty_N hci)).to hfs⟩) ⟨Nat.le_trans hS.1 (by omega), fun x h1 h2 => (o1 x (Nat.lt_of_lt_of_le h1 hS.1)).trans (hS.2.1 x h1 h2), hS.2.2⟩ hL
theorem ev_newI {X : mX} {M : mMD} {f' : Option Nat} {n ce sl mc ms pc : Nat} {L st : List Value} {h : mH} {Q : mO → mH → Prop} {z : Int32} (k : Nat) (hd : decode (mBy M) pc = .ok (.newarray .int, 2)) (hw : Cond.arrayClass .int ∈ WL) (hz0 : ¬ z < 0) (hzk : z.toNatClampNeg = k) (hk9 : k ≤ 60000) (hn : n + 1 < 1000000) (hcells : ce + 1 ≤ mc) (hslots : sl + k ≤ ms) (kk : Ev X M (some (n + 1), f', ce + 1, sl + k, mc, ms) (pc + 2) L (.ref n :: st) (mset h n (aI k (fun _ => 0))) Q) : Ev X M (some n, f', ce, sl, mc, ms) pc L (.int z :: st) h Q := by
  intro p e s m args below meth c H locs ls R C hc hs hW hS hL
  have hK := C.2.2.2.2.2.2.2.2.2.2.2.1.2.1
  have h8 : componentBytes (newarray.typeOf .int) ≤ 8 := by decide
  have hby : k * componentBytes (newarray.typeOf .int) ≤ 536870912 := by
    have := Nat.mul_le_mul hk9 h8
    omega
  refine va_newaK (atype := .int) C.1 C.2.1 (C.2.2.2.2.2.1 _ hw) rfl hd rfl hz0 hzk hby (by rw [hc]; exact hcells) (by rw [hs]; exact hslots) rfl fun H1 cA e1 z1 o1 hAr hNm => ?_
  have hcA : cA = xK X 0 := Option.some.inj (hNm.symm.trans (hK.2 0 _ rfl).2)
  subst hcA
  have hz := (hW.2.2 n rfl).1
  have e9 : Value.ref H.size = cv X (.ref n) := by
    show Value.ref H.size = Value.ref (xad X n)
    rw [hz, xad, if_pos (hW.2.2 n rfl).2.1]
  rw [e9]
  exact kk p e s m args below meth c H1 locs ls R C hc hs (hW.push hn z1 o1 e1) ⟨Nat.le_trans hS.1 (by omega), fun x h1 h2 => (o1 x (Nat.lt_of_lt_of_le h1 hS.1)).trans (hS.2.1 x h1 h2), hS.2.2⟩ hL
theorem ev_newL {X : mX} {M : mMD} {f' : Option Nat} {n ce sl mc ms pc : Nat} {L st : List Value} {h : mH} {Q : mO → mH → Prop} {z : Int32} (k : Nat) (hd : decode (mBy M) pc = .ok (.newarray .long, 2)) (hw : Cond.arrayClass .long ∈ WL) (hz0 : ¬ z < 0) (hzk : z.toNatClampNeg = k) (hk9 : k ≤ 60000) (hn : n + 1 < 1000000) (hcells : ce + 1 ≤ mc) (hslots : sl + k ≤ ms) (kk : Ev X M (some (n + 1), f', ce + 1, sl + k, mc, ms) (pc + 2) L (.ref n :: st) (mset h n (aL k (fun _ => 0))) Q) : Ev X M (some n, f', ce, sl, mc, ms) pc L (.int z :: st) h Q := by
  intro p e s m args below meth c H locs ls R C hc hs hW hS hL
  have hK := C.2.2.2.2.2.2.2.2.2.2.2.1.2.1
  have h8 : componentBytes (newarray.typeOf .long) ≤ 8 := by decide
  have hby : k * componentBytes (newarray.typeOf .long) ≤ 536870912 := by
    have := Nat.mul_le_mul hk9 h8
    omega
  refine va_newaK (atype := .long) C.1 C.2.1 (C.2.2.2.2.2.1 _ hw) rfl hd rfl hz0 hzk hby (by rw [hc]; exact hcells) (by rw [hs]; exact hslots) rfl fun H1 cA e1 z1 o1 hAr hNm => ?_
  have hcA : cA = xK X 1 := Option.some.inj (hNm.symm.trans (hK.2 1 _ rfl).2)
  subst hcA
  have hz := (hW.2.2 n rfl).1
  have e9 : Value.ref H.size = cv X (.ref n) := by
    show Value.ref H.size = Value.ref (xad X n)
    rw [hz, xad, if_pos (hW.2.2 n rfl).2.1]
  rw [e9]
  exact kk p e s m args below meth c H1 locs ls R C hc hs (hW.push hn z1 o1 e1) ⟨Nat.le_trans hS.1 (by omega), fun x h1 h2 => (o1 x (Nat.lt_of_lt_of_le h1 hS.1)).trans (hS.2.1 x h1 h2), hS.2.2⟩ hL
theorem ev_anew {X : mX} {M : mMD} {f' : Option Nat} {n ce sl mc ms pc : Nat} {L st : List Value} {h : mH} {Q : mO → mH → Prop} {idx : Nat} {z : Int32} (t k : Nat) (hd : decode (mBy M) pc = .ok (.anewarray idx, 3)) (ht : t = 2 ∨ t = 3) (hw : Cond.classLink (RN (mOwn M)) idx (kC t) ∈ WL) (hz0 : ¬ z < 0) (hzk : z.toNatClampNeg = k) (hk9 : k ≤ 60000) (hn : n + 1 < 1000000) (hcells : ce + 1 ≤ mc) (hslots : sl + k ≤ ms) (kk : Ev X M (some (n + 1), f', ce + 1, sl + k, mc, ms) (pc + 3) L (.ref n :: st) (mset h n (aR t k (fun _ => none))) Q) : Ev X M (some n, f', ce, sl, mc, ms) pc L (.int z :: st) h Q := by
  subst hzk
  intro p e s m args below meth c H locs ls R C hc hs hW hS hL
  have hF := C.2.2.2.2.2.2.2.2.2.2.2.1
  have hK := hF.2.1
  have hAO : va_AO (kC t) s := by
    rcases ht with rfl | rfl
    · exact hF.2.2.2.2.2.2.2.2.2.2.1
    · exact hF.2.2.2.2.2.2.2.2.2.2.2.1
  have htc : (xtys X)[t]? = some (xK X t, .object (kC t)) := by rcases ht with rfl | rfl <;> rfl
  refine W.anew C.1 C.2.1 C.2.2.2.2.1 (C.2.2.2.2.2.1 _ hw) (va_AO.use hAO) rfl hd rfl hz0 (by omega) (by rw [hc]; exact hcells) (by rw [hs]; exact hslots) fun cA kA comp f1 f2 f3 f4 => ?_
  generalize hH1 : H.push ({ cls := cA, slots := Array.replicate z.toNatClampNeg .null, vm := .none } : Cell) = H1
  have z1 : H1.size = H.size + 1 := by rw [← hH1, Array.size_push]
  have e1 : H1[H.size]? = some (arrV cA z.toNatClampNeg (fun _ => .null)) := by rw [← hH1, Array.getElem?_push_size, ← arrV_new]
  have o1 : ∀ q : Nat, q < H.size → H1[q]? = H[q]? := fun q hq => by rw [← hH1, Array.getElem?_push, if_neg (Nat.ne_of_lt hq)]
  obtain ⟨kA2, comp2, -, -, -, k4⟩ := (hK.2 t _ htc).2
  have hcA : cA = xK X t := Option.some.inj (f1.symm.trans k4)
  subst hcA
  have hz := (hW.2.2 n rfl).1
  have e9 : Value.ref H.size = cv X (.ref n) := by
    show Value.ref H.size = Value.ref (xad X n)
    rw [hz, xad, if_pos (hW.2.2 n rfl).2.1]
  rw [e9]
  exact kk p e s m args below meth c H1 locs ls R C hc hs (hW.push hn z1 o1 (show H1[H.size]? = some (vp_cell _ _) from by rw [vp_cell_q]; exact e1)) ⟨Nat.le_trans hS.1 (by omega), fun x h1 h2 => (o1 x (Nat.lt_of_lt_of_le h1 hS.1)).trans (hS.2.1 x h1 h2), hS.2.2⟩ hL
theorem ev_objInit {X : mX} {M : mMD} {B : mB} {pc : Nat} {L st : List Value} {h : mH} {Q : mO → mH → Prop} {idx a : Nat} {e0 : mAc} (hd : decode (mBy M) pc = .ok (.invokespecial idx, 3)) (hl : Cond.methodLink (RN (mOwn M)) idx Lib.objectInit ∈ WL) (hi : Cond.instanceMethod Lib.objectInit ∈ WL) (hcd : Cond.code Lib.objectInit ⟨#[0xb1]⟩ 1 none ∈ WL) (hfr : 1 ≤ mFr M) (hlo : (st.map fun v => v.category).sum + 12 ≤ mLo M) (ha : h a = some e0) (kk : Ev X M B (pc + 3) L st h Q) : Ev X M B pc L (.ref a :: st) h Q := by
  intro p e s m args below meth c H locs ls R C hc hs hW hS hL
  show W _ _ _ _ _ _ _ _ _ _ _ _ _ _ _ (F0 m pc ls (.ref (xad X a) :: st.map (cv X)))
  have hK := kk p e s m args below meth c H locs ls R C hc hs hW hS hL
  obtain ⟨-, -, -, hml, hown, hw, -, -, -, hRf, hRl, -, -⟩ := id C
  exact W.objInit C.1 C.2.1 hown (hw _ hl) (hw _ hi) (hw _ hcd) rfl (by rw [hml]; exact hL.1) rfl hd (by rw [hRf]; exact hfr) (by rw [hRl]; show 2 * 0 + _ + 12 ≤ _; rw [cv_cats]; omega) hK
end
section
theorem mPc_blind (X : mX) (f : Option Nat) (as : List Value) (h : mH) : FrameBlind (mPc X f as h) := by
  intro a U g mk q
  obtain ⟨q0, q1, q2⟩ := q
  exact ⟨q0, q1, q2.go (U := U.calling g mk a) (State.WarmedH.refl U) (fun _ _ _ => rfl)⟩
/-- behind a call -/
theorem run_to {X : mX} {p : Program} {e : Env} {R : Room} {s : State} {m : MethodId} {args : Array Value} {below : List Frame} {meth : Method} {c : Code} {H : Heap} {locs : List Loc} {ce sl mc1 ms1 pc : Nat} {ls : Array Slot} {st0 rest : List Value} {a : Array Value} {Q1 : mO → mH → Prop} {f1 : Option Nat} {Z : State → Prop}
    (hr : vx_Run p (xl X) e R s m args below meth c H locs ce sl mc1 ms1 (F0 m pc ls st0) rest (Qcv X Q1 f1 a) (Qxv X Q1) (xA X)) (hS : va_S (xA X) s.heap H locs)
    (kk : ∀ (v : Option Value) (h1 : mH) (H1 : Heap) (locs1 : List Loc), Q1 (.inl v) h1 → Wd X h1 f1 H1 → va_S (xA X) s.heap H1 locs1 → W p (xl X) e R s m args below meth c H1 locs1 (ce + mc1) (sl + ms1) Z (F0 m (pc + 3) ls ((v.map (cv X)).toList ++ rest)))
    (kx : ∀ (k : Nat) (h1 : mH) (H1 : Heap) (locs1 : List Loc) (q : Addr) (cl : Cell), k < 3 → Q1 (.inr k) h1 → Wd X h1 none H1 → va_S (xA X) s.heap H1 locs1 → H1[q]? = some cl → cl.vm = .none → s.vm.findClass (exn k) = some cl.cls → vx_W p (xl X) e R s m args below meth c H1 locs1 (ce + mc1) (sl + ms1) Z (F0 m pc ls rest) q) :
    W p (xl X) e R s m args below meth c H locs ce sl Z (F0 m pc ls st0) := by
  intro T hT Y
  rcases hr T hT Y with ⟨v, st₀, t, T', L, h0, X', hL, e1, e2, ⟨v1, h1, hv, hq, hw, hF⟩, st⟩ | ⟨q, st₀, t, T', L, E, cl, h0, X', hL, e1, e2, ⟨k, h1, hk, hE, hq, hw, hF⟩, hce, hcv, hcl, st⟩
  · have hv2 : v = v1.map (cv X) := by cases hv; rfl
    subst hv2
    obtain ⟨k1, k2, k3⟩ := vx_keep h0 e1 hS (fun _ _ z => z) (fun _ z => z) hL hF
    obtain ⟨t2, a1, b1⟩ := kk v1 h1 T'.heap (locs ++ L) hq (by rw [e1]; exact hw) k3 T' rfl X'
    exact ⟨t2, st t2 a1, b1⟩
  · subst hE
    obtain ⟨k1, k2, k3⟩ := vx_keep h0 e1 hS (fun _ _ z => z) (fun _ z => z) hL hF
    obtain ⟨t2, a1, b1⟩ := kx k h1 T'.heap (locs ++ L) q cl hk hq (by rw [e1]; exact hw) k3 (by rw [e1]; exact hce) hcv hcl T' rfl X'
    exact ⟨t2, st.trans a1, b1⟩
/-- what a method's callers need of it: static or not, its class, its parameters -/
def CalI (M : mMD) (n : Nat) : Prop := (Cond.instanceMethod (mNm M) ∈ WL ∧ Cond.selects (mNm M).cls (mNm M) (mNm M) ∈ WL ∧ Cond.initialized (mNm M).cls ∈ WL ∧ Cond.code (mNm M) (mBy M) (mML M) (mRt M) ∈ WL) ∧ (mNm M).cls = RN (mOwn M) ∧ mOwn M < 8 ∧ ((mNm M).cls ≠ "java/lang/invoke/MethodHandle" ∧ (mNm M).cls ≠ "java/lang/invoke/VarHandle" ∧ (parseMethodDescriptor (mNm M).desc).map (fun d => d.parameters.length) = some n)
def CalS (M : mMD) (n : Nat) : Prop := (Cond.static (mNm M) ∈ WL ∧ Cond.initialized (mNm M).cls ∈ WL ∧ Cond.code (mNm M) (mBy M) (mML M) (mRt M) ∈ WL) ∧ ((mNm M).cls ≠ "java/lang/invoke/MethodHandle" ∧ (mNm M).cls ≠ "java/lang/invoke/VarHandle" ∧ (parseMethodDescriptor (mNm M).desc).map (fun d => d.parameters.length) = some n)
def CalC (M : mMD) (n : Nat) : Prop := (Cond.instanceMethod (mNm M) ∈ WL ∧ Cond.initialized (mNm M).cls ∈ WL ∧ Cond.code (mNm M) (mBy M) (mML M) none ∈ WL) ∧ mRt M = none ∧ (mNm M).name = "<init>" ∧ ((mNm M).cls ≠ "java/lang/invoke/MethodHandle" ∧ (mNm M).cls ≠ "java/lang/invoke/VarHandle" ∧ (parseMethodDescriptor (mNm M).desc).map (fun d => d.parameters.length) = some n)
def CalH (M : mMD) (n : Nat) : Prop := (Cond.static (mNm M) ∈ WL ∧ Cond.initialized (mNm M).cls ∈ WL ∧ Cond.codeWith (mNm M) (mBy M) (mML M) (mRt M) (mHH M) ∈ WL) ∧ ((mNm M).cls ≠ "java/lang/invoke/MethodHandle" ∧ (mNm M).cls ≠ "java/lang/invoke/VarHandle" ∧ (parseMethodDescriptor (mNm M).desc).map (fun d => d.parameters.length) = some n)
/-- the callee's frames and words fit -/
def Fits (M M' : mMD) : Prop := mFr M' + 1 ≤ mFr M ∧ 8 + (mML M' + 11) + mLo M' ≤ mLo M
theorem WL_to {w : Cond} (h : w ∈ WL) : w ∈ WL ∧ ((w.onTables && w.keeps) = true ∨ ∃ ty, w = .arrayClass ty) := ⟨h, (WL_good w h).2⟩
theorem WL_code {M : mMD} (h : Cond.code (mNm M) (mBy M) (mML M) (mRt M) ∈ WL) : GoodIn WL (wsM M) := fun w hw => (List.mem_cons.mp hw).elim (fun q => by rw [q]; exact WL_to h) (fun q => WL_to q)
theorem WL_codeH {M : mMD} (h : Cond.codeWith (mNm M) (mBy M) (mML M) (mRt M) (mHH M) ∈ WL) : GoodIn WL (wsH M) := fun w hw => (List.mem_cons.mp hw).elim (fun q => by rw [q]; exact WL_to h) (fun q => WL_to q)
/-- what stays of an exception that this method doesn't catch -/
theorem out_to {X : mX} {M : mMD} {p : Program} {e : Env} {R : Room} {s : State} {m : MethodId} {args : Array Value} {below : List Frame} {meth : Method} {c : Code} (C : Cx X M R p s m args meth c) (hh : mHH M = []) {Q : mO → mH → Prop} {f' : Option Nat} {ce sl mc ms pc : Nat} {ls : Array Slot} {rest : List Value} (k : Nat) (h1 : mH) (H1 : Heap) (locs1 : List Loc) (q : Addr) (cl : Cell) (hk : k < 3) (hq : Q (.inr k) h1) (hw : Wd X h1 none H1) (hS : va_S (xA X) s.heap H1 locs1) (h1c : H1[q]? = some cl) (hv : cl.vm = .none) (hcl : s.vm.findClass (exn k) = some cl.cls) (hce : ce ≤ mc) (hsl : sl ≤ ms) :
    vx_W p (xl X) e R s m args below meth c H1 locs1 ce sl (vx_MQ below (Qcv X Q f') (Qxv X Q) args s mc ms (xA X)) (F0 m pc ls rest) q := by
  refine vx_out (fun x hx => ?_) C.2.2.2.2.2.2.1 h1c hv hcl (fun t ht _ => ⟨k, h1, hk, rfl, hq, by rw [ht]; exact hw, hS.F ht⟩) hS.2.2 hce hsl
  have he := C.2.2.2.2.2.2.2.2.1
  rw [hh, List.map_eq_nil_iff] at he
  rw [he] at hx
  cases hx
theorem ev_callV {X : mX} {M M' : mMD} {f f' f1 : Option Nat} {ce sl mc ms mc1 ms1 pc : Nat} {L st : List Value} {h : mH} {Q Q1 : mO → mH → Prop} {idx n b : Nat} {as fs : List Value} (hd : decode (mBy M) pc = .ok (.invokevirtual idx, 3)) (hcal : CalI M' n) (hl : Cond.methodLink (RN (mOwn M)) idx (mNm M') ∈ WL) (hfit : Fits M M') (hh : mHH M = []) (hb : h b = some (aO (mOwn M') fs)) (hn : as.length = n) (hst : (st.map fun v => v.category).sum ≤ 8) (hm : Cn X M' f f1 mc1 ms1 (.ref b :: as) h Q1) (hce : ce + mc1 ≤ mc) (hsl : sl + ms1 ≤ ms) (kk : ∀ (v : Option Value) (h1 : mH), Q1 (.inl v) h1 → Ev X M (f1, f', ce + mc1, sl + ms1, mc, ms) (pc + 3) L (v.toList ++ st) h1 Q) (kx : ∀ (k : Nat) (h1 : mH), Q1 (.inr k) h1 → Q (.inr k) h1) : Ev X M (f, f', ce, sl, mc, ms) pc L (as.reverse ++ .ref b :: st) h Q := by
  intro p e s m args below meth c H locs ls R C hc hs hW hS hL
  obtain ⟨⟨c1, c2, c3, c4⟩, c5, c6, c7⟩ := hcal
  have hts := C.2.2.2.2.2.1
  have hF := C.2.2.2.2.2.2.2.2.2.2.2.1
  have hr : vx_Run p (xl X) e R s m args below meth c H locs ce sl mc1 ms1 (F0 m pc ls ((as.reverse ++ .ref b :: st).map (cv X))) (st.map (cv X)) (Qcv X Q1 f1 (Value.ref (xad X b) :: as.map (cv X)).toArray) (Qxv X Q1) (xA X) :=
    vx_runV (C := (mNm M').cls) (own := RN (mOwn M)) (bytes := mBy M') (maxL := mML M') (ret := mRt M') (n := n) (index := idx) (Ts := WL) (ws := wsM M') (rm := mRm M' mc1 ms1) ⟨C.1, C.2.1, C.2.2.2.1, C.2.2.2.2.1, hts⟩ hm
      (cwV n hts (fun w hw => by
        rcases List.mem_append.mp hw with q | q
        · rcases List.mem_cons.mp q with rfl | q
          · exact WL_to hl
          · rcases List.mem_cons.mp q with rfl | q
            · exact WL_to c1
            · rcases List.mem_cons.mp q with rfl | q
              · exact WL_to c2
              · rcases List.mem_cons.mp q with rfl | q
                · exact WL_to c3
                · cases q
        · exact WL_code c4 w q) rfl rfl rfl ⟨rfl, c7⟩ (by rw [C.2.2.2.2.2.2.2.2.2.1, C.2.2.2.2.2.2.2.2.2.2.1]; exact hfit))
      ⟨mPc_blind X f _ h, by rw [c5, xad_lo hW hb]; exact va_recv hF.2.1 (hW.one hb) (cl_at c6) (q0 := 0) rfl, fun U hU hWU => ⟨rfl, by rw [hU]; exact hW, by rw [hU]; exact hF.go hWU hS.2.1⟩⟩ rfl (by rw [List.length_map]; exact hn) hL.1 (by show List.map (cv X) (as.reverse ++ .ref b :: st) = _; rw [List.map_append, List.map_reverse]; rfl) (by show 2 * 0 + _ ≤ 8; rw [cv_cats]; omega) hd ⟨by rw [hc]; exact hce, by rw [hs]; exact hsl⟩
  refine run_to hr hS (fun v h1 H1 locs1 hq hw hS1 => ?_) (fun k h1 H1 locs1 q cl hk hq hw hS1 h1c hv hcl => out_to C hh k h1 H1 locs1 q cl hk (kx k h1 hq) hw hS1 h1c hv hcl hce hsl)
  have K := kk v h1 hq p e s m args below meth c H1 locs1 ls R C hc hs hw hS1 hL
  rw [List.map_append, show v.toList.map (cv X) = (v.map (cv X)).toList from by cases v <;> rfl] at K
  exact K
theorem ev_callS {X : mX} {M M' : mMD} {f f' f1 : Option Nat} {ce sl mc ms mc1 ms1 pc : Nat} {L st : List Value} {h : mH} {Q Q1 : mO → mH → Prop} {idx n : Nat} {as : List Value} (hd : decode (mBy M) pc = .ok (.invokestatic idx, 3)) (hcal : CalS M' n) (hl : Cond.methodLink (RN (mOwn M)) idx (mNm M') ∈ WL) (hfit : Fits M M') (hh : mHH M = []) (hn : as.length = n) (hst : (st.map fun v => v.category).sum ≤ 8) (hm : Cn X M' f f1 mc1 ms1 as h Q1) (hce : ce + mc1 ≤ mc) (hsl : sl + ms1 ≤ ms) (kk : ∀ (v : Option Value) (h1 : mH), Q1 (.inl v) h1 → Ev X M (f1, f', ce + mc1, sl + ms1, mc, ms) (pc + 3) L (v.toList ++ st) h1 Q) (kx : ∀ (k : Nat) (h1 : mH), Q1 (.inr k) h1 → Q (.inr k) h1) : Ev X M (f, f', ce, sl, mc, ms) pc L (as.reverse ++ st) h Q := by
  intro p e s m args below meth c H locs ls R C hc hs hW hS hL
  obtain ⟨⟨c1, c3, c4⟩, c7⟩ := hcal
  have hts := C.2.2.2.2.2.1
  have hF := C.2.2.2.2.2.2.2.2.2.2.2.1
  have hr : vx_Run p (xl X) e R s m args below meth c H locs ce sl mc1 ms1 (F0 m pc ls ((as.reverse ++ st).map (cv X))) (st.map (cv X)) (Qcv X Q1 f1 (as.map (cv X)).toArray) (Qxv X Q1) (xA X) :=
    vx_runS (own := RN (mOwn M)) (bytes := mBy M') (maxL := mML M') (ret := mRt M') (n := n) (index := idx) (Ts := WL) (ws := wsM M') (rm := mRm M' mc1 ms1) ⟨C.1, C.2.1, C.2.2.2.1, C.2.2.2.2.1, hts⟩ hm
      (va_cwS n hts (fun w hw => by
        rcases List.mem_append.mp hw with q | q
        · rcases List.mem_cons.mp q with rfl | q
          · exact WL_to hl
          · rcases List.mem_cons.mp q with rfl | q
            · exact WL_to c1
            · rcases List.mem_cons.mp q with rfl | q
              · exact WL_to c3
              · cases q
        · exact WL_code c4 w q) rfl rfl rfl c7 (by rw [C.2.2.2.2.2.2.2.2.2.1, C.2.2.2.2.2.2.2.2.2.2.1]; exact hfit))
      ⟨mPc_blind X f _ h, fun U hU hWU => ⟨rfl, by rw [hU]; exact hW, by rw [hU]; exact hF.go hWU hS.2.1⟩⟩ rfl (by rw [List.length_map]; exact hn) hL.1 (by show List.map (cv X) (as.reverse ++ st) = _; rw [List.map_append, List.map_reverse]) (by show 2 * 0 + _ ≤ 8; rw [cv_cats]; omega) hd ⟨by rw [hc]; exact hce, by rw [hs]; exact hsl⟩
  refine run_to hr hS (fun v h1 H1 locs1 hq hw hS1 => ?_) (fun k h1 H1 locs1 q cl hk hq hw hS1 h1c hv hcl => out_to C hh k h1 H1 locs1 q cl hk (kx k h1 hq) hw hS1 h1c hv hcl hce hsl)
  have K := kk v h1 hq p e s m args below meth c H1 locs1 ls R C hc hs hw hS1 hL
  rw [List.map_append, show v.toList.map (cv X) = (v.map (cv X)).toList from by cases v <;> rfl] at K
  exact K
theorem ev_callH {X : mX} {M M' : mMD} {f f' f1 : Option Nat} {ce sl mc ms mc1 ms1 pc : Nat} {L st : List Value} {h : mH} {Q Q1 : mO → mH → Prop} {idx n : Nat} {as : List Value} (hd : decode (mBy M) pc = .ok (.invokestatic idx, 3)) (hcal : CalH M' n) (hl : Cond.methodLink (RN (mOwn M)) idx (mNm M') ∈ WL) (hfit : Fits M M') (hh : mHH M = []) (hn : as.length = n) (hst : (st.map fun v => v.category).sum ≤ 8) (hm : CnH X M' f f1 mc1 ms1 as h Q1) (hce : ce + mc1 ≤ mc) (hsl : sl + ms1 ≤ ms) (kk : ∀ (v : Option Value) (h1 : mH), Q1 (.inl v) h1 → Ev X M (f1, f', ce + mc1, sl + ms1, mc, ms) (pc + 3) L (v.toList ++ st) h1 Q) (kx : ∀ (k : Nat) (h1 : mH), Q1 (.inr k) h1 → Q (.inr k) h1) : Ev X M (f, f', ce, sl, mc, ms) pc L (as.reverse ++ st) h Q := by
  intro p e s m args below meth c H locs ls R C hc hs hW hS hL
  obtain ⟨⟨c1, c3, c4⟩, c7⟩ := hcal
  have hts := C.2.2.2.2.2.1
  have hF := C.2.2.2.2.2.2.2.2.2.2.2.1
  have hr : vx_Run p (xl X) e R s m args below meth c H locs ce sl mc1 ms1 (F0 m pc ls ((as.reverse ++ st).map (cv X))) (st.map (cv X)) (Qcv X Q1 f1 (as.map (cv X)).toArray) (Qxv X Q1) (xA X) :=
    vx_runSX (hh := mHH M') (own := RN (mOwn M)) (bytes := mBy M') (maxL := mML M') (ret := mRt M') (n := n) (index := idx) (Ts := WL) (ws := wsH M') (rm := mRm M' mc1 ms1) ⟨C.1, C.2.1, C.2.2.2.1, C.2.2.2.2.1, hts⟩ hm
      (vx_cwSW n hts (fun w hw => by
        rcases List.mem_append.mp hw with q | q
        · rcases List.mem_cons.mp q with rfl | q
          · exact WL_to hl
          · rcases List.mem_cons.mp q with rfl | q
            · exact WL_to c1
            · rcases List.mem_cons.mp q with rfl | q
              · exact WL_to c3
              · cases q
        · exact WL_codeH c4 w q) rfl rfl rfl c7 (by rw [C.2.2.2.2.2.2.2.2.2.1, C.2.2.2.2.2.2.2.2.2.2.1]; exact hfit))
      ⟨mPc_blind X f _ h, fun U hU hWU => ⟨rfl, by rw [hU]; exact hW, by rw [hU]; exact hF.go hWU hS.2.1⟩⟩ rfl (by rw [List.length_map]; exact hn) hL.1 (by show List.map (cv X) (as.reverse ++ st) = _; rw [List.map_append, List.map_reverse]) (by show 2 * 0 + _ ≤ 8; rw [cv_cats]; omega) hd ⟨by rw [hc]; exact hce, by rw [hs]; exact hsl⟩
  refine run_to hr hS (fun v h1 H1 locs1 hq hw hS1 => ?_) (fun k h1 H1 locs1 q cl hk hq hw hS1 h1c hv hcl => out_to C hh k h1 H1 locs1 q cl hk (kx k h1 hq) hw hS1 h1c hv hcl hce hsl)
  have K := kk v h1 hq p e s m args below meth c H1 locs1 ls R C hc hs hw hS1 hL
  rw [List.map_append, show v.toList.map (cv X) = (v.map (cv X)).toList from by cases v <;> rfl] at K
  exact K
theorem ev_callI {X : mX} {M M' : mMD} {f f' f1 : Option Nat} {ce sl mc ms mc1 ms1 pc : Nat} {L st : List Value} {h : mH} {Q Q1 : mO → mH → Prop} {idx n b : Nat} {as : List Value} (hd : decode (mBy M) pc = .ok (.invokespecial idx, 3)) (hcal : CalC M' n) (hl : Cond.methodLink (RN (mOwn M)) idx (mNm M') ∈ WL) (hfit : Fits M M') (hh : mHH M = []) (hn : as.length = n) (hst : (st.map fun v => v.category).sum ≤ 8) (hm : Cn X M' f f1 mc1 ms1 (.ref b :: as) h Q1) (hce : ce + mc1 ≤ mc) (hsl : sl + ms1 ≤ ms) (kk : ∀ (v : Option Value) (h1 : mH), Q1 (.inl v) h1 → Ev X M (f1, f', ce + mc1, sl + ms1, mc, ms) (pc + 3) L (v.toList ++ st) h1 Q) (kx : ∀ (k : Nat) (h1 : mH), Q1 (.inr k) h1 → Q (.inr k) h1) : Ev X M (f, f', ce, sl, mc, ms) pc L (as.reverse ++ .ref b :: st) h Q := by
  intro p e s m args below meth c H locs ls R C hc hs hW hS hL
  obtain ⟨⟨c1, c3, c4⟩, c5, c6, c7⟩ := hcal
  have c4' := c4
  rw [← c5] at c4'
  have hts := C.2.2.2.2.2.1
  have hF := C.2.2.2.2.2.2.2.2.2.2.2.1
  have hr : vx_Run p (xl X) e R s m args below meth c H locs ce sl mc1 ms1 (F0 m pc ls ((as.reverse ++ .ref b :: st).map (cv X))) (st.map (cv X)) (Qcv X Q1 f1 (Value.ref (xad X b) :: as.map (cv X)).toArray) (Qxv X Q1) (xA X) :=
    vx_runI (own := RN (mOwn M)) (bytes := mBy M') (maxL := mML M') (n := n) (index := idx) (Ts := WL) (ws := wsM M') (rm := mRm M' mc1 ms1) ⟨C.1, C.2.1, C.2.2.2.1, C.2.2.2.2.1, hts⟩ hm
      (cwI (ws' := WL) n hts (WL_code c4') (by rw [wsM, c5]) rfl rfl (hts _ c3) (hts _ hl) (hts _ c1) c6 c7 (by rw [C.2.2.2.2.2.2.2.2.2.1, C.2.2.2.2.2.2.2.2.2.2.1]; exact hfit))
      ⟨mPc_blind X f _ h, fun U hU hWU => ⟨rfl, by rw [hU]; exact hW, by rw [hU]; exact hF.go hWU hS.2.1⟩⟩ rfl (by rw [List.length_map]; exact hn) hL.1 (by show List.map (cv X) (as.reverse ++ .ref b :: st) = _; rw [List.map_append, List.map_reverse]; rfl) (by show 2 * 0 + _ ≤ 8; rw [cv_cats]; omega) hd ⟨by rw [hc]; exact hce, by rw [hs]; exact hsl⟩
  refine run_to hr hS (fun v h1 H1 locs1 hq hw hS1 => ?_) (fun k h1 H1 locs1 q cl hk hq hw hS1 h1c hv hcl => out_to C hh k h1 H1 locs1 q cl hk (kx k h1 hq) hw hS1 h1c hv hcl hce hsl)
  have K := kk v h1 hq p e s m args below meth c H1 locs1 ls R C hc hs hw hS1 hL
  rw [List.map_append, show v.toList.map (cv X) = (v.map (cv X)).toList from by cases v <;> rfl] at K
  exact K
theorem ent_lv (X : mX) (as : List Value) : ∀ (i0 : Nat) (i : Nat) (v : Value), (entA as)[i]? = some v → v ≠ jk → (i0 + i, cv X v) ∈ lv_args i0 (as.map (cv X)) := by
  induction as with
  | nil => intro i0 i v h; simp [entA] at h
  | cons a as ih =>
    intro i0 i v h hv
    have one : (cv X a).category = 1 → entA (a :: as) = a :: entA as → (i0 + i, cv X v) ∈ lv_args i0 ((a :: as).map (cv X)) := by
      intro hc e
      rw [e] at h
      show _ ∈ (i0, cv X a) :: lv_args (if (cv X a).category = 2 then i0 + 2 else i0 + 1) (as.map (cv X))
      rw [if_neg (by omega)]
      cases i with
      | zero => cases h; exact List.mem_cons_self
      | succ i => exact List.mem_cons_of_mem _ (by have := ih (i0 + 1) i v h hv; rwa [show i0 + 1 + i = i0 + (i + 1) by omega] at this)
    have two : (cv X a).category = 2 → entA (a :: as) = a :: jk :: entA as → (i0 + i, cv X v) ∈ lv_args i0 ((a :: as).map (cv X)) := by
      intro hc e
      rw [e] at h
      show _ ∈ (i0, cv X a) :: lv_args (if (cv X a).category = 2 then i0 + 2 else i0 + 1) (as.map (cv X))
      rw [if_pos hc]
      cases i with
      | zero => cases h; exact List.mem_cons_self
      | succ i =>
        cases i with
        | zero => cases h; exact absurd rfl hv
        | succ i => exact List.mem_cons_of_mem _ (by have := ih (i0 + 2) i v h hv; rwa [show i0 + 2 + i = i0 + (i + 1 + 1) by omega] at this)
    cases a <;> first | exact two rfl rfl | exact one rfl rfl
theorem ent_len (X : mX) (as : List Value) : (lg_sl (as.map (cv X))).length = (entA as).length := by
  induction as with
  | nil => rfl
  | cons a as ih =>
    show (lg_sl (cv X a :: as.map (cv X))).length = _
    unfold lg_sl at ih ⊢
    rw [List.flatMap_cons, List.length_append, ih]
    cases a <;> simp [cv, Value.category, entA] <;> omega
theorem ent_LR (X : mX) (as : List Value) {n : Nat} (h : (entA as).length ≤ n) : LR X (ent as n) ((lg_sl (as.map (cv X)) ++ List.replicate (n - (lg_sl (as.map (cv X))).length) Slot.unset).toArray) n := by
  have e := lv_entry (as.map (cv X)) (n := n) (by rw [ent_len]; exact h)
  refine ⟨e.1, by simp [ent]; omega, e.2.1, fun i v hi hv => ?_⟩
  refine e.2.2 (i, cv X v) ?_
  unfold ent at hi
  by_cases hl : i < (entA as).length
  · rw [List.getElem?_append_left hl] at hi
    have := ent_lv X as 0 i v hi hv
    rwa [Nat.zero_add] at this
  · rw [List.getElem?_append_right (by omega)] at hi
    have := List.mem_of_getElem? hi
    rw [List.mem_replicate] at this
    exact absurd this.2 hv
theorem cn_of_ev {X : mX} {M : mMD} {f f' : Option Nat} {mc ms : Nat} {as L0 : List Value} {h : mH} {Q : mO → mH → Prop} (hy : plainName (mNm M).cls = true) (hcls : (mNm M).cls = RN (mOwn M)) (hh : mHH M = []) (hlen : (entA as).length ≤ mML M) (hL0 : ent as (mML M) = L0) (k : Ev X M (f, f', 0, 0, mc, ms) 0 L0 [] h Q) : Cn X M f f' mc ms as h Q := by
  subst hL0
  refine vx_ofW (cc := mBy M) (maxL := mML M) (ret := mRt M) (ws' := WL) hy rfl ?_
  intro p e s m args below meth c s₁ Bd hml htab hv
  obtain ⟨rfl, hW, hF⟩ := hv
  have hts := atoms_spec (ws := wsM M) Bd.pre
  have hown : s.vm.findClass (mNm M).cls = some m.cls := findClass_of_methodNamed Bd.named
  rw [hcls] at hown
  rw [lg_entry_eq]
  refine k p e s m (as.map (cv X)).toArray below meth c s.heap [] _ _ ⟨Bd.exec, Bd.bytes, Bd.returns, hml, hown, fun w hw => hts w (List.mem_cons_of_mem _ hw), Bd.notSynchronized, (name_of_methodNamed Bd.named Bd.method).1, ?_, rfl, rfl, hF, hW.2.1⟩ rfl rfl hW va_S.rf (ent_LR X as hlen)
  rw [hh, List.map_eq_nil_iff]
  exact List.eq_nil_iff_forall_not_mem.mpr htab
theorem cnH_of_ev {X : mX} {M : mMD} {f f' : Option Nat} {mc ms : Nat} {as L0 : List Value} {h : mH} {Q : mO → mH → Prop} (hy : plainName (mNm M).cls = true) (hcls : (mNm M).cls = RN (mOwn M)) (hlen : (entA as).length ≤ mML M) (hL0 : ent as (mML M) = L0) (k : Ev X M (f, f', 0, 0, mc, ms) 0 L0 [] h Q) : CnH X M f f' mc ms as h Q := by
  subst hL0
  refine vx_ofWH (cc := mBy M) (maxL := mML M) (ret := mRt M) (hh := mHH M) (ws' := WL) hy rfl ?_
  intro p e s m args below meth c s₁ Bd hml hv
  obtain ⟨rfl, hW, hF⟩ := hv
  have hts := atoms_spec (ws := wsH M) Bd.pre
  have hown : s.vm.findClass (mNm M).cls = some m.cls := findClass_of_methodNamed Bd.named
  rw [hcls] at hown
  obtain ⟨m9, meth9, c9, hn9, hm9, hc9, -, -, hx9, -, -, -⟩ := Cond.codeWith_spec (hts (.codeWith (mNm M) (mBy M) (mML M) (mRt M) (mHH M)) List.mem_cons_self)
  have hm : m9 = m := by
    have h1 := Bd.named
    rw [hn9] at h1
    exact Option.some.inj h1
  subst hm
  have hmm : meth9 = meth := Option.some.inj (hm9.symm.trans Bd.method)
  subst hmm
  have hcc : c9 = c := Option.some.inj (hc9.symm.trans (Stand.of_body Bd).code)
  subst hcc
  rw [lg_entry_eq]
  exact k p e s m9 (as.map (cv X)).toArray below meth9 c9 s.heap [] _ _ ⟨Bd.exec, Bd.bytes, Bd.returns, hml, hown, fun w hw => hts w (List.mem_cons_of_mem _ hw), Bd.notSynchronized, (name_of_methodNamed Bd.named Bd.method).1, hx9, rfl, rfl, hF, hW.2.1⟩ rfl rfl hW va_S.rf (ent_LR X as hlen)
end
section
theorem Wd.keep {X : mX} {h : mH} {f : Option Nat} {H H1 : Heap} (w : Wd X h f H) (hz : H.size ≤ H1.size) (hq : ∀ q, q < H.size → H1[q]? = H[q]?) : Wd X h none H1 := by
  refine ⟨fun a e ha => ?_, Nat.le_trans w.2.1 hz, fun n hn => by cases hn⟩
  obtain ⟨k1, k2⟩ := w.1 a e ha
  exact ⟨k1, va_at.kept k2 (hq _ k2.lt)⟩
def exIk : Nat → Nat := fun k => match k with
  | 0 => 78
  | 1 => 102
  | _ => 89
def exIc : Nat → Nat := fun k => match k with
  | 0 => 82
  | 1 => 106
  | _ => 93
abbrev exUp : List String := ["java/lang/RuntimeException", "java/lang/Exception"]
theorem lt3 {P : Nat → Prop} (h0 : P 0) (h1 : P 1) (h2 : P 2) {k : Nat} (hk : k < 3) : P k := by
  match k, hk with
  | 0, _ => exact h0
  | 1, _ => exact h1
  | 2, _ => exact h2
theorem ex_link {k : Nat} (hk : k < 3) : Cond.classLink RX6 (exIk k) (exn k) ∈ WL ∧ Cond.initialized (exn k) ∈ WL := by
  have key : ∀ w : Cond, w ∈ lw_tbl → goodWord w = true → w ∈ WL := fun w h g => List.mem_filter.mpr ⟨h, g⟩
  exact lt3 (P := fun k => Cond.classLink RX6 (exIk k) (exn k) ∈ WL ∧ Cond.initialized (exn k) ∈ WL) ⟨key _ (by decide +kernel) (by decide +kernel), key _ (by decide +kernel) (by decide +kernel)⟩ ⟨key _ (by decide +kernel) (by decide +kernel), key _ (by decide +kernel) (by decide +kernel)⟩ ⟨key _ (by decide +kernel) (by decide +kernel), key _ (by decide +kernel) (by decide +kernel)⟩ hk
theorem ex_words {k : Nat} (hk : k < 3) : ∀ w ∈ vx_atS RX6 (exIc k) (exn k) exUp, (w ∈ lw_tbl ∧ goodWord w = true) ∨ w = .castable (exn k) (exn k) ∨ ∃ n ∈ exDc, w = .declares (Bundle.initS n) :=
  lt3 (P := fun k => ∀ w ∈ vx_atS RX6 (exIc k) (exn k) exUp, (w ∈ lw_tbl ∧ goodWord w = true) ∨ w = .castable (exn k) (exn k) ∨ ∃ n ∈ exDc, w = .declares (Bundle.initS n)) (by decide +kernel) (by decide +kernel) (by decide +kernel) hk
theorem ex_good {k : Nat} (hk : k < 3) : ∀ w ∈ Cond.classLink RX6 (exIk k) (exn k) :: Cond.initialized (exn k) :: vx_atS RX6 (exIc k) (exn k) exUp, vx_ot w = true :=
  lt3 (P := fun k => ∀ w ∈ Cond.classLink RX6 (exIk k) (exn k) :: Cond.initialized (exn k) :: vx_atS RX6 (exIc k) (exn k) exUp, vx_ot w = true) (by decide +kernel) (by decide +kernel) (by decide +kernel) hk
theorem ex_fit {k : Nat} (hk : k < 3) : Bundle.fit (exn k) = true := lt3 (P := fun k => Bundle.fit (exn k) = true) (by decide +kernel) (by decide +kernel) (by decide +kernel) hk
theorem ex_up : ∀ n ∈ exUp, Bundle.fit n = true := by decide +kernel
theorem ev_throwS {X : mX} {M M' : mMD} {f f' f1 : Option Nat} {ce sl mc ms mc1 ms1 pc : Nat} {L st : List Value} {h : mH} {Q Q1 : mO → mH → Prop} {is : Nat} (k : Nat) (text : String) (hk : k < 3) (hown : mOwn M = 6) (hstr : (is, text) ∈ xstrs) (hh : mHH M = []) (hfr : 5 < mFr M) (hlo : (st.map fun v => v.category).sum + 82 ≤ mLo M)
    (d0 : decode (mBy M) pc = .ok (.new (exIk k), 3)) (d3 : decode (mBy M) (pc + 3) = .ok (.dup, 1)) (d4 : decode (mBy M) (pc + 4) = .ok (.ldc is, 2)) (d6 : decode (mBy M) (pc + 6) = .ok (.invokespecial (exIc k), 3)) (d9 : decode (mBy M) (pc + 9) = .ok (.athrow, 1))
    (hce : ce + 1 ≤ mc) (hsl : sl + 6 ≤ ms) (hq : Q (.inr k) h) : Ev X M (f, f', ce, sl, mc, ms) pc L st h Q := by
  intro p e s m args below meth c H locs ls R C hc hs hW hS hL
  obtain ⟨hx, hb, hr, hml, hown2, hw, hlk, hnm, htab, hRf, hRl, hF, hlo2⟩ := id C
  rw [hown] at hown2
  obtain ⟨sa, hsa⟩ := hF.2.2.2.2.2.1 _ hstr
  have hat : ∀ w ∈ vx_atS RX6 (exIc k) (exn k) exUp, w.before args s = true := by
    intro w hw2
    rcases ex_words hk w hw2 with ⟨q1, q2⟩ | rfl | ⟨n, hn, rfl⟩
    · exact hw _ (List.mem_filter.mpr ⟨q1, q2⟩)
    · exact va_Nw.use rfl (hF.2.2.1 k hk)
    · exact va_Nw.use rfl (hF.2.2.2.2.2.2.2.2.2.2.2.2.2 n hn)
  refine vx_throwS (names := exUp) (ik := exIk k) (is := is) (ic := exIc k) (sa := sa) (text := text) (A := xA X) hx hb hF.1 hown2 (ex_fit hk) ex_up (hw _ (ex_link hk).1) (hw _ (ex_link hk).2) hsa hat (ex_good hk) hF.2.2.2.2.2.2.1 hF.2.2.2.2.2.2.2.1 hS (hL.1.trans hml.symm) d0 d3 d4 d6 d9 ?_ (by rw [hRf]; exact hfr) (by rw [hRl, cv_cats]; exact hlo) (by rw [hc]; exact hce) (by rw [hs]; exact hsl) hlk (fun t hvm hz hq2 => ?_) hS.2.2 hce hsl
  · intro x hx2
    rw [hh, List.map_eq_nil_iff] at htab
    rw [htab] at hx2
    cases hx2
  · exact ⟨k, h, hk, rfl, hq, hW.keep hz hq2, Nat.le_trans hS.1 hz, fun q h1 h2 => (hq2 q (Nat.lt_of_lt_of_le h1 hS.1)).trans (hS.2.1 q h1 h2)⟩
theorem ev_throwSW {X : mX} {M M' : mMD} {f f' f1 : Option Nat} {ce sl mc ms mc1 ms1 pc : Nat} {L st : List Value} {h : mH} {Q Q1 : mO → mH → Prop} {is : Nat} (k : Nat) (text : String) (hk : k < 3) (hown : mOwn M = 6) (hstr : (is, text) ∈ xstrs) (hh : mHH M = []) (hfr : 5 < mFr M) (hlo : (st.map fun v => v.category).sum + 82 ≤ mLo M)
    (d0 : decode (mBy M) pc = .ok (.new (exIk k), 3)) (d3 : decode (mBy M) (pc + 3) = .ok (.dup, 1)) (d4 : decode (mBy M) (pc + 4) = .ok (.ldc_w is, 3)) (d6 : decode (mBy M) (pc + 7) = .ok (.invokespecial (exIc k), 3)) (d9 : decode (mBy M) (pc + 10) = .ok (.athrow, 1))
    (hce : ce + 1 ≤ mc) (hsl : sl + 6 ≤ ms) (hq : Q (.inr k) h) : Ev X M (f, f', ce, sl, mc, ms) pc L st h Q := by
  intro p e s m args below meth c H locs ls R C hc hs hW hS hL
  obtain ⟨hx, hb, hr, hml, hown2, hw, hlk, hnm, htab, hRf, hRl, hF, hlo2⟩ := id C
  rw [hown] at hown2
  obtain ⟨sa, hsa⟩ := hF.2.2.2.2.2.1 _ hstr
  have hat : ∀ w ∈ vx_atS RX6 (exIc k) (exn k) exUp, w.before args s = true := by
    intro w hw2
    rcases ex_words hk w hw2 with ⟨q1, q2⟩ | rfl | ⟨n, hn, rfl⟩
    · exact hw _ (List.mem_filter.mpr ⟨q1, q2⟩)
    · exact va_Nw.use rfl (hF.2.2.1 k hk)
    · exact va_Nw.use rfl (hF.2.2.2.2.2.2.2.2.2.2.2.2.2 n hn)
  refine vx_throwSW (names := exUp) (ik := exIk k) (is := is) (ic := exIc k) (sa := sa) (text := text) (A := xA X) hx hb hF.1 hown2 (ex_fit hk) ex_up (hw _ (ex_link hk).1) (hw _ (ex_link hk).2) hsa hat (ex_good hk) hF.2.2.2.2.2.2.1 hF.2.2.2.2.2.2.2.1 hS (hL.1.trans hml.symm) d0 d3 d4 d6 d9 ?_ (by rw [hRf]; exact hfr) (by rw [hRl, cv_cats]; exact hlo) (by rw [hc]; exact hce) (by rw [hs]; exact hsl) hlk (fun t hvm hz hq2 => ?_) hS.2.2 hce hsl
  · intro x hx2
    rw [hh, List.map_eq_nil_iff] at htab
    rw [htab] at hx2
    cases hx2
  · exact ⟨k, h, hk, rfl, hq, hW.keep hz hq2, Nat.le_trans hS.1 hz, fun q h1 h2 => (hq2 q (Nat.lt_of_lt_of_le h1 hS.1)).trans (hS.2.1 q h1 h2)⟩
theorem LR.stj {X : mX} {L : List Value} {ls ls' : Array Slot} {n i : Nat} {w : Value} (h : LR X L ls n) (hi : i < n) (h' : lv_has ls' n ((i, w) :: (lvl X L).filter (fun q => !(q.1 == i) && !(q.1 + 1 == i && q.2.category == 2)))) : LR X (stl L i jk) ls' n := by
  refine ⟨h'.1, by rw [stl_len]; exact h.2.1, h'.2.1, fun j v hj hv => ?_⟩
  refine h'.2.2 (j, cv X v) ?_
  rcases stl_get (by rw [h.2.1]; exact hi) hj hv with ⟨-, q⟩ | ⟨h1, h2, h3⟩
  · exact absurd q hv
  · refine List.mem_cons_of_mem _ (List.mem_filter.mpr ⟨lvl_mem.mpr ⟨v, h2, hv, rfl⟩, ?_⟩)
    simp only [cv_cat]
    by_cases h4 : j + 1 = i
    · have h5 : ¬ v.category = 2 := fun q => h3 ⟨h4, q⟩
      simp [h1, h5]
    · simp [h1, h4]
/-- the row of a table of handlers that takes exception k at pc; ahead of it rows of others -/
def Hnd (M : mMD) (pc k : Nat) (x : Nat × Nat × Nat × Nat) : Prop := k < 3 ∧ ∃ (pre suf : List (Nat × Nat × Nat × Nat)), mHH M = pre ++ x :: suf ∧ (∀ z ∈ pre, z.2.2.2 ≠ 0 ∧ ∃ j, j < 3 ∧ j ≠ k ∧ Cond.classLink (RN (mOwn M)) z.2.2.2 (exn j) ∈ WL) ∧ x.1 ≤ pc ∧ pc < x.2.1 ∧ x.2.2.2 ≠ 0 ∧ Cond.classLink (RN (mOwn M)) x.2.2.2 (exn k) ∈ WL
theorem catch_to {X : mX} {M : mMD} {p : Program} {e : Env} {R : Room} {s : State} {m : MethodId} {args : Array Value} {below : List Frame} {meth : Method} {c : Code} (C : Cx X M R p s m args meth c) {Z : State → Prop} {ce sl pc k : Nat} {ls : Array Slot} {rest : List Value} {x : Nat × Nat × Nat × Nat} {H1 : Heap} {locs1 : List Loc} {q : Addr} {cl : Cell} (hx : Hnd M pc k x) (h1c : H1[q]? = some cl) (hv : cl.vm = .none) (hcl : s.vm.findClass (exn k) = some cl.cls)
    (kk : W p (xl X) e R s m args below meth c H1 locs1 ce sl Z (F0 m x.2.2.1 ls [.ref q])) : vx_W p (xl X) e R s m args below meth c H1 locs1 ce sl Z (F0 m pc ls rest) q := by
  obtain ⟨hk, pre, suf, hsplit, hpre, c1, c2, c3, c4⟩ := hx
  have ht := C.2.2.2.2.2.2.2.2.1
  have hw := C.2.2.2.2.2.1
  have hF := C.2.2.2.2.2.2.2.2.2.2.2.1
  rw [hsplit] at ht
  obtain ⟨l1, l2, e1, e2, e3⟩ := List.map_eq_append_iff.mp ht
  obtain ⟨y, l3, e4, e5, e6⟩ := List.map_eq_cons_iff.mp e3
  subst e5
  refine vx_catch (own := RN (mOwn M)) (name := exn k) C.2.2.2.2.1 l1 y l3 (by rw [e1, e4]) (fun z hz => ?_) (by simp only [covers, Bool.and_eq_true, decide_eq_true_eq]; exact ⟨c1, c2⟩) c3 (hw _ c4) (va_Nw.use rfl (hF.2.2.1 k hk)) h1c hv hcl kk
  obtain ⟨h0, j, hj, hn, hl⟩ := hpre (z.startPc, z.endPc, z.handlerPc, z.catchType) (by rw [← e2]; exact List.mem_map.mpr ⟨z, hz, rfl⟩)
  exact Or.inr ⟨h0, exn j, hw _ hl, hF.2.2.2.1 k j hk hj (fun q => hn q.symm)⟩
theorem ev_callVH {X : mX} {M M' : mMD} {f f' f1 : Option Nat} {ce sl mc ms mc1 ms1 pc : Nat} {L st : List Value} {h : mH} {Q Q1 : mO → mH → Prop} {idx n b : Nat} {as fs : List Value} (hd : decode (mBy M) pc = .ok (.invokevirtual idx, 3)) (hcal : CalI M' n) (hl : Cond.methodLink (RN (mOwn M)) idx (mNm M') ∈ WL) (hfit : Fits M M') (hb : h b = some (aO (mOwn M') fs)) (hn : as.length = n) (hst : (st.map fun v => v.category).sum ≤ 8) (hm : Cn X M' f f1 mc1 ms1 (.ref b :: as) h Q1) (hce : ce + mc1 ≤ mc) (hsl : sl + ms1 ≤ ms) (kk : ∀ (v : Option Value) (h1 : mH), Q1 (.inl v) h1 → Ev X M (f1, f', ce + mc1, sl + ms1, mc, ms) (pc + 3) L (v.toList ++ st) h1 Q)
    (kx : ∀ (k : Nat) (h1 : mH), Q1 (.inr k) h1 → ∃ (x : Nat × Nat × Nat × Nat) (i : Nat), Hnd M pc k x ∧ i < mML M ∧ ((∃ t : Fin 4, decode (mBy M) x.2.2.1 = .ok (.astore_n t, 1) ∧ (t : Nat) = i ∧ Ev X M (none, f', ce + mc1, sl + ms1, mc, ms) (x.2.2.1 + 1) (stl L i jk) [] h1 Q) ∨ (decode (mBy M) x.2.2.1 = .ok (.astore i, 2) ∧ Ev X M (none, f', ce + mc1, sl + ms1, mc, ms) (x.2.2.1 + 2) (stl L i jk) [] h1 Q))) : Ev X M (f, f', ce, sl, mc, ms) pc L (as.reverse ++ .ref b :: st) h Q := by
  intro p e s m args below meth c H locs ls R C hc hs hW hS hL
  obtain ⟨⟨c1, c2, c3, c4⟩, c5, c6, c7⟩ := hcal
  have hts := C.2.2.2.2.2.1
  have hF := C.2.2.2.2.2.2.2.2.2.2.2.1
  have hr : vx_Run p (xl X) e R s m args below meth c H locs ce sl mc1 ms1 (F0 m pc ls ((as.reverse ++ .ref b :: st).map (cv X))) (st.map (cv X)) (Qcv X Q1 f1 (Value.ref (xad X b) :: as.map (cv X)).toArray) (Qxv X Q1) (xA X) :=
    vx_runV (C := (mNm M').cls) (own := RN (mOwn M)) (bytes := mBy M') (maxL := mML M') (ret := mRt M') (n := n) (index := idx) (Ts := WL) (ws := wsM M') (rm := mRm M' mc1 ms1) ⟨C.1, C.2.1, C.2.2.2.1, C.2.2.2.2.1, hts⟩ hm
      (cwV n hts (fun w hw => by
        rcases List.mem_append.mp hw with q | q
        · rcases List.mem_cons.mp q with rfl | q
          · exact WL_to hl
          · rcases List.mem_cons.mp q with rfl | q
            · exact WL_to c1
            · rcases List.mem_cons.mp q with rfl | q
              · exact WL_to c2
              · rcases List.mem_cons.mp q with rfl | q
                · exact WL_to c3
                · cases q
        · exact WL_code c4 w q) rfl rfl rfl ⟨rfl, c7⟩ (by rw [C.2.2.2.2.2.2.2.2.2.1, C.2.2.2.2.2.2.2.2.2.2.1]; exact hfit))
      ⟨mPc_blind X f _ h, by rw [c5, xad_lo hW hb]; exact va_recv hF.2.1 (hW.one hb) (cl_at c6) (q0 := 0) rfl, fun U hU hWU => ⟨rfl, by rw [hU]; exact hW, by rw [hU]; exact hF.go hWU hS.2.1⟩⟩ rfl (by rw [List.length_map]; exact hn) hL.1 (by show List.map (cv X) (as.reverse ++ .ref b :: st) = _; rw [List.map_append, List.map_reverse]; rfl) (by show 2 * 0 + _ ≤ 8; rw [cv_cats]; omega) hd ⟨by rw [hc]; exact hce, by rw [hs]; exact hsl⟩
  refine run_to hr hS (fun v h1 H1 locs1 hq hw hS1 => ?_) (fun k h1 H1 locs1 q cl hk hq hw hS1 h1c hv hcl => ?_)
  · have K := kk v h1 hq p e s m args below meth c H1 locs1 ls R C hc hs hw hS1 hL
    rw [List.map_append, show v.toList.map (cv X) = (v.map (cv X)).toList from by cases v <;> rfl] at K
    exact K
  · obtain ⟨x, i, hx, hi, ⟨t, d1, d2, k1⟩ | ⟨d1, k1⟩⟩ := kx k h1 hq
    · exact catch_to C hx h1c hv hcl (lv_astore_n C.1 C.2.1 d1 d2 hL.has hi rfl (fun ls' hl' => k1 p e s m args below meth c H1 locs1 ls' R C hc hs hw hS1 (hL.stj hi hl')))
    · exact catch_to C hx h1c hv hcl (lv_astore C.1 C.2.1 d1 hL.has hi rfl (fun ls' hl' => k1 p e s m args below meth c H1 locs1 ls' R C hc hs hw hS1 (hL.stj hi hl')))
theorem ev_max {X : mX} {M : mMD} {B : mB} {pc : Nat} {L st : List Value} {h : mH} {Q : mO → mH → Prop} {idx : Nat} {x y : Int32} (hd : decode (mBy M) pc = .ok (.invokestatic idx, 3)) (hl : Cond.methodLink (RN (mOwn M)) idx Lib.Math.max.name ∈ WL) (h1 : Cond.static Lib.Math.max.name ∈ WL) (h2 : Cond.initialized "java/lang/Math" ∈ WL) (h3 : Cond.code Lib.Math.max.name Lib.Math.max.code 2 (some .int) ∈ WL) (hfr : 1 ≤ mFr M) (hlo : (st.map fun v => v.category).sum + 13 ≤ mLo M) (hb1 : B.2.2.1 ≤ B.2.2.2.2.1) (hb2 : B.2.2.2.1 ≤ B.2.2.2.2.2) (k : Ev X M B (pc + 3) L (.int (if x < y then y else x) :: st) h Q) : Ev X M B pc L (.int y :: .int x :: st) h Q := by
  intro p e s m args below meth c H locs ls R C hc hs hW hS hL
  have hw := C.2.2.2.2.2.1
  exact va_mmax C.1 C.2.1 (C.2.2.2.1.trans hL.1.symm) C.2.2.2.2.1 (hw _ hl) (hw _ h1) (hw _ h2) (hw _ h3) (by rw [C.2.2.2.2.2.2.2.2.2.1]; exact hfr) (by rw [C.2.2.2.2.2.2.2.2.2.2.1, cv_cats]; exact hlo) (by rw [hc]; exact hb1) (by rw [hs]; exact hb2) hd (k p e s m args below meth c H locs ls R C hc hs hW hS hL)
theorem ev_rawbits {X : mX} {M : mMD} {B : mB} {pc : Nat} {L st : List Value} {h : mH} {Q : mO → mH → Prop} {idx : Nat} {x : UInt64} (hd : decode (mBy M) pc = .ok (.invokestatic idx, 3)) (hl : Cond.methodLink (RN (mOwn M)) idx ⟨"java/lang/Double", "doubleToRawLongBits", "(D)J"⟩ ∈ WL) (h1 : Cond.native ⟨"java/lang/Double", "doubleToRawLongBits", "(D)J"⟩ ∈ WL) (h2 : Cond.static ⟨"java/lang/Double", "doubleToRawLongBits", "(D)J"⟩ ∈ WL) (h3 : Cond.initialized "java/lang/Double" ∈ WL) (hfr : 1 ≤ mFr M) (hlo : (st.map fun v => v.category).sum + 15 ≤ mLo M) (k : Ev X M B (pc + 3) L (.long x.toInt64 :: st) h Q) : Ev X M B pc L (.double x :: st) h Q := by
  intro p e s m args below meth c H locs ls R C hc hs hW hS hL
  have hw := C.2.2.2.2.2.1
  exact vn_d2l C.1 C.2.1 (C.2.2.2.1.trans hL.1.symm) C.2.2.2.2.1 (hw _ hl) (hw _ h1) (hw _ h2) (hw _ h3) (by rw [C.2.2.2.2.2.2.2.2.2.1]; exact hfr) (by rw [C.2.2.2.2.2.2.2.2.2.2.1, cv_cats]; exact hlo) hd (k p e s m args below meth c H locs ls R C hc hs hW hS hL)
theorem ev_copyI {X : mX} {M : mMD} {B : mB} {pc : Nat} {L st : List Value} {h : mH} {Q : mO → mH → Prop} {idx a a0 n0 n1 : Nat} {f g : Nat → Int32} {sp dp n : Int32} (hd : decode (mBy M) pc = .ok (.invokestatic idx, 3)) (hl : Cond.methodLink (RN (mOwn M)) idx arraycopyName ∈ WL) (hnat : Cond.native arraycopyName ∈ WL) (hstat : Cond.static arraycopyName ∈ WL) (hini : Cond.initialized "java/lang/System" ∈ WL) (hne : a0 ≠ a) (ha0 : h a0 = some (aI n0 f)) (ha : h a = some (aI n1 g)) (h1 : ¬ sp < 0) (h2 : ¬ dp < 0) (h3 : ¬ n < 0) (h4 : sp.toNatClampNeg + n.toNatClampNeg ≤ n0) (h5 : dp.toNatClampNeg + n.toNatClampNeg ≤ n1) (hB : B.1 = none) (hfr : 1 ≤ mFr M) (hlo : (st.map fun v => v.category).sum + 30 ≤ mLo M) (k : Ev X M B (pc + 3) L st (mset h a (aI n1 (va_cpy f g sp.toNatClampNeg dp.toNatClampNeg n.toNatClampNeg))) Q) : Ev X M B pc L (.int n :: .int dp :: .ref a :: .int sp :: .ref a0 :: st) h Q := by
  intro p e s m args below meth c H locs ls R C hc hs hW hS hL
  have hw := C.2.2.2.2.2.1
  have hF := C.2.2.2.2.2.2.2.2.2.2.2.1
  have hl1 : ∀ b e1, h b = some e1 → xlo X + b < H.size := fun b e1 hb => (hW.1 b e1 hb).2.lt
  let dl : List Nat := (List.range H.size).filter (fun b => (h b).isSome)
  have hdl : ∀ b, b ∈ dl ↔ ∃ e1, h b = some e1 := by
    intro b
    show b ∈ (List.range H.size).filter _ ↔ _
    rw [List.mem_filter, List.mem_range, Option.isSome_iff_exists]
    exact ⟨fun z => z.2, fun ⟨e1, z⟩ => ⟨by have := hl1 b e1 z; omega, e1, z⟩⟩
  have hnd : dl.Nodup := List.Pairwise.filter _ List.nodup_range
  let ws : va_W := dl.map (fun b => (xlo X + b, cvE X ((h b).getD (aI 0 f))))
  have hws : ∀ (i : Nat) (q : Nat × va_E), ws[i]? = some q → ∃ b e1, dl[i]? = some b ∧ h b = some e1 ∧ q = (xlo X + b, cvE X e1) := by
    intro i q hq
    have hq2 : (dl.map (fun b => (xlo X + b, cvE X ((h b).getD (aI 0 f)))))[i]? = some q := hq
    rw [List.getElem?_map] at hq2
    cases hb : dl[i]? with
    | none => rw [hb] at hq2; cases hq2
    | some b =>
      rw [hb] at hq2
      obtain ⟨e1, he⟩ := (hdl b).mp (List.mem_of_getElem? hb)
      refine ⟨b, e1, rfl, he, ?_⟩
      have := Option.some.inj hq2
      rw [← this]
      show (xlo X + b, cvE X ((h b).getD _)) = _
      rw [he]; rfl
  have hat : ∀ (b : Nat) (e1 : mAc), h b = some e1 → ∃ i : Nat, dl[i]? = some b ∧ ws[i]? = some (xlo X + b, cvE X e1) := by
    intro b e1 hb
    obtain ⟨i, hi⟩ := List.getElem?_of_mem ((hdl b).mpr ⟨e1, hb⟩)
    refine ⟨i, hi, ?_⟩
    show (dl.map _)[i]? = _
    rw [List.getElem?_map, hi]
    show some (xlo X + b, cvE X ((h b).getD _)) = _
    rw [hb]; rfl
  have hP : va_P (xD X) vwCl ws H := by
    intro i q hq
    obtain ⟨b, e1, -, hb, rfl⟩ := hws i q hq
    exact (hW.1 b e1 hb).2
  have hD : va_D (xA X) ws := by
    refine ⟨fun i j q r hq hr hqr => ?_, fun i q hq => ?_⟩
    · obtain ⟨b, e1, hi, -, rfl⟩ := hws i q hq
      obtain ⟨b2, e2, hj, -, rfl⟩ := hws j r hr
      have hbb : b = b2 := Nat.add_left_cancel hqr
      subst hbb
      exact (List.getElem?_inj (List.getElem?_eq_some_iff.mp hi).1 hnd).mp (hi.trans hj.symm)
    · obtain ⟨b, e1, -, -, rfl⟩ := hws i q hq
      exact Nat.le_add_right _ _
  obtain ⟨i0, hi0, hw0⟩ := hat a0 _ ha0
  obtain ⟨i1, hi1, hw1⟩ := hat a _ ha
  show W _ _ _ _ _ _ _ _ _ _ _ _ _ _ _ (F0 m pc ls (.int n :: .int dp :: .ref (xad X a) :: .int sp :: .ref (xad X a0) :: st.map (cv X)))
  rw [xad_lo hW ha, xad_lo hW ha0]
  have hwd : nativeFrameWords "java/lang/System" "arraycopy" 5 + 11 ≤ 30 := by decide
  refine va_copyi (ty := .int) C.1 C.2.1 (C.2.2.2.1.trans hL.1.symm) C.2.2.2.2.1 (hw _ hl) (hw _ hnat) (hw _ hstat) (hw _ hini) hF.2.1 hP hD hS i0 i1 0 0 hw0 hw1 rfl rfl rfl h1 h2 h3 h4 h5 (fun _ _ => rfl) (by rw [C.2.2.2.2.2.2.2.2.2.1]; exact hfr) (by rw [C.2.2.2.2.2.2.2.2.2.2.1, cv_cats]; omega) hd fun H1 locs1 hP1 _ hS1 => ?_
  refine k p e s m args below meth c H1 locs1 ls R C hc hs ⟨fun b e1 hb => ?_, ?_, ?_⟩ hS1 hL
  · by_cases hba : b = a
    · subst hba
      rw [mset_s] at hb
      cases hb
      exact ⟨(hW.1 b _ ha).1, hP1 i1 _ (List.getElem?_set_self (List.getElem?_eq_some_iff.mp hw1).1)⟩
    · rw [mset_n hba] at hb
      obtain ⟨j, hj, hwj⟩ := hat b e1 hb
      refine ⟨(hW.1 b e1 hb).1, hP1 j _ ?_⟩
      rw [List.getElem?_set_ne (fun q => ?_)]
      · exact hwj
      · subst q
        rw [hi1] at hj
        exact hba (Option.some.inj hj).symm
  · exact Nat.le_trans C.2.2.2.2.2.2.2.2.2.2.2.2 hS1.1
  · intro n' hn'
    rw [hB] at hn'
    cases hn'
theorem ev_copyL {X : mX} {M : mMD} {B : mB} {pc : Nat} {L st : List Value} {h : mH} {Q : mO → mH → Prop} {idx a a0 n0 n1 : Nat} {f g : Nat → Int64} {sp dp n : Int32} (hd : decode (mBy M) pc = .ok (.invokestatic idx, 3)) (hl : Cond.methodLink (RN (mOwn M)) idx arraycopyName ∈ WL) (hnat : Cond.native arraycopyName ∈ WL) (hstat : Cond.static arraycopyName ∈ WL) (hini : Cond.initialized "java/lang/System" ∈ WL) (hne : a0 ≠ a) (ha0 : h a0 = some (aL n0 f)) (ha : h a = some (aL n1 g)) (h1 : ¬ sp < 0) (h2 : ¬ dp < 0) (h3 : ¬ n < 0) (h4 : sp.toNatClampNeg + n.toNatClampNeg ≤ n0) (h5 : dp.toNatClampNeg + n.toNatClampNeg ≤ n1) (hB : B.1 = none) (hfr : 1 ≤ mFr M) (hlo : (st.map fun v => v.category).sum + 30 ≤ mLo M) (k : Ev X M B (pc + 3) L st (mset h a (aL n1 (va_cpy f g sp.toNatClampNeg dp.toNatClampNeg n.toNatClampNeg))) Q) : Ev X M B pc L (.int n :: .int dp :: .ref a :: .int sp :: .ref a0 :: st) h Q := by
  intro p e s m args below meth c H locs ls R C hc hs hW hS hL
  have hw := C.2.2.2.2.2.1
  have hF := C.2.2.2.2.2.2.2.2.2.2.2.1
  have hl1 : ∀ b e1, h b = some e1 → xlo X + b < H.size := fun b e1 hb => (hW.1 b e1 hb).2.lt
  let dl : List Nat := (List.range H.size).filter (fun b => (h b).isSome)
  have hdl : ∀ b, b ∈ dl ↔ ∃ e1, h b = some e1 := by
    intro b
    show b ∈ (List.range H.size).filter _ ↔ _
    rw [List.mem_filter, List.mem_range, Option.isSome_iff_exists]
    exact ⟨fun z => z.2, fun ⟨e1, z⟩ => ⟨by have := hl1 b e1 z; omega, e1, z⟩⟩
  have hnd : dl.Nodup := List.Pairwise.filter _ List.nodup_range
  let ws : va_W := dl.map (fun b => (xlo X + b, cvE X ((h b).getD (aL 0 f))))
  have hws : ∀ (i : Nat) (q : Nat × va_E), ws[i]? = some q → ∃ b e1, dl[i]? = some b ∧ h b = some e1 ∧ q = (xlo X + b, cvE X e1) := by
    intro i q hq
    have hq2 : (dl.map (fun b => (xlo X + b, cvE X ((h b).getD (aL 0 f)))))[i]? = some q := hq
    rw [List.getElem?_map] at hq2
    cases hb : dl[i]? with
    | none => rw [hb] at hq2; cases hq2
    | some b =>
      rw [hb] at hq2
      obtain ⟨e1, he⟩ := (hdl b).mp (List.mem_of_getElem? hb)
      refine ⟨b, e1, rfl, he, ?_⟩
      have := Option.some.inj hq2
      rw [← this]
      show (xlo X + b, cvE X ((h b).getD _)) = _
      rw [he]; rfl
  have hat : ∀ (b : Nat) (e1 : mAc), h b = some e1 → ∃ i : Nat, dl[i]? = some b ∧ ws[i]? = some (xlo X + b, cvE X e1) := by
    intro b e1 hb
    obtain ⟨i, hi⟩ := List.getElem?_of_mem ((hdl b).mpr ⟨e1, hb⟩)
    refine ⟨i, hi, ?_⟩
    show (dl.map _)[i]? = _
    rw [List.getElem?_map, hi]
    show some (xlo X + b, cvE X ((h b).getD _)) = _
    rw [hb]; rfl
  have hP : va_P (xD X) vwCl ws H := by
    intro i q hq
    obtain ⟨b, e1, -, hb, rfl⟩ := hws i q hq
    exact (hW.1 b e1 hb).2
  have hD : va_D (xA X) ws := by
    refine ⟨fun i j q r hq hr hqr => ?_, fun i q hq => ?_⟩
    · obtain ⟨b, e1, hi, -, rfl⟩ := hws i q hq
      obtain ⟨b2, e2, hj, -, rfl⟩ := hws j r hr
      have hbb : b = b2 := Nat.add_left_cancel hqr
      subst hbb
      exact (List.getElem?_inj (List.getElem?_eq_some_iff.mp hi).1 hnd).mp (hi.trans hj.symm)
    · obtain ⟨b, e1, -, -, rfl⟩ := hws i q hq
      exact Nat.le_add_right _ _
  obtain ⟨i0, hi0, hw0⟩ := hat a0 _ ha0
  obtain ⟨i1, hi1, hw1⟩ := hat a _ ha
  show W _ _ _ _ _ _ _ _ _ _ _ _ _ _ _ (F0 m pc ls (.int n :: .int dp :: .ref (xad X a) :: .int sp :: .ref (xad X a0) :: st.map (cv X)))
  rw [xad_lo hW ha, xad_lo hW ha0]
  have hwd : nativeFrameWords "java/lang/System" "arraycopy" 5 + 11 ≤ 30 := by decide
  refine va_copyl (ty := .long) C.1 C.2.1 (C.2.2.2.1.trans hL.1.symm) C.2.2.2.2.1 (hw _ hl) (hw _ hnat) (hw _ hstat) (hw _ hini) hF.2.1 hP hD hS i0 i1 1 1 hw0 hw1 rfl rfl rfl h1 h2 h3 h4 h5 (fun _ _ => rfl) (by rw [C.2.2.2.2.2.2.2.2.2.1]; exact hfr) (by rw [C.2.2.2.2.2.2.2.2.2.2.1, cv_cats]; omega) hd fun H1 locs1 hP1 _ hS1 => ?_
  refine k p e s m args below meth c H1 locs1 ls R C hc hs ⟨fun b e1 hb => ?_, ?_, ?_⟩ hS1 hL
  · by_cases hba : b = a
    · subst hba
      rw [mset_s] at hb
      cases hb
      exact ⟨(hW.1 b _ ha).1, hP1 i1 _ (List.getElem?_set_self (List.getElem?_eq_some_iff.mp hw1).1)⟩
    · rw [mset_n hba] at hb
      obtain ⟨j, hj, hwj⟩ := hat b e1 hb
      refine ⟨(hW.1 b e1 hb).1, hP1 j _ ?_⟩
      rw [List.getElem?_set_ne (fun q => ?_)]
      · exact hwj
      · subst q
        rw [hi1] at hj
        exact hba (Option.some.inj hj).symm
  · exact Nat.le_trans C.2.2.2.2.2.2.2.2.2.2.2.2 hS1.1
  · intro n' hn'
    rw [hB] at hn'
    cases hn'
theorem clone_cell {cell : Cell} {cA : ClassId} {n : Nat} {f : Nat → Int32} (h1 : cell.cls = cA) (h2 : cell.slots.size = n) (h3 : ∀ j : Nat, j < n → cell.slots[j]? = some (.int (f j))) : ({ cls := cell.cls, slots := cell.slots } : Cell) = arrV cA n (fun j => .int (f j)) := by
  subst h1
  subst h2
  have e : cell.slots = (arrV cell.cls cell.slots.size (fun j => .int (f j))).slots := by
    apply Array.ext_getElem?
    intro j
    by_cases hj : j < cell.slots.size
    · rw [h3 j hj, arrV_read _ _ hj]
    · rw [Array.getElem?_eq_none (by omega), Array.getElem?_eq_none (by rw [arrV_size]; omega)]
  exact (congrArg (fun z => ({ cls := cell.cls, slots := z } : Cell)) e).trans rfl
theorem ev_cloneR {X : mX} {M : mMD} {f' : Option Nat} {n ce sl mc ms pc : Nat} {L st : List Value} {h : mH} {Q : mO → mH → Prop} {idx k : Nat} {g : Nat → Int32} (hd : decode (mBy M) pc = .ok (.invokevirtual idx, 3)) (hl : Cond.methodLink (RN (mOwn M)) idx ⟨"[I", "clone", "()Ljava/lang/Object;"⟩ ∈ WL) (w1 : Cond.sameMethod "[I" "java/lang/Object" "clone" "()Ljava/lang/Object;" ∈ WL) (w2 : Cond.native ⟨"java/lang/Object", "clone", "()Ljava/lang/Object;"⟩ ∈ WL) (w3 : Cond.instanceMethod ⟨"java/lang/Object", "clone", "()Ljava/lang/Object;"⟩ ∈ WL) (w4 : Cond.selects "[I" ⟨"[I", "clone", "()Ljava/lang/Object;"⟩ ⟨"java/lang/Object", "clone", "()Ljava/lang/Object;"⟩ ∈ WL) (ha : xro X 1000000 = some (k, g)) (hfr : 1 ≤ mFr M) (hlo : (st.map fun v => v.category).sum + 14 ≤ mLo M) (hn : n + 1 < 1000000) (hcells : ce + 1 ≤ mc) (hslots : sl + k ≤ ms) (kk : Ev X M (some (n + 1), f', ce + 1, sl + k, mc, ms) (pc + 3) L (.ref n :: st) (mset h n (aI k g)) Q) : Ev X M (some n, f', ce, sl, mc, ms) pc L (.ref 1000000 :: st) h Q := by
  intro p e s m args below meth c H locs ls R C hc hs hW hS hL
  have hw := C.2.2.2.2.2.1
  have hF := C.2.2.2.2.2.2.2.2.2.2.2.1
  obtain ⟨hF1, hK, -, -, hcl, -, -, -, -, hR, -, -, ⟨⟨cell0, j1, j2⟩, j3⟩, -⟩ := hF
  obtain ⟨cell, h1, h2, h3, h4, h5, h6⟩ := hR 0 k g ha
  have e0 : cell = cell0 := (Option.some.inj (j1.symm.trans h1)).symm
  subst e0
  have hcK : cell.cls = xK X 0 := Option.some.inj (j2.symm.trans (hK.2 0 _ rfl).2)
  have hcell : H[xta X 0]? = some cell := by rw [hS.2.1 _ (Array.getElem?_eq_some_iff.mp h1).1 h6]; exact h1
  obtain ⟨c0, t0', f1, f2, f3⟩ := Cond.castable_spec (va_Nw.use (A := args) rfl hcl)
  have e00 : cell.cls = c0 := Option.some.inj (j2.symm.trans f1)
  subst e00
  show W _ _ _ _ _ _ _ _ _ _ _ _ _ _ _ (F0 m pc ls (.ref (xad X 1000000) :: st.map (cv X)))
  have ead : xad X 1000000 = xta X 0 := by
    unfold xad
    rw [if_neg (by omega)]
  rw [ead]
  intro T hT Y
  obtain ⟨hst1, kA0, hkA0, comp0, hkind0⟩ := h2
  obtain ⟨-, kA, hkA, comp, hkind⟩ := State.isArrayOf_alike Y.warmed.alike ((hK.2 0 _ rfl).1 0 (fun _ => .null))
  obtain ⟨-, kS, hkS, compS, hkindS⟩ := (hK.2 0 _ rfl).1 0 (fun _ => .null)
  have hcE := clone_cell hcK h4 h5
  obtain ⟨vm', Y', stp⟩ := Y.cloneArray C.1 C.2.2.2.2.1 (hw _ hl) (hw _ w1) (hw _ w2) (hw _ w3) (hw _ w4) (a := xta X 0) (cell := cell) (by rw [hT]; exact hcell) hst1 h3 j2 f2 f3
    (fun i v hv => by
      have hi : i < k := by rw [← h4]; exact (Array.getElem?_eq_some_iff.mp hv).1
      have hv2 : v = .int (g i) := Option.some.inj (hv.symm.trans (h5 i hi))
      rw [hcK, hv2]
      have hk' : T.vm.classes[xK X 0]? = some kA := hkA
      simp [State.fitsSlot, State.slotType?, hk', hkind, fits])
    (g := F0 m pc ls (.ref (xta X 0) :: st.map (cv X))) rfl (hL.1.trans C.2.2.2.1.symm) rfl (by rw [C.2.1]; exact hd) (by rw [C.2.2.2.2.2.2.2.2.2.1]; exact hfr) (by show 2 * 0 + _ + 14 ≤ _; rw [C.2.2.2.2.2.2.2.2.2.2.1, cv_cats]; omega) (by rw [hc]; exact hcells) (by rw [hs, h4]; exact hslots) (hloader := by rw [hcK]; exact Vm.clonesLoader_of_array hkS hkindS)
  rw [hcE, h4] at Y'
  generalize hH1 : H.push (arrV (xK X 0) k (fun j => .int (g j))) = H1
  have z1 : H1.size = H.size + 1 := by rw [← hH1, Array.size_push]
  have e1 : H1[H.size]? = some (arrV (xK X 0) k (fun j => .int (g j))) := by rw [← hH1, Array.getElem?_push_size]
  have o1 : ∀ q : Nat, q < H.size → H1[q]? = H[q]? := fun q hq => by rw [← hH1, Array.getElem?_push, if_neg (Nat.ne_of_lt hq)]
  have hz := (hW.2.2 n rfl).1
  have e9 : Value.ref H.size = cv X (.ref n) := by
    show Value.ref H.size = Value.ref (xad X n)
    rw [hz, xad, if_pos (hW.2.2 n rfl).2.1]
  obtain ⟨t, b1, b2⟩ := kk p e s m args below meth c H1 locs ls R C hc hs (hW.push hn z1 o1 e1) ⟨Nat.le_trans hS.1 (by omega), fun x h1 h2 => (o1 x (Nat.lt_of_lt_of_le h1 hS.1)).trans (hS.2.1 x h1 h2), hS.2.2⟩ hL _ (by rw [← hH1, ← hT]; rfl) Y'
  refine ⟨t, stp t ?_, b2⟩
  rw [hcE, hT, e9]
  exact b1
theorem ev_checkcastI {X : mX} {M : mMD} {B : mB} {pc : Nat} {L st : List Value} {h : mH} {Q : mO → mH → Prop} {idx a n : Nat} {g : Nat → Int32} (hd : decode (mBy M) pc = .ok (.checkcast idx, 3)) (hl : Cond.classLink (RN (mOwn M)) idx "[I" ∈ WL) (ha : h a = some (aI n g)) (k : Ev X M B (pc + 3) L (.ref a :: st) h Q) : Ev X M B pc L (.ref a :: st) h Q := by
  intro p e s m args below meth c H locs ls R C hc hs hW hS hL
  have hF := C.2.2.2.2.2.2.2.2.2.2.2.1
  have K := k p e s m args below meth c H locs ls R C hc hs hW hS hL
  show W _ _ _ _ _ _ _ _ _ _ _ _ _ _ _ (F0 m pc ls (.ref (xad X a) :: st.map (cv X)))
  have K2 : W p (xl X) e R s m args below meth c H locs B.2.2.1 B.2.2.2.1 (vx_MQ below (Qcv X Q B.2.1) (Qxv X Q) args s B.2.2.2.2.1 B.2.2.2.2.2 (xA X)) (F0 m (pc + 3) ls (.ref (xad X a) :: st.map (cv X))) := K
  rw [xad_lo hW ha] at K2 ⊢
  exact va_castA C.1 C.2.1 C.2.2.2.2.1 (C.2.2.2.2.2.1 _ hl) (hW.one ha) 0 rfl (hF.2.1.2 0 _ rfl).2 hd K2
end
