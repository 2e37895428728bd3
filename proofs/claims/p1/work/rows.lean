section
-- ===== PART A: goes FIRST, ahead of the names: the tables' words, and 'selects' of the private methods out of them =====
/-- a private method of a class that the tables say can be made, by its rows of tables_1 -/
def lw_okq (q : MethodName × Nat) : Prop := (q.1.cls ≠ "java/lang/invoke/MethodHandle" ∧ q.1.cls ≠ "java/lang/invoke/VarHandle") ∧ Cond.instantiable q.1.cls q.2 ∈ tables_1 ∧ Cond.privateMethod q.1 ∈ tables_1 ∧ Cond.instanceMethod q.1 ∈ tables_1
theorem lw_p0 : lw_okq (⟨"OneHandset$Box", "startAnew", "(II)V"⟩, 4) := ⟨⟨by decide +kernel, by decide +kernel⟩, List.mem_of_getElem? (i := 48) (by decide +kernel), List.mem_of_getElem? (i := 54) (by decide +kernel), List.mem_of_getElem? (i := 55) (by decide +kernel)⟩
theorem lw_p1 : lw_okq (⟨"OneHandset$Keys", "startWithFlip", "(I)V"⟩, 8) := ⟨⟨by decide +kernel, by decide +kernel⟩, List.mem_of_getElem? (i := 183) (by decide +kernel), List.mem_of_getElem? (i := 189) (by decide +kernel), List.mem_of_getElem? (i := 190) (by decide +kernel)⟩
theorem lw_p2 : lw_okq (⟨"OneHandset$Keys", "compareAll", "()V"⟩, 8) := ⟨⟨by decide +kernel, by decide +kernel⟩, List.mem_of_getElem? (i := 183) (by decide +kernel), List.mem_of_getElem? (i := 194) (by decide +kernel), List.mem_of_getElem? (i := 195) (by decide +kernel)⟩
theorem lw_p3 : lw_okq (⟨"OneHandset$Keys", "flipMask", "()I"⟩, 8) := ⟨⟨by decide +kernel, by decide +kernel⟩, List.mem_of_getElem? (i := 183) (by decide +kernel), List.mem_of_getElem? (i := 199) (by decide +kernel), List.mem_of_getElem? (i := 200) (by decide +kernel)⟩
theorem lw_p4 : lw_okq (⟨"OneHandset$Keys", "isCheck", "(I)Z"⟩, 8) := ⟨⟨by decide +kernel, by decide +kernel⟩, List.mem_of_getElem? (i := 183) (by decide +kernel), List.mem_of_getElem? (i := 203) (by decide +kernel), List.mem_of_getElem? (i := 204) (by decide +kernel)⟩
theorem lw_p5 : lw_okq (⟨"OneHandset$Keys", "commonConstant", "(I)I"⟩, 8) := ⟨⟨by decide +kernel, by decide +kernel⟩, List.mem_of_getElem? (i := 183) (by decide +kernel), List.mem_of_getElem? (i := 207) (by decide +kernel), List.mem_of_getElem? (i := 208) (by decide +kernel)⟩
theorem lw_p6 : lw_okq (⟨"OneHandset$Keys", "constantFor", "(II)I"⟩, 8) := ⟨⟨by decide +kernel, by decide +kernel⟩, List.mem_of_getElem? (i := 183) (by decide +kernel), List.mem_of_getElem? (i := 211) (by decide +kernel), List.mem_of_getElem? (i := 212) (by decide +kernel)⟩
theorem lw_p7 : lw_okq (⟨"OneHandset$Keys", "isContrary", "(I)Z"⟩, 8) := ⟨⟨by decide +kernel, by decide +kernel⟩, List.mem_of_getElem? (i := 183) (by decide +kernel), List.mem_of_getElem? (i := 215) (by decide +kernel), List.mem_of_getElem? (i := 216) (by decide +kernel)⟩
theorem lw_p8 : lw_okq (⟨"OneHandset", "makeAt", "(I)LOneHandset$Make;"⟩, 5) := ⟨⟨by decide +kernel, by decide +kernel⟩, List.mem_of_getElem? (i := 19) (by decide +kernel), List.mem_of_getElem? (i := 272) (by decide +kernel), List.mem_of_getElem? (i := 273) (by decide +kernel)⟩
theorem lw_p9 : lw_okq (⟨"OneHandset$HalvesForm", "isOn", "(II)Z"⟩, 2) := ⟨⟨by decide +kernel, by decide +kernel⟩, List.mem_of_getElem? (i := 131) (by decide +kernel), List.mem_of_getElem? (i := 304) (by decide +kernel), List.mem_of_getElem? (i := 305) (by decide +kernel)⟩
theorem lw_p10 : lw_okq (⟨"OneHandset$PairsForm", "tellsBit", "(I)Z"⟩, 8) := ⟨⟨by decide +kernel, by decide +kernel⟩, List.mem_of_getElem? (i := 147) (by decide +kernel), List.mem_of_getElem? (i := 316) (by decide +kernel), List.mem_of_getElem? (i := 317) (by decide +kernel)⟩
theorem lw_p11 : lw_okq (⟨"OneHandset$PairsForm", "plainTime", "(I)I"⟩, 8) := ⟨⟨by decide +kernel, by decide +kernel⟩, List.mem_of_getElem? (i := 147) (by decide +kernel), List.mem_of_getElem? (i := 321) (by decide +kernel), List.mem_of_getElem? (i := 322) (by decide +kernel)⟩
theorem lw_p12 : lw_okq (⟨"OneHandset$Keys", "hasKey", "(I)Z"⟩, 8) := ⟨⟨by decide +kernel, by decide +kernel⟩, List.mem_of_getElem? (i := 183) (by decide +kernel), List.mem_of_getElem? (i := 394) (by decide +kernel), List.mem_of_getElem? (i := 395) (by decide +kernel)⟩
theorem lw_p13 : lw_okq (⟨"OneHandset$Keys", "free", "()I"⟩, 8) := ⟨⟨by decide +kernel, by decide +kernel⟩, List.mem_of_getElem? (i := 183) (by decide +kernel), List.mem_of_getElem? (i := 444) (by decide +kernel), List.mem_of_getElem? (i := 445) (by decide +kernel)⟩
theorem lw_p14 : lw_okq (⟨"OneHandset$Keys", "foreseenAbove", "(I)I"⟩, 8) := ⟨⟨by decide +kernel, by decide +kernel⟩, List.mem_of_getElem? (i := 183) (by decide +kernel), List.mem_of_getElem? (i := 458) (by decide +kernel), List.mem_of_getElem? (i := 459) (by decide +kernel)⟩
theorem lw_p15 : lw_okq (⟨"OneHandset$Keys", "checksHoldFor", "(I)Z"⟩, 8) := ⟨⟨by decide +kernel, by decide +kernel⟩, List.mem_of_getElem? (i := 183) (by decide +kernel), List.mem_of_getElem? (i := 462) (by decide +kernel), List.mem_of_getElem? (i := 463) (by decide +kernel)⟩
def lw_privs_1 : List (MethodName × Nat) := [(⟨"OneHandset$Box", "startAnew", "(II)V"⟩, 4), (⟨"OneHandset$Keys", "startWithFlip", "(I)V"⟩, 8), (⟨"OneHandset$Keys", "compareAll", "()V"⟩, 8), (⟨"OneHandset$Keys", "flipMask", "()I"⟩, 8), (⟨"OneHandset$Keys", "isCheck", "(I)Z"⟩, 8), (⟨"OneHandset$Keys", "commonConstant", "(I)I"⟩, 8), (⟨"OneHandset$Keys", "constantFor", "(II)I"⟩, 8), (⟨"OneHandset$Keys", "isContrary", "(I)Z"⟩, 8), (⟨"OneHandset", "makeAt", "(I)LOneHandset$Make;"⟩, 5), (⟨"OneHandset$HalvesForm", "isOn", "(II)Z"⟩, 2), (⟨"OneHandset$PairsForm", "tellsBit", "(I)Z"⟩, 8), (⟨"OneHandset$PairsForm", "plainTime", "(I)I"⟩, 8), (⟨"OneHandset$Keys", "hasKey", "(I)Z"⟩, 8), (⟨"OneHandset$Keys", "free", "()I"⟩, 8), (⟨"OneHandset$Keys", "foreseenAbove", "(I)I"⟩, 8), (⟨"OneHandset$Keys", "checksHoldFor", "(I)Z"⟩, 8)]
theorem lw_r1 : ∀ q ∈ lw_privs_1, lw_okq q := List.forall_mem_cons.mpr ⟨lw_p0, List.forall_mem_cons.mpr ⟨lw_p1, List.forall_mem_cons.mpr ⟨lw_p2, List.forall_mem_cons.mpr ⟨lw_p3, List.forall_mem_cons.mpr ⟨lw_p4, List.forall_mem_cons.mpr ⟨lw_p5, List.forall_mem_cons.mpr ⟨lw_p6, List.forall_mem_cons.mpr ⟨lw_p7, List.forall_mem_cons.mpr ⟨lw_p8, List.forall_mem_cons.mpr ⟨lw_p9, List.forall_mem_cons.mpr ⟨lw_p10, List.forall_mem_cons.mpr ⟨lw_p11, List.forall_mem_cons.mpr ⟨lw_p12, List.forall_mem_cons.mpr ⟨lw_p13, List.forall_mem_cons.mpr ⟨lw_p14, List.forall_mem_cons.mpr ⟨lw_p15, fun _ h => absurd h List.not_mem_nil⟩⟩⟩⟩⟩⟩⟩⟩⟩⟩⟩⟩⟩⟩⟩⟩
theorem lw_p16 : lw_okq (⟨"OneHandset$Keys", "foresees", "(I)Z"⟩, 8) := ⟨⟨by decide +kernel, by decide +kernel⟩, List.mem_of_getElem? (i := 183) (by decide +kernel), List.mem_of_getElem? (i := 482) (by decide +kernel), List.mem_of_getElem? (i := 483) (by decide +kernel)⟩
theorem lw_p17 : lw_okq (⟨"OneHandset", "boxAt", "(I)LOneHandset$Box;"⟩, 5) := ⟨⟨by decide +kernel, by decide +kernel⟩, List.mem_of_getElem? (i := 19) (by decide +kernel), List.mem_of_getElem? (i := 490) (by decide +kernel), List.mem_of_getElem? (i := 491) (by decide +kernel)⟩
theorem lw_p18 : lw_okq (⟨"OneHandset$Route", "keepRow", "(II)I"⟩, 5) := ⟨⟨by decide +kernel, by decide +kernel⟩, List.mem_of_getElem? (i := 82) (by decide +kernel), List.mem_of_getElem? (i := 539) (by decide +kernel), List.mem_of_getElem? (i := 540) (by decide +kernel)⟩
theorem lw_p19 : lw_okq (⟨"java/lang/Throwable", "fillInStackTrace", "(I)Ljava/lang/Throwable;"⟩, 6) := ⟨⟨by decide +kernel, by decide +kernel⟩, List.mem_of_getElem? (i := 605) (by decide +kernel), List.mem_of_getElem? (i := 603) (by decide +kernel), List.mem_of_getElem? (i := 604) (by decide +kernel)⟩
theorem lw_p20 : lw_okq (⟨"OneHandsetModel", "isMake", "(I)Z"⟩, 17) := ⟨⟨by decide +kernel, by decide +kernel⟩, List.mem_of_getElem? (i := 631) (by decide +kernel), List.mem_of_getElem? (i := 704) (by decide +kernel), List.mem_of_getElem? (i := 705) (by decide +kernel)⟩
theorem lw_p21 : lw_okq (⟨"OneHandsetModel", "get", "(II)I"⟩, 17) := ⟨⟨by decide +kernel, by decide +kernel⟩, List.mem_of_getElem? (i := 631) (by decide +kernel), List.mem_of_getElem? (i := 708) (by decide +kernel), List.mem_of_getElem? (i := 709) (by decide +kernel)⟩
theorem lw_p22 : lw_okq (⟨"OneHandsetModel", "flash", "(II)V"⟩, 17) := ⟨⟨by decide +kernel, by decide +kernel⟩, List.mem_of_getElem? (i := 631) (by decide +kernel), List.mem_of_getElem? (i := 724) (by decide +kernel), List.mem_of_getElem? (i := 725) (by decide +kernel)⟩
theorem lw_p23 : lw_okq (⟨"OneHandsetModel", "layHalves", "(III)V"⟩, 17) := ⟨⟨by decide +kernel, by decide +kernel⟩, List.mem_of_getElem? (i := 631) (by decide +kernel), List.mem_of_getElem? (i := 728) (by decide +kernel), List.mem_of_getElem? (i := 729) (by decide +kernel)⟩
theorem lw_p24 : lw_okq (⟨"OneHandsetModel", "lay", "(I)V"⟩, 17) := ⟨⟨by decide +kernel, by decide +kernel⟩, List.mem_of_getElem? (i := 631) (by decide +kernel), List.mem_of_getElem? (i := 735) (by decide +kernel), List.mem_of_getElem? (i := 736) (by decide +kernel)⟩
theorem lw_p25 : lw_okq (⟨"OneHandsetModel", "readBy", "(I)I"⟩, 17) := ⟨⟨by decide +kernel, by decide +kernel⟩, List.mem_of_getElem? (i := 631) (by decide +kernel), List.mem_of_getElem? (i := 747) (by decide +kernel), List.mem_of_getElem? (i := 748) (by decide +kernel)⟩
theorem lw_p26 : lw_okq (⟨"OneHandsetModel", "readHalves", "(I)I"⟩, 17) := ⟨⟨by decide +kernel, by decide +kernel⟩, List.mem_of_getElem? (i := 631) (by decide +kernel), List.mem_of_getElem? (i := 751) (by decide +kernel), List.mem_of_getElem? (i := 752) (by decide +kernel)⟩
theorem lw_p27 : lw_okq (⟨"OneHandsetModel", "which", "(IIII)I"⟩, 17) := ⟨⟨by decide +kernel, by decide +kernel⟩, List.mem_of_getElem? (i := 631) (by decide +kernel), List.mem_of_getElem? (i := 755) (by decide +kernel), List.mem_of_getElem? (i := 756) (by decide +kernel)⟩
theorem lw_p28 : lw_okq (⟨"OneHandsetModel", "fits", "(III)Z"⟩, 17) := ⟨⟨by decide +kernel, by decide +kernel⟩, List.mem_of_getElem? (i := 631) (by decide +kernel), List.mem_of_getElem? (i := 759) (by decide +kernel), List.mem_of_getElem? (i := 760) (by decide +kernel)⟩
theorem lw_p29 : lw_okq (⟨"OneHandsetModel", "fault", "(I)I"⟩, 17) := ⟨⟨by decide +kernel, by decide +kernel⟩, List.mem_of_getElem? (i := 631) (by decide +kernel), List.mem_of_getElem? (i := 767) (by decide +kernel), List.mem_of_getElem? (i := 768) (by decide +kernel)⟩
theorem lw_p30 : lw_okq (⟨"OneHandsetModel", "readBits", "(I)I"⟩, 17) := ⟨⟨by decide +kernel, by decide +kernel⟩, List.mem_of_getElem? (i := 631) (by decide +kernel), List.mem_of_getElem? (i := 771) (by decide +kernel), List.mem_of_getElem? (i := 772) (by decide +kernel)⟩
theorem lw_p31 : lw_okq (⟨"OneHandsetModel", "isKey", "(II)Z"⟩, 17) := ⟨⟨by decide +kernel, by decide +kernel⟩, List.mem_of_getElem? (i := 631) (by decide +kernel), List.mem_of_getElem? (i := 787) (by decide +kernel), List.mem_of_getElem? (i := 788) (by decide +kernel)⟩
def lw_privs_2 : List (MethodName × Nat) := [(⟨"OneHandset$Keys", "foresees", "(I)Z"⟩, 8), (⟨"OneHandset", "boxAt", "(I)LOneHandset$Box;"⟩, 5), (⟨"OneHandset$Route", "keepRow", "(II)I"⟩, 5), (⟨"java/lang/Throwable", "fillInStackTrace", "(I)Ljava/lang/Throwable;"⟩, 6), (⟨"OneHandsetModel", "isMake", "(I)Z"⟩, 17), (⟨"OneHandsetModel", "get", "(II)I"⟩, 17), (⟨"OneHandsetModel", "flash", "(II)V"⟩, 17), (⟨"OneHandsetModel", "layHalves", "(III)V"⟩, 17), (⟨"OneHandsetModel", "lay", "(I)V"⟩, 17), (⟨"OneHandsetModel", "readBy", "(I)I"⟩, 17), (⟨"OneHandsetModel", "readHalves", "(I)I"⟩, 17), (⟨"OneHandsetModel", "which", "(IIII)I"⟩, 17), (⟨"OneHandsetModel", "fits", "(III)Z"⟩, 17), (⟨"OneHandsetModel", "fault", "(I)I"⟩, 17), (⟨"OneHandsetModel", "readBits", "(I)I"⟩, 17), (⟨"OneHandsetModel", "isKey", "(II)Z"⟩, 17)]
theorem lw_r2 : ∀ q ∈ lw_privs_2, lw_okq q := List.forall_mem_cons.mpr ⟨lw_p16, List.forall_mem_cons.mpr ⟨lw_p17, List.forall_mem_cons.mpr ⟨lw_p18, List.forall_mem_cons.mpr ⟨lw_p19, List.forall_mem_cons.mpr ⟨lw_p20, List.forall_mem_cons.mpr ⟨lw_p21, List.forall_mem_cons.mpr ⟨lw_p22, List.forall_mem_cons.mpr ⟨lw_p23, List.forall_mem_cons.mpr ⟨lw_p24, List.forall_mem_cons.mpr ⟨lw_p25, List.forall_mem_cons.mpr ⟨lw_p26, List.forall_mem_cons.mpr ⟨lw_p27, List.forall_mem_cons.mpr ⟨lw_p28, List.forall_mem_cons.mpr ⟨lw_p29, List.forall_mem_cons.mpr ⟨lw_p30, List.forall_mem_cons.mpr ⟨lw_p31, fun _ h => absurd h List.not_mem_nil⟩⟩⟩⟩⟩⟩⟩⟩⟩⟩⟩⟩⟩⟩⟩⟩
theorem lw_p32 : lw_okq (⟨"OneHandsetModel", "flipOf", "(I)I"⟩, 17) := ⟨⟨by decide +kernel, by decide +kernel⟩, List.mem_of_getElem? (i := 631) (by decide +kernel), List.mem_of_getElem? (i := 791) (by decide +kernel), List.mem_of_getElem? (i := 792) (by decide +kernel)⟩
theorem lw_p33 : lw_okq (⟨"OneHandsetModel", "learnt", "(I)I"⟩, 17) := ⟨⟨by decide +kernel, by decide +kernel⟩, List.mem_of_getElem? (i := 631) (by decide +kernel), List.mem_of_getElem? (i := 811) (by decide +kernel), List.mem_of_getElem? (i := 812) (by decide +kernel)⟩
theorem lw_p34 : lw_okq (⟨"OneHandsetModel", "fixed", "(I)I"⟩, 17) := ⟨⟨by decide +kernel, by decide +kernel⟩, List.mem_of_getElem? (i := 631) (by decide +kernel), List.mem_of_getElem? (i := 815) (by decide +kernel), List.mem_of_getElem? (i := 816) (by decide +kernel)⟩
theorem lw_p35 : lw_okq (⟨"OneHandsetModel", "some", "(I)I"⟩, 17) := ⟨⟨by decide +kernel, by decide +kernel⟩, List.mem_of_getElem? (i := 631) (by decide +kernel), List.mem_of_getElem? (i := 819) (by decide +kernel), List.mem_of_getElem? (i := 820) (by decide +kernel)⟩
theorem lw_p36 : lw_okq (⟨"OneHandsetModel", "checkOf", "(II)I"⟩, 17) := ⟨⟨by decide +kernel, by decide +kernel⟩, List.mem_of_getElem? (i := 631) (by decide +kernel), List.mem_of_getElem? (i := 827) (by decide +kernel), List.mem_of_getElem? (i := 828) (by decide +kernel)⟩
theorem lw_p37 : lw_okq (⟨"OneHandsetModel", "numberOf", "(III)I"⟩, 17) := ⟨⟨by decide +kernel, by decide +kernel⟩, List.mem_of_getElem? (i := 631) (by decide +kernel), List.mem_of_getElem? (i := 831) (by decide +kernel), List.mem_of_getElem? (i := 832) (by decide +kernel)⟩
theorem lw_p38 : lw_okq (⟨"OneHandsetModel", "canForesee", "(I)Z"⟩, 17) := ⟨⟨by decide +kernel, by decide +kernel⟩, List.mem_of_getElem? (i := 631) (by decide +kernel), List.mem_of_getElem? (i := 842) (by decide +kernel), List.mem_of_getElem? (i := 843) (by decide +kernel)⟩
theorem lw_p39 : lw_okq (⟨"OneHandsetModel", "go", "(II)I"⟩, 17) := ⟨⟨by decide +kernel, by decide +kernel⟩, List.mem_of_getElem? (i := 631) (by decide +kernel), List.mem_of_getElem? (i := 848) (by decide +kernel), List.mem_of_getElem? (i := 849) (by decide +kernel)⟩
theorem lw_p40 : lw_okq (⟨"OneHandsetModel", "isForeseen", "(II)Z"⟩, 17) := ⟨⟨by decide +kernel, by decide +kernel⟩, List.mem_of_getElem? (i := 631) (by decide +kernel), List.mem_of_getElem? (i := 852) (by decide +kernel), List.mem_of_getElem? (i := 853) (by decide +kernel)⟩
theorem lw_p41 : lw_okq (⟨"OneHandsetModel", "isSet", "(II)Z"⟩, 17) := ⟨⟨by decide +kernel, by decide +kernel⟩, List.mem_of_getElem? (i := 631) (by decide +kernel), List.mem_of_getElem? (i := 880) (by decide +kernel), List.mem_of_getElem? (i := 881) (by decide +kernel)⟩
theorem lw_p42 : lw_okq (⟨"OneHandsetModel", "behind", "(III)I"⟩, 17) := ⟨⟨by decide +kernel, by decide +kernel⟩, List.mem_of_getElem? (i := 631) (by decide +kernel), List.mem_of_getElem? (i := 888) (by decide +kernel), List.mem_of_getElem? (i := 889) (by decide +kernel)⟩
theorem lw_p43 : lw_okq (⟨"OneHandsetModel", "tell", "(II)I"⟩, 17) := ⟨⟨by decide +kernel, by decide +kernel⟩, List.mem_of_getElem? (i := 631) (by decide +kernel), List.mem_of_getElem? (i := 896) (by decide +kernel), List.mem_of_getElem? (i := 897) (by decide +kernel)⟩
def lw_privs_3 : List (MethodName × Nat) := [(⟨"OneHandsetModel", "flipOf", "(I)I"⟩, 17), (⟨"OneHandsetModel", "learnt", "(I)I"⟩, 17), (⟨"OneHandsetModel", "fixed", "(I)I"⟩, 17), (⟨"OneHandsetModel", "some", "(I)I"⟩, 17), (⟨"OneHandsetModel", "checkOf", "(II)I"⟩, 17), (⟨"OneHandsetModel", "numberOf", "(III)I"⟩, 17), (⟨"OneHandsetModel", "canForesee", "(I)Z"⟩, 17), (⟨"OneHandsetModel", "go", "(II)I"⟩, 17), (⟨"OneHandsetModel", "isForeseen", "(II)Z"⟩, 17), (⟨"OneHandsetModel", "isSet", "(II)Z"⟩, 17), (⟨"OneHandsetModel", "behind", "(III)I"⟩, 17), (⟨"OneHandsetModel", "tell", "(II)I"⟩, 17)]
theorem lw_r3 : ∀ q ∈ lw_privs_3, lw_okq q := List.forall_mem_cons.mpr ⟨lw_p32, List.forall_mem_cons.mpr ⟨lw_p33, List.forall_mem_cons.mpr ⟨lw_p34, List.forall_mem_cons.mpr ⟨lw_p35, List.forall_mem_cons.mpr ⟨lw_p36, List.forall_mem_cons.mpr ⟨lw_p37, List.forall_mem_cons.mpr ⟨lw_p38, List.forall_mem_cons.mpr ⟨lw_p39, List.forall_mem_cons.mpr ⟨lw_p40, List.forall_mem_cons.mpr ⟨lw_p41, List.forall_mem_cons.mpr ⟨lw_p42, List.forall_mem_cons.mpr ⟨lw_p43, fun _ h => absurd h List.not_mem_nil⟩⟩⟩⟩⟩⟩⟩⟩⟩⟩⟩⟩
def lw_privs : List (MethodName × Nat) := lw_privs_1 ++ (lw_privs_2 ++ (lw_privs_3))
def lw_tbl : List Cond := k2_sels lw_privs ++ tables_1
theorem lw_privs_ok : ∀ q ∈ lw_privs, lw_okq q := by
  show ∀ q ∈ lw_privs_1 ++ (lw_privs_2 ++ (lw_privs_3)), lw_okq q
  exact List.forall_mem_append.mpr ⟨lw_r1, List.forall_mem_append.mpr ⟨lw_r2, lw_r3⟩⟩
-- ===== end of PART A; then your names; then what follows =====
end
section
/-! ===== BEGIN words of one list among another's, by their places ===== -/
theorem goodIn_r {big : List Cond} (ws : List Cond) (ps : List Nat) (hp : ws = ps.filterMap (fun i => big[i]?)) (h : ws.all goodWord = true) : GoodIn big ws := by
  intro w hw
  have h1 := List.all_eq_true.mp h w hw
  rw [hp] at hw
  obtain ⟨i, -, hi⟩ := List.mem_filterMap.mp hw
  have hm : w ∈ big := by first | exact List.mem_of_getElem? hi | exact List.getElem?_mem hi
  exact ⟨hm, good_of_word h1⟩
theorem goodIn_app {big a b : List Cond} (ha : GoodIn big a) (hb : GoodIn big b) : GoodIn big (a ++ b) := fun w h => (List.mem_append.mp h).elim (ha w) (hb w)
theorem goodIn_ca {big a b : List Cond} {c : Cond} (ha : GoodIn big (c :: a)) (hb : GoodIn big b) : GoodIn big (c :: (a ++ b)) := fun w h => (List.mem_cons.mp h).elim (fun e => ha w (List.mem_cons.mpr (Or.inl e))) (fun h => (List.mem_append.mp h).elim (fun h => ha w (List.mem_cons.mpr (Or.inr h))) (hb w))
theorem goodIn_sub {big ws : List Cond} (hm : ∀ w ∈ ws, w ∈ big) (h : ws.all goodWord = true) : GoodIn big ws := fun w hw => ⟨hm w hw, good_of_word (List.all_eq_true.mp h w hw)⟩
/-! ===== END ===== -/

/-! ===== BEGIN exceptions that leave a method, and their catching by the caller (launches without stack traces) ===== -/
section VXA
/-! The laws vx_back, vx_callV, vx_callS, vx_callSW, vx_throw0, vx_throwS follow proofs of the library, with one case more: JvmDerived/Free/Laws.lean (Back.of_free), Shelf42/LK1.lean (callV, callS), Shelf/KitTraced.lean (throwNew0V, throwNewS). -/
/-- where a method has thrown q: the class by its name, the cell, what was written, the world -/
def vx_T (XC : String → State → State → Prop) (st : State) (q : Addr) (t : State) (mc ms : Nat) (free : Addr → Prop) : Prop :=
  ∃ (E : String) (ce : Cell) (L : List Loc), XC E st t ∧ t.heap[q]? = some ce ∧ ce.vm = .none ∧ st.vm.findClass E = some ce.cls ∧ st.WarmedH t.vm ∧ st.sameButNew ({ t with vm := st.vm } : State) L mc ms ∧ ∀ z ∈ L, free z.base
def vx_Q (Qc : Array Value → State → Outcome → State → Prop) (XC : String → State → State → Prop) (mc ms : Nat) (free : Addr → Prop) : Array Value → State → Outcome → State → Prop := fun a st o t =>
  (Qc a st o t ∧ ∃ L, FrameEnd st o t L mc ms ∧ ∀ q ∈ L, free q.base) ∨ ∃ q, o = .threw q ∧ vx_T XC st q t mc ms free
/-- a callee that returns or throws -/
def vx_Met (l : Launch) (y : MethodName) (ws : List Cond) (rm : Room) (Pc : Array Value → State → Prop) (Qc : Array Value → State → Outcome → State → Prop) (XC : String → State → State → Prop) (mc ms : Nat) (free : Addr → Prop) : Prop :=
  MetFree l y (headSpec ws rm) Pc (fun _ _ _ _ _ => True) (vx_Q Qc XC mc ms free)
def vx_Post (XC : String → State → State → Prop) (mc ms : Nat) (free : Addr → Prop) : Pt → Array Value → Addr → Pt → Prop := fun A a q B =>
  ∃ (g : JFrame) (mk : MethodId) (t : State) (L : List Loc) (E : String) (ce : Cell), B.U.heap = t.heap ∧ B.U.vm = t.vm ∧ XC E (A.U.calling g mk a) t ∧ t.heap[q]? = some ce ∧ ce.vm = .none ∧ A.U.vm.findClass E = some ce.cls ∧ B.locs = A.locs ++ L ∧ (∀ z ∈ L, free z.base) ∧ B.cells = A.cells + mc ∧ B.slots = A.slots + ms
def vx_Back (l : Launch) (R : Room) (p : Program) (e : Env) (below : List Frame) (s : State) (sargs : Array Value) (y : MethodName) (len W9 : Nat)
    (Pre : Pt → Array Value → Prop) (Post : Pt → Array Value → Option Value → Pt → Prop) (PostX : Pt → Array Value → Addr → Pt → Prop) : Prop :=
  ∀ (m : MethodId) (meth : Method) (c : Code) (A : Pt) (g : JFrame) (ig : Instr) (mk : MethodId) (a : Array Value),
    Stand p l e R s m sargs below meth c A.U A.locs A.cells A.slots → g.method = m → g.locals.size = c.maxLocals → decode c.code g.pc = .ok (ig, len) →
    2 * g.monitorRoom + (g.stack.map fun v => v.category).sum ≤ W9 → A.U.methodNamed? y = some mk → Pre A a →
    (∃ (v : Option Value) (B : Pt), Stand p l e R s m sargs below meth c B.U B.locs B.cells B.slots ∧ Post A a v B ∧
      Steps p.tables e below (doInvoke e (A.U.setTop g) [] mk a).1 (B.U.setTop { g with pc := g.pc + len, stack := v.toList ++ g.stack })) ∨
    (∃ (q : Addr) (B : Pt), Stand p l e R s m sargs below meth c B.U B.locs B.cells B.slots ∧ PostX A a q B ∧
      Steps p.tables e below (doInvoke e (A.U.setTop g) [] mk a).1 ((B.U.setTop g).pushFrame (.throwing q)))
section Payer
variable {l : Launch} {R : Room} {p : Program} {e : Env} {below : List Frame} {s : State} {sargs : Array Value} {y : MethodName} {len W9 : Nat}
theorem vx_back {ws : List Cond} {rm : Room} {Pc : Array Value → State → Prop} {Qc : Array Value → State → Outcome → State → Prop} {XC : String → State → State → Prop} {mc ms : Nat} {free : Addr → Prop} {bytes : ByteArray} {maxL : Nat} {ret : Option FieldType}
    (hM : vx_Met l y ws rm Pc Qc XC mc ms free) (hblind : FrameBlind Pc) (hrc : rm.cells = mc) (hrs : rm.slots = ms)
    (hframes : rm.frames + 1 ≤ R.frames) (hlocals : W9 + (maxL + 11) + rm.locals ≤ R.locals)
    (hws : ∀ w ∈ ws, ∀ a' U, s.WarmedH U.vm → w.before a' U = true) (hcode : Cond.code y bytes maxL ret ∈ ws) (hinit : ∀ a' U, s.WarmedH U.vm → (Cond.initialized y.cls).before a' U = true) :
    vx_Back l R p e below s sargs y len W9 (PreOf R mc ms Pc) (PostOf Qc mc ms free) (vx_Post XC mc ms free) := by
  intro m meth c A g ig mk a X hg hsize hdg hW hn hp
  have h1 : (headSpec ws rm).pre.before a A.U = true := atoms_intro fun w hw => hws w hw _ _ X.warmed
  have h2 : (Cond.code y bytes maxL ret).before a A.U = true := hws _ hcode _ _ X.warmed
  have h3 : (Cond.initialized y.cls).before a A.U = true := hinit _ _ X.warmed
  have h4 : A.cells + (headSpec ws rm).room.cells ≤ R.cells := by rw [show (headSpec ws rm).room.cells = mc from hrc]; exact hp.1
  have h5 : A.slots + (headSpec ws rm).room.slots ≤ R.slots := by rw [show (headSpec ws rm).room.slots = ms from hrs]; exact hp.2.1
  have hPc : Pc a (A.U.calling g mk a) := hblind _ _ _ _ hp.2.2
  obtain ⟨U, Ls, c0, s0⟩ := A
  dsimp only [Pt.U, Pt.locs, Pt.cells, Pt.slots] at h1 h2 h3 h4 h5 X hn hPc ⊢
  obtain ⟨methY, cY, hmY, hcY, -, hlY, -, -, -, -⟩ := Cond.code_spec hn h2
  obtain ⟨kY, hkY, -⟩ := className_of_methodNamed hn
  have hinitY : kY.init = .initialized := Cond.initialized_spec (findClass_of_methodNamed hn) hkY h3
  have h : At U g.method c below := by rw [hg]; exact X.here
  have hlocals9 : W9 + (maxL + 11) + (headSpec ws rm).room.locals ≤ R.locals := hlocals
  have happ : (headSpec ws rm).appliesLoose y e.platform (U.calling g mk a) = true :=
    Spec.appliesLoose_calling (g := g) h hdg hn hkY hinitY
      (X.room_calling (g := g) (R' := (headSpec ws rm).room) hsize hmY hcY hframes (by rw [hlY]; omega) h4 h5) h1
  obtain ⟨mid, hmid⟩ := h.above
  have hfr : (U.setTop g).frames = (.java g :: mid) ++ below := by rw [State.frames_setTop' g h.top, hmid]; rfl
  obtain ⟨o, s₂, hsteps, -, hend, hq⟩ := Steps.callFree hM p X.admits X.cas X.clock (acts := []) hfr happ hPc trivial
  have hq' : vx_Q Qc XC mc ms free a (U.calling g mk a) o s₂ := hq
  rw [State.frames_setTop' g h.top] at hend
  obtain ⟨g₀, hg0⟩ := Option.isSome_iff_exists.mp h.top
  obtain ⟨r, hr⟩ := State.topJava?_eq_some.mp hg0
  have hr' : (({ U with heap := s₂.heap, slotsUsed := s₂.slotsUsed } : State).setVm s₂.vm).frames = .java g₀ :: r := hr
  rcases hq' with ⟨hqc, L, hfe, hL⟩ | ⟨q, rfl, E, ce, L, hx, hce, hcv, hcl, hW₂, hsm, hL⟩
  · obtain ⟨⟨v, rfl⟩, hW₂, e2, q2, q3, q4, q5, q6⟩ := id hfe
    have e3 : s₂ = ({ (U.calling g mk a).setFrames s₂.frames with heap := s₂.heap, slotsUsed := s₂.slotsUsed } : State).setVm s₂.vm := by
      have : s₂ = ({ s₂ with vm := (U.calling g mk a).vm } : State).setVm s₂.vm := rfl
      rw [e2] at this
      exact this
    obtain ⟨c₂, i₂, len₂, hc₂, hd₂, hf₂⟩ := hend
    have hW' : U.WarmedH s₂.vm := hW₂
    have hcc : c₂ = c := by
      have h1 : s₂.code? g.method = U.code? g.method := by
        rw [State.code?_eq, State.code?_eq, hW'.alike.method?]
      exact Option.some.inj (hc₂.symm.trans (h1.trans h.code))
    subst hcc
    have hlen : len₂ = len := by rw [hdg] at hd₂; cases hd₂; rfl
    subst hlen
    have hs₂ : s₂ = (({ U with heap := s₂.heap, slotsUsed := s₂.slotsUsed } : State).setVm s₂.vm).setTop { g with pc := g.pc + len₂, stack := v.toList ++ g.stack } := by
      refine e3.trans ?_
      rw [hf₂, State.calling_eq h.top, State.setFrames_setFrames, State.setTop_of_frames _ hr', hr]
      rfl
    have hsame : U.sameButNew ({ U with heap := s₂.heap, slotsUsed := s₂.slotsUsed } : State) L mc ms := by
      refine ⟨?_, q2, q3, q4, q5, q6⟩
      obtain ⟨t, ht, -⟩ := State.frames_cons hr
      show ({ U with heap := s₂.heap, slotsUsed := s₂.slotsUsed } : State) = { U.setFrames U.frames with heap := s₂.heap, slotsUsed := s₂.slotsUsed }
      rw [State.setFrames_self ht]
    subst hg
    refine Or.inl ⟨v, ⟨(({ U with heap := s₂.heap, slotsUsed := s₂.slotsUsed } : State).setVm s₂.vm), Ls ++ L, c0 + mc, s0 + ms⟩,
      ⟨X.admits, X.cas, X.clock, X.frames, X.room, X.hears, X.method, X.code, (X.here.setHeapUsed s₂.heap s₂.slotsUsed).setVm hW'.alike, X.tail, State.WarmedH.trans X.warmed hW', X.limits, X.bytes, X.same.trans (hsame.setVm s.vm)⟩,
      ⟨g, mk, s₂, L, rfl, rfl, hqc, rfl, hL, rfl, rfl⟩, ?_⟩
    show Steps p.tables e below _ ((({ U with heap := s₂.heap, slotsUsed := s₂.slotsUsed } : State).setVm s₂.vm).setTop { g with pc := g.pc + len₂, stack := v.toList ++ g.stack })
    rw [← hs₂]
    exact hsteps
  · obtain ⟨e2, q2, q3, q4, q5, q6⟩ := id hsm
    have e3 : s₂ = ({ (U.calling g mk a).setFrames s₂.frames with heap := s₂.heap, slotsUsed := s₂.slotsUsed } : State).setVm s₂.vm := by
      have : s₂ = ({ s₂ with vm := (U.calling g mk a).vm } : State).setVm s₂.vm := rfl
      rw [e2] at this
      exact this
    have hf₂ : s₂.frames = .throwing q :: .java g :: U.frames.tail := hend
    have hW' : U.WarmedH s₂.vm := hW₂
    have hs₂ : s₂ = ((({ U with heap := s₂.heap, slotsUsed := s₂.slotsUsed } : State).setVm s₂.vm).setTop g).pushFrame (.throwing q) := by
      refine e3.trans ?_
      rw [hf₂, State.calling_eq h.top, State.setFrames_setFrames, State.pushFrame, State.frames_setTop _ hr', State.setTop_of_frames _ hr', State.setFrames_setFrames, hr]
      rfl
    have hsame : U.sameButNew ({ U with heap := s₂.heap, slotsUsed := s₂.slotsUsed } : State) L mc ms := by
      refine ⟨?_, q2, q3, q4, q5, q6⟩
      obtain ⟨t, ht, -⟩ := State.frames_cons hr
      show ({ U with heap := s₂.heap, slotsUsed := s₂.slotsUsed } : State) = { U.setFrames U.frames with heap := s₂.heap, slotsUsed := s₂.slotsUsed }
      rw [State.setFrames_self ht]
    subst hg
    refine Or.inr ⟨q, ⟨(({ U with heap := s₂.heap, slotsUsed := s₂.slotsUsed } : State).setVm s₂.vm), Ls ++ L, c0 + mc, s0 + ms⟩,
      ⟨X.admits, X.cas, X.clock, X.frames, X.room, X.hears, X.method, X.code, (X.here.setHeapUsed s₂.heap s₂.slotsUsed).setVm hW'.alike, X.tail, State.WarmedH.trans X.warmed hW', X.limits, X.bytes, X.same.trans (hsame.setVm s.vm)⟩,
      ⟨g, mk, s₂, L, E, ce, rfl, rfl, hx, hce, hcv, hcl, rfl, hL, rfl, rfl⟩, ?_⟩
    show Steps p.tables e below _ (((({ U with heap := s₂.heap, slotsUsed := s₂.slotsUsed } : State).setVm s₂.vm).setTop g).pushFrame (.throwing q))
    rw [← hs₂]
    exact hsteps
end Payer
section Calls
variable {p : Program} {l : Launch} {e : Env} {R : Room} {s : State} {m : MethodId} {args : Array Value} {below : List Frame} {meth : Method} {c : Code} {T : State} {locs : List Loc} {cells slots : Nat}
theorem vx_callV (X : Stand p l e R s m args below meth c T locs cells slots) (hexec : p.tables.exec = Jvm.exec) {own C : String} {index : Nat} {y : MethodName} {bytes : ByteArray} {maxL : Nat} {ret : Option FieldType}
    (hown : s.vm.findClass own = some m.cls) (hlink : (Cond.methodLink own index y).before args s = true) (hinst : (Cond.instanceMethod y).before args s = true) (hsel : (Cond.selects C y y).before args s = true)
    (hcode : (Cond.code y bytes maxL ret).before args s = true) (hy : y.cls ≠ "java/lang/invoke/MethodHandle" ∧ y.cls ≠ "java/lang/invoke/VarHandle")
    {W9 : Nat} {Pre : Pt → Array Value → Prop} {Post : Pt → Array Value → Option Value → Pt → Prop} {PostX : Pt → Array Value → Addr → Pt → Prop} (hK : vx_Back l R p e below s args y 3 W9 Pre Post PostX)
    {b : Addr} {cellB : Cell} (hcell : T.heap[b]? = some cellB) (hobj : cellB.vm.isStatics = false) (hcls : s.vm.findClass C = some cellB.cls)
    {g : JFrame} (hg : g.method = m) (hsize : g.locals.size = c.maxLocals) {argsL rest : List Value} (hlen : ∀ sig, parseMethodDescriptor y.desc = some sig → argsL.length = sig.parameters.length)
    (hstack : g.stack = argsL.reverse ++ .ref b :: rest) (hW : 2 * g.monitorRoom + (rest.map fun v => v.category).sum ≤ W9) (hdg : decode c.code g.pc = .ok (.invokevirtual index, 3))
    (hpre : ∀ vm₁, s.WarmedH vm₁ → Pre ⟨T.setVm vm₁, locs, cells, slots⟩ (Value.ref b :: argsL).toArray) :
    (∃ (v : Option Value) (vm₁ : Vm) (B : Pt), s.WarmedH vm₁ ∧ Stand p l e R s m args below meth c B.U B.locs B.cells B.slots ∧ Post ⟨T.setVm vm₁, locs, cells, slots⟩ (Value.ref b :: argsL).toArray v B ∧
      ∀ target, Steps p.tables e below (B.U.setTop { g with pc := g.pc + 3, stack := v.toList ++ rest }) target → Steps p.tables e below (T.setTop g) target) ∨
    (∃ (q : Addr) (vm₁ : Vm) (B : Pt), s.WarmedH vm₁ ∧ Stand p l e R s m args below meth c B.U B.locs B.cells B.slots ∧ PostX ⟨T.setVm vm₁, locs, cells, slots⟩ (Value.ref b :: argsL).toArray q B ∧
      Steps p.tables e below (T.setTop g) ((B.U.setTop { g with stack := rest }).pushFrame (.throwing q))) := by
  obtain ⟨mk, methM, hnamed, hmethM, hstM, habM⟩ := Cond.instanceMethod_spec hinst
  obtain ⟨methM', cM, hmethM', -, -, -, -, -, -, hsigM⟩ := Cond.code_spec hnamed hcode
  cases hmethM.symm.trans hmethM'
  obtain ⟨c2, r2, m2, q1, q2, q3, q4, kP, hkP, hkPi⟩ := Cond.selects_spec hsel
  cases hcls.symm.trans q1
  cases (State.methodFound?_of_named hnamed hy).symm.trans q2
  cases hnamed.symm.trans q3
  have hselP : selectMethod e.platform s.vm cellB.cls mk = .method mk := by rw [Launch.admits_selectMethod X.admits]; exact q4
  obtain ⟨vm₁, X₁, hstep₁⟩ := X.invokevirtual hexec hown hlink hnamed hmethM hstM hkP hkPi hy (a := b) (cell := cellB) hcell
    (fun z h => by rw [h] at hobj; cases hobj) hselP hmethM habM hkP hkPi (g := g) hg (argsL := argsL) (rest := rest) (hlen _ hsigM) hstack hdg
  rcases hK m meth c ⟨T.setVm vm₁, locs, cells, slots⟩ { g with stack := rest } (.invokevirtual index) mk (Value.ref b :: argsL).toArray X₁ hg hsize hdg hW (X₁.named hnamed) (hpre vm₁ X₁.warmed) with ⟨v, B, X', hpost, hsteps⟩ | ⟨q, B, X', hpost, hsteps⟩
  · exact Or.inl ⟨v, vm₁, B, X₁.warmed, X', hpost, fun target h => hstep₁ _ fun acts => by rw [doInvoke_state]; exact hsteps.trans h⟩
  · exact Or.inr ⟨q, vm₁, B, X₁.warmed, X', hpost, hstep₁ _ fun acts => by rw [doInvoke_state]; exact hsteps⟩
theorem vx_callS (X : Stand p l e R s m args below meth c T locs cells slots) (hexec : p.tables.exec = Jvm.exec) {own : String} {index : Nat} {y : MethodName} {bytes : ByteArray} {maxL : Nat} {ret : Option FieldType}
    (hown : s.vm.findClass own = some m.cls) (hlink : (Cond.methodLink own index y).before args s = true) (hstat : (Cond.static y).before args s = true) (hinit : (Cond.initialized y.cls).before args s = true)
    (hcode : (Cond.code y bytes maxL ret).before args s = true) (hy : y.cls ≠ "java/lang/invoke/MethodHandle" ∧ y.cls ≠ "java/lang/invoke/VarHandle")
    {W9 : Nat} {Pre : Pt → Array Value → Prop} {Post : Pt → Array Value → Option Value → Pt → Prop} {PostX : Pt → Array Value → Addr → Pt → Prop} (hK : vx_Back l R p e below s args y 3 W9 Pre Post PostX)
    {g : JFrame} (hg : g.method = m) (hsize : g.locals.size = c.maxLocals) {argsL rest : List Value} (hlen : ∀ sig, parseMethodDescriptor y.desc = some sig → argsL.length = sig.parameters.length)
    (hstack : g.stack = argsL.reverse ++ rest) (hW : 2 * g.monitorRoom + (rest.map fun v => v.category).sum ≤ W9) (hdg : decode c.code g.pc = .ok (.invokestatic index, 3))
    (hpre : ∀ vm₁, s.WarmedH vm₁ → Pre ⟨T.setVm vm₁, locs, cells, slots⟩ argsL.toArray) :
    (∃ (v : Option Value) (vm₁ : Vm) (B : Pt), s.WarmedH vm₁ ∧ Stand p l e R s m args below meth c B.U B.locs B.cells B.slots ∧ Post ⟨T.setVm vm₁, locs, cells, slots⟩ argsL.toArray v B ∧
      ∀ target, Steps p.tables e below (B.U.setTop { g with pc := g.pc + 3, stack := v.toList ++ rest }) target → Steps p.tables e below (T.setTop g) target) ∨
    (∃ (q : Addr) (vm₁ : Vm) (B : Pt), s.WarmedH vm₁ ∧ Stand p l e R s m args below meth c B.U B.locs B.cells B.slots ∧ PostX ⟨T.setVm vm₁, locs, cells, slots⟩ argsL.toArray q B ∧
      Steps p.tables e below (T.setTop g) ((B.U.setTop { g with stack := rest }).pushFrame (.throwing q))) := by
  obtain ⟨mk, hnamed⟩ := Cond.code_named hcode
  obtain ⟨methM, cM, hmethM, -, -, -, -, -, -, hsigM⟩ := Cond.code_spec hnamed hcode
  have hstatic : methM.isStatic = true := Cond.static_spec hnamed hmethM hstat
  obtain ⟨kP, hkP, -⟩ := className_of_methodNamed hnamed
  have hinitP : kP.init = .initialized := Cond.initialized_spec (findClass_of_methodNamed hnamed) hkP hinit
  obtain ⟨vm₁, X₁, hstep₁⟩ := X.invokestatic hexec hown hlink hnamed hmethM hstatic hkP hinitP hy (g := g) hg (argsL := argsL) (rest := rest) (hlen _ hsigM) hstack hdg
  rcases hK m meth c ⟨T.setVm vm₁, locs, cells, slots⟩ { g with stack := rest } (.invokestatic index) mk argsL.toArray X₁ hg hsize hdg hW (X₁.named hnamed) (hpre vm₁ X₁.warmed) with ⟨v, B, X', hpost, hsteps⟩ | ⟨q, B, X', hpost, hsteps⟩
  · exact Or.inl ⟨v, vm₁, B, X₁.warmed, X', hpost, fun target h => hstep₁ _ fun acts => by rw [doInvoke_state]; exact hsteps.trans h⟩
  · exact Or.inr ⟨q, vm₁, B, X₁.warmed, X', hpost, hstep₁ _ fun acts => by rw [doInvoke_state]; exact hsteps⟩
end Calls
theorem vx_cls {s : State} {T : State} {vm₁ : Vm} {E : String} {k : ClassId} (hW : s.WarmedH vm₁) (h : (T.setVm vm₁).vm.findClass E = some k) : s.vm.findClass E = some k := by
  have h1 : vm₁.findClass E = some k := h
  rw [hW.alike.findClass] at h1
  exact h1
/-- the method's frame g, with q thrown over it -/
def vx_W (p : Program) (l : Launch) (e : Env) (R : Room) (s : State) (m : MethodId) (args : Array Value) (below : List Frame) (meth : Method) (c : Code) (H : Heap) (locs : List Loc) (cells slots : Nat) (Q : State → Prop) (g : JFrame) (q : Addr) : Prop :=
  ∀ T : State, T.heap = H → Stand p l e R s m args below meth c T locs cells slots → ∃ t, Steps p.tables e below ((T.setTop g).pushFrame (.throwing q)) t ∧ Q t
def vx_Run (p : Program) (l : Launch) (e : Env) (R : Room) (s : State) (m : MethodId) (args : Array Value) (below : List Frame) (meth : Method) (c : Code) (H : Heap) (locs : List Loc) (cells slots mc ms : Nat) (g : JFrame) (rest : List Value) (Qa : State → Outcome → State → Prop) (XC : String → State → State → Prop) (free : Addr → Prop) : Prop :=
  ∀ T : State, T.heap = H → Stand p l e R s m args below meth c T locs cells slots →
    (∃ (v : Option Value) (st₀ t T' : State) (L : List Loc), st₀.heap = H ∧ Stand p l e R s m args below meth c T' (locs ++ L) (cells + mc) (slots + ms) ∧ (∀ q ∈ L, free q.base) ∧ T'.heap = t.heap ∧ T'.vm = t.vm ∧ Qa st₀ (.returned v) t ∧
      Goes p e below T g T' { g with pc := g.pc + 3, stack := v.toList ++ rest }) ∨
    (∃ (q : Addr) (st₀ t T' : State) (L : List Loc) (E : String) (ce : Cell), st₀.heap = H ∧ Stand p l e R s m args below meth c T' (locs ++ L) (cells + mc) (slots + ms) ∧ (∀ z ∈ L, free z.base) ∧ T'.heap = t.heap ∧ T'.vm = t.vm ∧ XC E st₀ t ∧ t.heap[q]? = some ce ∧ ce.vm = .none ∧ s.vm.findClass E = some ce.cls ∧
      Steps p.tables e below (T.setTop g) ((T'.setTop { g with stack := rest }).pushFrame (.throwing q)))
def vx_X {S : Type} (px : S → Prop) (B : String → S → State → Prop) (A : Nat → Prop) : String → State → State → Prop := fun E st t => ∃ u : S, px u ∧ B E u t ∧ va_F A st t
section Runs
variable {p : Program} {l : Launch} {e : Env} {R : Room} {s : State} {m : MethodId} {args : Array Value} {below : List Frame} {meth : Method} {c : Code} {H : Heap} {locs : List Loc} {cells slots : Nat}
variable {y : MethodName} {bytes cc : ByteArray} {maxL nL mc ms n index : Nat} {ret : Option FieldType} {ws : List Cond} {rm : Room} {Pc : Array Value → State → Prop} {Qc : Array Value → State → Outcome → State → Prop} {XC : String → State → State → Prop} {free : Addr → Prop} {Ts : List Cond} {own C : String} {b : Addr} {As rest : List Value} {g : JFrame}
theorem vx_callBack (cb : CallB R s args own index y bytes maxL ret ws rm mc ms n) (hM : vx_Met l y ws rm Pc Qc XC mc ms free) (hbl : FrameBlind Pc) : vx_Back l R p e below s args y 3 8 (PreOf R mc ms Pc) (PostOf Qc mc ms free) (vx_Post XC mc ms free) := by
  obtain ⟨hrc, hrs, hfr, hlo, hws, hcw, -, hini, -⟩ := cb
  exact vx_back (bytes := bytes) (maxL := maxL) (ret := ret) hM hbl hrc hrs hfr hlo hws hcw (fun a' U hW => word_at hW (Or.inl (by first | rfl | simp [Cond.onTables, Cond.keeps, Cond.steady])) hini)
theorem vx_runV (S : CallFix p m c cc nL s args Ts own) (hM : vx_Met l y ws rm Pc Qc XC mc ms free) (cw : CallW R s args own C index y bytes maxL ret ws rm mc ms n) (hp : PreV s H C b Pc As)
    (hg : g.method = m) (hn : As.length = n) (hsize : g.locals.size = nL) (hstack : g.stack = As.reverse ++ .ref b :: rest) (hW : 2 * g.monitorRoom + (rest.map fun v => v.category).sum ≤ 8) (hdg : decode cc g.pc = .ok (.invokevirtual index, 3)) (hf : cells + mc ≤ R.cells ∧ slots + ms ≤ R.slots) :
    vx_Run p l e R s m args below meth c H locs cells slots mc ms g rest (Qc (Value.ref b :: As).toArray) XC free := by
  have hK : vx_Back l R p e below s args y 3 8 (PreOf R mc ms Pc) (PostOf Qc mc ms free) (vx_Post XC mc ms free) := vx_callBack cw.1 hM hp.1
  obtain ⟨⟨-, -, -, -, -, -, hcode, -, hy, hlen, hl⟩, hin, hse⟩ := cw
  obtain ⟨hx, hb, hml, ho, -⟩ := S
  obtain ⟨-, ⟨cellB, hcB, hoB, hclB⟩, hPc⟩ := hp
  intro T hT X
  rcases vx_callV X hx (C := C) (bytes := bytes) (maxL := maxL) (ret := ret) ho hl hin hse hcode hy hK (by rw [hT]; exact hcB) hoB hclB hg (hsize.trans hml.symm) (argsL := As) (rest := rest) (fun sig h => hn.trans (hlen sig h)) hstack hW (by rw [hb]; exact hdg)
    (fun vm₁ hW₁ => ⟨hf.1, hf.2, hPc (T.setVm vm₁) hT hW₁⟩) with ⟨v, vm₁, ⟨U', l2, c2, s2⟩, hW₁, X', ⟨g', mk, t, L, e1, e2, hq, h1, hL, h2, h3⟩, st⟩ | ⟨q, vm₁, ⟨U', l2, c2, s2⟩, hW₁, X', ⟨g', mk, t, L, E, ce, e1, e2, hq, hce, hcv, hcl, h1, hL, h2, h3⟩, st⟩
  · dsimp only [Pt.U, Pt.locs, Pt.cells, Pt.slots] at X' e1 e2 h1 h2 h3 st
    subst h1; subst h2; subst h3
    exact Or.inl ⟨v, (T.setVm vm₁).calling g' mk (Value.ref b :: As).toArray, t, U', L, hT, X', hL, e1, e2, hq, st⟩
  · dsimp only [Pt.U, Pt.locs, Pt.cells, Pt.slots] at X' e1 e2 h1 h2 h3 st hcl
    subst h1; subst h2; subst h3
    exact Or.inr ⟨q, (T.setVm vm₁).calling g' mk (Value.ref b :: As).toArray, t, U', L, E, ce, hT, X', hL, e1, e2, hq, hce, hcv, vx_cls hW₁ hcl, st⟩
theorem vx_runS (S : CallFix p m c cc nL s args Ts own) (hM : vx_Met l y ws rm Pc Qc XC mc ms free) (cw : CallB R s args own index y bytes maxL ret ws rm mc ms n ∧ (Cond.static y).before args s = true) (hp : PreS s H Pc As)
    (hg : g.method = m) (hn : As.length = n) (hsize : g.locals.size = nL) (hstack : g.stack = As.reverse ++ rest) (hW : 2 * g.monitorRoom + (rest.map fun v => v.category).sum ≤ 8) (hdg : decode cc g.pc = .ok (.invokestatic index, 3)) (hf : cells + mc ≤ R.cells ∧ slots + ms ≤ R.slots) :
    vx_Run p l e R s m args below meth c H locs cells slots mc ms g rest (Qc As.toArray) XC free := by
  have hK : vx_Back l R p e below s args y 3 8 (PreOf R mc ms Pc) (PostOf Qc mc ms free) (vx_Post XC mc ms free) := vx_callBack cw.1 hM hp.1
  obtain ⟨⟨-, -, -, -, -, -, hcode, hini, hy, hlen, hl⟩, hstt⟩ := cw
  obtain ⟨hx, hb, hml, ho, -⟩ := S
  intro T hT X
  rcases vx_callS X hx (bytes := bytes) (maxL := maxL) (ret := ret) ho hl hstt hini hcode hy hK hg (hsize.trans hml.symm) (argsL := As) (rest := rest) (fun sig h => hn.trans (hlen sig h)) hstack hW (by rw [hb]; exact hdg)
    (fun vm₁ hW₁ => ⟨hf.1, hf.2, hp.2 (T.setVm vm₁) hT hW₁⟩) with ⟨v, vm₁, ⟨U', l2, c2, s2⟩, hW₁, X', ⟨g', mk, t, L, e1, e2, hq, h1, hL, h2, h3⟩, st⟩ | ⟨q, vm₁, ⟨U', l2, c2, s2⟩, hW₁, X', ⟨g', mk, t, L, E, ce, e1, e2, hq, hce, hcv, hcl, h1, hL, h2, h3⟩, st⟩
  · dsimp only [Pt.U, Pt.locs, Pt.cells, Pt.slots] at X' e1 e2 h1 h2 h3 st
    subst h1; subst h2; subst h3
    exact Or.inl ⟨v, (T.setVm vm₁).calling g' mk As.toArray, t, U', L, hT, X', hL, e1, e2, hq, st⟩
  · dsimp only [Pt.U, Pt.locs, Pt.cells, Pt.slots] at X' e1 e2 h1 h2 h3 st hcl
    subst h1; subst h2; subst h3
    exact Or.inr ⟨q, (T.setVm vm₁).calling g' mk As.toArray, t, U', L, E, ce, hT, X', hL, e1, e2, hq, hce, hcv, vx_cls hW₁ hcl, st⟩
end Runs
section Rows
variable {p : Program} {l : Launch} {e : Env} {R : Room} {s : State} {m : MethodId} {args : Array Value} {below : List Frame} {meth : Method} {c : Code} {H : Heap} {locs : List Loc} {cells slots : Nat} {Q : State → Prop}
variable {mc ms : Nat} {free : Addr → Prop} {A0 A1 : Nat → Prop} {H0 : Heap} {a : Array Value} {pc : Nat} {ls : Array Slot} {st0 rest : List Value}
theorem vx_keep {st₀ t T' : State} {L : List Loc} (h0 : st₀.heap = H) (e1 : T'.heap = t.heap) (hS : va_S A0 H0 H locs) (hA : ∀ q, q < H.size → A1 q → A0 q) (hf : ∀ q, free q → A0 q) (hL : ∀ q ∈ L, free q.base) (hF : va_F A1 st₀ t) :
    H.size ≤ T'.heap.size ∧ (∀ q : Nat, q < H.size → ¬ A1 q → T'.heap[q]? = H[q]?) ∧ va_S A0 H0 T'.heap (locs ++ L) := by
  obtain ⟨hz, hk⟩ := hF
  rw [h0] at hz hk
  exact ⟨by rw [e1]; exact hz, fun q h1 h2 => by rw [e1]; exact hk q h1 h2,
    ⟨Nat.le_trans hS.1 (by rw [e1]; exact hz), fun q h1 h2 => by rw [e1, hk q (Nat.lt_of_lt_of_le h1 hS.1) (fun z => h2 (hA q (Nat.lt_of_lt_of_le h1 hS.1) z))]; exact hS.2.1 q h1 h2, fun q hq => by
      rcases List.mem_append.mp hq with h | h
      · exact hS.2.2 q h
      · exact hf _ (hL q h)⟩⟩
theorem vx_calli {S SX : Type} {post : Int32 → S → Prop} {px : SX → Prop} {B : S → State → Prop} {BX : String → SX → State → Prop} {AX : Nat → Prop} (hr : vx_Run p l e R s m args below meth c H locs cells slots mc ms (F0 m pc ls st0) rest (va_Qi post B A1 a) (vx_X px BX AX) free) (hS : va_S A0 H0 H locs) (hA : ∀ q, q < H.size → A1 q → A0 q) (hf : ∀ q, free q → A0 q) (hAX : ∀ q, q < H.size → AX q → A0 q)
    (kx : ∀ (E : String) (ce : Cell) (q9 : Addr) (u : SX) (t : State) (H1 : Heap) (locs1 : List Loc), t.heap = H1 → s.vm.Alike t.vm → px u → BX E u t → H.size ≤ H1.size → (∀ q : Nat, q < H.size → ¬ AX q → H1[q]? = H[q]?) → va_S A0 H0 H1 locs1 → H1[q9]? = some ce → ce.vm = .none → s.vm.findClass E = some ce.cls → vx_W p l e R s m args below meth c H1 locs1 (cells + mc) (slots + ms) Q (F0 m pc ls rest) q9)
    (kk : ∀ (r : Int32) (u : S) (t : State) (H1 : Heap) (locs1 : List Loc), t.heap = H1 → s.vm.Alike t.vm → post r u → B u t → H.size ≤ H1.size → (∀ q : Nat, q < H.size → ¬ A1 q → H1[q]? = H[q]?) → va_S A0 H0 H1 locs1 → W p l e R s m args below meth c H1 locs1 (cells + mc) (slots + ms) Q (F0 m (pc + 3) ls (.int r :: rest))) : W p l e R s m args below meth c H locs cells slots Q (F0 m pc ls st0) := by
  intro T hT X
  rcases hr T hT X with ⟨v, st₀, t, T', L, h0, X', hL, e1, e2, ⟨⟨r, u, hv, hp, hb⟩, hF⟩, st⟩ | ⟨q, st₀, t, T', L, E, ce, h0, X', hL, e1, e2, ⟨u, hp, hb, hF⟩, hce, hcv, hcl, st⟩
  · cases hv
    obtain ⟨k1, k2, k3⟩ := vx_keep h0 e1 hS hA hf hL hF
    obtain ⟨t2, a1, b1⟩ := kk r u t T'.heap (locs ++ L) e1.symm (by rw [← e2]; exact X'.warmed.alike) hp hb k1 k2 k3 T' rfl X'
    exact ⟨t2, st t2 a1, b1⟩
  · obtain ⟨k1, k2, k3⟩ := vx_keep h0 e1 hS hAX hf hL hF
    obtain ⟨t2, a1, b1⟩ := kx E ce q u t T'.heap (locs ++ L) e1.symm (by rw [← e2]; exact X'.warmed.alike) hp hb k1 k2 k3 (by rw [e1]; exact hce) hcv hcl T' rfl X'
    exact ⟨t2, st.trans a1, b1⟩
theorem vx_calll {S SX : Type} {post : Int64 → S → Prop} {px : SX → Prop} {B : S → State → Prop} {BX : String → SX → State → Prop} {AX : Nat → Prop} (hr : vx_Run p l e R s m args below meth c H locs cells slots mc ms (F0 m pc ls st0) rest (va_Ql post B A1 a) (vx_X px BX AX) free) (hS : va_S A0 H0 H locs) (hA : ∀ q, q < H.size → A1 q → A0 q) (hf : ∀ q, free q → A0 q) (hAX : ∀ q, q < H.size → AX q → A0 q)
    (kx : ∀ (E : String) (ce : Cell) (q9 : Addr) (u : SX) (t : State) (H1 : Heap) (locs1 : List Loc), t.heap = H1 → s.vm.Alike t.vm → px u → BX E u t → H.size ≤ H1.size → (∀ q : Nat, q < H.size → ¬ AX q → H1[q]? = H[q]?) → va_S A0 H0 H1 locs1 → H1[q9]? = some ce → ce.vm = .none → s.vm.findClass E = some ce.cls → vx_W p l e R s m args below meth c H1 locs1 (cells + mc) (slots + ms) Q (F0 m pc ls rest) q9)
    (kk : ∀ (r : Int64) (u : S) (t : State) (H1 : Heap) (locs1 : List Loc), t.heap = H1 → s.vm.Alike t.vm → post r u → B u t → H.size ≤ H1.size → (∀ q : Nat, q < H.size → ¬ A1 q → H1[q]? = H[q]?) → va_S A0 H0 H1 locs1 → W p l e R s m args below meth c H1 locs1 (cells + mc) (slots + ms) Q (F0 m (pc + 3) ls (.long r :: rest))) : W p l e R s m args below meth c H locs cells slots Q (F0 m pc ls st0) := by
  intro T hT X
  rcases hr T hT X with ⟨v, st₀, t, T', L, h0, X', hL, e1, e2, ⟨⟨r, u, hv, hp, hb⟩, hF⟩, st⟩ | ⟨q, st₀, t, T', L, E, ce, h0, X', hL, e1, e2, ⟨u, hp, hb, hF⟩, hce, hcv, hcl, st⟩
  · cases hv
    obtain ⟨k1, k2, k3⟩ := vx_keep h0 e1 hS hA hf hL hF
    obtain ⟨t2, a1, b1⟩ := kk r u t T'.heap (locs ++ L) e1.symm (by rw [← e2]; exact X'.warmed.alike) hp hb k1 k2 k3 T' rfl X'
    exact ⟨t2, st t2 a1, b1⟩
  · obtain ⟨k1, k2, k3⟩ := vx_keep h0 e1 hS hAX hf hL hF
    obtain ⟨t2, a1, b1⟩ := kx E ce q u t T'.heap (locs ++ L) e1.symm (by rw [← e2]; exact X'.warmed.alike) hp hb k1 k2 k3 (by rw [e1]; exact hce) hcv hcl T' rfl X'
    exact ⟨t2, st.trans a1, b1⟩
theorem vx_callf {S SX : Type} {post : UInt32 → S → Prop} {px : SX → Prop} {B : S → State → Prop} {BX : String → SX → State → Prop} {AX : Nat → Prop} (hr : vx_Run p l e R s m args below meth c H locs cells slots mc ms (F0 m pc ls st0) rest (va_Qf post B A1 a) (vx_X px BX AX) free) (hS : va_S A0 H0 H locs) (hA : ∀ q, q < H.size → A1 q → A0 q) (hf : ∀ q, free q → A0 q) (hAX : ∀ q, q < H.size → AX q → A0 q)
    (kx : ∀ (E : String) (ce : Cell) (q9 : Addr) (u : SX) (t : State) (H1 : Heap) (locs1 : List Loc), t.heap = H1 → s.vm.Alike t.vm → px u → BX E u t → H.size ≤ H1.size → (∀ q : Nat, q < H.size → ¬ AX q → H1[q]? = H[q]?) → va_S A0 H0 H1 locs1 → H1[q9]? = some ce → ce.vm = .none → s.vm.findClass E = some ce.cls → vx_W p l e R s m args below meth c H1 locs1 (cells + mc) (slots + ms) Q (F0 m pc ls rest) q9)
    (kk : ∀ (r : UInt32) (u : S) (t : State) (H1 : Heap) (locs1 : List Loc), t.heap = H1 → s.vm.Alike t.vm → post r u → B u t → H.size ≤ H1.size → (∀ q : Nat, q < H.size → ¬ A1 q → H1[q]? = H[q]?) → va_S A0 H0 H1 locs1 → W p l e R s m args below meth c H1 locs1 (cells + mc) (slots + ms) Q (F0 m (pc + 3) ls (.float r :: rest))) : W p l e R s m args below meth c H locs cells slots Q (F0 m pc ls st0) := by
  intro T hT X
  rcases hr T hT X with ⟨v, st₀, t, T', L, h0, X', hL, e1, e2, ⟨⟨r, u, hv, hp, hb⟩, hF⟩, st⟩ | ⟨q, st₀, t, T', L, E, ce, h0, X', hL, e1, e2, ⟨u, hp, hb, hF⟩, hce, hcv, hcl, st⟩
  · cases hv
    obtain ⟨k1, k2, k3⟩ := vx_keep h0 e1 hS hA hf hL hF
    obtain ⟨t2, a1, b1⟩ := kk r u t T'.heap (locs ++ L) e1.symm (by rw [← e2]; exact X'.warmed.alike) hp hb k1 k2 k3 T' rfl X'
    exact ⟨t2, st t2 a1, b1⟩
  · obtain ⟨k1, k2, k3⟩ := vx_keep h0 e1 hS hAX hf hL hF
    obtain ⟨t2, a1, b1⟩ := kx E ce q u t T'.heap (locs ++ L) e1.symm (by rw [← e2]; exact X'.warmed.alike) hp hb k1 k2 k3 (by rw [e1]; exact hce) hcv hcl T' rfl X'
    exact ⟨t2, st.trans a1, b1⟩
theorem vx_calld {S SX : Type} {post : UInt64 → S → Prop} {px : SX → Prop} {B : S → State → Prop} {BX : String → SX → State → Prop} {AX : Nat → Prop} (hr : vx_Run p l e R s m args below meth c H locs cells slots mc ms (F0 m pc ls st0) rest (va_Qd post B A1 a) (vx_X px BX AX) free) (hS : va_S A0 H0 H locs) (hA : ∀ q, q < H.size → A1 q → A0 q) (hf : ∀ q, free q → A0 q) (hAX : ∀ q, q < H.size → AX q → A0 q)
    (kx : ∀ (E : String) (ce : Cell) (q9 : Addr) (u : SX) (t : State) (H1 : Heap) (locs1 : List Loc), t.heap = H1 → s.vm.Alike t.vm → px u → BX E u t → H.size ≤ H1.size → (∀ q : Nat, q < H.size → ¬ AX q → H1[q]? = H[q]?) → va_S A0 H0 H1 locs1 → H1[q9]? = some ce → ce.vm = .none → s.vm.findClass E = some ce.cls → vx_W p l e R s m args below meth c H1 locs1 (cells + mc) (slots + ms) Q (F0 m pc ls rest) q9)
    (kk : ∀ (r : UInt64) (u : S) (t : State) (H1 : Heap) (locs1 : List Loc), t.heap = H1 → s.vm.Alike t.vm → post r u → B u t → H.size ≤ H1.size → (∀ q : Nat, q < H.size → ¬ A1 q → H1[q]? = H[q]?) → va_S A0 H0 H1 locs1 → W p l e R s m args below meth c H1 locs1 (cells + mc) (slots + ms) Q (F0 m (pc + 3) ls (.double r :: rest))) : W p l e R s m args below meth c H locs cells slots Q (F0 m pc ls st0) := by
  intro T hT X
  rcases hr T hT X with ⟨v, st₀, t, T', L, h0, X', hL, e1, e2, ⟨⟨r, u, hv, hp, hb⟩, hF⟩, st⟩ | ⟨q, st₀, t, T', L, E, ce, h0, X', hL, e1, e2, ⟨u, hp, hb, hF⟩, hce, hcv, hcl, st⟩
  · cases hv
    obtain ⟨k1, k2, k3⟩ := vx_keep h0 e1 hS hA hf hL hF
    obtain ⟨t2, a1, b1⟩ := kk r u t T'.heap (locs ++ L) e1.symm (by rw [← e2]; exact X'.warmed.alike) hp hb k1 k2 k3 T' rfl X'
    exact ⟨t2, st t2 a1, b1⟩
  · obtain ⟨k1, k2, k3⟩ := vx_keep h0 e1 hS hAX hf hL hF
    obtain ⟨t2, a1, b1⟩ := kx E ce q u t T'.heap (locs ++ L) e1.symm (by rw [← e2]; exact X'.warmed.alike) hp hb k1 k2 k3 (by rw [e1]; exact hce) hcv hcl T' rfl X'
    exact ⟨t2, st.trans a1, b1⟩
theorem vx_callv {S SX : Type} {post : S → Prop} {px : SX → Prop} {B : S → State → Prop} {BX : String → SX → State → Prop} {AX : Nat → Prop} (hr : vx_Run p l e R s m args below meth c H locs cells slots mc ms (F0 m pc ls st0) rest (va_Qv post B A1 a) (vx_X px BX AX) free) (hS : va_S A0 H0 H locs) (hA : ∀ q, q < H.size → A1 q → A0 q) (hf : ∀ q, free q → A0 q) (hAX : ∀ q, q < H.size → AX q → A0 q)
    (kx : ∀ (E : String) (ce : Cell) (q9 : Addr) (u : SX) (t : State) (H1 : Heap) (locs1 : List Loc), t.heap = H1 → s.vm.Alike t.vm → px u → BX E u t → H.size ≤ H1.size → (∀ q : Nat, q < H.size → ¬ AX q → H1[q]? = H[q]?) → va_S A0 H0 H1 locs1 → H1[q9]? = some ce → ce.vm = .none → s.vm.findClass E = some ce.cls → vx_W p l e R s m args below meth c H1 locs1 (cells + mc) (slots + ms) Q (F0 m pc ls rest) q9)
    (kk : ∀ (u : S) (t : State) (H1 : Heap) (locs1 : List Loc), t.heap = H1 → s.vm.Alike t.vm → post u → B u t → H.size ≤ H1.size → (∀ q : Nat, q < H.size → ¬ A1 q → H1[q]? = H[q]?) → va_S A0 H0 H1 locs1 → W p l e R s m args below meth c H1 locs1 (cells + mc) (slots + ms) Q (F0 m (pc + 3) ls (rest))) : W p l e R s m args below meth c H locs cells slots Q (F0 m pc ls st0) := by
  intro T hT X
  rcases hr T hT X with ⟨v, st₀, t, T', L, h0, X', hL, e1, e2, ⟨⟨u, hv, hp, hb⟩, hF⟩, st⟩ | ⟨q, st₀, t, T', L, E, ce, h0, X', hL, e1, e2, ⟨u, hp, hb, hF⟩, hce, hcv, hcl, st⟩
  · cases hv
    obtain ⟨k1, k2, k3⟩ := vx_keep h0 e1 hS hA hf hL hF
    obtain ⟨t2, a1, b1⟩ := kk u t T'.heap (locs ++ L) e1.symm (by rw [← e2]; exact X'.warmed.alike) hp hb k1 k2 k3 T' rfl X'
    exact ⟨t2, st t2 a1, b1⟩
  · obtain ⟨k1, k2, k3⟩ := vx_keep h0 e1 hS hAX hf hL hF
    obtain ⟨t2, a1, b1⟩ := kx E ce q u t T'.heap (locs ++ L) e1.symm (by rw [← e2]; exact X'.warmed.alike) hp hb k1 k2 k3 (by rw [e1]; exact hce) hcv hcl T' rfl X'
    exact ⟨t2, st.trans a1, b1⟩
/-- caught by the row x of this method's table; the rows ahead don't take it -/
theorem vx_catch {own name : String} {E : String} {ce : Cell} {q : Addr} (hown : s.vm.findClass own = some m.cls) (pre : List ExceptionTableEntry) (x : ExceptionTableEntry) (suf : List ExceptionTableEntry) (hsplit : c.exceptionTable.toList = pre ++ x :: suf)
    (hpass : ∀ z ∈ pre, covers z pc = false ∨ (z.catchType ≠ 0 ∧ ∃ nm : String, (Cond.classLink own z.catchType nm).before args s = true ∧ va_Nc E nm s)) (hx : covers x pc = true) (h0 : x.catchType ≠ 0)
    (hlink : (Cond.classLink own x.catchType name).before args s = true) (hcast : (Cond.castable E name).before args s = true) (hcell : H[q]? = some ce) (hv : ce.vm = .none) (hcl : s.vm.findClass E = some ce.cls)
    (kk : W p l e R s m args below meth c H locs cells slots Q (F0 m x.handlerPc ls [.ref q])) : vx_W p l e R s m args below meth c H locs cells slots Q (F0 m pc ls rest) q := by
  intro T hT X
  have hpl : e.platform.magicAccessors = ({} : Platform).magicAccessors := by rw [X.admits.platform]
  obtain ⟨c3, c4, hc3, hc4, hasg⟩ := Cond.castable_spec hcast
  cases Option.some.inj (hc3.symm.trans hcl)
  obtain ⟨c5, hc5, hcl5⟩ := Cond.classLink_spec hown hlink e.platform hpl
  cases Option.some.inj (hc4.symm.trans hc5)
  obtain ⟨vm', X', st⟩ := Stand.thenCaughtThrough X q (g := F0 m pc ls rest) rfl (Steps.refl _) (by rw [hT]; exact hcell) (by rw [hv]; rfl) (by obtain ⟨k9, h9, -⟩ := Vm.findClass_spec hcl; exact ⟨k9, h9⟩) pre x suf hsplit
    (fun z hz => by
      rcases hpass z hz with h | ⟨hz0, nm, hl1, hn1⟩
      · exact Or.inl h
      · obtain ⟨c6, hc6, hcl6⟩ := Cond.classLink_spec hown hl1 e.platform hpl
        obtain ⟨a8, b8, h1, h2, h3⟩ := hn1
        cases Option.some.inj (h1.symm.trans hcl)
        cases Option.some.inj (h2.symm.trans hc6)
        exact Or.inr ⟨hz0, _, hcl6, h3⟩) hx (Or.inr ⟨h0, c4, hcl5, hasg⟩)
  obtain ⟨t, a1, b1⟩ := kk (T.setVm vm') hT X'
  exact ⟨t, st.trans a1, b1⟩
end Rows
section Ends
variable {p : Program} {l : Launch} {e : Env} {R : Room} {s : State} {m : MethodId} {args : Array Value} {below : List Frame} {meth : Method} {c : Code} {H : Heap} {locs : List Loc} {cells slots : Nat} {Q : State → Prop}
variable {mc ms : Nat} {free : Addr → Prop} {A0 A1 : Nat → Prop} {H0 : Heap} {a : Array Value} {ls : Array Slot} {st0 rest : List Value}
variable {Qc : Array Value → State → Outcome → State → Prop} {XC : String → State → State → Prop}
/-- what a body that may throw owes at its end -/
def vx_MQ (below : List Frame) (Qc : Array Value → State → Outcome → State → Prop) (XC : String → State → State → Prop) (a : Array Value) (s : State) (mc ms : Nat) (free : Addr → Prop) : State → Prop := fun t =>
  ∃ o, t.status = .running ∧ Ended t below o ∧ vx_Q Qc XC mc ms free a s o t
theorem vx_ret {g : JFrame} {mc ms : Nat} (k : W p l e R s m args below meth c H locs cells slots (MQ below Qc args s mc ms free) g) : W p l e R s m args below meth c H locs cells slots (vx_MQ below Qc XC args s mc ms free) g := by
  intro T hT X
  obtain ⟨t, a1, o, b1, b2, b3, b4⟩ := k T hT X
  exact ⟨t, a1, o, b1, b2, Or.inl ⟨b3, b4⟩⟩
/-- not caught here: it goes on to the caller -/
theorem vx_widen {g : JFrame} {q : Addr} {k n : Nat} (h1 : cells ≤ k) (h2 : slots ≤ n) (kk : vx_W p l e R s m args below meth c H locs k n Q g q) : vx_W p l e R s m args below meth c H locs cells slots Q g q := fun T hT X => kk T hT (stand_widen X h1 h2)
theorem vx_out {pc : Nat} {E : String} {ce : Cell} {q : Addr} {mc ms : Nat} (hout : ∀ x ∈ c.exceptionTable.toList, covers x pc = false) (hlocks : meth.locks = false) (hcell : H[q]? = some ce) (hv : ce.vm = .none) (hcl : s.vm.findClass E = some ce.cls)
    (hx : ∀ t : State, t.heap = H → s.vm.Alike t.vm → XC E s t) (hf : ∀ z ∈ locs, free z.base) (hc : cells ≤ mc) (hs : slots ≤ ms) :
    vx_W p l e R s m args below meth c H locs cells slots (vx_MQ below Qc XC args s mc ms free) (F0 m pc ls rest) q := by
  intro T hT X
  obtain ⟨st1, hrun, hend, hW, hsm⟩ := X.leaveThrown q (g := F0 m pc ls rest) rfl rfl rfl hout hlocks
  have hcell9 : (T.setFrames (.throwing q :: below)).heap[q]? = some ce := by
    show T.heap[q]? = some ce
    rw [hT]; exact hcell
  exact ⟨_, st1, .threw q, hrun, hend, Or.inr ⟨q, rfl, E, ce, locs, hx _ hT hW.alike, hcell9, hv, hcl, hW, hsm.mono hc hs, hf⟩⟩
theorem vx_frame {U : State} {k n : Nat} (h : s.sameButNew ({ U with vm := s.vm } : State) locs k n) : s.heap.size ≤ U.heap.size ∧ ∀ q : Nat, q < s.heap.size → (∀ z ∈ locs, z.base ≠ q) → U.heap[q]? = s.heap[q]? := by
  obtain ⟨-, h2, -, -, -, h6⟩ := h
  refine ⟨h2, fun q hq hz => ?_⟩
  obtain ⟨c9, e1, e2, e3, e4⟩ := h6 q _ (Array.getElem?_eq_getElem hq)
  have hs : c9.slots = (s.heap[q]).slots := Array.ext_getElem? fun i => e4 i fun hm => hz _ hm rfl
  have h9 : c9 = s.heap[q] := by
    rw [hs] at e2
    exact e2
  have e5 : U.heap[q]? = some c9 := e1
  rw [e5, h9, Array.getElem?_eq_getElem hq]
/-- the words of a throw but the four that speak of the heap -/
def vx_no (w : Cond) : Bool := decide (w ≠ .isRef (.static Bundle.tN "UNASSIGNED_STACK" Bundle.steD)) && decide (w ≠ .isRef (.static Bundle.tN "SUPPRESSED_SENTINEL" Bundle.listD)) && decide (w ≠ .laysStatic Bundle.tN "UNASSIGNED_STACK" Bundle.steD) && decide (w ≠ .laysStatic Bundle.tN "SUPPRESSED_SENTINEL" Bundle.listD)
def vx_at0 (own : String) (ic : Nat) (X : String) (names : List String) : List Cond := (Bundle.ownAtoms0 own ic X names).filter vx_no
def vx_atS (own : String) (ic : Nat) (X : String) (names : List String) : List Cond := (Bundle.ownAtoms own ic X names).filter vx_no
/-- a word that the tables alone decide, or a good one -/
def vx_ot (w : Cond) : Bool := w.onTables || goodWord w
theorem vx_ot_at {args a' : Array Value} {s U : State} {w : Cond} (hW : s.WarmedH U.vm) (hvm : s.vm = U.vm) (hg : vx_ot w = true) (h : w.before args s = true) : w.before a' U = true := by
  simp only [vx_ot, Bool.or_eq_true] at hg
  rcases hg with hg | hg
  · exact va_tabs hg hvm h
  · exact word_at hW (good_of_word hg) h
/-- a list's words: the good ones out of the method's own list, the others by premises of their own -/
theorem vx_hat {args : Array Value} {s : State} {L B : List Cond} (h1 : ∀ w ∈ L.filter goodWord, w.before args s = true) (h2 : ∀ w ∈ L.filter (fun w => !goodWord w), w ∈ B) (h3 : ∀ w ∈ B, w.before args s = true) : ∀ w ∈ L, w.before args s = true := by
  intro w hw
  by_cases g : goodWord w = true
  · exact h1 w (List.mem_filter.mpr ⟨hw, g⟩)
  · refine h3 w (h2 w (List.mem_filter.mpr ⟨hw, ?_⟩))
    show (!goodWord w) = true
    cases hgw : goodWord w
    · rfl
    · exact absurd hgw g
theorem vx_c {args : Array Value} {s : State} {w : Cond} {B : List Cond} (h : w.before args s = true) (t : ∀ w ∈ B, w.before args s = true) : ∀ w' ∈ w :: B, w'.before args s = true := fun w' h' => (List.mem_cons.mp h').elim (fun e => by rw [e]; exact h) (t w')
theorem vx_n {args : Array Value} {s : State} : ∀ w ∈ ([] : List Cond), w.before args s = true := fun _ h => nomatch h
theorem vx_own {args : Array Value} {s : State} {L : List Cond} (h1 : ∀ w ∈ L.filter vx_no, w.before args s = true)
    (hU : (Cond.isRef (.static Bundle.tN "UNASSIGNED_STACK" Bundle.steD)).before args s = true) (hN : (Cond.isRef (.static Bundle.tN "SUPPRESSED_SENTINEL" Bundle.listD)).before args s = true)
    (lU : (Cond.laysStatic Bundle.tN "UNASSIGNED_STACK" Bundle.steD).before args s = true) (lN : (Cond.laysStatic Bundle.tN "SUPPRESSED_SENTINEL" Bundle.listD).before args s = true) : ∀ w ∈ L, w.before args s = true := by
  intro w hw
  by_cases e1 : w = .isRef (.static Bundle.tN "UNASSIGNED_STACK" Bundle.steD)
  · rw [e1]; exact hU
  · by_cases e2 : w = .isRef (.static Bundle.tN "SUPPRESSED_SENTINEL" Bundle.listD)
    · rw [e2]; exact hN
    · by_cases e3 : w = .laysStatic Bundle.tN "UNASSIGNED_STACK" Bundle.steD
      · rw [e3]; exact lU
      · by_cases e4 : w = .laysStatic Bundle.tN "SUPPRESSED_SENTINEL" Bundle.listD
        · rw [e4]; exact lN
        · exact h1 w (List.mem_filter.mpr ⟨hw, by unfold vx_no; rw [decide_eq_true e1, decide_eq_true e2, decide_eq_true e3, decide_eq_true e4]; rfl⟩)
/-- where a static field lies, its class's statics cell in H -/
def vx_L (C n d : String) (A : Nat → Prop) (U : State) (H : Heap) : Prop := ∃ (c : ClassId) (k : Class) (i : Nat) (f : Field) (a : Nat) (cell : Cell), U.vm.findClass C = some c ∧ U.fieldFound? C n d = some (c, k, i, f) ∧ f.isStatic = true ∧ k.statics = some a ∧ H[a]? = some cell ∧ cell.vm.isStatics = true ∧ cell.cls = c ∧ f.slot < cell.slots.size ∧ k.staticTypes[f.slot]? = some f.type ∧ ¬ A a
theorem vx_L.moved {C n d : String} {A : Nat → Prop} {u U : State} {H : Heap} (hvm : u.vm.Alike U.vm) (h : vx_L C n d A u H) : vx_L C n d A U H := by
  obtain ⟨c, k, i, f, a, cell, h1, h2, h3, h4, h5, h6, h7, h8, h9, h10⟩ := h
  obtain ⟨k', hi', he⟩ := State.fieldFound?_setVm hvm h2
  exact ⟨c, k', i, f, a, cell, by rw [hvm.findClass]; exact h1, hi', h3, by rw [he]; exact h4, h5, h6, h7, h8, by rw [he]; exact h9, h10⟩
theorem vx_L.kept {C n d : String} {A : Nat → Prop} {U : State} {H H1 : Heap} (h : vx_L C n d A U H) (hq : ∀ a : Nat, a < H.size → ¬ A a → H1[a]? = H[a]?) : vx_L C n d A U H1 := by
  obtain ⟨c, k, i, f, a, cell, h1, h2, h3, h4, h5, h6, h7, h8, h9, h10⟩ := h
  exact ⟨c, k, i, f, a, cell, h1, h2, h3, h4, by rw [hq a (Array.getElem?_eq_some_iff.mp h5).1 h10]; exact h5, h6, h7, h8, h9, h10⟩
theorem vx_L.narrow {C n d : String} {A B : Nat → Prop} {U : State} {H : Heap} (h : vx_L C n d A U H) (hAB : ∀ q, B q → A q) : vx_L C n d B U H := by
  obtain ⟨c, k, i, f, a, cell, h1, h2, h3, h4, h5, h6, h7, h8, h9, h10⟩ := h
  exact ⟨c, k, i, f, a, cell, h1, h2, h3, h4, h5, h6, h7, h8, h9, fun z => h10 (hAB _ z)⟩
theorem vx_L.word {C n d : String} {A : Nat → Prop} {s : State} {args : Array Value} (h : vx_L C n d A s s.heap) : (Cond.laysStatic C n d).before args s = true := by
  obtain ⟨c, k, i, f, a, cell, h1, h2, h3, h4, h5, h6, h7, h8, h9, -⟩ := h
  show (Cond.laysStatic C n d).holds args s none s [] = true
  exact Cond.laysStatic_of h1 h2 h3 h4 h5 h6 h7 h8 h9
/-- .. and what it holds: null or some reference -/
def vx_Zq (C n d : String) (A : Nat → Prop) (U : State) (H : Heap) : Prop := va_Zq C n d A U H ∧ vx_L C n d A U H
theorem vx_Zq.moved {C n d : String} {A : Nat → Prop} {u U : State} {H : Heap} (hvm : u.vm.Alike U.vm) (h : vx_Zq C n d A u H) : vx_Zq C n d A U H := ⟨va_Zq.moved hvm h.1, vx_L.moved hvm h.2⟩
theorem vx_Zq.kept {C n d : String} {A : Nat → Prop} {U : State} {H H1 : Heap} (h : vx_Zq C n d A U H) (hq : ∀ a : Nat, a < H.size → ¬ A a → H1[a]? = H[a]?) : vx_Zq C n d A U H1 := ⟨va_Zq.kept h.1 hq, vx_L.kept h.2 hq⟩
theorem vx_Zq.narrow {C n d : String} {A B : Nat → Prop} {U : State} {H : Heap} (h : vx_Zq C n d A U H) (hAB : ∀ q, B q → A q) : vx_Zq C n d B U H := ⟨va_Zq.narrow h.1 hAB, vx_L.narrow h.2 hAB⟩
theorem vx_Zqof {args : Array Value} {s : State} {C n d : String} {A : Nat → Prop} (hl : (Cond.laysStatic C n d).before args s = true) (hini : (Cond.initialized C).before args s = true) (h : (Cond.isRef (.static C n d)).before args s = true) (hA : ∀ a : Nat, a < s.heap.size → ¬ A a) : vx_Zq C n d A s s.heap := by
  refine ⟨va_Zqof hl hini h hA, ?_⟩
  obtain ⟨c, k, i, f, a, cell, h1, h2, h3, h4, h5, h6, h7, h8, h9⟩ := Cond.laysStatic_spec hl
  exact ⟨c, k, i, f, a, cell, h1, h2, h3, h4, h5, h6, h7, h8, h9, hA a (Array.getElem?_eq_some_iff.mp h5).1⟩
theorem vx_isRef {C n d : String} {v : Value} {A : Nat → Prop} {s : State} {args : Array Value} (h : va_Z C n d v A s s.heap) (hv : v.isRef = true) : (Cond.isRef (.static C n d)).before args s = true := by
  obtain ⟨cf, kf, fi, f, a, cell, h1, h2, h3, h4, h5, h6, h7, -⟩ := h
  have he : (Term.static C n d).eval args s none [] s = some v := by
    simp [Term.eval, State.fieldNamed?, h1, h2, h4, h5, h6, h7]
  simp only [Cond.before, Cond.holds, Cond.value, he]
  cases v <;> simp_all [Value.isRef]
theorem vx_isRefq {C n d : String} {A : Nat → Prop} {s : State} {args : Array Value} (h : va_Zq C n d A s s.heap) : (Cond.isRef (.static C n d)).before args s = true := by
  rcases h with h | ⟨t, h⟩
  · exact vx_isRef h rfl
  · exact vx_isRef h rfl
/-- the same frame, seen from here: as if the method were called anew in this heap -/
theorem vx_rebase {T : State} (X : Stand p l e R s m args below meth c T locs cells slots) {R' : Room} (hf : R'.frames ≤ R.frames) (hl : R'.locals ≤ R.locals) (hc : cells + R'.cells ≤ R.cells) (hs : slots + R'.slots ≤ R.slots) :
    Stand p l e R' ((T.setVm s.vm).setFrames (.invoking m args :: below)) m args below meth c T [] 0 0 := by
  have htop : (T.setVm s.vm).topJava?.isSome := X.here.top
  have hF : ((T.setVm s.vm).setFrames (.invoking m args :: below)).frames = .invoking m args :: below := State.frames_setFrames _ (State.cur_lt_of_top htop)
  obtain ⟨g₀, hg0⟩ := Option.isSome_iff_exists.mp htop
  obtain ⟨r, hr⟩ := State.topJava?_eq_some.mp hg0
  have hl9 : e.platform.stackLimits (T.setVm s.vm).me = e.platform.stackLimits s.me := X.limits
  have hb9 : (T.setVm s.vm).me.stackBytes = s.me.stackBytes := X.bytes
  refine ⟨X.admits, X.cas, X.clock, hF, ?_, X.hears, X.method, X.code, X.here, X.tail, X.warmed, ?_, ?_, ?_⟩
  · have h := X.room
    have hU : ((T.setVm s.vm).setFrames (.invoking m args :: below)).localsInUse = s.localsInUse := by
      rw [State.localsInUse_invoking hF (meth := meth) (c := c) X.method X.code, State.localsInUse_invoking X.frames X.method X.code]
    simp only [State.hasRoom, Bool.and_eq_true, decide_eq_true_eq] at h ⊢
    obtain ⟨⟨⟨⟨h1, h2, h3, h4, h5, h6⟩, h7⟩, h8⟩, h9⟩ := h
    rw [X.frames, List.length_cons] at h2 h3
    have q1 := X.heapSize
    have q2 := X.used
    simp only [hF, hU, List.length_cons, State.stackLimits_setFrames, State.stackBytes_setFrames, hl9, hb9]
    refine ⟨⟨⟨⟨by omega, by omega, by omega, by omega, by omega, h6⟩, ?_⟩, ?_⟩, X.book⟩
    · show T.heap.size + R'.cells ≤ e.platform.maxCells
      omega
    · show T.slotsUsed + R'.slots ≤ e.platform.maxSlots
      omega
  · rw [State.stackLimits_setFrames]; rfl
  · rw [State.stackBytes_setFrames]; rfl
  · refine ⟨?_, Nat.le_refl _, Nat.le_refl _, ?_, ?_, fun a c9 h9 => ⟨c9, h9, rfl, rfl, fun _ _ => rfl⟩⟩
    · obtain ⟨t, ht, -⟩ := State.frames_cons hr
      show T.setVm s.vm = { ((T.setVm s.vm).setFrames (.invoking m args :: below)).setFrames (T.setVm s.vm).frames with heap := T.heap, slotsUsed := T.slotsUsed }
      rw [State.setFrames_setFrames, State.setFrames_self ht]
      rfl
    · show T.slotsUsed = T.slotsUsed + ((T.heap.toList.drop T.heap.size).map (·.slots.size)).sum
      rw [List.drop_eq_nil_of_le (Nat.le_of_eq Array.length_toList)]
      rfl
    · show ((T.heap.toList.drop T.heap.size).map (·.slots.size)).sum ≤ 0
      rw [List.drop_eq_nil_of_le (Nat.le_of_eq Array.length_toList)]
      exact Nat.le_refl _
/-- 'throw new E()': new; dup; invokespecial; athrow -/
theorem vx_throw0 {cc : ByteArray} {pc : Nat} (hexec : p.tables.exec = Jvm.exec) (hb : c.code = cc) (hl : l.stackTraces = false) {own cls : String} {names : List String} {ik ic mc ms : Nat} {A : Nat → Prop}
    (hown : s.vm.findClass own = some m.cls) (hcls : Bundle.fit cls = true) (hnames : ∀ n ∈ names, Bundle.fit n = true)
    (hk : (Cond.classLink own ik cls).before args s = true) (hini : (Cond.initialized cls).before args s = true) (hat : ∀ w ∈ vx_at0 own ic cls names, w.before args s = true)
    (hgood : ∀ w ∈ Cond.classLink own ik cls :: Cond.initialized cls :: vx_at0 own ic cls names, vx_ot w = true)
    (hU : vx_Zq Bundle.tN "UNASSIGNED_STACK" Bundle.steD A s s.heap) (hN : vx_Zq Bundle.tN "SUPPRESSED_SENTINEL" Bundle.listD A s s.heap) (hS : va_S A s.heap H locs) (hsize : ls.size = c.maxLocals)
    (d0 : decode cc pc = .ok (.new ik, 3)) (d3 : decode cc (pc + 3) = .ok (.dup, 1)) (d4 : decode cc (pc + 4) = .ok (.invokespecial ic, 3)) (d7 : decode cc (pc + 7) = .ok (.athrow, 1))
    (hout : ∀ x ∈ c.exceptionTable.toList, covers x (pc + 7) = false)
    (hRframes : names.length + 3 < R.frames) (hRlocals : (rest.map fun v => v.category).sum + (13 * (names.length + 1) + 42) ≤ R.locals) (hRcells : cells + 1 ≤ R.cells) (hRslots : slots + 6 ≤ R.slots) (hlocks : meth.locks = false)
    (hx : ∀ t : State, s.vm.Alike t.vm → H.size ≤ t.heap.size → (∀ q : Nat, q < H.size → t.heap[q]? = H[q]?) → XC cls s t)
    (hf : ∀ z ∈ locs, free z.base) (hc : cells + 1 ≤ mc) (hs : slots + 6 ≤ ms) :
    W p l e R s m args below meth c H locs cells slots (vx_MQ below Qc XC args s mc ms free) (F0 m pc ls rest) := by
  intro T hT X
  have htr : e.platform.stackTraces = false := (show e.platform.stackTraces = l.stackTraces by rw [X.admits.platform]).trans hl
  have Y := vx_rebase X (R' := { frames := R.frames, locals := R.locals, cells := 1, slots := 6 }) (Nat.le_refl _) (Nat.le_refl _) hRcells hRslots
  obtain ⟨s', hA⟩ : ∃ z, z = (T.setVm s.vm).setFrames (.invoking m args :: below) := ⟨_, rfl⟩
  rw [← hA] at Y
  have hvm : s'.vm = s.vm := by rw [hA]; rfl
  have hhp : s'.heap = H := by rw [hA]; exact hT
  have hW0 : s.WarmedH s'.vm := by rw [hvm]; exact State.WarmedH.refl s
  have hat' : ∀ w ∈ vx_at0 own ic cls names, w.before args s' = true := fun w hw => vx_ot_at hW0 hvm.symm (hgood w (List.mem_cons_of_mem _ (List.mem_cons_of_mem _ hw))) (hat w hw)
  have hk' : (Cond.classLink own ik cls).before args s' = true := vx_ot_at hW0 hvm.symm (hgood _ List.mem_cons_self) hk
  have hini' : (Cond.initialized cls).before args s' = true := vx_ot_at hW0 hvm.symm (hgood _ (List.mem_cons_of_mem _ List.mem_cons_self)) hini
  have hU' : vx_Zq Bundle.tN "UNASSIGNED_STACK" Bundle.steD A s' s'.heap := by rw [hhp]; exact vx_Zq.moved hW0.alike (hU.kept hS.2.1)
  have hN' : vx_Zq Bundle.tN "SUPPRESSED_SENTINEL" Bundle.listD A s' s'.heap := by rw [hhp]; exact vx_Zq.moved hW0.alike (hN.kept hS.2.1)
  have h : ∀ w ∈ Bundle.ownAtoms0 own ic cls names, w.before args s' = true := vx_own hat' (vx_isRefq hU'.1) (vx_isRefq hN'.1) hU'.2.word hN'.2.word
  have hown' : s'.vm.findClass own = some m.cls := by rw [hvm]; exact hown
  have hins : (Cond.instantiable cls 6).before args s' = true := h _ (by simp [Bundle.ownAtoms0])
  obtain ⟨vm₁, cX, kX, hfX, hkX, -, -, X₁, st1⟩ := Y.newCold hexec (own := own) (C := cls) (index := ik) (n := 6) hown' hk' hins hini'
    (g := F0 m pc ls rest) rfl (by rw [hb]; exact d0) (Nat.le_refl _) (Nat.le_refl _)
  generalize hT1 : (T.setVm vm₁).pushCell { cls := cX, slots := kX.instanceTypes.map defaultValue, vm := .none } = T1 at X₁ st1
  have hcat : (Value.ref T.heap.size).category = 1 := rfl
  have hcellA : T1.heap[T.heap.size]? = some (freshCell cX kX) := by rw [← hT1]; exact State.heap_pushCell_size _ _
  have d3' : decode c.code (pc + 3) = .ok (.dup, 1) := by rw [hb]; exact d3
  obtain ⟨U, hsteps, hrun, hend, hW, hsame, ce, hce, hO⟩ := X₁.ctorThrow0 hexec htr (own := own) (cls := cls) (names := names) (ic := ic) hown' hcls hnames h (fun x hx => nomatch hx) hfX hkX hcellA (by rw [hhp, hT]; exact Nat.le_refl _)
    (g := { method := m, pc := pc + 4, locals := ls, stack := .ref T.heap.size :: .ref T.heap.size :: rest, locked := none }) rfl hsize rfl rfl (rest := rest) rfl
    (by rw [hb]; exact d4) (by rw [hb]; exact d7) hout hRframes (by simp only [List.map_cons, List.sum_cons, hcat]; omega) hlocks
  obtain ⟨f1, f2⟩ := vx_frame hsame
  rw [hhp] at f1 f2
  have hWs : s.WarmedH U.vm := State.WarmedH.trans hW0 hW
  have hcl : s.vm.findClass cls = some ce.cls := by
    have h9 := hO.cls
    rw [hvm] at h9
    exact h9
  have hall : s.sameButNew ({ U with vm := s.vm } : State) locs mc ms := by
    subst hA
    obtain ⟨e1, e2⟩ := hsame
    rw [State.setFrames_setFrames] at e1
    have h2 : (T.setVm s.vm).sameButNew ({ U with vm := s.vm } : State) [] (0 + 1) (0 + 6) := ⟨e1, e2⟩
    have h3 := X.same.trans h2
    rw [List.append_nil] at h3
    exact h3.mono hc hs
  refine ⟨U, ?_, .threw T.heap.size, hrun, hend, Or.inr ⟨T.heap.size, rfl, cls, ce, locs, hx U hWs.alike f1 (fun q hq => f2 q hq (fun z hz => nomatch hz)), hce, hO.vm, hcl, hWs, hall, hf⟩⟩
  refine st1 _ ?_
  show Steps p.tables e below (T1.setTop { method := m, pc := pc + 3, locals := ls, stack := .ref T.heap.size :: rest, locked := none }) _
  jvm_step X₁.here [X₁.here.top, hexec, d3', Value.category]
  exact hsteps
/-- 'throw new E("text")': new; dup; ldc; invokespecial; athrow -/
theorem vx_throwS {cc : ByteArray} {pc : Nat} (hexec : p.tables.exec = Jvm.exec) (hb : c.code = cc) (hl : l.stackTraces = false) {own cls text : String} {names : List String} {ik is ic mc ms sa : Nat} {A : Nat → Prop}
    (hown : s.vm.findClass own = some m.cls) (hcls : Bundle.fit cls = true) (hnames : ∀ n ∈ names, Bundle.fit n = true)
    (hk : (Cond.classLink own ik cls).before args s = true) (hini : (Cond.initialized cls).before args s = true) (hstr : vk_R own is text sa s) (hat : ∀ w ∈ vx_atS own ic cls names, w.before args s = true)
    (hgood : ∀ w ∈ Cond.classLink own ik cls :: Cond.initialized cls :: vx_atS own ic cls names, vx_ot w = true)
    (hU : vx_Zq Bundle.tN "UNASSIGNED_STACK" Bundle.steD A s s.heap) (hN : vx_Zq Bundle.tN "SUPPRESSED_SENTINEL" Bundle.listD A s s.heap) (hS : va_S A s.heap H locs) (hsize : ls.size = c.maxLocals)
    (d0 : decode cc pc = .ok (.new ik, 3)) (d3 : decode cc (pc + 3) = .ok (.dup, 1)) (d4 : decode cc (pc + 4) = .ok (.ldc is, 2)) (d6 : decode cc (pc + 6) = .ok (.invokespecial ic, 3)) (d9 : decode cc (pc + 9) = .ok (.athrow, 1))
    (hout : ∀ x ∈ c.exceptionTable.toList, covers x (pc + 9) = false)
    (hRframes : names.length + 3 < R.frames) (hRlocals : (rest.map fun v => v.category).sum + (13 * (names.length + 1) + 43) ≤ R.locals) (hRcells : cells + 1 ≤ R.cells) (hRslots : slots + 6 ≤ R.slots) (hlocks : meth.locks = false)
    (hx : ∀ t : State, s.vm.Alike t.vm → H.size ≤ t.heap.size → (∀ q : Nat, q < H.size → t.heap[q]? = H[q]?) → XC cls s t)
    (hf : ∀ z ∈ locs, free z.base) (hc : cells + 1 ≤ mc) (hs : slots + 6 ≤ ms) :
    W p l e R s m args below meth c H locs cells slots (vx_MQ below Qc XC args s mc ms free) (F0 m pc ls rest) := by
  intro T hT X
  have htr : e.platform.stackTraces = false := (show e.platform.stackTraces = l.stackTraces by rw [X.admits.platform]).trans hl
  have Y := vx_rebase X (R' := { frames := R.frames, locals := R.locals, cells := 1, slots := 6 }) (Nat.le_refl _) (Nat.le_refl _) hRcells hRslots
  obtain ⟨s', hA⟩ : ∃ z, z = (T.setVm s.vm).setFrames (.invoking m args :: below) := ⟨_, rfl⟩
  rw [← hA] at Y
  have hvm : s'.vm = s.vm := by rw [hA]; rfl
  have hhp : s'.heap = H := by rw [hA]; exact hT
  have hW0 : s.WarmedH s'.vm := by rw [hvm]; exact State.WarmedH.refl s
  have hat' : ∀ w ∈ vx_atS own ic cls names, w.before args s' = true := fun w hw => vx_ot_at hW0 hvm.symm (hgood w (List.mem_cons_of_mem _ (List.mem_cons_of_mem _ hw))) (hat w hw)
  have hk' : (Cond.classLink own ik cls).before args s' = true := vx_ot_at hW0 hvm.symm (hgood _ List.mem_cons_self) hk
  have hini' : (Cond.initialized cls).before args s' = true := vx_ot_at hW0 hvm.symm (hgood _ (List.mem_cons_of_mem _ List.mem_cons_self)) hini
  have hU' : vx_Zq Bundle.tN "UNASSIGNED_STACK" Bundle.steD A s' s'.heap := by rw [hhp]; exact vx_Zq.moved hW0.alike (hU.kept hS.2.1)
  have hN' : vx_Zq Bundle.tN "SUPPRESSED_SENTINEL" Bundle.listD A s' s'.heap := by rw [hhp]; exact vx_Zq.moved hW0.alike (hN.kept hS.2.1)
  have h : ∀ w ∈ Bundle.ownAtoms own ic cls names, w.before args s' = true := vx_own hat' (vx_isRefq hU'.1) (vx_isRefq hN'.1) hU'.2.word hN'.2.word
  have hown' : s'.vm.findClass own = some m.cls := by rw [hvm]; exact hown
  have hins : (Cond.instantiable cls 6).before args s' = true := h _ (by simp [Bundle.ownAtoms])
  obtain ⟨vm₁, cX, kX, hfX, hkX, -, -, X₁, st1⟩ := Y.newCold hexec (own := own) (C := cls) (index := ik) (n := 6) hown' hk' hins hini'
    (g := F0 m pc ls rest) rfl (by rw [hb]; exact d0) (Nat.le_refl _) (Nat.le_refl _)
  generalize hT1 : (T.setVm vm₁).pushCell { cls := cX, slots := kX.instanceTypes.map defaultValue, vm := .none } = T1 at X₁ st1
  have hcat : (Value.ref T.heap.size).category = 1 := rfl
  have hcellA : T1.heap[T.heap.size]? = some (freshCell cX kX) := by rw [← hT1]; exact State.heap_pushCell_size _ _
  have d3' : decode c.code (pc + 3) = .ok (.dup, 1) := by rw [hb]; exact d3
  have d4' : decode c.code (pc + 4) = .ok (.ldc is, 2) := by rw [hb]; exact d4
  have hstr' : vk_R own is text sa s' := vk_R.warm hW0 hstr
  obtain ⟨U, hsteps, hrun, hend, hW, hsame, ce, hce, hO⟩ := X₁.ctorThrowS hexec htr (own := own) (cls := cls) (names := names) (ic := ic) hown' hcls hnames h (fun x hx => nomatch hx) hfX hkX hcellA (by rw [hhp, hT]; exact Nat.le_refl _) (msg := .ref sa) rfl
    (g := { method := m, pc := pc + 6, locals := ls, stack := .ref sa :: .ref T.heap.size :: .ref T.heap.size :: rest, locked := none }) rfl hsize rfl rfl (rest := rest) rfl
    (by rw [hb]; exact d6) (by rw [hb]; exact d9) hout hRframes (by simp only [List.map_cons, List.sum_cons, hcat]; omega) hlocks
  obtain ⟨f1, f2⟩ := vx_frame hsame
  rw [hhp] at f1 f2
  have hWs : s.WarmedH U.vm := State.WarmedH.trans hW0 hW
  have hcl : s.vm.findClass cls = some ce.cls := by
    have h9 := hO.cls
    rw [hvm] at h9
    exact h9
  have hall : s.sameButNew ({ U with vm := s.vm } : State) locs mc ms := by
    subst hA
    obtain ⟨e1, e2⟩ := hsame
    rw [State.setFrames_setFrames] at e1
    have h2 : (T.setVm s.vm).sameButNew ({ U with vm := s.vm } : State) [] (0 + 1) (0 + 6) := ⟨e1, e2⟩
    have h3 := X.same.trans h2
    rw [List.append_nil] at h3
    exact h3.mono hc hs
  refine ⟨U, ?_, .threw T.heap.size, hrun, hend, Or.inr ⟨T.heap.size, rfl, cls, ce, locs, hx U hWs.alike f1 (fun q hq => f2 q hq (fun z hz => nomatch hz)), hce, hO.vm, hcl, hWs, hall, hf⟩⟩
  refine st1 _ ?_
  show Steps p.tables e below (T1.setTop { method := m, pc := pc + 3, locals := ls, stack := .ref T.heap.size :: rest, locked := none }) _
  jvm_step X₁.here [X₁.here.top, hexec, d3', Value.category]
  exact X₁.ldcString hexec (own := own) (text := text) (index := is) (a := sa) hown' hstr'.1 hstr'.2
    (g := { method := m, pc := pc + 4, locals := ls, stack := .ref T.heap.size :: .ref T.heap.size :: rest, locked := none }) rfl d4' _ hsteps
/-- 'throw new E("text")', the text by a wide index -/
theorem vx_throwSW {cc : ByteArray} {pc : Nat} (hexec : p.tables.exec = Jvm.exec) (hb : c.code = cc) (hl : l.stackTraces = false) {own cls text : String} {names : List String} {ik is ic mc ms sa : Nat} {A : Nat → Prop}
    (hown : s.vm.findClass own = some m.cls) (hcls : Bundle.fit cls = true) (hnames : ∀ n ∈ names, Bundle.fit n = true)
    (hk : (Cond.classLink own ik cls).before args s = true) (hini : (Cond.initialized cls).before args s = true) (hstr : vk_R own is text sa s) (hat : ∀ w ∈ vx_atS own ic cls names, w.before args s = true)
    (hgood : ∀ w ∈ Cond.classLink own ik cls :: Cond.initialized cls :: vx_atS own ic cls names, vx_ot w = true)
    (hU : vx_Zq Bundle.tN "UNASSIGNED_STACK" Bundle.steD A s s.heap) (hN : vx_Zq Bundle.tN "SUPPRESSED_SENTINEL" Bundle.listD A s s.heap) (hS : va_S A s.heap H locs) (hsize : ls.size = c.maxLocals)
    (d0 : decode cc pc = .ok (.new ik, 3)) (d3 : decode cc (pc + 3) = .ok (.dup, 1)) (d4 : decode cc (pc + 4) = .ok (.ldc_w is, 3)) (d7 : decode cc (pc + 7) = .ok (.invokespecial ic, 3)) (d10 : decode cc (pc + 10) = .ok (.athrow, 1))
    (hout : ∀ x ∈ c.exceptionTable.toList, covers x (pc + 10) = false)
    (hRframes : names.length + 3 < R.frames) (hRlocals : (rest.map fun v => v.category).sum + (13 * (names.length + 1) + 43) ≤ R.locals) (hRcells : cells + 1 ≤ R.cells) (hRslots : slots + 6 ≤ R.slots) (hlocks : meth.locks = false)
    (hx : ∀ t : State, s.vm.Alike t.vm → H.size ≤ t.heap.size → (∀ q : Nat, q < H.size → t.heap[q]? = H[q]?) → XC cls s t)
    (hf : ∀ z ∈ locs, free z.base) (hc : cells + 1 ≤ mc) (hs : slots + 6 ≤ ms) :
    W p l e R s m args below meth c H locs cells slots (vx_MQ below Qc XC args s mc ms free) (F0 m pc ls rest) := by
  intro T hT X
  have htr : e.platform.stackTraces = false := (show e.platform.stackTraces = l.stackTraces by rw [X.admits.platform]).trans hl
  have Y := vx_rebase X (R' := { frames := R.frames, locals := R.locals, cells := 1, slots := 6 }) (Nat.le_refl _) (Nat.le_refl _) hRcells hRslots
  obtain ⟨s', hA⟩ : ∃ z, z = (T.setVm s.vm).setFrames (.invoking m args :: below) := ⟨_, rfl⟩
  rw [← hA] at Y
  have hvm : s'.vm = s.vm := by rw [hA]; rfl
  have hhp : s'.heap = H := by rw [hA]; exact hT
  have hW0 : s.WarmedH s'.vm := by rw [hvm]; exact State.WarmedH.refl s
  have hat' : ∀ w ∈ vx_atS own ic cls names, w.before args s' = true := fun w hw => vx_ot_at hW0 hvm.symm (hgood w (List.mem_cons_of_mem _ (List.mem_cons_of_mem _ hw))) (hat w hw)
  have hk' : (Cond.classLink own ik cls).before args s' = true := vx_ot_at hW0 hvm.symm (hgood _ List.mem_cons_self) hk
  have hini' : (Cond.initialized cls).before args s' = true := vx_ot_at hW0 hvm.symm (hgood _ (List.mem_cons_of_mem _ List.mem_cons_self)) hini
  have hU' : vx_Zq Bundle.tN "UNASSIGNED_STACK" Bundle.steD A s' s'.heap := by rw [hhp]; exact vx_Zq.moved hW0.alike (hU.kept hS.2.1)
  have hN' : vx_Zq Bundle.tN "SUPPRESSED_SENTINEL" Bundle.listD A s' s'.heap := by rw [hhp]; exact vx_Zq.moved hW0.alike (hN.kept hS.2.1)
  have h : ∀ w ∈ Bundle.ownAtoms own ic cls names, w.before args s' = true := vx_own hat' (vx_isRefq hU'.1) (vx_isRefq hN'.1) hU'.2.word hN'.2.word
  have hown' : s'.vm.findClass own = some m.cls := by rw [hvm]; exact hown
  have hins : (Cond.instantiable cls 6).before args s' = true := h _ (by simp [Bundle.ownAtoms])
  obtain ⟨vm₁, cX, kX, hfX, hkX, -, -, X₁, st1⟩ := Y.newCold hexec (own := own) (C := cls) (index := ik) (n := 6) hown' hk' hins hini'
    (g := F0 m pc ls rest) rfl (by rw [hb]; exact d0) (Nat.le_refl _) (Nat.le_refl _)
  generalize hT1 : (T.setVm vm₁).pushCell { cls := cX, slots := kX.instanceTypes.map defaultValue, vm := .none } = T1 at X₁ st1
  have hcat : (Value.ref T.heap.size).category = 1 := rfl
  have hcellA : T1.heap[T.heap.size]? = some (freshCell cX kX) := by rw [← hT1]; exact State.heap_pushCell_size _ _
  have d3' : decode c.code (pc + 3) = .ok (.dup, 1) := by rw [hb]; exact d3
  have d4' : decode c.code (pc + 4) = .ok (.ldc_w is, 3) := by rw [hb]; exact d4
  have hstr' : vk_R own is text sa s' := vk_R.warm hW0 hstr
  obtain ⟨U, hsteps, hrun, hend, hW, hsame, ce, hce, hO⟩ := X₁.ctorThrowS hexec htr (own := own) (cls := cls) (names := names) (ic := ic) hown' hcls hnames h (fun x hx => nomatch hx) hfX hkX hcellA (by rw [hhp, hT]; exact Nat.le_refl _) (msg := .ref sa) rfl
    (g := { method := m, pc := pc + 7, locals := ls, stack := .ref sa :: .ref T.heap.size :: .ref T.heap.size :: rest, locked := none }) rfl hsize rfl rfl (rest := rest) rfl
    (by rw [hb]; exact d7) (by rw [hb]; exact d10) hout hRframes (by simp only [List.map_cons, List.sum_cons, hcat]; omega) hlocks
  obtain ⟨f1, f2⟩ := vx_frame hsame
  rw [hhp] at f1 f2
  have hWs : s.WarmedH U.vm := State.WarmedH.trans hW0 hW
  have hcl : s.vm.findClass cls = some ce.cls := by
    have h9 := hO.cls
    rw [hvm] at h9
    exact h9
  have hall : s.sameButNew ({ U with vm := s.vm } : State) locs mc ms := by
    subst hA
    obtain ⟨e1, e2⟩ := hsame
    rw [State.setFrames_setFrames] at e1
    have h2 : (T.setVm s.vm).sameButNew ({ U with vm := s.vm } : State) [] (0 + 1) (0 + 6) := ⟨e1, e2⟩
    have h3 := X.same.trans h2
    rw [List.append_nil] at h3
    exact h3.mono hc hs
  refine ⟨U, ?_, .threw T.heap.size, hrun, hend, Or.inr ⟨T.heap.size, rfl, cls, ce, locs, hx U hWs.alike f1 (fun q hq => f2 q hq (fun z hz => nomatch hz)), hce, hO.vm, hcl, hWs, hall, hf⟩⟩
  refine st1 _ ?_
  show Steps p.tables e below (T1.setTop { method := m, pc := pc + 3, locals := ls, stack := .ref T.heap.size :: rest, locked := none }) _
  jvm_step X₁.here [X₁.here.top, hexec, d3', Value.category]
  exact X₁.ldcStringW hexec (own := own) (text := text) (index := is) (a := sa) hown' hstr'.1 hstr'.2
    (g := { method := m, pc := pc + 4, locals := ls, stack := .ref T.heap.size :: .ref T.heap.size :: rest, locked := none }) rfl d4' _ hsteps
end Ends
section Bodies
variable {l : Launch}
theorem vx_ofW {y : MethodName} {ws ws' : List Cond} {rm : Room} {Pc : Array Value → State → Prop} {Qc : Array Value → State → Outcome → State → Prop} {XC : String → State → State → Prop} {mc ms : Nat} {free : Addr → Prop} {cc : ByteArray} {maxL : Nat} {ret : Option FieldType}
    (hy : plainName y.cls = true) (hw : ws = Cond.code y cc maxL ret :: ws')
    (body : ∀ p e s m args below meth c s₁, BodyLoose p l y (headSpec ws rm) cc maxL ret e s m args below meth c s₁ → c.maxLocals = maxL → (∀ x ∈ c.exceptionTable.toList, False) → Pc args s →
      W p l e (headSpec ws rm).room s m args below meth c s.heap [] 0 0 (vx_MQ below Qc XC args s mc ms free) (entryFrame m args maxL)) : vx_Met l y ws rm Pc Qc XC mc ms free := by
  refine MetFree.of_bodyS (code := cc) (maxLocals := maxL) (ret := ret) hy ?_ ?_
  · intro args s m h hn
    obtain ⟨meth, c, h1, h2, h3, h4, h5, h6, -, -⟩ := Cond.code_spec hn (atoms_spec (ws := ws) h _ (by rw [hw]; exact List.mem_cons_self))
    exact ⟨meth, c, h1, h2, h3, h4, h5, h6⟩
  · intro p e s m args below meth c s₁ B hml hP _
    have hh0 : s₁.heap = s.heap := by rw [B.state]; rfl
    have ht : ∀ x ∈ c.exceptionTable.toList, False := by
      obtain ⟨meth9, c9, h1, h2, -, -, -, -, h7, -⟩ := Cond.code_spec B.named (atoms_spec (ws := ws) B.pre _ (by rw [hw]; exact List.mem_cons_self))
      cases Option.some.inj (h1.symm.trans B.method)
      cases Option.some.inj (h2.symm.trans (Stand.of_body B).code)
      intro x hx
      rw [Array.isEmpty_iff.mp h7] at hx
      cases hx
    obtain ⟨t, a1, o, b1, b2, b3⟩ := body p e s m args below meth c s₁ B hml ht hP s₁ hh0 (Stand.of_body B)
    exact ⟨t, o, a1, b1, b2, b3⟩
/-- the table of a body with handlers -/
theorem vx_table {p : Program} {x y : MethodName} {S : Spec} {cc bytes : ByteArray} {maxL maxL' : Nat} {ret ret' : Option FieldType} {e : Env} {s s₁ : State} {m : MethodId} {args : Array Value} {below : List Frame} {meth : Method} {c : Code} {hh : List (Nat × Nat × Nat × Nat)}
    (B : BodyLoose p l y S cc maxL ret e s m args below meth c s₁) (h : (Cond.codeWith y bytes maxL' ret' hh).before args s = true) : c.exceptionTable.toList = tableOf hh := by
  obtain ⟨m9, meth9, c9, hn9, h1, h2, -, -, h6, -⟩ := Cond.codeWith_spec h
  cases Option.some.inj (hn9.symm.trans B.named)
  cases Option.some.inj (h1.symm.trans B.method)
  cases Option.some.inj (h2.symm.trans (Stand.of_body B).code)
  rw [← h6, table_eq]
end Bodies
end VXA
/-! ===== END ===== -/
/-! ===== BEGIN a static call of a method with an exception table ===== -/
section VXS
variable {p : Program} {l : Launch} {e : Env} {R : Room} {s : State} {m : MethodId} {args : Array Value} {below : List Frame} {meth : Method} {c : Code} {T : State} {H : Heap} {locs : List Loc} {cells slots : Nat}
abbrev vx_CSW (R : Room) (s : State) (args : Array Value) (own : String) (index : Nat) (y : MethodName) (bytes : ByteArray) (maxL : Nat) (ret : Option FieldType) (hh : List (Nat × Nat × Nat × Nat)) (ws : List Cond) (rm : Room) (mc ms n : Nat) : Prop :=
  (rm.cells = mc ∧ rm.slots = ms ∧ rm.frames + 1 ≤ R.frames ∧ 8 + (maxL + 11) + rm.locals ≤ R.locals ∧ (∀ w ∈ ws, ∀ (a' : Array Value) (U : State), s.WarmedH U.vm → w.before a' U = true) ∧ Cond.codeWith y bytes maxL ret hh ∈ ws) ∧
  (Cond.codeWith y bytes maxL ret hh).before args s = true ∧ (Cond.initialized y.cls).before args s = true ∧ (y.cls ≠ "java/lang/invoke/MethodHandle" ∧ y.cls ≠ "java/lang/invoke/VarHandle") ∧
  (∀ sig, parseMethodDescriptor y.desc = some sig → n = sig.parameters.length) ∧ (Cond.methodLink own index y).before args s = true ∧ (Cond.static y).before args s = true
theorem vx_cwSW {own : String} {index maxL mc ms : Nat} {y : MethodName} {bytes : ByteArray} {ret : Option FieldType} {hh : List (Nat × Nat × Nat × Nat)} {Ts ws ws' : List Cond} {rm : Room} (n : Nat) (ht : ∀ w ∈ Ts, w.before args s = true) (hT : GoodIn Ts (va_wsS own index y ws)) (hw : ws = Cond.codeWith y bytes maxL ret hh :: ws') (hrc : rm.cells = mc) (hrs : rm.slots = ms)
    (hd : y.cls ≠ "java/lang/invoke/MethodHandle" ∧ y.cls ≠ "java/lang/invoke/VarHandle" ∧ (parseMethodDescriptor y.desc).map (fun d => d.parameters.length) = some n) (hR : rm.frames + 1 ≤ R.frames ∧ 8 + (maxL + 11) + rm.locals ≤ R.locals) :
    vx_CSW R s args own index y bytes maxL ret hh ws rm mc ms n := by
  have ok : ∀ w ∈ va_wsS own index y ws, w.before args s = true := fun w h => ht w (hT w h).1
  have hG : GoodIn Ts ws := fun w h => hT w (by unfold va_wsS; exact List.mem_append_right _ h)
  have hc : Cond.codeWith y bytes maxL ret hh ∈ ws := by rw [hw]; exact List.mem_cons_self
  refine ⟨⟨hrc, hrs, hR.1, hR.2, pay_in ht hG, hc⟩, ht _ (hG _ hc).1, ok _ (by simp [va_wsS]), ⟨hd.1, hd.2.1⟩, fun sig h => ?_, ok _ (by simp [va_wsS]), ok _ (by simp [va_wsS])⟩
  have h2 := hd.2.2
  rw [h] at h2
  exact (Option.some.inj h2).symm
theorem vx_callSW (X : Stand p l e R s m args below meth c T locs cells slots) (hexec : p.tables.exec = Jvm.exec) {own : String} {index : Nat} {y : MethodName} {bytes : ByteArray} {maxL : Nat} {ret : Option FieldType} {hh : List (Nat × Nat × Nat × Nat)}
    (hown : s.vm.findClass own = some m.cls) (hlink : (Cond.methodLink own index y).before args s = true) (hstat : (Cond.static y).before args s = true) (hinit : (Cond.initialized y.cls).before args s = true)
    (hcode : (Cond.codeWith y bytes maxL ret hh).before args s = true) (hy : y.cls ≠ "java/lang/invoke/MethodHandle" ∧ y.cls ≠ "java/lang/invoke/VarHandle")
    {W9 : Nat} {Pre : Pt → Array Value → Prop} {Post : Pt → Array Value → Option Value → Pt → Prop} (hK : Back l R p e below s args y 3 W9 Pre Post)
    {g : JFrame} (hg : g.method = m) (hsize : g.locals.size = c.maxLocals) {argsL rest : List Value} (hlen : ∀ sig, parseMethodDescriptor y.desc = some sig → argsL.length = sig.parameters.length)
    (hstack : g.stack = argsL.reverse ++ rest) (hW : 2 * g.monitorRoom + (rest.map fun v => v.category).sum ≤ W9) (hdg : decode c.code g.pc = .ok (.invokestatic index, 3))
    (hpre : ∀ vm₁, s.WarmedH vm₁ → Pre ⟨T.setVm vm₁, locs, cells, slots⟩ argsL.toArray) :
    ∃ (v : Option Value) (vm₁ : Vm) (B : Pt), s.WarmedH vm₁ ∧ Stand p l e R s m args below meth c B.U B.locs B.cells B.slots ∧ Post ⟨T.setVm vm₁, locs, cells, slots⟩ argsL.toArray v B ∧
      ∀ target, Steps p.tables e below (B.U.setTop { g with pc := g.pc + 3, stack := v.toList ++ rest }) target → Steps p.tables e below (T.setTop g) target := by
  obtain ⟨mk, methM, cM, hnamed, hmethM, -, -, -, -, -, -, hsigM⟩ := Cond.codeWith_spec hcode
  have hstatic : methM.isStatic = true := Cond.static_spec hnamed hmethM hstat
  obtain ⟨kP, hkP, -⟩ := className_of_methodNamed hnamed
  have hinitP : kP.init = .initialized := Cond.initialized_spec (findClass_of_methodNamed hnamed) hkP hinit
  obtain ⟨vm₁, X₁, hstep₁⟩ := X.invokestatic hexec hown hlink hnamed hmethM hstatic hkP hinitP hy (g := g) hg (argsL := argsL) (rest := rest) (hlen _ hsigM) hstack hdg
  obtain ⟨v, B, X', hpost, hsteps⟩ := hK m meth c ⟨T.setVm vm₁, locs, cells, slots⟩ { g with stack := rest } (.invokestatic index) mk argsL.toArray X₁ hg hsize hdg hW (X₁.named hnamed) (hpre vm₁ X₁.warmed)
  exact ⟨v, vm₁, B, X₁.warmed, X', hpost, fun target h => hstep₁ _ fun acts => by rw [doInvoke_state]; exact hsteps.trans h⟩
theorem vx_runSW {y : MethodName} {bytes cc : ByteArray} {maxL nL mc ms n index : Nat} {ret : Option FieldType} {hh : List (Nat × Nat × Nat × Nat)} {ws : List Cond} {rm : Room} {Pc : Array Value → State → Prop} {Qc : Array Value → State → Outcome → State → Prop} {free : Addr → Prop} {Ts : List Cond} {own : String} {As rest : List Value} {g : JFrame}
    (S : CallFix p m c cc nL s args Ts own) (hM : Met l y ws rm Pc Qc mc ms free) (cw : vx_CSW R s args own index y bytes maxL ret hh ws rm mc ms n) (hp : PreS s H Pc As)
    (hg : g.method = m) (hn : As.length = n) (hsize : g.locals.size = nL) (hstack : g.stack = As.reverse ++ rest) (hW : 2 * g.monitorRoom + (rest.map fun v => v.category).sum ≤ 8) (hdg : decode cc g.pc = .ok (.invokestatic index, 3)) (hf : cells + mc ≤ R.cells ∧ slots + ms ≤ R.slots) :
    va_Run p l e R s m args below meth c H locs cells slots mc ms g rest (Qc As.toArray) (free) := by
  obtain ⟨⟨hrc, hrs, hfr, hlo, hws, hcw⟩, hcode, hini, hy, hlen, hl, hstt⟩ := cw
  have hK : Back l R p e below s args y 3 8 (PreOf R mc ms Pc) (PostOf Qc mc ms free) := va_backW (hh := hh) (bytes := bytes) (maxL := maxL) (ret := ret) hM hp.1 hrc hrs hfr hlo hws hcw (fun a' U hW => word_at hW (Or.inl (by first | rfl | simp [Cond.onTables, Cond.keeps, Cond.steady])) hini)
  obtain ⟨hx, hb, hml, ho, -⟩ := S
  intro T hT X
  obtain ⟨v, vm₁, ⟨U', l2, c2, s2⟩, hW₁, X', ⟨g', mk, t, L, e1, e2, hq, h1, hL, h2, h3⟩, st⟩ := vx_callSW X hx (hh := hh) (bytes := bytes) (maxL := maxL) (ret := ret) ho hl hstt hini hcode hy hK hg (hsize.trans hml.symm) (argsL := As) (rest := rest) (fun sig h => hn.trans (hlen sig h)) hstack hW (by rw [hb]; exact hdg)
    (fun vm₁ hW₁ => ⟨hf.1, hf.2, hp.2 (T.setVm vm₁) hT hW₁⟩)
  dsimp only [Pt.U, Pt.locs, Pt.cells, Pt.slots] at X' e1 e2 h1 h2 h3 st
  subst h1; subst h2; subst h3
  exact ⟨v, (T.setVm vm₁).calling g' mk As.toArray, t, U', L, hT, X', hL, e1, e2, hq, st⟩
/-- not caught here, past rows that name other classes: it goes on to the caller -/
theorem vx_outP {p : Program} {l : Launch} {e : Env} {R : Room} {s : State} {m : MethodId} {args : Array Value} {below : List Frame} {meth : Method} {c : Code} {H : Heap} {locs : List Loc} {cells slots : Nat} {free : Addr → Prop} {ls : Array Slot} {rest : List Value} {Qc : Array Value → State → Outcome → State → Prop} {XC : String → State → State → Prop}
    {pc : Nat} {own E : String} {ce : Cell} {q : Addr} {mc ms : Nat} (hown : s.vm.findClass own = some m.cls) (hlocks : meth.locks = false)
    (hpass : ∀ z ∈ c.exceptionTable.toList, covers z pc = false ∨ (z.catchType ≠ 0 ∧ ∃ nm : String, (Cond.classLink own z.catchType nm).before args s = true ∧ va_Nc E nm s)) (hcell : H[q]? = some ce) (hv : ce.vm = .none) (hcl : s.vm.findClass E = some ce.cls)
    (hx : ∀ t : State, t.heap = H → s.vm.Alike t.vm → XC E s t) (hf : ∀ z ∈ locs, free z.base) (hc : cells ≤ mc) (hs : slots ≤ ms) :
    vx_W p l e R s m args below meth c H locs cells slots (vx_MQ below Qc XC args s mc ms free) (F0 m pc ls rest) q := by
  intro T hT X
  have hpl : e.platform.magicAccessors = ({} : Platform).magicAccessors := by rw [X.admits.platform]
  obtain ⟨vm', hW', X', st⟩ := Stand.outThrough X hlocks q (g := F0 m pc ls rest) rfl rfl rfl (cell := ce) (by rw [hT]; exact hcell) (by rw [hv]; rfl)
    (by obtain ⟨k9, h9, -⟩ := Vm.findClass_spec hcl; exact ⟨k9, h9⟩) (fun z hz => by
      rcases hpass z hz with h | ⟨hz0, nm, hl1, hn1⟩
      · exact Or.inl h
      · obtain ⟨c6, hc6, hcl6⟩ := Cond.classLink_spec hown hl1 e.platform hpl
        obtain ⟨a8, b8, h1, h2, h3⟩ := hn1
        cases Option.some.inj (h1.symm.trans hcl)
        cases Option.some.inj (h2.symm.trans hc6)
        exact Or.inr ⟨hz0, _, hcl6, h3⟩)
  obtain ⟨g₀, hfr⟩ := X'.frames_eq
  have hcell9 : ((T.setVm vm').setFrames (.throwing q :: below)).heap[q]? = some ce := by
    show T.heap[q]? = some ce
    rw [hT]; exact hcell
  have hend : Ended ((T.setVm vm').setFrames (.throwing q :: below)) below (.threw q) := State.frames_setFrames _ (State.cur_lt_of_frames hfr)
  refine ⟨(T.setVm vm').setFrames (.throwing q :: below), ?_, .threw q, X'.here.running, hend, Or.inr ⟨q, rfl, E, ce, locs, hx _ hT (X'.ends _).1.alike, hcell9, hv, hcl, (X'.ends _).1, (X'.ends _).2.mono hc hs, hf⟩⟩
  rw [X.pushThrowing_eq]
  exact st
/-- a thing of a world lies in the heap -/
theorem vx_lt {D : va_G} {cl : List vw_C} {ws : va_W} {H1 : Heap} (h : va_P D cl ws H1) {k : Nat} {q : Nat × va_E} (hk : ws[k]? = some q) : q.1 < H1.size := (h k q hk).lt
end VXS
/-! ===== END ===== -/
/-! ===== BEGIN methods with a table of their own: called by a name, returning or throwing ===== -/
section VXH
/-! vx_backW, vx_callVX, vx_callSX, vx_callVW, vx_runVW, vx_runVX, vx_runSX, vx_ofWH follow the same proofs as their sisters above (Free/Laws.lean, Shelf42/LK1.lean); vx_outP calls Shelf42/NT130.lean (outThrough). -/
section
variable {l : Launch} {R : Room} {p : Program} {e : Env} {below : List Frame} {s : State} {sargs : Array Value} {y : MethodName} {len W9 : Nat}
theorem vx_backW {ws : List Cond} {rm : Room} {Pc : Array Value → State → Prop} {Qc : Array Value → State → Outcome → State → Prop} {XC : String → State → State → Prop} {mc ms : Nat} {free : Addr → Prop} {bytes : ByteArray} {maxL : Nat} {ret : Option FieldType} {hh : List (Nat × Nat × Nat × Nat)}
    (hM : vx_Met l y ws rm Pc Qc XC mc ms free) (hblind : FrameBlind Pc) (hrc : rm.cells = mc) (hrs : rm.slots = ms)
    (hframes : rm.frames + 1 ≤ R.frames) (hlocals : W9 + (maxL + 11) + rm.locals ≤ R.locals)
    (hws : ∀ w ∈ ws, ∀ a' U, s.WarmedH U.vm → w.before a' U = true) (hcode : Cond.codeWith y bytes maxL ret hh ∈ ws) (hinit : ∀ a' U, s.WarmedH U.vm → (Cond.initialized y.cls).before a' U = true) :
    vx_Back l R p e below s sargs y len W9 (PreOf R mc ms Pc) (PostOf Qc mc ms free) (vx_Post XC mc ms free) := by
  intro m meth c A g ig mk a X hg hsize hdg hW hn hp
  have h1 : (headSpec ws rm).pre.before a A.U = true := atoms_intro fun w hw => hws w hw _ _ X.warmed
  have h2 : (Cond.codeWith y bytes maxL ret hh).before a A.U = true := hws _ hcode _ _ X.warmed
  have h3 : (Cond.initialized y.cls).before a A.U = true := hinit _ _ X.warmed
  have h4 : A.cells + (headSpec ws rm).room.cells ≤ R.cells := by rw [show (headSpec ws rm).room.cells = mc from hrc]; exact hp.1
  have h5 : A.slots + (headSpec ws rm).room.slots ≤ R.slots := by rw [show (headSpec ws rm).room.slots = ms from hrs]; exact hp.2.1
  have hPc : Pc a (A.U.calling g mk a) := hblind _ _ _ _ hp.2.2
  obtain ⟨U, Ls, c0, s0⟩ := A
  dsimp only [Pt.U, Pt.locs, Pt.cells, Pt.slots] at h1 h2 h3 h4 h5 X hn hPc ⊢
  obtain ⟨m9, methY, cY, hn9, hmY, hcY, -, hlY, -⟩ := Cond.codeWith_spec h2
  cases Option.some.inj (hn9.symm.trans hn)
  obtain ⟨kY, hkY, -⟩ := className_of_methodNamed hn
  have hinitY : kY.init = .initialized := Cond.initialized_spec (findClass_of_methodNamed hn) hkY h3
  have h : At U g.method c below := by rw [hg]; exact X.here
  have hlocals9 : W9 + (maxL + 11) + (headSpec ws rm).room.locals ≤ R.locals := hlocals
  have happ : (headSpec ws rm).appliesLoose y e.platform (U.calling g mk a) = true :=
    Spec.appliesLoose_calling (g := g) h hdg hn hkY hinitY
      (X.room_calling (g := g) (R' := (headSpec ws rm).room) hsize hmY hcY hframes (by rw [hlY]; omega) h4 h5) h1
  obtain ⟨mid, hmid⟩ := h.above
  have hfr : (U.setTop g).frames = (.java g :: mid) ++ below := by rw [State.frames_setTop' g h.top, hmid]; rfl
  obtain ⟨o, s₂, hsteps, -, hend, hq⟩ := Steps.callFree hM p X.admits X.cas X.clock (acts := []) hfr happ hPc trivial
  have hq' : vx_Q Qc XC mc ms free a (U.calling g mk a) o s₂ := hq
  rw [State.frames_setTop' g h.top] at hend
  obtain ⟨g₀, hg0⟩ := Option.isSome_iff_exists.mp h.top
  obtain ⟨r, hr⟩ := State.topJava?_eq_some.mp hg0
  have hr' : (({ U with heap := s₂.heap, slotsUsed := s₂.slotsUsed } : State).setVm s₂.vm).frames = .java g₀ :: r := hr
  rcases hq' with ⟨hqc, L, hfe, hL⟩ | ⟨q, rfl, E, ce, L, hx, hce, hcv, hcl, hW₂, hsm, hL⟩
  · obtain ⟨⟨v, rfl⟩, hW₂, e2, q2, q3, q4, q5, q6⟩ := id hfe
    have e3 : s₂ = ({ (U.calling g mk a).setFrames s₂.frames with heap := s₂.heap, slotsUsed := s₂.slotsUsed } : State).setVm s₂.vm := by
      have : s₂ = ({ s₂ with vm := (U.calling g mk a).vm } : State).setVm s₂.vm := rfl
      rw [e2] at this
      exact this
    obtain ⟨c₂, i₂, len₂, hc₂, hd₂, hf₂⟩ := hend
    have hW' : U.WarmedH s₂.vm := hW₂
    have hcc : c₂ = c := by
      have h1 : s₂.code? g.method = U.code? g.method := by
        rw [State.code?_eq, State.code?_eq, hW'.alike.method?]
      exact Option.some.inj (hc₂.symm.trans (h1.trans h.code))
    subst hcc
    have hlen : len₂ = len := by rw [hdg] at hd₂; cases hd₂; rfl
    subst hlen
    have hs₂ : s₂ = (({ U with heap := s₂.heap, slotsUsed := s₂.slotsUsed } : State).setVm s₂.vm).setTop { g with pc := g.pc + len₂, stack := v.toList ++ g.stack } := by
      refine e3.trans ?_
      rw [hf₂, State.calling_eq h.top, State.setFrames_setFrames, State.setTop_of_frames _ hr', hr]
      rfl
    have hsame : U.sameButNew ({ U with heap := s₂.heap, slotsUsed := s₂.slotsUsed } : State) L mc ms := by
      refine ⟨?_, q2, q3, q4, q5, q6⟩
      obtain ⟨t, ht, -⟩ := State.frames_cons hr
      show ({ U with heap := s₂.heap, slotsUsed := s₂.slotsUsed } : State) = { U.setFrames U.frames with heap := s₂.heap, slotsUsed := s₂.slotsUsed }
      rw [State.setFrames_self ht]
    subst hg
    refine Or.inl ⟨v, ⟨(({ U with heap := s₂.heap, slotsUsed := s₂.slotsUsed } : State).setVm s₂.vm), Ls ++ L, c0 + mc, s0 + ms⟩,
      ⟨X.admits, X.cas, X.clock, X.frames, X.room, X.hears, X.method, X.code, (X.here.setHeapUsed s₂.heap s₂.slotsUsed).setVm hW'.alike, X.tail, State.WarmedH.trans X.warmed hW', X.limits, X.bytes, X.same.trans (hsame.setVm s.vm)⟩,
      ⟨g, mk, s₂, L, rfl, rfl, hqc, rfl, hL, rfl, rfl⟩, ?_⟩
    show Steps p.tables e below _ ((({ U with heap := s₂.heap, slotsUsed := s₂.slotsUsed } : State).setVm s₂.vm).setTop { g with pc := g.pc + len₂, stack := v.toList ++ g.stack })
    rw [← hs₂]
    exact hsteps
  · obtain ⟨e2, q2, q3, q4, q5, q6⟩ := id hsm
    have e3 : s₂ = ({ (U.calling g mk a).setFrames s₂.frames with heap := s₂.heap, slotsUsed := s₂.slotsUsed } : State).setVm s₂.vm := by
      have : s₂ = ({ s₂ with vm := (U.calling g mk a).vm } : State).setVm s₂.vm := rfl
      rw [e2] at this
      exact this
    have hf₂ : s₂.frames = .throwing q :: .java g :: U.frames.tail := hend
    have hW' : U.WarmedH s₂.vm := hW₂
    have hs₂ : s₂ = ((({ U with heap := s₂.heap, slotsUsed := s₂.slotsUsed } : State).setVm s₂.vm).setTop g).pushFrame (.throwing q) := by
      refine e3.trans ?_
      rw [hf₂, State.calling_eq h.top, State.setFrames_setFrames, State.pushFrame, State.frames_setTop _ hr', State.setTop_of_frames _ hr', State.setFrames_setFrames, hr]
      rfl
    have hsame : U.sameButNew ({ U with heap := s₂.heap, slotsUsed := s₂.slotsUsed } : State) L mc ms := by
      refine ⟨?_, q2, q3, q4, q5, q6⟩
      obtain ⟨t, ht, -⟩ := State.frames_cons hr
      show ({ U with heap := s₂.heap, slotsUsed := s₂.slotsUsed } : State) = { U.setFrames U.frames with heap := s₂.heap, slotsUsed := s₂.slotsUsed }
      rw [State.setFrames_self ht]
    subst hg
    refine Or.inr ⟨q, ⟨(({ U with heap := s₂.heap, slotsUsed := s₂.slotsUsed } : State).setVm s₂.vm), Ls ++ L, c0 + mc, s0 + ms⟩,
      ⟨X.admits, X.cas, X.clock, X.frames, X.room, X.hears, X.method, X.code, (X.here.setHeapUsed s₂.heap s₂.slotsUsed).setVm hW'.alike, X.tail, State.WarmedH.trans X.warmed hW', X.limits, X.bytes, X.same.trans (hsame.setVm s.vm)⟩,
      ⟨g, mk, s₂, L, E, ce, rfl, rfl, hx, hce, hcv, hcl, rfl, hL, rfl, rfl⟩, ?_⟩
    show Steps p.tables e below _ (((({ U with heap := s₂.heap, slotsUsed := s₂.slotsUsed } : State).setVm s₂.vm).setTop g).pushFrame (.throwing q))
    rw [← hs₂]
    exact hsteps
end
variable {p : Program} {l : Launch} {e : Env} {R : Room} {s : State} {m : MethodId} {args : Array Value} {below : List Frame} {meth : Method} {c : Code} {T : State} {H : Heap} {locs : List Loc} {cells slots : Nat}
theorem vx_callVX (X : Stand p l e R s m args below meth c T locs cells slots) (hexec : p.tables.exec = Jvm.exec) {own C : String} {index : Nat} {y : MethodName} {bytes : ByteArray} {maxL : Nat} {ret : Option FieldType} {hh : List (Nat × Nat × Nat × Nat)}
    (hown : s.vm.findClass own = some m.cls) (hlink : (Cond.methodLink own index y).before args s = true) (hinst : (Cond.instanceMethod y).before args s = true) (hsel : (Cond.selects C y y).before args s = true)
    (hcode : (Cond.codeWith y bytes maxL ret hh).before args s = true) (hy : y.cls ≠ "java/lang/invoke/MethodHandle" ∧ y.cls ≠ "java/lang/invoke/VarHandle")
    {W9 : Nat} {Pre : Pt → Array Value → Prop} {Post : Pt → Array Value → Option Value → Pt → Prop} {PostX : Pt → Array Value → Addr → Pt → Prop} (hK : vx_Back l R p e below s args y 3 W9 Pre Post PostX)
    {b : Addr} {cellB : Cell} (hcell : T.heap[b]? = some cellB) (hobj : cellB.vm.isStatics = false) (hcls : s.vm.findClass C = some cellB.cls)
    {g : JFrame} (hg : g.method = m) (hsize : g.locals.size = c.maxLocals) {argsL rest : List Value} (hlen : ∀ sig, parseMethodDescriptor y.desc = some sig → argsL.length = sig.parameters.length)
    (hstack : g.stack = argsL.reverse ++ .ref b :: rest) (hW : 2 * g.monitorRoom + (rest.map fun v => v.category).sum ≤ W9) (hdg : decode c.code g.pc = .ok (.invokevirtual index, 3))
    (hpre : ∀ vm₁, s.WarmedH vm₁ → Pre ⟨T.setVm vm₁, locs, cells, slots⟩ (Value.ref b :: argsL).toArray) :
    (∃ (v : Option Value) (vm₁ : Vm) (B : Pt), s.WarmedH vm₁ ∧ Stand p l e R s m args below meth c B.U B.locs B.cells B.slots ∧ Post ⟨T.setVm vm₁, locs, cells, slots⟩ (Value.ref b :: argsL).toArray v B ∧
      ∀ target, Steps p.tables e below (B.U.setTop { g with pc := g.pc + 3, stack := v.toList ++ rest }) target → Steps p.tables e below (T.setTop g) target) ∨
    (∃ (q : Addr) (vm₁ : Vm) (B : Pt), s.WarmedH vm₁ ∧ Stand p l e R s m args below meth c B.U B.locs B.cells B.slots ∧ PostX ⟨T.setVm vm₁, locs, cells, slots⟩ (Value.ref b :: argsL).toArray q B ∧
      Steps p.tables e below (T.setTop g) ((B.U.setTop { g with stack := rest }).pushFrame (.throwing q))) := by
  obtain ⟨mk, methM, hnamed, hmethM, hstM, habM⟩ := Cond.instanceMethod_spec hinst
  obtain ⟨m8, methM', cM, hn8, hmethM', -, -, -, -, -, -, hsigM⟩ := Cond.codeWith_spec hcode
  cases Option.some.inj (hn8.symm.trans hnamed)
  cases hmethM.symm.trans hmethM'
  obtain ⟨c2, r2, m2, q1, q2, q3, q4, kP, hkP, hkPi⟩ := Cond.selects_spec hsel
  cases hcls.symm.trans q1
  cases (State.methodFound?_of_named hnamed hy).symm.trans q2
  cases hnamed.symm.trans q3
  have hselP : selectMethod e.platform s.vm cellB.cls mk = .method mk := by rw [Launch.admits_selectMethod X.admits]; exact q4
  obtain ⟨vm₁, X₁, hstep₁⟩ := X.invokevirtual hexec hown hlink hnamed hmethM hstM hkP hkPi hy (a := b) (cell := cellB) hcell
    (fun z h => by rw [h] at hobj; cases hobj) hselP hmethM habM hkP hkPi (g := g) hg (argsL := argsL) (rest := rest) (hlen _ hsigM) hstack hdg
  rcases hK m meth c ⟨T.setVm vm₁, locs, cells, slots⟩ { g with stack := rest } (.invokevirtual index) mk (Value.ref b :: argsL).toArray X₁ hg hsize hdg hW (X₁.named hnamed) (hpre vm₁ X₁.warmed) with ⟨v, B, X', hpost, hsteps⟩ | ⟨q, B, X', hpost, hsteps⟩
  · exact Or.inl ⟨v, vm₁, B, X₁.warmed, X', hpost, fun target h => hstep₁ _ fun acts => by rw [doInvoke_state]; exact hsteps.trans h⟩
  · exact Or.inr ⟨q, vm₁, B, X₁.warmed, X', hpost, hstep₁ _ fun acts => by rw [doInvoke_state]; exact hsteps⟩
theorem vx_callSX (X : Stand p l e R s m args below meth c T locs cells slots) (hexec : p.tables.exec = Jvm.exec) {own : String} {index : Nat} {y : MethodName} {bytes : ByteArray} {maxL : Nat} {ret : Option FieldType} {hh : List (Nat × Nat × Nat × Nat)}
    (hown : s.vm.findClass own = some m.cls) (hlink : (Cond.methodLink own index y).before args s = true) (hstat : (Cond.static y).before args s = true) (hinit : (Cond.initialized y.cls).before args s = true)
    (hcode : (Cond.codeWith y bytes maxL ret hh).before args s = true) (hy : y.cls ≠ "java/lang/invoke/MethodHandle" ∧ y.cls ≠ "java/lang/invoke/VarHandle")
    {W9 : Nat} {Pre : Pt → Array Value → Prop} {Post : Pt → Array Value → Option Value → Pt → Prop} {PostX : Pt → Array Value → Addr → Pt → Prop} (hK : vx_Back l R p e below s args y 3 W9 Pre Post PostX)
    {g : JFrame} (hg : g.method = m) (hsize : g.locals.size = c.maxLocals) {argsL rest : List Value} (hlen : ∀ sig, parseMethodDescriptor y.desc = some sig → argsL.length = sig.parameters.length)
    (hstack : g.stack = argsL.reverse ++ rest) (hW : 2 * g.monitorRoom + (rest.map fun v => v.category).sum ≤ W9) (hdg : decode c.code g.pc = .ok (.invokestatic index, 3))
    (hpre : ∀ vm₁, s.WarmedH vm₁ → Pre ⟨T.setVm vm₁, locs, cells, slots⟩ argsL.toArray) :
    (∃ (v : Option Value) (vm₁ : Vm) (B : Pt), s.WarmedH vm₁ ∧ Stand p l e R s m args below meth c B.U B.locs B.cells B.slots ∧ Post ⟨T.setVm vm₁, locs, cells, slots⟩ argsL.toArray v B ∧
      ∀ target, Steps p.tables e below (B.U.setTop { g with pc := g.pc + 3, stack := v.toList ++ rest }) target → Steps p.tables e below (T.setTop g) target) ∨
    (∃ (q : Addr) (vm₁ : Vm) (B : Pt), s.WarmedH vm₁ ∧ Stand p l e R s m args below meth c B.U B.locs B.cells B.slots ∧ PostX ⟨T.setVm vm₁, locs, cells, slots⟩ argsL.toArray q B ∧
      Steps p.tables e below (T.setTop g) ((B.U.setTop { g with stack := rest }).pushFrame (.throwing q))) := by
  obtain ⟨mk, methM, cM, hnamed, hmethM, -, -, -, -, -, -, hsigM⟩ := Cond.codeWith_spec hcode
  have hstatic : methM.isStatic = true := Cond.static_spec hnamed hmethM hstat
  obtain ⟨kP, hkP, -⟩ := className_of_methodNamed hnamed
  have hinitP : kP.init = .initialized := Cond.initialized_spec (findClass_of_methodNamed hnamed) hkP hinit
  obtain ⟨vm₁, X₁, hstep₁⟩ := X.invokestatic hexec hown hlink hnamed hmethM hstatic hkP hinitP hy (g := g) hg (argsL := argsL) (rest := rest) (hlen _ hsigM) hstack hdg
  rcases hK m meth c ⟨T.setVm vm₁, locs, cells, slots⟩ { g with stack := rest } (.invokestatic index) mk argsL.toArray X₁ hg hsize hdg hW (X₁.named hnamed) (hpre vm₁ X₁.warmed) with ⟨v, B, X', hpost, hsteps⟩ | ⟨q, B, X', hpost, hsteps⟩
  · exact Or.inl ⟨v, vm₁, B, X₁.warmed, X', hpost, fun target h => hstep₁ _ fun acts => by rw [doInvoke_state]; exact hsteps.trans h⟩
  · exact Or.inr ⟨q, vm₁, B, X₁.warmed, X', hpost, hstep₁ _ fun acts => by rw [doInvoke_state]; exact hsteps⟩
theorem vx_callVW (X : Stand p l e R s m args below meth c T locs cells slots) (hexec : p.tables.exec = Jvm.exec) {own C : String} {index : Nat} {y : MethodName} {bytes : ByteArray} {maxL : Nat} {ret : Option FieldType} {hh : List (Nat × Nat × Nat × Nat)}
    (hown : s.vm.findClass own = some m.cls) (hlink : (Cond.methodLink own index y).before args s = true) (hinst : (Cond.instanceMethod y).before args s = true) (hsel : (Cond.selects C y y).before args s = true)
    (hcode : (Cond.codeWith y bytes maxL ret hh).before args s = true) (hy : y.cls ≠ "java/lang/invoke/MethodHandle" ∧ y.cls ≠ "java/lang/invoke/VarHandle")
    {W9 : Nat} {Pre : Pt → Array Value → Prop} {Post : Pt → Array Value → Option Value → Pt → Prop} (hK : Back l R p e below s args y 3 W9 Pre Post)
    {b : Addr} {cellB : Cell} (hcell : T.heap[b]? = some cellB) (hobj : cellB.vm.isStatics = false) (hcls : s.vm.findClass C = some cellB.cls)
    {g : JFrame} (hg : g.method = m) (hsize : g.locals.size = c.maxLocals) {argsL rest : List Value} (hlen : ∀ sig, parseMethodDescriptor y.desc = some sig → argsL.length = sig.parameters.length)
    (hstack : g.stack = argsL.reverse ++ .ref b :: rest) (hW : 2 * g.monitorRoom + (rest.map fun v => v.category).sum ≤ W9) (hdg : decode c.code g.pc = .ok (.invokevirtual index, 3))
    (hpre : ∀ vm₁, s.WarmedH vm₁ → Pre ⟨T.setVm vm₁, locs, cells, slots⟩ (Value.ref b :: argsL).toArray) :
    ∃ (v : Option Value) (vm₁ : Vm) (B : Pt), s.WarmedH vm₁ ∧ Stand p l e R s m args below meth c B.U B.locs B.cells B.slots ∧ Post ⟨T.setVm vm₁, locs, cells, slots⟩ (Value.ref b :: argsL).toArray v B ∧
      ∀ target, Steps p.tables e below (B.U.setTop { g with pc := g.pc + 3, stack := v.toList ++ rest }) target → Steps p.tables e below (T.setTop g) target := by
  obtain ⟨mk, methM, hnamed, hmethM, hstM, habM⟩ := Cond.instanceMethod_spec hinst
  obtain ⟨m8, methM', cM, hn8, hmethM', -, -, -, -, -, -, hsigM⟩ := Cond.codeWith_spec hcode
  cases Option.some.inj (hn8.symm.trans hnamed)
  cases hmethM.symm.trans hmethM'
  obtain ⟨c2, r2, m2, q1, q2, q3, q4, kP, hkP, hkPi⟩ := Cond.selects_spec hsel
  cases hcls.symm.trans q1
  cases (State.methodFound?_of_named hnamed hy).symm.trans q2
  cases hnamed.symm.trans q3
  have hselP : selectMethod e.platform s.vm cellB.cls mk = .method mk := by rw [Launch.admits_selectMethod X.admits]; exact q4
  obtain ⟨vm₁, X₁, hstep₁⟩ := X.invokevirtual hexec hown hlink hnamed hmethM hstM hkP hkPi hy (a := b) (cell := cellB) hcell
    (fun z h => by rw [h] at hobj; cases hobj) hselP hmethM habM hkP hkPi (g := g) hg (argsL := argsL) (rest := rest) (hlen _ hsigM) hstack hdg
  obtain ⟨v, B, X', hpost, hsteps⟩ := hK m meth c ⟨T.setVm vm₁, locs, cells, slots⟩ { g with stack := rest } (.invokevirtual index) mk (Value.ref b :: argsL).toArray X₁ hg hsize hdg hW (X₁.named hnamed) (hpre vm₁ X₁.warmed)
  exact ⟨v, vm₁, B, X₁.warmed, X', hpost, fun target h => hstep₁ _ fun acts => by rw [doInvoke_state]; exact hsteps.trans h⟩
abbrev vx_CVW (R : Room) (s : State) (args : Array Value) (own C : String) (index : Nat) (y : MethodName) (bytes : ByteArray) (maxL : Nat) (ret : Option FieldType) (hh : List (Nat × Nat × Nat × Nat)) (ws : List Cond) (rm : Room) (mc ms n : Nat) : Prop :=
  (rm.cells = mc ∧ rm.slots = ms ∧ rm.frames + 1 ≤ R.frames ∧ 8 + (maxL + 11) + rm.locals ≤ R.locals ∧ (∀ w ∈ ws, ∀ (a' : Array Value) (U : State), s.WarmedH U.vm → w.before a' U = true) ∧ Cond.codeWith y bytes maxL ret hh ∈ ws) ∧
  (Cond.codeWith y bytes maxL ret hh).before args s = true ∧ (Cond.initialized y.cls).before args s = true ∧ (y.cls ≠ "java/lang/invoke/MethodHandle" ∧ y.cls ≠ "java/lang/invoke/VarHandle") ∧
  (∀ sig, parseMethodDescriptor y.desc = some sig → n = sig.parameters.length) ∧ (Cond.methodLink own index y).before args s = true ∧ (Cond.instanceMethod y).before args s = true ∧ (Cond.selects C y y).before args s = true
theorem vx_cwVW {own C : String} {index maxL mc ms : Nat} {y : MethodName} {bytes : ByteArray} {ret : Option FieldType} {hh : List (Nat × Nat × Nat × Nat)} {Ts ws ws' : List Cond} {rm : Room} (n : Nat) (ht : ∀ w ∈ Ts, w.before args s = true) (hT : GoodIn Ts (wsV own index C y ws)) (hw : ws = Cond.codeWith y bytes maxL ret hh :: ws') (hrc : rm.cells = mc) (hrs : rm.slots = ms)
    (hd : y.cls = C ∧ y.cls ≠ "java/lang/invoke/MethodHandle" ∧ y.cls ≠ "java/lang/invoke/VarHandle" ∧ (parseMethodDescriptor y.desc).map (fun d => d.parameters.length) = some n) (hR : rm.frames + 1 ≤ R.frames ∧ 8 + (maxL + 11) + rm.locals ≤ R.locals) :
    vx_CVW R s args own C index y bytes maxL ret hh ws rm mc ms n := by
  obtain ⟨hC, hd⟩ := hd
  subst hC
  have ok : ∀ w ∈ wsV own index y.cls y ws, w.before args s = true := fun w h => ht w (hT w h).1
  have hG : GoodIn Ts ws := fun w h => hT w (by unfold wsV; exact List.mem_append_right _ h)
  have hc : Cond.codeWith y bytes maxL ret hh ∈ ws := by rw [hw]; exact List.mem_cons_self
  refine ⟨⟨hrc, hrs, hR.1, hR.2, pay_in ht hG, hc⟩, ht _ (hG _ hc).1, ok _ (by simp [wsV]), ⟨hd.1, hd.2.1⟩, fun sig h => ?_, ok _ (by simp [wsV]), ok _ (by simp [wsV]), ok _ (by simp [wsV])⟩
  have h2 := hd.2.2
  rw [h] at h2
  exact (Option.some.inj h2).symm
theorem vx_runVW {y : MethodName} {bytes cc : ByteArray} {maxL nL mc ms n index : Nat} {ret : Option FieldType} {hh : List (Nat × Nat × Nat × Nat)} {ws : List Cond} {rm : Room} {Pc : Array Value → State → Prop} {Qc : Array Value → State → Outcome → State → Prop} {free : Addr → Prop} {Ts : List Cond} {own C : String} {b : Addr} {As rest : List Value} {g : JFrame}
    (S : CallFix p m c cc nL s args Ts own) (hM : Met l y ws rm Pc Qc mc ms free) (cw : vx_CVW R s args own C index y bytes maxL ret hh ws rm mc ms n) (hp : PreV s H C b Pc As)
    (hg : g.method = m) (hn : As.length = n) (hsize : g.locals.size = nL) (hstack : g.stack = As.reverse ++ .ref b :: rest) (hW : 2 * g.monitorRoom + (rest.map fun v => v.category).sum ≤ 8) (hdg : decode cc g.pc = .ok (.invokevirtual index, 3)) (hf : cells + mc ≤ R.cells ∧ slots + ms ≤ R.slots) :
    va_Run p l e R s m args below meth c H locs cells slots mc ms g rest (Qc (Value.ref b :: As).toArray) free := by
  obtain ⟨⟨hrc, hrs, hfr, hlo, hws, hcw⟩, hcode, hini, hy, hlen, hl, hin, hse⟩ := cw
  have hK : Back l R p e below s args y 3 8 (PreOf R mc ms Pc) (PostOf Qc mc ms free) := va_backW (hh := hh) (bytes := bytes) (maxL := maxL) (ret := ret) hM hp.1 hrc hrs hfr hlo hws hcw (fun a' U hW => word_at hW (Or.inl (by first | rfl | simp [Cond.onTables, Cond.keeps, Cond.steady])) hini)
  obtain ⟨hx, hb, hml, ho, -⟩ := S
  obtain ⟨-, ⟨cellB, hcB, hoB, hclB⟩, hPc⟩ := hp
  intro T hT X
  obtain ⟨v, vm₁, ⟨U', l2, c2, s2⟩, hW₁, X', ⟨g', mk, t, L, e1, e2, hq, h1, hL, h2, h3⟩, st⟩ := vx_callVW X hx (C := C) (hh := hh) (bytes := bytes) (maxL := maxL) (ret := ret) ho hl hin hse hcode hy hK (by rw [hT]; exact hcB) hoB hclB hg (hsize.trans hml.symm) (argsL := As) (rest := rest) (fun sig h => hn.trans (hlen sig h)) hstack hW (by rw [hb]; exact hdg)
    (fun vm₁ hW₁ => ⟨hf.1, hf.2, hPc (T.setVm vm₁) hT hW₁⟩)
  dsimp only [Pt.U, Pt.locs, Pt.cells, Pt.slots] at X' e1 e2 h1 h2 h3 st
  subst h1; subst h2; subst h3
  exact ⟨v, (T.setVm vm₁).calling g' mk (Value.ref b :: As).toArray, t, U', L, hT, X', hL, e1, e2, hq, st⟩
section
variable {y : MethodName} {bytes cc : ByteArray} {maxL nL mc ms n index : Nat} {ret : Option FieldType} {ws : List Cond} {rm : Room} {Pc : Array Value → State → Prop} {Qc : Array Value → State → Outcome → State → Prop} {XC : String → State → State → Prop} {free : Addr → Prop} {Ts : List Cond} {own C : String} {b : Addr} {As rest : List Value} {g : JFrame}
theorem vx_runVX {hh : List (Nat × Nat × Nat × Nat)} (S : CallFix p m c cc nL s args Ts own) (hM : vx_Met l y ws rm Pc Qc XC mc ms free) (cw : vx_CVW R s args own C index y bytes maxL ret hh ws rm mc ms n) (hp : PreV s H C b Pc As)
    (hg : g.method = m) (hn : As.length = n) (hsize : g.locals.size = nL) (hstack : g.stack = As.reverse ++ .ref b :: rest) (hW : 2 * g.monitorRoom + (rest.map fun v => v.category).sum ≤ 8) (hdg : decode cc g.pc = .ok (.invokevirtual index, 3)) (hf : cells + mc ≤ R.cells ∧ slots + ms ≤ R.slots) :
    vx_Run p l e R s m args below meth c H locs cells slots mc ms g rest (Qc (Value.ref b :: As).toArray) XC free := by
  obtain ⟨⟨hrc, hrs, hfr, hlo, hws, hcw⟩, hcode, hini, hy, hlen, hl, hin, hse⟩ := cw
  have hK : vx_Back l R p e below s args y 3 8 (PreOf R mc ms Pc) (PostOf Qc mc ms free) (vx_Post XC mc ms free) := vx_backW (hh := hh) (bytes := bytes) (maxL := maxL) (ret := ret) hM hp.1 hrc hrs hfr hlo hws hcw (fun a' U hW => word_at hW (Or.inl (by first | rfl | simp [Cond.onTables, Cond.keeps, Cond.steady])) hini)
  obtain ⟨hx, hb, hml, ho, -⟩ := S
  obtain ⟨-, ⟨cellB, hcB, hoB, hclB⟩, hPc⟩ := hp
  intro T hT X
  rcases vx_callVX X hx (C := C) (hh := hh) (bytes := bytes) (maxL := maxL) (ret := ret) ho hl hin hse hcode hy hK (by rw [hT]; exact hcB) hoB hclB hg (hsize.trans hml.symm) (argsL := As) (rest := rest) (fun sig h => hn.trans (hlen sig h)) hstack hW (by rw [hb]; exact hdg)
    (fun vm₁ hW₁ => ⟨hf.1, hf.2, hPc (T.setVm vm₁) hT hW₁⟩) with ⟨v, vm₁, ⟨U', l2, c2, s2⟩, hW₁, X', ⟨g', mk, t, L, e1, e2, hq, h1, hL, h2, h3⟩, st⟩ | ⟨q, vm₁, ⟨U', l2, c2, s2⟩, hW₁, X', ⟨g', mk, t, L, E, ce, e1, e2, hq, hce, hcv, hcl, h1, hL, h2, h3⟩, st⟩
  · dsimp only [Pt.U, Pt.locs, Pt.cells, Pt.slots] at X' e1 e2 h1 h2 h3 st
    subst h1; subst h2; subst h3
    exact Or.inl ⟨v, (T.setVm vm₁).calling g' mk (Value.ref b :: As).toArray, t, U', L, hT, X', hL, e1, e2, hq, st⟩
  · dsimp only [Pt.U, Pt.locs, Pt.cells, Pt.slots] at X' e1 e2 h1 h2 h3 st hcl
    subst h1; subst h2; subst h3
    exact Or.inr ⟨q, (T.setVm vm₁).calling g' mk (Value.ref b :: As).toArray, t, U', L, E, ce, hT, X', hL, e1, e2, hq, hce, hcv, vx_cls hW₁ hcl, st⟩
theorem vx_runSX {hh : List (Nat × Nat × Nat × Nat)} (S : CallFix p m c cc nL s args Ts own) (hM : vx_Met l y ws rm Pc Qc XC mc ms free) (cw : vx_CSW R s args own index y bytes maxL ret hh ws rm mc ms n) (hp : PreS s H Pc As)
    (hg : g.method = m) (hn : As.length = n) (hsize : g.locals.size = nL) (hstack : g.stack = As.reverse ++ rest) (hW : 2 * g.monitorRoom + (rest.map fun v => v.category).sum ≤ 8) (hdg : decode cc g.pc = .ok (.invokestatic index, 3)) (hf : cells + mc ≤ R.cells ∧ slots + ms ≤ R.slots) :
    vx_Run p l e R s m args below meth c H locs cells slots mc ms g rest (Qc As.toArray) XC free := by
  obtain ⟨⟨hrc, hrs, hfr, hlo, hws, hcw⟩, hcode, hini, hy, hlen, hl, hstt⟩ := cw
  have hK : vx_Back l R p e below s args y 3 8 (PreOf R mc ms Pc) (PostOf Qc mc ms free) (vx_Post XC mc ms free) := vx_backW (hh := hh) (bytes := bytes) (maxL := maxL) (ret := ret) hM hp.1 hrc hrs hfr hlo hws hcw (fun a' U hW => word_at hW (Or.inl (by first | rfl | simp [Cond.onTables, Cond.keeps, Cond.steady])) hini)
  obtain ⟨hx, hb, hml, ho, -⟩ := S
  intro T hT X
  rcases vx_callSX X hx (hh := hh) (bytes := bytes) (maxL := maxL) (ret := ret) ho hl hstt hini hcode hy hK hg (hsize.trans hml.symm) (argsL := As) (rest := rest) (fun sig h => hn.trans (hlen sig h)) hstack hW (by rw [hb]; exact hdg)
    (fun vm₁ hW₁ => ⟨hf.1, hf.2, hp.2 (T.setVm vm₁) hT hW₁⟩) with ⟨v, vm₁, ⟨U', l2, c2, s2⟩, hW₁, X', ⟨g', mk, t, L, e1, e2, hq, h1, hL, h2, h3⟩, st⟩ | ⟨q, vm₁, ⟨U', l2, c2, s2⟩, hW₁, X', ⟨g', mk, t, L, E, ce, e1, e2, hq, hce, hcv, hcl, h1, hL, h2, h3⟩, st⟩
  · dsimp only [Pt.U, Pt.locs, Pt.cells, Pt.slots] at X' e1 e2 h1 h2 h3 st
    subst h1; subst h2; subst h3
    exact Or.inl ⟨v, (T.setVm vm₁).calling g' mk As.toArray, t, U', L, hT, X', hL, e1, e2, hq, st⟩
  · dsimp only [Pt.U, Pt.locs, Pt.cells, Pt.slots] at X' e1 e2 h1 h2 h3 st hcl
    subst h1; subst h2; subst h3
    exact Or.inr ⟨q, (T.setVm vm₁).calling g' mk As.toArray, t, U', L, E, ce, hT, X', hL, e1, e2, hq, hce, hcv, vx_cls hW₁ hcl, st⟩
end
end VXH
theorem vx_ofWH {l : Launch} {y : MethodName} {ws ws' : List Cond} {rm : Room} {Pc : Array Value → State → Prop} {Qc : Array Value → State → Outcome → State → Prop} {XC : String → State → State → Prop} {mc ms : Nat} {free : Addr → Prop} {cc : ByteArray} {maxL : Nat} {ret : Option FieldType} {hh : List (Nat × Nat × Nat × Nat)}
    (hy : plainName y.cls = true) (hw : ws = Cond.codeWith y cc maxL ret hh :: ws')
    (body : ∀ p e s m args below meth c s₁, BodyLoose p l y (headSpec ws rm) cc maxL ret e s m args below meth c s₁ → c.maxLocals = maxL → Pc args s →
      W p l e (headSpec ws rm).room s m args below meth c s.heap [] 0 0 (vx_MQ below Qc XC args s mc ms free) (entryFrame m args maxL)) : vx_Met l y ws rm Pc Qc XC mc ms free := by
  refine MetFree.of_bodyS (code := cc) (maxLocals := maxL) (ret := ret) hy ?_ ?_
  · intro args s m h hn
    obtain ⟨m9, meth, c, hn9, h1, h2, h3, h4, -, h5, h6, -⟩ := Cond.codeWith_spec (atoms_spec (ws := ws) h _ (by rw [hw]; exact List.mem_cons_self))
    cases hn.symm.trans hn9
    exact ⟨meth, c, h1, h2, h3, h4, h5, h6⟩
  · intro p e s m args below meth c s₁ B hml hP _
    have hh0 : s₁.heap = s.heap := by rw [B.state]; rfl
    obtain ⟨t, a1, o, b1, b2, b3⟩ := body p e s m args below meth c s₁ B hml hP s₁ hh0 (Stand.of_body B)
    exact ⟨t, o, a1, b1, b2, b3⟩
/-! ===== END ===== -/
end
section
def RX0 : String := "OneHandset$Box"
def TX0 : u_T := fun k => match k with
  | 0 => ("OneHandset$Box", "leads", "[I", true)
  | 1 => ("OneHandset$Box", "states", "I", false)
  | 2 => ("OneHandset$Box", "buttons", "I", false)
  | _ => ("OneHandset$Box", "maybe", "I", false)
def tyX0 : Nat → FieldType := fun k => match k with
  | 0 => .array .int
  | 1 => .int
  | 2 => .int
  | _ => .int
abbrev wsX00 : List Cond := u_ws RX0 TX0 4
theorem nmX0 : ∀ a, a < 4 → ∀ b, b < 4 → a ≠ b → (TX0 a).2.1 ≠ (TX0 b).2.1 := by decide +kernel
theorem tyX0_ok : ∀ k, k < 4 → parseFieldDescriptor (TX0 k).2.2.1 = some (tyX0 k) := by decide +kernel
abbrev cX0_init : ByteArray := prog_2_method_1_code
def yX0_init : MethodName := ⟨RX0, "<init>", "()V"⟩
abbrev cX0_startAnew : ByteArray := prog_2_method_2_code
def yX0_startAnew : MethodName := ⟨RX0, "startAnew", "(II)V"⟩
abbrev cX0_hasState : ByteArray := prog_2_method_3_code
def yX0_hasState : MethodName := ⟨RX0, "hasState", "(I)Z"⟩
abbrev cX0_hasButton : ByteArray := prog_2_method_4_code
def yX0_hasButton : MethodName := ⟨RX0, "hasButton", "(I)Z"⟩
abbrev cX0_hasSet : ByteArray := prog_2_method_5_code
def yX0_hasSet : MethodName := ⟨RX0, "hasSet", "(I)Z"⟩
abbrev cX0_setLead : ByteArray := prog_2_method_6_code
def yX0_setLead : MethodName := ⟨RX0, "setLead", "(III)V"⟩
abbrev cX0_behind : ByteArray := prog_2_method_7_code
def yX0_behind : MethodName := ⟨RX0, "behind", "(II)I"⟩
def RX1 : String := "OneHandset$Form"
def TX1 : u_T := fun k => match k with
  | _ => ("", "", "", false)
def tyX1 : Nat → FieldType := fun k => match k with
  | _ => .int
abbrev wsX10 : List Cond := u_ws RX1 TX1 0
theorem nmX1 : ∀ a, a < 0 → ∀ b, b < 0 → a ≠ b → (TX1 a).2.1 ≠ (TX1 b).2.1 := by decide +kernel
theorem tyX1_ok : ∀ k, k < 0 → parseFieldDescriptor (TX1 k).2.2.1 = some (tyX1 k) := by decide +kernel
abbrev cX1_init : ByteArray := prog_3_method_1_code
def yX1_init : MethodName := ⟨RX1, "<init>", "()V"⟩
def RX2 : String := "OneHandset$HalvesForm"
def TX2 : u_T := fun k => match k with
  | 0 => ("OneHandset$HalvesForm", "bits", "I", true)
  | _ => ("OneHandset$HalvesForm", "p", "I", true)
def tyX2 : Nat → FieldType := fun k => match k with
  | 0 => .int
  | _ => .int
abbrev wsX20 : List Cond := u_ws RX2 TX2 2
theorem nmX2 : ∀ a, a < 2 → ∀ b, b < 2 → a ≠ b → (TX2 a).2.1 ≠ (TX2 b).2.1 := by decide +kernel
theorem tyX2_ok : ∀ k, k < 2 → parseFieldDescriptor (TX2 k).2.2.1 = some (tyX2 k) := by decide +kernel
abbrev cX2_init : ByteArray := prog_4_method_1_code
def yX2_init : MethodName := ⟨RX2, "<init>", "(II)V"⟩
abbrev cX2_isOn : ByteArray := prog_4_method_2_code
def yX2_isOn : MethodName := ⟨RX2, "isOn", "(II)Z"⟩
abbrev cX2_write : ByteArray := prog_4_method_3_code
def yX2_write : MethodName := ⟨RX2, "write", "(ILOneHandset$Tape;)V"⟩
abbrev cX2_decode : ByteArray := prog_4_method_4_code
def yX2_decode : MethodName := ⟨RX2, "decode", "(LOneHandset$Tape;I)I"⟩
def RX3 : String := "OneHandset$Keys"
def TX3 : u_T := fun k => match k with
  | 0 => ("OneHandset$Keys", "bits", "I", true)
  | 1 => ("OneHandset$Keys", "codes", "[I", true)
  | 2 => ("OneHandset$Keys", "constants", "[I", true)
  | 3 => ("OneHandset$Keys", "flip", "I", false)
  | 4 => ("OneHandset$Keys", "flipBit", "I", false)
  | 5 => ("OneHandset$Keys", "learnt", "I", false)
  | 6 => ("OneHandset$Keys", "fixed", "I", false)
  | _ => ("OneHandset$Keys", "fixedOn", "I", false)
def tyX3 : Nat → FieldType := fun k => match k with
  | 0 => .int
  | 1 => .array .int
  | 2 => .array .int
  | 3 => .int
  | 4 => .int
  | 5 => .int
  | 6 => .int
  | _ => .int
abbrev wsX30 : List Cond := u_ws RX3 TX3 8
theorem nmX3 : ∀ a, a < 8 → ∀ b, b < 8 → a ≠ b → (TX3 a).2.1 ≠ (TX3 b).2.1 := by decide +kernel
theorem tyX3_ok : ∀ k, k < 8 → parseFieldDescriptor (TX3 k).2.2.1 = some (tyX3 k) := by decide +kernel
abbrev cX3_init : ByteArray := prog_5_method_1_code
def yX3_init : MethodName := ⟨RX3, "<init>", "(I)V"⟩
abbrev cX3_startWithFlip : ByteArray := prog_5_method_2_code
def yX3_startWithFlip : MethodName := ⟨RX3, "startWithFlip", "(I)V"⟩
abbrev cX3_flipMask : ByteArray := prog_5_method_3_code
def yX3_flipMask : MethodName := ⟨RX3, "flipMask", "()I"⟩
abbrev cX3_hasKey : ByteArray := prog_5_method_4_code
def yX3_hasKey : MethodName := ⟨RX3, "hasKey", "(I)Z"⟩
abbrev cX3_codeOf : ByteArray := prog_5_method_5_code
def yX3_codeOf : MethodName := ⟨RX3, "codeOf", "(I)I"⟩
abbrev cX3_take : ByteArray := prog_5_method_6_code
def yX3_take : MethodName := ⟨RX3, "take", "(II)I"⟩
abbrev cX3_drop : ByteArray := prog_5_method_7_code
def yX3_drop : MethodName := ⟨RX3, "drop", "(I)Z"⟩
abbrev cX3_codeToSend : ByteArray := prog_5_method_8_code
def yX3_codeToSend : MethodName := ⟨RX3, "codeToSend", "(I)I"⟩
abbrev cX3_compareAll : ByteArray := prog_5_method_9_code
def yX3_compareAll : MethodName := ⟨RX3, "compareAll", "()V"⟩
abbrev cX3_isCheck : ByteArray := prog_5_method_10_code
def yX3_isCheck : MethodName := ⟨RX3, "isCheck", "(I)Z"⟩
abbrev cX3_commonConstant : ByteArray := prog_5_method_11_code
def yX3_commonConstant : MethodName := ⟨RX3, "commonConstant", "(I)I"⟩
abbrev cX3_constantFor : ByteArray := prog_5_method_12_code
def yX3_constantFor : MethodName := ⟨RX3, "constantFor", "(II)I"⟩
abbrev cX3_isContrary : ByteArray := prog_5_method_13_code
def yX3_isContrary : MethodName := ⟨RX3, "isContrary", "(I)Z"⟩
abbrev cX3_constantThatHolds : ByteArray := prog_5_method_14_code
def yX3_constantThatHolds : MethodName := ⟨RX3, "constantThatHolds", "(I)I"⟩
abbrev cX3_free : ByteArray := prog_5_method_15_code
def yX3_free : MethodName := ⟨RX3, "free", "()I"⟩
abbrev cX3_canForesee : ByteArray := prog_5_method_16_code
def yX3_canForesee : MethodName := ⟨RX3, "canForesee", "()Z"⟩
abbrev cX3_checksHoldFor : ByteArray := prog_5_method_17_code
def yX3_checksHoldFor : MethodName := ⟨RX3, "checksHoldFor", "(I)Z"⟩
abbrev cX3_foresees : ByteArray := prog_5_method_18_code
def yX3_foresees : MethodName := ⟨RX3, "foresees", "(I)Z"⟩
abbrev cX3_foreseenAbove : ByteArray := prog_5_method_19_code
def yX3_foreseenAbove : MethodName := ⟨RX3, "foreseenAbove", "(I)I"⟩
abbrev cX3_foreseenCount : ByteArray := prog_5_method_20_code
def yX3_foreseenCount : MethodName := ⟨RX3, "foreseenCount", "()I"⟩
abbrev cX3_foreseenAt : ByteArray := prog_5_method_21_code
def yX3_foreseenAt : MethodName := ⟨RX3, "foreseenAt", "(I)I"⟩
abbrev cX3_leastForeseenWith : ByteArray := prog_5_method_22_code
def yX3_leastForeseenWith : MethodName := ⟨RX3, "leastForeseenWith", "(LOneHandset$Keys;)I"⟩
def RX4 : String := "OneHandset$Make"
def TX4 : u_T := fun k => match k with
  | 0 => ("OneHandset$Make", "kind", "I", true)
  | 1 => ("OneHandset$Make", "bits", "I", true)
  | 2 => ("OneHandset$Make", "form", "LOneHandset$Form;", true)
  | 3 => ("OneHandset$Make", "keys", "LOneHandset$Keys;", true)
  | _ => ("OneHandset$Make", "miss", "I", false)
def tyX4 : Nat → FieldType := fun k => match k with
  | 0 => .int
  | 1 => .int
  | 2 => .object "OneHandset$Form"
  | 3 => .object "OneHandset$Keys"
  | _ => .int
abbrev wsX40 : List Cond := u_ws RX4 TX4 5
theorem nmX4 : ∀ a, a < 5 → ∀ b, b < 5 → a ≠ b → (TX4 a).2.1 ≠ (TX4 b).2.1 := by decide +kernel
theorem tyX4_ok : ∀ k, k < 5 → parseFieldDescriptor (TX4 k).2.2.1 = some (tyX4 k) := by decide +kernel
abbrev cX4_init : ByteArray := prog_6_method_1_code
def yX4_init : MethodName := ⟨RX4, "<init>", "(IILOneHandset$Form;)V"⟩
abbrev cX4_flash : ByteArray := prog_6_method_2_code
def yX4_flash : MethodName := ⟨RX4, "flash", "(ILOneHandset$Tape;)I"⟩
abbrev cX4_decode : ByteArray := prog_6_method_3_code
def yX4_decode : MethodName := ⟨RX4, "decode", "(LOneHandset$Tape;)I"⟩
def RX5 : String := "OneHandset$PairsForm"
def TX5 : u_T := fun k => match k with
  | 0 => ("OneHandset$PairsForm", "onTellsBit", "Z", true)
  | 1 => ("OneHandset$PairsForm", "bits", "I", true)
  | 2 => ("OneHandset$PairsForm", "a", "I", true)
  | 3 => ("OneHandset$PairsForm", "b", "I", true)
  | 4 => ("OneHandset$PairsForm", "p", "I", true)
  | 5 => ("OneHandset$PairsForm", "z", "I", true)
  | 6 => ("OneHandset$PairsForm", "o", "I", true)
  | _ => ("OneHandset$PairsForm", "length", "I", true)
def tyX5 : Nat → FieldType := fun k => match k with
  | 0 => .boolean
  | 1 => .int
  | 2 => .int
  | 3 => .int
  | 4 => .int
  | 5 => .int
  | 6 => .int
  | _ => .int
abbrev wsX50 : List Cond := u_ws RX5 TX5 8
theorem nmX5 : ∀ a, a < 8 → ∀ b, b < 8 → a ≠ b → (TX5 a).2.1 ≠ (TX5 b).2.1 := by decide +kernel
theorem tyX5_ok : ∀ k, k < 8 → parseFieldDescriptor (TX5 k).2.2.1 = some (tyX5 k) := by decide +kernel
abbrev cX5_init : ByteArray := prog_7_method_1_code
def yX5_init : MethodName := ⟨RX5, "<init>", "(ZIIIIII)V"⟩
abbrev cX5_tellsBit : ByteArray := prog_7_method_2_code
def yX5_tellsBit : MethodName := ⟨RX5, "tellsBit", "(I)Z"⟩
abbrev cX5_plainTime : ByteArray := prog_7_method_3_code
def yX5_plainTime : MethodName := ⟨RX5, "plainTime", "(I)I"⟩
abbrev cX5_write : ByteArray := prog_7_method_4_code
def yX5_write : MethodName := ⟨RX5, "write", "(ILOneHandset$Tape;)V"⟩
abbrev cX5_decode : ByteArray := prog_7_method_5_code
def yX5_decode : MethodName := ⟨RX5, "decode", "(LOneHandset$Tape;I)I"⟩
def RX6 : String := "OneHandset$Route"
def TX6 : u_T := fun k => match k with
  | 0 => ("OneHandset$Route", "row", "[I", true)
  | 1 => ("OneHandset$Route", "queue", "[I", true)
  | 2 => ("OneHandset$Route", "before", "[I", true)
  | 3 => ("OneHandset$Route", "by", "[I", true)
  | _ => ("OneHandset$Route", "length", "I", false)
def tyX6 : Nat → FieldType := fun k => match k with
  | 0 => .array .int
  | 1 => .array .int
  | 2 => .array .int
  | 3 => .array .int
  | _ => .int
abbrev wsX60 : List Cond := u_ws RX6 TX6 5
theorem nmX6 : ∀ a, a < 5 → ∀ b, b < 5 → a ≠ b → (TX6 a).2.1 ≠ (TX6 b).2.1 := by decide +kernel
theorem tyX6_ok : ∀ k, k < 5 → parseFieldDescriptor (TX6 k).2.2.1 = some (tyX6 k) := by decide +kernel
abbrev cX6_init : ByteArray := prog_8_method_1_code
def yX6_init : MethodName := ⟨RX6, "<init>", "()V"⟩
abbrev cX6_find : ByteArray := prog_8_method_2_code
def yX6_find : MethodName := ⟨RX6, "find", "(LOneHandset$Box;I)I"⟩
abbrev cX6_keepRow : ByteArray := prog_8_method_3_code
def yX6_keepRow : MethodName := ⟨RX6, "keepRow", "(II)I"⟩
abbrev cX6_buttonAt : ByteArray := prog_8_method_4_code
def yX6_buttonAt : MethodName := ⟨RX6, "buttonAt", "(I)I"⟩
def RX7 : String := "OneHandset$Tape"
def TX7 : u_T := fun k => match k with
  | 0 => ("OneHandset$Tape", "times", "[I", true)
  | _ => ("OneHandset$Tape", "size", "I", false)
def tyX7 : Nat → FieldType := fun k => match k with
  | 0 => .array .int
  | _ => .int
abbrev wsX70 : List Cond := u_ws RX7 TX7 2
theorem nmX7 : ∀ a, a < 2 → ∀ b, b < 2 → a ≠ b → (TX7 a).2.1 ≠ (TX7 b).2.1 := by decide +kernel
theorem tyX7_ok : ∀ k, k < 2 → parseFieldDescriptor (TX7 k).2.2.1 = some (tyX7 k) := by decide +kernel
abbrev cX7_init : ByteArray := prog_9_method_1_code
def yX7_init : MethodName := ⟨RX7, "<init>", "()V"⟩
abbrev cX7_append : ByteArray := prog_9_method_2_code
def yX7_append : MethodName := ⟨RX7, "append", "(I)V"⟩
abbrev cX7_lengthenLast : ByteArray := prog_9_method_3_code
def yX7_lengthenLast : MethodName := ⟨RX7, "lengthenLast", "(I)V"⟩
abbrev cX7_at : ByteArray := prog_9_method_4_code
def yX7_at : MethodName := ⟨RX7, "at", "(I)I"⟩
abbrev cX7_stretchAll : ByteArray := prog_9_method_5_code
def yX7_stretchAll : MethodName := ⟨RX7, "stretchAll", "(I)V"⟩
def RX8 : String := "OneHandset"
def TX8 : u_T := fun k => match k with
  | 0 => ("OneHandset", "tape", "LOneHandset$Tape;", true)
  | 1 => ("OneHandset", "makes", "[LOneHandset$Make;", true)
  | 2 => ("OneHandset", "makeCount", "I", false)
  | 3 => ("OneHandset", "boxes", "[LOneHandset$Box;", true)
  | _ => ("OneHandset", "route", "LOneHandset$Route;", true)
def tyX8 : Nat → FieldType := fun k => match k with
  | 0 => .object "OneHandset$Tape"
  | 1 => .array (.object "OneHandset$Make")
  | 2 => .int
  | 3 => .array (.object "OneHandset$Box")
  | _ => .object "OneHandset$Route"
abbrev wsX80 : List Cond := u_ws RX8 TX8 5
theorem nmX8 : ∀ a, a < 5 → ∀ b, b < 5 → a ≠ b → (TX8 a).2.1 ≠ (TX8 b).2.1 := by decide +kernel
theorem tyX8_ok : ∀ k, k < 5 → parseFieldDescriptor (TX8 k).2.2.1 = some (tyX8 k) := by decide +kernel
abbrev cX8_init : ByteArray := prog_1_method_1_code
def yX8_init : MethodName := ⟨RX8, "<init>", "()V"⟩
abbrev cX8_make : ByteArray := prog_1_method_2_code
def yX8_make : MethodName := ⟨RX8, "make", "(IIIIIII)I"⟩
abbrev cX8_set : ByteArray := prog_1_method_3_code
def yX8_set : MethodName := ⟨RX8, "set", "(III)Z"⟩
abbrev cX8_feed : ByteArray := prog_1_method_4_code
def yX8_feed : MethodName := ⟨RX8, "feed", "(IIIII)I"⟩
abbrev cX8_end : ByteArray := prog_1_method_5_code
def yX8_end : MethodName := ⟨RX8, "end", "(I)Z"⟩
abbrev cX8_send : ByteArray := prog_1_method_6_code
def yX8_send : MethodName := ⟨RX8, "send", "(II)I"⟩
abbrev cX8_time : ByteArray := prog_1_method_7_code
def yX8_time : MethodName := ⟨RX8, "time", "(I)I"⟩
abbrev cX8_read : ByteArray := prog_1_method_8_code
def yX8_read : MethodName := ⟨RX8, "read", "(I)I"⟩
abbrev cX8_which : ByteArray := prog_1_method_9_code
def yX8_which : MethodName := ⟨RX8, "which", "()I"⟩
abbrev cX8_stretch : ByteArray := prog_1_method_10_code
def yX8_stretch : MethodName := ⟨RX8, "stretch", "(I)Z"⟩
abbrev cX8_learn : ByteArray := prog_1_method_11_code
def yX8_learn : MethodName := ⟨RX8, "learn", "(II)I"⟩
abbrev cX8_forget : ByteArray := prog_1_method_12_code
def yX8_forget : MethodName := ⟨RX8, "forget", "(II)Z"⟩
abbrev cX8_key : ByteArray := prog_1_method_13_code
def yX8_key : MethodName := ⟨RX8, "key", "(II)I"⟩
abbrev cX8_press : ByteArray := prog_1_method_14_code
def yX8_press : MethodName := ⟨RX8, "press", "(II)I"⟩
abbrev cX8_of : ByteArray := prog_1_method_15_code
def yX8_of : MethodName := ⟨RX8, "of", "(II)I"⟩
abbrev cX8_check : ByteArray := prog_1_method_16_code
def yX8_check : MethodName := ⟨RX8, "check", "(II)I"⟩
abbrev cX8_many : ByteArray := prog_1_method_17_code
def yX8_many : MethodName := ⟨RX8, "many", "(I)I"⟩
abbrev cX8_foreseen : ByteArray := prog_1_method_18_code
def yX8_foreseen : MethodName := ⟨RX8, "foreseen", "(II)I"⟩
abbrev cX8_both : ByteArray := prog_1_method_19_code
def yX8_both : MethodName := ⟨RX8, "both", "(II)I"⟩
abbrev cX8_box : ByteArray := prog_1_method_20_code
def yX8_box : MethodName := ⟨RX8, "box", "(III)Z"⟩
abbrev cX8_lead : ByteArray := prog_1_method_21_code
def yX8_lead : MethodName := ⟨RX8, "lead", "(IIII)Z"⟩
abbrev cX8_maybe : ByteArray := prog_1_method_22_code
def yX8_maybe : MethodName := ⟨RX8, "maybe", "(II)Z"⟩
abbrev cX8_push : ByteArray := prog_1_method_23_code
def yX8_push : MethodName := ⟨RX8, "push", "(II)I"⟩
abbrev cX8_way : ByteArray := prog_1_method_24_code
def yX8_way : MethodName := ⟨RX8, "way", "(II)I"⟩
abbrev cX8_button : ByteArray := prog_1_method_25_code
def yX8_button : MethodName := ⟨RX8, "button", "(I)I"⟩
abbrev cX8_told : ByteArray := prog_1_method_26_code
def yX8_told : MethodName := ⟨RX8, "told", "(II)I"⟩
abbrev cX8_count : ByteArray := prog_1_method_27_code
def yX8_count : MethodName := ⟨RX8, "count", "(I)I"⟩
abbrev cX8_makeAt : ByteArray := prog_1_method_28_code
def yX8_makeAt : MethodName := ⟨RX8, "makeAt", "(I)LOneHandset$Make;"⟩
abbrev cX8_boxAt : ByteArray := prog_1_method_29_code
def yX8_boxAt : MethodName := ⟨RX8, "boxAt", "(I)LOneHandset$Box;"⟩
abbrev cX8_within : ByteArray := prog_1_method_30_code
def yX8_within : MethodName := ⟨RX8, "within", "(III)Z"⟩
abbrev cX8_isNumber : ByteArray := prog_1_method_31_code
def yX8_isNumber : MethodName := ⟨RX8, "isNumber", "(I)Z"⟩
abbrev cX8_isTime : ByteArray := prog_1_method_32_code
def yX8_isTime : MethodName := ⟨RX8, "isTime", "(I)Z"⟩
abbrev cX8_lowBits : ByteArray := prog_1_method_33_code
def yX8_lowBits : MethodName := ⟨RX8, "lowBits", "(I)I"⟩
abbrev cX8_fault : ByteArray := prog_1_method_34_code
def yX8_fault : MethodName := ⟨RX8, "fault", "(I)I"⟩
abbrev cX8_fits : ByteArray := prog_1_method_35_code
def yX8_fits : MethodName := ⟨RX8, "fits", "(III)Z"⟩
abbrev cX8_nearerOf : ByteArray := prog_1_method_36_code
def yX8_nearerOf : MethodName := ⟨RX8, "nearerOf", "(IIII)I"⟩
def RX9 : String := "OneHandsetModel"
def TX9 : u_T := fun k => match k with
  | 0 => ("OneHandsetModel", "tape", "[I", true)
  | 1 => ("OneHandsetModel", "taped", "I", false)
  | 2 => ("OneHandsetModel", "makes", "[I", true)
  | 3 => ("OneHandsetModel", "makeMany", "I", false)
  | 4 => ("OneHandsetModel", "keys", "[I", true)
  | 5 => ("OneHandsetModel", "states", "[I", true)
  | 6 => ("OneHandsetModel", "buttons", "[I", true)
  | 7 => ("OneHandsetModel", "leads", "[I", true)
  | 8 => ("OneHandsetModel", "sets", "[I", true)
  | 9 => ("OneHandsetModel", "way", "[I", true)
  | 10 => ("OneHandsetModel", "wayMany", "I", false)
  | 11 => ("OneHandsetModel", "faultAt", "I", false)
  | 12 => ("OneHandsetModel", "thrown", "I", false)
  | 13 => ("OneHandsetModel", "seen", "I", false)
  | 14 => ("OneHandsetModel", "queue", "[I", true)
  | 15 => ("OneHandsetModel", "from", "[I", true)
  | _ => ("OneHandsetModel", "by", "[I", true)
def tyX9 : Nat → FieldType := fun k => match k with
  | 0 => .array .int
  | 1 => .int
  | 2 => .array .int
  | 3 => .int
  | 4 => .array .int
  | 5 => .array .int
  | 6 => .array .int
  | 7 => .array .int
  | 8 => .array .int
  | 9 => .array .int
  | 10 => .int
  | 11 => .int
  | 12 => .int
  | 13 => .int
  | 14 => .array .int
  | 15 => .array .int
  | _ => .array .int
abbrev wsX90 : List Cond := u_ws RX9 TX9 17
theorem nmX9 : ∀ a, a < 17 → ∀ b, b < 17 → a ≠ b → (TX9 a).2.1 ≠ (TX9 b).2.1 := by decide +kernel
theorem tyX9_ok : ∀ k, k < 17 → parseFieldDescriptor (TX9 k).2.2.1 = some (tyX9 k) := by decide +kernel
abbrev cX9_init : ByteArray := prog_11_method_1_code
def yX9_init : MethodName := ⟨RX9, "<init>", "()V"⟩
abbrev cX9_thrown : ByteArray := prog_11_method_2_code
def yX9_thrown : MethodName := ⟨RX9, "thrown", "()I"⟩
abbrev cX9_in : ByteArray := prog_11_method_3_code
def yX9_in : MethodName := ⟨RX9, "in", "(III)Z"⟩
abbrev cX9_isMake : ByteArray := prog_11_method_4_code
def yX9_isMake : MethodName := ⟨RX9, "isMake", "(I)Z"⟩
abbrev cX9_get : ByteArray := prog_11_method_5_code
def yX9_get : MethodName := ⟨RX9, "get", "(II)I"⟩
abbrev cX9_make : ByteArray := prog_11_method_6_code
def yX9_make : MethodName := ⟨RX9, "make", "(IIIIIII)I"⟩
abbrev cX9_set : ByteArray := prog_11_method_7_code
def yX9_set : MethodName := ⟨RX9, "set", "(III)Z"⟩
abbrev cX9_feed : ByteArray := prog_11_method_8_code
def yX9_feed : MethodName := ⟨RX9, "feed", "(IIIII)I"⟩
abbrev cX9_end : ByteArray := prog_11_method_9_code
def yX9_end : MethodName := ⟨RX9, "end", "(I)Z"⟩
abbrev cX9_lay : ByteArray := prog_11_method_10_code
def yX9_lay : MethodName := ⟨RX9, "lay", "(I)V"⟩
abbrev cX9_isOn : ByteArray := prog_11_method_11_code
def yX9_isOn : MethodName := ⟨RX9, "isOn", "(III)Z"⟩
abbrev cX9_layHalves : ByteArray := prog_11_method_12_code
def yX9_layHalves : MethodName := ⟨RX9, "layHalves", "(III)V"⟩
abbrev cX9_flash : ByteArray := prog_11_method_13_code
def yX9_flash : MethodName := ⟨RX9, "flash", "(II)V"⟩
abbrev cX9_send : ByteArray := prog_11_method_14_code
def yX9_send : MethodName := ⟨RX9, "send", "(II)I"⟩
abbrev cX9_time : ByteArray := prog_11_method_15_code
def yX9_time : MethodName := ⟨RX9, "time", "(I)I"⟩
abbrev cX9_isTime : ByteArray := prog_11_method_16_code
def yX9_isTime : MethodName := ⟨RX9, "isTime", "(I)Z"⟩
abbrev cX9_fits : ByteArray := prog_11_method_17_code
def yX9_fits : MethodName := ⟨RX9, "fits", "(III)Z"⟩
abbrev cX9_which : ByteArray := prog_11_method_18_code
def yX9_which : MethodName := ⟨RX9, "which", "(IIII)I"⟩
abbrev cX9_fault : ByteArray := prog_11_method_19_code
def yX9_fault : MethodName := ⟨RX9, "fault", "(I)I"⟩
abbrev cX9_readBits : ByteArray := prog_11_method_20_code
def yX9_readBits : MethodName := ⟨RX9, "readBits", "(I)I"⟩
abbrev cX9_readHalves : ByteArray := prog_11_method_21_code
def yX9_readHalves : MethodName := ⟨RX9, "readHalves", "(I)I"⟩
abbrev cX9_readBy : ByteArray := prog_11_method_22_code
def yX9_readBy : MethodName := ⟨RX9, "readBy", "(I)I"⟩
abbrev cX9_read : ByteArray := prog_11_method_23_code
def yX9_read : MethodName := ⟨RX9, "read", "(I)I"⟩
abbrev cX9_which_ : ByteArray := prog_11_method_24_code
def yX9_which_ : MethodName := ⟨RX9, "which", "()I"⟩
abbrev cX9_stretch : ByteArray := prog_11_method_25_code
def yX9_stretch : MethodName := ⟨RX9, "stretch", "(I)Z"⟩
abbrev cX9_isKey : ByteArray := prog_11_method_26_code
def yX9_isKey : MethodName := ⟨RX9, "isKey", "(II)Z"⟩
abbrev cX9_flipOf : ByteArray := prog_11_method_27_code
def yX9_flipOf : MethodName := ⟨RX9, "flipOf", "(I)I"⟩
abbrev cX9_learn : ByteArray := prog_11_method_28_code
def yX9_learn : MethodName := ⟨RX9, "learn", "(II)I"⟩
abbrev cX9_forget : ByteArray := prog_11_method_29_code
def yX9_forget : MethodName := ⟨RX9, "forget", "(II)Z"⟩
abbrev cX9_key : ByteArray := prog_11_method_30_code
def yX9_key : MethodName := ⟨RX9, "key", "(II)I"⟩
abbrev cX9_press : ByteArray := prog_11_method_31_code
def yX9_press : MethodName := ⟨RX9, "press", "(II)I"⟩
abbrev cX9_learnt : ByteArray := prog_11_method_32_code
def yX9_learnt : MethodName := ⟨RX9, "learnt", "(I)I"⟩
abbrev cX9_some : ByteArray := prog_11_method_33_code
def yX9_some : MethodName := ⟨RX9, "some", "(I)I"⟩
abbrev cX9_fixed : ByteArray := prog_11_method_34_code
def yX9_fixed : MethodName := ⟨RX9, "fixed", "(I)I"⟩
abbrev cX9_of : ByteArray := prog_11_method_35_code
def yX9_of : MethodName := ⟨RX9, "of", "(II)I"⟩
abbrev cX9_sumOf : ByteArray := prog_11_method_36_code
def yX9_sumOf : MethodName := ⟨RX9, "sumOf", "(II)I"⟩
abbrev cX9_numberOf : ByteArray := prog_11_method_37_code
def yX9_numberOf : MethodName := ⟨RX9, "numberOf", "(III)I"⟩
abbrev cX9_checkOf : ByteArray := prog_11_method_38_code
def yX9_checkOf : MethodName := ⟨RX9, "checkOf", "(II)I"⟩
abbrev cX9_check : ByteArray := prog_11_method_39_code
def yX9_check : MethodName := ⟨RX9, "check", "(II)I"⟩
abbrev cX9_canForesee : ByteArray := prog_11_method_40_code
def yX9_canForesee : MethodName := ⟨RX9, "canForesee", "(I)Z"⟩
abbrev cX9_isForeseen : ByteArray := prog_11_method_41_code
def yX9_isForeseen : MethodName := ⟨RX9, "isForeseen", "(II)Z"⟩
abbrev cX9_go : ByteArray := prog_11_method_42_code
def yX9_go : MethodName := ⟨RX9, "go", "(II)I"⟩
abbrev cX9_many : ByteArray := prog_11_method_43_code
def yX9_many : MethodName := ⟨RX9, "many", "(I)I"⟩
abbrev cX9_foreseen : ByteArray := prog_11_method_44_code
def yX9_foreseen : MethodName := ⟨RX9, "foreseen", "(II)I"⟩
abbrev cX9_both : ByteArray := prog_11_method_45_code
def yX9_both : MethodName := ⟨RX9, "both", "(II)I"⟩
abbrev cX9_isBox : ByteArray := prog_11_method_46_code
def yX9_isBox : MethodName := ⟨RX9, "isBox", "(I)Z"⟩
abbrev cX9_box : ByteArray := prog_11_method_47_code
def yX9_box : MethodName := ⟨RX9, "box", "(III)Z"⟩
abbrev cX9_lead : ByteArray := prog_11_method_48_code
def yX9_lead : MethodName := ⟨RX9, "lead", "(IIII)Z"⟩
abbrev cX9_isSet : ByteArray := prog_11_method_49_code
def yX9_isSet : MethodName := ⟨RX9, "isSet", "(II)Z"⟩
abbrev cX9_maybe : ByteArray := prog_11_method_50_code
def yX9_maybe : MethodName := ⟨RX9, "maybe", "(II)Z"⟩
abbrev cX9_behind : ByteArray := prog_11_method_51_code
def yX9_behind : MethodName := ⟨RX9, "behind", "(III)I"⟩
abbrev cX9_push : ByteArray := prog_11_method_52_code
def yX9_push : MethodName := ⟨RX9, "push", "(II)I"⟩
abbrev cX9_way : ByteArray := prog_11_method_53_code
def yX9_way : MethodName := ⟨RX9, "way", "(II)I"⟩
abbrev cX9_tell : ByteArray := prog_11_method_54_code
def yX9_tell : MethodName := ⟨RX9, "tell", "(II)I"⟩
abbrev cX9_button : ByteArray := prog_11_method_55_code
def yX9_button : MethodName := ⟨RX9, "button", "(I)I"⟩
abbrev cX9_told : ByteArray := prog_11_method_56_code
def yX9_told : MethodName := ⟨RX9, "told", "(II)I"⟩
abbrev cX9_count : ByteArray := prog_11_method_57_code
def yX9_count : MethodName := ⟨RX9, "count", "(I)I"⟩
def RJ6 : String := "java/lang/Integer"
def TJ6 : u_T := fun k => match k with
  | _ => ("", "", "", false)
def tyJ6 : Nat → FieldType := fun k => match k with
  | _ => .int
abbrev wsJ60 : List Cond := u_ws RJ6 TJ6 0
theorem nmJ6 : ∀ a, a < 0 → ∀ b, b < 0 → a ≠ b → (TJ6 a).2.1 ≠ (TJ6 b).2.1 := by decide +kernel
theorem tyJ6_ok : ∀ k, k < 0 → parseFieldDescriptor (TJ6 k).2.2.1 = some (tyJ6 k) := by decide +kernel
abbrev cJ6_bitCount_0f7a4 : ByteArray := prog_13_method_49_code
def yJ6_bitCount_0f7a4 : MethodName := ⟨RJ6, "bitCount", "(I)I"⟩
def RJ9 : String := "java/lang/Math"
def TJ9 : u_T := fun k => match k with
  | _ => ("", "", "", false)
def tyJ9 : Nat → FieldType := fun k => match k with
  | _ => .int
abbrev wsJ90 : List Cond := u_ws RJ9 TJ9 0
theorem nmJ9 : ∀ a, a < 0 → ∀ b, b < 0 → a ≠ b → (TJ9 a).2.1 ≠ (TJ9 b).2.1 := by decide +kernel
theorem tyJ9_ok : ∀ k, k < 0 → parseFieldDescriptor (TJ9 k).2.2.1 = some (tyJ9 k) := by decide +kernel
abbrev cJ9_abs_0f7a4 : ByteArray := prog_14_method_59_code
def yJ9_abs_0f7a4 : MethodName := ⟨RJ9, "abs", "(I)I"⟩
abbrev cJ9_max_7cf53 : ByteArray := prog_14_method_65_code
def yJ9_max_7cf53 : MethodName := ⟨RJ9, "max", "(II)I"⟩
abbrev cJ9_min_7cf53 : ByteArray := prog_14_method_69_code
def yJ9_min_7cf53 : MethodName := ⟨RJ9, "min", "(II)I"⟩
def RJ7 : String := "java/util/Arrays"
def TJ7 : u_T := fun k => match k with
  | _ => ("", "", "", false)
def tyJ7 : Nat → FieldType := fun k => match k with
  | _ => .int
abbrev wsJ70 : List Cond := u_ws RJ7 TJ7 0
theorem nmJ7 : ∀ a, a < 0 → ∀ b, b < 0 → a ≠ b → (TJ7 a).2.1 ≠ (TJ7 b).2.1 := by decide +kernel
theorem tyJ7_ok : ∀ k, k < 0 → parseFieldDescriptor (TJ7 k).2.2.1 = some (tyJ7 k) := by decide +kernel
abbrev cJ7_fill_53178 : ByteArray := prog_17_method_103_code
def yJ7_fill_53178 : MethodName := ⟨RJ7, "fill", "([II)V"⟩
def RL : String := "OneHandsetLaw"
abbrev cL_time : ByteArray := method_3_code
def yL_time : MethodName := ⟨RL, "time", "(LOneHandset;I[J)I"⟩
abbrev cL_law : ByteArray := code
def yL_law : MethodName := ⟨RL, "law", "([I)Z"⟩
def wsX8_lowBits : List Cond := .code yX8_lowBits cX8_lowBits 1 (some .int) :: ([])
def wsJ7_fill_53178 : List Cond := .code yJ7_fill_53178 cJ7_fill_53178 4 none :: ([])
def wsX0_startAnew : List Cond := .code yX0_startAnew cX0_startAnew 3 none :: ([.fieldLink RX0 19 "OneHandset$Box" "states" "I", .fieldLink RX0 23 "OneHandset$Box" "buttons" "I", .fieldLink RX0 30 "OneHandset$Box" "maybe" "I", .fieldLink RX0 9 "OneHandset$Box" "leads" "[I", .static yX8_lowBits, .initialized RX8, .code yX8_lowBits cX8_lowBits 1 (some .int), .methodLink RX0 33 yJ7_fill_53178, .static yJ7_fill_53178, .initialized RJ7, .code yJ7_fill_53178 cJ7_fill_53178 4 none] ++ wsX00)
def wsX0_init : List Cond := .code yX0_init cX0_init 1 none :: ([.methodLink RX0 3 objectInit, .instanceMethod objectInit, .code objectInit ⟨#[0xb1]⟩ 1 none, .arrayClass .int, .fieldLink RX0 9 "OneHandset$Box" "leads" "[I", .methodLink RX0 15 yX0_startAnew, .instanceMethod yX0_startAnew, .selects RX0 yX0_startAnew yX0_startAnew, .initialized RX0, .code yX0_startAnew cX0_startAnew 3 none, .fieldLink RX0 19 "OneHandset$Box" "states" "I", .fieldLink RX0 23 "OneHandset$Box" "buttons" "I", .fieldLink RX0 30 "OneHandset$Box" "maybe" "I", .static yX8_lowBits, .initialized RX8, .code yX8_lowBits cX8_lowBits 1 (some .int), .methodLink RX0 33 yJ7_fill_53178, .static yJ7_fill_53178, .initialized RJ7, .code yJ7_fill_53178 cJ7_fill_53178 4 none] ++ wsX00)
def wsX8_within : List Cond := .code yX8_within cX8_within 3 (some .boolean) :: ([])
def wsX0_hasState : List Cond := .code yX0_hasState cX0_hasState 2 (some .boolean) :: ([.fieldLink RX0 19 "OneHandset$Box" "states" "I", .static yX8_within, .initialized RX8, .code yX8_within cX8_within 3 (some .boolean)] ++ wsX00)
def wsX0_hasButton : List Cond := .code yX0_hasButton cX0_hasButton 2 (some .boolean) :: ([.fieldLink RX0 23 "OneHandset$Box" "buttons" "I", .static yX8_within, .initialized RX8, .code yX8_within cX8_within 3 (some .boolean)] ++ wsX00)
def wsX0_hasSet : List Cond := .code yX0_hasSet cX0_hasSet 2 (some .boolean) :: ([.fieldLink RX0 19 "OneHandset$Box" "states" "I", .static yX8_lowBits, .initialized RX8, .code yX8_lowBits cX8_lowBits 1 (some .int), .static yX8_within, .code yX8_within cX8_within 3 (some .boolean)] ++ wsX00)
def wsX0_setLead : List Cond := .code yX0_setLead cX0_setLead 4 none :: ([.fieldLink RX0 9 "OneHandset$Box" "leads" "[I", .methodLink RX0 43 yX0_hasState, .instanceMethod yX0_hasState, .selects RX0 yX0_hasState yX0_hasState, .initialized RX0, .code yX0_hasState cX0_hasState 2 (some .boolean), .fieldLink RX0 19 "OneHandset$Box" "states" "I", .static yX8_within, .initialized RX8, .code yX8_within cX8_within 3 (some .boolean), .methodLink RX0 47 yX0_hasButton, .instanceMethod yX0_hasButton, .selects RX0 yX0_hasButton yX0_hasButton, .code yX0_hasButton cX0_hasButton 2 (some .boolean), .fieldLink RX0 23 "OneHandset$Box" "buttons" "I"] ++ wsX00)
def wsX0_behind : List Cond := .code yX0_behind cX0_behind 5 (some .int) :: ([.fieldLink RX0 19 "OneHandset$Box" "states" "I", .fieldLink RX0 9 "OneHandset$Box" "leads" "[I", .methodLink RX0 47 yX0_hasButton, .instanceMethod yX0_hasButton, .selects RX0 yX0_hasButton yX0_hasButton, .initialized RX0, .code yX0_hasButton cX0_hasButton 2 (some .boolean), .fieldLink RX0 23 "OneHandset$Box" "buttons" "I", .static yX8_within, .initialized RX8, .code yX8_within cX8_within 3 (some .boolean)] ++ wsX00)
def wsX1_init : List Cond := .code yX1_init cX1_init 1 none :: ([.methodLink RX1 1 objectInit, .instanceMethod objectInit, .code objectInit ⟨#[0xb1]⟩ 1 none])
def wsX2_init : List Cond := .code yX2_init cX2_init 3 none :: ([.fieldLink RX2 9 "OneHandset$HalvesForm" "bits" "I", .fieldLink RX2 15 "OneHandset$HalvesForm" "p" "I", .instanceMethod yX1_init, .initialized RX1, .code yX1_init cX1_init 1 none, .methodLink RX1 1 objectInit, .instanceMethod objectInit, .code objectInit ⟨#[0xb1]⟩ 1 none] ++ wsX20)
def wsX2_isOn : List Cond := .code yX2_isOn cX2_isOn 4 (some .boolean) :: ([.fieldLink RX2 9 "OneHandset$HalvesForm" "bits" "I"] ++ wsX20)
def wsX7_append : List Cond := .code yX7_append cX7_append 2 none :: ([.fieldLink RX7 15 "OneHandset$Tape" "size" "I", .fieldLink RX7 9 "OneHandset$Tape" "times" "[I"] ++ wsX70)
def wsX7_lengthenLast : List Cond := .code yX7_lengthenLast cX7_lengthenLast 2 none :: ([.fieldLink RX7 15 "OneHandset$Tape" "size" "I", .fieldLink RX7 9 "OneHandset$Tape" "times" "[I"] ++ wsX70)
def wsX2_write : List Cond := .code yX2_write cX2_write 5 none :: ([.fieldLink RX2 9 "OneHandset$HalvesForm" "bits" "I", .fieldLink RX2 15 "OneHandset$HalvesForm" "p" "I", .methodLink RX2 18 yX2_isOn, .instanceMethod yX2_isOn, .selects RX2 yX2_isOn yX2_isOn, .initialized RX2, .code yX2_isOn cX2_isOn 4 (some .boolean), .methodLink RX2 22 yX7_append, .instanceMethod yX7_append, .selects RX7 yX7_append yX7_append, .initialized RX7, .code yX7_append cX7_append 2 none, .fieldLink RX7 15 "OneHandset$Tape" "size" "I", .fieldLink RX7 9 "OneHandset$Tape" "times" "[I", .methodLink RX2 28 yX7_lengthenLast, .instanceMethod yX7_lengthenLast, .selects RX7 yX7_lengthenLast yX7_lengthenLast, .code yX7_lengthenLast cX7_lengthenLast 2 none] ++ wsX20 ++ wsX70)
def wsX7_at : List Cond := .code yX7_at cX7_at 2 (some .int) :: ([.fieldLink RX7 15 "OneHandset$Tape" "size" "I", .fieldLink RX7 9 "OneHandset$Tape" "times" "[I", .static yX8_within, .initialized RX8, .code yX8_within cX8_within 3 (some .boolean)] ++ wsX70)
def wsX8_isTime : List Cond := .code yX8_isTime cX8_isTime 1 (some .boolean) :: ([.methodLink RX8 40 yX8_within, .static yX8_within, .initialized RX8, .code yX8_within cX8_within 3 (some .boolean)])
def wsX8_fits : List Cond := .code yX8_fits cX8_fits 3 (some .boolean) :: ([.methodLink RX8 202 Lib.Math.abs.name, .static Lib.Math.abs.name, .initialized "java/lang/Math", .code Lib.Math.abs.name Lib.Math.abs.code 1 (some .int), .methodLink RX8 199 yX8_isTime, .static yX8_isTime, .initialized RX8, .code yX8_isTime cX8_isTime 1 (some .boolean), .methodLink RX8 40 yX8_within, .static yX8_within, .code yX8_within cX8_within 3 (some .boolean)])
def wsX8_nearerOf : List Cond := .code yX8_nearerOf cX8_nearerOf 6 (some .int) :: ([.methodLink RX8 202 Lib.Math.abs.name, .static Lib.Math.abs.name, .initialized "java/lang/Math", .code Lib.Math.abs.name Lib.Math.abs.code 1 (some .int), .methodLink RX8 207 yX8_fits, .static yX8_fits, .initialized RX8, .code yX8_fits cX8_fits 3 (some .boolean), .methodLink RX8 199 yX8_isTime, .static yX8_isTime, .code yX8_isTime cX8_isTime 1 (some .boolean), .methodLink RX8 40 yX8_within, .static yX8_within, .code yX8_within cX8_within 3 (some .boolean)])
def wsX8_fault : List Cond := .code yX8_fault cX8_fault 1 (some .int) :: ([])
def wsX2_decode_r1 : List Cond := [Cond.fieldLink RX2 15 "OneHandset$HalvesForm" "p" "I", Cond.fieldLink RX2 9 "OneHandset$HalvesForm" "bits" "I", Cond.methodLink RX2 34 yX7_at, Cond.instanceMethod yX7_at, Cond.selects RX7 yX7_at yX7_at, Cond.initialized RX7, Cond.code yX7_at cX7_at 2 (some .int), Cond.fieldLink RX7 15 "OneHandset$Tape" "size" "I", Cond.fieldLink RX7 9 "OneHandset$Tape" "times" "[I", Cond.static yX8_within, Cond.initialized RX8, Cond.code yX8_within cX8_within 3 (some .boolean), Cond.static yX8_nearerOf, Cond.code yX8_nearerOf cX8_nearerOf 6 (some .int), Cond.methodLink RX8 202 Lib.Math.abs.name, Cond.static Lib.Math.abs.name, Cond.initialized "java/lang/Math", Cond.code Lib.Math.abs.name Lib.Math.abs.code 1 (some .int), Cond.methodLink RX8 207 yX8_fits, Cond.static yX8_fits, Cond.code yX8_fits cX8_fits 3 (some .boolean), Cond.methodLink RX8 199 yX8_isTime, Cond.static yX8_isTime, Cond.code yX8_isTime cX8_isTime 1 (some .boolean)]
def wsX2_decode_r2 : List Cond := [Cond.methodLink RX8 40 yX8_within, Cond.static yX8_fault, Cond.code yX8_fault cX8_fault 1 (some .int)]
def wsX2_decode : List Cond := .code yX2_decode cX2_decode 11 (some .int) :: ((wsX2_decode_r1 ++ wsX2_decode_r2) ++ wsX70 ++ wsX20)
def wsX3_flipMask : List Cond := .code yX3_flipMask cX3_flipMask 1 (some .int) :: ([.fieldLink RX3 26 "OneHandset$Keys" "flip" "I"] ++ wsX30)
def wsX3_isCheck : List Cond := .code yX3_isCheck cX3_isCheck 2 (some .boolean) :: ([.fieldLink RX3 18 "OneHandset$Keys" "bits" "I", .fieldLink RX3 26 "OneHandset$Keys" "flip" "I"] ++ wsX30)
def wsX3_isContrary : List Cond := .code yX3_isContrary cX3_isContrary 3 (some .boolean) :: ([.fieldLink RX3 18 "OneHandset$Keys" "bits" "I", .static yX8_lowBits, .initialized RX8, .code yX8_lowBits cX8_lowBits 1 (some .int)] ++ wsX30)
def wsX3_constantFor : List Cond := .code yX3_constantFor cX3_constantFor 3 (some .int) :: ([.methodLink RX3 79 yX3_isContrary, .instanceMethod yX3_isContrary, .selects RX3 yX3_isContrary yX3_isContrary, .initialized RX3, .code yX3_isContrary cX3_isContrary 3 (some .boolean), .fieldLink RX3 18 "OneHandset$Keys" "bits" "I", .static yX8_lowBits, .initialized RX8, .code yX8_lowBits cX8_lowBits 1 (some .int)] ++ wsX30)
def wsX3_commonConstant : List Cond := .code yX3_commonConstant cX3_commonConstant 6 (some .int) :: ([.fieldLink RX3 9 "OneHandset$Keys" "codes" "[I", .methodLink RX3 75 yX3_constantFor, .instanceMethod yX3_constantFor, .selects RX3 yX3_constantFor yX3_constantFor, .initialized RX3, .code yX3_constantFor cX3_constantFor 3 (some .int), .methodLink RX3 79 yX3_isContrary, .instanceMethod yX3_isContrary, .selects RX3 yX3_isContrary yX3_isContrary, .code yX3_isContrary cX3_isContrary 3 (some .boolean), .fieldLink RX3 18 "OneHandset$Keys" "bits" "I", .static yX8_lowBits, .initialized RX8, .code yX8_lowBits cX8_lowBits 1 (some .int)] ++ wsX30)
def wsX3_compareAll_r1 : List Cond := [Cond.fieldLink RX3 57 "OneHandset$Keys" "learnt" "I", Cond.fieldLink RX3 18 "OneHandset$Keys" "bits" "I", Cond.fieldLink RX3 9 "OneHandset$Keys" "codes" "[I", Cond.fieldLink RX3 63 "OneHandset$Keys" "fixed" "I", Cond.fieldLink RX3 66 "OneHandset$Keys" "fixedOn" "I", Cond.fieldLink RX3 15 "OneHandset$Keys" "constants" "[I", Cond.static yX8_lowBits, Cond.initialized RX8, Cond.code yX8_lowBits cX8_lowBits 1 (some .int), Cond.methodLink RX3 49 yX3_flipMask, Cond.instanceMethod yX3_flipMask, Cond.selects RX3 yX3_flipMask yX3_flipMask, Cond.initialized RX3, Cond.code yX3_flipMask cX3_flipMask 1 (some .int), Cond.fieldLink RX3 26 "OneHandset$Keys" "flip" "I", Cond.methodLink RX3 69 yX3_isCheck, Cond.instanceMethod yX3_isCheck, Cond.selects RX3 yX3_isCheck yX3_isCheck, Cond.code yX3_isCheck cX3_isCheck 2 (some .boolean), Cond.methodLink RX3 72 yX3_commonConstant, Cond.instanceMethod yX3_commonConstant, Cond.selects RX3 yX3_commonConstant yX3_commonConstant, Cond.code yX3_commonConstant cX3_commonConstant 6 (some .int), Cond.methodLink RX3 75 yX3_constantFor]
def wsX3_compareAll_r2 : List Cond := [Cond.instanceMethod yX3_constantFor, Cond.selects RX3 yX3_constantFor yX3_constantFor, Cond.code yX3_constantFor cX3_constantFor 3 (some .int), Cond.methodLink RX3 79 yX3_isContrary, Cond.instanceMethod yX3_isContrary, Cond.selects RX3 yX3_isContrary yX3_isContrary, Cond.code yX3_isContrary cX3_isContrary 3 (some .boolean)]
def wsX3_compareAll : List Cond := .code yX3_compareAll cX3_compareAll 4 none :: ((wsX3_compareAll_r1 ++ wsX3_compareAll_r2) ++ wsX30)
def wsX3_startWithFlip_r1 : List Cond := [Cond.fieldLink RX3 26 "OneHandset$Keys" "flip" "I", Cond.fieldLink RX3 29 "OneHandset$Keys" "flipBit" "I", Cond.fieldLink RX3 9 "OneHandset$Keys" "codes" "[I", Cond.methodLink RX3 32 yJ7_fill_53178, Cond.static yJ7_fill_53178, Cond.initialized RJ7, Cond.code yJ7_fill_53178 cJ7_fill_53178 4 none, Cond.methodLink RX3 38 yX3_compareAll, Cond.instanceMethod yX3_compareAll, Cond.selects RX3 yX3_compareAll yX3_compareAll, Cond.initialized RX3, Cond.code yX3_compareAll cX3_compareAll 4 none, Cond.fieldLink RX3 57 "OneHandset$Keys" "learnt" "I", Cond.fieldLink RX3 18 "OneHandset$Keys" "bits" "I", Cond.fieldLink RX3 63 "OneHandset$Keys" "fixed" "I", Cond.fieldLink RX3 66 "OneHandset$Keys" "fixedOn" "I", Cond.fieldLink RX3 15 "OneHandset$Keys" "constants" "[I", Cond.static yX8_lowBits, Cond.initialized RX8, Cond.code yX8_lowBits cX8_lowBits 1 (some .int), Cond.methodLink RX3 49 yX3_flipMask, Cond.instanceMethod yX3_flipMask, Cond.selects RX3 yX3_flipMask yX3_flipMask, Cond.code yX3_flipMask cX3_flipMask 1 (some .int)]
def wsX3_startWithFlip_r2 : List Cond := [Cond.methodLink RX3 69 yX3_isCheck, Cond.instanceMethod yX3_isCheck, Cond.selects RX3 yX3_isCheck yX3_isCheck, Cond.code yX3_isCheck cX3_isCheck 2 (some .boolean), Cond.methodLink RX3 72 yX3_commonConstant, Cond.instanceMethod yX3_commonConstant, Cond.selects RX3 yX3_commonConstant yX3_commonConstant, Cond.code yX3_commonConstant cX3_commonConstant 6 (some .int), Cond.methodLink RX3 75 yX3_constantFor, Cond.instanceMethod yX3_constantFor, Cond.selects RX3 yX3_constantFor yX3_constantFor, Cond.code yX3_constantFor cX3_constantFor 3 (some .int), Cond.methodLink RX3 79 yX3_isContrary, Cond.instanceMethod yX3_isContrary, Cond.selects RX3 yX3_isContrary yX3_isContrary, Cond.code yX3_isContrary cX3_isContrary 3 (some .boolean)]
def wsX3_startWithFlip : List Cond := .code yX3_startWithFlip cX3_startWithFlip 2 none :: ((wsX3_startWithFlip_r1 ++ wsX3_startWithFlip_r2) ++ wsX30)
def wsX3_init_r1 : List Cond := [Cond.methodLink RX3 3 objectInit, Cond.instanceMethod objectInit, Cond.code objectInit ⟨#[0xb1]⟩ 1 none, Cond.arrayClass .int, Cond.fieldLink RX3 9 "OneHandset$Keys" "codes" "[I", Cond.fieldLink RX3 15 "OneHandset$Keys" "constants" "[I", Cond.fieldLink RX3 18 "OneHandset$Keys" "bits" "I", Cond.methodLink RX3 22 yX3_startWithFlip, Cond.instanceMethod yX3_startWithFlip, Cond.selects RX3 yX3_startWithFlip yX3_startWithFlip, Cond.initialized RX3, Cond.code yX3_startWithFlip cX3_startWithFlip 2 none, Cond.fieldLink RX3 26 "OneHandset$Keys" "flip" "I", Cond.fieldLink RX3 29 "OneHandset$Keys" "flipBit" "I", Cond.methodLink RX3 32 yJ7_fill_53178, Cond.static yJ7_fill_53178, Cond.initialized RJ7, Cond.code yJ7_fill_53178 cJ7_fill_53178 4 none, Cond.methodLink RX3 38 yX3_compareAll, Cond.instanceMethod yX3_compareAll, Cond.selects RX3 yX3_compareAll yX3_compareAll, Cond.code yX3_compareAll cX3_compareAll 4 none, Cond.fieldLink RX3 57 "OneHandset$Keys" "learnt" "I", Cond.fieldLink RX3 63 "OneHandset$Keys" "fixed" "I"]
def wsX3_init_r2 : List Cond := [Cond.fieldLink RX3 66 "OneHandset$Keys" "fixedOn" "I", Cond.static yX8_lowBits, Cond.initialized RX8, Cond.code yX8_lowBits cX8_lowBits 1 (some .int), Cond.methodLink RX3 49 yX3_flipMask, Cond.instanceMethod yX3_flipMask, Cond.selects RX3 yX3_flipMask yX3_flipMask, Cond.code yX3_flipMask cX3_flipMask 1 (some .int), Cond.methodLink RX3 69 yX3_isCheck, Cond.instanceMethod yX3_isCheck, Cond.selects RX3 yX3_isCheck yX3_isCheck, Cond.code yX3_isCheck cX3_isCheck 2 (some .boolean), Cond.methodLink RX3 72 yX3_commonConstant, Cond.instanceMethod yX3_commonConstant, Cond.selects RX3 yX3_commonConstant yX3_commonConstant, Cond.code yX3_commonConstant cX3_commonConstant 6 (some .int), Cond.methodLink RX3 75 yX3_constantFor, Cond.instanceMethod yX3_constantFor, Cond.selects RX3 yX3_constantFor yX3_constantFor, Cond.code yX3_constantFor cX3_constantFor 3 (some .int), Cond.methodLink RX3 79 yX3_isContrary, Cond.instanceMethod yX3_isContrary, Cond.selects RX3 yX3_isContrary yX3_isContrary, Cond.code yX3_isContrary cX3_isContrary 3 (some .boolean)]
def wsX3_init : List Cond := .code yX3_init cX3_init 2 none :: ((wsX3_init_r1 ++ wsX3_init_r2) ++ wsX30)
def wsX3_hasKey : List Cond := .code yX3_hasKey cX3_hasKey 2 (some .boolean) :: ([.static yX8_within, .initialized RX8, .code yX8_within cX8_within 3 (some .boolean)])
def wsX3_codeOf : List Cond := .code yX3_codeOf cX3_codeOf 2 (some .int) :: ([.fieldLink RX3 9 "OneHandset$Keys" "codes" "[I", .methodLink RX3 45 yX3_hasKey, .instanceMethod yX3_hasKey, .selects RX3 yX3_hasKey yX3_hasKey, .initialized RX3, .code yX3_hasKey cX3_hasKey 2 (some .boolean), .static yX8_within, .initialized RX8, .code yX8_within cX8_within 3 (some .boolean)] ++ wsX30)
def wsX3_take_r1 : List Cond := [Cond.fieldLink RX3 9 "OneHandset$Keys" "codes" "[I", Cond.methodLink RX3 49 yX3_flipMask, Cond.instanceMethod yX3_flipMask, Cond.selects RX3 yX3_flipMask yX3_flipMask, Cond.initialized RX3, Cond.code yX3_flipMask cX3_flipMask 1 (some .int), Cond.fieldLink RX3 26 "OneHandset$Keys" "flip" "I", Cond.methodLink RX3 45 yX3_hasKey, Cond.instanceMethod yX3_hasKey, Cond.selects RX3 yX3_hasKey yX3_hasKey, Cond.code yX3_hasKey cX3_hasKey 2 (some .boolean), Cond.static yX8_within, Cond.initialized RX8, Cond.code yX8_within cX8_within 3 (some .boolean), Cond.methodLink RX3 38 yX3_compareAll, Cond.instanceMethod yX3_compareAll, Cond.selects RX3 yX3_compareAll yX3_compareAll, Cond.code yX3_compareAll cX3_compareAll 4 none, Cond.fieldLink RX3 57 "OneHandset$Keys" "learnt" "I", Cond.fieldLink RX3 18 "OneHandset$Keys" "bits" "I", Cond.fieldLink RX3 63 "OneHandset$Keys" "fixed" "I", Cond.fieldLink RX3 66 "OneHandset$Keys" "fixedOn" "I", Cond.fieldLink RX3 15 "OneHandset$Keys" "constants" "[I", Cond.static yX8_lowBits]
def wsX3_take_r2 : List Cond := [Cond.code yX8_lowBits cX8_lowBits 1 (some .int), Cond.methodLink RX3 69 yX3_isCheck, Cond.instanceMethod yX3_isCheck, Cond.selects RX3 yX3_isCheck yX3_isCheck, Cond.code yX3_isCheck cX3_isCheck 2 (some .boolean), Cond.methodLink RX3 72 yX3_commonConstant, Cond.instanceMethod yX3_commonConstant, Cond.selects RX3 yX3_commonConstant yX3_commonConstant, Cond.code yX3_commonConstant cX3_commonConstant 6 (some .int), Cond.methodLink RX3 75 yX3_constantFor, Cond.instanceMethod yX3_constantFor, Cond.selects RX3 yX3_constantFor yX3_constantFor, Cond.code yX3_constantFor cX3_constantFor 3 (some .int), Cond.methodLink RX3 79 yX3_isContrary, Cond.instanceMethod yX3_isContrary, Cond.selects RX3 yX3_isContrary yX3_isContrary, Cond.code yX3_isContrary cX3_isContrary 3 (some .boolean)]
def wsX3_take : List Cond := .code yX3_take cX3_take 4 (some .int) :: ((wsX3_take_r1 ++ wsX3_take_r2) ++ wsX30)
def wsX3_drop_r1 : List Cond := [Cond.fieldLink RX3 9 "OneHandset$Keys" "codes" "[I", Cond.methodLink RX3 53 yX3_codeOf, Cond.instanceMethod yX3_codeOf, Cond.selects RX3 yX3_codeOf yX3_codeOf, Cond.initialized RX3, Cond.code yX3_codeOf cX3_codeOf 2 (some .int), Cond.methodLink RX3 45 yX3_hasKey, Cond.instanceMethod yX3_hasKey, Cond.selects RX3 yX3_hasKey yX3_hasKey, Cond.code yX3_hasKey cX3_hasKey 2 (some .boolean), Cond.static yX8_within, Cond.initialized RX8, Cond.code yX8_within cX8_within 3 (some .boolean), Cond.methodLink RX3 38 yX3_compareAll, Cond.instanceMethod yX3_compareAll, Cond.selects RX3 yX3_compareAll yX3_compareAll, Cond.code yX3_compareAll cX3_compareAll 4 none, Cond.fieldLink RX3 57 "OneHandset$Keys" "learnt" "I", Cond.fieldLink RX3 18 "OneHandset$Keys" "bits" "I", Cond.fieldLink RX3 63 "OneHandset$Keys" "fixed" "I", Cond.fieldLink RX3 66 "OneHandset$Keys" "fixedOn" "I", Cond.fieldLink RX3 15 "OneHandset$Keys" "constants" "[I", Cond.static yX8_lowBits, Cond.code yX8_lowBits cX8_lowBits 1 (some .int)]
def wsX3_drop_r2 : List Cond := [Cond.methodLink RX3 49 yX3_flipMask, Cond.instanceMethod yX3_flipMask, Cond.selects RX3 yX3_flipMask yX3_flipMask, Cond.code yX3_flipMask cX3_flipMask 1 (some .int), Cond.fieldLink RX3 26 "OneHandset$Keys" "flip" "I", Cond.methodLink RX3 69 yX3_isCheck, Cond.instanceMethod yX3_isCheck, Cond.selects RX3 yX3_isCheck yX3_isCheck, Cond.code yX3_isCheck cX3_isCheck 2 (some .boolean), Cond.methodLink RX3 72 yX3_commonConstant, Cond.instanceMethod yX3_commonConstant, Cond.selects RX3 yX3_commonConstant yX3_commonConstant, Cond.code yX3_commonConstant cX3_commonConstant 6 (some .int), Cond.methodLink RX3 75 yX3_constantFor, Cond.instanceMethod yX3_constantFor, Cond.selects RX3 yX3_constantFor yX3_constantFor, Cond.code yX3_constantFor cX3_constantFor 3 (some .int), Cond.methodLink RX3 79 yX3_isContrary, Cond.instanceMethod yX3_isContrary, Cond.selects RX3 yX3_isContrary yX3_isContrary, Cond.code yX3_isContrary cX3_isContrary 3 (some .boolean)]
def wsX3_drop : List Cond := .code yX3_drop cX3_drop 2 (some .boolean) :: ((wsX3_drop_r1 ++ wsX3_drop_r2) ++ wsX30)
def wsX3_codeToSend : List Cond := .code yX3_codeToSend cX3_codeToSend 3 (some .int) :: ([.fieldLink RX3 29 "OneHandset$Keys" "flipBit" "I", .fieldLink RX3 26 "OneHandset$Keys" "flip" "I", .methodLink RX3 53 yX3_codeOf, .instanceMethod yX3_codeOf, .selects RX3 yX3_codeOf yX3_codeOf, .initialized RX3, .code yX3_codeOf cX3_codeOf 2 (some .int), .fieldLink RX3 9 "OneHandset$Keys" "codes" "[I", .methodLink RX3 45 yX3_hasKey, .instanceMethod yX3_hasKey, .selects RX3 yX3_hasKey yX3_hasKey, .code yX3_hasKey cX3_hasKey 2 (some .boolean), .static yX8_within, .initialized RX8, .code yX8_within cX8_within 3 (some .boolean), .methodLink RX3 49 yX3_flipMask, .instanceMethod yX3_flipMask, .selects RX3 yX3_flipMask yX3_flipMask, .code yX3_flipMask cX3_flipMask 1 (some .int)] ++ wsX30)
def wsX3_constantThatHolds : List Cond := .code yX3_constantThatHolds cX3_constantThatHolds 2 (some .int) :: ([.fieldLink RX3 15 "OneHandset$Keys" "constants" "[I", .static yX8_within, .initialized RX8, .code yX8_within cX8_within 3 (some .boolean)] ++ wsX30)
def wsX3_free : List Cond := .code yX3_free cX3_free 1 (some .int) :: ([.fieldLink RX3 18 "OneHandset$Keys" "bits" "I", .fieldLink RX3 63 "OneHandset$Keys" "fixed" "I", .static yX8_lowBits, .initialized RX8, .code yX8_lowBits cX8_lowBits 1 (some .int), .methodLink RX3 49 yX3_flipMask, .instanceMethod yX3_flipMask, .selects RX3 yX3_flipMask yX3_flipMask, .initialized RX3, .code yX3_flipMask cX3_flipMask 1 (some .int), .fieldLink RX3 26 "OneHandset$Keys" "flip" "I"] ++ wsX30)
def wsJ6_bitCount_0f7a4 : List Cond := .code yJ6_bitCount_0f7a4 cJ6_bitCount_0f7a4 1 (some .int) :: ([.constant RJ6 265 (1431655765), .constant RJ6 266 (858993459), .constant RJ6 267 (252645135)])
def wsX3_canForesee : List Cond := .code yX3_canForesee cX3_canForesee 1 (some .boolean) :: ([.fieldLink RX3 57 "OneHandset$Keys" "learnt" "I", .methodLink RX3 82 yX3_free, .instanceMethod yX3_free, .selects RX3 yX3_free yX3_free, .initialized RX3, .code yX3_free cX3_free 1 (some .int), .fieldLink RX3 18 "OneHandset$Keys" "bits" "I", .fieldLink RX3 63 "OneHandset$Keys" "fixed" "I", .static yX8_lowBits, .initialized RX8, .code yX8_lowBits cX8_lowBits 1 (some .int), .methodLink RX3 49 yX3_flipMask, .instanceMethod yX3_flipMask, .selects RX3 yX3_flipMask yX3_flipMask, .code yX3_flipMask cX3_flipMask 1 (some .int), .fieldLink RX3 26 "OneHandset$Keys" "flip" "I", .methodLink RX3 85 yJ6_bitCount_0f7a4, .static yJ6_bitCount_0f7a4, .initialized RJ6, .code yJ6_bitCount_0f7a4 cJ6_bitCount_0f7a4 1 (some .int), .constant RJ6 265 (1431655765), .constant RJ6 266 (858993459), .constant RJ6 267 (252645135)] ++ wsX30)
def wsX3_checksHoldFor : List Cond := .code yX3_checksHoldFor cX3_checksHoldFor 3 (some .boolean) :: ([.fieldLink RX3 15 "OneHandset$Keys" "constants" "[I", .methodLink RX3 75 yX3_constantFor, .instanceMethod yX3_constantFor, .selects RX3 yX3_constantFor yX3_constantFor, .initialized RX3, .code yX3_constantFor cX3_constantFor 3 (some .int), .methodLink RX3 79 yX3_isContrary, .instanceMethod yX3_isContrary, .selects RX3 yX3_isContrary yX3_isContrary, .code yX3_isContrary cX3_isContrary 3 (some .boolean), .fieldLink RX3 18 "OneHandset$Keys" "bits" "I", .static yX8_lowBits, .initialized RX8, .code yX8_lowBits cX8_lowBits 1 (some .int)] ++ wsX30)
def wsX3_foresees_r1 : List Cond := [Cond.fieldLink RX3 66 "OneHandset$Keys" "fixedOn" "I", Cond.methodLink RX3 82 yX3_free, Cond.instanceMethod yX3_free, Cond.selects RX3 yX3_free yX3_free, Cond.initialized RX3, Cond.code yX3_free cX3_free 1 (some .int), Cond.fieldLink RX3 18 "OneHandset$Keys" "bits" "I", Cond.fieldLink RX3 63 "OneHandset$Keys" "fixed" "I", Cond.static yX8_lowBits, Cond.initialized RX8, Cond.code yX8_lowBits cX8_lowBits 1 (some .int), Cond.methodLink RX3 49 yX3_flipMask, Cond.instanceMethod yX3_flipMask, Cond.selects RX3 yX3_flipMask yX3_flipMask, Cond.code yX3_flipMask cX3_flipMask 1 (some .int), Cond.fieldLink RX3 26 "OneHandset$Keys" "flip" "I", Cond.methodLink RX3 90 yX3_checksHoldFor, Cond.instanceMethod yX3_checksHoldFor, Cond.selects RX3 yX3_checksHoldFor yX3_checksHoldFor, Cond.code yX3_checksHoldFor cX3_checksHoldFor 3 (some .boolean), Cond.fieldLink RX3 15 "OneHandset$Keys" "constants" "[I", Cond.methodLink RX3 75 yX3_constantFor, Cond.instanceMethod yX3_constantFor, Cond.selects RX3 yX3_constantFor yX3_constantFor]
def wsX3_foresees_r2 : List Cond := [Cond.code yX3_constantFor cX3_constantFor 3 (some .int), Cond.methodLink RX3 79 yX3_isContrary, Cond.instanceMethod yX3_isContrary, Cond.selects RX3 yX3_isContrary yX3_isContrary, Cond.code yX3_isContrary cX3_isContrary 3 (some .boolean)]
def wsX3_foresees : List Cond := .code yX3_foresees cX3_foresees 2 (some .boolean) :: ((wsX3_foresees_r1 ++ wsX3_foresees_r2) ++ wsX30)
def wsX3_foreseenAbove_r1 : List Cond := [Cond.fieldLink RX3 66 "OneHandset$Keys" "fixedOn" "I", Cond.methodLink RX3 82 yX3_free, Cond.instanceMethod yX3_free, Cond.selects RX3 yX3_free yX3_free, Cond.initialized RX3, Cond.code yX3_free cX3_free 1 (some .int), Cond.fieldLink RX3 18 "OneHandset$Keys" "bits" "I", Cond.fieldLink RX3 63 "OneHandset$Keys" "fixed" "I", Cond.static yX8_lowBits, Cond.initialized RX8, Cond.code yX8_lowBits cX8_lowBits 1 (some .int), Cond.methodLink RX3 49 yX3_flipMask, Cond.instanceMethod yX3_flipMask, Cond.selects RX3 yX3_flipMask yX3_flipMask, Cond.code yX3_flipMask cX3_flipMask 1 (some .int), Cond.fieldLink RX3 26 "OneHandset$Keys" "flip" "I", Cond.methodLink RX3 85 yJ6_bitCount_0f7a4, Cond.static yJ6_bitCount_0f7a4, Cond.initialized RJ6, Cond.code yJ6_bitCount_0f7a4 cJ6_bitCount_0f7a4 1 (some .int), Cond.constant RJ6 265 (1431655765), Cond.constant RJ6 266 (858993459), Cond.constant RJ6 267 (252645135), Cond.methodLink RX3 90 yX3_checksHoldFor]
def wsX3_foreseenAbove_r2 : List Cond := [Cond.instanceMethod yX3_checksHoldFor, Cond.selects RX3 yX3_checksHoldFor yX3_checksHoldFor, Cond.code yX3_checksHoldFor cX3_checksHoldFor 3 (some .boolean), Cond.fieldLink RX3 15 "OneHandset$Keys" "constants" "[I", Cond.methodLink RX3 75 yX3_constantFor, Cond.instanceMethod yX3_constantFor, Cond.selects RX3 yX3_constantFor yX3_constantFor, Cond.code yX3_constantFor cX3_constantFor 3 (some .int), Cond.methodLink RX3 79 yX3_isContrary, Cond.instanceMethod yX3_isContrary, Cond.selects RX3 yX3_isContrary yX3_isContrary, Cond.code yX3_isContrary cX3_isContrary 3 (some .boolean)]
def wsX3_foreseenAbove : List Cond := .code yX3_foreseenAbove cX3_foreseenAbove 6 (some .int) :: ((wsX3_foreseenAbove_r1 ++ wsX3_foreseenAbove_r2) ++ wsX30)
def wsX3_foreseenCount_r1 : List Cond := [Cond.methodLink RX3 93 yX3_foreseenAbove, Cond.instanceMethod yX3_foreseenAbove, Cond.selects RX3 yX3_foreseenAbove yX3_foreseenAbove, Cond.initialized RX3, Cond.code yX3_foreseenAbove cX3_foreseenAbove 6 (some .int), Cond.fieldLink RX3 66 "OneHandset$Keys" "fixedOn" "I", Cond.methodLink RX3 82 yX3_free, Cond.instanceMethod yX3_free, Cond.selects RX3 yX3_free yX3_free, Cond.code yX3_free cX3_free 1 (some .int), Cond.fieldLink RX3 18 "OneHandset$Keys" "bits" "I", Cond.fieldLink RX3 63 "OneHandset$Keys" "fixed" "I", Cond.static yX8_lowBits, Cond.initialized RX8, Cond.code yX8_lowBits cX8_lowBits 1 (some .int), Cond.methodLink RX3 49 yX3_flipMask, Cond.instanceMethod yX3_flipMask, Cond.selects RX3 yX3_flipMask yX3_flipMask, Cond.code yX3_flipMask cX3_flipMask 1 (some .int), Cond.fieldLink RX3 26 "OneHandset$Keys" "flip" "I", Cond.methodLink RX3 85 yJ6_bitCount_0f7a4, Cond.static yJ6_bitCount_0f7a4, Cond.initialized RJ6, Cond.code yJ6_bitCount_0f7a4 cJ6_bitCount_0f7a4 1 (some .int)]
def wsX3_foreseenCount_r2 : List Cond := [Cond.constant RJ6 265 (1431655765), Cond.constant RJ6 266 (858993459), Cond.constant RJ6 267 (252645135), Cond.methodLink RX3 90 yX3_checksHoldFor, Cond.instanceMethod yX3_checksHoldFor, Cond.selects RX3 yX3_checksHoldFor yX3_checksHoldFor, Cond.code yX3_checksHoldFor cX3_checksHoldFor 3 (some .boolean), Cond.fieldLink RX3 15 "OneHandset$Keys" "constants" "[I", Cond.methodLink RX3 75 yX3_constantFor, Cond.instanceMethod yX3_constantFor, Cond.selects RX3 yX3_constantFor yX3_constantFor, Cond.code yX3_constantFor cX3_constantFor 3 (some .int), Cond.methodLink RX3 79 yX3_isContrary, Cond.instanceMethod yX3_isContrary, Cond.selects RX3 yX3_isContrary yX3_isContrary, Cond.code yX3_isContrary cX3_isContrary 3 (some .boolean)]
def wsX3_foreseenCount : List Cond := .code yX3_foreseenCount cX3_foreseenCount 3 (some .int) :: ((wsX3_foreseenCount_r1 ++ wsX3_foreseenCount_r2) ++ wsX30)
def wsX3_foreseenAt_r1 : List Cond := [Cond.static yX8_within, Cond.initialized RX8, Cond.code yX8_within cX8_within 3 (some .boolean), Cond.methodLink RX3 93 yX3_foreseenAbove, Cond.instanceMethod yX3_foreseenAbove, Cond.selects RX3 yX3_foreseenAbove yX3_foreseenAbove, Cond.initialized RX3, Cond.code yX3_foreseenAbove cX3_foreseenAbove 6 (some .int), Cond.fieldLink RX3 66 "OneHandset$Keys" "fixedOn" "I", Cond.methodLink RX3 82 yX3_free, Cond.instanceMethod yX3_free, Cond.selects RX3 yX3_free yX3_free, Cond.code yX3_free cX3_free 1 (some .int), Cond.fieldLink RX3 18 "OneHandset$Keys" "bits" "I", Cond.fieldLink RX3 63 "OneHandset$Keys" "fixed" "I", Cond.static yX8_lowBits, Cond.code yX8_lowBits cX8_lowBits 1 (some .int), Cond.methodLink RX3 49 yX3_flipMask, Cond.instanceMethod yX3_flipMask, Cond.selects RX3 yX3_flipMask yX3_flipMask, Cond.code yX3_flipMask cX3_flipMask 1 (some .int), Cond.fieldLink RX3 26 "OneHandset$Keys" "flip" "I", Cond.methodLink RX3 85 yJ6_bitCount_0f7a4, Cond.static yJ6_bitCount_0f7a4]
def wsX3_foreseenAt_r2 : List Cond := [Cond.initialized RJ6, Cond.code yJ6_bitCount_0f7a4 cJ6_bitCount_0f7a4 1 (some .int), Cond.constant RJ6 265 (1431655765), Cond.constant RJ6 266 (858993459), Cond.constant RJ6 267 (252645135), Cond.methodLink RX3 90 yX3_checksHoldFor, Cond.instanceMethod yX3_checksHoldFor, Cond.selects RX3 yX3_checksHoldFor yX3_checksHoldFor, Cond.code yX3_checksHoldFor cX3_checksHoldFor 3 (some .boolean), Cond.fieldLink RX3 15 "OneHandset$Keys" "constants" "[I", Cond.methodLink RX3 75 yX3_constantFor, Cond.instanceMethod yX3_constantFor, Cond.selects RX3 yX3_constantFor yX3_constantFor, Cond.code yX3_constantFor cX3_constantFor 3 (some .int), Cond.methodLink RX3 79 yX3_isContrary, Cond.instanceMethod yX3_isContrary, Cond.selects RX3 yX3_isContrary yX3_isContrary, Cond.code yX3_isContrary cX3_isContrary 3 (some .boolean)]
def wsX3_foreseenAt : List Cond := .code yX3_foreseenAt cX3_foreseenAt 4 (some .int) :: ((wsX3_foreseenAt_r1 ++ wsX3_foreseenAt_r2) ++ wsX30)
def wsX3_leastForeseenWith_r1 : List Cond := [Cond.methodLink RX3 93 yX3_foreseenAbove, Cond.instanceMethod yX3_foreseenAbove, Cond.selects RX3 yX3_foreseenAbove yX3_foreseenAbove, Cond.initialized RX3, Cond.code yX3_foreseenAbove cX3_foreseenAbove 6 (some .int), Cond.fieldLink RX3 66 "OneHandset$Keys" "fixedOn" "I", Cond.methodLink RX3 82 yX3_free, Cond.instanceMethod yX3_free, Cond.selects RX3 yX3_free yX3_free, Cond.code yX3_free cX3_free 1 (some .int), Cond.fieldLink RX3 18 "OneHandset$Keys" "bits" "I", Cond.fieldLink RX3 63 "OneHandset$Keys" "fixed" "I", Cond.static yX8_lowBits, Cond.initialized RX8, Cond.code yX8_lowBits cX8_lowBits 1 (some .int), Cond.methodLink RX3 49 yX3_flipMask, Cond.instanceMethod yX3_flipMask, Cond.selects RX3 yX3_flipMask yX3_flipMask, Cond.code yX3_flipMask cX3_flipMask 1 (some .int), Cond.fieldLink RX3 26 "OneHandset$Keys" "flip" "I", Cond.methodLink RX3 85 yJ6_bitCount_0f7a4, Cond.static yJ6_bitCount_0f7a4, Cond.initialized RJ6, Cond.code yJ6_bitCount_0f7a4 cJ6_bitCount_0f7a4 1 (some .int)]
def wsX3_leastForeseenWith_r2 : List Cond := [Cond.constant RJ6 265 (1431655765), Cond.constant RJ6 266 (858993459), Cond.constant RJ6 267 (252645135), Cond.methodLink RX3 90 yX3_checksHoldFor, Cond.instanceMethod yX3_checksHoldFor, Cond.selects RX3 yX3_checksHoldFor yX3_checksHoldFor, Cond.code yX3_checksHoldFor cX3_checksHoldFor 3 (some .boolean), Cond.fieldLink RX3 15 "OneHandset$Keys" "constants" "[I", Cond.methodLink RX3 75 yX3_constantFor, Cond.instanceMethod yX3_constantFor, Cond.selects RX3 yX3_constantFor yX3_constantFor, Cond.code yX3_constantFor cX3_constantFor 3 (some .int), Cond.methodLink RX3 79 yX3_isContrary, Cond.instanceMethod yX3_isContrary, Cond.selects RX3 yX3_isContrary yX3_isContrary, Cond.code yX3_isContrary cX3_isContrary 3 (some .boolean), Cond.methodLink RX3 96 yX3_foresees, Cond.instanceMethod yX3_foresees, Cond.selects RX3 yX3_foresees yX3_foresees, Cond.code yX3_foresees cX3_foresees 2 (some .boolean)]
def wsX3_leastForeseenWith : List Cond := .code yX3_leastForeseenWith cX3_leastForeseenWith 4 (some .int) :: ((wsX3_leastForeseenWith_r1 ++ wsX3_leastForeseenWith_r2) ++ wsX30)
def wsX4_init_r1 : List Cond := [Cond.methodLink RX4 3 objectInit, Cond.instanceMethod objectInit, Cond.code objectInit ⟨#[0xb1]⟩ 1 none, Cond.fieldLink RX4 9 "OneHandset$Make" "miss" "I", Cond.fieldLink RX4 15 "OneHandset$Make" "kind" "I", Cond.fieldLink RX4 18 "OneHandset$Make" "bits" "I", Cond.fieldLink RX4 21 "OneHandset$Make" "form" "LOneHandset$Form;", Cond.classLink RX4 25 RX3, Cond.instantiable RX3 8, Cond.initialized RX3, Cond.fieldLink RX4 30 "OneHandset$Make" "keys" "LOneHandset$Keys;", Cond.methodLink RX4 27 yX3_init, Cond.instanceMethod yX3_init, Cond.code yX3_init cX3_init 2 none, Cond.methodLink RX3 3 objectInit, Cond.arrayClass .int, Cond.fieldLink RX3 9 "OneHandset$Keys" "codes" "[I", Cond.fieldLink RX3 15 "OneHandset$Keys" "constants" "[I", Cond.fieldLink RX3 18 "OneHandset$Keys" "bits" "I", Cond.methodLink RX3 22 yX3_startWithFlip, Cond.instanceMethod yX3_startWithFlip, Cond.selects RX3 yX3_startWithFlip yX3_startWithFlip, Cond.code yX3_startWithFlip cX3_startWithFlip 2 none, Cond.fieldLink RX3 26 "OneHandset$Keys" "flip" "I"]
def wsX4_init_r2 : List Cond := [Cond.fieldLink RX3 29 "OneHandset$Keys" "flipBit" "I", Cond.methodLink RX3 32 yJ7_fill_53178, Cond.static yJ7_fill_53178, Cond.initialized RJ7, Cond.code yJ7_fill_53178 cJ7_fill_53178 4 none, Cond.methodLink RX3 38 yX3_compareAll, Cond.instanceMethod yX3_compareAll, Cond.selects RX3 yX3_compareAll yX3_compareAll, Cond.code yX3_compareAll cX3_compareAll 4 none, Cond.fieldLink RX3 57 "OneHandset$Keys" "learnt" "I", Cond.fieldLink RX3 63 "OneHandset$Keys" "fixed" "I", Cond.fieldLink RX3 66 "OneHandset$Keys" "fixedOn" "I", Cond.static yX8_lowBits, Cond.initialized RX8, Cond.code yX8_lowBits cX8_lowBits 1 (some .int), Cond.methodLink RX3 49 yX3_flipMask, Cond.instanceMethod yX3_flipMask, Cond.selects RX3 yX3_flipMask yX3_flipMask, Cond.code yX3_flipMask cX3_flipMask 1 (some .int), Cond.methodLink RX3 69 yX3_isCheck, Cond.instanceMethod yX3_isCheck, Cond.selects RX3 yX3_isCheck yX3_isCheck, Cond.code yX3_isCheck cX3_isCheck 2 (some .boolean), Cond.methodLink RX3 72 yX3_commonConstant]
def wsX4_init_r3 : List Cond := [Cond.instanceMethod yX3_commonConstant, Cond.selects RX3 yX3_commonConstant yX3_commonConstant, Cond.code yX3_commonConstant cX3_commonConstant 6 (some .int), Cond.methodLink RX3 75 yX3_constantFor, Cond.instanceMethod yX3_constantFor, Cond.selects RX3 yX3_constantFor yX3_constantFor, Cond.code yX3_constantFor cX3_constantFor 3 (some .int), Cond.methodLink RX3 79 yX3_isContrary, Cond.instanceMethod yX3_isContrary, Cond.selects RX3 yX3_isContrary yX3_isContrary, Cond.code yX3_isContrary cX3_isContrary 3 (some .boolean)]
def wsX4_init : List Cond := .code yX4_init cX4_init 4 none :: ((wsX4_init_r1 ++ (wsX4_init_r2 ++ wsX4_init_r3)) ++ wsX40 ++ wsX30)
def wsX5_tellsBit : List Cond := .code yX5_tellsBit cX5_tellsBit 2 (some .boolean) :: ([.fieldLink RX5 9 "OneHandset$PairsForm" "onTellsBit" "Z"] ++ wsX50)
def wsX5_plainTime : List Cond := .code yX5_plainTime cX5_plainTime 2 (some .int) :: ([.fieldLink RX5 19 "OneHandset$PairsForm" "a" "I", .fieldLink RX5 22 "OneHandset$PairsForm" "b" "I", .fieldLink RX5 25 "OneHandset$PairsForm" "p" "I"] ++ wsX50)
def wsX5_write : List Cond := .code yX5_write cX5_write 5 none :: ([.fieldLink RX5 15 "OneHandset$PairsForm" "bits" "I", .fieldLink RX5 34 "OneHandset$PairsForm" "length" "I", .fieldLink RX5 28 "OneHandset$PairsForm" "z" "I", .fieldLink RX5 31 "OneHandset$PairsForm" "o" "I", .methodLink RX5 37 yX5_tellsBit, .instanceMethod yX5_tellsBit, .selects RX5 yX5_tellsBit yX5_tellsBit, .initialized RX5, .code yX5_tellsBit cX5_tellsBit 2 (some .boolean), .fieldLink RX5 9 "OneHandset$PairsForm" "onTellsBit" "Z", .methodLink RX5 41 yX7_append, .instanceMethod yX7_append, .selects RX7 yX7_append yX7_append, .initialized RX7, .code yX7_append cX7_append 2 none, .fieldLink RX7 15 "OneHandset$Tape" "size" "I", .fieldLink RX7 9 "OneHandset$Tape" "times" "[I", .methodLink RX5 47 yX5_plainTime, .instanceMethod yX5_plainTime, .selects RX5 yX5_plainTime yX5_plainTime, .code yX5_plainTime cX5_plainTime 2 (some .int), .fieldLink RX5 19 "OneHandset$PairsForm" "a" "I", .fieldLink RX5 22 "OneHandset$PairsForm" "b" "I", .fieldLink RX5 25 "OneHandset$PairsForm" "p" "I"] ++ wsX50 ++ wsX70)
def wsX4_flash_r1 : List Cond := [Cond.fieldLink RX4 21 "OneHandset$Make" "form" "LOneHandset$Form;", Cond.methodLink RX4 39 ⟨"OneHandset$Form", "write", "(ILOneHandset$Tape;)V"⟩, Cond.sameMethod "OneHandset$Form" "OneHandset$Form" "write" "(ILOneHandset$Tape;)V", Cond.selects RX2 ⟨"OneHandset$Form", "write", "(ILOneHandset$Tape;)V"⟩ yX2_write, Cond.instanceMethod yX2_write, Cond.initialized RX2, Cond.code yX2_write cX2_write 5 none, Cond.fieldLink RX2 9 "OneHandset$HalvesForm" "bits" "I", Cond.fieldLink RX2 15 "OneHandset$HalvesForm" "p" "I", Cond.methodLink RX2 18 yX2_isOn, Cond.instanceMethod yX2_isOn, Cond.selects RX2 yX2_isOn yX2_isOn, Cond.code yX2_isOn cX2_isOn 4 (some .boolean), Cond.methodLink RX2 22 yX7_append, Cond.instanceMethod yX7_append, Cond.selects RX7 yX7_append yX7_append, Cond.initialized RX7, Cond.code yX7_append cX7_append 2 none, Cond.fieldLink RX7 15 "OneHandset$Tape" "size" "I", Cond.fieldLink RX7 9 "OneHandset$Tape" "times" "[I", Cond.methodLink RX2 28 yX7_lengthenLast, Cond.instanceMethod yX7_lengthenLast, Cond.selects RX7 yX7_lengthenLast yX7_lengthenLast, Cond.code yX7_lengthenLast cX7_lengthenLast 2 none]
def wsX4_flash_r2 : List Cond := [Cond.selects RX5 ⟨"OneHandset$Form", "write", "(ILOneHandset$Tape;)V"⟩ yX5_write, Cond.instanceMethod yX5_write, Cond.initialized RX5, Cond.code yX5_write cX5_write 5 none, Cond.fieldLink RX5 15 "OneHandset$PairsForm" "bits" "I", Cond.fieldLink RX5 34 "OneHandset$PairsForm" "length" "I", Cond.fieldLink RX5 28 "OneHandset$PairsForm" "z" "I", Cond.fieldLink RX5 31 "OneHandset$PairsForm" "o" "I", Cond.methodLink RX5 37 yX5_tellsBit, Cond.instanceMethod yX5_tellsBit, Cond.selects RX5 yX5_tellsBit yX5_tellsBit, Cond.code yX5_tellsBit cX5_tellsBit 2 (some .boolean), Cond.fieldLink RX5 9 "OneHandset$PairsForm" "onTellsBit" "Z", Cond.methodLink RX5 41 yX7_append, Cond.methodLink RX5 47 yX5_plainTime, Cond.instanceMethod yX5_plainTime, Cond.selects RX5 yX5_plainTime yX5_plainTime, Cond.code yX5_plainTime cX5_plainTime 2 (some .int), Cond.fieldLink RX5 19 "OneHandset$PairsForm" "a" "I", Cond.fieldLink RX5 22 "OneHandset$PairsForm" "b" "I", Cond.fieldLink RX5 25 "OneHandset$PairsForm" "p" "I"]
def wsX4_flash : List Cond := .code yX4_flash cX4_flash 3 (some .int) :: ((wsX4_flash_r1 ++ wsX4_flash_r2) ++ wsX70 ++ wsX40 ++ wsX20 ++ wsX50)
def wsX5_decode_r1 : List Cond := [Cond.fieldLink RX5 34 "OneHandset$PairsForm" "length" "I", Cond.fieldLink RX5 28 "OneHandset$PairsForm" "z" "I", Cond.fieldLink RX5 31 "OneHandset$PairsForm" "o" "I", Cond.static yX8_fault, Cond.initialized RX8, Cond.code yX8_fault cX8_fault 1 (some .int), Cond.methodLink RX5 57 yX7_at, Cond.instanceMethod yX7_at, Cond.selects RX7 yX7_at yX7_at, Cond.initialized RX7, Cond.code yX7_at cX7_at 2 (some .int), Cond.fieldLink RX7 15 "OneHandset$Tape" "size" "I", Cond.fieldLink RX7 9 "OneHandset$Tape" "times" "[I", Cond.static yX8_within, Cond.code yX8_within cX8_within 3 (some .boolean), Cond.methodLink RX5 37 yX5_tellsBit, Cond.instanceMethod yX5_tellsBit, Cond.selects RX5 yX5_tellsBit yX5_tellsBit, Cond.initialized RX5, Cond.code yX5_tellsBit cX5_tellsBit 2 (some .boolean), Cond.fieldLink RX5 9 "OneHandset$PairsForm" "onTellsBit" "Z", Cond.static yX8_nearerOf, Cond.code yX8_nearerOf cX8_nearerOf 6 (some .int), Cond.methodLink RX8 202 Lib.Math.abs.name]
def wsX5_decode_r2 : List Cond := [Cond.static Lib.Math.abs.name, Cond.initialized "java/lang/Math", Cond.code Lib.Math.abs.name Lib.Math.abs.code 1 (some .int), Cond.methodLink RX8 207 yX8_fits, Cond.static yX8_fits, Cond.code yX8_fits cX8_fits 3 (some .boolean), Cond.methodLink RX8 199 yX8_isTime, Cond.static yX8_isTime, Cond.code yX8_isTime cX8_isTime 1 (some .boolean), Cond.methodLink RX8 40 yX8_within, Cond.methodLink RX5 47 yX5_plainTime, Cond.instanceMethod yX5_plainTime, Cond.selects RX5 yX5_plainTime yX5_plainTime, Cond.code yX5_plainTime cX5_plainTime 2 (some .int), Cond.fieldLink RX5 19 "OneHandset$PairsForm" "a" "I", Cond.fieldLink RX5 22 "OneHandset$PairsForm" "b" "I", Cond.fieldLink RX5 25 "OneHandset$PairsForm" "p" "I"]
def wsX5_decode : List Cond := .code yX5_decode cX5_decode 7 (some .int) :: ((wsX5_decode_r1 ++ wsX5_decode_r2) ++ wsX70 ++ wsX50)
def wsX4_decode_r1 : List Cond := [Cond.fieldLink RX4 21 "OneHandset$Make" "form" "LOneHandset$Form;", Cond.fieldLink RX4 9 "OneHandset$Make" "miss" "I", Cond.methodLink RX4 45 ⟨"OneHandset$Form", "decode", "(LOneHandset$Tape;I)I"⟩, Cond.sameMethod "OneHandset$Form" "OneHandset$Form" "decode" "(LOneHandset$Tape;I)I", Cond.selects RX2 ⟨"OneHandset$Form", "decode", "(LOneHandset$Tape;I)I"⟩ yX2_decode, Cond.instanceMethod yX2_decode, Cond.initialized RX2, Cond.code yX2_decode cX2_decode 11 (some .int), Cond.fieldLink RX2 15 "OneHandset$HalvesForm" "p" "I", Cond.fieldLink RX2 9 "OneHandset$HalvesForm" "bits" "I", Cond.methodLink RX2 34 yX7_at, Cond.instanceMethod yX7_at, Cond.selects RX7 yX7_at yX7_at, Cond.initialized RX7, Cond.code yX7_at cX7_at 2 (some .int), Cond.fieldLink RX7 15 "OneHandset$Tape" "size" "I", Cond.fieldLink RX7 9 "OneHandset$Tape" "times" "[I", Cond.static yX8_within, Cond.initialized RX8, Cond.code yX8_within cX8_within 3 (some .boolean), Cond.static yX8_nearerOf, Cond.code yX8_nearerOf cX8_nearerOf 6 (some .int), Cond.methodLink RX8 202 Lib.Math.abs.name, Cond.static Lib.Math.abs.name]
def wsX4_decode_r2 : List Cond := [Cond.initialized "java/lang/Math", Cond.code Lib.Math.abs.name Lib.Math.abs.code 1 (some .int), Cond.methodLink RX8 207 yX8_fits, Cond.static yX8_fits, Cond.code yX8_fits cX8_fits 3 (some .boolean), Cond.methodLink RX8 199 yX8_isTime, Cond.static yX8_isTime, Cond.code yX8_isTime cX8_isTime 1 (some .boolean), Cond.methodLink RX8 40 yX8_within, Cond.static yX8_fault, Cond.code yX8_fault cX8_fault 1 (some .int), Cond.selects RX5 ⟨"OneHandset$Form", "decode", "(LOneHandset$Tape;I)I"⟩ yX5_decode, Cond.instanceMethod yX5_decode, Cond.initialized RX5, Cond.code yX5_decode cX5_decode 7 (some .int), Cond.fieldLink RX5 34 "OneHandset$PairsForm" "length" "I", Cond.fieldLink RX5 28 "OneHandset$PairsForm" "z" "I", Cond.fieldLink RX5 31 "OneHandset$PairsForm" "o" "I", Cond.methodLink RX5 57 yX7_at, Cond.methodLink RX5 37 yX5_tellsBit, Cond.instanceMethod yX5_tellsBit, Cond.selects RX5 yX5_tellsBit yX5_tellsBit, Cond.code yX5_tellsBit cX5_tellsBit 2 (some .boolean), Cond.fieldLink RX5 9 "OneHandset$PairsForm" "onTellsBit" "Z"]
def wsX4_decode_r3 : List Cond := [Cond.methodLink RX5 47 yX5_plainTime, Cond.instanceMethod yX5_plainTime, Cond.selects RX5 yX5_plainTime yX5_plainTime, Cond.code yX5_plainTime cX5_plainTime 2 (some .int), Cond.fieldLink RX5 19 "OneHandset$PairsForm" "a" "I", Cond.fieldLink RX5 22 "OneHandset$PairsForm" "b" "I", Cond.fieldLink RX5 25 "OneHandset$PairsForm" "p" "I"]
def wsX4_decode : List Cond := .code yX4_decode cX4_decode 2 (some .int) :: ((wsX4_decode_r1 ++ (wsX4_decode_r2 ++ wsX4_decode_r3)) ++ wsX40 ++ wsX70 ++ wsX20 ++ wsX50)
def wsX5_init : List Cond := .code yX5_init cX5_init 8 none :: ([.fieldLink RX5 9 "OneHandset$PairsForm" "onTellsBit" "Z", .fieldLink RX5 15 "OneHandset$PairsForm" "bits" "I", .fieldLink RX5 19 "OneHandset$PairsForm" "a" "I", .fieldLink RX5 22 "OneHandset$PairsForm" "b" "I", .fieldLink RX5 25 "OneHandset$PairsForm" "p" "I", .fieldLink RX5 28 "OneHandset$PairsForm" "z" "I", .fieldLink RX5 31 "OneHandset$PairsForm" "o" "I", .fieldLink RX5 34 "OneHandset$PairsForm" "length" "I", .instanceMethod yX1_init, .initialized RX1, .code yX1_init cX1_init 1 none, .methodLink RX1 1 objectInit, .instanceMethod objectInit, .code objectInit ⟨#[0xb1]⟩ 1 none] ++ wsX50)
def wsX6_init : List Cond := .code yX6_init cX6_init 1 none :: ([.methodLink RX6 3 objectInit, .instanceMethod objectInit, .code objectInit ⟨#[0xb1]⟩ 1 none, .arrayClass .int, .fieldLink RX6 9 "OneHandset$Route" "row" "[I", .fieldLink RX6 15 "OneHandset$Route" "queue" "[I", .fieldLink RX6 18 "OneHandset$Route" "before" "[I", .fieldLink RX6 21 "OneHandset$Route" "by" "[I", .fieldLink RX6 24 "OneHandset$Route" "length" "I"] ++ wsX60)
def wsX6_keepRow : List Cond := .code yX6_keepRow cX6_keepRow 5 (some .int) :: ([.fieldLink RX6 24 "OneHandset$Route" "length" "I", .fieldLink RX6 18 "OneHandset$Route" "before" "[I", .fieldLink RX6 9 "OneHandset$Route" "row" "[I", .fieldLink RX6 21 "OneHandset$Route" "by" "[I"] ++ wsX60)
def wsX6_find_r1 : List Cond := [Cond.fieldLink RX6 18 "OneHandset$Route" "before" "[I", Cond.fieldLink RX6 15 "OneHandset$Route" "queue" "[I", Cond.fieldLink RX6 21 "OneHandset$Route" "by" "[I", Cond.methodLink RX6 28 yJ7_fill_53178, Cond.static yJ7_fill_53178, Cond.initialized RJ7, Cond.code yJ7_fill_53178 cJ7_fill_53178 4 none, Cond.methodLink RX6 39 yX6_keepRow, Cond.instanceMethod yX6_keepRow, Cond.selects RX6 yX6_keepRow yX6_keepRow, Cond.initialized RX6, Cond.code yX6_keepRow cX6_keepRow 5 (some .int), Cond.fieldLink RX6 24 "OneHandset$Route" "length" "I", Cond.fieldLink RX6 9 "OneHandset$Route" "row" "[I", Cond.methodLink RX6 46 yX0_behind, Cond.instanceMethod yX0_behind, Cond.selects RX0 yX0_behind yX0_behind, Cond.initialized RX0, Cond.code yX0_behind cX0_behind 5 (some .int), Cond.fieldLink RX0 19 "OneHandset$Box" "states" "I", Cond.fieldLink RX0 9 "OneHandset$Box" "leads" "[I", Cond.methodLink RX0 47 yX0_hasButton, Cond.instanceMethod yX0_hasButton, Cond.selects RX0 yX0_hasButton yX0_hasButton]
def wsX6_find_r2 : List Cond := [Cond.code yX0_hasButton cX0_hasButton 2 (some .boolean), Cond.fieldLink RX0 23 "OneHandset$Box" "buttons" "I", Cond.static yX8_within, Cond.initialized RX8, Cond.code yX8_within cX8_within 3 (some .boolean)]
def wsX6_find : List Cond := .code yX6_find cX6_find 9 (some .int) :: ((wsX6_find_r1 ++ wsX6_find_r2) ++ wsX60 ++ wsX00)
def wsX6_buttonAt : List Cond := .code yX6_buttonAt cX6_buttonAt 2 (some .int) :: ([.fieldLink RX6 24 "OneHandset$Route" "length" "I", .fieldLink RX6 9 "OneHandset$Route" "row" "[I", .static yX8_within, .initialized RX8, .code yX8_within cX8_within 3 (some .boolean)] ++ wsX60)
def wsX7_init : List Cond := .code yX7_init cX7_init 1 none :: ([.methodLink RX7 3 objectInit, .instanceMethod objectInit, .code objectInit ⟨#[0xb1]⟩ 1 none, .arrayClass .int, .fieldLink RX7 9 "OneHandset$Tape" "times" "[I", .fieldLink RX7 15 "OneHandset$Tape" "size" "I"] ++ wsX70)
def wsX7_stretchAll : List Cond := .code yX7_stretchAll cX7_stretchAll 4 none :: ([.fieldLink RX7 15 "OneHandset$Tape" "size" "I", .fieldLink RX7 9 "OneHandset$Tape" "times" "[I", .methodLink RX7 27 Lib.Math.min.name, .static Lib.Math.min.name, .initialized "java/lang/Math", .code Lib.Math.min.name Lib.Math.min.code 2 (some .int), .methodLink RX7 33 Lib.Math.max.name, .static Lib.Math.max.name, .code Lib.Math.max.name Lib.Math.max.code 2 (some .int), .static yX8_isTime, .initialized RX8, .code yX8_isTime cX8_isTime 1 (some .boolean), .methodLink RX8 40 yX8_within, .static yX8_within, .code yX8_within cX8_within 3 (some .boolean)] ++ wsX70)
def wsX8_init_r1 : List Cond := [Cond.methodLink RX8 3 objectInit, Cond.instanceMethod objectInit, Cond.code objectInit ⟨#[0xb1]⟩ 1 none, Cond.classLink RX8 9 RX7, Cond.instantiable RX7 2, Cond.initialized RX7, Cond.fieldLink RX8 12 "OneHandset" "tape" "LOneHandset$Tape;", Cond.classLink RX8 16 RX4, Cond.fieldLink RX8 18 "OneHandset" "makes" "[LOneHandset$Make;", Cond.fieldLink RX8 22 "OneHandset" "makeCount" "I", Cond.classLink RX8 26 RX0, Cond.fieldLink RX8 28 "OneHandset" "boxes" "[LOneHandset$Box;", Cond.instantiable RX0 4, Cond.initialized RX0, Cond.classLink RX8 33 RX6, Cond.instantiable RX6 5, Cond.initialized RX6, Cond.fieldLink RX8 36 "OneHandset" "route" "LOneHandset$Route;", Cond.instanceMethod yX7_init, Cond.code yX7_init cX7_init 1 none, Cond.methodLink RX7 3 objectInit, Cond.arrayClass .int, Cond.fieldLink RX7 9 "OneHandset$Tape" "times" "[I", Cond.fieldLink RX7 15 "OneHandset$Tape" "size" "I"]
def wsX8_init_r2 : List Cond := [Cond.methodLink RX8 32 yX0_init, Cond.instanceMethod yX0_init, Cond.code yX0_init cX0_init 1 none, Cond.methodLink RX0 3 objectInit, Cond.fieldLink RX0 9 "OneHandset$Box" "leads" "[I", Cond.methodLink RX0 15 yX0_startAnew, Cond.instanceMethod yX0_startAnew, Cond.selects RX0 yX0_startAnew yX0_startAnew, Cond.code yX0_startAnew cX0_startAnew 3 none, Cond.fieldLink RX0 19 "OneHandset$Box" "states" "I", Cond.fieldLink RX0 23 "OneHandset$Box" "buttons" "I", Cond.fieldLink RX0 30 "OneHandset$Box" "maybe" "I", Cond.static yX8_lowBits, Cond.initialized RX8, Cond.code yX8_lowBits cX8_lowBits 1 (some .int), Cond.methodLink RX0 33 yJ7_fill_53178, Cond.static yJ7_fill_53178, Cond.initialized RJ7, Cond.code yJ7_fill_53178 cJ7_fill_53178 4 none, Cond.instanceMethod yX6_init, Cond.code yX6_init cX6_init 1 none, Cond.methodLink RX6 3 objectInit, Cond.fieldLink RX6 9 "OneHandset$Route" "row" "[I", Cond.fieldLink RX6 15 "OneHandset$Route" "queue" "[I"]
def wsX8_init_r3 : List Cond := [Cond.fieldLink RX6 18 "OneHandset$Route" "before" "[I", Cond.fieldLink RX6 21 "OneHandset$Route" "by" "[I", Cond.fieldLink RX6 24 "OneHandset$Route" "length" "I"]
def wsX8_init : List Cond := .code yX8_init cX8_init 2 none :: ((wsX8_init_r1 ++ (wsX8_init_r2 ++ wsX8_init_r3)) ++ wsX70 ++ wsX80 ++ wsX00 ++ wsX60)
def wsX8_isNumber : List Cond := .code yX8_isNumber cX8_isNumber 1 (some .boolean) :: ([.methodLink RX8 40 yX8_within, .static yX8_within, .initialized RX8, .code yX8_within cX8_within 3 (some .boolean)])
def wsX8_make_r1 : List Cond := [Cond.fieldLink RX8 22 "OneHandset" "makeCount" "I", Cond.classLink RX8 48 RX2, Cond.instantiable RX2 2, Cond.initialized RX2, Cond.classLink RX8 53 RX5, Cond.instantiable RX5 8, Cond.initialized RX5, Cond.fieldLink RX8 18 "OneHandset" "makes" "[LOneHandset$Make;", Cond.classLink RX8 16 RX4, Cond.instantiable RX4 5, Cond.initialized RX4, Cond.methodLink RX8 40 yX8_within, Cond.static yX8_within, Cond.initialized RX8, Cond.code yX8_within cX8_within 3 (some .boolean), Cond.methodLink RX8 44 yX8_isNumber, Cond.static yX8_isNumber, Cond.code yX8_isNumber cX8_isNumber 1 (some .boolean), Cond.methodLink RX8 50 yX2_init, Cond.instanceMethod yX2_init, Cond.code yX2_init cX2_init 3 none, Cond.fieldLink RX2 9 "OneHandset$HalvesForm" "bits" "I", Cond.fieldLink RX2 15 "OneHandset$HalvesForm" "p" "I", Cond.instanceMethod yX1_init]
def wsX8_make_r2 : List Cond := [Cond.initialized RX1, Cond.code yX1_init cX1_init 1 none, Cond.methodLink RX1 1 objectInit, Cond.instanceMethod objectInit, Cond.code objectInit ⟨#[0xb1]⟩ 1 none, Cond.methodLink RX8 55 yX5_init, Cond.instanceMethod yX5_init, Cond.code yX5_init cX5_init 8 none, Cond.fieldLink RX5 9 "OneHandset$PairsForm" "onTellsBit" "Z", Cond.fieldLink RX5 15 "OneHandset$PairsForm" "bits" "I", Cond.fieldLink RX5 19 "OneHandset$PairsForm" "a" "I", Cond.fieldLink RX5 22 "OneHandset$PairsForm" "b" "I", Cond.fieldLink RX5 25 "OneHandset$PairsForm" "p" "I", Cond.fieldLink RX5 28 "OneHandset$PairsForm" "z" "I", Cond.fieldLink RX5 31 "OneHandset$PairsForm" "o" "I", Cond.fieldLink RX5 34 "OneHandset$PairsForm" "length" "I", Cond.methodLink RX8 58 yX4_init, Cond.instanceMethod yX4_init, Cond.code yX4_init cX4_init 4 none, Cond.methodLink RX4 3 objectInit, Cond.fieldLink RX4 9 "OneHandset$Make" "miss" "I", Cond.fieldLink RX4 15 "OneHandset$Make" "kind" "I", Cond.fieldLink RX4 18 "OneHandset$Make" "bits" "I", Cond.fieldLink RX4 21 "OneHandset$Make" "form" "LOneHandset$Form;"]
def wsX8_make_r3 : List Cond := [Cond.classLink RX4 25 RX3, Cond.instantiable RX3 8, Cond.initialized RX3, Cond.fieldLink RX4 30 "OneHandset$Make" "keys" "LOneHandset$Keys;", Cond.methodLink RX4 27 yX3_init, Cond.instanceMethod yX3_init, Cond.code yX3_init cX3_init 2 none, Cond.methodLink RX3 3 objectInit, Cond.arrayClass .int, Cond.fieldLink RX3 9 "OneHandset$Keys" "codes" "[I", Cond.fieldLink RX3 15 "OneHandset$Keys" "constants" "[I", Cond.fieldLink RX3 18 "OneHandset$Keys" "bits" "I", Cond.methodLink RX3 22 yX3_startWithFlip, Cond.instanceMethod yX3_startWithFlip, Cond.selects RX3 yX3_startWithFlip yX3_startWithFlip, Cond.code yX3_startWithFlip cX3_startWithFlip 2 none, Cond.fieldLink RX3 26 "OneHandset$Keys" "flip" "I", Cond.fieldLink RX3 29 "OneHandset$Keys" "flipBit" "I", Cond.methodLink RX3 32 yJ7_fill_53178, Cond.static yJ7_fill_53178, Cond.initialized RJ7, Cond.code yJ7_fill_53178 cJ7_fill_53178 4 none, Cond.methodLink RX3 38 yX3_compareAll, Cond.instanceMethod yX3_compareAll]
def wsX8_make_r4 : List Cond := [Cond.selects RX3 yX3_compareAll yX3_compareAll, Cond.code yX3_compareAll cX3_compareAll 4 none, Cond.fieldLink RX3 57 "OneHandset$Keys" "learnt" "I", Cond.fieldLink RX3 63 "OneHandset$Keys" "fixed" "I", Cond.fieldLink RX3 66 "OneHandset$Keys" "fixedOn" "I", Cond.static yX8_lowBits, Cond.code yX8_lowBits cX8_lowBits 1 (some .int), Cond.methodLink RX3 49 yX3_flipMask, Cond.instanceMethod yX3_flipMask, Cond.selects RX3 yX3_flipMask yX3_flipMask, Cond.code yX3_flipMask cX3_flipMask 1 (some .int), Cond.methodLink RX3 69 yX3_isCheck, Cond.instanceMethod yX3_isCheck, Cond.selects RX3 yX3_isCheck yX3_isCheck, Cond.code yX3_isCheck cX3_isCheck 2 (some .boolean), Cond.methodLink RX3 72 yX3_commonConstant, Cond.instanceMethod yX3_commonConstant, Cond.selects RX3 yX3_commonConstant yX3_commonConstant, Cond.code yX3_commonConstant cX3_commonConstant 6 (some .int), Cond.methodLink RX3 75 yX3_constantFor, Cond.instanceMethod yX3_constantFor, Cond.selects RX3 yX3_constantFor yX3_constantFor, Cond.code yX3_constantFor cX3_constantFor 3 (some .int), Cond.methodLink RX3 79 yX3_isContrary]
def wsX8_make_r5 : List Cond := [Cond.instanceMethod yX3_isContrary, Cond.selects RX3 yX3_isContrary yX3_isContrary, Cond.code yX3_isContrary cX3_isContrary 3 (some .boolean)]
def wsX8_make : List Cond := .code yX8_make cX8_make 9 (some .int) :: ((wsX8_make_r1 ++ (wsX8_make_r2 ++ (wsX8_make_r3 ++ (wsX8_make_r4 ++ wsX8_make_r5)))) ++ wsX80 ++ wsX20 ++ wsX50 ++ wsX40 ++ wsX30)
def wsX8_makeAt : List Cond := .code yX8_makeAt cX8_makeAt 2 (some (.object "OneHandset$Make")) :: ([.fieldLink RX8 22 "OneHandset" "makeCount" "I", .fieldLink RX8 18 "OneHandset" "makes" "[LOneHandset$Make;", .methodLink RX8 40 yX8_within, .static yX8_within, .initialized RX8, .code yX8_within cX8_within 3 (some .boolean)] ++ wsX80)
def wsX8_set_r1 : List Cond := [Cond.methodLink RX8 61 yX8_makeAt, Cond.instanceMethod yX8_makeAt, Cond.selects RX8 yX8_makeAt yX8_makeAt, Cond.initialized RX8, Cond.code yX8_makeAt cX8_makeAt 2 (some (.object "OneHandset$Make")), Cond.fieldLink RX8 22 "OneHandset" "makeCount" "I", Cond.fieldLink RX8 18 "OneHandset" "makes" "[LOneHandset$Make;", Cond.methodLink RX8 40 yX8_within, Cond.static yX8_within, Cond.code yX8_within cX8_within 3 (some .boolean), Cond.instanceMethod yX3_startWithFlip, Cond.initialized RX3, Cond.selects RX3 yX3_startWithFlip yX3_startWithFlip, Cond.code yX3_startWithFlip cX3_startWithFlip 2 none, Cond.fieldLink RX3 26 "OneHandset$Keys" "flip" "I", Cond.fieldLink RX3 29 "OneHandset$Keys" "flipBit" "I", Cond.fieldLink RX3 9 "OneHandset$Keys" "codes" "[I", Cond.methodLink RX3 32 yJ7_fill_53178, Cond.static yJ7_fill_53178, Cond.initialized RJ7, Cond.code yJ7_fill_53178 cJ7_fill_53178 4 none, Cond.methodLink RX3 38 yX3_compareAll, Cond.instanceMethod yX3_compareAll, Cond.selects RX3 yX3_compareAll yX3_compareAll]
def wsX8_set_r2 : List Cond := [Cond.code yX3_compareAll cX3_compareAll 4 none, Cond.fieldLink RX3 57 "OneHandset$Keys" "learnt" "I", Cond.fieldLink RX3 18 "OneHandset$Keys" "bits" "I", Cond.fieldLink RX3 63 "OneHandset$Keys" "fixed" "I", Cond.fieldLink RX3 66 "OneHandset$Keys" "fixedOn" "I", Cond.fieldLink RX3 15 "OneHandset$Keys" "constants" "[I", Cond.static yX8_lowBits, Cond.code yX8_lowBits cX8_lowBits 1 (some .int), Cond.methodLink RX3 49 yX3_flipMask, Cond.instanceMethod yX3_flipMask, Cond.selects RX3 yX3_flipMask yX3_flipMask, Cond.code yX3_flipMask cX3_flipMask 1 (some .int), Cond.methodLink RX3 69 yX3_isCheck, Cond.instanceMethod yX3_isCheck, Cond.selects RX3 yX3_isCheck yX3_isCheck, Cond.code yX3_isCheck cX3_isCheck 2 (some .boolean), Cond.methodLink RX3 72 yX3_commonConstant, Cond.instanceMethod yX3_commonConstant, Cond.selects RX3 yX3_commonConstant yX3_commonConstant, Cond.code yX3_commonConstant cX3_commonConstant 6 (some .int), Cond.methodLink RX3 75 yX3_constantFor, Cond.instanceMethod yX3_constantFor, Cond.selects RX3 yX3_constantFor yX3_constantFor, Cond.code yX3_constantFor cX3_constantFor 3 (some .int)]
def wsX8_set_r3 : List Cond := [Cond.methodLink RX3 79 yX3_isContrary, Cond.instanceMethod yX3_isContrary, Cond.selects RX3 yX3_isContrary yX3_isContrary, Cond.code yX3_isContrary cX3_isContrary 3 (some .boolean)]
def wsX8_set : List Cond := .code yX8_set cX8_set 5 (some .boolean) :: ((wsX8_set_r1 ++ (wsX8_set_r2 ++ wsX8_set_r3)) ++ wsX40 ++ wsX80 ++ wsX30)
def wsX8_feed : List Cond := .code yX8_feed cX8_feed 6 (some .int) :: ([.fieldLink RX8 12 "OneHandset" "tape" "LOneHandset$Tape;", .methodLink RX8 84 yX7_append, .instanceMethod yX7_append, .selects RX7 yX7_append yX7_append, .initialized RX7, .code yX7_append cX7_append 2 none, .fieldLink RX7 15 "OneHandset$Tape" "size" "I", .fieldLink RX7 9 "OneHandset$Tape" "times" "[I"] ++ wsX80 ++ wsX70)
def wsX8_end : List Cond := .code yX8_end cX8_end 2 (some .boolean) :: ([.fieldLink RX8 12 "OneHandset" "tape" "LOneHandset$Tape;", .methodLink RX8 40 yX8_within, .static yX8_within, .initialized RX8, .code yX8_within cX8_within 3 (some .boolean)] ++ wsX80 ++ wsX70)
def wsX8_send_r1 : List Cond := [Cond.fieldLink RX8 12 "OneHandset" "tape" "LOneHandset$Tape;", Cond.methodLink RX8 61 yX8_makeAt, Cond.instanceMethod yX8_makeAt, Cond.selects RX8 yX8_makeAt yX8_makeAt, Cond.initialized RX8, Cond.code yX8_makeAt cX8_makeAt 2 (some (.object "OneHandset$Make")), Cond.fieldLink RX8 22 "OneHandset" "makeCount" "I", Cond.fieldLink RX8 18 "OneHandset" "makes" "[LOneHandset$Make;", Cond.methodLink RX8 40 yX8_within, Cond.static yX8_within, Cond.code yX8_within cX8_within 3 (some .boolean), Cond.methodLink RX8 87 yX8_lowBits, Cond.static yX8_lowBits, Cond.code yX8_lowBits cX8_lowBits 1 (some .int), Cond.methodLink RX8 91 yX4_flash, Cond.instanceMethod yX4_flash, Cond.selects RX4 yX4_flash yX4_flash, Cond.initialized RX4, Cond.code yX4_flash cX4_flash 3 (some .int), Cond.fieldLink RX4 21 "OneHandset$Make" "form" "LOneHandset$Form;", Cond.methodLink RX4 39 ⟨"OneHandset$Form", "write", "(ILOneHandset$Tape;)V"⟩, Cond.sameMethod "OneHandset$Form" "OneHandset$Form" "write" "(ILOneHandset$Tape;)V", Cond.selects RX2 ⟨"OneHandset$Form", "write", "(ILOneHandset$Tape;)V"⟩ yX2_write, Cond.instanceMethod yX2_write]
def wsX8_send_r2 : List Cond := [Cond.initialized RX2, Cond.code yX2_write cX2_write 5 none, Cond.fieldLink RX2 9 "OneHandset$HalvesForm" "bits" "I", Cond.fieldLink RX2 15 "OneHandset$HalvesForm" "p" "I", Cond.methodLink RX2 18 yX2_isOn, Cond.instanceMethod yX2_isOn, Cond.selects RX2 yX2_isOn yX2_isOn, Cond.code yX2_isOn cX2_isOn 4 (some .boolean), Cond.methodLink RX2 22 yX7_append, Cond.instanceMethod yX7_append, Cond.selects RX7 yX7_append yX7_append, Cond.initialized RX7, Cond.code yX7_append cX7_append 2 none, Cond.fieldLink RX7 15 "OneHandset$Tape" "size" "I", Cond.fieldLink RX7 9 "OneHandset$Tape" "times" "[I", Cond.methodLink RX2 28 yX7_lengthenLast, Cond.instanceMethod yX7_lengthenLast, Cond.selects RX7 yX7_lengthenLast yX7_lengthenLast, Cond.code yX7_lengthenLast cX7_lengthenLast 2 none, Cond.selects RX5 ⟨"OneHandset$Form", "write", "(ILOneHandset$Tape;)V"⟩ yX5_write, Cond.instanceMethod yX5_write, Cond.initialized RX5, Cond.code yX5_write cX5_write 5 none, Cond.fieldLink RX5 15 "OneHandset$PairsForm" "bits" "I"]
def wsX8_send_r3 : List Cond := [Cond.fieldLink RX5 34 "OneHandset$PairsForm" "length" "I", Cond.fieldLink RX5 28 "OneHandset$PairsForm" "z" "I", Cond.fieldLink RX5 31 "OneHandset$PairsForm" "o" "I", Cond.methodLink RX5 37 yX5_tellsBit, Cond.instanceMethod yX5_tellsBit, Cond.selects RX5 yX5_tellsBit yX5_tellsBit, Cond.code yX5_tellsBit cX5_tellsBit 2 (some .boolean), Cond.fieldLink RX5 9 "OneHandset$PairsForm" "onTellsBit" "Z", Cond.methodLink RX5 41 yX7_append, Cond.methodLink RX5 47 yX5_plainTime, Cond.instanceMethod yX5_plainTime, Cond.selects RX5 yX5_plainTime yX5_plainTime, Cond.code yX5_plainTime cX5_plainTime 2 (some .int), Cond.fieldLink RX5 19 "OneHandset$PairsForm" "a" "I", Cond.fieldLink RX5 22 "OneHandset$PairsForm" "b" "I", Cond.fieldLink RX5 25 "OneHandset$PairsForm" "p" "I"]
def wsX8_send : List Cond := .code yX8_send cX8_send 4 (some .int) :: ((wsX8_send_r1 ++ (wsX8_send_r2 ++ wsX8_send_r3)) ++ wsX40 ++ wsX80 ++ wsX70 ++ wsX20 ++ wsX50)
def wsX8_time : List Cond := .code yX8_time cX8_time 2 (some .int) :: ([.classLink RX8 95 "java/util/NoSuchElementException", .initialized "java/util/NoSuchElementException", .fieldLink RX8 12 "OneHandset" "tape" "LOneHandset$Tape;", .methodLink RX8 40 yX8_within, .static yX8_within, .initialized RX8, .code yX8_within cX8_within 3 (some .boolean), .methodLink RX8 98 yX7_at, .instanceMethod yX7_at, .selects RX7 yX7_at yX7_at, .initialized RX7, .code yX7_at cX7_at 2 (some .int), .fieldLink RX7 15 "OneHandset$Tape" "size" "I", .fieldLink RX7 9 "OneHandset$Tape" "times" "[I"] ++ wsX80 ++ wsX70 ++ (vx_at0 RX8 97 "java/util/NoSuchElementException" ["java/lang/RuntimeException", "java/lang/Exception"]).filter goodWord)
def wsX8_read_r1 : List Cond := [Cond.fieldLink RX8 12 "OneHandset" "tape" "LOneHandset$Tape;", Cond.methodLink RX8 61 yX8_makeAt, Cond.instanceMethod yX8_makeAt, Cond.selects RX8 yX8_makeAt yX8_makeAt, Cond.initialized RX8, Cond.code yX8_makeAt cX8_makeAt 2 (some (.object "OneHandset$Make")), Cond.fieldLink RX8 22 "OneHandset" "makeCount" "I", Cond.fieldLink RX8 18 "OneHandset" "makes" "[LOneHandset$Make;", Cond.methodLink RX8 40 yX8_within, Cond.static yX8_within, Cond.code yX8_within cX8_within 3 (some .boolean), Cond.methodLink RX8 101 yX4_decode, Cond.instanceMethod yX4_decode, Cond.selects RX4 yX4_decode yX4_decode, Cond.initialized RX4, Cond.code yX4_decode cX4_decode 2 (some .int), Cond.fieldLink RX4 21 "OneHandset$Make" "form" "LOneHandset$Form;", Cond.fieldLink RX4 9 "OneHandset$Make" "miss" "I", Cond.methodLink RX4 45 ⟨"OneHandset$Form", "decode", "(LOneHandset$Tape;I)I"⟩, Cond.sameMethod "OneHandset$Form" "OneHandset$Form" "decode" "(LOneHandset$Tape;I)I", Cond.selects RX2 ⟨"OneHandset$Form", "decode", "(LOneHandset$Tape;I)I"⟩ yX2_decode, Cond.instanceMethod yX2_decode, Cond.initialized RX2, Cond.code yX2_decode cX2_decode 11 (some .int)]
def wsX8_read_r2 : List Cond := [Cond.fieldLink RX2 15 "OneHandset$HalvesForm" "p" "I", Cond.fieldLink RX2 9 "OneHandset$HalvesForm" "bits" "I", Cond.methodLink RX2 34 yX7_at, Cond.instanceMethod yX7_at, Cond.selects RX7 yX7_at yX7_at, Cond.initialized RX7, Cond.code yX7_at cX7_at 2 (some .int), Cond.fieldLink RX7 15 "OneHandset$Tape" "size" "I", Cond.fieldLink RX7 9 "OneHandset$Tape" "times" "[I", Cond.static yX8_nearerOf, Cond.code yX8_nearerOf cX8_nearerOf 6 (some .int), Cond.methodLink RX8 202 Lib.Math.abs.name, Cond.static Lib.Math.abs.name, Cond.initialized "java/lang/Math", Cond.code Lib.Math.abs.name Lib.Math.abs.code 1 (some .int), Cond.methodLink RX8 207 yX8_fits, Cond.static yX8_fits, Cond.code yX8_fits cX8_fits 3 (some .boolean), Cond.methodLink RX8 199 yX8_isTime, Cond.static yX8_isTime, Cond.code yX8_isTime cX8_isTime 1 (some .boolean), Cond.static yX8_fault, Cond.code yX8_fault cX8_fault 1 (some .int), Cond.selects RX5 ⟨"OneHandset$Form", "decode", "(LOneHandset$Tape;I)I"⟩ yX5_decode]
def wsX8_read_r3 : List Cond := [Cond.instanceMethod yX5_decode, Cond.initialized RX5, Cond.code yX5_decode cX5_decode 7 (some .int), Cond.fieldLink RX5 34 "OneHandset$PairsForm" "length" "I", Cond.fieldLink RX5 28 "OneHandset$PairsForm" "z" "I", Cond.fieldLink RX5 31 "OneHandset$PairsForm" "o" "I", Cond.methodLink RX5 57 yX7_at, Cond.methodLink RX5 37 yX5_tellsBit, Cond.instanceMethod yX5_tellsBit, Cond.selects RX5 yX5_tellsBit yX5_tellsBit, Cond.code yX5_tellsBit cX5_tellsBit 2 (some .boolean), Cond.fieldLink RX5 9 "OneHandset$PairsForm" "onTellsBit" "Z", Cond.methodLink RX5 47 yX5_plainTime, Cond.instanceMethod yX5_plainTime, Cond.selects RX5 yX5_plainTime yX5_plainTime, Cond.code yX5_plainTime cX5_plainTime 2 (some .int), Cond.fieldLink RX5 19 "OneHandset$PairsForm" "a" "I", Cond.fieldLink RX5 22 "OneHandset$PairsForm" "b" "I", Cond.fieldLink RX5 25 "OneHandset$PairsForm" "p" "I"]
def wsX8_read : List Cond := .code yX8_read cX8_read 3 (some .int) :: ((wsX8_read_r1 ++ (wsX8_read_r2 ++ wsX8_read_r3)) ++ wsX80 ++ wsX40 ++ wsX70 ++ wsX20 ++ wsX50)
def wsX8_which_r1 : List Cond := [Cond.fieldLink RX8 22 "OneHandset" "makeCount" "I", Cond.methodLink RX8 105 yX8_read, Cond.instanceMethod yX8_read, Cond.selects RX8 yX8_read yX8_read, Cond.initialized RX8, Cond.code yX8_read cX8_read 3 (some .int), Cond.fieldLink RX8 12 "OneHandset" "tape" "LOneHandset$Tape;", Cond.methodLink RX8 61 yX8_makeAt, Cond.instanceMethod yX8_makeAt, Cond.selects RX8 yX8_makeAt yX8_makeAt, Cond.code yX8_makeAt cX8_makeAt 2 (some (.object "OneHandset$Make")), Cond.fieldLink RX8 18 "OneHandset" "makes" "[LOneHandset$Make;", Cond.methodLink RX8 40 yX8_within, Cond.static yX8_within, Cond.code yX8_within cX8_within 3 (some .boolean), Cond.methodLink RX8 101 yX4_decode, Cond.instanceMethod yX4_decode, Cond.selects RX4 yX4_decode yX4_decode, Cond.initialized RX4, Cond.code yX4_decode cX4_decode 2 (some .int), Cond.fieldLink RX4 21 "OneHandset$Make" "form" "LOneHandset$Form;", Cond.fieldLink RX4 9 "OneHandset$Make" "miss" "I", Cond.methodLink RX4 45 ⟨"OneHandset$Form", "decode", "(LOneHandset$Tape;I)I"⟩, Cond.sameMethod "OneHandset$Form" "OneHandset$Form" "decode" "(LOneHandset$Tape;I)I"]
def wsX8_which_r2 : List Cond := [Cond.selects RX2 ⟨"OneHandset$Form", "decode", "(LOneHandset$Tape;I)I"⟩ yX2_decode, Cond.instanceMethod yX2_decode, Cond.initialized RX2, Cond.code yX2_decode cX2_decode 11 (some .int), Cond.fieldLink RX2 15 "OneHandset$HalvesForm" "p" "I", Cond.fieldLink RX2 9 "OneHandset$HalvesForm" "bits" "I", Cond.methodLink RX2 34 yX7_at, Cond.instanceMethod yX7_at, Cond.selects RX7 yX7_at yX7_at, Cond.initialized RX7, Cond.code yX7_at cX7_at 2 (some .int), Cond.fieldLink RX7 15 "OneHandset$Tape" "size" "I", Cond.fieldLink RX7 9 "OneHandset$Tape" "times" "[I", Cond.static yX8_nearerOf, Cond.code yX8_nearerOf cX8_nearerOf 6 (some .int), Cond.methodLink RX8 202 Lib.Math.abs.name, Cond.static Lib.Math.abs.name, Cond.initialized "java/lang/Math", Cond.code Lib.Math.abs.name Lib.Math.abs.code 1 (some .int), Cond.methodLink RX8 207 yX8_fits, Cond.static yX8_fits, Cond.code yX8_fits cX8_fits 3 (some .boolean), Cond.methodLink RX8 199 yX8_isTime, Cond.static yX8_isTime]
def wsX8_which_r3 : List Cond := [Cond.code yX8_isTime cX8_isTime 1 (some .boolean), Cond.static yX8_fault, Cond.code yX8_fault cX8_fault 1 (some .int), Cond.selects RX5 ⟨"OneHandset$Form", "decode", "(LOneHandset$Tape;I)I"⟩ yX5_decode, Cond.instanceMethod yX5_decode, Cond.initialized RX5, Cond.code yX5_decode cX5_decode 7 (some .int), Cond.fieldLink RX5 34 "OneHandset$PairsForm" "length" "I", Cond.fieldLink RX5 28 "OneHandset$PairsForm" "z" "I", Cond.fieldLink RX5 31 "OneHandset$PairsForm" "o" "I", Cond.methodLink RX5 57 yX7_at, Cond.methodLink RX5 37 yX5_tellsBit, Cond.instanceMethod yX5_tellsBit, Cond.selects RX5 yX5_tellsBit yX5_tellsBit, Cond.code yX5_tellsBit cX5_tellsBit 2 (some .boolean), Cond.fieldLink RX5 9 "OneHandset$PairsForm" "onTellsBit" "Z", Cond.methodLink RX5 47 yX5_plainTime, Cond.instanceMethod yX5_plainTime, Cond.selects RX5 yX5_plainTime yX5_plainTime, Cond.code yX5_plainTime cX5_plainTime 2 (some .int), Cond.fieldLink RX5 19 "OneHandset$PairsForm" "a" "I", Cond.fieldLink RX5 22 "OneHandset$PairsForm" "b" "I", Cond.fieldLink RX5 25 "OneHandset$PairsForm" "p" "I"]
def wsX8_which : List Cond := .code yX8_which cX8_which 3 (some .int) :: ((wsX8_which_r1 ++ (wsX8_which_r2 ++ wsX8_which_r3)) ++ wsX80 ++ wsX40 ++ wsX70 ++ wsX20 ++ wsX50)
def wsX8_stretch : List Cond := .code yX8_stretch cX8_stretch 2 (some .boolean) :: ([.fieldLink RX8 12 "OneHandset" "tape" "LOneHandset$Tape;", .methodLink RX8 40 yX8_within, .static yX8_within, .initialized RX8, .code yX8_within cX8_within 3 (some .boolean), .methodLink RX8 108 yX7_stretchAll, .instanceMethod yX7_stretchAll, .selects RX7 yX7_stretchAll yX7_stretchAll, .initialized RX7, .code yX7_stretchAll cX7_stretchAll 4 none, .fieldLink RX7 15 "OneHandset$Tape" "size" "I", .fieldLink RX7 9 "OneHandset$Tape" "times" "[I", .methodLink RX7 27 Lib.Math.min.name, .static Lib.Math.min.name, .initialized "java/lang/Math", .code Lib.Math.min.name Lib.Math.min.code 2 (some .int), .methodLink RX7 33 Lib.Math.max.name, .static Lib.Math.max.name, .code Lib.Math.max.name Lib.Math.max.code 2 (some .int), .static yX8_isTime, .code yX8_isTime cX8_isTime 1 (some .boolean)] ++ wsX80 ++ wsX70)
def wsX8_learn_r1 : List Cond := [Cond.fieldLink RX8 12 "OneHandset" "tape" "LOneHandset$Tape;", Cond.methodLink RX8 61 yX8_makeAt, Cond.instanceMethod yX8_makeAt, Cond.selects RX8 yX8_makeAt yX8_makeAt, Cond.initialized RX8, Cond.code yX8_makeAt cX8_makeAt 2 (some (.object "OneHandset$Make")), Cond.fieldLink RX8 22 "OneHandset" "makeCount" "I", Cond.fieldLink RX8 18 "OneHandset" "makes" "[LOneHandset$Make;", Cond.methodLink RX8 40 yX8_within, Cond.static yX8_within, Cond.code yX8_within cX8_within 3 (some .boolean), Cond.methodLink RX8 101 yX4_decode, Cond.instanceMethod yX4_decode, Cond.selects RX4 yX4_decode yX4_decode, Cond.initialized RX4, Cond.code yX4_decode cX4_decode 2 (some .int), Cond.fieldLink RX4 21 "OneHandset$Make" "form" "LOneHandset$Form;", Cond.fieldLink RX4 9 "OneHandset$Make" "miss" "I", Cond.methodLink RX4 45 ⟨"OneHandset$Form", "decode", "(LOneHandset$Tape;I)I"⟩, Cond.sameMethod "OneHandset$Form" "OneHandset$Form" "decode" "(LOneHandset$Tape;I)I", Cond.selects RX2 ⟨"OneHandset$Form", "decode", "(LOneHandset$Tape;I)I"⟩ yX2_decode, Cond.instanceMethod yX2_decode, Cond.initialized RX2, Cond.code yX2_decode cX2_decode 11 (some .int)]
def wsX8_learn_r2 : List Cond := [Cond.fieldLink RX2 15 "OneHandset$HalvesForm" "p" "I", Cond.fieldLink RX2 9 "OneHandset$HalvesForm" "bits" "I", Cond.methodLink RX2 34 yX7_at, Cond.instanceMethod yX7_at, Cond.selects RX7 yX7_at yX7_at, Cond.initialized RX7, Cond.code yX7_at cX7_at 2 (some .int), Cond.fieldLink RX7 15 "OneHandset$Tape" "size" "I", Cond.fieldLink RX7 9 "OneHandset$Tape" "times" "[I", Cond.static yX8_nearerOf, Cond.code yX8_nearerOf cX8_nearerOf 6 (some .int), Cond.methodLink RX8 202 Lib.Math.abs.name, Cond.static Lib.Math.abs.name, Cond.initialized "java/lang/Math", Cond.code Lib.Math.abs.name Lib.Math.abs.code 1 (some .int), Cond.methodLink RX8 207 yX8_fits, Cond.static yX8_fits, Cond.code yX8_fits cX8_fits 3 (some .boolean), Cond.methodLink RX8 199 yX8_isTime, Cond.static yX8_isTime, Cond.code yX8_isTime cX8_isTime 1 (some .boolean), Cond.static yX8_fault, Cond.code yX8_fault cX8_fault 1 (some .int), Cond.selects RX5 ⟨"OneHandset$Form", "decode", "(LOneHandset$Tape;I)I"⟩ yX5_decode]
def wsX8_learn_r3 : List Cond := [Cond.instanceMethod yX5_decode, Cond.initialized RX5, Cond.code yX5_decode cX5_decode 7 (some .int), Cond.fieldLink RX5 34 "OneHandset$PairsForm" "length" "I", Cond.fieldLink RX5 28 "OneHandset$PairsForm" "z" "I", Cond.fieldLink RX5 31 "OneHandset$PairsForm" "o" "I", Cond.methodLink RX5 57 yX7_at, Cond.methodLink RX5 37 yX5_tellsBit, Cond.instanceMethod yX5_tellsBit, Cond.selects RX5 yX5_tellsBit yX5_tellsBit, Cond.code yX5_tellsBit cX5_tellsBit 2 (some .boolean), Cond.fieldLink RX5 9 "OneHandset$PairsForm" "onTellsBit" "Z", Cond.methodLink RX5 47 yX5_plainTime, Cond.instanceMethod yX5_plainTime, Cond.selects RX5 yX5_plainTime yX5_plainTime, Cond.code yX5_plainTime cX5_plainTime 2 (some .int), Cond.fieldLink RX5 19 "OneHandset$PairsForm" "a" "I", Cond.fieldLink RX5 22 "OneHandset$PairsForm" "b" "I", Cond.fieldLink RX5 25 "OneHandset$PairsForm" "p" "I", Cond.methodLink RX8 111 yX3_take, Cond.instanceMethod yX3_take, Cond.selects RX3 yX3_take yX3_take, Cond.initialized RX3, Cond.code yX3_take cX3_take 4 (some .int)]
def wsX8_learn_r4 : List Cond := [Cond.fieldLink RX3 9 "OneHandset$Keys" "codes" "[I", Cond.methodLink RX3 49 yX3_flipMask, Cond.instanceMethod yX3_flipMask, Cond.selects RX3 yX3_flipMask yX3_flipMask, Cond.code yX3_flipMask cX3_flipMask 1 (some .int), Cond.fieldLink RX3 26 "OneHandset$Keys" "flip" "I", Cond.methodLink RX3 45 yX3_hasKey, Cond.instanceMethod yX3_hasKey, Cond.selects RX3 yX3_hasKey yX3_hasKey, Cond.code yX3_hasKey cX3_hasKey 2 (some .boolean), Cond.methodLink RX3 38 yX3_compareAll, Cond.instanceMethod yX3_compareAll, Cond.selects RX3 yX3_compareAll yX3_compareAll, Cond.code yX3_compareAll cX3_compareAll 4 none, Cond.fieldLink RX3 57 "OneHandset$Keys" "learnt" "I", Cond.fieldLink RX3 18 "OneHandset$Keys" "bits" "I", Cond.fieldLink RX3 63 "OneHandset$Keys" "fixed" "I", Cond.fieldLink RX3 66 "OneHandset$Keys" "fixedOn" "I", Cond.fieldLink RX3 15 "OneHandset$Keys" "constants" "[I", Cond.static yX8_lowBits, Cond.code yX8_lowBits cX8_lowBits 1 (some .int), Cond.methodLink RX3 69 yX3_isCheck, Cond.instanceMethod yX3_isCheck, Cond.selects RX3 yX3_isCheck yX3_isCheck]
def wsX8_learn_r5 : List Cond := [Cond.code yX3_isCheck cX3_isCheck 2 (some .boolean), Cond.methodLink RX3 72 yX3_commonConstant, Cond.instanceMethod yX3_commonConstant, Cond.selects RX3 yX3_commonConstant yX3_commonConstant, Cond.code yX3_commonConstant cX3_commonConstant 6 (some .int), Cond.methodLink RX3 75 yX3_constantFor, Cond.instanceMethod yX3_constantFor, Cond.selects RX3 yX3_constantFor yX3_constantFor, Cond.code yX3_constantFor cX3_constantFor 3 (some .int), Cond.methodLink RX3 79 yX3_isContrary, Cond.instanceMethod yX3_isContrary, Cond.selects RX3 yX3_isContrary yX3_isContrary, Cond.code yX3_isContrary cX3_isContrary 3 (some .boolean)]
def wsX8_learn : List Cond := .code yX8_learn cX8_learn 5 (some .int) :: ((wsX8_learn_r1 ++ (wsX8_learn_r2 ++ (wsX8_learn_r3 ++ (wsX8_learn_r4 ++ wsX8_learn_r5)))) ++ wsX80 ++ wsX40 ++ wsX70 ++ wsX20 ++ wsX50 ++ wsX30)
def wsX8_forget_r1 : List Cond := [Cond.methodLink RX8 61 yX8_makeAt, Cond.instanceMethod yX8_makeAt, Cond.selects RX8 yX8_makeAt yX8_makeAt, Cond.initialized RX8, Cond.code yX8_makeAt cX8_makeAt 2 (some (.object "OneHandset$Make")), Cond.fieldLink RX8 22 "OneHandset" "makeCount" "I", Cond.fieldLink RX8 18 "OneHandset" "makes" "[LOneHandset$Make;", Cond.methodLink RX8 40 yX8_within, Cond.static yX8_within, Cond.code yX8_within cX8_within 3 (some .boolean), Cond.methodLink RX8 115 yX3_drop, Cond.instanceMethod yX3_drop, Cond.selects RX3 yX3_drop yX3_drop, Cond.initialized RX3, Cond.code yX3_drop cX3_drop 2 (some .boolean), Cond.fieldLink RX3 9 "OneHandset$Keys" "codes" "[I", Cond.methodLink RX3 53 yX3_codeOf, Cond.instanceMethod yX3_codeOf, Cond.selects RX3 yX3_codeOf yX3_codeOf, Cond.code yX3_codeOf cX3_codeOf 2 (some .int), Cond.methodLink RX3 45 yX3_hasKey, Cond.instanceMethod yX3_hasKey, Cond.selects RX3 yX3_hasKey yX3_hasKey, Cond.code yX3_hasKey cX3_hasKey 2 (some .boolean)]
def wsX8_forget_r2 : List Cond := [Cond.methodLink RX3 38 yX3_compareAll, Cond.instanceMethod yX3_compareAll, Cond.selects RX3 yX3_compareAll yX3_compareAll, Cond.code yX3_compareAll cX3_compareAll 4 none, Cond.fieldLink RX3 57 "OneHandset$Keys" "learnt" "I", Cond.fieldLink RX3 18 "OneHandset$Keys" "bits" "I", Cond.fieldLink RX3 63 "OneHandset$Keys" "fixed" "I", Cond.fieldLink RX3 66 "OneHandset$Keys" "fixedOn" "I", Cond.fieldLink RX3 15 "OneHandset$Keys" "constants" "[I", Cond.static yX8_lowBits, Cond.code yX8_lowBits cX8_lowBits 1 (some .int), Cond.methodLink RX3 49 yX3_flipMask, Cond.instanceMethod yX3_flipMask, Cond.selects RX3 yX3_flipMask yX3_flipMask, Cond.code yX3_flipMask cX3_flipMask 1 (some .int), Cond.fieldLink RX3 26 "OneHandset$Keys" "flip" "I", Cond.methodLink RX3 69 yX3_isCheck, Cond.instanceMethod yX3_isCheck, Cond.selects RX3 yX3_isCheck yX3_isCheck, Cond.code yX3_isCheck cX3_isCheck 2 (some .boolean), Cond.methodLink RX3 72 yX3_commonConstant, Cond.instanceMethod yX3_commonConstant, Cond.selects RX3 yX3_commonConstant yX3_commonConstant, Cond.code yX3_commonConstant cX3_commonConstant 6 (some .int)]
def wsX8_forget_r3 : List Cond := [Cond.methodLink RX3 75 yX3_constantFor, Cond.instanceMethod yX3_constantFor, Cond.selects RX3 yX3_constantFor yX3_constantFor, Cond.code yX3_constantFor cX3_constantFor 3 (some .int), Cond.methodLink RX3 79 yX3_isContrary, Cond.instanceMethod yX3_isContrary, Cond.selects RX3 yX3_isContrary yX3_isContrary, Cond.code yX3_isContrary cX3_isContrary 3 (some .boolean)]
def wsX8_forget : List Cond := .code yX8_forget cX8_forget 4 (some .boolean) :: ((wsX8_forget_r1 ++ (wsX8_forget_r2 ++ wsX8_forget_r3)) ++ wsX40 ++ wsX80 ++ wsX30)
def wsX8_key : List Cond := .code yX8_key cX8_key 4 (some .int) :: ([.methodLink RX8 61 yX8_makeAt, .instanceMethod yX8_makeAt, .selects RX8 yX8_makeAt yX8_makeAt, .initialized RX8, .code yX8_makeAt cX8_makeAt 2 (some (.object "OneHandset$Make")), .fieldLink RX8 22 "OneHandset" "makeCount" "I", .fieldLink RX8 18 "OneHandset" "makes" "[LOneHandset$Make;", .methodLink RX8 40 yX8_within, .static yX8_within, .code yX8_within cX8_within 3 (some .boolean), .methodLink RX8 118 yX3_codeOf, .instanceMethod yX3_codeOf, .selects RX3 yX3_codeOf yX3_codeOf, .initialized RX3, .code yX3_codeOf cX3_codeOf 2 (some .int), .fieldLink RX3 9 "OneHandset$Keys" "codes" "[I", .methodLink RX3 45 yX3_hasKey, .instanceMethod yX3_hasKey, .selects RX3 yX3_hasKey yX3_hasKey, .code yX3_hasKey cX3_hasKey 2 (some .boolean)] ++ wsX40 ++ wsX80 ++ wsX30)
def wsX8_press_r1 : List Cond := [Cond.fieldLink RX8 12 "OneHandset" "tape" "LOneHandset$Tape;", Cond.methodLink RX8 61 yX8_makeAt, Cond.instanceMethod yX8_makeAt, Cond.selects RX8 yX8_makeAt yX8_makeAt, Cond.initialized RX8, Cond.code yX8_makeAt cX8_makeAt 2 (some (.object "OneHandset$Make")), Cond.fieldLink RX8 22 "OneHandset" "makeCount" "I", Cond.fieldLink RX8 18 "OneHandset" "makes" "[LOneHandset$Make;", Cond.methodLink RX8 40 yX8_within, Cond.static yX8_within, Cond.code yX8_within cX8_within 3 (some .boolean), Cond.methodLink RX8 118 yX3_codeOf, Cond.instanceMethod yX3_codeOf, Cond.selects RX3 yX3_codeOf yX3_codeOf, Cond.initialized RX3, Cond.code yX3_codeOf cX3_codeOf 2 (some .int), Cond.fieldLink RX3 9 "OneHandset$Keys" "codes" "[I", Cond.methodLink RX3 45 yX3_hasKey, Cond.instanceMethod yX3_hasKey, Cond.selects RX3 yX3_hasKey yX3_hasKey, Cond.code yX3_hasKey cX3_hasKey 2 (some .boolean), Cond.methodLink RX8 121 yX3_codeToSend, Cond.instanceMethod yX3_codeToSend, Cond.selects RX3 yX3_codeToSend yX3_codeToSend]
def wsX8_press_r2 : List Cond := [Cond.code yX3_codeToSend cX3_codeToSend 3 (some .int), Cond.fieldLink RX3 29 "OneHandset$Keys" "flipBit" "I", Cond.fieldLink RX3 26 "OneHandset$Keys" "flip" "I", Cond.methodLink RX3 53 yX3_codeOf, Cond.methodLink RX3 49 yX3_flipMask, Cond.instanceMethod yX3_flipMask, Cond.selects RX3 yX3_flipMask yX3_flipMask, Cond.code yX3_flipMask cX3_flipMask 1 (some .int), Cond.methodLink RX8 91 yX4_flash, Cond.instanceMethod yX4_flash, Cond.selects RX4 yX4_flash yX4_flash, Cond.initialized RX4, Cond.code yX4_flash cX4_flash 3 (some .int), Cond.fieldLink RX4 21 "OneHandset$Make" "form" "LOneHandset$Form;", Cond.methodLink RX4 39 ⟨"OneHandset$Form", "write", "(ILOneHandset$Tape;)V"⟩, Cond.sameMethod "OneHandset$Form" "OneHandset$Form" "write" "(ILOneHandset$Tape;)V", Cond.selects RX2 ⟨"OneHandset$Form", "write", "(ILOneHandset$Tape;)V"⟩ yX2_write, Cond.instanceMethod yX2_write, Cond.initialized RX2, Cond.code yX2_write cX2_write 5 none, Cond.fieldLink RX2 9 "OneHandset$HalvesForm" "bits" "I", Cond.fieldLink RX2 15 "OneHandset$HalvesForm" "p" "I", Cond.methodLink RX2 18 yX2_isOn, Cond.instanceMethod yX2_isOn]
def wsX8_press_r3 : List Cond := [Cond.selects RX2 yX2_isOn yX2_isOn, Cond.code yX2_isOn cX2_isOn 4 (some .boolean), Cond.methodLink RX2 22 yX7_append, Cond.instanceMethod yX7_append, Cond.selects RX7 yX7_append yX7_append, Cond.initialized RX7, Cond.code yX7_append cX7_append 2 none, Cond.fieldLink RX7 15 "OneHandset$Tape" "size" "I", Cond.fieldLink RX7 9 "OneHandset$Tape" "times" "[I", Cond.methodLink RX2 28 yX7_lengthenLast, Cond.instanceMethod yX7_lengthenLast, Cond.selects RX7 yX7_lengthenLast yX7_lengthenLast, Cond.code yX7_lengthenLast cX7_lengthenLast 2 none, Cond.selects RX5 ⟨"OneHandset$Form", "write", "(ILOneHandset$Tape;)V"⟩ yX5_write, Cond.instanceMethod yX5_write, Cond.initialized RX5, Cond.code yX5_write cX5_write 5 none, Cond.fieldLink RX5 15 "OneHandset$PairsForm" "bits" "I", Cond.fieldLink RX5 34 "OneHandset$PairsForm" "length" "I", Cond.fieldLink RX5 28 "OneHandset$PairsForm" "z" "I", Cond.fieldLink RX5 31 "OneHandset$PairsForm" "o" "I", Cond.methodLink RX5 37 yX5_tellsBit, Cond.instanceMethod yX5_tellsBit, Cond.selects RX5 yX5_tellsBit yX5_tellsBit]
def wsX8_press_r4 : List Cond := [Cond.code yX5_tellsBit cX5_tellsBit 2 (some .boolean), Cond.fieldLink RX5 9 "OneHandset$PairsForm" "onTellsBit" "Z", Cond.methodLink RX5 41 yX7_append, Cond.methodLink RX5 47 yX5_plainTime, Cond.instanceMethod yX5_plainTime, Cond.selects RX5 yX5_plainTime yX5_plainTime, Cond.code yX5_plainTime cX5_plainTime 2 (some .int), Cond.fieldLink RX5 19 "OneHandset$PairsForm" "a" "I", Cond.fieldLink RX5 22 "OneHandset$PairsForm" "b" "I", Cond.fieldLink RX5 25 "OneHandset$PairsForm" "p" "I"]
def wsX8_press : List Cond := .code yX8_press cX8_press 4 (some .int) :: ((wsX8_press_r1 ++ (wsX8_press_r2 ++ (wsX8_press_r3 ++ wsX8_press_r4))) ++ wsX40 ++ wsX80 ++ wsX30 ++ wsX70 ++ wsX20 ++ wsX50)
def wsX8_of : List Cond := .code yX8_of cX8_of 4 (some .int) :: ([.methodLink RX8 61 yX8_makeAt, .instanceMethod yX8_makeAt, .selects RX8 yX8_makeAt yX8_makeAt, .initialized RX8, .code yX8_makeAt cX8_makeAt 2 (some (.object "OneHandset$Make")), .fieldLink RX8 22 "OneHandset" "makeCount" "I", .fieldLink RX8 18 "OneHandset" "makes" "[LOneHandset$Make;", .methodLink RX8 40 yX8_within, .static yX8_within, .code yX8_within cX8_within 3 (some .boolean)] ++ wsX40 ++ wsX30 ++ wsX80)
def wsX8_check : List Cond := .code yX8_check cX8_check 4 (some .int) :: ([.methodLink RX8 61 yX8_makeAt, .instanceMethod yX8_makeAt, .selects RX8 yX8_makeAt yX8_makeAt, .initialized RX8, .code yX8_makeAt cX8_makeAt 2 (some (.object "OneHandset$Make")), .fieldLink RX8 22 "OneHandset" "makeCount" "I", .fieldLink RX8 18 "OneHandset" "makes" "[LOneHandset$Make;", .methodLink RX8 40 yX8_within, .static yX8_within, .code yX8_within cX8_within 3 (some .boolean), .methodLink RX8 139 yX3_constantThatHolds, .instanceMethod yX3_constantThatHolds, .selects RX3 yX3_constantThatHolds yX3_constantThatHolds, .initialized RX3, .code yX3_constantThatHolds cX3_constantThatHolds 2 (some .int), .fieldLink RX3 15 "OneHandset$Keys" "constants" "[I"] ++ wsX40 ++ wsX80 ++ wsX30)
def wsX8_many_r1 : List Cond := [Cond.methodLink RX8 61 yX8_makeAt, Cond.instanceMethod yX8_makeAt, Cond.selects RX8 yX8_makeAt yX8_makeAt, Cond.initialized RX8, Cond.code yX8_makeAt cX8_makeAt 2 (some (.object "OneHandset$Make")), Cond.fieldLink RX8 22 "OneHandset" "makeCount" "I", Cond.fieldLink RX8 18 "OneHandset" "makes" "[LOneHandset$Make;", Cond.methodLink RX8 40 yX8_within, Cond.static yX8_within, Cond.code yX8_within cX8_within 3 (some .boolean), Cond.methodLink RX8 142 yX3_canForesee, Cond.instanceMethod yX3_canForesee, Cond.selects RX3 yX3_canForesee yX3_canForesee, Cond.initialized RX3, Cond.code yX3_canForesee cX3_canForesee 1 (some .boolean), Cond.fieldLink RX3 57 "OneHandset$Keys" "learnt" "I", Cond.methodLink RX3 82 yX3_free, Cond.instanceMethod yX3_free, Cond.selects RX3 yX3_free yX3_free, Cond.code yX3_free cX3_free 1 (some .int), Cond.fieldLink RX3 18 "OneHandset$Keys" "bits" "I", Cond.fieldLink RX3 63 "OneHandset$Keys" "fixed" "I", Cond.static yX8_lowBits, Cond.code yX8_lowBits cX8_lowBits 1 (some .int)]
def wsX8_many_r2 : List Cond := [Cond.methodLink RX3 49 yX3_flipMask, Cond.instanceMethod yX3_flipMask, Cond.selects RX3 yX3_flipMask yX3_flipMask, Cond.code yX3_flipMask cX3_flipMask 1 (some .int), Cond.fieldLink RX3 26 "OneHandset$Keys" "flip" "I", Cond.methodLink RX3 85 yJ6_bitCount_0f7a4, Cond.static yJ6_bitCount_0f7a4, Cond.initialized RJ6, Cond.code yJ6_bitCount_0f7a4 cJ6_bitCount_0f7a4 1 (some .int), Cond.constant RJ6 265 (1431655765), Cond.constant RJ6 266 (858993459), Cond.constant RJ6 267 (252645135), Cond.methodLink RX8 146 yX3_foreseenCount, Cond.instanceMethod yX3_foreseenCount, Cond.selects RX3 yX3_foreseenCount yX3_foreseenCount, Cond.code yX3_foreseenCount cX3_foreseenCount 3 (some .int), Cond.methodLink RX3 93 yX3_foreseenAbove, Cond.instanceMethod yX3_foreseenAbove, Cond.selects RX3 yX3_foreseenAbove yX3_foreseenAbove, Cond.code yX3_foreseenAbove cX3_foreseenAbove 6 (some .int), Cond.fieldLink RX3 66 "OneHandset$Keys" "fixedOn" "I", Cond.methodLink RX3 90 yX3_checksHoldFor, Cond.instanceMethod yX3_checksHoldFor, Cond.selects RX3 yX3_checksHoldFor yX3_checksHoldFor]
def wsX8_many_r3 : List Cond := [Cond.code yX3_checksHoldFor cX3_checksHoldFor 3 (some .boolean), Cond.fieldLink RX3 15 "OneHandset$Keys" "constants" "[I", Cond.methodLink RX3 75 yX3_constantFor, Cond.instanceMethod yX3_constantFor, Cond.selects RX3 yX3_constantFor yX3_constantFor, Cond.code yX3_constantFor cX3_constantFor 3 (some .int), Cond.methodLink RX3 79 yX3_isContrary, Cond.instanceMethod yX3_isContrary, Cond.selects RX3 yX3_isContrary yX3_isContrary, Cond.code yX3_isContrary cX3_isContrary 3 (some .boolean)]
def wsX8_many : List Cond := .code yX8_many cX8_many 3 (some .int) :: ((wsX8_many_r1 ++ (wsX8_many_r2 ++ wsX8_many_r3)) ++ wsX40 ++ wsX80 ++ wsX30)
def wsX8_foreseen_r1 : List Cond := [Cond.methodLink RX8 61 yX8_makeAt, Cond.instanceMethod yX8_makeAt, Cond.selects RX8 yX8_makeAt yX8_makeAt, Cond.initialized RX8, Cond.code yX8_makeAt cX8_makeAt 2 (some (.object "OneHandset$Make")), Cond.fieldLink RX8 22 "OneHandset" "makeCount" "I", Cond.fieldLink RX8 18 "OneHandset" "makes" "[LOneHandset$Make;", Cond.methodLink RX8 40 yX8_within, Cond.static yX8_within, Cond.code yX8_within cX8_within 3 (some .boolean), Cond.methodLink RX8 142 yX3_canForesee, Cond.instanceMethod yX3_canForesee, Cond.selects RX3 yX3_canForesee yX3_canForesee, Cond.initialized RX3, Cond.code yX3_canForesee cX3_canForesee 1 (some .boolean), Cond.fieldLink RX3 57 "OneHandset$Keys" "learnt" "I", Cond.methodLink RX3 82 yX3_free, Cond.instanceMethod yX3_free, Cond.selects RX3 yX3_free yX3_free, Cond.code yX3_free cX3_free 1 (some .int), Cond.fieldLink RX3 18 "OneHandset$Keys" "bits" "I", Cond.fieldLink RX3 63 "OneHandset$Keys" "fixed" "I", Cond.static yX8_lowBits, Cond.code yX8_lowBits cX8_lowBits 1 (some .int)]
def wsX8_foreseen_r2 : List Cond := [Cond.methodLink RX3 49 yX3_flipMask, Cond.instanceMethod yX3_flipMask, Cond.selects RX3 yX3_flipMask yX3_flipMask, Cond.code yX3_flipMask cX3_flipMask 1 (some .int), Cond.fieldLink RX3 26 "OneHandset$Keys" "flip" "I", Cond.methodLink RX3 85 yJ6_bitCount_0f7a4, Cond.static yJ6_bitCount_0f7a4, Cond.initialized RJ6, Cond.code yJ6_bitCount_0f7a4 cJ6_bitCount_0f7a4 1 (some .int), Cond.constant RJ6 265 (1431655765), Cond.constant RJ6 266 (858993459), Cond.constant RJ6 267 (252645135), Cond.methodLink RX8 150 yX3_foreseenAt, Cond.instanceMethod yX3_foreseenAt, Cond.selects RX3 yX3_foreseenAt yX3_foreseenAt, Cond.code yX3_foreseenAt cX3_foreseenAt 4 (some .int), Cond.methodLink RX3 93 yX3_foreseenAbove, Cond.instanceMethod yX3_foreseenAbove, Cond.selects RX3 yX3_foreseenAbove yX3_foreseenAbove, Cond.code yX3_foreseenAbove cX3_foreseenAbove 6 (some .int), Cond.fieldLink RX3 66 "OneHandset$Keys" "fixedOn" "I", Cond.methodLink RX3 90 yX3_checksHoldFor, Cond.instanceMethod yX3_checksHoldFor, Cond.selects RX3 yX3_checksHoldFor yX3_checksHoldFor]
def wsX8_foreseen_r3 : List Cond := [Cond.code yX3_checksHoldFor cX3_checksHoldFor 3 (some .boolean), Cond.fieldLink RX3 15 "OneHandset$Keys" "constants" "[I", Cond.methodLink RX3 75 yX3_constantFor, Cond.instanceMethod yX3_constantFor, Cond.selects RX3 yX3_constantFor yX3_constantFor, Cond.code yX3_constantFor cX3_constantFor 3 (some .int), Cond.methodLink RX3 79 yX3_isContrary, Cond.instanceMethod yX3_isContrary, Cond.selects RX3 yX3_isContrary yX3_isContrary, Cond.code yX3_isContrary cX3_isContrary 3 (some .boolean)]
def wsX8_foreseen : List Cond := .code yX8_foreseen cX8_foreseen 4 (some .int) :: ((wsX8_foreseen_r1 ++ (wsX8_foreseen_r2 ++ wsX8_foreseen_r3)) ++ wsX40 ++ wsX80 ++ wsX30)
def wsX8_both_r1 : List Cond := [Cond.methodLink RX8 61 yX8_makeAt, Cond.instanceMethod yX8_makeAt, Cond.selects RX8 yX8_makeAt yX8_makeAt, Cond.initialized RX8, Cond.code yX8_makeAt cX8_makeAt 2 (some (.object "OneHandset$Make")), Cond.fieldLink RX8 22 "OneHandset" "makeCount" "I", Cond.fieldLink RX8 18 "OneHandset" "makes" "[LOneHandset$Make;", Cond.methodLink RX8 40 yX8_within, Cond.static yX8_within, Cond.code yX8_within cX8_within 3 (some .boolean), Cond.methodLink RX8 142 yX3_canForesee, Cond.instanceMethod yX3_canForesee, Cond.selects RX3 yX3_canForesee yX3_canForesee, Cond.initialized RX3, Cond.code yX3_canForesee cX3_canForesee 1 (some .boolean), Cond.fieldLink RX3 57 "OneHandset$Keys" "learnt" "I", Cond.methodLink RX3 82 yX3_free, Cond.instanceMethod yX3_free, Cond.selects RX3 yX3_free yX3_free, Cond.code yX3_free cX3_free 1 (some .int), Cond.fieldLink RX3 18 "OneHandset$Keys" "bits" "I", Cond.fieldLink RX3 63 "OneHandset$Keys" "fixed" "I", Cond.static yX8_lowBits, Cond.code yX8_lowBits cX8_lowBits 1 (some .int)]
def wsX8_both_r2 : List Cond := [Cond.methodLink RX3 49 yX3_flipMask, Cond.instanceMethod yX3_flipMask, Cond.selects RX3 yX3_flipMask yX3_flipMask, Cond.code yX3_flipMask cX3_flipMask 1 (some .int), Cond.fieldLink RX3 26 "OneHandset$Keys" "flip" "I", Cond.methodLink RX3 85 yJ6_bitCount_0f7a4, Cond.static yJ6_bitCount_0f7a4, Cond.initialized RJ6, Cond.code yJ6_bitCount_0f7a4 cJ6_bitCount_0f7a4 1 (some .int), Cond.constant RJ6 265 (1431655765), Cond.constant RJ6 266 (858993459), Cond.constant RJ6 267 (252645135), Cond.methodLink RX8 153 yX3_leastForeseenWith, Cond.instanceMethod yX3_leastForeseenWith, Cond.selects RX3 yX3_leastForeseenWith yX3_leastForeseenWith, Cond.code yX3_leastForeseenWith cX3_leastForeseenWith 4 (some .int), Cond.methodLink RX3 93 yX3_foreseenAbove, Cond.instanceMethod yX3_foreseenAbove, Cond.selects RX3 yX3_foreseenAbove yX3_foreseenAbove, Cond.code yX3_foreseenAbove cX3_foreseenAbove 6 (some .int), Cond.fieldLink RX3 66 "OneHandset$Keys" "fixedOn" "I", Cond.methodLink RX3 90 yX3_checksHoldFor, Cond.instanceMethod yX3_checksHoldFor, Cond.selects RX3 yX3_checksHoldFor yX3_checksHoldFor]
def wsX8_both_r3 : List Cond := [Cond.code yX3_checksHoldFor cX3_checksHoldFor 3 (some .boolean), Cond.fieldLink RX3 15 "OneHandset$Keys" "constants" "[I", Cond.methodLink RX3 75 yX3_constantFor, Cond.instanceMethod yX3_constantFor, Cond.selects RX3 yX3_constantFor yX3_constantFor, Cond.code yX3_constantFor cX3_constantFor 3 (some .int), Cond.methodLink RX3 79 yX3_isContrary, Cond.instanceMethod yX3_isContrary, Cond.selects RX3 yX3_isContrary yX3_isContrary, Cond.code yX3_isContrary cX3_isContrary 3 (some .boolean), Cond.methodLink RX3 96 yX3_foresees, Cond.instanceMethod yX3_foresees, Cond.selects RX3 yX3_foresees yX3_foresees, Cond.code yX3_foresees cX3_foresees 2 (some .boolean)]
def wsX8_both : List Cond := .code yX8_both cX8_both 5 (some .int) :: ((wsX8_both_r1 ++ (wsX8_both_r2 ++ wsX8_both_r3)) ++ wsX40 ++ wsX80 ++ wsX30)
def wsX8_boxAt : List Cond := .code yX8_boxAt cX8_boxAt 2 (some (.object "OneHandset$Box")) :: ([.fieldLink RX8 28 "OneHandset" "boxes" "[LOneHandset$Box;", .methodLink RX8 40 yX8_within, .static yX8_within, .initialized RX8, .code yX8_within cX8_within 3 (some .boolean)] ++ wsX80)
def wsX8_box : List Cond := .code yX8_box cX8_box 5 (some .boolean) :: ([.methodLink RX8 157 yX8_boxAt, .instanceMethod yX8_boxAt, .selects RX8 yX8_boxAt yX8_boxAt, .initialized RX8, .code yX8_boxAt cX8_boxAt 2 (some (.object "OneHandset$Box")), .fieldLink RX8 28 "OneHandset" "boxes" "[LOneHandset$Box;", .methodLink RX8 40 yX8_within, .static yX8_within, .code yX8_within cX8_within 3 (some .boolean), .instanceMethod yX0_startAnew, .initialized RX0, .selects RX0 yX0_startAnew yX0_startAnew, .code yX0_startAnew cX0_startAnew 3 none, .fieldLink RX0 19 "OneHandset$Box" "states" "I", .fieldLink RX0 23 "OneHandset$Box" "buttons" "I", .fieldLink RX0 30 "OneHandset$Box" "maybe" "I", .fieldLink RX0 9 "OneHandset$Box" "leads" "[I", .static yX8_lowBits, .code yX8_lowBits cX8_lowBits 1 (some .int), .methodLink RX0 33 yJ7_fill_53178, .static yJ7_fill_53178, .initialized RJ7, .code yJ7_fill_53178 cJ7_fill_53178 4 none] ++ wsX80 ++ wsX00)
def wsX8_lead_r1 : List Cond := [Cond.methodLink RX8 157 yX8_boxAt, Cond.instanceMethod yX8_boxAt, Cond.selects RX8 yX8_boxAt yX8_boxAt, Cond.initialized RX8, Cond.code yX8_boxAt cX8_boxAt 2 (some (.object "OneHandset$Box")), Cond.fieldLink RX8 28 "OneHandset" "boxes" "[LOneHandset$Box;", Cond.methodLink RX8 40 yX8_within, Cond.static yX8_within, Cond.code yX8_within cX8_within 3 (some .boolean), Cond.methodLink RX8 164 yX0_hasState, Cond.instanceMethod yX0_hasState, Cond.selects RX0 yX0_hasState yX0_hasState, Cond.initialized RX0, Cond.code yX0_hasState cX0_hasState 2 (some .boolean), Cond.fieldLink RX0 19 "OneHandset$Box" "states" "I", Cond.methodLink RX8 167 yX0_hasButton, Cond.instanceMethod yX0_hasButton, Cond.selects RX0 yX0_hasButton yX0_hasButton, Cond.code yX0_hasButton cX0_hasButton 2 (some .boolean), Cond.fieldLink RX0 23 "OneHandset$Box" "buttons" "I", Cond.methodLink RX8 170 yX0_setLead, Cond.instanceMethod yX0_setLead, Cond.selects RX0 yX0_setLead yX0_setLead, Cond.code yX0_setLead cX0_setLead 4 none]
def wsX8_lead_r2 : List Cond := [Cond.fieldLink RX0 9 "OneHandset$Box" "leads" "[I", Cond.methodLink RX0 43 yX0_hasState, Cond.methodLink RX0 47 yX0_hasButton]
def wsX8_lead : List Cond := .code yX8_lead cX8_lead 6 (some .boolean) :: ((wsX8_lead_r1 ++ wsX8_lead_r2) ++ wsX80 ++ wsX00)
def wsX8_maybe : List Cond := .code yX8_maybe cX8_maybe 4 (some .boolean) :: ([.methodLink RX8 157 yX8_boxAt, .instanceMethod yX8_boxAt, .selects RX8 yX8_boxAt yX8_boxAt, .initialized RX8, .code yX8_boxAt cX8_boxAt 2 (some (.object "OneHandset$Box")), .fieldLink RX8 28 "OneHandset" "boxes" "[LOneHandset$Box;", .methodLink RX8 40 yX8_within, .static yX8_within, .code yX8_within cX8_within 3 (some .boolean), .methodLink RX8 174 yX0_hasSet, .instanceMethod yX0_hasSet, .selects RX0 yX0_hasSet yX0_hasSet, .initialized RX0, .code yX0_hasSet cX0_hasSet 2 (some .boolean), .fieldLink RX0 19 "OneHandset$Box" "states" "I", .static yX8_lowBits, .code yX8_lowBits cX8_lowBits 1 (some .int)] ++ wsX00 ++ wsX80)
def wsX8_push : List Cond := .code yX8_push cX8_push 4 (some .int) :: ([.methodLink RX8 157 yX8_boxAt, .instanceMethod yX8_boxAt, .selects RX8 yX8_boxAt yX8_boxAt, .initialized RX8, .code yX8_boxAt cX8_boxAt 2 (some (.object "OneHandset$Box")), .fieldLink RX8 28 "OneHandset" "boxes" "[LOneHandset$Box;", .methodLink RX8 40 yX8_within, .static yX8_within, .code yX8_within cX8_within 3 (some .boolean), .methodLink RX8 167 yX0_hasButton, .instanceMethod yX0_hasButton, .selects RX0 yX0_hasButton yX0_hasButton, .initialized RX0, .code yX0_hasButton cX0_hasButton 2 (some .boolean), .fieldLink RX0 23 "OneHandset$Box" "buttons" "I", .methodLink RX8 180 yX0_behind, .instanceMethod yX0_behind, .selects RX0 yX0_behind yX0_behind, .code yX0_behind cX0_behind 5 (some .int), .fieldLink RX0 19 "OneHandset$Box" "states" "I", .fieldLink RX0 9 "OneHandset$Box" "leads" "[I", .methodLink RX0 47 yX0_hasButton] ++ wsX00 ++ wsX80)
def wsX8_way_r1 : List Cond := [Cond.fieldLink RX8 36 "OneHandset" "route" "LOneHandset$Route;", Cond.methodLink RX8 157 yX8_boxAt, Cond.instanceMethod yX8_boxAt, Cond.selects RX8 yX8_boxAt yX8_boxAt, Cond.initialized RX8, Cond.code yX8_boxAt cX8_boxAt 2 (some (.object "OneHandset$Box")), Cond.fieldLink RX8 28 "OneHandset" "boxes" "[LOneHandset$Box;", Cond.methodLink RX8 40 yX8_within, Cond.static yX8_within, Cond.code yX8_within cX8_within 3 (some .boolean), Cond.methodLink RX8 174 yX0_hasSet, Cond.instanceMethod yX0_hasSet, Cond.selects RX0 yX0_hasSet yX0_hasSet, Cond.initialized RX0, Cond.code yX0_hasSet cX0_hasSet 2 (some .boolean), Cond.fieldLink RX0 19 "OneHandset$Box" "states" "I", Cond.static yX8_lowBits, Cond.code yX8_lowBits cX8_lowBits 1 (some .int), Cond.methodLink RX8 183 yX6_find, Cond.instanceMethod yX6_find, Cond.selects RX6 yX6_find yX6_find, Cond.initialized RX6, Cond.code yX6_find cX6_find 9 (some .int), Cond.fieldLink RX6 18 "OneHandset$Route" "before" "[I"]
def wsX8_way_r2 : List Cond := [Cond.fieldLink RX6 15 "OneHandset$Route" "queue" "[I", Cond.fieldLink RX6 21 "OneHandset$Route" "by" "[I", Cond.methodLink RX6 28 yJ7_fill_53178, Cond.static yJ7_fill_53178, Cond.initialized RJ7, Cond.code yJ7_fill_53178 cJ7_fill_53178 4 none, Cond.methodLink RX6 39 yX6_keepRow, Cond.instanceMethod yX6_keepRow, Cond.selects RX6 yX6_keepRow yX6_keepRow, Cond.code yX6_keepRow cX6_keepRow 5 (some .int), Cond.fieldLink RX6 24 "OneHandset$Route" "length" "I", Cond.fieldLink RX6 9 "OneHandset$Route" "row" "[I", Cond.methodLink RX6 46 yX0_behind, Cond.instanceMethod yX0_behind, Cond.selects RX0 yX0_behind yX0_behind, Cond.code yX0_behind cX0_behind 5 (some .int), Cond.fieldLink RX0 9 "OneHandset$Box" "leads" "[I", Cond.methodLink RX0 47 yX0_hasButton, Cond.instanceMethod yX0_hasButton, Cond.selects RX0 yX0_hasButton yX0_hasButton, Cond.code yX0_hasButton cX0_hasButton 2 (some .boolean), Cond.fieldLink RX0 23 "OneHandset$Box" "buttons" "I"]
def wsX8_way : List Cond := .code yX8_way cX8_way 4 (some .int) :: ((wsX8_way_r1 ++ wsX8_way_r2) ++ wsX80 ++ wsX00 ++ wsX60)
def wsX8_button : List Cond := .code yX8_button cX8_button 2 (some .int) :: ([.fieldLink RX8 36 "OneHandset" "route" "LOneHandset$Route;", .methodLink RX8 187 yX6_buttonAt, .instanceMethod yX6_buttonAt, .selects RX6 yX6_buttonAt yX6_buttonAt, .initialized RX6, .code yX6_buttonAt cX6_buttonAt 2 (some .int), .fieldLink RX6 24 "OneHandset$Route" "length" "I", .fieldLink RX6 9 "OneHandset$Route" "row" "[I", .static yX8_within, .initialized RX8, .code yX8_within cX8_within 3 (some .boolean)] ++ wsX80 ++ wsX60)
def wsX8_told : List Cond := .code yX8_told cX8_told 4 (some .int) :: ([.methodLink RX8 157 yX8_boxAt, .instanceMethod yX8_boxAt, .selects RX8 yX8_boxAt yX8_boxAt, .initialized RX8, .code yX8_boxAt cX8_boxAt 2 (some (.object "OneHandset$Box")), .fieldLink RX8 28 "OneHandset" "boxes" "[LOneHandset$Box;", .methodLink RX8 40 yX8_within, .static yX8_within, .code yX8_within cX8_within 3 (some .boolean)] ++ wsX00 ++ wsX80)
def wsX8_count : List Cond := .code yX8_count cX8_count 2 (some .int) :: ([.fieldLink RX8 22 "OneHandset" "makeCount" "I", .fieldLink RX8 12 "OneHandset" "tape" "LOneHandset$Tape;", .fieldLink RX8 36 "OneHandset" "route" "LOneHandset$Route;"] ++ wsX80 ++ wsX70 ++ wsX60)
def wsX9_init : List Cond := .code yX9_init cX9_init 2 none :: ([.methodLink RX9 1 objectInit, .instanceMethod objectInit, .code objectInit ⟨#[0xb1]⟩ 1 none, .arrayClass .int, .fieldLink RX9 9 "OneHandsetModel" "tape" "[I", .fieldLink RX9 13 "OneHandsetModel" "makes" "[I", .fieldLink RX9 16 "OneHandsetModel" "keys" "[I", .fieldLink RX9 19 "OneHandsetModel" "states" "[I", .fieldLink RX9 22 "OneHandsetModel" "buttons" "[I", .fieldLink RX9 25 "OneHandsetModel" "leads" "[I", .fieldLink RX9 28 "OneHandsetModel" "sets" "[I", .fieldLink RX9 31 "OneHandsetModel" "way" "[I", .fieldLink RX9 34 "OneHandsetModel" "queue" "[I", .fieldLink RX9 37 "OneHandsetModel" "from" "[I", .fieldLink RX9 40 "OneHandsetModel" "by" "[I"] ++ wsX90)
def wsX9_thrown : List Cond := .code yX9_thrown cX9_thrown 1 (some .int) :: ([.fieldLink RX9 43 "OneHandsetModel" "thrown" "I"] ++ wsX90)
def wsX9_in : List Cond := .code yX9_in cX9_in 3 (some .boolean) :: ([])
def wsX9_isMake : List Cond := .code yX9_isMake cX9_isMake 2 (some .boolean) :: ([.fieldLink RX9 47 "OneHandsetModel" "makeMany" "I", .methodLink RX9 50 yX9_in, .static yX9_in, .initialized RX9, .code yX9_in cX9_in 3 (some .boolean)] ++ wsX90)
def wsX9_get : List Cond := .code yX9_get cX9_get 3 (some .int) :: ([.fieldLink RX9 13 "OneHandsetModel" "makes" "[I"] ++ wsX90)
def wsX9_make : List Cond := .code yX9_make cX9_make 10 (some .int) :: ([.fieldLink RX9 43 "OneHandsetModel" "thrown" "I", .fieldLink RX9 47 "OneHandsetModel" "makeMany" "I", .arrayClass .int, .fieldLink RX9 13 "OneHandsetModel" "makes" "[I", .fieldLink RX9 16 "OneHandsetModel" "keys" "[I", .methodLink RX9 50 yX9_in, .static yX9_in, .initialized RX9, .code yX9_in cX9_in 3 (some .boolean)] ++ wsX90)
def wsX9_set : List Cond := .code yX9_set cX9_set 5 (some .boolean) :: ([.fieldLink RX9 43 "OneHandsetModel" "thrown" "I", .fieldLink RX9 13 "OneHandsetModel" "makes" "[I", .fieldLink RX9 16 "OneHandsetModel" "keys" "[I", .methodLink RX9 54 yX9_isMake, .instanceMethod yX9_isMake, .selects RX9 yX9_isMake yX9_isMake, .initialized RX9, .code yX9_isMake cX9_isMake 2 (some .boolean), .fieldLink RX9 47 "OneHandsetModel" "makeMany" "I", .methodLink RX9 50 yX9_in, .static yX9_in, .code yX9_in cX9_in 3 (some .boolean), .methodLink RX9 58 yX9_get, .instanceMethod yX9_get, .selects RX9 yX9_get yX9_get, .code yX9_get cX9_get 3 (some .int)] ++ wsX90)
def wsX9_feed : List Cond := .code yX9_feed cX9_feed 6 (some .int) :: ([.fieldLink RX9 43 "OneHandsetModel" "thrown" "I", .fieldLink RX9 62 "OneHandsetModel" "taped" "I", .fieldLink RX9 9 "OneHandsetModel" "tape" "[I"] ++ wsX90)
def wsX9_end : List Cond := .code yX9_end cX9_end 2 (some .boolean) :: ([.fieldLink RX9 43 "OneHandsetModel" "thrown" "I", .fieldLink RX9 62 "OneHandsetModel" "taped" "I"] ++ wsX90)
def wsX9_lay : List Cond := .code yX9_lay cX9_lay 2 none :: ([.fieldLink RX9 9 "OneHandsetModel" "tape" "[I", .fieldLink RX9 62 "OneHandsetModel" "taped" "I"] ++ wsX90)
def wsX9_isOn : List Cond := .code yX9_isOn cX9_isOn 4 (some .boolean) :: ([])
def wsX9_layHalves : List Cond := .code yX9_layHalves cX9_layHalves 7 none :: ([.methodLink RX9 65 yX9_isOn, .static yX9_isOn, .initialized RX9, .code yX9_isOn cX9_isOn 4 (some .boolean), .methodLink RX9 68 yX9_lay, .instanceMethod yX9_lay, .selects RX9 yX9_lay yX9_lay, .code yX9_lay cX9_lay 2 none, .fieldLink RX9 9 "OneHandsetModel" "tape" "[I", .fieldLink RX9 62 "OneHandsetModel" "taped" "I"] ++ wsX90)
def wsX9_flash : List Cond := .code yX9_flash cX9_flash 7 none :: ([.fieldLink RX9 62 "OneHandsetModel" "taped" "I", .methodLink RX9 58 yX9_get, .instanceMethod yX9_get, .selects RX9 yX9_get yX9_get, .initialized RX9, .code yX9_get cX9_get 3 (some .int), .fieldLink RX9 13 "OneHandsetModel" "makes" "[I", .methodLink RX9 72 yX9_layHalves, .instanceMethod yX9_layHalves, .selects RX9 yX9_layHalves yX9_layHalves, .code yX9_layHalves cX9_layHalves 7 none, .methodLink RX9 65 yX9_isOn, .static yX9_isOn, .code yX9_isOn cX9_isOn 4 (some .boolean), .methodLink RX9 68 yX9_lay, .instanceMethod yX9_lay, .selects RX9 yX9_lay yX9_lay, .code yX9_lay cX9_lay 2 none, .fieldLink RX9 9 "OneHandsetModel" "tape" "[I"] ++ wsX90)
def wsX9_send_r1 : List Cond := [Cond.fieldLink RX9 43 "OneHandsetModel" "thrown" "I", Cond.fieldLink RX9 62 "OneHandsetModel" "taped" "I", Cond.methodLink RX9 54 yX9_isMake, Cond.instanceMethod yX9_isMake, Cond.selects RX9 yX9_isMake yX9_isMake, Cond.initialized RX9, Cond.code yX9_isMake cX9_isMake 2 (some .boolean), Cond.fieldLink RX9 47 "OneHandsetModel" "makeMany" "I", Cond.methodLink RX9 50 yX9_in, Cond.static yX9_in, Cond.code yX9_in cX9_in 3 (some .boolean), Cond.methodLink RX9 58 yX9_get, Cond.instanceMethod yX9_get, Cond.selects RX9 yX9_get yX9_get, Cond.code yX9_get cX9_get 3 (some .int), Cond.fieldLink RX9 13 "OneHandsetModel" "makes" "[I", Cond.methodLink RX9 76 yX9_flash, Cond.instanceMethod yX9_flash, Cond.selects RX9 yX9_flash yX9_flash, Cond.code yX9_flash cX9_flash 7 none, Cond.methodLink RX9 72 yX9_layHalves, Cond.instanceMethod yX9_layHalves, Cond.selects RX9 yX9_layHalves yX9_layHalves, Cond.code yX9_layHalves cX9_layHalves 7 none]
def wsX9_send_r2 : List Cond := [Cond.methodLink RX9 65 yX9_isOn, Cond.static yX9_isOn, Cond.code yX9_isOn cX9_isOn 4 (some .boolean), Cond.methodLink RX9 68 yX9_lay, Cond.instanceMethod yX9_lay, Cond.selects RX9 yX9_lay yX9_lay, Cond.code yX9_lay cX9_lay 2 none, Cond.fieldLink RX9 9 "OneHandsetModel" "tape" "[I"]
def wsX9_send : List Cond := .code yX9_send cX9_send 3 (some .int) :: ((wsX9_send_r1 ++ wsX9_send_r2) ++ wsX90)
def wsX9_time : List Cond := .code yX9_time cX9_time 2 (some .int) :: ([.fieldLink RX9 43 "OneHandsetModel" "thrown" "I", .fieldLink RX9 62 "OneHandsetModel" "taped" "I", .fieldLink RX9 9 "OneHandsetModel" "tape" "[I", .methodLink RX9 50 yX9_in, .static yX9_in, .initialized RX9, .code yX9_in cX9_in 3 (some .boolean)] ++ wsX90)
def wsX9_isTime : List Cond := .code yX9_isTime cX9_isTime 1 (some .boolean) :: ([.methodLink RX9 50 yX9_in, .static yX9_in, .initialized RX9, .code yX9_in cX9_in 3 (some .boolean)])
def wsX9_fits : List Cond := .code yX9_fits cX9_fits 4 (some .boolean) :: ([.methodLink RX9 83 Lib.Math.abs.name, .static Lib.Math.abs.name, .initialized "java/lang/Math", .code Lib.Math.abs.name Lib.Math.abs.code 1 (some .int), .methodLink RX9 80 yX9_isTime, .static yX9_isTime, .initialized RX9, .code yX9_isTime cX9_isTime 1 (some .boolean), .methodLink RX9 50 yX9_in, .static yX9_in, .code yX9_in cX9_in 3 (some .boolean), .methodLink RX9 58 yX9_get, .instanceMethod yX9_get, .selects RX9 yX9_get yX9_get, .code yX9_get cX9_get 3 (some .int), .fieldLink RX9 13 "OneHandsetModel" "makes" "[I"] ++ wsX90)
def wsX9_which : List Cond := .code yX9_which cX9_which 7 (some .int) :: ([.methodLink RX9 83 Lib.Math.abs.name, .static Lib.Math.abs.name, .initialized "java/lang/Math", .code Lib.Math.abs.name Lib.Math.abs.code 1 (some .int), .methodLink RX9 89 yX9_fits, .instanceMethod yX9_fits, .selects RX9 yX9_fits yX9_fits, .initialized RX9, .code yX9_fits cX9_fits 4 (some .boolean), .methodLink RX9 80 yX9_isTime, .static yX9_isTime, .code yX9_isTime cX9_isTime 1 (some .boolean), .methodLink RX9 50 yX9_in, .static yX9_in, .code yX9_in cX9_in 3 (some .boolean), .methodLink RX9 58 yX9_get, .instanceMethod yX9_get, .selects RX9 yX9_get yX9_get, .code yX9_get cX9_get 3 (some .int), .fieldLink RX9 13 "OneHandsetModel" "makes" "[I"] ++ wsX90)
def wsX9_fault : List Cond := .code yX9_fault cX9_fault 2 (some .int) :: ([.fieldLink RX9 92 "OneHandsetModel" "faultAt" "I"] ++ wsX90)
def wsX9_readBits_r1 : List Cond := [Cond.fieldLink RX9 62 "OneHandsetModel" "taped" "I", Cond.fieldLink RX9 9 "OneHandsetModel" "tape" "[I", Cond.methodLink RX9 58 yX9_get, Cond.instanceMethod yX9_get, Cond.selects RX9 yX9_get yX9_get, Cond.initialized RX9, Cond.code yX9_get cX9_get 3 (some .int), Cond.fieldLink RX9 13 "OneHandsetModel" "makes" "[I", Cond.methodLink RX9 95 yX9_fault, Cond.instanceMethod yX9_fault, Cond.selects RX9 yX9_fault yX9_fault, Cond.code yX9_fault cX9_fault 2 (some .int), Cond.fieldLink RX9 92 "OneHandsetModel" "faultAt" "I", Cond.methodLink RX9 89 yX9_fits, Cond.instanceMethod yX9_fits, Cond.selects RX9 yX9_fits yX9_fits, Cond.code yX9_fits cX9_fits 4 (some .boolean), Cond.methodLink RX9 83 Lib.Math.abs.name, Cond.static Lib.Math.abs.name, Cond.initialized "java/lang/Math", Cond.code Lib.Math.abs.name Lib.Math.abs.code 1 (some .int), Cond.methodLink RX9 80 yX9_isTime, Cond.static yX9_isTime, Cond.code yX9_isTime cX9_isTime 1 (some .boolean)]
def wsX9_readBits_r2 : List Cond := [Cond.methodLink RX9 50 yX9_in, Cond.static yX9_in, Cond.code yX9_in cX9_in 3 (some .boolean), Cond.methodLink RX9 98 yX9_which, Cond.instanceMethod yX9_which, Cond.selects RX9 yX9_which yX9_which, Cond.code yX9_which cX9_which 7 (some .int)]
def wsX9_readBits : List Cond := .code yX9_readBits cX9_readBits 9 (some .int) :: ((wsX9_readBits_r1 ++ wsX9_readBits_r2) ++ wsX90)
def wsX9_readHalves_r1 : List Cond := [Cond.fieldLink RX9 62 "OneHandsetModel" "taped" "I", Cond.fieldLink RX9 9 "OneHandsetModel" "tape" "[I", Cond.methodLink RX9 58 yX9_get, Cond.instanceMethod yX9_get, Cond.selects RX9 yX9_get yX9_get, Cond.initialized RX9, Cond.code yX9_get cX9_get 3 (some .int), Cond.fieldLink RX9 13 "OneHandsetModel" "makes" "[I", Cond.methodLink RX9 98 yX9_which, Cond.instanceMethod yX9_which, Cond.selects RX9 yX9_which yX9_which, Cond.code yX9_which cX9_which 7 (some .int), Cond.methodLink RX9 83 Lib.Math.abs.name, Cond.static Lib.Math.abs.name, Cond.initialized "java/lang/Math", Cond.code Lib.Math.abs.name Lib.Math.abs.code 1 (some .int), Cond.methodLink RX9 89 yX9_fits, Cond.instanceMethod yX9_fits, Cond.selects RX9 yX9_fits yX9_fits, Cond.code yX9_fits cX9_fits 4 (some .boolean), Cond.methodLink RX9 80 yX9_isTime, Cond.static yX9_isTime, Cond.code yX9_isTime cX9_isTime 1 (some .boolean), Cond.methodLink RX9 50 yX9_in]
def wsX9_readHalves_r2 : List Cond := [Cond.static yX9_in, Cond.code yX9_in cX9_in 3 (some .boolean), Cond.methodLink RX9 95 yX9_fault, Cond.instanceMethod yX9_fault, Cond.selects RX9 yX9_fault yX9_fault, Cond.code yX9_fault cX9_fault 2 (some .int), Cond.fieldLink RX9 92 "OneHandsetModel" "faultAt" "I"]
def wsX9_readHalves : List Cond := .code yX9_readHalves cX9_readHalves 11 (some .int) :: ((wsX9_readHalves_r1 ++ wsX9_readHalves_r2) ++ wsX90)
def wsX9_readBy_r1 : List Cond := [Cond.methodLink RX9 58 yX9_get, Cond.instanceMethod yX9_get, Cond.selects RX9 yX9_get yX9_get, Cond.initialized RX9, Cond.code yX9_get cX9_get 3 (some .int), Cond.fieldLink RX9 13 "OneHandsetModel" "makes" "[I", Cond.methodLink RX9 102 yX9_readHalves, Cond.instanceMethod yX9_readHalves, Cond.selects RX9 yX9_readHalves yX9_readHalves, Cond.code yX9_readHalves cX9_readHalves 11 (some .int), Cond.fieldLink RX9 62 "OneHandsetModel" "taped" "I", Cond.fieldLink RX9 9 "OneHandsetModel" "tape" "[I", Cond.methodLink RX9 98 yX9_which, Cond.instanceMethod yX9_which, Cond.selects RX9 yX9_which yX9_which, Cond.code yX9_which cX9_which 7 (some .int), Cond.methodLink RX9 83 Lib.Math.abs.name, Cond.static Lib.Math.abs.name, Cond.initialized "java/lang/Math", Cond.code Lib.Math.abs.name Lib.Math.abs.code 1 (some .int), Cond.methodLink RX9 89 yX9_fits, Cond.instanceMethod yX9_fits, Cond.selects RX9 yX9_fits yX9_fits, Cond.code yX9_fits cX9_fits 4 (some .boolean)]
def wsX9_readBy_r2 : List Cond := [Cond.methodLink RX9 80 yX9_isTime, Cond.static yX9_isTime, Cond.code yX9_isTime cX9_isTime 1 (some .boolean), Cond.methodLink RX9 50 yX9_in, Cond.static yX9_in, Cond.code yX9_in cX9_in 3 (some .boolean), Cond.methodLink RX9 95 yX9_fault, Cond.instanceMethod yX9_fault, Cond.selects RX9 yX9_fault yX9_fault, Cond.code yX9_fault cX9_fault 2 (some .int), Cond.fieldLink RX9 92 "OneHandsetModel" "faultAt" "I", Cond.methodLink RX9 105 yX9_readBits, Cond.instanceMethod yX9_readBits, Cond.selects RX9 yX9_readBits yX9_readBits, Cond.code yX9_readBits cX9_readBits 9 (some .int)]
def wsX9_readBy : List Cond := .code yX9_readBy cX9_readBy 2 (some .int) :: ((wsX9_readBy_r1 ++ wsX9_readBy_r2) ++ wsX90)
def wsX9_read_r1 : List Cond := [Cond.fieldLink RX9 43 "OneHandsetModel" "thrown" "I", Cond.fieldLink RX9 92 "OneHandsetModel" "faultAt" "I", Cond.methodLink RX9 54 yX9_isMake, Cond.instanceMethod yX9_isMake, Cond.selects RX9 yX9_isMake yX9_isMake, Cond.initialized RX9, Cond.code yX9_isMake cX9_isMake 2 (some .boolean), Cond.fieldLink RX9 47 "OneHandsetModel" "makeMany" "I", Cond.methodLink RX9 50 yX9_in, Cond.static yX9_in, Cond.code yX9_in cX9_in 3 (some .boolean), Cond.methodLink RX9 108 yX9_readBy, Cond.instanceMethod yX9_readBy, Cond.selects RX9 yX9_readBy yX9_readBy, Cond.code yX9_readBy cX9_readBy 2 (some .int), Cond.methodLink RX9 58 yX9_get, Cond.instanceMethod yX9_get, Cond.selects RX9 yX9_get yX9_get, Cond.code yX9_get cX9_get 3 (some .int), Cond.fieldLink RX9 13 "OneHandsetModel" "makes" "[I", Cond.methodLink RX9 102 yX9_readHalves, Cond.instanceMethod yX9_readHalves, Cond.selects RX9 yX9_readHalves yX9_readHalves, Cond.code yX9_readHalves cX9_readHalves 11 (some .int)]
def wsX9_read_r2 : List Cond := [Cond.fieldLink RX9 62 "OneHandsetModel" "taped" "I", Cond.fieldLink RX9 9 "OneHandsetModel" "tape" "[I", Cond.methodLink RX9 98 yX9_which, Cond.instanceMethod yX9_which, Cond.selects RX9 yX9_which yX9_which, Cond.code yX9_which cX9_which 7 (some .int), Cond.methodLink RX9 83 Lib.Math.abs.name, Cond.static Lib.Math.abs.name, Cond.initialized "java/lang/Math", Cond.code Lib.Math.abs.name Lib.Math.abs.code 1 (some .int), Cond.methodLink RX9 89 yX9_fits, Cond.instanceMethod yX9_fits, Cond.selects RX9 yX9_fits yX9_fits, Cond.code yX9_fits cX9_fits 4 (some .boolean), Cond.methodLink RX9 80 yX9_isTime, Cond.static yX9_isTime, Cond.code yX9_isTime cX9_isTime 1 (some .boolean), Cond.methodLink RX9 95 yX9_fault, Cond.instanceMethod yX9_fault, Cond.selects RX9 yX9_fault yX9_fault, Cond.code yX9_fault cX9_fault 2 (some .int), Cond.methodLink RX9 105 yX9_readBits, Cond.instanceMethod yX9_readBits, Cond.selects RX9 yX9_readBits yX9_readBits]
def wsX9_read_r3 : List Cond := [Cond.code yX9_readBits cX9_readBits 9 (some .int)]
def wsX9_read : List Cond := .code yX9_read cX9_read 3 (some .int) :: ((wsX9_read_r1 ++ (wsX9_read_r2 ++ wsX9_read_r3)) ++ wsX90)
def wsX9_which__r1 : List Cond := [Cond.fieldLink RX9 43 "OneHandsetModel" "thrown" "I", Cond.fieldLink RX9 47 "OneHandsetModel" "makeMany" "I", Cond.methodLink RX9 108 yX9_readBy, Cond.instanceMethod yX9_readBy, Cond.selects RX9 yX9_readBy yX9_readBy, Cond.initialized RX9, Cond.code yX9_readBy cX9_readBy 2 (some .int), Cond.methodLink RX9 58 yX9_get, Cond.instanceMethod yX9_get, Cond.selects RX9 yX9_get yX9_get, Cond.code yX9_get cX9_get 3 (some .int), Cond.fieldLink RX9 13 "OneHandsetModel" "makes" "[I", Cond.methodLink RX9 102 yX9_readHalves, Cond.instanceMethod yX9_readHalves, Cond.selects RX9 yX9_readHalves yX9_readHalves, Cond.code yX9_readHalves cX9_readHalves 11 (some .int), Cond.fieldLink RX9 62 "OneHandsetModel" "taped" "I", Cond.fieldLink RX9 9 "OneHandsetModel" "tape" "[I", Cond.methodLink RX9 98 yX9_which, Cond.instanceMethod yX9_which, Cond.selects RX9 yX9_which yX9_which, Cond.code yX9_which cX9_which 7 (some .int), Cond.methodLink RX9 83 Lib.Math.abs.name, Cond.static Lib.Math.abs.name]
def wsX9_which__r2 : List Cond := [Cond.initialized "java/lang/Math", Cond.code Lib.Math.abs.name Lib.Math.abs.code 1 (some .int), Cond.methodLink RX9 89 yX9_fits, Cond.instanceMethod yX9_fits, Cond.selects RX9 yX9_fits yX9_fits, Cond.code yX9_fits cX9_fits 4 (some .boolean), Cond.methodLink RX9 80 yX9_isTime, Cond.static yX9_isTime, Cond.code yX9_isTime cX9_isTime 1 (some .boolean), Cond.methodLink RX9 50 yX9_in, Cond.static yX9_in, Cond.code yX9_in cX9_in 3 (some .boolean), Cond.methodLink RX9 95 yX9_fault, Cond.instanceMethod yX9_fault, Cond.selects RX9 yX9_fault yX9_fault, Cond.code yX9_fault cX9_fault 2 (some .int), Cond.fieldLink RX9 92 "OneHandsetModel" "faultAt" "I", Cond.methodLink RX9 105 yX9_readBits, Cond.instanceMethod yX9_readBits, Cond.selects RX9 yX9_readBits yX9_readBits, Cond.code yX9_readBits cX9_readBits 9 (some .int)]
def wsX9_which_ : List Cond := .code yX9_which_ cX9_which_ 3 (some .int) :: ((wsX9_which__r1 ++ wsX9_which__r2) ++ wsX90)
def wsX9_stretch : List Cond := .code yX9_stretch cX9_stretch 4 (some .boolean) :: ([.fieldLink RX9 43 "OneHandsetModel" "thrown" "I", .fieldLink RX9 62 "OneHandsetModel" "taped" "I", .fieldLink RX9 9 "OneHandsetModel" "tape" "[I", .methodLink RX9 50 yX9_in, .static yX9_in, .initialized RX9, .code yX9_in cX9_in 3 (some .boolean), .methodLink RX9 80 yX9_isTime, .static yX9_isTime, .code yX9_isTime cX9_isTime 1 (some .boolean)] ++ wsX90)
def wsX9_isKey : List Cond := .code yX9_isKey cX9_isKey 3 (some .boolean) :: ([.methodLink RX9 54 yX9_isMake, .instanceMethod yX9_isMake, .selects RX9 yX9_isMake yX9_isMake, .initialized RX9, .code yX9_isMake cX9_isMake 2 (some .boolean), .fieldLink RX9 47 "OneHandsetModel" "makeMany" "I", .methodLink RX9 50 yX9_in, .static yX9_in, .code yX9_in cX9_in 3 (some .boolean)] ++ wsX90)
def wsX9_flipOf : List Cond := .code yX9_flipOf cX9_flipOf 2 (some .int) :: ([.methodLink RX9 58 yX9_get, .instanceMethod yX9_get, .selects RX9 yX9_get yX9_get, .initialized RX9, .code yX9_get cX9_get 3 (some .int), .fieldLink RX9 13 "OneHandsetModel" "makes" "[I"] ++ wsX90)
def wsX9_learn_r1 : List Cond := [Cond.fieldLink RX9 43 "OneHandsetModel" "thrown" "I", Cond.fieldLink RX9 16 "OneHandsetModel" "keys" "[I", Cond.methodLink RX9 111 yX9_isKey, Cond.instanceMethod yX9_isKey, Cond.selects RX9 yX9_isKey yX9_isKey, Cond.initialized RX9, Cond.code yX9_isKey cX9_isKey 3 (some .boolean), Cond.methodLink RX9 54 yX9_isMake, Cond.instanceMethod yX9_isMake, Cond.selects RX9 yX9_isMake yX9_isMake, Cond.code yX9_isMake cX9_isMake 2 (some .boolean), Cond.fieldLink RX9 47 "OneHandsetModel" "makeMany" "I", Cond.methodLink RX9 50 yX9_in, Cond.static yX9_in, Cond.code yX9_in cX9_in 3 (some .boolean), Cond.methodLink RX9 108 yX9_readBy, Cond.instanceMethod yX9_readBy, Cond.selects RX9 yX9_readBy yX9_readBy, Cond.code yX9_readBy cX9_readBy 2 (some .int), Cond.methodLink RX9 58 yX9_get, Cond.instanceMethod yX9_get, Cond.selects RX9 yX9_get yX9_get, Cond.code yX9_get cX9_get 3 (some .int), Cond.fieldLink RX9 13 "OneHandsetModel" "makes" "[I"]
def wsX9_learn_r2 : List Cond := [Cond.methodLink RX9 102 yX9_readHalves, Cond.instanceMethod yX9_readHalves, Cond.selects RX9 yX9_readHalves yX9_readHalves, Cond.code yX9_readHalves cX9_readHalves 11 (some .int), Cond.fieldLink RX9 62 "OneHandsetModel" "taped" "I", Cond.fieldLink RX9 9 "OneHandsetModel" "tape" "[I", Cond.methodLink RX9 98 yX9_which, Cond.instanceMethod yX9_which, Cond.selects RX9 yX9_which yX9_which, Cond.code yX9_which cX9_which 7 (some .int), Cond.methodLink RX9 83 Lib.Math.abs.name, Cond.static Lib.Math.abs.name, Cond.initialized "java/lang/Math", Cond.code Lib.Math.abs.name Lib.Math.abs.code 1 (some .int), Cond.methodLink RX9 89 yX9_fits, Cond.instanceMethod yX9_fits, Cond.selects RX9 yX9_fits yX9_fits, Cond.code yX9_fits cX9_fits 4 (some .boolean), Cond.methodLink RX9 80 yX9_isTime, Cond.static yX9_isTime, Cond.code yX9_isTime cX9_isTime 1 (some .boolean), Cond.methodLink RX9 95 yX9_fault, Cond.instanceMethod yX9_fault, Cond.selects RX9 yX9_fault yX9_fault]
def wsX9_learn_r3 : List Cond := [Cond.code yX9_fault cX9_fault 2 (some .int), Cond.fieldLink RX9 92 "OneHandsetModel" "faultAt" "I", Cond.methodLink RX9 105 yX9_readBits, Cond.instanceMethod yX9_readBits, Cond.selects RX9 yX9_readBits yX9_readBits, Cond.code yX9_readBits cX9_readBits 9 (some .int), Cond.methodLink RX9 115 yX9_flipOf, Cond.instanceMethod yX9_flipOf, Cond.selects RX9 yX9_flipOf yX9_flipOf, Cond.code yX9_flipOf cX9_flipOf 2 (some .int)]
def wsX9_learn : List Cond := .code yX9_learn cX9_learn 5 (some .int) :: ((wsX9_learn_r1 ++ (wsX9_learn_r2 ++ wsX9_learn_r3)) ++ wsX90)
def wsX9_forget : List Cond := .code yX9_forget cX9_forget 3 (some .boolean) :: ([.fieldLink RX9 43 "OneHandsetModel" "thrown" "I", .fieldLink RX9 16 "OneHandsetModel" "keys" "[I", .methodLink RX9 111 yX9_isKey, .instanceMethod yX9_isKey, .selects RX9 yX9_isKey yX9_isKey, .initialized RX9, .code yX9_isKey cX9_isKey 3 (some .boolean), .methodLink RX9 54 yX9_isMake, .instanceMethod yX9_isMake, .selects RX9 yX9_isMake yX9_isMake, .code yX9_isMake cX9_isMake 2 (some .boolean), .fieldLink RX9 47 "OneHandsetModel" "makeMany" "I", .methodLink RX9 50 yX9_in, .static yX9_in, .code yX9_in cX9_in 3 (some .boolean)] ++ wsX90)
def wsX9_key : List Cond := .code yX9_key cX9_key 3 (some .int) :: ([.fieldLink RX9 43 "OneHandsetModel" "thrown" "I", .fieldLink RX9 16 "OneHandsetModel" "keys" "[I", .methodLink RX9 111 yX9_isKey, .instanceMethod yX9_isKey, .selects RX9 yX9_isKey yX9_isKey, .initialized RX9, .code yX9_isKey cX9_isKey 3 (some .boolean), .methodLink RX9 54 yX9_isMake, .instanceMethod yX9_isMake, .selects RX9 yX9_isMake yX9_isMake, .code yX9_isMake cX9_isMake 2 (some .boolean), .fieldLink RX9 47 "OneHandsetModel" "makeMany" "I", .methodLink RX9 50 yX9_in, .static yX9_in, .code yX9_in cX9_in 3 (some .boolean)] ++ wsX90)
def wsX9_press_r1 : List Cond := [Cond.fieldLink RX9 43 "OneHandsetModel" "thrown" "I", Cond.fieldLink RX9 16 "OneHandsetModel" "keys" "[I", Cond.fieldLink RX9 13 "OneHandsetModel" "makes" "[I", Cond.fieldLink RX9 62 "OneHandsetModel" "taped" "I", Cond.methodLink RX9 111 yX9_isKey, Cond.instanceMethod yX9_isKey, Cond.selects RX9 yX9_isKey yX9_isKey, Cond.initialized RX9, Cond.code yX9_isKey cX9_isKey 3 (some .boolean), Cond.methodLink RX9 54 yX9_isMake, Cond.instanceMethod yX9_isMake, Cond.selects RX9 yX9_isMake yX9_isMake, Cond.code yX9_isMake cX9_isMake 2 (some .boolean), Cond.fieldLink RX9 47 "OneHandsetModel" "makeMany" "I", Cond.methodLink RX9 50 yX9_in, Cond.static yX9_in, Cond.code yX9_in cX9_in 3 (some .boolean), Cond.methodLink RX9 58 yX9_get, Cond.instanceMethod yX9_get, Cond.selects RX9 yX9_get yX9_get, Cond.code yX9_get cX9_get 3 (some .int), Cond.methodLink RX9 115 yX9_flipOf, Cond.instanceMethod yX9_flipOf, Cond.selects RX9 yX9_flipOf yX9_flipOf]
def wsX9_press_r2 : List Cond := [Cond.code yX9_flipOf cX9_flipOf 2 (some .int), Cond.methodLink RX9 76 yX9_flash, Cond.instanceMethod yX9_flash, Cond.selects RX9 yX9_flash yX9_flash, Cond.code yX9_flash cX9_flash 7 none, Cond.methodLink RX9 72 yX9_layHalves, Cond.instanceMethod yX9_layHalves, Cond.selects RX9 yX9_layHalves yX9_layHalves, Cond.code yX9_layHalves cX9_layHalves 7 none, Cond.methodLink RX9 65 yX9_isOn, Cond.static yX9_isOn, Cond.code yX9_isOn cX9_isOn 4 (some .boolean), Cond.methodLink RX9 68 yX9_lay, Cond.instanceMethod yX9_lay, Cond.selects RX9 yX9_lay yX9_lay, Cond.code yX9_lay cX9_lay 2 none, Cond.fieldLink RX9 9 "OneHandsetModel" "tape" "[I"]
def wsX9_press : List Cond := .code yX9_press cX9_press 3 (some .int) :: ((wsX9_press_r1 ++ wsX9_press_r2) ++ wsX90)
def wsX9_learnt : List Cond := .code yX9_learnt cX9_learnt 4 (some .int) :: ([.fieldLink RX9 16 "OneHandsetModel" "keys" "[I"] ++ wsX90)
def wsX9_some : List Cond := .code yX9_some cX9_some 4 (some .int) :: ([.fieldLink RX9 16 "OneHandsetModel" "keys" "[I"] ++ wsX90)
def wsX9_fixed : List Cond := .code yX9_fixed cX9_fixed 4 (some .int) :: ([.fieldLink RX9 16 "OneHandsetModel" "keys" "[I", .methodLink RX9 118 yX9_learnt, .instanceMethod yX9_learnt, .selects RX9 yX9_learnt yX9_learnt, .initialized RX9, .code yX9_learnt cX9_learnt 4 (some .int), .methodLink RX9 58 yX9_get, .instanceMethod yX9_get, .selects RX9 yX9_get yX9_get, .code yX9_get cX9_get 3 (some .int), .fieldLink RX9 13 "OneHandsetModel" "makes" "[I", .methodLink RX9 115 yX9_flipOf, .instanceMethod yX9_flipOf, .selects RX9 yX9_flipOf yX9_flipOf, .code yX9_flipOf cX9_flipOf 2 (some .int), .methodLink RX9 121 yX9_some, .instanceMethod yX9_some, .selects RX9 yX9_some yX9_some, .code yX9_some cX9_some 4 (some .int)] ++ wsX90)
def wsX9_of_r1 : List Cond := [Cond.fieldLink RX9 43 "OneHandsetModel" "thrown" "I", Cond.methodLink RX9 54 yX9_isMake, Cond.instanceMethod yX9_isMake, Cond.selects RX9 yX9_isMake yX9_isMake, Cond.initialized RX9, Cond.code yX9_isMake cX9_isMake 2 (some .boolean), Cond.fieldLink RX9 47 "OneHandsetModel" "makeMany" "I", Cond.methodLink RX9 50 yX9_in, Cond.static yX9_in, Cond.code yX9_in cX9_in 3 (some .boolean), Cond.methodLink RX9 58 yX9_get, Cond.instanceMethod yX9_get, Cond.selects RX9 yX9_get yX9_get, Cond.code yX9_get cX9_get 3 (some .int), Cond.fieldLink RX9 13 "OneHandsetModel" "makes" "[I", Cond.methodLink RX9 118 yX9_learnt, Cond.instanceMethod yX9_learnt, Cond.selects RX9 yX9_learnt yX9_learnt, Cond.code yX9_learnt cX9_learnt 4 (some .int), Cond.fieldLink RX9 16 "OneHandsetModel" "keys" "[I", Cond.methodLink RX9 124 yX9_fixed, Cond.instanceMethod yX9_fixed, Cond.selects RX9 yX9_fixed yX9_fixed, Cond.code yX9_fixed cX9_fixed 4 (some .int)]
def wsX9_of_r2 : List Cond := [Cond.methodLink RX9 115 yX9_flipOf, Cond.instanceMethod yX9_flipOf, Cond.selects RX9 yX9_flipOf yX9_flipOf, Cond.code yX9_flipOf cX9_flipOf 2 (some .int), Cond.methodLink RX9 121 yX9_some, Cond.instanceMethod yX9_some, Cond.selects RX9 yX9_some yX9_some, Cond.code yX9_some cX9_some 4 (some .int)]
def wsX9_of : List Cond := .code yX9_of cX9_of 3 (some .int) :: ((wsX9_of_r1 ++ wsX9_of_r2) ++ wsX90)
def wsX9_sumOf : List Cond := .code yX9_sumOf cX9_sumOf 4 (some .int) :: ([])
def wsX9_numberOf : List Cond := .code yX9_numberOf cX9_numberOf 6 (some .int) :: ([.methodLink RX9 58 yX9_get, .instanceMethod yX9_get, .selects RX9 yX9_get yX9_get, .initialized RX9, .code yX9_get cX9_get 3 (some .int), .fieldLink RX9 13 "OneHandsetModel" "makes" "[I", .methodLink RX9 127 yX9_sumOf, .static yX9_sumOf, .code yX9_sumOf cX9_sumOf 4 (some .int)] ++ wsX90)
def wsX9_checkOf : List Cond := .code yX9_checkOf cX9_checkOf 5 (some .int) :: ([.fieldLink RX9 16 "OneHandsetModel" "keys" "[I", .methodLink RX9 118 yX9_learnt, .instanceMethod yX9_learnt, .selects RX9 yX9_learnt yX9_learnt, .initialized RX9, .code yX9_learnt cX9_learnt 4 (some .int), .methodLink RX9 121 yX9_some, .instanceMethod yX9_some, .selects RX9 yX9_some yX9_some, .code yX9_some cX9_some 4 (some .int), .methodLink RX9 130 yX9_numberOf, .instanceMethod yX9_numberOf, .selects RX9 yX9_numberOf yX9_numberOf, .code yX9_numberOf cX9_numberOf 6 (some .int), .methodLink RX9 58 yX9_get, .instanceMethod yX9_get, .selects RX9 yX9_get yX9_get, .code yX9_get cX9_get 3 (some .int), .fieldLink RX9 13 "OneHandsetModel" "makes" "[I", .methodLink RX9 127 yX9_sumOf, .static yX9_sumOf, .code yX9_sumOf cX9_sumOf 4 (some .int)] ++ wsX90)
def wsX9_check_r1 : List Cond := [Cond.fieldLink RX9 43 "OneHandsetModel" "thrown" "I", Cond.methodLink RX9 54 yX9_isMake, Cond.instanceMethod yX9_isMake, Cond.selects RX9 yX9_isMake yX9_isMake, Cond.initialized RX9, Cond.code yX9_isMake cX9_isMake 2 (some .boolean), Cond.fieldLink RX9 47 "OneHandsetModel" "makeMany" "I", Cond.methodLink RX9 50 yX9_in, Cond.static yX9_in, Cond.code yX9_in cX9_in 3 (some .boolean), Cond.methodLink RX9 134 yX9_checkOf, Cond.instanceMethod yX9_checkOf, Cond.selects RX9 yX9_checkOf yX9_checkOf, Cond.code yX9_checkOf cX9_checkOf 5 (some .int), Cond.fieldLink RX9 16 "OneHandsetModel" "keys" "[I", Cond.methodLink RX9 118 yX9_learnt, Cond.instanceMethod yX9_learnt, Cond.selects RX9 yX9_learnt yX9_learnt, Cond.code yX9_learnt cX9_learnt 4 (some .int), Cond.methodLink RX9 121 yX9_some, Cond.instanceMethod yX9_some, Cond.selects RX9 yX9_some yX9_some, Cond.code yX9_some cX9_some 4 (some .int), Cond.methodLink RX9 130 yX9_numberOf]
def wsX9_check_r2 : List Cond := [Cond.instanceMethod yX9_numberOf, Cond.selects RX9 yX9_numberOf yX9_numberOf, Cond.code yX9_numberOf cX9_numberOf 6 (some .int), Cond.methodLink RX9 58 yX9_get, Cond.instanceMethod yX9_get, Cond.selects RX9 yX9_get yX9_get, Cond.code yX9_get cX9_get 3 (some .int), Cond.fieldLink RX9 13 "OneHandsetModel" "makes" "[I", Cond.methodLink RX9 127 yX9_sumOf, Cond.static yX9_sumOf, Cond.code yX9_sumOf cX9_sumOf 4 (some .int)]
def wsX9_check : List Cond := .code yX9_check cX9_check 3 (some .int) :: ((wsX9_check_r1 ++ wsX9_check_r2) ++ wsX90)
def wsX9_canForesee_r1 : List Cond := [Cond.methodLink RX9 54 yX9_isMake, Cond.instanceMethod yX9_isMake, Cond.selects RX9 yX9_isMake yX9_isMake, Cond.initialized RX9, Cond.code yX9_isMake cX9_isMake 2 (some .boolean), Cond.fieldLink RX9 47 "OneHandsetModel" "makeMany" "I", Cond.methodLink RX9 50 yX9_in, Cond.static yX9_in, Cond.code yX9_in cX9_in 3 (some .boolean), Cond.methodLink RX9 118 yX9_learnt, Cond.instanceMethod yX9_learnt, Cond.selects RX9 yX9_learnt yX9_learnt, Cond.code yX9_learnt cX9_learnt 4 (some .int), Cond.fieldLink RX9 16 "OneHandsetModel" "keys" "[I", Cond.methodLink RX9 58 yX9_get, Cond.instanceMethod yX9_get, Cond.selects RX9 yX9_get yX9_get, Cond.code yX9_get cX9_get 3 (some .int), Cond.fieldLink RX9 13 "OneHandsetModel" "makes" "[I", Cond.methodLink RX9 115 yX9_flipOf, Cond.instanceMethod yX9_flipOf, Cond.selects RX9 yX9_flipOf yX9_flipOf, Cond.code yX9_flipOf cX9_flipOf 2 (some .int), Cond.methodLink RX9 124 yX9_fixed]
def wsX9_canForesee_r2 : List Cond := [Cond.instanceMethod yX9_fixed, Cond.selects RX9 yX9_fixed yX9_fixed, Cond.code yX9_fixed cX9_fixed 4 (some .int), Cond.methodLink RX9 121 yX9_some, Cond.instanceMethod yX9_some, Cond.selects RX9 yX9_some yX9_some, Cond.code yX9_some cX9_some 4 (some .int), Cond.methodLink RX9 137 yJ6_bitCount_0f7a4, Cond.static yJ6_bitCount_0f7a4, Cond.initialized RJ6, Cond.code yJ6_bitCount_0f7a4 cJ6_bitCount_0f7a4 1 (some .int), Cond.constant RJ6 265 (1431655765), Cond.constant RJ6 266 (858993459), Cond.constant RJ6 267 (252645135)]
def wsX9_canForesee : List Cond := .code yX9_canForesee cX9_canForesee 2 (some .boolean) :: ((wsX9_canForesee_r1 ++ wsX9_canForesee_r2) ++ wsX90)
def wsX9_isForeseen_r1 : List Cond := [Cond.methodLink RX9 134 yX9_checkOf, Cond.instanceMethod yX9_checkOf, Cond.selects RX9 yX9_checkOf yX9_checkOf, Cond.initialized RX9, Cond.code yX9_checkOf cX9_checkOf 5 (some .int), Cond.fieldLink RX9 16 "OneHandsetModel" "keys" "[I", Cond.methodLink RX9 118 yX9_learnt, Cond.instanceMethod yX9_learnt, Cond.selects RX9 yX9_learnt yX9_learnt, Cond.code yX9_learnt cX9_learnt 4 (some .int), Cond.methodLink RX9 121 yX9_some, Cond.instanceMethod yX9_some, Cond.selects RX9 yX9_some yX9_some, Cond.code yX9_some cX9_some 4 (some .int), Cond.methodLink RX9 130 yX9_numberOf, Cond.instanceMethod yX9_numberOf, Cond.selects RX9 yX9_numberOf yX9_numberOf, Cond.code yX9_numberOf cX9_numberOf 6 (some .int), Cond.methodLink RX9 58 yX9_get, Cond.instanceMethod yX9_get, Cond.selects RX9 yX9_get yX9_get, Cond.code yX9_get cX9_get 3 (some .int), Cond.fieldLink RX9 13 "OneHandsetModel" "makes" "[I", Cond.methodLink RX9 127 yX9_sumOf]
def wsX9_isForeseen_r2 : List Cond := [Cond.static yX9_sumOf, Cond.code yX9_sumOf cX9_sumOf 4 (some .int)]
def wsX9_isForeseen : List Cond := .code yX9_isForeseen cX9_isForeseen 4 (some .boolean) :: ((wsX9_isForeseen_r1 ++ wsX9_isForeseen_r2) ++ wsX90)
def wsX9_go_r1 : List Cond := [Cond.fieldLink RX9 142 "OneHandsetModel" "seen" "I", Cond.methodLink RX9 58 yX9_get, Cond.instanceMethod yX9_get, Cond.selects RX9 yX9_get yX9_get, Cond.initialized RX9, Cond.code yX9_get cX9_get 3 (some .int), Cond.fieldLink RX9 13 "OneHandsetModel" "makes" "[I", Cond.methodLink RX9 115 yX9_flipOf, Cond.instanceMethod yX9_flipOf, Cond.selects RX9 yX9_flipOf yX9_flipOf, Cond.code yX9_flipOf cX9_flipOf 2 (some .int), Cond.methodLink RX9 124 yX9_fixed, Cond.instanceMethod yX9_fixed, Cond.selects RX9 yX9_fixed yX9_fixed, Cond.code yX9_fixed cX9_fixed 4 (some .int), Cond.fieldLink RX9 16 "OneHandsetModel" "keys" "[I", Cond.methodLink RX9 118 yX9_learnt, Cond.instanceMethod yX9_learnt, Cond.selects RX9 yX9_learnt yX9_learnt, Cond.code yX9_learnt cX9_learnt 4 (some .int), Cond.methodLink RX9 121 yX9_some, Cond.instanceMethod yX9_some, Cond.selects RX9 yX9_some yX9_some, Cond.code yX9_some cX9_some 4 (some .int)]
def wsX9_go_r2 : List Cond := [Cond.methodLink RX9 145 yX9_isForeseen, Cond.instanceMethod yX9_isForeseen, Cond.selects RX9 yX9_isForeseen yX9_isForeseen, Cond.code yX9_isForeseen cX9_isForeseen 4 (some .boolean), Cond.methodLink RX9 134 yX9_checkOf, Cond.instanceMethod yX9_checkOf, Cond.selects RX9 yX9_checkOf yX9_checkOf, Cond.code yX9_checkOf cX9_checkOf 5 (some .int), Cond.methodLink RX9 130 yX9_numberOf, Cond.instanceMethod yX9_numberOf, Cond.selects RX9 yX9_numberOf yX9_numberOf, Cond.code yX9_numberOf cX9_numberOf 6 (some .int), Cond.methodLink RX9 127 yX9_sumOf, Cond.static yX9_sumOf, Cond.code yX9_sumOf cX9_sumOf 4 (some .int)]
def wsX9_go : List Cond := .code yX9_go cX9_go 8 (some .int) :: ((wsX9_go_r1 ++ wsX9_go_r2) ++ wsX90)
def wsX9_many_r1 : List Cond := [Cond.fieldLink RX9 43 "OneHandsetModel" "thrown" "I", Cond.constant RX9 151 (16777216), Cond.methodLink RX9 148 yX9_canForesee, Cond.instanceMethod yX9_canForesee, Cond.selects RX9 yX9_canForesee yX9_canForesee, Cond.initialized RX9, Cond.code yX9_canForesee cX9_canForesee 2 (some .boolean), Cond.methodLink RX9 54 yX9_isMake, Cond.instanceMethod yX9_isMake, Cond.selects RX9 yX9_isMake yX9_isMake, Cond.code yX9_isMake cX9_isMake 2 (some .boolean), Cond.fieldLink RX9 47 "OneHandsetModel" "makeMany" "I", Cond.methodLink RX9 50 yX9_in, Cond.static yX9_in, Cond.code yX9_in cX9_in 3 (some .boolean), Cond.methodLink RX9 118 yX9_learnt, Cond.instanceMethod yX9_learnt, Cond.selects RX9 yX9_learnt yX9_learnt, Cond.code yX9_learnt cX9_learnt 4 (some .int), Cond.fieldLink RX9 16 "OneHandsetModel" "keys" "[I", Cond.methodLink RX9 58 yX9_get, Cond.instanceMethod yX9_get, Cond.selects RX9 yX9_get yX9_get, Cond.code yX9_get cX9_get 3 (some .int)]
def wsX9_many_r2 : List Cond := [Cond.fieldLink RX9 13 "OneHandsetModel" "makes" "[I", Cond.methodLink RX9 115 yX9_flipOf, Cond.instanceMethod yX9_flipOf, Cond.selects RX9 yX9_flipOf yX9_flipOf, Cond.code yX9_flipOf cX9_flipOf 2 (some .int), Cond.methodLink RX9 124 yX9_fixed, Cond.instanceMethod yX9_fixed, Cond.selects RX9 yX9_fixed yX9_fixed, Cond.code yX9_fixed cX9_fixed 4 (some .int), Cond.methodLink RX9 121 yX9_some, Cond.instanceMethod yX9_some, Cond.selects RX9 yX9_some yX9_some, Cond.code yX9_some cX9_some 4 (some .int), Cond.methodLink RX9 137 yJ6_bitCount_0f7a4, Cond.static yJ6_bitCount_0f7a4, Cond.initialized RJ6, Cond.code yJ6_bitCount_0f7a4 cJ6_bitCount_0f7a4 1 (some .int), Cond.constant RJ6 265 (1431655765), Cond.constant RJ6 266 (858993459), Cond.constant RJ6 267 (252645135), Cond.methodLink RX9 152 yX9_go, Cond.instanceMethod yX9_go, Cond.selects RX9 yX9_go yX9_go, Cond.code yX9_go cX9_go 8 (some .int)]
def wsX9_many_r3 : List Cond := [Cond.fieldLink RX9 142 "OneHandsetModel" "seen" "I", Cond.methodLink RX9 145 yX9_isForeseen, Cond.instanceMethod yX9_isForeseen, Cond.selects RX9 yX9_isForeseen yX9_isForeseen, Cond.code yX9_isForeseen cX9_isForeseen 4 (some .boolean), Cond.methodLink RX9 134 yX9_checkOf, Cond.instanceMethod yX9_checkOf, Cond.selects RX9 yX9_checkOf yX9_checkOf, Cond.code yX9_checkOf cX9_checkOf 5 (some .int), Cond.methodLink RX9 130 yX9_numberOf, Cond.instanceMethod yX9_numberOf, Cond.selects RX9 yX9_numberOf yX9_numberOf, Cond.code yX9_numberOf cX9_numberOf 6 (some .int), Cond.methodLink RX9 127 yX9_sumOf, Cond.static yX9_sumOf, Cond.code yX9_sumOf cX9_sumOf 4 (some .int)]
def wsX9_many : List Cond := .code yX9_many cX9_many 2 (some .int) :: ((wsX9_many_r1 ++ (wsX9_many_r2 ++ wsX9_many_r3)) ++ wsX90)
def wsX9_foreseen_r1 : List Cond := [Cond.fieldLink RX9 43 "OneHandsetModel" "thrown" "I", Cond.constant RX9 155 (8388608), Cond.fieldLink RX9 142 "OneHandsetModel" "seen" "I", Cond.methodLink RX9 148 yX9_canForesee, Cond.instanceMethod yX9_canForesee, Cond.selects RX9 yX9_canForesee yX9_canForesee, Cond.initialized RX9, Cond.code yX9_canForesee cX9_canForesee 2 (some .boolean), Cond.methodLink RX9 54 yX9_isMake, Cond.instanceMethod yX9_isMake, Cond.selects RX9 yX9_isMake yX9_isMake, Cond.code yX9_isMake cX9_isMake 2 (some .boolean), Cond.fieldLink RX9 47 "OneHandsetModel" "makeMany" "I", Cond.methodLink RX9 50 yX9_in, Cond.static yX9_in, Cond.code yX9_in cX9_in 3 (some .boolean), Cond.methodLink RX9 118 yX9_learnt, Cond.instanceMethod yX9_learnt, Cond.selects RX9 yX9_learnt yX9_learnt, Cond.code yX9_learnt cX9_learnt 4 (some .int), Cond.fieldLink RX9 16 "OneHandsetModel" "keys" "[I", Cond.methodLink RX9 58 yX9_get, Cond.instanceMethod yX9_get, Cond.selects RX9 yX9_get yX9_get]
def wsX9_foreseen_r2 : List Cond := [Cond.code yX9_get cX9_get 3 (some .int), Cond.fieldLink RX9 13 "OneHandsetModel" "makes" "[I", Cond.methodLink RX9 115 yX9_flipOf, Cond.instanceMethod yX9_flipOf, Cond.selects RX9 yX9_flipOf yX9_flipOf, Cond.code yX9_flipOf cX9_flipOf 2 (some .int), Cond.methodLink RX9 124 yX9_fixed, Cond.instanceMethod yX9_fixed, Cond.selects RX9 yX9_fixed yX9_fixed, Cond.code yX9_fixed cX9_fixed 4 (some .int), Cond.methodLink RX9 121 yX9_some, Cond.instanceMethod yX9_some, Cond.selects RX9 yX9_some yX9_some, Cond.code yX9_some cX9_some 4 (some .int), Cond.methodLink RX9 137 yJ6_bitCount_0f7a4, Cond.static yJ6_bitCount_0f7a4, Cond.initialized RJ6, Cond.code yJ6_bitCount_0f7a4 cJ6_bitCount_0f7a4 1 (some .int), Cond.constant RJ6 265 (1431655765), Cond.constant RJ6 266 (858993459), Cond.constant RJ6 267 (252645135), Cond.methodLink RX9 152 yX9_go, Cond.instanceMethod yX9_go, Cond.selects RX9 yX9_go yX9_go]
def wsX9_foreseen_r3 : List Cond := [Cond.code yX9_go cX9_go 8 (some .int), Cond.methodLink RX9 145 yX9_isForeseen, Cond.instanceMethod yX9_isForeseen, Cond.selects RX9 yX9_isForeseen yX9_isForeseen, Cond.code yX9_isForeseen cX9_isForeseen 4 (some .boolean), Cond.methodLink RX9 134 yX9_checkOf, Cond.instanceMethod yX9_checkOf, Cond.selects RX9 yX9_checkOf yX9_checkOf, Cond.code yX9_checkOf cX9_checkOf 5 (some .int), Cond.methodLink RX9 130 yX9_numberOf, Cond.instanceMethod yX9_numberOf, Cond.selects RX9 yX9_numberOf yX9_numberOf, Cond.code yX9_numberOf cX9_numberOf 6 (some .int), Cond.methodLink RX9 127 yX9_sumOf, Cond.static yX9_sumOf, Cond.code yX9_sumOf cX9_sumOf 4 (some .int)]
def wsX9_foreseen : List Cond := .code yX9_foreseen cX9_foreseen 3 (some .int) :: ((wsX9_foreseen_r1 ++ (wsX9_foreseen_r2 ++ wsX9_foreseen_r3)) ++ wsX90)
def wsX9_both_r1 : List Cond := [Cond.fieldLink RX9 43 "OneHandsetModel" "thrown" "I", Cond.methodLink RX9 148 yX9_canForesee, Cond.instanceMethod yX9_canForesee, Cond.selects RX9 yX9_canForesee yX9_canForesee, Cond.initialized RX9, Cond.code yX9_canForesee cX9_canForesee 2 (some .boolean), Cond.methodLink RX9 54 yX9_isMake, Cond.instanceMethod yX9_isMake, Cond.selects RX9 yX9_isMake yX9_isMake, Cond.code yX9_isMake cX9_isMake 2 (some .boolean), Cond.fieldLink RX9 47 "OneHandsetModel" "makeMany" "I", Cond.methodLink RX9 50 yX9_in, Cond.static yX9_in, Cond.code yX9_in cX9_in 3 (some .boolean), Cond.methodLink RX9 118 yX9_learnt, Cond.instanceMethod yX9_learnt, Cond.selects RX9 yX9_learnt yX9_learnt, Cond.code yX9_learnt cX9_learnt 4 (some .int), Cond.fieldLink RX9 16 "OneHandsetModel" "keys" "[I", Cond.methodLink RX9 58 yX9_get, Cond.instanceMethod yX9_get, Cond.selects RX9 yX9_get yX9_get, Cond.code yX9_get cX9_get 3 (some .int), Cond.fieldLink RX9 13 "OneHandsetModel" "makes" "[I"]
def wsX9_both_r2 : List Cond := [Cond.methodLink RX9 115 yX9_flipOf, Cond.instanceMethod yX9_flipOf, Cond.selects RX9 yX9_flipOf yX9_flipOf, Cond.code yX9_flipOf cX9_flipOf 2 (some .int), Cond.methodLink RX9 124 yX9_fixed, Cond.instanceMethod yX9_fixed, Cond.selects RX9 yX9_fixed yX9_fixed, Cond.code yX9_fixed cX9_fixed 4 (some .int), Cond.methodLink RX9 121 yX9_some, Cond.instanceMethod yX9_some, Cond.selects RX9 yX9_some yX9_some, Cond.code yX9_some cX9_some 4 (some .int), Cond.methodLink RX9 137 yJ6_bitCount_0f7a4, Cond.static yJ6_bitCount_0f7a4, Cond.initialized RJ6, Cond.code yJ6_bitCount_0f7a4 cJ6_bitCount_0f7a4 1 (some .int), Cond.constant RJ6 265 (1431655765), Cond.constant RJ6 266 (858993459), Cond.constant RJ6 267 (252645135), Cond.methodLink RX9 145 yX9_isForeseen, Cond.instanceMethod yX9_isForeseen, Cond.selects RX9 yX9_isForeseen yX9_isForeseen, Cond.code yX9_isForeseen cX9_isForeseen 4 (some .boolean), Cond.methodLink RX9 134 yX9_checkOf]
def wsX9_both_r3 : List Cond := [Cond.instanceMethod yX9_checkOf, Cond.selects RX9 yX9_checkOf yX9_checkOf, Cond.code yX9_checkOf cX9_checkOf 5 (some .int), Cond.methodLink RX9 130 yX9_numberOf, Cond.instanceMethod yX9_numberOf, Cond.selects RX9 yX9_numberOf yX9_numberOf, Cond.code yX9_numberOf cX9_numberOf 6 (some .int), Cond.methodLink RX9 127 yX9_sumOf, Cond.static yX9_sumOf, Cond.code yX9_sumOf cX9_sumOf 4 (some .int)]
def wsX9_both : List Cond := .code yX9_both cX9_both 9 (some .int) :: ((wsX9_both_r1 ++ (wsX9_both_r2 ++ wsX9_both_r3)) ++ wsX90)
def wsX9_isBox : List Cond := .code yX9_isBox cX9_isBox 1 (some .boolean) :: ([.methodLink RX9 50 yX9_in, .static yX9_in, .initialized RX9, .code yX9_in cX9_in 3 (some .boolean)])
def wsX9_box : List Cond := .code yX9_box cX9_box 5 (some .boolean) :: ([.fieldLink RX9 43 "OneHandsetModel" "thrown" "I", .fieldLink RX9 19 "OneHandsetModel" "states" "[I", .fieldLink RX9 22 "OneHandsetModel" "buttons" "[I", .fieldLink RX9 25 "OneHandsetModel" "leads" "[I", .fieldLink RX9 28 "OneHandsetModel" "sets" "[I", .methodLink RX9 156 yX9_isBox, .static yX9_isBox, .initialized RX9, .code yX9_isBox cX9_isBox 1 (some .boolean), .methodLink RX9 50 yX9_in, .static yX9_in, .code yX9_in cX9_in 3 (some .boolean)] ++ wsX90)
def wsX9_lead : List Cond := .code yX9_lead cX9_lead 5 (some .boolean) :: ([.fieldLink RX9 43 "OneHandsetModel" "thrown" "I", .fieldLink RX9 19 "OneHandsetModel" "states" "[I", .fieldLink RX9 22 "OneHandsetModel" "buttons" "[I", .fieldLink RX9 25 "OneHandsetModel" "leads" "[I", .methodLink RX9 156 yX9_isBox, .static yX9_isBox, .initialized RX9, .code yX9_isBox cX9_isBox 1 (some .boolean), .methodLink RX9 50 yX9_in, .static yX9_in, .code yX9_in cX9_in 3 (some .boolean)] ++ wsX90)
def wsX9_isSet : List Cond := .code yX9_isSet cX9_isSet 3 (some .boolean) :: ([.fieldLink RX9 19 "OneHandsetModel" "states" "[I", .methodLink RX9 50 yX9_in, .static yX9_in, .initialized RX9, .code yX9_in cX9_in 3 (some .boolean)] ++ wsX90)
def wsX9_maybe : List Cond := .code yX9_maybe cX9_maybe 3 (some .boolean) :: ([.fieldLink RX9 43 "OneHandsetModel" "thrown" "I", .fieldLink RX9 28 "OneHandsetModel" "sets" "[I", .methodLink RX9 156 yX9_isBox, .static yX9_isBox, .initialized RX9, .code yX9_isBox cX9_isBox 1 (some .boolean), .methodLink RX9 50 yX9_in, .static yX9_in, .code yX9_in cX9_in 3 (some .boolean), .methodLink RX9 159 yX9_isSet, .instanceMethod yX9_isSet, .selects RX9 yX9_isSet yX9_isSet, .code yX9_isSet cX9_isSet 3 (some .boolean), .fieldLink RX9 19 "OneHandsetModel" "states" "[I"] ++ wsX90)
def wsX9_behind : List Cond := .code yX9_behind cX9_behind 6 (some .int) :: ([.fieldLink RX9 19 "OneHandsetModel" "states" "[I", .fieldLink RX9 25 "OneHandsetModel" "leads" "[I"] ++ wsX90)
def wsX9_push : List Cond := .code yX9_push cX9_push 3 (some .int) :: ([.fieldLink RX9 43 "OneHandsetModel" "thrown" "I", .fieldLink RX9 22 "OneHandsetModel" "buttons" "[I", .fieldLink RX9 28 "OneHandsetModel" "sets" "[I", .methodLink RX9 156 yX9_isBox, .static yX9_isBox, .initialized RX9, .code yX9_isBox cX9_isBox 1 (some .boolean), .methodLink RX9 50 yX9_in, .static yX9_in, .code yX9_in cX9_in 3 (some .boolean), .methodLink RX9 162 yX9_behind, .instanceMethod yX9_behind, .selects RX9 yX9_behind yX9_behind, .code yX9_behind cX9_behind 6 (some .int), .fieldLink RX9 19 "OneHandsetModel" "states" "[I", .fieldLink RX9 25 "OneHandsetModel" "leads" "[I"] ++ wsX90)
def wsX9_tell : List Cond := .code yX9_tell cX9_tell 5 (some .int) :: ([.fieldLink RX9 28 "OneHandsetModel" "sets" "[I", .fieldLink RX9 37 "OneHandsetModel" "from" "[I", .fieldLink RX9 168 "OneHandsetModel" "wayMany" "I", .fieldLink RX9 31 "OneHandsetModel" "way" "[I", .fieldLink RX9 40 "OneHandsetModel" "by" "[I"] ++ wsX90)
def wsX9_way_r1 : List Cond := [Cond.fieldLink RX9 43 "OneHandsetModel" "thrown" "I", Cond.fieldLink RX9 37 "OneHandsetModel" "from" "[I", Cond.fieldLink RX9 34 "OneHandsetModel" "queue" "[I", Cond.fieldLink RX9 28 "OneHandsetModel" "sets" "[I", Cond.fieldLink RX9 22 "OneHandsetModel" "buttons" "[I", Cond.fieldLink RX9 40 "OneHandsetModel" "by" "[I", Cond.methodLink RX9 156 yX9_isBox, Cond.static yX9_isBox, Cond.initialized RX9, Cond.code yX9_isBox cX9_isBox 1 (some .boolean), Cond.methodLink RX9 50 yX9_in, Cond.static yX9_in, Cond.code yX9_in cX9_in 3 (some .boolean), Cond.methodLink RX9 159 yX9_isSet, Cond.instanceMethod yX9_isSet, Cond.selects RX9 yX9_isSet yX9_isSet, Cond.code yX9_isSet cX9_isSet 3 (some .boolean), Cond.fieldLink RX9 19 "OneHandsetModel" "states" "[I", Cond.methodLink RX9 165 yX9_tell, Cond.instanceMethod yX9_tell, Cond.selects RX9 yX9_tell yX9_tell, Cond.code yX9_tell cX9_tell 5 (some .int), Cond.fieldLink RX9 168 "OneHandsetModel" "wayMany" "I", Cond.fieldLink RX9 31 "OneHandsetModel" "way" "[I"]
def wsX9_way_r2 : List Cond := [Cond.methodLink RX9 162 yX9_behind, Cond.instanceMethod yX9_behind, Cond.selects RX9 yX9_behind yX9_behind, Cond.code yX9_behind cX9_behind 6 (some .int), Cond.fieldLink RX9 25 "OneHandsetModel" "leads" "[I"]
def wsX9_way : List Cond := .code yX9_way cX9_way 8 (some .int) :: ((wsX9_way_r1 ++ wsX9_way_r2) ++ wsX90)
def wsX9_button : List Cond := .code yX9_button cX9_button 2 (some .int) :: ([.fieldLink RX9 43 "OneHandsetModel" "thrown" "I", .fieldLink RX9 168 "OneHandsetModel" "wayMany" "I", .fieldLink RX9 31 "OneHandsetModel" "way" "[I", .methodLink RX9 50 yX9_in, .static yX9_in, .initialized RX9, .code yX9_in cX9_in 3 (some .boolean)] ++ wsX90)
def wsX9_told : List Cond := .code yX9_told cX9_told 3 (some .int) :: ([.fieldLink RX9 43 "OneHandsetModel" "thrown" "I", .fieldLink RX9 19 "OneHandsetModel" "states" "[I", .fieldLink RX9 22 "OneHandsetModel" "buttons" "[I", .fieldLink RX9 28 "OneHandsetModel" "sets" "[I", .methodLink RX9 156 yX9_isBox, .static yX9_isBox, .initialized RX9, .code yX9_isBox cX9_isBox 1 (some .boolean), .methodLink RX9 50 yX9_in, .static yX9_in, .code yX9_in cX9_in 3 (some .boolean)] ++ wsX90)
def wsX9_count : List Cond := .code yX9_count cX9_count 2 (some .int) :: ([.fieldLink RX9 43 "OneHandsetModel" "thrown" "I", .fieldLink RX9 47 "OneHandsetModel" "makeMany" "I", .fieldLink RX9 62 "OneHandsetModel" "taped" "I", .fieldLink RX9 168 "OneHandsetModel" "wayMany" "I"] ++ wsX90)
def wsJ9_abs_0f7a4 : List Cond := .code yJ9_abs_0f7a4 cJ9_abs_0f7a4 1 (some .int) :: ([])
def wsJ9_max_7cf53 : List Cond := .code yJ9_max_7cf53 cJ9_max_7cf53 2 (some .int) :: ([])
def wsJ9_min_7cf53 : List Cond := .code yJ9_min_7cf53 cJ9_min_7cf53 2 (some .int) :: ([])
def wsL_time : List Cond := .codeWith yL_time cL_time 4 (some .int) [(0, 9, 12, 13)] :: ([.classLink RL 13 "java/util/NoSuchElementException", .methodLink RL 7 yX8_time, .instanceMethod yX8_time, .selects RX8 yX8_time yX8_time, .initialized RX8, .code yX8_time cX8_time 2 (some .int), .classLink RX8 95 "java/util/NoSuchElementException", .initialized "java/util/NoSuchElementException", .fieldLink RX8 12 "OneHandset" "tape" "LOneHandset$Tape;", .methodLink RX8 40 yX8_within, .static yX8_within, .code yX8_within cX8_within 3 (some .boolean), .methodLink RX8 98 yX7_at, .instanceMethod yX7_at, .selects RX7 yX7_at yX7_at, .initialized RX7, .code yX7_at cX7_at 2 (some .int), .fieldLink RX7 15 "OneHandset$Tape" "size" "I", .fieldLink RX7 9 "OneHandset$Tape" "times" "[I"] ++ wsX80 ++ wsX70 ++ (vx_at0 RX8 97 "java/util/NoSuchElementException" ["java/lang/RuntimeException", "java/lang/Exception"]).filter goodWord)
def wsL_law0_r1 : List Cond := [Cond.classLink RL 8 RX8, Cond.instantiable RX8 5, Cond.initialized RX8, Cond.classLink RL 16 RX9, Cond.instantiable RX9 17, Cond.initialized RX9, Cond.arrayClass .long, Cond.methodLink RL 15 yX8_init, Cond.instanceMethod yX8_init, Cond.code yX8_init cX8_init 2 none, Cond.methodLink RX8 3 objectInit, Cond.instanceMethod objectInit, Cond.code objectInit ⟨#[0xb1]⟩ 1 none, Cond.classLink RX8 9 RX7, Cond.instantiable RX7 2, Cond.initialized RX7, Cond.fieldLink RX8 12 "OneHandset" "tape" "LOneHandset$Tape;", Cond.classLink RX8 16 RX4, Cond.fieldLink RX8 18 "OneHandset" "makes" "[LOneHandset$Make;", Cond.fieldLink RX8 22 "OneHandset" "makeCount" "I", Cond.classLink RX8 26 RX0, Cond.fieldLink RX8 28 "OneHandset" "boxes" "[LOneHandset$Box;", Cond.instantiable RX0 4, Cond.initialized RX0]
def wsL_law0_r2 : List Cond := [Cond.classLink RX8 33 RX6, Cond.instantiable RX6 5, Cond.initialized RX6, Cond.fieldLink RX8 36 "OneHandset" "route" "LOneHandset$Route;", Cond.instanceMethod yX7_init, Cond.code yX7_init cX7_init 1 none, Cond.methodLink RX7 3 objectInit, Cond.arrayClass .int, Cond.fieldLink RX7 9 "OneHandset$Tape" "times" "[I", Cond.fieldLink RX7 15 "OneHandset$Tape" "size" "I", Cond.methodLink RX8 32 yX0_init, Cond.instanceMethod yX0_init, Cond.code yX0_init cX0_init 1 none, Cond.methodLink RX0 3 objectInit, Cond.fieldLink RX0 9 "OneHandset$Box" "leads" "[I", Cond.methodLink RX0 15 yX0_startAnew, Cond.instanceMethod yX0_startAnew, Cond.selects RX0 yX0_startAnew yX0_startAnew, Cond.code yX0_startAnew cX0_startAnew 3 none, Cond.fieldLink RX0 19 "OneHandset$Box" "states" "I", Cond.fieldLink RX0 23 "OneHandset$Box" "buttons" "I", Cond.fieldLink RX0 30 "OneHandset$Box" "maybe" "I", Cond.static yX8_lowBits, Cond.code yX8_lowBits cX8_lowBits 1 (some .int)]
def wsL_law0_r3 : List Cond := [Cond.methodLink RX0 33 yJ7_fill_53178, Cond.static yJ7_fill_53178, Cond.initialized RJ7, Cond.code yJ7_fill_53178 cJ7_fill_53178 4 none, Cond.instanceMethod yX6_init, Cond.code yX6_init cX6_init 1 none, Cond.methodLink RX6 3 objectInit, Cond.fieldLink RX6 9 "OneHandset$Route" "row" "[I", Cond.fieldLink RX6 15 "OneHandset$Route" "queue" "[I", Cond.fieldLink RX6 18 "OneHandset$Route" "before" "[I", Cond.fieldLink RX6 21 "OneHandset$Route" "by" "[I", Cond.fieldLink RX6 24 "OneHandset$Route" "length" "I", Cond.methodLink RL 18 yX9_init, Cond.instanceMethod yX9_init, Cond.code yX9_init cX9_init 2 none, Cond.methodLink RX9 1 objectInit, Cond.fieldLink RX9 9 "OneHandsetModel" "tape" "[I", Cond.fieldLink RX9 13 "OneHandsetModel" "makes" "[I", Cond.fieldLink RX9 16 "OneHandsetModel" "keys" "[I", Cond.fieldLink RX9 19 "OneHandsetModel" "states" "[I", Cond.fieldLink RX9 22 "OneHandsetModel" "buttons" "[I", Cond.fieldLink RX9 25 "OneHandsetModel" "leads" "[I", Cond.fieldLink RX9 28 "OneHandsetModel" "sets" "[I", Cond.fieldLink RX9 31 "OneHandsetModel" "way" "[I"]
def wsL_law0_r4 : List Cond := [Cond.fieldLink RX9 34 "OneHandsetModel" "queue" "[I", Cond.fieldLink RX9 37 "OneHandsetModel" "from" "[I", Cond.fieldLink RX9 40 "OneHandsetModel" "by" "[I", Cond.methodLink RL 19 yX8_make, Cond.instanceMethod yX8_make, Cond.selects RX8 yX8_make yX8_make, Cond.code yX8_make cX8_make 9 (some .int), Cond.classLink RX8 48 RX2, Cond.instantiable RX2 2, Cond.initialized RX2, Cond.classLink RX8 53 RX5, Cond.instantiable RX5 8, Cond.initialized RX5, Cond.instantiable RX4 5, Cond.initialized RX4, Cond.methodLink RX8 40 yX8_within, Cond.static yX8_within, Cond.code yX8_within cX8_within 3 (some .boolean), Cond.methodLink RX8 44 yX8_isNumber, Cond.static yX8_isNumber, Cond.code yX8_isNumber cX8_isNumber 1 (some .boolean), Cond.methodLink RX8 50 yX2_init, Cond.instanceMethod yX2_init, Cond.code yX2_init cX2_init 3 none]
def wsL_law0_r5 : List Cond := [Cond.fieldLink RX2 9 "OneHandset$HalvesForm" "bits" "I", Cond.fieldLink RX2 15 "OneHandset$HalvesForm" "p" "I", Cond.instanceMethod yX1_init, Cond.initialized RX1, Cond.code yX1_init cX1_init 1 none, Cond.methodLink RX1 1 objectInit, Cond.methodLink RX8 55 yX5_init, Cond.instanceMethod yX5_init, Cond.code yX5_init cX5_init 8 none, Cond.fieldLink RX5 9 "OneHandset$PairsForm" "onTellsBit" "Z", Cond.fieldLink RX5 15 "OneHandset$PairsForm" "bits" "I", Cond.fieldLink RX5 19 "OneHandset$PairsForm" "a" "I", Cond.fieldLink RX5 22 "OneHandset$PairsForm" "b" "I", Cond.fieldLink RX5 25 "OneHandset$PairsForm" "p" "I", Cond.fieldLink RX5 28 "OneHandset$PairsForm" "z" "I", Cond.fieldLink RX5 31 "OneHandset$PairsForm" "o" "I", Cond.fieldLink RX5 34 "OneHandset$PairsForm" "length" "I", Cond.methodLink RX8 58 yX4_init, Cond.instanceMethod yX4_init, Cond.code yX4_init cX4_init 4 none, Cond.methodLink RX4 3 objectInit, Cond.fieldLink RX4 9 "OneHandset$Make" "miss" "I", Cond.fieldLink RX4 15 "OneHandset$Make" "kind" "I", Cond.fieldLink RX4 18 "OneHandset$Make" "bits" "I"]
def wsL_law0_r6 : List Cond := [Cond.fieldLink RX4 21 "OneHandset$Make" "form" "LOneHandset$Form;", Cond.classLink RX4 25 RX3, Cond.instantiable RX3 8, Cond.initialized RX3, Cond.fieldLink RX4 30 "OneHandset$Make" "keys" "LOneHandset$Keys;", Cond.methodLink RX4 27 yX3_init, Cond.instanceMethod yX3_init, Cond.code yX3_init cX3_init 2 none, Cond.methodLink RX3 3 objectInit, Cond.fieldLink RX3 9 "OneHandset$Keys" "codes" "[I", Cond.fieldLink RX3 15 "OneHandset$Keys" "constants" "[I", Cond.fieldLink RX3 18 "OneHandset$Keys" "bits" "I", Cond.methodLink RX3 22 yX3_startWithFlip, Cond.instanceMethod yX3_startWithFlip, Cond.selects RX3 yX3_startWithFlip yX3_startWithFlip, Cond.code yX3_startWithFlip cX3_startWithFlip 2 none, Cond.fieldLink RX3 26 "OneHandset$Keys" "flip" "I", Cond.fieldLink RX3 29 "OneHandset$Keys" "flipBit" "I", Cond.methodLink RX3 32 yJ7_fill_53178, Cond.methodLink RX3 38 yX3_compareAll, Cond.instanceMethod yX3_compareAll, Cond.selects RX3 yX3_compareAll yX3_compareAll, Cond.code yX3_compareAll cX3_compareAll 4 none, Cond.fieldLink RX3 57 "OneHandset$Keys" "learnt" "I"]
def wsL_law0_r7 : List Cond := [Cond.fieldLink RX3 63 "OneHandset$Keys" "fixed" "I", Cond.fieldLink RX3 66 "OneHandset$Keys" "fixedOn" "I", Cond.methodLink RX3 49 yX3_flipMask, Cond.instanceMethod yX3_flipMask, Cond.selects RX3 yX3_flipMask yX3_flipMask, Cond.code yX3_flipMask cX3_flipMask 1 (some .int), Cond.methodLink RX3 69 yX3_isCheck, Cond.instanceMethod yX3_isCheck, Cond.selects RX3 yX3_isCheck yX3_isCheck, Cond.code yX3_isCheck cX3_isCheck 2 (some .boolean), Cond.methodLink RX3 72 yX3_commonConstant, Cond.instanceMethod yX3_commonConstant, Cond.selects RX3 yX3_commonConstant yX3_commonConstant, Cond.code yX3_commonConstant cX3_commonConstant 6 (some .int), Cond.methodLink RX3 75 yX3_constantFor, Cond.instanceMethod yX3_constantFor, Cond.selects RX3 yX3_constantFor yX3_constantFor, Cond.code yX3_constantFor cX3_constantFor 3 (some .int), Cond.methodLink RX3 79 yX3_isContrary, Cond.instanceMethod yX3_isContrary, Cond.selects RX3 yX3_isContrary yX3_isContrary, Cond.code yX3_isContrary cX3_isContrary 3 (some .boolean), Cond.methodLink RL 23 yX9_make, Cond.instanceMethod yX9_make]
def wsL_law0_r8 : List Cond := [Cond.selects RX9 yX9_make yX9_make, Cond.code yX9_make cX9_make 10 (some .int), Cond.fieldLink RX9 43 "OneHandsetModel" "thrown" "I", Cond.fieldLink RX9 47 "OneHandsetModel" "makeMany" "I", Cond.methodLink RX9 50 yX9_in, Cond.static yX9_in, Cond.code yX9_in cX9_in 3 (some .boolean), Cond.methodLink RL 24 yX8_set, Cond.instanceMethod yX8_set, Cond.selects RX8 yX8_set yX8_set, Cond.code yX8_set cX8_set 5 (some .boolean), Cond.methodLink RX8 61 yX8_makeAt, Cond.instanceMethod yX8_makeAt, Cond.selects RX8 yX8_makeAt yX8_makeAt, Cond.code yX8_makeAt cX8_makeAt 2 (some (.object "OneHandset$Make")), Cond.methodLink RL 28 yX9_set, Cond.instanceMethod yX9_set, Cond.selects RX9 yX9_set yX9_set, Cond.code yX9_set cX9_set 5 (some .boolean), Cond.methodLink RX9 54 yX9_isMake, Cond.instanceMethod yX9_isMake, Cond.selects RX9 yX9_isMake yX9_isMake, Cond.code yX9_isMake cX9_isMake 2 (some .boolean), Cond.methodLink RX9 58 yX9_get]
def wsL_law0_r9 : List Cond := [Cond.instanceMethod yX9_get, Cond.selects RX9 yX9_get yX9_get, Cond.code yX9_get cX9_get 3 (some .int), Cond.methodLink RL 29 yX8_feed, Cond.instanceMethod yX8_feed, Cond.selects RX8 yX8_feed yX8_feed, Cond.code yX8_feed cX8_feed 6 (some .int), Cond.methodLink RX8 84 yX7_append, Cond.instanceMethod yX7_append, Cond.selects RX7 yX7_append yX7_append, Cond.code yX7_append cX7_append 2 none, Cond.methodLink RL 33 yX9_feed, Cond.instanceMethod yX9_feed, Cond.selects RX9 yX9_feed yX9_feed, Cond.code yX9_feed cX9_feed 6 (some .int), Cond.fieldLink RX9 62 "OneHandsetModel" "taped" "I", Cond.methodLink RL 34 yX8_end, Cond.instanceMethod yX8_end, Cond.selects RX8 yX8_end yX8_end, Cond.code yX8_end cX8_end 2 (some .boolean), Cond.methodLink RL 38 yX9_end, Cond.instanceMethod yX9_end, Cond.selects RX9 yX9_end yX9_end, Cond.code yX9_end cX9_end 2 (some .boolean)]
def wsL_law0_r10 : List Cond := [Cond.methodLink RL 39 yX8_send, Cond.instanceMethod yX8_send, Cond.selects RX8 yX8_send yX8_send, Cond.code yX8_send cX8_send 4 (some .int), Cond.methodLink RX8 87 yX8_lowBits, Cond.methodLink RX8 91 yX4_flash, Cond.instanceMethod yX4_flash, Cond.selects RX4 yX4_flash yX4_flash, Cond.code yX4_flash cX4_flash 3 (some .int), Cond.methodLink RX4 39 ⟨"OneHandset$Form", "write", "(ILOneHandset$Tape;)V"⟩, Cond.sameMethod "OneHandset$Form" "OneHandset$Form" "write" "(ILOneHandset$Tape;)V", Cond.selects RX2 ⟨"OneHandset$Form", "write", "(ILOneHandset$Tape;)V"⟩ yX2_write, Cond.instanceMethod yX2_write, Cond.code yX2_write cX2_write 5 none, Cond.methodLink RX2 18 yX2_isOn, Cond.instanceMethod yX2_isOn, Cond.selects RX2 yX2_isOn yX2_isOn, Cond.code yX2_isOn cX2_isOn 4 (some .boolean), Cond.methodLink RX2 22 yX7_append, Cond.methodLink RX2 28 yX7_lengthenLast, Cond.instanceMethod yX7_lengthenLast, Cond.selects RX7 yX7_lengthenLast yX7_lengthenLast, Cond.code yX7_lengthenLast cX7_lengthenLast 2 none, Cond.selects RX5 ⟨"OneHandset$Form", "write", "(ILOneHandset$Tape;)V"⟩ yX5_write]
def wsL_law0_r11 : List Cond := [Cond.instanceMethod yX5_write, Cond.code yX5_write cX5_write 5 none, Cond.methodLink RX5 37 yX5_tellsBit, Cond.instanceMethod yX5_tellsBit, Cond.selects RX5 yX5_tellsBit yX5_tellsBit, Cond.code yX5_tellsBit cX5_tellsBit 2 (some .boolean), Cond.methodLink RX5 41 yX7_append, Cond.methodLink RX5 47 yX5_plainTime, Cond.instanceMethod yX5_plainTime, Cond.selects RX5 yX5_plainTime yX5_plainTime, Cond.code yX5_plainTime cX5_plainTime 2 (some .int), Cond.methodLink RL 43 yX9_send, Cond.instanceMethod yX9_send, Cond.selects RX9 yX9_send yX9_send, Cond.code yX9_send cX9_send 3 (some .int), Cond.methodLink RX9 76 yX9_flash, Cond.instanceMethod yX9_flash, Cond.selects RX9 yX9_flash yX9_flash, Cond.code yX9_flash cX9_flash 7 none, Cond.methodLink RX9 72 yX9_layHalves, Cond.instanceMethod yX9_layHalves, Cond.selects RX9 yX9_layHalves yX9_layHalves, Cond.code yX9_layHalves cX9_layHalves 7 none, Cond.methodLink RX9 65 yX9_isOn]
def wsL_law0_r12 : List Cond := [Cond.static yX9_isOn, Cond.code yX9_isOn cX9_isOn 4 (some .boolean), Cond.methodLink RX9 68 yX9_lay, Cond.instanceMethod yX9_lay, Cond.selects RX9 yX9_lay yX9_lay, Cond.code yX9_lay cX9_lay 2 none, Cond.methodLink RL 44 yL_time, Cond.static yL_time, Cond.initialized RL, Cond.codeWith yL_time cL_time 4 (some .int) [(0, 9, 12, 13)], Cond.classLink RL 13 "java/util/NoSuchElementException", Cond.methodLink RL 7 yX8_time, Cond.instanceMethod yX8_time, Cond.selects RX8 yX8_time yX8_time, Cond.code yX8_time cX8_time 2 (some .int), Cond.classLink RX8 95 "java/util/NoSuchElementException", Cond.initialized "java/util/NoSuchElementException", Cond.methodLink RX8 98 yX7_at, Cond.instanceMethod yX7_at, Cond.selects RX7 yX7_at yX7_at, Cond.code yX7_at cX7_at 2 (some .int), Cond.methodLink RL 49 yX9_time, Cond.instanceMethod yX9_time, Cond.selects RX9 yX9_time yX9_time]
def wsL_law0_r13 : List Cond := [Cond.code yX9_time cX9_time 2 (some .int), Cond.methodLink RL 50 yX9_thrown, Cond.instanceMethod yX9_thrown, Cond.selects RX9 yX9_thrown yX9_thrown, Cond.code yX9_thrown cX9_thrown 1 (some .int), Cond.methodLink RL 54 yX8_read, Cond.instanceMethod yX8_read, Cond.selects RX8 yX8_read yX8_read, Cond.code yX8_read cX8_read 3 (some .int), Cond.methodLink RX8 101 yX4_decode, Cond.instanceMethod yX4_decode, Cond.selects RX4 yX4_decode yX4_decode, Cond.code yX4_decode cX4_decode 2 (some .int), Cond.methodLink RX4 45 ⟨"OneHandset$Form", "decode", "(LOneHandset$Tape;I)I"⟩, Cond.sameMethod "OneHandset$Form" "OneHandset$Form" "decode" "(LOneHandset$Tape;I)I", Cond.selects RX2 ⟨"OneHandset$Form", "decode", "(LOneHandset$Tape;I)I"⟩ yX2_decode, Cond.instanceMethod yX2_decode, Cond.code yX2_decode cX2_decode 11 (some .int), Cond.methodLink RX2 34 yX7_at, Cond.static yX8_nearerOf, Cond.code yX8_nearerOf cX8_nearerOf 6 (some .int), Cond.methodLink RX8 202 Lib.Math.abs.name, Cond.static Lib.Math.abs.name, Cond.initialized "java/lang/Math"]
def wsL_law0_r14 : List Cond := [Cond.code Lib.Math.abs.name Lib.Math.abs.code 1 (some .int), Cond.methodLink RX8 207 yX8_fits, Cond.static yX8_fits, Cond.code yX8_fits cX8_fits 3 (some .boolean), Cond.methodLink RX8 199 yX8_isTime, Cond.static yX8_isTime, Cond.code yX8_isTime cX8_isTime 1 (some .boolean), Cond.static yX8_fault, Cond.code yX8_fault cX8_fault 1 (some .int), Cond.selects RX5 ⟨"OneHandset$Form", "decode", "(LOneHandset$Tape;I)I"⟩ yX5_decode, Cond.instanceMethod yX5_decode, Cond.code yX5_decode cX5_decode 7 (some .int), Cond.methodLink RX5 57 yX7_at, Cond.methodLink RL 57 yX9_read, Cond.instanceMethod yX9_read, Cond.selects RX9 yX9_read yX9_read, Cond.code yX9_read cX9_read 3 (some .int), Cond.fieldLink RX9 92 "OneHandsetModel" "faultAt" "I", Cond.methodLink RX9 108 yX9_readBy, Cond.instanceMethod yX9_readBy, Cond.selects RX9 yX9_readBy yX9_readBy, Cond.code yX9_readBy cX9_readBy 2 (some .int), Cond.methodLink RX9 102 yX9_readHalves, Cond.instanceMethod yX9_readHalves]
def wsL_law0_r15 : List Cond := [Cond.selects RX9 yX9_readHalves yX9_readHalves, Cond.code yX9_readHalves cX9_readHalves 11 (some .int), Cond.methodLink RX9 98 yX9_which, Cond.instanceMethod yX9_which, Cond.selects RX9 yX9_which yX9_which, Cond.code yX9_which cX9_which 7 (some .int), Cond.methodLink RX9 83 Lib.Math.abs.name, Cond.methodLink RX9 89 yX9_fits, Cond.instanceMethod yX9_fits, Cond.selects RX9 yX9_fits yX9_fits, Cond.code yX9_fits cX9_fits 4 (some .boolean), Cond.methodLink RX9 80 yX9_isTime, Cond.static yX9_isTime, Cond.code yX9_isTime cX9_isTime 1 (some .boolean), Cond.methodLink RX9 95 yX9_fault, Cond.instanceMethod yX9_fault, Cond.selects RX9 yX9_fault yX9_fault, Cond.code yX9_fault cX9_fault 2 (some .int), Cond.methodLink RX9 105 yX9_readBits, Cond.instanceMethod yX9_readBits, Cond.selects RX9 yX9_readBits yX9_readBits, Cond.code yX9_readBits cX9_readBits 9 (some .int), Cond.methodLink RL 58 yX8_which, Cond.instanceMethod yX8_which]
def wsL_law0_r16 : List Cond := [Cond.selects RX8 yX8_which yX8_which, Cond.code yX8_which cX8_which 3 (some .int), Cond.methodLink RX8 105 yX8_read, Cond.methodLink RL 61 yX9_which_, Cond.instanceMethod yX9_which_, Cond.selects RX9 yX9_which_ yX9_which_, Cond.code yX9_which_ cX9_which_ 3 (some .int), Cond.methodLink RL 62 yX8_stretch, Cond.instanceMethod yX8_stretch, Cond.selects RX8 yX8_stretch yX8_stretch, Cond.code yX8_stretch cX8_stretch 2 (some .boolean), Cond.methodLink RX8 108 yX7_stretchAll, Cond.instanceMethod yX7_stretchAll, Cond.selects RX7 yX7_stretchAll yX7_stretchAll, Cond.code yX7_stretchAll cX7_stretchAll 4 none, Cond.methodLink RX7 27 Lib.Math.min.name, Cond.static Lib.Math.min.name, Cond.code Lib.Math.min.name Lib.Math.min.code 2 (some .int), Cond.methodLink RX7 33 Lib.Math.max.name, Cond.static Lib.Math.max.name, Cond.code Lib.Math.max.name Lib.Math.max.code 2 (some .int), Cond.methodLink RL 65 yX9_stretch, Cond.instanceMethod yX9_stretch, Cond.selects RX9 yX9_stretch yX9_stretch]
def wsL_law0_r17 : List Cond := [Cond.code yX9_stretch cX9_stretch 4 (some .boolean), Cond.methodLink RL 66 yX8_learn, Cond.instanceMethod yX8_learn, Cond.selects RX8 yX8_learn yX8_learn, Cond.code yX8_learn cX8_learn 5 (some .int), Cond.methodLink RX8 111 yX3_take, Cond.instanceMethod yX3_take, Cond.selects RX3 yX3_take yX3_take, Cond.code yX3_take cX3_take 4 (some .int), Cond.methodLink RX3 45 yX3_hasKey, Cond.instanceMethod yX3_hasKey, Cond.selects RX3 yX3_hasKey yX3_hasKey, Cond.code yX3_hasKey cX3_hasKey 2 (some .boolean), Cond.methodLink RL 69 yX9_learn, Cond.instanceMethod yX9_learn, Cond.selects RX9 yX9_learn yX9_learn, Cond.code yX9_learn cX9_learn 5 (some .int), Cond.methodLink RX9 111 yX9_isKey, Cond.instanceMethod yX9_isKey, Cond.selects RX9 yX9_isKey yX9_isKey, Cond.code yX9_isKey cX9_isKey 3 (some .boolean), Cond.methodLink RX9 115 yX9_flipOf, Cond.instanceMethod yX9_flipOf, Cond.selects RX9 yX9_flipOf yX9_flipOf]
def wsL_law0_r18 : List Cond := [Cond.code yX9_flipOf cX9_flipOf 2 (some .int), Cond.methodLink RL 70 yX8_forget, Cond.instanceMethod yX8_forget, Cond.selects RX8 yX8_forget yX8_forget, Cond.code yX8_forget cX8_forget 4 (some .boolean), Cond.methodLink RX8 115 yX3_drop, Cond.instanceMethod yX3_drop, Cond.selects RX3 yX3_drop yX3_drop, Cond.code yX3_drop cX3_drop 2 (some .boolean), Cond.methodLink RX3 53 yX3_codeOf, Cond.instanceMethod yX3_codeOf, Cond.selects RX3 yX3_codeOf yX3_codeOf, Cond.code yX3_codeOf cX3_codeOf 2 (some .int), Cond.methodLink RL 74 yX9_forget, Cond.instanceMethod yX9_forget, Cond.selects RX9 yX9_forget yX9_forget, Cond.code yX9_forget cX9_forget 3 (some .boolean), Cond.methodLink RL 75 yX8_key, Cond.instanceMethod yX8_key, Cond.selects RX8 yX8_key yX8_key, Cond.code yX8_key cX8_key 4 (some .int), Cond.methodLink RX8 118 yX3_codeOf, Cond.methodLink RL 78 yX9_key, Cond.instanceMethod yX9_key]
def wsL_law0_r19 : List Cond := [Cond.selects RX9 yX9_key yX9_key, Cond.code yX9_key cX9_key 3 (some .int), Cond.methodLink RL 79 yX8_press, Cond.instanceMethod yX8_press, Cond.selects RX8 yX8_press yX8_press, Cond.code yX8_press cX8_press 4 (some .int), Cond.methodLink RX8 121 yX3_codeToSend, Cond.instanceMethod yX3_codeToSend, Cond.selects RX3 yX3_codeToSend yX3_codeToSend, Cond.code yX3_codeToSend cX3_codeToSend 3 (some .int), Cond.methodLink RL 82 yX9_press, Cond.instanceMethod yX9_press, Cond.selects RX9 yX9_press yX9_press, Cond.code yX9_press cX9_press 3 (some .int), Cond.methodLink RL 83 yX8_of, Cond.instanceMethod yX8_of, Cond.selects RX8 yX8_of yX8_of, Cond.code yX8_of cX8_of 4 (some .int), Cond.methodLink RL 86 yX9_of, Cond.instanceMethod yX9_of, Cond.selects RX9 yX9_of yX9_of, Cond.code yX9_of cX9_of 3 (some .int), Cond.methodLink RX9 118 yX9_learnt, Cond.instanceMethod yX9_learnt]
def wsL_law0_r20 : List Cond := [Cond.selects RX9 yX9_learnt yX9_learnt, Cond.code yX9_learnt cX9_learnt 4 (some .int), Cond.methodLink RX9 124 yX9_fixed, Cond.instanceMethod yX9_fixed, Cond.selects RX9 yX9_fixed yX9_fixed, Cond.code yX9_fixed cX9_fixed 4 (some .int), Cond.methodLink RX9 121 yX9_some, Cond.instanceMethod yX9_some, Cond.selects RX9 yX9_some yX9_some, Cond.code yX9_some cX9_some 4 (some .int), Cond.methodLink RL 87 yX8_check, Cond.instanceMethod yX8_check, Cond.selects RX8 yX8_check yX8_check, Cond.code yX8_check cX8_check 4 (some .int), Cond.methodLink RX8 139 yX3_constantThatHolds, Cond.instanceMethod yX3_constantThatHolds, Cond.selects RX3 yX3_constantThatHolds yX3_constantThatHolds, Cond.code yX3_constantThatHolds cX3_constantThatHolds 2 (some .int), Cond.methodLink RL 90 yX9_check, Cond.instanceMethod yX9_check, Cond.selects RX9 yX9_check yX9_check, Cond.code yX9_check cX9_check 3 (some .int), Cond.methodLink RX9 134 yX9_checkOf, Cond.instanceMethod yX9_checkOf]
def wsL_law0_r21 : List Cond := [Cond.selects RX9 yX9_checkOf yX9_checkOf, Cond.code yX9_checkOf cX9_checkOf 5 (some .int), Cond.methodLink RX9 130 yX9_numberOf, Cond.instanceMethod yX9_numberOf, Cond.selects RX9 yX9_numberOf yX9_numberOf, Cond.code yX9_numberOf cX9_numberOf 6 (some .int), Cond.methodLink RX9 127 yX9_sumOf, Cond.static yX9_sumOf, Cond.code yX9_sumOf cX9_sumOf 4 (some .int), Cond.methodLink RL 91 yX8_many, Cond.instanceMethod yX8_many, Cond.selects RX8 yX8_many yX8_many, Cond.code yX8_many cX8_many 3 (some .int), Cond.methodLink RX8 142 yX3_canForesee, Cond.instanceMethod yX3_canForesee, Cond.selects RX3 yX3_canForesee yX3_canForesee, Cond.code yX3_canForesee cX3_canForesee 1 (some .boolean), Cond.methodLink RX3 82 yX3_free, Cond.instanceMethod yX3_free, Cond.selects RX3 yX3_free yX3_free, Cond.code yX3_free cX3_free 1 (some .int), Cond.methodLink RX3 85 yJ6_bitCount_0f7a4, Cond.static yJ6_bitCount_0f7a4, Cond.initialized RJ6]
def wsL_law0_r22 : List Cond := [Cond.code yJ6_bitCount_0f7a4 cJ6_bitCount_0f7a4 1 (some .int), Cond.constant RJ6 265 (1431655765), Cond.constant RJ6 266 (858993459), Cond.constant RJ6 267 (252645135), Cond.methodLink RX8 146 yX3_foreseenCount, Cond.instanceMethod yX3_foreseenCount, Cond.selects RX3 yX3_foreseenCount yX3_foreseenCount, Cond.code yX3_foreseenCount cX3_foreseenCount 3 (some .int), Cond.methodLink RX3 93 yX3_foreseenAbove, Cond.instanceMethod yX3_foreseenAbove, Cond.selects RX3 yX3_foreseenAbove yX3_foreseenAbove, Cond.code yX3_foreseenAbove cX3_foreseenAbove 6 (some .int), Cond.methodLink RX3 90 yX3_checksHoldFor, Cond.instanceMethod yX3_checksHoldFor, Cond.selects RX3 yX3_checksHoldFor yX3_checksHoldFor, Cond.code yX3_checksHoldFor cX3_checksHoldFor 3 (some .boolean), Cond.methodLink RL 94 yX9_many, Cond.instanceMethod yX9_many, Cond.selects RX9 yX9_many yX9_many, Cond.code yX9_many cX9_many 2 (some .int), Cond.constant RX9 151 (16777216), Cond.methodLink RX9 148 yX9_canForesee, Cond.instanceMethod yX9_canForesee, Cond.selects RX9 yX9_canForesee yX9_canForesee]
def wsL_law0_r23 : List Cond := [Cond.code yX9_canForesee cX9_canForesee 2 (some .boolean), Cond.methodLink RX9 137 yJ6_bitCount_0f7a4, Cond.methodLink RX9 152 yX9_go, Cond.instanceMethod yX9_go, Cond.selects RX9 yX9_go yX9_go, Cond.code yX9_go cX9_go 8 (some .int), Cond.fieldLink RX9 142 "OneHandsetModel" "seen" "I", Cond.methodLink RX9 145 yX9_isForeseen, Cond.instanceMethod yX9_isForeseen, Cond.selects RX9 yX9_isForeseen yX9_isForeseen, Cond.code yX9_isForeseen cX9_isForeseen 4 (some .boolean), Cond.methodLink RL 95 yX8_foreseen, Cond.instanceMethod yX8_foreseen, Cond.selects RX8 yX8_foreseen yX8_foreseen, Cond.code yX8_foreseen cX8_foreseen 4 (some .int), Cond.methodLink RX8 150 yX3_foreseenAt, Cond.instanceMethod yX3_foreseenAt, Cond.selects RX3 yX3_foreseenAt yX3_foreseenAt, Cond.code yX3_foreseenAt cX3_foreseenAt 4 (some .int), Cond.methodLink RL 98 yX9_foreseen, Cond.instanceMethod yX9_foreseen, Cond.selects RX9 yX9_foreseen yX9_foreseen, Cond.code yX9_foreseen cX9_foreseen 3 (some .int), Cond.constant RX9 155 (8388608)]
def wsL_law0_r24 : List Cond := [Cond.methodLink RL 99 yX8_both, Cond.instanceMethod yX8_both, Cond.selects RX8 yX8_both yX8_both, Cond.code yX8_both cX8_both 5 (some .int), Cond.methodLink RX8 153 yX3_leastForeseenWith, Cond.instanceMethod yX3_leastForeseenWith, Cond.selects RX3 yX3_leastForeseenWith yX3_leastForeseenWith, Cond.code yX3_leastForeseenWith cX3_leastForeseenWith 4 (some .int), Cond.methodLink RX3 96 yX3_foresees, Cond.instanceMethod yX3_foresees, Cond.selects RX3 yX3_foresees yX3_foresees, Cond.code yX3_foresees cX3_foresees 2 (some .boolean), Cond.methodLink RL 102 yX9_both, Cond.instanceMethod yX9_both, Cond.selects RX9 yX9_both yX9_both, Cond.code yX9_both cX9_both 9 (some .int), Cond.methodLink RL 103 yX8_box, Cond.instanceMethod yX8_box, Cond.selects RX8 yX8_box yX8_box, Cond.code yX8_box cX8_box 5 (some .boolean), Cond.methodLink RX8 157 yX8_boxAt, Cond.instanceMethod yX8_boxAt, Cond.selects RX8 yX8_boxAt yX8_boxAt, Cond.code yX8_boxAt cX8_boxAt 2 (some (.object "OneHandset$Box"))]
def wsL_law0_r25 : List Cond := [Cond.methodLink RL 106 yX9_box, Cond.instanceMethod yX9_box, Cond.selects RX9 yX9_box yX9_box, Cond.code yX9_box cX9_box 5 (some .boolean), Cond.methodLink RX9 156 yX9_isBox, Cond.static yX9_isBox, Cond.code yX9_isBox cX9_isBox 1 (some .boolean), Cond.methodLink RL 107 yX8_lead, Cond.instanceMethod yX8_lead, Cond.selects RX8 yX8_lead yX8_lead, Cond.code yX8_lead cX8_lead 6 (some .boolean), Cond.methodLink RX8 164 yX0_hasState, Cond.instanceMethod yX0_hasState, Cond.selects RX0 yX0_hasState yX0_hasState, Cond.code yX0_hasState cX0_hasState 2 (some .boolean), Cond.methodLink RX8 167 yX0_hasButton, Cond.instanceMethod yX0_hasButton, Cond.selects RX0 yX0_hasButton yX0_hasButton, Cond.code yX0_hasButton cX0_hasButton 2 (some .boolean), Cond.methodLink RX8 170 yX0_setLead, Cond.instanceMethod yX0_setLead, Cond.selects RX0 yX0_setLead yX0_setLead, Cond.code yX0_setLead cX0_setLead 4 none, Cond.methodLink RX0 43 yX0_hasState]
def wsL_law0_r26 : List Cond := [Cond.methodLink RX0 47 yX0_hasButton, Cond.methodLink RL 111 yX9_lead, Cond.instanceMethod yX9_lead, Cond.selects RX9 yX9_lead yX9_lead, Cond.code yX9_lead cX9_lead 5 (some .boolean), Cond.methodLink RL 112 yX8_maybe, Cond.instanceMethod yX8_maybe, Cond.selects RX8 yX8_maybe yX8_maybe, Cond.code yX8_maybe cX8_maybe 4 (some .boolean), Cond.methodLink RX8 174 yX0_hasSet, Cond.instanceMethod yX0_hasSet, Cond.selects RX0 yX0_hasSet yX0_hasSet, Cond.code yX0_hasSet cX0_hasSet 2 (some .boolean), Cond.methodLink RL 115 yX9_maybe, Cond.instanceMethod yX9_maybe, Cond.selects RX9 yX9_maybe yX9_maybe, Cond.code yX9_maybe cX9_maybe 3 (some .boolean), Cond.methodLink RX9 159 yX9_isSet, Cond.instanceMethod yX9_isSet, Cond.selects RX9 yX9_isSet yX9_isSet, Cond.code yX9_isSet cX9_isSet 3 (some .boolean), Cond.methodLink RL 116 yX8_push, Cond.instanceMethod yX8_push, Cond.selects RX8 yX8_push yX8_push]
def wsL_law0_r27 : List Cond := [Cond.code yX8_push cX8_push 4 (some .int), Cond.methodLink RX8 180 yX0_behind, Cond.instanceMethod yX0_behind, Cond.selects RX0 yX0_behind yX0_behind, Cond.code yX0_behind cX0_behind 5 (some .int), Cond.methodLink RL 119 yX9_push, Cond.instanceMethod yX9_push, Cond.selects RX9 yX9_push yX9_push, Cond.code yX9_push cX9_push 3 (some .int), Cond.methodLink RX9 162 yX9_behind, Cond.instanceMethod yX9_behind, Cond.selects RX9 yX9_behind yX9_behind, Cond.code yX9_behind cX9_behind 6 (some .int), Cond.methodLink RL 120 yX8_way, Cond.instanceMethod yX8_way, Cond.selects RX8 yX8_way yX8_way, Cond.code yX8_way cX8_way 4 (some .int), Cond.methodLink RX8 183 yX6_find, Cond.instanceMethod yX6_find, Cond.selects RX6 yX6_find yX6_find, Cond.code yX6_find cX6_find 9 (some .int), Cond.methodLink RX6 28 yJ7_fill_53178, Cond.methodLink RX6 39 yX6_keepRow, Cond.instanceMethod yX6_keepRow]
def wsL_law0_r28 : List Cond := [Cond.selects RX6 yX6_keepRow yX6_keepRow, Cond.code yX6_keepRow cX6_keepRow 5 (some .int), Cond.methodLink RX6 46 yX0_behind, Cond.methodLink RL 123 yX9_way, Cond.instanceMethod yX9_way, Cond.selects RX9 yX9_way yX9_way, Cond.code yX9_way cX9_way 8 (some .int), Cond.methodLink RX9 165 yX9_tell, Cond.instanceMethod yX9_tell, Cond.selects RX9 yX9_tell yX9_tell, Cond.code yX9_tell cX9_tell 5 (some .int), Cond.fieldLink RX9 168 "OneHandsetModel" "wayMany" "I", Cond.methodLink RL 124 yX8_button, Cond.instanceMethod yX8_button, Cond.selects RX8 yX8_button yX8_button, Cond.code yX8_button cX8_button 2 (some .int), Cond.methodLink RX8 187 yX6_buttonAt, Cond.instanceMethod yX6_buttonAt, Cond.selects RX6 yX6_buttonAt yX6_buttonAt, Cond.code yX6_buttonAt cX6_buttonAt 2 (some .int), Cond.methodLink RL 127 yX9_button, Cond.instanceMethod yX9_button, Cond.selects RX9 yX9_button yX9_button, Cond.code yX9_button cX9_button 2 (some .int)]
def wsL_law0_r29 : List Cond := [Cond.methodLink RL 128 yX8_told, Cond.instanceMethod yX8_told, Cond.selects RX8 yX8_told yX8_told, Cond.code yX8_told cX8_told 4 (some .int), Cond.methodLink RL 131 yX9_told, Cond.instanceMethod yX9_told, Cond.selects RX9 yX9_told yX9_told, Cond.code yX9_told cX9_told 3 (some .int), Cond.methodLink RL 132 yX8_count, Cond.instanceMethod yX8_count, Cond.selects RX8 yX8_count yX8_count, Cond.code yX8_count cX8_count 2 (some .int), Cond.methodLink RL 135 yX9_count, Cond.instanceMethod yX9_count, Cond.selects RX9 yX9_count yX9_count, Cond.code yX9_count cX9_count 2 (some .int)]
def wsL_law0 : List Cond := (wsL_law0_r1 ++ (wsL_law0_r2 ++ (wsL_law0_r3 ++ (wsL_law0_r4 ++ (wsL_law0_r5 ++ (wsL_law0_r6 ++ (wsL_law0_r7 ++ (wsL_law0_r8 ++ (wsL_law0_r9 ++ (wsL_law0_r10 ++ (wsL_law0_r11 ++ (wsL_law0_r12 ++ (wsL_law0_r13 ++ (wsL_law0_r14 ++ (wsL_law0_r15 ++ (wsL_law0_r16 ++ (wsL_law0_r17 ++ (wsL_law0_r18 ++ (wsL_law0_r19 ++ (wsL_law0_r20 ++ (wsL_law0_r21 ++ (wsL_law0_r22 ++ (wsL_law0_r23 ++ (wsL_law0_r24 ++ (wsL_law0_r25 ++ (wsL_law0_r26 ++ (wsL_law0_r27 ++ (wsL_law0_r28 ++ wsL_law0_r29)))))))))))))))))))))))))))) ++ wsX80 ++ wsX90 ++ wsX70 ++ wsX00 ++ wsX60 ++ wsX20 ++ wsX50 ++ wsX40 ++ wsX30 ++ ([] : List Cond)
def wsL_law : List Cond := wsL_law0 ++ (vx_at0 RX8 97 "java/util/NoSuchElementException" ["java/lang/RuntimeException", "java/lang/Exception"]).filter goodWord
abbrev vwCl : List vw_C := [(RX0, TX0, 4), (RX2, TX2, 2), (RX3, TX3, 8), (RX4, TX4, 5), (RX5, TX5, 8), (RX6, TX6, 5), (RX7, TX7, 2), (RX8, TX8, 5), (RX9, TX9, 17)]
end
section
theorem mem_pl {big ws : List Cond} (ps : List Nat) (hp : ws.map some = ps.map (fun i => big[i]?)) : ∀ w ∈ ws, w ∈ big := by
  intro w hw
  have h1 : some w ∈ ps.map (fun i => big[i]?) := hp ▸ List.mem_map.mpr ⟨w, hw, rfl⟩
  obtain ⟨i, -, hi⟩ := List.mem_map.mp h1
  first | exact List.mem_of_getElem? hi | exact List.getElem?_mem hi
set_option maxRecDepth 100000 in
set_option maxHeartbeats 4000000 in
theorem i_wsL_law0_r1 : ∀ w ∈ wsL_law0_r1, w ∈ lw_tbl := mem_pl [62, 63, 45, 674, 675, 50, 955, 64, 65, 66, 67, 68, 69, 70, 71, 46, 148, 88, 149, 150, 90, 151, 92, 47] rfl
set_option maxRecDepth 100000 in
set_option maxHeartbeats 4000000 in
theorem i_wsL_law0_r2 : ∀ w ∈ wsL_law0_r2, w ∈ lw_tbl := mem_pl [125, 126, 49, 152, 73, 74, 75, 87, 76, 77, 93, 94, 95, 96, 107, 97, 99, 0, 100, 108, 110, 114, 102, 103] rfl
set_option maxRecDepth 100000 in
set_option maxHeartbeats 4000000 in
theorem i_wsL_law0_r3 : ∀ w ∈ wsL_law0_r3, w ∈ lw_tbl := mem_pl [104, 105, 48, 106, 128, 129, 130, 131, 132, 133, 134, 135, 676, 677, 678, 679, 680, 682, 684, 685, 686, 687, 688, 689] rfl
set_option maxRecDepth 100000 in
set_option maxHeartbeats 4000000 in
theorem i_wsL_law0_r4 : ∀ w ∈ wsL_law0_r4, w ∈ lw_tbl := mem_pl [694, 695, 696, 164, 165, 166, 167, 174, 175, 52, 190, 191, 53, 221, 54, 168, 169, 170, 171, 172, 173, 176, 177, 178] rfl
set_option maxRecDepth 100000 in
set_option maxHeartbeats 4000000 in
theorem i_wsL_law0_r5 : ∀ w ∈ wsL_law0_r5, w ∈ lw_tbl := mem_pl [183, 184, 180, 51, 181, 182, 192, 193, 194, 196, 197, 198, 199, 200, 201, 202, 203, 222, 223, 224, 225, 298, 291, 293] rfl
set_option maxRecDepth 100000 in
set_option maxHeartbeats 4000000 in
theorem i_wsL_law0_r6 : ∀ w ∈ wsL_law0_r6, w ∈ lw_tbl := mem_pl [295, 226, 227, 55, 296, 228, 229, 230, 231, 263, 264, 262, 232, 234, 1, 235, 265, 267, 236, 237, 239, 2, 240, 269] rfl
set_option maxRecDepth 100000 in
set_option maxHeartbeats 4000000 in
theorem i_wsL_law0_r7 : ∀ w ∈ wsL_law0_r7, w ∈ lw_tbl := mem_pl [271, 273, 242, 244, 3, 245, 246, 248, 4, 249, 250, 252, 5, 253, 254, 256, 6, 257, 258, 260, 7, 261, 736, 737] rfl
set_option maxRecDepth 100000 in
set_option maxHeartbeats 4000000 in
theorem i_wsL_law0_r8 : ∀ w ∈ wsL_law0_r8, w ∈ lw_tbl := mem_pl [738, 739, 692, 683, 740, 741, 742, 311, 312, 313, 314, 315, 317, 8, 318, 743, 744, 745, 746, 747, 749, 20, 750, 751] rfl
set_option maxRecDepth 100000 in
set_option maxHeartbeats 4000000 in
theorem i_wsL_law0_r9 : ∀ w ∈ wsL_law0_r9, w ∈ lw_tbl := mem_pl [753, 21, 754, 320, 321, 322, 323, 324, 325, 326, 327, 755, 756, 757, 758, 681, 328, 329, 330, 331, 759, 760, 761, 762] rfl
set_option maxRecDepth 100000 in
set_option maxHeartbeats 4000000 in
theorem i_wsL_law0_r10 : ∀ w ∈ wsL_law0_r10, w ∈ lw_tbl := mem_pl [332, 333, 334, 335, 336, 337, 338, 339, 340, 341, 343, 344, 345, 346, 347, 349, 9, 350, 351, 352, 353, 354, 355, 356] rfl
set_option maxRecDepth 100000 in
set_option maxHeartbeats 4000000 in
theorem i_wsL_law0_r11 : ∀ w ∈ wsL_law0_r11, w ∈ lw_tbl := mem_pl [357, 358, 359, 361, 10, 362, 363, 364, 366, 11, 367, 763, 764, 765, 766, 767, 769, 22, 770, 771, 773, 23, 774, 775] rfl
set_option maxRecDepth 100000 in
set_option maxHeartbeats 4000000 in
theorem i_wsL_law0_r12 : ∀ w ∈ wsL_law0_r12, w ∈ lw_tbl := mem_pl [776, 777, 778, 780, 24, 781, 604, 605, 44, 606, 607, 608, 609, 610, 611, 612, 59, 673, 383, 384, 385, 782, 783, 784] rfl
set_option maxRecDepth 100000 in
set_option maxHeartbeats 4000000 in
theorem i_wsL_law0_r13 : ∀ w ∈ wsL_law0_r13, w ∈ lw_tbl := mem_pl [785, 732, 733, 734, 735, 368, 369, 370, 371, 372, 373, 374, 375, 376, 378, 379, 380, 381, 382, 388, 389, 396, 397, 60] rfl
set_option maxRecDepth 100000 in
set_option maxHeartbeats 4000000 in
theorem i_wsL_law0_r14 : ∀ w ∈ wsL_law0_r14, w ∈ lw_tbl := mem_pl [398, 390, 391, 392, 393, 394, 395, 400, 401, 402, 403, 404, 406, 786, 787, 788, 789, 691, 790, 792, 25, 793, 794, 796] rfl
set_option maxRecDepth 100000 in
set_option maxHeartbeats 4000000 in
theorem i_wsL_law0_r15 : ∀ w ∈ wsL_law0_r15, w ∈ lw_tbl := mem_pl [26, 797, 798, 800, 27, 801, 809, 802, 804, 28, 805, 806, 807, 808, 810, 812, 29, 813, 814, 816, 30, 817, 409, 410] rfl
set_option maxRecDepth 100000 in
set_option maxHeartbeats 4000000 in
theorem i_wsL_law0_r16 : ∀ w ∈ wsL_law0_r16, w ∈ lw_tbl := mem_pl [411, 412, 413, 818, 819, 820, 821, 414, 415, 416, 417, 418, 419, 420, 421, 423, 424, 425, 426, 427, 428, 822, 823, 824] rfl
set_option maxRecDepth 100000 in
set_option maxHeartbeats 4000000 in
theorem i_wsL_law0_r17 : ∀ w ∈ wsL_law0_r17, w ∈ lw_tbl := mem_pl [825, 429, 430, 431, 432, 433, 434, 435, 436, 437, 439, 12, 440, 826, 827, 828, 829, 830, 832, 31, 833, 834, 836, 32] rfl
set_option maxRecDepth 100000 in
set_option maxHeartbeats 4000000 in
theorem i_wsL_law0_r18 : ∀ w ∈ wsL_law0_r18, w ∈ lw_tbl := mem_pl [837, 442, 443, 444, 445, 446, 447, 448, 449, 450, 451, 452, 453, 838, 839, 840, 841, 454, 455, 456, 457, 458, 842, 843] rfl
set_option maxRecDepth 100000 in
set_option maxHeartbeats 4000000 in
theorem i_wsL_law0_r19 : ∀ w ∈ wsL_law0_r19, w ∈ lw_tbl := mem_pl [844, 845, 459, 460, 461, 462, 463, 464, 465, 466, 846, 847, 848, 849, 467, 468, 469, 470, 850, 851, 852, 853, 854, 856] rfl
set_option maxRecDepth 100000 in
set_option maxHeartbeats 4000000 in
theorem i_wsL_law0_r20 : ∀ w ∈ wsL_law0_r20, w ∈ lw_tbl := mem_pl [33, 857, 858, 860, 34, 861, 862, 864, 35, 865, 471, 472, 473, 474, 475, 476, 477, 478, 866, 867, 868, 869, 870, 872] rfl
set_option maxRecDepth 100000 in
set_option maxHeartbeats 4000000 in
theorem i_wsL_law0_r21 : ∀ w ∈ wsL_law0_r21, w ∈ lw_tbl := mem_pl [36, 873, 874, 876, 37, 877, 878, 879, 880, 479, 480, 481, 482, 483, 484, 485, 486, 487, 489, 13, 490, 491, 492, 61] rfl
set_option maxRecDepth 100000 in
set_option maxHeartbeats 4000000 in
theorem i_wsL_law0_r22 : ∀ w ∈ wsL_law0_r22, w ∈ lw_tbl := mem_pl [493, 494, 495, 496, 497, 498, 499, 500, 501, 503, 14, 504, 505, 507, 15, 508, 881, 882, 883, 884, 890, 885, 887, 38] rfl
set_option maxRecDepth 100000 in
set_option maxHeartbeats 4000000 in
theorem i_wsL_law0_r23 : ∀ w ∈ wsL_law0_r23, w ∈ lw_tbl := mem_pl [888, 889, 891, 893, 39, 894, 693, 895, 897, 40, 898, 509, 510, 511, 512, 513, 514, 515, 516, 899, 900, 901, 902, 903] rfl
set_option maxRecDepth 100000 in
set_option maxHeartbeats 4000000 in
theorem i_wsL_law0_r24 : ∀ w ∈ wsL_law0_r24, w ∈ lw_tbl := mem_pl [517, 518, 519, 520, 521, 522, 523, 524, 525, 527, 16, 528, 904, 905, 906, 907, 529, 530, 531, 532, 533, 535, 17, 536] rfl
set_option maxRecDepth 100000 in
set_option maxHeartbeats 4000000 in
theorem i_wsL_law0_r25 : ∀ w ∈ wsL_law0_r25, w ∈ lw_tbl := mem_pl [908, 909, 910, 911, 912, 913, 914, 538, 539, 540, 541, 542, 543, 544, 545, 547, 548, 549, 550, 551, 552, 553, 554, 555] rfl
set_option maxRecDepth 100000 in
set_option maxHeartbeats 4000000 in
theorem i_wsL_law0_r26 : ∀ w ∈ wsL_law0_r26, w ∈ lw_tbl := mem_pl [556, 915, 916, 917, 918, 557, 558, 559, 560, 561, 562, 563, 564, 919, 920, 921, 922, 923, 925, 41, 926, 565, 566, 567] rfl
set_option maxRecDepth 100000 in
set_option maxHeartbeats 4000000 in
theorem i_wsL_law0_r27 : ∀ w ∈ wsL_law0_r27, w ∈ lw_tbl := mem_pl [568, 569, 570, 571, 572, 927, 928, 929, 930, 931, 933, 42, 934, 573, 574, 575, 576, 577, 578, 579, 580, 581, 582, 584] rfl
set_option maxRecDepth 100000 in
set_option maxHeartbeats 4000000 in
theorem i_wsL_law0_r28 : ∀ w ∈ wsL_law0_r28, w ∈ lw_tbl := mem_pl [18, 585, 586, 935, 936, 937, 938, 939, 941, 43, 942, 690, 587, 588, 589, 590, 591, 592, 593, 594, 943, 944, 945, 946] rfl
set_option maxRecDepth 100000 in
set_option maxHeartbeats 4000000 in
theorem i_wsL_law0_r29 : ∀ w ∈ wsL_law0_r29, w ∈ lw_tbl := mem_pl [596, 597, 598, 599, 947, 948, 949, 950, 600, 601, 602, 603, 951, 952, 953, 954] rfl
set_option maxRecDepth 100000 in
set_option maxHeartbeats 4000000 in
theorem inX8 : ∀ w ∈ wsX80, w ∈ lw_tbl := mem_pl [153, 155, 157, 159, 161] rfl
set_option maxRecDepth 100000 in
set_option maxHeartbeats 4000000 in
theorem inX9 : ∀ w ∈ wsX90, w ∈ lw_tbl := mem_pl [697, 699, 701, 703, 705, 707, 709, 711, 713, 715, 717, 719, 721, 723, 725, 727, 729] rfl
set_option maxRecDepth 100000 in
set_option maxHeartbeats 4000000 in
theorem inX7 : ∀ w ∈ wsX70, w ∈ lw_tbl := mem_pl [82, 84] rfl
set_option maxRecDepth 100000 in
set_option maxHeartbeats 4000000 in
theorem inX0 : ∀ w ∈ wsX00, w ∈ lw_tbl := mem_pl [116, 118, 120, 122] rfl
set_option maxRecDepth 100000 in
set_option maxHeartbeats 4000000 in
theorem inX6 : ∀ w ∈ wsX60, w ∈ lw_tbl := mem_pl [137, 139, 141, 143, 145] rfl
set_option maxRecDepth 100000 in
set_option maxHeartbeats 4000000 in
theorem inX2 : ∀ w ∈ wsX20, w ∈ lw_tbl := mem_pl [185, 187] rfl
set_option maxRecDepth 100000 in
set_option maxHeartbeats 4000000 in
theorem inX5 : ∀ w ∈ wsX50, w ∈ lw_tbl := mem_pl [204, 206, 208, 210, 212, 214, 216, 218] rfl
set_option maxRecDepth 100000 in
set_option maxHeartbeats 4000000 in
theorem inX4 : ∀ w ∈ wsX40, w ∈ lw_tbl := mem_pl [300, 302, 304, 306, 308] rfl
set_option maxRecDepth 100000 in
set_option maxHeartbeats 4000000 in
theorem inX3 : ∀ w ∈ wsX30, w ∈ lw_tbl := mem_pl [274, 276, 278, 280, 282, 284, 286, 288] rfl
theorem mem_ap {a b big : List Cond} (ha : ∀ w ∈ a, w ∈ big) (hb : ∀ w ∈ b, w ∈ big) : ∀ w ∈ a ++ b, w ∈ big := fun w h => (List.mem_append.mp h).elim (ha w) (hb w)
theorem wsL_law_in0 : ∀ w ∈ wsL_law0, w ∈ lw_tbl := mem_ap (mem_ap (mem_ap (mem_ap (mem_ap (mem_ap (mem_ap (mem_ap (mem_ap (mem_ap (mem_ap i_wsL_law0_r1 (mem_ap i_wsL_law0_r2 (mem_ap i_wsL_law0_r3 (mem_ap i_wsL_law0_r4 (mem_ap i_wsL_law0_r5 (mem_ap i_wsL_law0_r6 (mem_ap i_wsL_law0_r7 (mem_ap i_wsL_law0_r8 (mem_ap i_wsL_law0_r9 (mem_ap i_wsL_law0_r10 (mem_ap i_wsL_law0_r11 (mem_ap i_wsL_law0_r12 (mem_ap i_wsL_law0_r13 (mem_ap i_wsL_law0_r14 (mem_ap i_wsL_law0_r15 (mem_ap i_wsL_law0_r16 (mem_ap i_wsL_law0_r17 (mem_ap i_wsL_law0_r18 (mem_ap i_wsL_law0_r19 (mem_ap i_wsL_law0_r20 (mem_ap i_wsL_law0_r21 (mem_ap i_wsL_law0_r22 (mem_ap i_wsL_law0_r23 (mem_ap i_wsL_law0_r24 (mem_ap i_wsL_law0_r25 (mem_ap i_wsL_law0_r26 (mem_ap i_wsL_law0_r27 (mem_ap i_wsL_law0_r28 (i_wsL_law0_r29))))))))))))))))))))))))))))) inX8) inX9) inX7) inX0) inX6) inX2) inX5) inX4) inX3) (fun _ h => absurd h List.not_mem_nil)
theorem wsL_law_x0 : ∀ w ∈ (vx_at0 RX8 97 "java/util/NoSuchElementException" ["java/lang/RuntimeException", "java/lang/Exception"]).filter goodWord, w ∈ lw_tbl := by decide +kernel
theorem wsL_law_in : ∀ w ∈ wsL_law, w ∈ lw_tbl := fun w h => (List.mem_append.mp h).elim (fun h => wsL_law_in0 w h) (fun h => wsL_law_x0 w h)
theorem inlX0 : ∀ w ∈ wsX00, w ∈ wsL_law := fun _ h => List.mem_append_left _ (List.mem_append_left _ (List.mem_append_left _ (List.mem_append_left _ (List.mem_append_left _ (List.mem_append_left _ (List.mem_append_left _ (List.mem_append_right _ h)))))))
theorem inX1 : ∀ w ∈ wsX10, w ∈ lw_tbl := by decide +kernel
theorem inlX2 : ∀ w ∈ wsX20, w ∈ wsL_law := fun _ h => List.mem_append_left _ (List.mem_append_left _ (List.mem_append_left _ (List.mem_append_left _ (List.mem_append_left _ (List.mem_append_right _ h)))))
theorem inlX3 : ∀ w ∈ wsX30, w ∈ wsL_law := fun _ h => List.mem_append_left _ (List.mem_append_left _ (List.mem_append_right _ h))
theorem inlX4 : ∀ w ∈ wsX40, w ∈ wsL_law := fun _ h => List.mem_append_left _ (List.mem_append_left _ (List.mem_append_left _ (List.mem_append_right _ h)))
theorem inlX5 : ∀ w ∈ wsX50, w ∈ wsL_law := fun _ h => List.mem_append_left _ (List.mem_append_left _ (List.mem_append_left _ (List.mem_append_left _ (List.mem_append_right _ h))))
theorem inlX6 : ∀ w ∈ wsX60, w ∈ wsL_law := fun _ h => List.mem_append_left _ (List.mem_append_left _ (List.mem_append_left _ (List.mem_append_left _ (List.mem_append_left _ (List.mem_append_left _ (List.mem_append_right _ h))))))
theorem inlX7 : ∀ w ∈ wsX70, w ∈ wsL_law := fun _ h => List.mem_append_left _ (List.mem_append_left _ (List.mem_append_left _ (List.mem_append_left _ (List.mem_append_left _ (List.mem_append_left _ (List.mem_append_left _ (List.mem_append_left _ (List.mem_append_right _ h))))))))
theorem inlX8 : ∀ w ∈ wsX80, w ∈ wsL_law := fun _ h => List.mem_append_left _ (List.mem_append_left _ (List.mem_append_left _ (List.mem_append_left _ (List.mem_append_left _ (List.mem_append_left _ (List.mem_append_left _ (List.mem_append_left _ (List.mem_append_left _ (List.mem_append_left _ (List.mem_append_right _ h))))))))))
theorem inlX9 : ∀ w ∈ wsX90, w ∈ wsL_law := fun _ h => List.mem_append_left _ (List.mem_append_left _ (List.mem_append_left _ (List.mem_append_left _ (List.mem_append_left _ (List.mem_append_left _ (List.mem_append_left _ (List.mem_append_left _ (List.mem_append_left _ (List.mem_append_right _ h)))))))))
theorem inJ6 : ∀ w ∈ wsJ60, w ∈ lw_tbl := by decide +kernel
theorem inJ9 : ∀ w ∈ wsJ90, w ∈ lw_tbl := by decide +kernel
theorem inJ7 : ∀ w ∈ wsJ70, w ∈ lw_tbl := by decide +kernel
end
