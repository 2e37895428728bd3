section
-- ===== PART A: goes FIRST, ahead of the names: the tables' words, and 'selects' of the private methods out of them =====
/-- a private method of a class that the tables say can be made, by its rows of tables_1 -/
def lw_okq (q : MethodName × Nat) : Prop := (q.1.cls ≠ "java/lang/invoke/MethodHandle" ∧ q.1.cls ≠ "java/lang/invoke/VarHandle") ∧ Cond.instantiable q.1.cls q.2 ∈ tables_1 ∧ Cond.privateMethod q.1 ∈ tables_1 ∧ Cond.instanceMethod q.1 ∈ tables_1
theorem lw_p0 : lw_okq (⟨"OneHandset$Box", "startAnew", "(II)V"⟩, 4) := ⟨⟨by decide +kernel, by decide +kernel⟩, List.mem_of_getElem? (i := 48) (by decide +kernel), List.mem_of_getElem? (i := 54) (by decide +kernel), List.mem_of_getElem? (i := 55) (by decide +kernel)⟩
theorem lw_p1 : lw_okq (⟨"OneHandset$Keys", "startWithFlip", "(I)V"⟩, 8) := ⟨⟨by decide +kernel, by decide +kernel⟩, List.mem_of_getElem? (i := 183) (by decide +kernel), List.mem_of_getElem? (i := 189) (by decide +kernel), List.mem_of_getElem? (i := 190) (by decide +kernel)⟩
theorem lw_p2 : lw_okq (⟨"OneHandset$Keys", "compareAll", "()V"⟩, 8) := ⟨⟨by decide +kernel, by decide +kernel⟩, List.mem_of_getElem? (i := 183) (by decide +kernel), List.mem_of_getElem? (i := 194) (by decide +kernel), List.mem_of_getElem? (i := 195) (by decide +kernel)⟩
theorem lw_p3 : lw_okq (⟨"OneHandset$Keys", "flipMask", "()I"⟩, 8) := ⟨⟨by decide +kernel, by decide +kernel⟩, List.mem_of_getElem? (i := 183) (by decide +kernel), List.mem_of_getElem? (i := 199) (by decide +kernel), List.mem_of_getElem? (i := 200) (by decide +kernel)⟩
theorem lw_p4 : lw_okq (⟨"OneHandset$Keys", "isCheck", "(I)Z"⟩, 8) := ⟨⟨by decide +kernel, by decide +kernel⟩, List.mem_of_getElem? (i := 183) (by decide +kernel), List.mem_of_getElem? (i := 203) (by decide +kernel), List.mem_of_getElem? (i := 204) (by decide +kernel)⟩
theorem lw_p5 : lw_okq (⟨"OneHandset$Keys", "commonConstant", "(I)I"⟩, 8) := ⟨⟨by decide +kernel, by decide +kernel⟩, List.mem_of_getElem? (i := 183) (by decide +kernel), List.mem_of_getElem? (i := 207) (by decide +kernel), List.mem_of_getElem? (i := 208) (by decide +kernel)⟩
theorem lw_p6 : lw_okq (⟨"OneHandset$Keys", "constantFor", "(II)I"⟩, 8) := ⟨⟨by decide +kernel, by decide +kernel⟩, List.mem_of_getElem? (i := 183) (by decide +kernel), List.mem_of_getElem? (i := 211) (by decide +kernel), List.mem_of_getElem? (i := 212) (by decide +kernel)⟩
theorem lw_p7 : lw_okq (⟨"OneHandset$Keys", "isContrary", "(I)Z"⟩, 8) := ⟨⟨by decide +kernel, by decide +kernel⟩, List.mem_of_getElem? (i := 183) (by decide +kernel), List.mem_of_getElem? (i := 215) (by decide +kernel), List.mem_of_getElem? (i := 216) (by decide +kernel)⟩
theorem lw_p8 : lw_okq (⟨"OneHandset", "makeAt", "(I)LOneHandset$Make;"⟩, 5) := ⟨⟨by decide +kernel, by decide +kernel⟩, List.mem_of_getElem? (i := 19) (by decide +kernel), List.mem_of_getElem? (i := 272) (by decide +kernel), List.mem_of_getElem? (i := 273) (by decide +kernel)⟩
theorem lw_p9 : lw_okq (⟨"OneHandset$HalvesForm", "isOn", "(II)Z"⟩, 2) := ⟨⟨by decide +kernel, by decide +kernel⟩, List.mem_of_getElem? (i := 131) (by decide +kernel), List.mem_of_getElem? (i := 304) (by decide +kernel), List.mem_of_getElem? (i := 305) (by decide +kernel)⟩
theorem lw_p10 : lw_okq (⟨"OneHandset$PairsForm", "tellsBit", "(I)Z"⟩, 8) := ⟨⟨by decide +kernel, by decide +kernel⟩, List.mem_of_getElem? (i := 147) (by decide +kernel), List.mem_of_getElem? (i := 316) (by decide +kernel), List.mem_of_getElem? (i := 317) (by decide +kernel)⟩
theorem lw_p11 : lw_okq (⟨"OneHandset$PairsForm", "plainTime", "(I)I"⟩, 8) := ⟨⟨by decide +kernel, by decide +kernel⟩, List.mem_of_getElem? (i := 147) (by decide +kernel), List.mem_of_getElem? (i := 321) (by decide +kernel), List.mem_of_getElem? (i := 322) (by decide +kernel)⟩
theorem lw_p12 : lw_okq (⟨"OneHandset$Keys", "hasKey", "(I)Z"⟩, 8) := ⟨⟨by decide +kernel, by decide +kernel⟩, List.mem_of_getElem? (i := 183) (by decide +kernel), List.mem_of_getElem? (i := 394) (by decide +kernel), List.mem_of_getElem? (i := 395) (by decide +kernel)⟩
theorem lw_p13 : lw_okq (⟨"OneHandset$Keys", "free", "()I"⟩, 8) := ⟨⟨by decide +kernel, by decide +kernel⟩, List.mem_of_getElem? (i := 183) (by decide +kernel), List.mem_of_getElem? (i := 444) (by decide +kernel), List.mem_of_getElem? (i := 445) (by decide +kernel)⟩
theorem lw_p14 : lw_okq (⟨"OneHandset$Keys", "foreseenAbove", "(I)I"⟩, 8) := ⟨⟨by decide +kernel, by decide +kernel⟩, List.mem_of_getElem? (i := 183) (by decide +kernel), List.mem_of_getElem? (i := 458) (by decide +kernel), List.mem_of_getElem? (i := 459) (by decide +kernel)⟩
theorem lw_p15 : lw_okq (⟨"OneHandset$Keys", "checksHoldFor", "(I)Z"⟩, 8) := ⟨⟨by decide +kernel, by decide +kernel⟩, List.mem_of_getElem? (i := 183) (by decide +kernel), List.mem_of_getElem? (i := 462) (by decide +kernel), List.mem_of_getElem? (i := 463) (by decide +kernel)⟩
def lw_privs_1 : List (MethodName × Nat) := [(⟨"OneHandset$Box", "startAnew", "(II)V"⟩, 4), (⟨"OneHandset$Keys", "startWithFlip", "(I)V"⟩, 8), (⟨"OneHandset$Keys", "compareAll", "()V"⟩, 8), (⟨"OneHandset$Keys", "flipMask", "()I"⟩, 8), (⟨"OneHandset$Keys", "isCheck", "(I)Z"⟩, 8), (⟨"OneHandset$Keys", "commonConstant", "(I)I"⟩, 8), (⟨"OneHandset$Keys", "constantFor", "(II)I"⟩, 8), (⟨"OneHandset$Keys", "isContrary", "(I)Z"⟩, 8), (⟨"OneHandset", "makeAt", "(I)LOneHandset$Make;"⟩, 5), (⟨"OneHandset$HalvesForm", "isOn", "(II)Z"⟩, 2), (⟨"OneHandset$PairsForm", "tellsBit", "(I)Z"⟩, 8), (⟨"OneHandset$PairsForm", "plainTime", "(I)I"⟩, 8), (⟨"OneHandset$Keys", "hasKey", "(I)Z"⟩, 8), (⟨"OneHandset$Keys", "free", "()I"⟩, 8), (⟨"OneHandset$Keys", "foreseenAbove", "(I)I"⟩, 8), (⟨"OneHandset$Keys", "checksHoldFor", "(I)Z"⟩, 8)]
theorem lw_r1 : ∀ q ∈ lw_privs_1, lw_okq q := List.forall_mem_cons.mpr ⟨lw_p0, List.forall_mem_cons.mpr ⟨lw_p1, List.forall_mem_cons.mpr ⟨lw_p2, List.forall_mem_cons.mpr ⟨lw_p3, List.forall_mem_cons.mpr ⟨lw_p4, List.forall_mem_cons.mpr ⟨lw_p5, List.forall_mem_cons.mpr ⟨lw_p6, List.forall_mem_cons.mpr ⟨lw_p7, List.forall_mem_cons.mpr ⟨lw_p8, List.forall_mem_cons.mpr ⟨lw_p9, List.forall_mem_cons.mpr ⟨lw_p10, List.forall_mem_cons.mpr ⟨lw_p11, List.forall_mem_cons.mpr ⟨lw_p12, List.forall_mem_cons.mpr ⟨lw_p13, List.forall_mem_cons.mpr ⟨lw_p14, List.forall_mem_cons.mpr ⟨lw_p15, fun _ h => absurd h List.not_mem_nil⟩⟩⟩⟩⟩⟩⟩⟩⟩⟩⟩⟩⟩⟩⟩⟩
theorem lw_p16 : lw_okq (⟨"OneHandset$Keys", "foresees", "(I)Z"⟩, 8) := ⟨⟨by decide +kernel, by decide +kernel⟩, List.mem_of_getElem? (i := 183) (by decide +kernel), List.mem_of_getElem? (i := 482) (by decide +kernel), List.mem_of_getElem? (i := 483) (by decide +kernel)⟩
theorem lw_p17 : lw_okq (⟨"OneHandset", "boxAt", "(I)LOneHandset$Box;"⟩, 5) := ⟨⟨by decide +kernel, by decide +kernel⟩, List.mem_of_getElem? (i := 19) (by decide +kernel), List.mem_of_getElem? (i := 490) (by decide +kernel), List.mem_of_getElem? (i := 491) (by decide +kernel)⟩
theorem lw_p18 : lw_okq (⟨"OneHandset$Route", "keepRow", "(II)I"⟩, 5) := ⟨⟨by decide +kernel, by decide +kernel⟩, List.mem_of_getElem? (i := 82) (by decide +kernel), List.mem_of_getElem? (i := 539) (by decide +kernel), List.mem_of_getElem? (i := 540) (by decide +kernel)⟩
theorem lw_p19 : lw_okq (⟨"java/lang/Throwable", "fillInStackTrace", "(I)Ljava/lang/Throwable;"⟩, 6) := ⟨⟨by decide +kernel, by decide +kernel⟩, List.mem_of_getElem? (i := 605) (by decide +kernel), List.mem_of_getElem? (i := 603) (by decide +kernel), List.mem_of_getElem? (i := 604) (by decide +kernel)⟩
theorem lw_p20 : lw_okq (⟨"OneHandsetModel", "isMake", "(I)Z"⟩, 17) := ⟨⟨by decide +kernel, by decide +kernel⟩, List.mem_of_getElem? (i := 631) (by decide +kernel), List.mem_of_getElem? (i := 700) (by decide +kernel), List.mem_of_getElem? (i := 701) (by decide +kernel)⟩
theorem lw_p21 : lw_okq (⟨"OneHandsetModel", "get", "(II)I"⟩, 17) := ⟨⟨by decide +kernel, by decide +kernel⟩, List.mem_of_getElem? (i := 631) (by decide +kernel), List.mem_of_getElem? (i := 704) (by decide +kernel), List.mem_of_getElem? (i := 705) (by decide +kernel)⟩
theorem lw_p22 : lw_okq (⟨"OneHandsetModel", "flash", "(II)V"⟩, 17) := ⟨⟨by decide +kernel, by decide +kernel⟩, List.mem_of_getElem? (i := 631) (by decide +kernel), List.mem_of_getElem? (i := 720) (by decide +kernel), List.mem_of_getElem? (i := 721) (by decide +kernel)⟩
theorem lw_p23 : lw_okq (⟨"OneHandsetModel", "layHalves", "(III)V"⟩, 17) := ⟨⟨by decide +kernel, by decide +kernel⟩, List.mem_of_getElem? (i := 631) (by decide +kernel), List.mem_of_getElem? (i := 724) (by decide +kernel), List.mem_of_getElem? (i := 725) (by decide +kernel)⟩
theorem lw_p24 : lw_okq (⟨"OneHandsetModel", "lay", "(I)V"⟩, 17) := ⟨⟨by decide +kernel, by decide +kernel⟩, List.mem_of_getElem? (i := 631) (by decide +kernel), List.mem_of_getElem? (i := 731) (by decide +kernel), List.mem_of_getElem? (i := 732) (by decide +kernel)⟩
theorem lw_p25 : lw_okq (⟨"OneHandsetModel", "readBy", "(I)I"⟩, 17) := ⟨⟨by decide +kernel, by decide +kernel⟩, List.mem_of_getElem? (i := 631) (by decide +kernel), List.mem_of_getElem? (i := 743) (by decide +kernel), List.mem_of_getElem? (i := 744) (by decide +kernel)⟩
theorem lw_p26 : lw_okq (⟨"OneHandsetModel", "readHalves", "(I)I"⟩, 17) := ⟨⟨by decide +kernel, by decide +kernel⟩, List.mem_of_getElem? (i := 631) (by decide +kernel), List.mem_of_getElem? (i := 747) (by decide +kernel), List.mem_of_getElem? (i := 748) (by decide +kernel)⟩
theorem lw_p27 : lw_okq (⟨"OneHandsetModel", "which", "(IIII)I"⟩, 17) := ⟨⟨by decide +kernel, by decide +kernel⟩, List.mem_of_getElem? (i := 631) (by decide +kernel), List.mem_of_getElem? (i := 751) (by decide +kernel), List.mem_of_getElem? (i := 752) (by decide +kernel)⟩
theorem lw_p28 : lw_okq (⟨"OneHandsetModel", "fits", "(III)Z"⟩, 17) := ⟨⟨by decide +kernel, by decide +kernel⟩, List.mem_of_getElem? (i := 631) (by decide +kernel), List.mem_of_getElem? (i := 755) (by decide +kernel), List.mem_of_getElem? (i := 756) (by decide +kernel)⟩
theorem lw_p29 : lw_okq (⟨"OneHandsetModel", "fault", "(I)I"⟩, 17) := ⟨⟨by decide +kernel, by decide +kernel⟩, List.mem_of_getElem? (i := 631) (by decide +kernel), List.mem_of_getElem? (i := 763) (by decide +kernel), List.mem_of_getElem? (i := 764) (by decide +kernel)⟩
theorem lw_p30 : lw_okq (⟨"OneHandsetModel", "readBits", "(I)I"⟩, 17) := ⟨⟨by decide +kernel, by decide +kernel⟩, List.mem_of_getElem? (i := 631) (by decide +kernel), List.mem_of_getElem? (i := 767) (by decide +kernel), List.mem_of_getElem? (i := 768) (by decide +kernel)⟩
theorem lw_p31 : lw_okq (⟨"OneHandsetModel", "isKey", "(II)Z"⟩, 17) := ⟨⟨by decide +kernel, by decide +kernel⟩, List.mem_of_getElem? (i := 631) (by decide +kernel), List.mem_of_getElem? (i := 783) (by decide +kernel), List.mem_of_getElem? (i := 784) (by decide +kernel)⟩
def lw_privs_2 : List (MethodName × Nat) := [(⟨"OneHandset$Keys", "foresees", "(I)Z"⟩, 8), (⟨"OneHandset", "boxAt", "(I)LOneHandset$Box;"⟩, 5), (⟨"OneHandset$Route", "keepRow", "(II)I"⟩, 5), (⟨"java/lang/Throwable", "fillInStackTrace", "(I)Ljava/lang/Throwable;"⟩, 6), (⟨"OneHandsetModel", "isMake", "(I)Z"⟩, 17), (⟨"OneHandsetModel", "get", "(II)I"⟩, 17), (⟨"OneHandsetModel", "flash", "(II)V"⟩, 17), (⟨"OneHandsetModel", "layHalves", "(III)V"⟩, 17), (⟨"OneHandsetModel", "lay", "(I)V"⟩, 17), (⟨"OneHandsetModel", "readBy", "(I)I"⟩, 17), (⟨"OneHandsetModel", "readHalves", "(I)I"⟩, 17), (⟨"OneHandsetModel", "which", "(IIII)I"⟩, 17), (⟨"OneHandsetModel", "fits", "(III)Z"⟩, 17), (⟨"OneHandsetModel", "fault", "(I)I"⟩, 17), (⟨"OneHandsetModel", "readBits", "(I)I"⟩, 17), (⟨"OneHandsetModel", "isKey", "(II)Z"⟩, 17)]
theorem lw_r2 : ∀ q ∈ lw_privs_2, lw_okq q := List.forall_mem_cons.mpr ⟨lw_p16, List.forall_mem_cons.mpr ⟨lw_p17, List.forall_mem_cons.mpr ⟨lw_p18, List.forall_mem_cons.mpr ⟨lw_p19, List.forall_mem_cons.mpr ⟨lw_p20, List.forall_mem_cons.mpr ⟨lw_p21, List.forall_mem_cons.mpr ⟨lw_p22, List.forall_mem_cons.mpr ⟨lw_p23, List.forall_mem_cons.mpr ⟨lw_p24, List.forall_mem_cons.mpr ⟨lw_p25, List.forall_mem_cons.mpr ⟨lw_p26, List.forall_mem_cons.mpr ⟨lw_p27, List.forall_mem_cons.mpr ⟨lw_p28, List.forall_mem_cons.mpr ⟨lw_p29, List.forall_mem_cons.mpr ⟨lw_p30, List.forall_mem_cons.mpr ⟨lw_p31, fun _ h => absurd h List.not_mem_nil⟩⟩⟩⟩⟩⟩⟩⟩⟩⟩⟩⟩⟩⟩⟩⟩
theorem lw_p32 : lw_okq (⟨"OneHandsetModel", "flipOf", "(I)I"⟩, 17) := ⟨⟨by decide +kernel, by decide +kernel⟩, List.mem_of_getElem? (i := 631) (by decide +kernel), List.mem_of_getElem? (i := 787) (by decide +kernel), List.mem_of_getElem? (i := 788) (by decide +kernel)⟩
theorem lw_p33 : lw_okq (⟨"OneHandsetModel", "learnt", "(I)I"⟩, 17) := ⟨⟨by decide +kernel, by decide +kernel⟩, List.mem_of_getElem? (i := 631) (by decide +kernel), List.mem_of_getElem? (i := 807) (by decide +kernel), List.mem_of_getElem? (i := 808) (by decide +kernel)⟩
theorem lw_p34 : lw_okq (⟨"OneHandsetModel", "fixed", "(I)I"⟩, 17) := ⟨⟨by decide +kernel, by decide +kernel⟩, List.mem_of_getElem? (i := 631) (by decide +kernel), List.mem_of_getElem? (i := 811) (by decide +kernel), List.mem_of_getElem? (i := 812) (by decide +kernel)⟩
theorem lw_p35 : lw_okq (⟨"OneHandsetModel", "some", "(I)I"⟩, 17) := ⟨⟨by decide +kernel, by decide +kernel⟩, List.mem_of_getElem? (i := 631) (by decide +kernel), List.mem_of_getElem? (i := 815) (by decide +kernel), List.mem_of_getElem? (i := 816) (by decide +kernel)⟩
theorem lw_p36 : lw_okq (⟨"OneHandsetModel", "checkOf", "(II)I"⟩, 17) := ⟨⟨by decide +kernel, by decide +kernel⟩, List.mem_of_getElem? (i := 631) (by decide +kernel), List.mem_of_getElem? (i := 823) (by decide +kernel), List.mem_of_getElem? (i := 824) (by decide +kernel)⟩
theorem lw_p37 : lw_okq (⟨"OneHandsetModel", "numberOf", "(III)I"⟩, 17) := ⟨⟨by decide +kernel, by decide +kernel⟩, List.mem_of_getElem? (i := 631) (by decide +kernel), List.mem_of_getElem? (i := 827) (by decide +kernel), List.mem_of_getElem? (i := 828) (by decide +kernel)⟩
theorem lw_p38 : lw_okq (⟨"OneHandsetModel", "canForesee", "(I)Z"⟩, 17) := ⟨⟨by decide +kernel, by decide +kernel⟩, List.mem_of_getElem? (i := 631) (by decide +kernel), List.mem_of_getElem? (i := 838) (by decide +kernel), List.mem_of_getElem? (i := 839) (by decide +kernel)⟩
theorem lw_p39 : lw_okq (⟨"OneHandsetModel", "go", "(II)I"⟩, 17) := ⟨⟨by decide +kernel, by decide +kernel⟩, List.mem_of_getElem? (i := 631) (by decide +kernel), List.mem_of_getElem? (i := 844) (by decide +kernel), List.mem_of_getElem? (i := 845) (by decide +kernel)⟩
theorem lw_p40 : lw_okq (⟨"OneHandsetModel", "isForeseen", "(II)Z"⟩, 17) := ⟨⟨by decide +kernel, by decide +kernel⟩, List.mem_of_getElem? (i := 631) (by decide +kernel), List.mem_of_getElem? (i := 848) (by decide +kernel), List.mem_of_getElem? (i := 849) (by decide +kernel)⟩
theorem lw_p41 : lw_okq (⟨"OneHandsetModel", "isSet", "(II)Z"⟩, 17) := ⟨⟨by decide +kernel, by decide +kernel⟩, List.mem_of_getElem? (i := 631) (by decide +kernel), List.mem_of_getElem? (i := 876) (by decide +kernel), List.mem_of_getElem? (i := 877) (by decide +kernel)⟩
theorem lw_p42 : lw_okq (⟨"OneHandsetModel", "behind", "(III)I"⟩, 17) := ⟨⟨by decide +kernel, by decide +kernel⟩, List.mem_of_getElem? (i := 631) (by decide +kernel), List.mem_of_getElem? (i := 884) (by decide +kernel), List.mem_of_getElem? (i := 885) (by decide +kernel)⟩
theorem lw_p43 : lw_okq (⟨"OneHandsetModel", "tell", "(II)I"⟩, 17) := ⟨⟨by decide +kernel, by decide +kernel⟩, List.mem_of_getElem? (i := 631) (by decide +kernel), List.mem_of_getElem? (i := 892) (by decide +kernel), List.mem_of_getElem? (i := 893) (by decide +kernel)⟩
def lw_privs_3 : List (MethodName × Nat) := [(⟨"OneHandsetModel", "flipOf", "(I)I"⟩, 17), (⟨"OneHandsetModel", "learnt", "(I)I"⟩, 17), (⟨"OneHandsetModel", "fixed", "(I)I"⟩, 17), (⟨"OneHandsetModel", "some", "(I)I"⟩, 17), (⟨"OneHandsetModel", "checkOf", "(II)I"⟩, 17), (⟨"OneHandsetModel", "numberOf", "(III)I"⟩, 17), (⟨"OneHandsetModel", "canForesee", "(I)Z"⟩, 17), (⟨"OneHandsetModel", "go", "(II)I"⟩, 17), (⟨"OneHandsetModel", "isForeseen", "(II)Z"⟩, 17), (⟨"OneHandsetModel", "isSet", "(II)Z"⟩, 17), (⟨"OneHandsetModel", "behind", "(III)I"⟩, 17), (⟨"OneHandsetModel", "tell", "(II)I"⟩, 17)]
theorem lw_r3 : ∀ q ∈ lw_privs_3, lw_okq q := List.forall_mem_cons.mpr ⟨lw_p32, List.forall_mem_cons.mpr ⟨lw_p33, List.forall_mem_cons.mpr ⟨lw_p34, List.forall_mem_cons.mpr ⟨lw_p35, List.forall_mem_cons.mpr ⟨lw_p36, List.forall_mem_cons.mpr ⟨lw_p37, List.forall_mem_cons.mpr ⟨lw_p38, List.forall_mem_cons.mpr ⟨lw_p39, List.forall_mem_cons.mpr ⟨lw_p40, List.forall_mem_cons.mpr ⟨lw_p41, List.forall_mem_cons.mpr ⟨lw_p42, List.forall_mem_cons.mpr ⟨lw_p43, fun _ h => absurd h List.not_mem_nil⟩⟩⟩⟩⟩⟩⟩⟩⟩⟩⟩⟩
def lw_privs : List (MethodName × Nat) := lw_privs_1 ++ (lw_privs_2 ++ (lw_privs_3))
def lw_tbl : List Cond := k2_sels lw_privs ++ tables_1
theorem lw_privs_ok : ∀ q ∈ lw_privs, lw_okq q := by
  show ∀ q ∈ lw_privs_1 ++ (lw_privs_2 ++ (lw_privs_3)), lw_okq q
  exact List.forall_mem_append.mpr ⟨lw_r1, List.forall_mem_append.mpr ⟨lw_r2, lw_r3⟩⟩
-- ===== end of PART A; then your names; then what follows =====
end
section
/-! ===== BEGIN words of one list among another's, by their places ===== -/
theorem goodIn_r {big : List Cond} (ws : List Cond) (ps : List Nat) (hp : ws = ps.filterMap (fun i => big[i]?)) (h : ws.all goodWord = true) : GoodIn big ws := by
  intro w hw
  have h1 := List.all_eq_true.mp h w hw
  rw [hp] at hw
  obtain ⟨i, -, hi⟩ := List.mem_filterMap.mp hw
  have hm : w ∈ big := by first | exact List.mem_of_getElem? hi | exact List.getElem?_mem hi
  exact ⟨hm, good_of_word h1⟩
theorem goodIn_app {big a b : List Cond} (ha : GoodIn big a) (hb : GoodIn big b) : GoodIn big (a ++ b) := fun w h => (List.mem_append.mp h).elim (ha w) (hb w)
theorem goodIn_ca {big a b : List Cond} {c : Cond} (ha : GoodIn big (c :: a)) (hb : GoodIn big b) : GoodIn big (c :: (a ++ b)) := fun w h => (List.mem_cons.mp h).elim (fun e => ha w (List.mem_cons.mpr (Or.inl e))) (fun h => (List.mem_append.mp h).elim (fun h => ha w (List.mem_cons.mpr (Or.inr h))) (hb w))
theorem goodIn_sub {big ws : List Cond} (hm : ∀ w ∈ ws, w ∈ big) (h : ws.all goodWord = true) : GoodIn big ws := fun w hw => ⟨hm w hw, good_of_word (List.all_eq_true.mp h w hw)⟩
/-! ===== END ===== -/

/-! ===== BEGIN exceptions that leave a method, and their catching by the caller (launches without stack traces) ===== -/
section VXA
/-! The laws vx_back, vx_callV, vx_callS, vx_callSW, vx_throw0, vx_throwS follow proofs of the library, with one case more: JvmDerived/Free/Laws.lean (Back.of_free), Shelf42/LK1.lean (callV, callS), Shelf/KitTraced.lean (throwNew0V, throwNewS). -/
/-- where a method has thrown q: the class by its name, the cell, what was written, the world -/
def vx_T (XC : String → State → State → Prop) (st : State) (q : Addr) (t : State) (mc ms : Nat) (free : Addr → Prop) : Prop :=
  ∃ (E : String) (ce : Cell) (L : List Loc), XC E st t ∧ t.heap[q]? = some ce ∧ ce.vm = .none ∧ st.vm.findClass E = some ce.cls ∧ st.WarmedH t.vm ∧ st.sameButNew ({ t with vm := st.vm } : State) L mc ms ∧ ∀ z ∈ L, free z.base
def vx_Q (Qc : Array Value → State → Outcome → State → Prop) (XC : String → State → State → Prop) (mc ms : Nat) (free : Addr → Prop) : Array Value → State → Outcome → State → Prop := fun a st o t =>
  (Qc a st o t ∧ ∃ L, FrameEnd st o t L mc ms ∧ ∀ q ∈ L, free q.base) ∨ ∃ q, o = .threw q ∧ vx_T XC st q t mc ms free
/-- a callee that returns or throws -/
def vx_Met (l : Launch) (y : MethodName) (ws : List Cond) (rm : Room) (Pc : Array Value → State → Prop) (Qc : Array Value → State → Outcome → State → Prop) (XC : String → State → State → Prop) (mc ms : Nat) (free : Addr → Prop) : Prop :=
  MetFree l y (headSpec ws rm) Pc (fun _ _ _ _ _ => True) (vx_Q Qc XC mc ms free)
def vx_Post (XC : String → State → State → Prop) (mc ms : Nat) (free : Addr → Prop) : Pt → Array Value → Addr → Pt → Prop := fun A a q B =>
  ∃ (g : JFrame) (mk : MethodId) (t : State) (L : List Loc) (E : String) (ce : Cell), B.U.heap = t.heap ∧ B.U.vm = t.vm ∧ XC E (A.U.calling g mk a) t ∧ t.heap[q]? = some ce ∧ ce.vm = .none ∧ A.U.vm.findClass E = some ce.cls ∧ B.locs = A.locs ++ L ∧ (∀ z ∈ L, free z.base) ∧ B.cells = A.cells + mc ∧ B.slots = A.slots + ms
def vx_Back (l : Launch) (R : Room) (p : Program) (e : Env) (below : List Frame) (s : State) (sargs : Array Value) (y : MethodName) (len W9 : Nat)
    (Pre : Pt → Array Value → Prop) (Post : Pt → Array Value → Option Value → Pt → Prop) (PostX : Pt → Array Value → Addr → Pt → Prop) : Prop :=
  ∀ (m : MethodId) (meth : Method) (c : Code) (A : Pt) (g : JFrame) (ig : Instr) (mk : MethodId) (a : Array Value),
    Stand p l e R s m sargs below meth c A.U A.locs A.cells A.slots → g.method = m → g.locals.size = c.maxLocals → decode c.code g.pc = .ok (ig, len) →
    2 * g.monitorRoom + (g.stack.map fun v => v.category).sum ≤ W9 → A.U.methodNamed? y = some mk → Pre A a →
    (∃ (v : Option Value) (B : Pt), Stand p l e R s m sargs below meth c B.U B.locs B.cells B.slots ∧ Post A a v B ∧
      Steps p.tables e below (doInvoke e (A.U.setTop g) [] mk a).1 (B.U.setTop { g with pc := g.pc + len, stack := v.toList ++ g.stack })) ∨
    (∃ (q : Addr) (B : Pt), Stand p l e R s m sargs below meth c B.U B.locs B.cells B.slots ∧ PostX A a q B ∧
      Steps p.tables e below (doInvoke e (A.U.setTop g) [] mk a).1 ((B.U.setTop g).pushFrame (.throwing q)))
section Payer
variable {l : Launch} {R : Room} {p : Program} {e : Env} {below : List Frame} {s : State} {sargs : Array Value} {y : MethodName} {len W9 : Nat}
theorem vx_back {ws : List Cond} {rm : Room} {Pc : Array Value → State → Prop} {Qc : Array Value → State → Outcome → State → Prop} {XC : String → State → State → Prop} {mc ms : Nat} {free : Addr → Prop} {bytes : ByteArray} {maxL : Nat} {ret : Option FieldType}
    (hM : vx_Met l y ws rm Pc Qc XC mc ms free) (hblind : FrameBlind Pc) (hrc : rm.cells = mc) (hrs : rm.slots = ms)
    (hframes : rm.frames + 1 ≤ R.frames) (hlocals : W9 + (maxL + 11) + rm.locals ≤ R.locals)
    (hws : ∀ w ∈ ws, ∀ a' U, s.WarmedH U.vm → w.before a' U = true) (hcode : Cond.code y bytes maxL ret ∈ ws) (hinit : ∀ a' U, s.WarmedH U.vm → (Cond.initialized y.cls).before a' U = true) :
    vx_Back l R p e below s sargs y len W9 (PreOf R mc ms Pc) (PostOf Qc mc ms free) (vx_Post XC mc ms free) := by
  intro m meth c A g ig mk a X hg hsize hdg hW hn hp
  have h1 : (headSpec ws rm).pre.before a A.U = true := atoms_intro fun w hw => hws w hw _ _ X.warmed
  have h2 : (Cond.code y bytes maxL ret).before a A.U = true := hws _ hcode _ _ X.warmed
  have h3 : (Cond.initialized y.cls).before a A.U = true := hinit _ _ X.warmed
  have h4 : A.cells + (headSpec ws rm).room.cells ≤ R.cells := by rw [show (headSpec ws rm).room.cells = mc from hrc]; exact hp.1
  have h5 : A.slots + (headSpec ws rm).room.slots ≤ R.slots := by rw [show (headSpec ws rm).room.slots = ms from hrs]; exact hp.2.1
  have hPc : Pc a (A.U.calling g mk a) := hblind _ _ _ _ hp.2.2
  obtain ⟨U, Ls, c0, s0⟩ := A
  dsimp only [Pt.U, Pt.locs, Pt.cells, Pt.slots] at h1 h2 h3 h4 h5 X hn hPc ⊢
  obtain ⟨methY, cY, hmY, hcY, -, hlY, -, -, -, -⟩ := Cond.code_spec hn h2
  obtain ⟨kY, hkY, -⟩ := className_of_methodNamed hn
  have hinitY : kY.init = .initialized := Cond.initialized_spec (findClass_of_methodNamed hn) hkY h3
  have h : At U g.method c below := by rw [hg]; exact X.here
  have hlocals9 : W9 + (maxL + 11) + (headSpec ws rm).room.locals ≤ R.locals := hlocals
  have happ : (headSpec ws rm).appliesLoose y e.platform (U.calling g mk a) = true :=
    Spec.appliesLoose_calling (g := g) h hdg hn hkY hinitY
      (X.room_calling (g := g) (R' := (headSpec ws rm).room) hsize hmY hcY hframes (by rw [hlY]; omega) h4 h5) h1
  obtain ⟨mid, hmid⟩ := h.above
  have hfr : (U.setTop g).frames = (.java g :: mid) ++ below := by rw [State.frames_setTop' g h.top, hmid]; rfl
  obtain ⟨o, s₂, hsteps, -, hend, hq⟩ := Steps.callFree hM p X.admits X.cas X.clock (acts := []) hfr happ hPc trivial
  have hq' : vx_Q Qc XC mc ms free a (U.calling g mk a) o s₂ := hq
  rw [State.frames_setTop' g h.top] at hend
  obtain ⟨g₀, hg0⟩ := Option.isSome_iff_exists.mp h.top
  obtain ⟨r, hr⟩ := State.topJava?_eq_some.mp hg0
  have hr' : (({ U with heap := s₂.heap, slotsUsed := s₂.slotsUsed } : State).setVm s₂.vm).frames = .java g₀ :: r := hr
  rcases hq' with ⟨hqc, L, hfe, hL⟩ | ⟨q, rfl, E, ce, L, hx, hce, hcv, hcl, hW₂, hsm, hL⟩
  · obtain ⟨⟨v, rfl⟩, hW₂, e2, q2, q3, q4, q5, q6⟩ := id hfe
    have e3 : s₂ = ({ (U.calling g mk a).setFrames s₂.frames with heap := s₂.heap, slotsUsed := s₂.slotsUsed } : State).setVm s₂.vm := by
      have : s₂ = ({ s₂ with vm := (U.calling g mk a).vm } : State).setVm s₂.vm := rfl
      rw [e2] at this
      exact this
    obtain ⟨c₂, i₂, len₂, hc₂, hd₂, hf₂⟩ := hend
    have hW' : U.WarmedH s₂.vm := hW₂
    have hcc : c₂ = c := by
      have h1 : s₂.code? g.method = U.code? g.method := by
        rw [State.code?_eq, State.code?_eq, hW'.alike.method?]
      exact Option.some.inj (hc₂.symm.trans (h1.trans h.code))
    subst hcc
    have hlen : len₂ = len := by rw [hdg] at hd₂; cases hd₂; rfl
    subst hlen
    have hs₂ : s₂ = (({ U with heap := s₂.heap, slotsUsed := s₂.slotsUsed } : State).setVm s₂.vm).setTop { g with pc := g.pc + len₂, stack := v.toList ++ g.stack } := by
      refine e3.trans ?_
      rw [hf₂, State.calling_eq h.top, State.setFrames_setFrames, State.setTop_of_frames _ hr', hr]
      rfl
    have hsame : U.sameButNew ({ U with heap := s₂.heap, slotsUsed := s₂.slotsUsed } : State) L mc ms := by
      refine ⟨?_, q2, q3, q4, q5, q6⟩
      obtain ⟨t, ht, -⟩ := State.frames_cons hr
      show ({ U with heap := s₂.heap, slotsUsed := s₂.slotsUsed } : State) = { U.setFrames U.frames with heap := s₂.heap, slotsUsed := s₂.slotsUsed }
      rw [State.setFrames_self ht]
    subst hg
    refine Or.inl ⟨v, ⟨(({ U with heap := s₂.heap, slotsUsed := s₂.slotsUsed } : State).setVm s₂.vm), Ls ++ L, c0 + mc, s0 + ms⟩,
      ⟨X.admits, X.cas, X.clock, X.frames, X.room, X.hears, X.method, X.code, (X.here.setHeapUsed s₂.heap s₂.slotsUsed).setVm hW'.alike, X.tail, State.WarmedH.trans X.warmed hW', X.limits, X.bytes, X.same.trans (hsame.setVm s.vm)⟩,
      ⟨g, mk, s₂, L, rfl, rfl, hqc, rfl, hL, rfl, rfl⟩, ?_⟩
    show Steps p.tables e below _ ((({ U with heap := s₂.heap, slotsUsed := s₂.slotsUsed } : State).setVm s₂.vm).setTop { g with pc := g.pc + len₂, stack := v.toList ++ g.stack })
    rw [← hs₂]
    exact hsteps
  · obtain ⟨e2, q2, q3, q4, q5, q6⟩ := id hsm
    have e3 : s₂ = ({ (U.calling g mk a).setFrames s₂.frames with heap := s₂.heap, slotsUsed := s₂.slotsUsed } : State).setVm s₂.vm := by
      have : s₂ = ({ s₂ with vm := (U.calling g mk a).vm } : State).setVm s₂.vm := rfl
      rw [e2] at this
      exact this
    have hf₂ : s₂.frames = .throwing q :: .java g :: U.frames.tail := hend
    have hW' : U.WarmedH s₂.vm := hW₂
    have hs₂ : s₂ = ((({ U with heap := s₂.heap, slotsUsed := s₂.slotsUsed } : State).setVm s₂.vm).setTop g).pushFrame (.throwing q) := by
      refine e3.trans ?_
      rw [hf₂, State.calling_eq h.top, State.setFrames_setFrames, State.pushFrame, State.frames_setTop _ hr', State.setTop_of_frames _ hr', State.setFrames_setFrames, hr]
      rfl
    have hsame : U.sameButNew ({ U with heap := s₂.heap, slotsUsed := s₂.slotsUsed } : State) L mc ms := by
      refine ⟨?_, q2, q3, q4, q5, q6⟩
      obtain ⟨t, ht, -⟩ := State.frames_cons hr
      show ({ U with heap := s₂.heap, slotsUsed := s₂.slotsUsed } : State) = { U.setFrames U.frames with heap := s₂.heap, slotsUsed := s₂.slotsUsed }
      rw [State.setFrames_self ht]
    subst hg
    refine Or.inr ⟨q, ⟨(({ U with heap := s₂.heap, slotsUsed := s₂.slotsUsed } : State).setVm s₂.vm), Ls ++ L, c0 + mc, s0 + ms⟩,
      ⟨X.admits, X.cas, X.clock, X.frames, X.room, X.hears, X.method, X.code, (X.here.setHeapUsed s₂.heap s₂.slotsUsed).setVm hW'.alike, X.tail, State.WarmedH.trans X.warmed hW', X.limits, X.bytes, X.same.trans (hsame.setVm s.vm)⟩,
      ⟨g, mk, s₂, L, E, ce, rfl, rfl, hx, hce, hcv, hcl, rfl, hL, rfl, rfl⟩, ?_⟩
    show Steps p.tables e below _ (((({ U with heap := s₂.heap, slotsUsed := s₂.slotsUsed } : State).setVm s₂.vm).setTop g).pushFrame (.throwing q))
    rw [← hs₂]
    exact hsteps
end Payer
section Calls
variable {p : Program} {l : Launch} {e : Env} {R : Room} {s : State} {m : MethodId} {args : Array Value} {below : List Frame} {meth : Method} {c : Code} {T : State} {locs : List Loc} {cells slots : Nat}
theorem vx_callV (X : Stand p l e R s m args below meth c T locs cells slots) (hexec : p.tables.exec = Jvm.exec) {own C : String} {index : Nat} {y : MethodName} {bytes : ByteArray} {maxL : Nat} {ret : Option FieldType}
    (hown : s.vm.findClass own = some m.cls) (hlink : (Cond.methodLink own index y).before args s = true) (hinst : (Cond.instanceMethod y).before args s = true) (hsel : (Cond.selects C y y).before args s = true)
    (hcode : (Cond.code y bytes maxL ret).before args s = true) (hy : y.cls ≠ "java/lang/invoke/MethodHandle" ∧ y.cls ≠ "java/lang/invoke/VarHandle")
    {W9 : Nat} {Pre : Pt → Array Value → Prop} {Post : Pt → Array Value → Option Value → Pt → Prop} {PostX : Pt → Array Value → Addr → Pt → Prop} (hK : vx_Back l R p e below s args y 3 W9 Pre Post PostX)
    {b : Addr} {cellB : Cell} (hcell : T.heap[b]? = some cellB) (hobj : cellB.vm.isStatics = false) (hcls : s.vm.findClass C = some cellB.cls)
    {g : JFrame} (hg : g.method = m) (hsize : g.locals.size = c.maxLocals) {argsL rest : List Value} (hlen : ∀ sig, parseMethodDescriptor y.desc = some sig → argsL.length = sig.parameters.length)
    (hstack : g.stack = argsL.reverse ++ .ref b :: rest) (hW : 2 * g.monitorRoom + (rest.map fun v => v.category).sum ≤ W9) (hdg : decode c.code g.pc = .ok (.invokevirtual index, 3))
    (hpre : ∀ vm₁, s.WarmedH vm₁ → Pre ⟨T.setVm vm₁, locs, cells, slots⟩ (Value.ref b :: argsL).toArray) :
    (∃ (v : Option Value) (vm₁ : Vm) (B : Pt), s.WarmedH vm₁ ∧ Stand p l e R s m args below meth c B.U B.locs B.cells B.slots ∧ Post ⟨T.setVm vm₁, locs, cells, slots⟩ (Value.ref b :: argsL).toArray v B ∧
      ∀ target, Steps p.tables e below (B.U.setTop { g with pc := g.pc + 3, stack := v.toList ++ rest }) target → Steps p.tables e below (T.setTop g) target) ∨
    (∃ (q : Addr) (vm₁ : Vm) (B : Pt), s.WarmedH vm₁ ∧ Stand p l e R s m args below meth c B.U B.locs B.cells B.slots ∧ PostX ⟨T.setVm vm₁, locs, cells, slots⟩ (Value.ref b :: argsL).toArray q B ∧
      Steps p.tables e below (T.setTop g) ((B.U.setTop { g with stack := rest }).pushFrame (.throwing q))) := by
  obtain ⟨mk, methM, hnamed, hmethM, hstM, habM⟩ := Cond.instanceMethod_spec hinst
  obtain ⟨methM', cM, hmethM', -, -, -, -, -, -, hsigM⟩ := Cond.code_spec hnamed hcode
  cases hmethM.symm.trans hmethM'
  obtain ⟨c2, r2, m2, q1, q2, q3, q4, kP, hkP, hkPi⟩ := Cond.selects_spec hsel
  cases hcls.symm.trans q1
  cases (State.methodFound?_of_named hnamed hy).symm.trans q2
  cases hnamed.symm.trans q3
  have hselP : selectMethod e.platform s.vm cellB.cls mk = .method mk := by rw [Launch.admits_selectMethod X.admits]; exact q4
  obtain ⟨vm₁, X₁, hstep₁⟩ := X.invokevirtual hexec hown hlink hnamed hmethM hstM hkP hkPi hy (a := b) (cell := cellB) hcell
    (fun z h => by rw [h] at hobj; cases hobj) hselP hmethM habM hkP hkPi (g := g) hg (argsL := argsL) (rest := rest) (hlen _ hsigM) hstack hdg
  rcases hK m meth c ⟨T.setVm vm₁, locs, cells, slots⟩ { g with stack := rest } (.invokevirtual index) mk (Value.ref b :: argsL).toArray X₁ hg hsize hdg hW (X₁.named hnamed) (hpre vm₁ X₁.warmed) with ⟨v, B, X', hpost, hsteps⟩ | ⟨q, B, X', hpost, hsteps⟩
  · exact Or.inl ⟨v, vm₁, B, X₁.warmed, X', hpost, fun target h => hstep₁ _ fun acts => by rw [doInvoke_state]; exact hsteps.trans h⟩
  · exact Or.inr ⟨q, vm₁, B, X₁.warmed, X', hpost, hstep₁ _ fun acts => by rw [doInvoke_state]; exact hsteps⟩
theorem vx_callS (X : Stand p l e R s m args below meth c T locs cells slots) (hexec : p.tables.exec = Jvm.exec) {own : String} {index : Nat} {y : MethodName} {bytes : ByteArray} {maxL : Nat} {ret : Option FieldType}
    (hown : s.vm.findClass own = some m.cls) (hlink : (Cond.methodLink own index y).before args s = true) (hstat : (Cond.static y).before args s = true) (hinit : (Cond.initialized y.cls).before args s = true)
    (hcode : (Cond.code y bytes maxL ret).before args s = true) (hy : y.cls ≠ "java/lang/invoke/MethodHandle" ∧ y.cls ≠ "java/lang/invoke/VarHandle")
    {W9 : Nat} {Pre : Pt → Array Value → Prop} {Post : Pt → Array Value → Option Value → Pt → Prop} {PostX : Pt → Array Value → Addr → Pt → Prop} (hK : vx_Back l R p e below s args y 3 W9 Pre Post PostX)
    {g : JFrame} (hg : g.method = m) (hsize : g.locals.size = c.maxLocals) {argsL rest : List Value} (hlen : ∀ sig, parseMethodDescriptor y.desc = some sig → argsL.length = sig.parameters.length)
    (hstack : g.stack = argsL.reverse ++ rest) (hW : 2 * g.monitorRoom + (rest.map fun v => v.category).sum ≤ W9) (hdg : decode c.code g.pc = .ok (.invokestatic index, 3))
    (hpre : ∀ vm₁, s.WarmedH vm₁ → Pre ⟨T.setVm vm₁, locs, cells, slots⟩ argsL.toArray) :
    (∃ (v : Option Value) (vm₁ : Vm) (B : Pt), s.WarmedH vm₁ ∧ Stand p l e R s m args below meth c B.U B.locs B.cells B.slots ∧ Post ⟨T.setVm vm₁, locs, cells, slots⟩ argsL.toArray v B ∧
      ∀ target, Steps p.tables e below (B.U.setTop { g with pc := g.pc + 3, stack := v.toList ++ rest }) target → Steps p.tables e below (T.setTop g) target) ∨
    (∃ (q : Addr) (vm₁ : Vm) (B : Pt), s.WarmedH vm₁ ∧ Stand p l e R s m args below meth c B.U B.locs B.cells B.slots ∧ PostX ⟨T.setVm vm₁, locs, cells, slots⟩ argsL.toArray q B ∧
      Steps p.tables e below (T.setTop g) ((B.U.setTop { g with stack := rest }).pushFrame (.throwing q))) := by
  obtain ⟨mk, hnamed⟩ := Cond.code_named hcode
  obtain ⟨methM, cM, hmethM, -, -, -, -, -, -, hsigM⟩ := Cond.code_spec hnamed hcode
  have hstatic : methM.isStatic = true := Cond.static_spec hnamed hmethM hstat
  obtain ⟨kP, hkP, -⟩ := className_of_methodNamed hnamed
  have hinitP : kP.init = .initialized := Cond.initialized_spec (findClass_of_methodNamed hnamed) hkP hinit
  obtain ⟨vm₁, X₁, hstep₁⟩ := X.invokestatic hexec hown hlink hnamed hmethM hstatic hkP hinitP hy (g := g) hg (argsL := argsL) (rest := rest) (hlen _ hsigM) hstack hdg
  rcases hK m meth c ⟨T.setVm vm₁, locs, cells, slots⟩ { g with stack := rest } (.invokestatic index) mk argsL.toArray X₁ hg hsize hdg hW (X₁.named hnamed) (hpre vm₁ X₁.warmed) with ⟨v, B, X', hpost, hsteps⟩ | ⟨q, B, X', hpost, hsteps⟩
  · exact Or.inl ⟨v, vm₁, B, X₁.warmed, X', hpost, fun target h => hstep₁ _ fun acts => by rw [doInvoke_state]; exact hsteps.trans h⟩
  · exact Or.inr ⟨q, vm₁, B, X₁.warmed, X', hpost, hstep₁ _ fun acts => by rw [doInvoke_state]; exact hsteps⟩
end Calls
theorem vx_cls {s : State} {T : State} {vm₁ : Vm} {E : String} {k : ClassId} (hW : s.WarmedH vm₁) (h : (T.setVm vm₁).vm.findClass E = some k) : s.vm.findClass E = some k := by
  have h1 : vm₁.findClass E = some k := h
  rw [hW.alike.findClass] at h1
  exact h1
/-- the method's frame g, with q thrown over it -/
def vx_W (p : Program) (l : Launch) (e : Env) (R : Room) (s : State) (m : MethodId) (args : Array Value) (below : List Frame) (meth : Method) (c : Code) (H : Heap) (locs : List Loc) (cells slots : Nat) (Q : State → Prop) (g : JFrame) (q : Addr) : Prop :=
  ∀ T : State, T.heap = H → Stand p l e R s m args below meth c T locs cells slots → ∃ t, Steps p.tables e below ((T.setTop g).pushFrame (.throwing q)) t ∧ Q t
def vx_Run (p : Program) (l : Launch) (e : Env) (R : Room) (s : State) (m : MethodId) (args : Array Value) (below : List Frame) (meth : Method) (c : Code) (H : Heap) (locs : List Loc) (cells slots mc ms : Nat) (g : JFrame) (rest : List Value) (Qa : State → Outcome → State → Prop) (XC : String → State → State → Prop) (free : Addr → Prop) : Prop :=
  ∀ T : State, T.heap = H → Stand p l e R s m args below meth c T locs cells slots →
    (∃ (v : Option Value) (st₀ t T' : State) (L : List Loc), st₀.heap = H ∧ Stand p l e R s m args below meth c T' (locs ++ L) (cells + mc) (slots + ms) ∧ (∀ q ∈ L, free q.base) ∧ T'.heap = t.heap ∧ T'.vm = t.vm ∧ Qa st₀ (.returned v) t ∧
      Goes p e below T g T' { g with pc := g.pc + 3, stack := v.toList ++ rest }) ∨
    (∃ (q : Addr) (st₀ t T' : State) (L : List Loc) (E : String) (ce : Cell), st₀.heap = H ∧ Stand p l e R s m args below meth c T' (locs ++ L) (cells + mc) (slots + ms) ∧ (∀ z ∈ L, free z.base) ∧ T'.heap = t.heap ∧ T'.vm = t.vm ∧ XC E st₀ t ∧ t.heap[q]? = some ce ∧ ce.vm = .none ∧ s.vm.findClass E = some ce.cls ∧
      Steps p.tables e below (T.setTop g) ((T'.setTop { g with stack := rest }).pushFrame (.throwing q)))
def vx_X {S : Type} (px : S → Prop) (B : String → S → State → Prop) (A : Nat → Prop) : String → State → State → Prop := fun E st t => ∃ u : S, px u ∧ B E u t ∧ va_F A st t
section Runs
variable {p : Program} {l : Launch} {e : Env} {R : Room} {s : State} {m : MethodId} {args : Array Value} {below : List Frame} {meth : Method} {c : Code} {H : Heap} {locs : List Loc} {cells slots : Nat}
variable {y : MethodName} {bytes cc : ByteArray} {maxL nL mc ms n index : Nat} {ret : Option FieldType} {ws : List Cond} {rm : Room} {Pc : Array Value → State → Prop} {Qc : Array Value → State → Outcome → State → Prop} {XC : String → State → State → Prop} {free : Addr → Prop} {Ts : List Cond} {own C : String} {b : Addr} {As rest : List Value} {g : JFrame}
theorem vx_callBack (cb : CallB R s args own index y bytes maxL ret ws rm mc ms n) (hM : vx_Met l y ws rm Pc Qc XC mc ms free) (hbl : FrameBlind Pc) : vx_Back l R p e below s args y 3 8 (PreOf R mc ms Pc) (PostOf Qc mc ms free) (vx_Post XC mc ms free) := by
  obtain ⟨hrc, hrs, hfr, hlo, hws, hcw, -, hini, -⟩ := cb
  exact vx_back (bytes := bytes) (maxL := maxL) (ret := ret) hM hbl hrc hrs hfr hlo hws hcw (fun a' U hW => word_at hW (Or.inl (by first | rfl | simp [Cond.onTables, Cond.keeps, Cond.steady])) hini)
theorem vx_runV (S : CallFix p m c cc nL s args Ts own) (hM : vx_Met l y ws rm Pc Qc XC mc ms free) (cw : CallW R s args own C index y bytes maxL ret ws rm mc ms n) (hp : PreV s H C b Pc As)
    (hg : g.method = m) (hn : As.length = n) (hsize : g.locals.size = nL) (hstack : g.stack = As.reverse ++ .ref b :: rest) (hW : 2 * g.monitorRoom + (rest.map fun v => v.category).sum ≤ 8) (hdg : decode cc g.pc = .ok (.invokevirtual index, 3)) (hf : cells + mc ≤ R.cells ∧ slots + ms ≤ R.slots) :
    vx_Run p l e R s m args below meth c H locs cells slots mc ms g rest (Qc (Value.ref b :: As).toArray) XC free := by
  have hK : vx_Back l R p e below s args y 3 8 (PreOf R mc ms Pc) (PostOf Qc mc ms free) (vx_Post XC mc ms free) := vx_callBack cw.1 hM hp.1
  obtain ⟨⟨-, -, -, -, -, -, hcode, -, hy, hlen, hl⟩, hin, hse⟩ := cw
  obtain ⟨hx, hb, hml, ho, -⟩ := S
  obtain ⟨-, ⟨cellB, hcB, hoB, hclB⟩, hPc⟩ := hp
  intro T hT X
  rcases vx_callV X hx (C := C) (bytes := bytes) (maxL := maxL) (ret := ret) ho hl hin hse hcode hy hK (by rw [hT]; exact hcB) hoB hclB hg (hsize.trans hml.symm) (argsL := As) (rest := rest) (fun sig h => hn.trans (hlen sig h)) hstack hW (by rw [hb]; exact hdg)
    (fun vm₁ hW₁ => ⟨hf.1, hf.2, hPc (T.setVm vm₁) hT hW₁⟩) with ⟨v, vm₁, ⟨U', l2, c2, s2⟩, hW₁, X', ⟨g', mk, t, L, e1, e2, hq, h1, hL, h2, h3⟩, st⟩ | ⟨q, vm₁, ⟨U', l2, c2, s2⟩, hW₁, X', ⟨g', mk, t, L, E, ce, e1, e2, hq, hce, hcv, hcl, h1, hL, h2, h3⟩, st⟩
  · dsimp only [Pt.U, Pt.locs, Pt.cells, Pt.slots] at X' e1 e2 h1 h2 h3 st
    subst h1; subst h2; subst h3
    exact Or.inl ⟨v, (T.setVm vm₁).calling g' mk (Value.ref b :: As).toArray, t, U', L, hT, X', hL, e1, e2, hq, st⟩
  · dsimp only [Pt.U, Pt.locs, Pt.cells, Pt.slots] at X' e1 e2 h1 h2 h3 st hcl
    subst h1; subst h2; subst h3
    exact Or.inr ⟨q, (T.setVm vm₁).calling g' mk (Value.ref b :: As).toArray, t, U', L, E, ce, hT, X', hL, e1, e2, hq, hce, hcv, vx_cls hW₁ hcl, st⟩
theorem vx_runS (S : CallFix p m c cc nL s args Ts own) (hM : vx_Met l y ws rm Pc Qc XC mc ms free) (cw : CallB R s args own index y bytes maxL ret ws rm mc ms n ∧ (Cond.static y).before args s = true) (hp : PreS s H Pc As)
    (hg : g.method = m) (hn : As.length = n) (hsize : g.locals.size = nL) (hstack : g.stack = As.reverse ++ rest) (hW : 2 * g.monitorRoom + (rest.map fun v => v.category).sum ≤ 8) (hdg : decode cc g.pc = .ok (.invokestatic index, 3)) (hf : cells + mc ≤ R.cells ∧ slots + ms ≤ R.slots) :
    vx_Run p l e R s m args below meth c H locs cells slots mc ms g rest (Qc As.toArray) XC free := by
  have hK : vx_Back l R p e below s args y 3 8 (PreOf R mc ms Pc) (PostOf Qc mc ms free) (vx_Post XC mc ms free) := vx_callBack cw.1 hM hp.1
  obtain ⟨⟨-, -, -, -, -, -, hcode, hini, hy, hlen, hl⟩, hstt⟩ := cw
  obtain ⟨hx, hb, hml, ho, -⟩ := S
  intro T hT X
  rcases vx_callS X hx (bytes := bytes) (maxL := maxL) (ret := ret) ho hl hstt hini hcode hy hK hg (hsize.trans hml.symm) (argsL := As) (rest := rest) (fun sig h => hn.trans (hlen sig h)) hstack hW (by rw [hb]; exact hdg)
    (fun vm₁ hW₁ => ⟨hf.1, hf.2, hp.2 (T.setVm vm₁) hT hW₁⟩) with ⟨v, vm₁, ⟨U', l2, c2, s2⟩, hW₁, X', ⟨g', mk, t, L, e1, e2, hq, h1, hL, h2, h3⟩, st⟩ | ⟨q, vm₁, ⟨U', l2, c2, s2⟩, hW₁, X', ⟨g', mk, t, L, E, ce, e1, e2, hq, hce, hcv, hcl, h1, hL, h2, h3⟩, st⟩
  · dsimp only [Pt.U, Pt.locs, Pt.cells, Pt.slots] at X' e1 e2 h1 h2 h3 st
    subst h1; subst h2; subst h3
    exact Or.inl ⟨v, (T.setVm vm₁).calling g' mk As.toArray, t, U', L, hT, X', hL, e1, e2, hq, st⟩
  · dsimp only [Pt.U, Pt.locs, Pt.cells, Pt.slots] at X' e1 e2 h1 h2 h3 st hcl
    subst h1; subst h2; subst h3
    exact Or.inr ⟨q, (T.setVm vm₁).calling g' mk As.toArray, t, U', L, E, ce, hT, X', hL, e1, e2, hq, hce, hcv, vx_cls hW₁ hcl, st⟩
end Runs
section Rows
variable {p : Program} {l : Launch} {e : Env} {R : Room} {s : State} {m : MethodId} {args : Array Value} {below : List Frame} {meth : Method} {c : Code} {H : Heap} {locs : List Loc} {cells slots : Nat} {Q : State → Prop}
variable {mc ms : Nat} {free : Addr → Prop} {A0 A1 : Nat → Prop} {H0 : Heap} {a : Array Value} {pc : Nat} {ls : Array Slot} {st0 rest : List Value}
theorem vx_keep {st₀ t T' : State} {L : List Loc} (h0 : st₀.heap = H) (e1 : T'.heap = t.heap) (hS : va_S A0 H0 H locs) (hA : ∀ q, q < H.size → A1 q → A0 q) (hf : ∀ q, free q → A0 q) (hL : ∀ q ∈ L, free q.base) (hF : va_F A1 st₀ t) :
    H.size ≤ T'.heap.size ∧ (∀ q : Nat, q < H.size → ¬ A1 q → T'.heap[q]? = H[q]?) ∧ va_S A0 H0 T'.heap (locs ++ L) := by
  obtain ⟨hz, hk⟩ := hF
  rw [h0] at hz hk
  exact ⟨by rw [e1]; exact hz, fun q h1 h2 => by rw [e1]; exact hk q h1 h2,
    ⟨Nat.le_trans hS.1 (by rw [e1]; exact hz), fun q h1 h2 => by rw [e1, hk q (Nat.lt_of_lt_of_le h1 hS.1) (fun z => h2 (hA q (Nat.lt_of_lt_of_le h1 hS.1) z))]; exact hS.2.1 q h1 h2, fun q hq => by
      rcases List.mem_append.mp hq with h | h
      · exact hS.2.2 q h
      · exact hf _ (hL q h)⟩⟩
theorem vx_calli {S SX : Type} {post : Int32 → S → Prop} {px : SX → Prop} {B : S → State → Prop} {BX : String → SX → State → Prop} {AX : Nat → Prop} (hr : vx_Run p l e R s m args below meth c H locs cells slots mc ms (F0 m pc ls st0) rest (va_Qi post B A1 a) (vx_X px BX AX) free) (hS : va_S A0 H0 H locs) (hA : ∀ q, q < H.size → A1 q → A0 q) (hf : ∀ q, free q → A0 q) (hAX : ∀ q, q < H.size → AX q → A0 q)
    (kx : ∀ (E : String) (ce : Cell) (q9 : Addr) (u : SX) (t : State) (H1 : Heap) (locs1 : List Loc), t.heap = H1 → s.vm.Alike t.vm → px u → BX E u t → H.size ≤ H1.size → (∀ q : Nat, q < H.size → ¬ AX q → H1[q]? = H[q]?) → va_S A0 H0 H1 locs1 → H1[q9]? = some ce → ce.vm = .none → s.vm.findClass E = some ce.cls → vx_W p l e R s m args below meth c H1 locs1 (cells + mc) (slots + ms) Q (F0 m pc ls rest) q9)
    (kk : ∀ (r : Int32) (u : S) (t : State) (H1 : Heap) (locs1 : List Loc), t.heap = H1 → s.vm.Alike t.vm → post r u → B u t → H.size ≤ H1.size → (∀ q : Nat, q < H.size → ¬ A1 q → H1[q]? = H[q]?) → va_S A0 H0 H1 locs1 → W p l e R s m args below meth c H1 locs1 (cells + mc) (slots + ms) Q (F0 m (pc + 3) ls (.int r :: rest))) : W p l e R s m args below meth c H locs cells slots Q (F0 m pc ls st0) := by
  intro T hT X
  rcases hr T hT X with ⟨v, st₀, t, T', L, h0, X', hL, e1, e2, ⟨⟨r, u, hv, hp, hb⟩, hF⟩, st⟩ | ⟨q, st₀, t, T', L, E, ce, h0, X', hL, e1, e2, ⟨u, hp, hb, hF⟩, hce, hcv, hcl, st⟩
  · cases hv
    obtain ⟨k1, k2, k3⟩ := vx_keep h0 e1 hS hA hf hL hF
    obtain ⟨t2, a1, b1⟩ := kk r u t T'.heap (locs ++ L) e1.symm (by rw [← e2]; exact X'.warmed.alike) hp hb k1 k2 k3 T' rfl X'
    exact ⟨t2, st t2 a1, b1⟩
  · obtain ⟨k1, k2, k3⟩ := vx_keep h0 e1 hS hAX hf hL hF
    obtain ⟨t2, a1, b1⟩ := kx E ce q u t T'.heap (locs ++ L) e1.symm (by rw [← e2]; exact X'.warmed.alike) hp hb k1 k2 k3 (by rw [e1]; exact hce) hcv hcl T' rfl X'
    exact ⟨t2, st.trans a1, b1⟩
theorem vx_calll {S SX : Type} {post : Int64 → S → Prop} {px : SX → Prop} {B : S → State → Prop} {BX : String → SX → State → Prop} {AX : Nat → Prop} (hr : vx_Run p l e R s m args below meth c H locs cells slots mc ms (F0 m pc ls st0) rest (va_Ql post B A1 a) (vx_X px BX AX) free) (hS : va_S A0 H0 H locs) (hA : ∀ q, q < H.size → A1 q → A0 q) (hf : ∀ q, free q → A0 q) (hAX : ∀ q, q < H.size → AX q → A0 q)
    (kx : ∀ (E : String) (ce : Cell) (q9 : Addr) (u : SX) (t : State) (H1 : Heap) (locs1 : List Loc), t.heap = H1 → s.vm.Alike t.vm → px u → BX E u t → H.size ≤ H1.size → (∀ q : Nat, q < H.size → ¬ AX q → H1[q]? = H[q]?) → va_S A0 H0 H1 locs1 → H1[q9]? = some ce → ce.vm = .none → s.vm.findClass E = some ce.cls → vx_W p l e R s m args below meth c H1 locs1 (cells + mc) (slots + ms) Q (F0 m pc ls rest) q9)
    (kk : ∀ (r : Int64) (u : S) (t : State) (H1 : Heap) (locs1 : List Loc), t.heap = H1 → s.vm.Alike t.vm → post r u → B u t → H.size ≤ H1.size → (∀ q : Nat, q < H.size → ¬ A1 q → H1[q]? = H[q]?) → va_S A0 H0 H1 locs1 → W p l e R s m args below meth c H1 locs1 (cells + mc) (slots + ms) Q (F0 m (pc + 3) ls (.long r :: rest))) : W p l e R s m args below meth c H locs cells slots Q (F0 m pc ls st0) := by
  intro T hT X
  rcases hr T hT X with ⟨v, st₀, t, T', L, h0, X', hL, e1, e2, ⟨⟨r, u, hv, hp, hb⟩, hF⟩, st⟩ | ⟨q, st₀, t, T', L, E, ce, h0, X', hL, e1, e2, ⟨u, hp, hb, hF⟩, hce, hcv, hcl, st⟩
  · cases hv
    obtain ⟨k1, k2, k3⟩ := vx_keep h0 e1 hS hA hf hL hF
    obtain ⟨t2, a1, b1⟩ := kk r u t T'.heap (locs ++ L) e1.symm (by rw [← e2]; exact X'.warmed.alike) hp hb k1 k2 k3 T' rfl X'
    exact ⟨t2, st t2 a1, b1⟩
  · obtain ⟨k1, k2, k3⟩ := vx_keep h0 e1 hS hAX hf hL hF
    obtain ⟨t2, a1, b1⟩ := kx E ce q u t T'.heap (locs ++ L) e1.symm (by rw [← e2]; exact X'.warmed.alike) hp hb k1 k2 k3 (by rw [e1]; exact hce) hcv hcl T' rfl X'
    exact ⟨t2, st.trans a1, b1⟩
theorem vx_callf {S SX : Type} {post : UInt32 → S → Prop} {px : SX → Prop} {B : S → State → Prop} {BX : String → SX → State → Prop} {AX : Nat → Prop} (hr : vx_Run p l e R s m args below meth c H locs cells slots mc ms (F0 m pc ls st0) rest (va_Qf post B A1 a) (vx_X px BX AX) free) (hS : va_S A0 H0 H locs) (hA : ∀ q, q < H.size → A1 q → A0 q) (hf : ∀ q, free q → A0 q) (hAX : ∀ q, q < H.size → AX q → A0 q)
    (kx : ∀ (E : String) (ce : Cell) (q9 : Addr) (u : SX) (t : State) (H1 : Heap) (locs1 : List Loc), t.heap = H1 → s.vm.Alike t.vm → px u → BX E u t → H.size ≤ H1.size → (∀ q : Nat, q < H.size → ¬ AX q → H1[q]? = H[q]?) → va_S A0 H0 H1 locs1 → H1[q9]? = some ce → ce.vm = .none → s.vm.findClass E = some ce.cls → vx_W p l e R s m args below meth c H1 locs1 (cells + mc) (slots + ms) Q (F0 m pc ls rest) q9)
    (kk : ∀ (r : UInt32) (u : S) (t : State) (H1 : Heap) (locs1 : List Loc), t.heap = H1 → s.vm.Alike t.vm → post r u → B u t → H.size ≤ H1.size → (∀ q : Nat, q < H.size → ¬ A1 q → H1[q]? = H[q]?) → va_S A0 H0 H1 locs1 → W p l e R s m args below meth c H1 locs1 (cells + mc) (slots + ms) Q (F0 m (pc + 3) ls (.float r :: rest))) : W p l e R s m args below meth c H locs cells slots Q (F0 m pc ls st0) := by
  intro T hT X
  rcases hr T hT X with ⟨v, st₀, t, T', L, h0, X', hL, e1, e2, ⟨⟨r, u, hv, hp, hb⟩, hF⟩, st⟩ | ⟨q, st₀, t, T', L, E, ce, h0, X', hL, e1, e2, ⟨u, hp, hb, hF⟩, hce, hcv, hcl, st⟩
  · cases hv
    obtain ⟨k1, k2, k3⟩ := vx_keep h0 e1 hS hA hf hL hF
    obtain ⟨t2, a1, b1⟩ := kk r u t T'.heap (locs ++ L) e1.symm (by rw [← e2]; exact X'.warmed.alike) hp hb k1 k2 k3 T' rfl X'
    exact ⟨t2, st t2 a1, b1⟩
  · obtain ⟨k1, k2, k3⟩ := vx_keep h0 e1 hS hAX hf hL hF
    obtain ⟨t2, a1, b1⟩ := kx E ce q u t T'.heap (locs ++ L) e1.symm (by rw [← e2]; exact X'.warmed.alike) hp hb k1 k2 k3 (by rw [e1]; exact hce) hcv hcl T' rfl X'
    exact ⟨t2, st.trans a1, b1⟩
theorem vx_calld {S SX : Type} {post : UInt64 → S → Prop} {px : SX → Prop} {B : S → State → Prop} {BX : String → SX → State → Prop} {AX : Nat → Prop} (hr : vx_Run p l e R s m args below meth c H locs cells slots mc ms (F0 m pc ls st0) rest (va_Qd post B A1 a) (vx_X px BX AX) free) (hS : va_S A0 H0 H locs) (hA : ∀ q, q < H.size → A1 q → A0 q) (hf : ∀ q, free q → A0 q) (hAX : ∀ q, q < H.size → AX q → A0 q)
    (kx : ∀ (E : String) (ce : Cell) (q9 : Addr) (u : SX) (t : State) (H1 : Heap) (locs1 : List Loc), t.heap = H1 → s.vm.Alike t.vm → px u → BX E u t → H.size ≤ H1.size → (∀ q : Nat, q < H.size → ¬ AX q → H1[q]? = H[q]?) → va_S A0 H0 H1 locs1 → H1[q9]? = some ce → ce.vm = .none → s.vm.findClass E = some ce.cls → vx_W p l e R s m args below meth c H1 locs1 (cells + mc) (slots + ms) Q (F0 m pc ls rest) q9)
    (kk : ∀ (r : UInt64) (u : S) (t : State) (H1 : Heap) (locs1 : List Loc), t.heap = H1 → s.vm.Alike t.vm → post r u → B u t → H.size ≤ H1.size → (∀ q : Nat, q < H.size → ¬ A1 q → H1[q]? = H[q]?) → va_S A0 H0 H1 locs1 → W p l e R s m args below meth c H1 locs1 (cells + mc) (slots + ms) Q (F0 m (pc + 3) ls (.double r :: rest))) : W p l e R s m args below meth c H locs cells slots Q (F0 m pc ls st0) := by
  intro T hT X
  rcases hr T hT X with ⟨v, st₀, t, T', L, h0, X', hL, e1, e2, ⟨⟨r, u, hv, hp, hb⟩, hF⟩, st⟩ | ⟨q, st₀, t, T', L, E, ce, h0, X', hL, e1, e2, ⟨u, hp, hb, hF⟩, hce, hcv, hcl, st⟩
  · cases hv
    obtain ⟨k1, k2, k3⟩ := vx_keep h0 e1 hS hA hf hL hF
    obtain ⟨t2, a1, b1⟩ := kk r u t T'.heap (locs ++ L) e1.symm (by rw [← e2]; exact X'.warmed.alike) hp hb k1 k2 k3 T' rfl X'
    exact ⟨t2, st t2 a1, b1⟩
  · obtain ⟨k1, k2, k3⟩ := vx_keep h0 e1 hS hAX hf hL hF
    obtain ⟨t2, a1, b1⟩ := kx E ce q u t T'.heap (locs ++ L) e1.symm (by rw [← e2]; exact X'.warmed.alike) hp hb k1 k2 k3 (by rw [e1]; exact hce) hcv hcl T' rfl X'
    exact ⟨t2, st.trans a1, b1⟩
theorem vx_callv {S SX : Type} {post : S → Prop} {px : SX → Prop} {B : S → State → Prop} {BX : String → SX → State → Prop} {AX : Nat → Prop} (hr : vx_Run p l e R s m args below meth c H locs cells slots mc ms (F0 m pc ls st0) rest (va_Qv post B A1 a) (vx_X px BX AX) free) (hS : va_S A0 H0 H locs) (hA : ∀ q, q < H.size → A1 q → A0 q) (hf : ∀ q, free q → A0 q) (hAX : ∀ q, q < H.size → AX q → A0 q)
    (kx : ∀ (E : String) (ce : Cell) (q9 : Addr) (u : SX) (t : State) (H1 : Heap) (locs1 : List Loc), t.heap = H1 → s.vm.Alike t.vm → px u → BX E u t → H.size ≤ H1.size → (∀ q : Nat, q < H.size → ¬ AX q → H1[q]? = H[q]?) → va_S A0 H0 H1 locs1 → H1[q9]? = some ce → ce.vm = .none → s.vm.findClass E = some ce.cls → vx_W p l e R s m args below meth c H1 locs1 (cells + mc) (slots + ms) Q (F0 m pc ls rest) q9)
    (kk : ∀ (u : S) (t : State) (H1 : Heap) (locs1 : List Loc), t.heap = H1 → s.vm.Alike t.vm → post u → B u t → H.size ≤ H1.size → (∀ q : Nat, q < H.size → ¬ A1 q → H1[q]? = H[q]?) → va_S A0 H0 H1 locs1 → W p l e R s m args below meth c H1 locs1 (cells + mc) (slots + ms) Q (F0 m (pc + 3) ls (rest))) : W p l e R s m args below meth c H locs cells slots Q (F0 m pc ls st0) := by
  intro T hT X
  rcases hr T hT X with ⟨v, st₀, t, T', L, h0, X', hL, e1, e2, ⟨⟨u, hv, hp, hb⟩, hF⟩, st⟩ | ⟨q, st₀, t, T', L, E, ce, h0, X', hL, e1, e2, ⟨u, hp, hb, hF⟩, hce, hcv, hcl, st⟩
  · cases hv
    obtain ⟨k1, k2, k3⟩ := vx_keep h0 e1 hS hA hf hL hF
    obtain ⟨t2, a1, b1⟩ := kk u t T'.heap (locs ++ L) e1.symm (by rw [← e2]; exact X'.warmed.alike) hp hb k1 k2 k3 T' rfl X'
    exact ⟨t2, st t2 a1, b1⟩
  · obtain ⟨k1, k2, k3⟩ := vx_keep h0 e1 hS hAX hf hL hF
    obtain ⟨t2, a1, b1⟩ := kx E ce q u t T'.heap (locs ++ L) e1.symm (by rw [← e2]; exact X'.warmed.alike) hp hb k1 k2 k3 (by rw [e1]; exact hce) hcv hcl T' rfl X'
    exact ⟨t2, st.trans a1, b1⟩
/-- caught by the row x of this method's table; the rows ahead don't take it -/
theorem vx_catch {own name : String} {E : String} {ce : Cell} {q : Addr} (hown : s.vm.findClass own = some m.cls) (pre : List ExceptionTableEntry) (x : ExceptionTableEntry) (suf : List ExceptionTableEntry) (hsplit : c.exceptionTable.toList = pre ++ x :: suf)
    (hpass : ∀ z ∈ pre, covers z pc = false ∨ (z.catchType ≠ 0 ∧ ∃ nm : String, (Cond.classLink own z.catchType nm).before args s = true ∧ va_Nc E nm s)) (hx : covers x pc = true) (h0 : x.catchType ≠ 0)
    (hlink : (Cond.classLink own x.catchType name).before args s = true) (hcast : (Cond.castable E name).before args s = true) (hcell : H[q]? = some ce) (hv : ce.vm = .none) (hcl : s.vm.findClass E = some ce.cls)
    (kk : W p l e R s m args below meth c H locs cells slots Q (F0 m x.handlerPc ls [.ref q])) : vx_W p l e R s m args below meth c H locs cells slots Q (F0 m pc ls rest) q := by
  intro T hT X
  have hpl : e.platform.magicAccessors = ({} : Platform).magicAccessors := by rw [X.admits.platform]
  obtain ⟨c3, c4, hc3, hc4, hasg⟩ := Cond.castable_spec hcast
  cases Option.some.inj (hc3.symm.trans hcl)
  obtain ⟨c5, hc5, hcl5⟩ := Cond.classLink_spec hown hlink e.platform hpl
  cases Option.some.inj (hc4.symm.trans hc5)
  obtain ⟨vm', X', st⟩ := Stand.thenCaughtThrough X q (g := F0 m pc ls rest) rfl (Steps.refl _) (by rw [hT]; exact hcell) (by rw [hv]; rfl) (by obtain ⟨k9, h9, -⟩ := Vm.findClass_spec hcl; exact ⟨k9, h9⟩) pre x suf hsplit
    (fun z hz => by
      rcases hpass z hz with h | ⟨hz0, nm, hl1, hn1⟩
      · exact Or.inl h
      · obtain ⟨c6, hc6, hcl6⟩ := Cond.classLink_spec hown hl1 e.platform hpl
        obtain ⟨a8, b8, h1, h2, h3⟩ := hn1
        cases Option.some.inj (h1.symm.trans hcl)
        cases Option.some.inj (h2.symm.trans hc6)
        exact Or.inr ⟨hz0, _, hcl6, h3⟩) hx (Or.inr ⟨h0, c4, hcl5, hasg⟩)
  obtain ⟨t, a1, b1⟩ := kk (T.setVm vm') hT X'
  exact ⟨t, st.trans a1, b1⟩
end Rows
section Ends
variable {p : Program} {l : Launch} {e : Env} {R : Room} {s : State} {m : MethodId} {args : Array Value} {below : List Frame} {meth : Method} {c : Code} {H : Heap} {locs : List Loc} {cells slots : Nat} {Q : State → Prop}
variable {mc ms : Nat} {free : Addr → Prop} {A0 A1 : Nat → Prop} {H0 : Heap} {a : Array Value} {ls : Array Slot} {st0 rest : List Value}
variable {Qc : Array Value → State → Outcome → State → Prop} {XC : String → State → State → Prop}
/-- what a body that may throw owes at its end -/
def vx_MQ (below : List Frame) (Qc : Array Value → State → Outcome → State → Prop) (XC : String → State → State → Prop) (a : Array Value) (s : State) (mc ms : Nat) (free : Addr → Prop) : State → Prop := fun t =>
  ∃ o, t.status = .running ∧ Ended t below o ∧ vx_Q Qc XC mc ms free a s o t
theorem vx_ret {g : JFrame} {mc ms : Nat} (k : W p l e R s m args below meth c H locs cells slots (MQ below Qc args s mc ms free) g) : W p l e R s m args below meth c H locs cells slots (vx_MQ below Qc XC args s mc ms free) g := by
  intro T hT X
  obtain ⟨t, a1, o, b1, b2, b3, b4⟩ := k T hT X
  exact ⟨t, a1, o, b1, b2, Or.inl ⟨b3, b4⟩⟩
/-- not caught here: it goes on to the caller -/
theorem vx_widen {g : JFrame} {q : Addr} {k n : Nat} (h1 : cells ≤ k) (h2 : slots ≤ n) (kk : vx_W p l e R s m args below meth c H locs k n Q g q) : vx_W p l e R s m args below meth c H locs cells slots Q g q := fun T hT X => kk T hT (stand_widen X h1 h2)
theorem vx_out {pc : Nat} {E : String} {ce : Cell} {q : Addr} {mc ms : Nat} (hout : ∀ x ∈ c.exceptionTable.toList, covers x pc = false) (hlocks : meth.locks = false) (hcell : H[q]? = some ce) (hv : ce.vm = .none) (hcl : s.vm.findClass E = some ce.cls)
    (hx : ∀ t : State, t.heap = H → s.vm.Alike t.vm → XC E s t) (hf : ∀ z ∈ locs, free z.base) (hc : cells ≤ mc) (hs : slots ≤ ms) :
    vx_W p l e R s m args below meth c H locs cells slots (vx_MQ below Qc XC args s mc ms free) (F0 m pc ls rest) q := by
  intro T hT X
  obtain ⟨st1, hrun, hend, hW, hsm⟩ := X.leaveThrown q (g := F0 m pc ls rest) rfl rfl rfl hout hlocks
  have hcell9 : (T.setFrames (.throwing q :: below)).heap[q]? = some ce := by
    show T.heap[q]? = some ce
    rw [hT]; exact hcell
  exact ⟨_, st1, .threw q, hrun, hend, Or.inr ⟨q, rfl, E, ce, locs, hx _ hT hW.alike, hcell9, hv, hcl, hW, hsm.mono hc hs, hf⟩⟩
theorem vx_frame {U : State} {k n : Nat} (h : s.sameButNew ({ U with vm := s.vm } : State) locs k n) : s.heap.size ≤ U.heap.size ∧ ∀ q : Nat, q < s.heap.size → (∀ z ∈ locs, z.base ≠ q) → U.heap[q]? = s.heap[q]? := by
  obtain ⟨-, h2, -, -, -, h6⟩ := h
  refine ⟨h2, fun q hq hz => ?_⟩
  obtain ⟨c9, e1, e2, e3, e4⟩ := h6 q _ (Array.getElem?_eq_getElem hq)
  have hs : c9.slots = (s.heap[q]).slots := Array.ext_getElem? fun i => e4 i fun hm => hz _ hm rfl
  have h9 : c9 = s.heap[q] := by
    rw [hs] at e2
    exact e2
  have e5 : U.heap[q]? = some c9 := e1
  rw [e5, h9, Array.getElem?_eq_getElem hq]
/-- the words of a throw but the four that speak of the heap -/
def vx_no (w : Cond) : Bool := decide (w ≠ .isRef (.static Bundle.tN "UNASSIGNED_STACK" Bundle.steD)) && decide (w ≠ .isRef (.static Bundle.tN "SUPPRESSED_SENTINEL" Bundle.listD)) && decide (w ≠ .laysStatic Bundle.tN "UNASSIGNED_STACK" Bundle.steD) && decide (w ≠ .laysStatic Bundle.tN "SUPPRESSED_SENTINEL" Bundle.listD)
def vx_at0 (own : String) (ic : Nat) (X : String) (names : List String) : List Cond := (Bundle.ownAtoms0 own ic X names).filter vx_no
def vx_atS (own : String) (ic : Nat) (X : String) (names : List String) : List Cond := (Bundle.ownAtoms own ic X names).filter vx_no
/-- a word that the tables alone decide, or a good one -/
def vx_ot (w : Cond) : Bool := w.onTables || goodWord w
theorem vx_ot_at {args a' : Array Value} {s U : State} {w : Cond} (hW : s.WarmedH U.vm) (hvm : s.vm = U.vm) (hg : vx_ot w = true) (h : w.before args s = true) : w.before a' U = true := by
  simp only [vx_ot, Bool.or_eq_true] at hg
  rcases hg with hg | hg
  · exact va_tabs hg hvm h
  · exact word_at hW (good_of_word hg) h
/-- a list's words: the good ones out of the method's own list, the others by premises of their own -/
theorem vx_hat {args : Array Value} {s : State} {L B : List Cond} (h1 : ∀ w ∈ L.filter goodWord, w.before args s = true) (h2 : ∀ w ∈ L.filter (fun w => !goodWord w), w ∈ B) (h3 : ∀ w ∈ B, w.before args s = true) : ∀ w ∈ L, w.before args s = true := by
  intro w hw
  by_cases g : goodWord w = true
  · exact h1 w (List.mem_filter.mpr ⟨hw, g⟩)
  · refine h3 w (h2 w (List.mem_filter.mpr ⟨hw, ?_⟩))
    show (!goodWord w) = true
    cases hgw : goodWord w
    · rfl
    · exact absurd hgw g
theorem vx_c {args : Array Value} {s : State} {w : Cond} {B : List Cond} (h : w.before args s = true) (t : ∀ w ∈ B, w.before args s = true) : ∀ w' ∈ w :: B, w'.before args s = true := fun w' h' => (List.mem_cons.mp h').elim (fun e => by rw [e]; exact h) (t w')
theorem vx_n {args : Array Value} {s : State} : ∀ w ∈ ([] : List Cond), w.before args s = true := fun _ h => nomatch h
theorem vx_own {args : Array Value} {s : State} {L : List Cond} (h1 : ∀ w ∈ L.filter vx_no, w.before args s = true)
    (hU : (Cond.isRef (.static Bundle.tN "UNASSIGNED_STACK" Bundle.steD)).before args s = true) (hN : (Cond.isRef (.static Bundle.tN "SUPPRESSED_SENTINEL" Bundle.listD)).before args s = true)
    (lU : (Cond.laysStatic Bundle.tN "UNASSIGNED_STACK" Bundle.steD).before args s = true) (lN : (Cond.laysStatic Bundle.tN "SUPPRESSED_SENTINEL" Bundle.listD).before args s = true) : ∀ w ∈ L, w.before args s = true := by
  intro w hw
  by_cases e1 : w = .isRef (.static Bundle.tN "UNASSIGNED_STACK" Bundle.steD)
  · rw [e1]; exact hU
  · by_cases e2 : w = .isRef (.static Bundle.tN "SUPPRESSED_SENTINEL" Bundle.listD)
    · rw [e2]; exact hN
    · by_cases e3 : w = .laysStatic Bundle.tN "UNASSIGNED_STACK" Bundle.steD
      · rw [e3]; exact lU
      · by_cases e4 : w = .laysStatic Bundle.tN "SUPPRESSED_SENTINEL" Bundle.listD
        · rw [e4]; exact lN
        · exact h1 w (List.mem_filter.mpr ⟨hw, by unfold vx_no; rw [decide_eq_true e1, decide_eq_true e2, decide_eq_true e3, decide_eq_true e4]; rfl⟩)
/-- where a static field lies, its class's statics cell in H -/
def vx_L (C n d : String) (A : Nat → Prop) (U : State) (H : Heap) : Prop := ∃ (c : ClassId) (k : Class) (i : Nat) (f : Field) (a : Nat) (cell : Cell), U.vm.findClass C = some c ∧ U.fieldFound? C n d = some (c, k, i, f) ∧ f.isStatic = true ∧ k.statics = some a ∧ H[a]? = some cell ∧ cell.vm.isStatics = true ∧ cell.cls = c ∧ f.slot < cell.slots.size ∧ k.staticTypes[f.slot]? = some f.type ∧ ¬ A a
theorem vx_L.moved {C n d : String} {A : Nat → Prop} {u U : State} {H : Heap} (hvm : u.vm.Alike U.vm) (h : vx_L C n d A u H) : vx_L C n d A U H := by
  obtain ⟨c, k, i, f, a, cell, h1, h2, h3, h4, h5, h6, h7, h8, h9, h10⟩ := h
  obtain ⟨k', hi', he⟩ := State.fieldFound?_setVm hvm h2
  exact ⟨c, k', i, f, a, cell, by rw [hvm.findClass]; exact h1, hi', h3, by rw [he]; exact h4, h5, h6, h7, h8, by rw [he]; exact h9, h10⟩
theorem vx_L.kept {C n d : String} {A : Nat → Prop} {U : State} {H H1 : Heap} (h : vx_L C n d A U H) (hq : ∀ a : Nat, a < H.size → ¬ A a → H1[a]? = H[a]?) : vx_L C n d A U H1 := by
  obtain ⟨c, k, i, f, a, cell, h1, h2, h3, h4, h5, h6, h7, h8, h9, h10⟩ := h
  exact ⟨c, k, i, f, a, cell, h1, h2, h3, h4, by rw [hq a (Array.getElem?_eq_some_iff.mp h5).1 h10]; exact h5, h6, h7, h8, h9, h10⟩
theorem vx_L.narrow {C n d : String} {A B : Nat → Prop} {U : State} {H : Heap} (h : vx_L C n d A U H) (hAB : ∀ q, B q → A q) : vx_L C n d B U H := by
  obtain ⟨c, k, i, f, a, cell, h1, h2, h3, h4, h5, h6, h7, h8, h9, h10⟩ := h
  exact ⟨c, k, i, f, a, cell, h1, h2, h3, h4, h5, h6, h7, h8, h9, fun z => h10 (hAB _ z)⟩
theorem vx_L.word {C n d : String} {A : Nat → Prop} {s : State} {args : Array Value} (h : vx_L C n d A s s.heap) : (Cond.laysStatic C n d).before args s = true := by
  obtain ⟨c, k, i, f, a, cell, h1, h2, h3, h4, h5, h6, h7, h8, h9, -⟩ := h
  show (Cond.laysStatic C n d).holds args s none s [] = true
  exact Cond.laysStatic_of h1 h2 h3 h4 h5 h6 h7 h8 h9
/-- .. and what it holds: null or some reference -/
def vx_Zq (C n d : String) (A : Nat → Prop) (U : State) (H : Heap) : Prop := va_Zq C n d A U H ∧ vx_L C n d A U H
theorem vx_Zq.moved {C n d : String} {A : Nat → Prop} {u U : State} {H : Heap} (hvm : u.vm.Alike U.vm) (h : vx_Zq C n d A u H) : vx_Zq C n d A U H := ⟨va_Zq.moved hvm h.1, vx_L.moved hvm h.2⟩
theorem vx_Zq.kept {C n d : String} {A : Nat → Prop} {U : State} {H H1 : Heap} (h : vx_Zq C n d A U H) (hq : ∀ a : Nat, a < H.size → ¬ A a → H1[a]? = H[a]?) : vx_Zq C n d A U H1 := ⟨va_Zq.kept h.1 hq, vx_L.kept h.2 hq⟩
theorem vx_Zq.narrow {C n d : String} {A B : Nat → Prop} {U : State} {H : Heap} (h : vx_Zq C n d A U H) (hAB : ∀ q, B q → A q) : vx_Zq C n d B U H := ⟨va_Zq.narrow h.1 hAB, vx_L.narrow h.2 hAB⟩
theorem vx_Zqof {args : Array Value} {s : State} {C n d : String} {A : Nat → Prop} (hl : (Cond.laysStatic C n d).before args s = true) (hini : (Cond.initialized C).before args s = true) (h : (Cond.isRef (.static C n d)).before args s = true) (hA : ∀ a : Nat, a < s.heap.size → ¬ A a) : vx_Zq C n d A s s.heap := by
  refine ⟨va_Zqof hl hini h hA, ?_⟩
  obtain ⟨c, k, i, f, a, cell, h1, h2, h3, h4, h5, h6, h7, h8, h9⟩ := Cond.laysStatic_spec hl
  exact ⟨c, k, i, f, a, cell, h1, h2, h3, h4, h5, h6, h7, h8, h9, hA a (Array.getElem?_eq_some_iff.mp h5).1⟩
theorem vx_isRef {C n d : String} {v : Value} {A : Nat → Prop} {s : State} {args : Array Value} (h : va_Z C n d v A s s.heap) (hv : v.isRef = true) : (Cond.isRef (.static C n d)).before args s = true := by
  obtain ⟨cf, kf, fi, f, a, cell, h1, h2, h3, h4, h5, h6, h7, -⟩ := h
  have he : (Term.static C n d).eval args s none [] s = some v := by
    simp [Term.eval, State.fieldNamed?, h1, h2, h4, h5, h6, h7]
  simp only [Cond.before, Cond.holds, Cond.value, he]
  cases v <;> simp_all [Value.isRef]
theorem vx_isRefq {C n d : String} {A : Nat → Prop} {s : State} {args : Array Value} (h : va_Zq C n d A s s.heap) : (Cond.isRef (.static C n d)).before args s = true := by
  rcases h with h | ⟨t, h⟩
  · exact vx_isRef h rfl
  · exact vx_isRef h rfl
/-- the same frame, seen from here: as if the method were called anew in this heap -/
theorem vx_rebase {T : State} (X : Stand p l e R s m args below meth c T locs cells slots) {R' : Room} (hf : R'.frames ≤ R.frames) (hl : R'.locals ≤ R.locals) (hc : cells + R'.cells ≤ R.cells) (hs : slots + R'.slots ≤ R.slots) :
    Stand p l e R' ((T.setVm s.vm).setFrames (.invoking m args :: below)) m args below meth c T [] 0 0 := by
  have htop : (T.setVm s.vm).topJava?.isSome := X.here.top
  have hF : ((T.setVm s.vm).setFrames (.invoking m args :: below)).frames = .invoking m args :: below := State.frames_setFrames _ (State.cur_lt_of_top htop)
  obtain ⟨g₀, hg0⟩ := Option.isSome_iff_exists.mp htop
  obtain ⟨r, hr⟩ := State.topJava?_eq_some.mp hg0
  have hl9 : e.platform.stackLimits (T.setVm s.vm).me = e.platform.stackLimits s.me := X.limits
  have hb9 : (T.setVm s.vm).me.stackBytes = s.me.stackBytes := X.bytes
  refine ⟨X.admits, X.cas, X.clock, hF, ?_, X.hears, X.method, X.code, X.here, X.tail, X.warmed, ?_, ?_, ?_⟩
  · have h := X.room
    have hU : ((T.setVm s.vm).setFrames (.invoking m args :: below)).localsInUse = s.localsInUse := by
      rw [State.localsInUse_invoking hF (meth := meth) (c := c) X.method X.code, State.localsInUse_invoking X.frames X.method X.code]
    simp only [State.hasRoom, Bool.and_eq_true, decide_eq_true_eq] at h ⊢
    obtain ⟨⟨⟨⟨h1, h2, h3, h4, h5, h6⟩, h7⟩, h8⟩, h9⟩ := h
    rw [X.frames, List.length_cons] at h2 h3
    have q1 := X.heapSize
    have q2 := X.used
    simp only [hF, hU, List.length_cons, State.stackLimits_setFrames, State.stackBytes_setFrames, hl9, hb9]
    refine ⟨⟨⟨⟨by omega, by omega, by omega, by omega, by omega, h6⟩, ?_⟩, ?_⟩, X.book⟩
    · show T.heap.size + R'.cells ≤ e.platform.maxCells
      omega
    · show T.slotsUsed + R'.slots ≤ e.platform.maxSlots
      omega
  · rw [State.stackLimits_setFrames]; rfl
  · rw [State.stackBytes_setFrames]; rfl
  · refine ⟨?_, Nat.le_refl _, Nat.le_refl _, ?_, ?_, fun a c9 h9 => ⟨c9, h9, rfl, rfl, fun _ _ => rfl⟩⟩
    · obtain ⟨t, ht, -⟩ := State.frames_cons hr
      show T.setVm s.vm = { ((T.setVm s.vm).setFrames (.invoking m args :: below)).setFrames (T.setVm s.vm).frames with heap := T.heap, slotsUsed := T.slotsUsed }
      rw [State.setFrames_setFrames, State.setFrames_self ht]
      rfl
    · show T.slotsUsed = T.slotsUsed + ((T.heap.toList.drop T.heap.size).map (·.slots.size)).sum
      rw [List.drop_eq_nil_of_le (Nat.le_of_eq Array.length_toList)]
      rfl
    · show ((T.heap.toList.drop T.heap.size).map (·.slots.size)).sum ≤ 0
      rw [List.drop_eq_nil_of_le (Nat.le_of_eq Array.length_toList)]
      exact Nat.le_refl _
/-- 'throw new E()': new; dup; invokespecial; athrow -/
theorem vx_throw0 {cc : ByteArray} {pc : Nat} (hexec : p.tables.exec = Jvm.exec) (hb : c.code = cc) (hl : l.stackTraces = false) {own cls : String} {names : List String} {ik ic mc ms : Nat} {A : Nat → Prop}
    (hown : s.vm.findClass own = some m.cls) (hcls : Bundle.fit cls = true) (hnames : ∀ n ∈ names, Bundle.fit n = true)
    (hk : (Cond.classLink own ik cls).before args s = true) (hini : (Cond.initialized cls).before args s = true) (hat : ∀ w ∈ vx_at0 own ic cls names, w.before args s = true)
    (hgood : ∀ w ∈ Cond.classLink own ik cls :: Cond.initialized cls :: vx_at0 own ic cls names, vx_ot w = true)
    (hU : vx_Zq Bundle.tN "UNASSIGNED_STACK" Bundle.steD A s s.heap) (hN : vx_Zq Bundle.tN "SUPPRESSED_SENTINEL" Bundle.listD A s s.heap) (hS : va_S A s.heap H locs) (hsize : ls.size = c.maxLocals)
    (d0 : decode cc pc = .ok (.new ik, 3)) (d3 : decode cc (pc + 3) = .ok (.dup, 1)) (d4 : decode cc (pc + 4) = .ok (.invokespecial ic, 3)) (d7 : decode cc (pc + 7) = .ok (.athrow, 1))
    (hout : ∀ x ∈ c.exceptionTable.toList, covers x (pc + 7) = false)
    (hRframes : names.length + 3 < R.frames) (hRlocals : (rest.map fun v => v.category).sum + (13 * (names.length + 1) + 42) ≤ R.locals) (hRcells : cells + 1 ≤ R.cells) (hRslots : slots + 6 ≤ R.slots) (hlocks : meth.locks = false)
    (hx : ∀ t : State, s.vm.Alike t.vm → H.size ≤ t.heap.size → (∀ q : Nat, q < H.size → t.heap[q]? = H[q]?) → XC cls s t)
    (hf : ∀ z ∈ locs, free z.base) (hc : cells + 1 ≤ mc) (hs : slots + 6 ≤ ms) :
    W p l e R s m args below meth c H locs cells slots (vx_MQ below Qc XC args s mc ms free) (F0 m pc ls rest) := by
  intro T hT X
  have htr : e.platform.stackTraces = false := (show e.platform.stackTraces = l.stackTraces by rw [X.admits.platform]).trans hl
  have Y := vx_rebase X (R' := { frames := R.frames, locals := R.locals, cells := 1, slots := 6 }) (Nat.le_refl _) (Nat.le_refl _) hRcells hRslots
  obtain ⟨s', hA⟩ : ∃ z, z = (T.setVm s.vm).setFrames (.invoking m args :: below) := ⟨_, rfl⟩
  rw [← hA] at Y
  have hvm : s'.vm = s.vm := by rw [hA]; rfl
  have hhp : s'.heap = H := by rw [hA]; exact hT
  have hW0 : s.WarmedH s'.vm := by rw [hvm]; exact State.WarmedH.refl s
  have hat' : ∀ w ∈ vx_at0 own ic cls names, w.before args s' = true := fun w hw => vx_ot_at hW0 hvm.symm (hgood w (List.mem_cons_of_mem _ (List.mem_cons_of_mem _ hw))) (hat w hw)
  have hk' : (Cond.classLink own ik cls).before args s' = true := vx_ot_at hW0 hvm.symm (hgood _ List.mem_cons_self) hk
  have hini' : (Cond.initialized cls).before args s' = true := vx_ot_at hW0 hvm.symm (hgood _ (List.mem_cons_of_mem _ List.mem_cons_self)) hini
  have hU' : vx_Zq Bundle.tN "UNASSIGNED_STACK" Bundle.steD A s' s'.heap := by rw [hhp]; exact vx_Zq.moved hW0.alike (hU.kept hS.2.1)
  have hN' : vx_Zq Bundle.tN "SUPPRESSED_SENTINEL" Bundle.listD A s' s'.heap := by rw [hhp]; exact vx_Zq.moved hW0.alike (hN.kept hS.2.1)
  have h : ∀ w ∈ Bundle.ownAtoms0 own ic cls names, w.before args s' = true := vx_own hat' (vx_isRefq hU'.1) (vx_isRefq hN'.1) hU'.2.word hN'.2.word
  have hown' : s'.vm.findClass own = some m.cls := by rw [hvm]; exact hown
  have hins : (Cond.instantiable cls 6).before args s' = true := h _ (by simp [Bundle.ownAtoms0])
  obtain ⟨vm₁, cX, kX, hfX, hkX, -, -, X₁, st1⟩ := Y.newCold hexec (own := own) (C := cls) (index := ik) (n := 6) hown' hk' hins hini'
    (g := F0 m pc ls rest) rfl (by rw [hb]; exact d0) (Nat.le_refl _) (Nat.le_refl _)
  generalize hT1 : (T.setVm vm₁).pushCell { cls := cX, slots := kX.instanceTypes.map defaultValue, vm := .none } = T1 at X₁ st1
  have hcat : (Value.ref T.heap.size).category = 1 := rfl
  have hcellA : T1.heap[T.heap.size]? = some (freshCell cX kX) := by rw [← hT1]; exact State.heap_pushCell_size _ _
  have d3' : decode c.code (pc + 3) = .ok (.dup, 1) := by rw [hb]; exact d3
  obtain ⟨U, hsteps, hrun, hend, hW, hsame, ce, hce, hO⟩ := X₁.ctorThrow0 hexec htr (own := own) (cls := cls) (names := names) (ic := ic) hown' hcls hnames h (fun x hx => nomatch hx) hfX hkX hcellA (by rw [hhp, hT]; exact Nat.le_refl _)
    (g := { method := m, pc := pc + 4, locals := ls, stack := .ref T.heap.size :: .ref T.heap.size :: rest, locked := none }) rfl hsize rfl rfl (rest := rest) rfl
    (by rw [hb]; exact d4) (by rw [hb]; exact d7) hout hRframes (by simp only [List.map_cons, List.sum_cons, hcat]; omega) hlocks
  obtain ⟨f1, f2⟩ := vx_frame hsame
  rw [hhp] at f1 f2
  have hWs : s.WarmedH U.vm := State.WarmedH.trans hW0 hW
  have hcl : s.vm.findClass cls = some ce.cls := by
    have h9 := hO.cls
    rw [hvm] at h9
    exact h9
  have hall : s.sameButNew ({ U with vm := s.vm } : State) locs mc ms := by
    subst hA
    obtain ⟨e1, e2⟩ := hsame
    rw [State.setFrames_setFrames] at e1
    have h2 : (T.setVm s.vm).sameButNew ({ U with vm := s.vm } : State) [] (0 + 1) (0 + 6) := ⟨e1, e2⟩
    have h3 := X.same.trans h2
    rw [List.append_nil] at h3
    exact h3.mono hc hs
  refine ⟨U, ?_, .threw T.heap.size, hrun, hend, Or.inr ⟨T.heap.size, rfl, cls, ce, locs, hx U hWs.alike f1 (fun q hq => f2 q hq (fun z hz => nomatch hz)), hce, hO.vm, hcl, hWs, hall, hf⟩⟩
  refine st1 _ ?_
  show Steps p.tables e below (T1.setTop { method := m, pc := pc + 3, locals := ls, stack := .ref T.heap.size :: rest, locked := none }) _
  jvm_step X₁.here [X₁.here.top, hexec, d3', Value.category]
  exact hsteps
/-- 'throw new E("text")': new; dup; ldc; invokespecial; athrow -/
theorem vx_throwS {cc : ByteArray} {pc : Nat} (hexec : p.tables.exec = Jvm.exec) (hb : c.code = cc) (hl : l.stackTraces = false) {own cls text : String} {names : List String} {ik is ic mc ms sa : Nat} {A : Nat → Prop}
    (hown : s.vm.findClass own = some m.cls) (hcls : Bundle.fit cls = true) (hnames : ∀ n ∈ names, Bundle.fit n = true)
    (hk : (Cond.classLink own ik cls).before args s = true) (hini : (Cond.initialized cls).before args s = true) (hstr : vk_R own is text sa s) (hat : ∀ w ∈ vx_atS own ic cls names, w.before args s = true)
    (hgood : ∀ w ∈ Cond.classLink own ik cls :: Cond.initialized cls :: vx_atS own ic cls names, vx_ot w = true)
    (hU : vx_Zq Bundle.tN "UNASSIGNED_STACK" Bundle.steD A s s.heap) (hN : vx_Zq Bundle.tN "SUPPRESSED_SENTINEL" Bundle.listD A s s.heap) (hS : va_S A s.heap H locs) (hsize : ls.size = c.maxLocals)
    (d0 : decode cc pc = .ok (.new ik, 3)) (d3 : decode cc (pc + 3) = .ok (.dup, 1)) (d4 : decode cc (pc + 4) = .ok (.ldc is, 2)) (d6 : decode cc (pc + 6) = .ok (.invokespecial ic, 3)) (d9 : decode cc (pc + 9) = .ok (.athrow, 1))
    (hout : ∀ x ∈ c.exceptionTable.toList, covers x (pc + 9) = false)
    (hRframes : names.length + 3 < R.frames) (hRlocals : (rest.map fun v => v.category).sum + (13 * (names.length + 1) + 43) ≤ R.locals) (hRcells : cells + 1 ≤ R.cells) (hRslots : slots + 6 ≤ R.slots) (hlocks : meth.locks = false)
    (hx : ∀ t : State, s.vm.Alike t.vm → H.size ≤ t.heap.size → (∀ q : Nat, q < H.size → t.heap[q]? = H[q]?) → XC cls s t)
    (hf : ∀ z ∈ locs, free z.base) (hc : cells + 1 ≤ mc) (hs : slots + 6 ≤ ms) :
    W p l e R s m args below meth c H locs cells slots (vx_MQ below Qc XC args s mc ms free) (F0 m pc ls rest) := by
  intro T hT X
  have htr : e.platform.stackTraces = false := (show e.platform.stackTraces = l.stackTraces by rw [X.admits.platform]).trans hl
  have Y := vx_rebase X (R' := { frames := R.frames, locals := R.locals, cells := 1, slots := 6 }) (Nat.le_refl _) (Nat.le_refl _) hRcells hRslots
  obtain ⟨s', hA⟩ : ∃ z, z = (T.setVm s.vm).setFrames (.invoking m args :: below) := ⟨_, rfl⟩
  rw [← hA] at Y
  have hvm : s'.vm = s.vm := by rw [hA]; rfl
  have hhp : s'.heap = H := by rw [hA]; exact hT
  have hW0 : s.WarmedH s'.vm := by rw [hvm]; exact State.WarmedH.refl s
  have hat' : ∀ w ∈ vx_atS own ic cls names, w.before args s' = true := fun w hw => vx_ot_at hW0 hvm.symm (hgood w (List.mem_cons_of_mem _ (List.mem_cons_of_mem _ hw))) (hat w hw)
  have hk' : (Cond.classLink own ik cls).before args s' = true := vx_ot_at hW0 hvm.symm (hgood _ List.mem_cons_self) hk
  have hini' : (Cond.initialized cls).before args s' = true := vx_ot_at hW0 hvm.symm (hgood _ (List.mem_cons_of_mem _ List.mem_cons_self)) hini
  have hU' : vx_Zq Bundle.tN "UNASSIGNED_STACK" Bundle.steD A s' s'.heap := by rw [hhp]; exact vx_Zq.moved hW0.alike (hU.kept hS.2.1)
  have hN' : vx_Zq Bundle.tN "SUPPRESSED_SENTINEL" Bundle.listD A s' s'.heap := by rw [hhp]; exact vx_Zq.moved hW0.alike (hN.kept hS.2.1)
  have h : ∀ w ∈ Bundle.ownAtoms own ic cls names, w.before args s' = true := vx_own hat' (vx_isRefq hU'.1) (vx_isRefq hN'.1) hU'.2.word hN'.2.word
  have hown' : s'.vm.findClass own = some m.cls := by rw [hvm]; exact hown
  have hins : (Cond.instantiable cls 6).before args s' = true := h _ (by simp [Bundle.ownAtoms])
  obtain ⟨vm₁, cX, kX, hfX, hkX, -, -, X₁, st1⟩ := Y.newCold hexec (own := own) (C := cls) (index := ik) (n := 6) hown' hk' hins hini'
    (g := F0 m pc ls rest) rfl (by rw [hb]; exact d0) (Nat.le_refl _) (Nat.le_refl _)
  generalize hT1 : (T.setVm vm₁).pushCell { cls := cX, slots := kX.instanceTypes.map defaultValue, vm := .none } = T1 at X₁ st1
  have hcat : (Value.ref T.heap.size).category = 1 := rfl
  have hcellA : T1.heap[T.heap.size]? = some (freshCell cX kX) := by rw [← hT1]; exact State.heap_pushCell_size _ _
  have d3' : decode c.code (pc + 3) = .ok (.dup, 1) := by rw [hb]; exact d3
  have d4' : decode c.code (pc + 4) = .ok (.ldc is, 2) := by rw [hb]; exact d4
  have hstr' : vk_R own is text sa s' := vk_R.warm hW0 hstr
  obtain ⟨U, hsteps, hrun, hend, hW, hsame, ce, hce, hO⟩ := X₁.ctorThrowS hexec htr (own := own) (cls := cls) (names := names) (ic := ic) hown' hcls hnames h (fun x hx => nomatch hx) hfX hkX hcellA (by rw [hhp, hT]; exact Nat.le_refl _) (msg := .ref sa) rfl
    (g := { method := m, pc := pc + 6, locals := ls, stack := .ref sa :: .ref T.heap.size :: .ref T.heap.size :: rest, locked := none }) rfl hsize rfl rfl (rest := rest) rfl
    (by rw [hb]; exact d6) (by rw [hb]; exact d9) hout hRframes (by simp only [List.map_cons, List.sum_cons, hcat]; omega) hlocks
  obtain ⟨f1, f2⟩ := vx_frame hsame
  rw [hhp] at f1 f2
  have hWs : s.WarmedH U.vm := State.WarmedH.trans hW0 hW
  have hcl : s.vm.findClass cls = some ce.cls := by
    have h9 := hO.cls
    rw [hvm] at h9
    exact h9
  have hall : s.sameButNew ({ U with vm := s.vm } : State) locs mc ms := by
    subst hA
    obtain ⟨e1, e2⟩ := hsame
    rw [State.setFrames_setFrames] at e1
    have h2 : (T.setVm s.vm).sameButNew ({ U with vm := s.vm } : State) [] (0 + 1) (0 + 6) := ⟨e1, e2⟩
    have h3 := X.same.trans h2
    rw [List.append_nil] at h3
    exact h3.mono hc hs
  refine ⟨U, ?_, .threw T.heap.size, hrun, hend, Or.inr ⟨T.heap.size, rfl, cls, ce, locs, hx U hWs.alike f1 (fun q hq => f2 q hq (fun z hz => nomatch hz)), hce, hO.vm, hcl, hWs, hall, hf⟩⟩
  refine st1 _ ?_
  show Steps p.tables e below (T1.setTop { method := m, pc := pc + 3, locals := ls, stack := .ref T.heap.size :: rest, locked := none }) _
  jvm_step X₁.here [X₁.here.top, hexec, d3', Value.category]
  exact X₁.ldcString hexec (own := own) (text := text) (index := is) (a := sa) hown' hstr'.1 hstr'.2
    (g := { method := m, pc := pc + 4, locals := ls, stack := .ref T.heap.size :: .ref T.heap.size :: rest, locked := none }) rfl d4' _ hsteps
/-- 'throw new E("text")', the text by a wide index -/
theorem vx_throwSW {cc : ByteArray} {pc : Nat} (hexec : p.tables.exec = Jvm.exec) (hb : c.code = cc) (hl : l.stackTraces = false) {own cls text : String} {names : List String} {ik is ic mc ms sa : Nat} {A : Nat → Prop}
    (hown : s.vm.findClass own = some m.cls) (hcls : Bundle.fit cls = true) (hnames : ∀ n ∈ names, Bundle.fit n = true)
    (hk : (Cond.classLink own ik cls).before args s = true) (hini : (Cond.initialized cls).before args s = true) (hstr : vk_R own is text sa s) (hat : ∀ w ∈ vx_atS own ic cls names, w.before args s = true)
    (hgood : ∀ w ∈ Cond.classLink own ik cls :: Cond.initialized cls :: vx_atS own ic cls names, vx_ot w = true)
    (hU : vx_Zq Bundle.tN "UNASSIGNED_STACK" Bundle.steD A s s.heap) (hN : vx_Zq Bundle.tN "SUPPRESSED_SENTINEL" Bundle.listD A s s.heap) (hS : va_S A s.heap H locs) (hsize : ls.size = c.maxLocals)
    (d0 : decode cc pc = .ok (.new ik, 3)) (d3 : decode cc (pc + 3) = .ok (.dup, 1)) (d4 : decode cc (pc + 4) = .ok (.ldc_w is, 3)) (d7 : decode cc (pc + 7) = .ok (.invokespecial ic, 3)) (d10 : decode cc (pc + 10) = .ok (.athrow, 1))
    (hout : ∀ x ∈ c.exceptionTable.toList, covers x (pc + 10) = false)
    (hRframes : names.length + 3 < R.frames) (hRlocals : (rest.map fun v => v.category).sum + (13 * (names.length + 1) + 43) ≤ R.locals) (hRcells : cells + 1 ≤ R.cells) (hRslots : slots + 6 ≤ R.slots) (hlocks : meth.locks = false)
    (hx : ∀ t : State, s.vm.Alike t.vm → H.size ≤ t.heap.size → (∀ q : Nat, q < H.size → t.heap[q]? = H[q]?) → XC cls s t)
    (hf : ∀ z ∈ locs, free z.base) (hc : cells + 1 ≤ mc) (hs : slots + 6 ≤ ms) :
    W p l e R s m args below meth c H locs cells slots (vx_MQ below Qc XC args s mc ms free) (F0 m pc ls rest) := by
  intro T hT X
  have htr : e.platform.stackTraces = false := (show e.platform.stackTraces = l.stackTraces by rw [X.admits.platform]).trans hl
  have Y := vx_rebase X (R' := { frames := R.frames, locals := R.locals, cells := 1, slots := 6 }) (Nat.le_refl _) (Nat.le_refl _) hRcells hRslots
  obtain ⟨s', hA⟩ : ∃ z, z = (T.setVm s.vm).setFrames (.invoking m args :: below) := ⟨_, rfl⟩
  rw [← hA] at Y
  have hvm : s'.vm = s.vm := by rw [hA]; rfl
  have hhp : s'.heap = H := by rw [hA]; exact hT
  have hW0 : s.WarmedH s'.vm := by rw [hvm]; exact State.WarmedH.refl s
  have hat' : ∀ w ∈ vx_atS own ic cls names, w.before args s' = true := fun w hw => vx_ot_at hW0 hvm.symm (hgood w (List.mem_cons_of_mem _ (List.mem_cons_of_mem _ hw))) (hat w hw)
  have hk' : (Cond.classLink own ik cls).before args s' = true := vx_ot_at hW0 hvm.symm (hgood _ List.mem_cons_self) hk
  have hini' : (Cond.initialized cls).before args s' = true := vx_ot_at hW0 hvm.symm (hgood _ (List.mem_cons_of_mem _ List.mem_cons_self)) hini
  have hU' : vx_Zq Bundle.tN "UNASSIGNED_STACK" Bundle.steD A s' s'.heap := by rw [hhp]; exact vx_Zq.moved hW0.alike (hU.kept hS.2.1)
  have hN' : vx_Zq Bundle.tN "SUPPRESSED_SENTINEL" Bundle.listD A s' s'.heap := by rw [hhp]; exact vx_Zq.moved hW0.alike (hN.kept hS.2.1)
  have h : ∀ w ∈ Bundle.ownAtoms own ic cls names, w.before args s' = true := vx_own hat' (vx_isRefq hU'.1) (vx_isRefq hN'.1) hU'.2.word hN'.2.word
  have hown' : s'.vm.findClass own = some m.cls := by rw [hvm]; exact hown
  have hins : (Cond.instantiable cls 6).before args s' = true := h _ (by simp [Bundle.ownAtoms])
  obtain ⟨vm₁, cX, kX, hfX, hkX, -, -, X₁, st1⟩ := Y.newCold hexec (own := own) (C := cls) (index := ik) (n := 6) hown' hk' hins hini'
    (g := F0 m pc ls rest) rfl (by rw [hb]; exact d0) (Nat.le_refl _) (Nat.le_refl _)
  generalize hT1 : (T.setVm vm₁).pushCell { cls := cX, slots := kX.instanceTypes.map defaultValue, vm := .none } = T1 at X₁ st1
  have hcat : (Value.ref T.heap.size).category = 1 := rfl
  have hcellA : T1.heap[T.heap.size]? = some (freshCell cX kX) := by rw [← hT1]; exact State.heap_pushCell_size _ _
  have d3' : decode c.code (pc + 3) = .ok (.dup, 1) := by rw [hb]; exact d3
  have d4' : decode c.code (pc + 4) = .ok (.ldc_w is, 3) := by rw [hb]; exact d4
  have hstr' : vk_R own is text sa s' := vk_R.warm hW0 hstr
  obtain ⟨U, hsteps, hrun, hend, hW, hsame, ce, hce, hO⟩ := X₁.ctorThrowS hexec htr (own := own) (cls := cls) (names := names) (ic := ic) hown' hcls hnames h (fun x hx => nomatch hx) hfX hkX hcellA (by rw [hhp, hT]; exact Nat.le_refl _) (msg := .ref sa) rfl
    (g := { method := m, pc := pc + 7, locals := ls, stack := .ref sa :: .ref T.heap.size :: .ref T.heap.size :: rest, locked := none }) rfl hsize rfl rfl (rest := rest) rfl
    (by rw [hb]; exact d7) (by rw [hb]; exact d10) hout hRframes (by simp only [List.map_cons, List.sum_cons, hcat]; omega) hlocks
  obtain ⟨f1, f2⟩ := vx_frame hsame
  rw [hhp] at f1 f2
  have hWs : s.WarmedH U.vm := State.WarmedH.trans hW0 hW
  have hcl : s.vm.findClass cls = some ce.cls := by
    have h9 := hO.cls
    rw [hvm] at h9
    exact h9
  have hall : s.sameButNew ({ U with vm := s.vm } : State) locs mc ms := by
    subst hA
    obtain ⟨e1, e2⟩ := hsame
    rw [State.setFrames_setFrames] at e1
    have h2 : (T.setVm s.vm).sameButNew ({ U with vm := s.vm } : State) [] (0 + 1) (0 + 6) := ⟨e1, e2⟩
    have h3 := X.same.trans h2
    rw [List.append_nil] at h3
    exact h3.mono hc hs
  refine ⟨U, ?_, .threw T.heap.size, hrun, hend, Or.inr ⟨T.heap.size, rfl, cls, ce, locs, hx U hWs.alike f1 (fun q hq => f2 q hq (fun z hz => nomatch hz)), hce, hO.vm, hcl, hWs, hall, hf⟩⟩
  refine st1 _ ?_
  show Steps p.tables e below (T1.setTop { method := m, pc := pc + 3, locals := ls, stack := .ref T.heap.size :: rest, locked := none }) _
  jvm_step X₁.here [X₁.here.top, hexec, d3', Value.category]
  exact X₁.ldcStringW hexec (own := own) (text := text) (index := is) (a := sa) hown' hstr'.1 hstr'.2
    (g := { method := m, pc := pc + 4, locals := ls, stack := .ref T.heap.size :: .ref T.heap.size :: rest, locked := none }) rfl d4' _ hsteps
end Ends
section Bodies
variable {l : Launch}
theorem vx_ofW {y : MethodName} {ws ws' : List Cond} {rm : Room} {Pc : Array Value → State → Prop} {Qc : Array Value → State → Outcome → State → Prop} {XC : String → State → State → Prop} {mc ms : Nat} {free : Addr → Prop} {cc : ByteArray} {maxL : Nat} {ret : Option FieldType}
    (hy : plainName y.cls = true) (hw : ws = Cond.code y cc maxL ret :: ws')
    (body : ∀ p e s m args below meth c s₁, BodyLoose p l y (headSpec ws rm) cc maxL ret e s m args below meth c s₁ → c.maxLocals = maxL → (∀ x ∈ c.exceptionTable.toList, False) → Pc args s →
      W p l e (headSpec ws rm).room s m args below meth c s.heap [] 0 0 (vx_MQ below Qc XC args s mc ms free) (entryFrame m args maxL)) : vx_Met l y ws rm Pc Qc XC mc ms free := by
  refine MetFree.of_bodyS (code := cc) (maxLocals := maxL) (ret := ret) hy ?_ ?_
  · intro args s m h hn
    obtain ⟨meth, c, h1, h2, h3, h4, h5, h6, -, -⟩ := Cond.code_spec hn (atoms_spec (ws := ws) h _ (by rw [hw]; exact List.mem_cons_self))
    exact ⟨meth, c, h1, h2, h3, h4, h5, h6⟩
  · intro p e s m args below meth c s₁ B hml hP _
    have hh0 : s₁.heap = s.heap := by rw [B.state]; rfl
    have ht : ∀ x ∈ c.exceptionTable.toList, False := by
      obtain ⟨meth9, c9, h1, h2, -, -, -, -, h7, -⟩ := Cond.code_spec B.named (atoms_spec (ws := ws) B.pre _ (by rw [hw]; exact List.mem_cons_self))
      cases Option.some.inj (h1.symm.trans B.method)
      cases Option.some.inj (h2.symm.trans (Stand.of_body B).code)
      intro x hx
      rw [Array.isEmpty_iff.mp h7] at hx
      cases hx
    obtain ⟨t, a1, o, b1, b2, b3⟩ := body p e s m args below meth c s₁ B hml ht hP s₁ hh0 (Stand.of_body B)
    exact ⟨t, o, a1, b1, b2, b3⟩
/-- the table of a body with handlers -/
theorem vx_table {p : Program} {x y : MethodName} {S : Spec} {cc bytes : ByteArray} {maxL maxL' : Nat} {ret ret' : Option FieldType} {e : Env} {s s₁ : State} {m : MethodId} {args : Array Value} {below : List Frame} {meth : Method} {c : Code} {hh : List (Nat × Nat × Nat × Nat)}
    (B : BodyLoose p l y S cc maxL ret e s m args below meth c s₁) (h : (Cond.codeWith y bytes maxL' ret' hh).before args s = true) : c.exceptionTable.toList = tableOf hh := by
  obtain ⟨m9, meth9, c9, hn9, h1, h2, -, -, h6, -⟩ := Cond.codeWith_spec h
  cases Option.some.inj (hn9.symm.trans B.named)
  cases Option.some.inj (h1.symm.trans B.method)
  cases Option.some.inj (h2.symm.trans (Stand.of_body B).code)
  rw [← h6, table_eq]
end Bodies
end VXA
/-! ===== END ===== -/
/-! ===== BEGIN a static call of a method with an exception table ===== -/
section VXS
variable {p : Program} {l : Launch} {e : Env} {R : Room} {s : State} {m : MethodId} {args : Array Value} {below : List Frame} {meth : Method} {c : Code} {T : State} {H : Heap} {locs : List Loc} {cells slots : Nat}
abbrev vx_CSW (R : Room) (s : State) (args : Array Value) (own : String) (index : Nat) (y : MethodName) (bytes : ByteArray) (maxL : Nat) (ret : Option FieldType) (hh : List (Nat × Nat × Nat × Nat)) (ws : List Cond) (rm : Room) (mc ms n : Nat) : Prop :=
  (rm.cells = mc ∧ rm.slots = ms ∧ rm.frames + 1 ≤ R.frames ∧ 8 + (maxL + 11) + rm.locals ≤ R.locals ∧ (∀ w ∈ ws, ∀ (a' : Array Value) (U : State), s.WarmedH U.vm → w.before a' U = true) ∧ Cond.codeWith y bytes maxL ret hh ∈ ws) ∧
  (Cond.codeWith y bytes maxL ret hh).before args s = true ∧ (Cond.initialized y.cls).before args s = true ∧ (y.cls ≠ "java/lang/invoke/MethodHandle" ∧ y.cls ≠ "java/lang/invoke/VarHandle") ∧
  (∀ sig, parseMethodDescriptor y.desc = some sig → n = sig.parameters.length) ∧ (Cond.methodLink own index y).before args s = true ∧ (Cond.static y).before args s = true
theorem vx_cwSW {own : String} {index maxL mc ms : Nat} {y : MethodName} {bytes : ByteArray} {ret : Option FieldType} {hh : List (Nat × Nat × Nat × Nat)} {Ts ws ws' : List Cond} {rm : Room} (n : Nat) (ht : ∀ w ∈ Ts, w.before args s = true) (hT : GoodIn Ts (va_wsS own index y ws)) (hw : ws = Cond.codeWith y bytes maxL ret hh :: ws') (hrc : rm.cells = mc) (hrs : rm.slots = ms)
    (hd : y.cls ≠ "java/lang/invoke/MethodHandle" ∧ y.cls ≠ "java/lang/invoke/VarHandle" ∧ (parseMethodDescriptor y.desc).map (fun d => d.parameters.length) = some n) (hR : rm.frames + 1 ≤ R.frames ∧ 8 + (maxL + 11) + rm.locals ≤ R.locals) :
    vx_CSW R s args own index y bytes maxL ret hh ws rm mc ms n := by
  have ok : ∀ w ∈ va_wsS own index y ws, w.before args s = true := fun w h => ht w (hT w h).1
  have hG : GoodIn Ts ws := fun w h => hT w (by unfold va_wsS; exact List.mem_append_right _ h)
  have hc : Cond.codeWith y bytes maxL ret hh ∈ ws := by rw [hw]; exact List.mem_cons_self
  refine ⟨⟨hrc, hrs, hR.1, hR.2, pay_in ht hG, hc⟩, ht _ (hG _ hc).1, ok _ (by simp [va_wsS]), ⟨hd.1, hd.2.1⟩, fun sig h => ?_, ok _ (by simp [va_wsS]), ok _ (by simp [va_wsS])⟩
  have h2 := hd.2.2
  rw [h] at h2
  exact (Option.some.inj h2).symm
theorem vx_callSW (X : Stand p l e R s m args below meth c T locs cells slots) (hexec : p.tables.exec = Jvm.exec) {own : String} {index : Nat} {y : MethodName} {bytes : ByteArray} {maxL : Nat} {ret : Option FieldType} {hh : List (Nat × Nat × Nat × Nat)}
    (hown : s.vm.findClass own = some m.cls) (hlink : (Cond.methodLink own index y).before args s = true) (hstat : (Cond.static y).before args s = true) (hinit : (Cond.initialized y.cls).before args s = true)
    (hcode : (Cond.codeWith y bytes maxL ret hh).before args s = true) (hy : y.cls ≠ "java/lang/invoke/MethodHandle" ∧ y.cls ≠ "java/lang/invoke/VarHandle")
    {W9 : Nat} {Pre : Pt → Array Value → Prop} {Post : Pt → Array Value → Option Value → Pt → Prop} (hK : Back l R p e below s args y 3 W9 Pre Post)
    {g : JFrame} (hg : g.method = m) (hsize : g.locals.size = c.maxLocals) {argsL rest : List Value} (hlen : ∀ sig, parseMethodDescriptor y.desc = some sig → argsL.length = sig.parameters.length)
    (hstack : g.stack = argsL.reverse ++ rest) (hW : 2 * g.monitorRoom + (rest.map fun v => v.category).sum ≤ W9) (hdg : decode c.code g.pc = .ok (.invokestatic index, 3))
    (hpre : ∀ vm₁, s.WarmedH vm₁ → Pre ⟨T.setVm vm₁, locs, cells, slots⟩ argsL.toArray) :
    ∃ (v : Option Value) (vm₁ : Vm) (B : Pt), s.WarmedH vm₁ ∧ Stand p l e R s m args below meth c B.U B.locs B.cells B.slots ∧ Post ⟨T.setVm vm₁, locs, cells, slots⟩ argsL.toArray v B ∧
      ∀ target, Steps p.tables e below (B.U.setTop { g with pc := g.pc + 3, stack := v.toList ++ rest }) target → Steps p.tables e below (T.setTop g) target := by
  obtain ⟨mk, methM, cM, hnamed, hmethM, -, -, -, -, -, -, hsigM⟩ := Cond.codeWith_spec hcode
  have hstatic : methM.isStatic = true := Cond.static_spec hnamed hmethM hstat
  obtain ⟨kP, hkP, -⟩ := className_of_methodNamed hnamed
  have hinitP : kP.init = .initialized := Cond.initialized_spec (findClass_of_methodNamed hnamed) hkP hinit
  obtain ⟨vm₁, X₁, hstep₁⟩ := X.invokestatic hexec hown hlink hnamed hmethM hstatic hkP hinitP hy (g := g) hg (argsL := argsL) (rest := rest) (hlen _ hsigM) hstack hdg
  obtain ⟨v, B, X', hpost, hsteps⟩ := hK m meth c ⟨T.setVm vm₁, locs, cells, slots⟩ { g with stack := rest } (.invokestatic index) mk argsL.toArray X₁ hg hsize hdg hW (X₁.named hnamed) (hpre vm₁ X₁.warmed)
  exact ⟨v, vm₁, B, X₁.warmed, X', hpost, fun target h => hstep₁ _ fun acts => by rw [doInvoke_state]; exact hsteps.trans h⟩
theorem vx_runSW {y : MethodName} {bytes cc : ByteArray} {maxL nL mc ms n index : Nat} {ret : Option FieldType} {hh : List (Nat × Nat × Nat × Nat)} {ws : List Cond} {rm : Room} {Pc : Array Value → State → Prop} {Qc : Array Value → State → Outcome → State → Prop} {free : Addr → Prop} {Ts : List Cond} {own : String} {As rest : List Value} {g : JFrame}
    (S : CallFix p m c cc nL s args Ts own) (hM : Met l y ws rm Pc Qc mc ms free) (cw : vx_CSW R s args own index y bytes maxL ret hh ws rm mc ms n) (hp : PreS s H Pc As)
    (hg : g.method = m) (hn : As.length = n) (hsize : g.locals.size = nL) (hstack : g.stack = As.reverse ++ rest) (hW : 2 * g.monitorRoom + (rest.map fun v => v.category).sum ≤ 8) (hdg : decode cc g.pc = .ok (.invokestatic index, 3)) (hf : cells + mc ≤ R.cells ∧ slots + ms ≤ R.slots) :
    va_Run p l e R s m args below meth c H locs cells slots mc ms g rest (Qc As.toArray) (free) := by
  obtain ⟨⟨hrc, hrs, hfr, hlo, hws, hcw⟩, hcode, hini, hy, hlen, hl, hstt⟩ := cw
  have hK : Back l R p e below s args y 3 8 (PreOf R mc ms Pc) (PostOf Qc mc ms free) := va_backW (hh := hh) (bytes := bytes) (maxL := maxL) (ret := ret) hM hp.1 hrc hrs hfr hlo hws hcw (fun a' U hW => word_at hW (Or.inl (by first | rfl | simp [Cond.onTables, Cond.keeps, Cond.steady])) hini)
  obtain ⟨hx, hb, hml, ho, -⟩ := S
  intro T hT X
  obtain ⟨v, vm₁, ⟨U', l2, c2, s2⟩, hW₁, X', ⟨g', mk, t, L, e1, e2, hq, h1, hL, h2, h3⟩, st⟩ := vx_callSW X hx (hh := hh) (bytes := bytes) (maxL := maxL) (ret := ret) ho hl hstt hini hcode hy hK hg (hsize.trans hml.symm) (argsL := As) (rest := rest) (fun sig h => hn.trans (hlen sig h)) hstack hW (by rw [hb]; exact hdg)
    (fun vm₁ hW₁ => ⟨hf.1, hf.2, hp.2 (T.setVm vm₁) hT hW₁⟩)
  dsimp only [Pt.U, Pt.locs, Pt.cells, Pt.slots] at X' e1 e2 h1 h2 h3 st
  subst h1; subst h2; subst h3
  exact ⟨v, (T.setVm vm₁).calling g' mk As.toArray, t, U', L, hT, X', hL, e1, e2, hq, st⟩
/-- not caught here, past rows that name other classes: it goes on to the caller -/
theorem vx_outP {p : Program} {l : Launch} {e : Env} {R : Room} {s : State} {m : MethodId} {args : Array Value} {below : List Frame} {meth : Method} {c : Code} {H : Heap} {locs : List Loc} {cells slots : Nat} {free : Addr → Prop} {ls : Array Slot} {rest : List Value} {Qc : Array Value → State → Outcome → State → Prop} {XC : String → State → State → Prop}
    {pc : Nat} {own E : String} {ce : Cell} {q : Addr} {mc ms : Nat} (hown : s.vm.findClass own = some m.cls) (hlocks : meth.locks = false)
    (hpass : ∀ z ∈ c.exceptionTable.toList, covers z pc = false ∨ (z.catchType ≠ 0 ∧ ∃ nm : String, (Cond.classLink own z.catchType nm).before args s = true ∧ va_Nc E nm s)) (hcell : H[q]? = some ce) (hv : ce.vm = .none) (hcl : s.vm.findClass E = some ce.cls)
    (hx : ∀ t : State, t.heap = H → s.vm.Alike t.vm → XC E s t) (hf : ∀ z ∈ locs, free z.base) (hc : cells ≤ mc) (hs : slots ≤ ms) :
    vx_W p l e R s m args below meth c H locs cells slots (vx_MQ below Qc XC args s mc ms free) (F0 m pc ls rest) q := by
  intro T hT X
  have hpl : e.platform.magicAccessors = ({} : Platform).magicAccessors := by rw [X.admits.platform]
  obtain ⟨vm', hW', X', st⟩ := Stand.outThrough X hlocks q (g := F0 m pc ls rest) rfl rfl rfl (cell := ce) (by rw [hT]; exact hcell) (by rw [hv]; rfl)
    (by obtain ⟨k9, h9, -⟩ := Vm.findClass_spec hcl; exact ⟨k9, h9⟩) (fun z hz => by
      rcases hpass z hz with h | ⟨hz0, nm, hl1, hn1⟩
      · exact Or.inl h
      · obtain ⟨c6, hc6, hcl6⟩ := Cond.classLink_spec hown hl1 e.platform hpl
        obtain ⟨a8, b8, h1, h2, h3⟩ := hn1
        cases Option.some.inj (h1.symm.trans hcl)
        cases Option.some.inj (h2.symm.trans hc6)
        exact Or.inr ⟨hz0, _, hcl6, h3⟩)
  obtain ⟨g₀, hfr⟩ := X'.frames_eq
  have hcell9 : ((T.setVm vm').setFrames (.throwing q :: below)).heap[q]? = some ce := by
    show T.heap[q]? = some ce
    rw [hT]; exact hcell
  have hend : Ended ((T.setVm vm').setFrames (.throwing q :: below)) below (.threw q) := State.frames_setFrames _ (State.cur_lt_of_frames hfr)
  refine ⟨(T.setVm vm').setFrames (.throwing q :: below), ?_, .threw q, X'.here.running, hend, Or.inr ⟨q, rfl, E, ce, locs, hx _ hT (X'.ends _).1.alike, hcell9, hv, hcl, (X'.ends _).1, (X'.ends _).2.mono hc hs, hf⟩⟩
  rw [X.pushThrowing_eq]
  exact st
/-- a thing of a world lies in the heap -/
theorem vx_lt {D : va_G} {cl : List vw_C} {ws : va_W} {H1 : Heap} (h : va_P D cl ws H1) {k : Nat} {q : Nat × va_E} (hk : ws[k]? = some q) : q.1 < H1.size := (h k q hk).lt
end VXS
/-! ===== END ===== -/
/-! ===== BEGIN methods with a table of their own: called by a name, returning or throwing ===== -/
section VXH
/-! vx_backW, vx_callVX, vx_callSX, vx_callVW, vx_runVW, vx_runVX, vx_runSX, vx_ofWH follow the same proofs as their sisters above (Free/Laws.lean, Shelf42/LK1.lean); vx_outP calls Shelf42/NT130.lean (outThrough). -/
section
variable {l : Launch} {R : Room} {p : Program} {e : Env} {below : List Frame} {s : State} {sargs : Array Value} {y : MethodName} {len W9 : Nat}
theorem vx_backW {ws : List Cond} {rm : Room} {Pc : Array Value → State → Prop} {Qc : Array Value → State → Outcome → State → Prop} {XC : String → State → State → Prop} {mc ms : Nat} {free : Addr → Prop} {bytes : ByteArray} {maxL : Nat} {ret : Option FieldType} {hh : List (Nat × Nat × Nat × Nat)}
    (hM : vx_Met l y ws rm Pc Qc XC mc ms free) (hblind : FrameBlind Pc) (hrc : rm.cells = mc) (hrs : rm.slots = ms)
    (hframes : rm.frames + 1 ≤ R.frames) (hlocals : W9 + (maxL + 11) + rm.locals ≤ R.locals)
    (hws : ∀ w ∈ ws, ∀ a' U, s.WarmedH U.vm → w.before a' U = true) (hcode : Cond.codeWith y bytes maxL ret hh ∈ ws) (hinit : ∀ a' U, s.WarmedH U.vm → (Cond.initialized y.cls).before a' U = true) :
    vx_Back l R p e below s sargs y len W9 (PreOf R mc ms Pc) (PostOf Qc mc ms free) (vx_Post XC mc ms free) := by
  intro m meth c A g ig mk a X hg hsize hdg hW hn hp
  have h1 : (headSpec ws rm).pre.before a A.U = true := atoms_intro fun w hw => hws w hw _ _ X.warmed
  have h2 : (Cond.codeWith y bytes maxL ret hh).before a A.U = true := hws _ hcode _ _ X.warmed
  have h3 : (Cond.initialized y.cls).before a A.U = true := hinit _ _ X.warmed
  have h4 : A.cells + (headSpec ws rm).room.cells ≤ R.cells := by rw [show (headSpec ws rm).room.cells = mc from hrc]; exact hp.1
  have h5 : A.slots + (headSpec ws rm).room.slots ≤ R.slots := by rw [show (headSpec ws rm).room.slots = ms from hrs]; exact hp.2.1
  have hPc : Pc a (A.U.calling g mk a) := hblind _ _ _ _ hp.2.2
  obtain ⟨U, Ls, c0, s0⟩ := A
  dsimp only [Pt.U, Pt.locs, Pt.cells, Pt.slots] at h1 h2 h3 h4 h5 X hn hPc ⊢
  obtain ⟨m9, methY, cY, hn9, hmY, hcY, -, hlY, -⟩ := Cond.codeWith_spec h2
  cases Option.some.inj (hn9.symm.trans hn)
  obtain ⟨kY, hkY, -⟩ := className_of_methodNamed hn
  have hinitY : kY.init = .initialized := Cond.initialized_spec (findClass_of_methodNamed hn) hkY h3
  have h : At U g.method c below := by rw [hg]; exact X.here
  have hlocals9 : W9 + (maxL + 11) + (headSpec ws rm).room.locals ≤ R.locals := hlocals
  have happ : (headSpec ws rm).appliesLoose y e.platform (U.calling g mk a) = true :=
    Spec.appliesLoose_calling (g := g) h hdg hn hkY hinitY
      (X.room_calling (g := g) (R' := (headSpec ws rm).room) hsize hmY hcY hframes (by rw [hlY]; omega) h4 h5) h1
  obtain ⟨mid, hmid⟩ := h.above
  have hfr : (U.setTop g).frames = (.java g :: mid) ++ below := by rw [State.frames_setTop' g h.top, hmid]; rfl
  obtain ⟨o, s₂, hsteps, -, hend, hq⟩ := Steps.callFree hM p X.admits X.cas X.clock (acts := []) hfr happ hPc trivial
  have hq' : vx_Q Qc XC mc ms free a (U.calling g mk a) o s₂ := hq
  rw [State.frames_setTop' g h.top] at hend
  obtain ⟨g₀, hg0⟩ := Option.isSome_iff_exists.mp h.top
  obtain ⟨r, hr⟩ := State.topJava?_eq_some.mp hg0
  have hr' : (({ U with heap := s₂.heap, slotsUsed := s₂.slotsUsed } : State).setVm s₂.vm).frames = .java g₀ :: r := hr
  rcases hq' with ⟨hqc, L, hfe, hL⟩ | ⟨q, rfl, E, ce, L, hx, hce, hcv, hcl, hW₂, hsm, hL⟩
  · obtain ⟨⟨v, rfl⟩, hW₂, e2, q2, q3, q4, q5, q6⟩ := id hfe
    have e3 : s₂ = ({ (U.calling g mk a).setFrames s₂.frames with heap := s₂.heap, slotsUsed := s₂.slotsUsed } : State).setVm s₂.vm := by
      have : s₂ = ({ s₂ with vm := (U.calling g mk a).vm } : State).setVm s₂.vm := rfl
      rw [e2] at this
      exact this
    obtain ⟨c₂, i₂, len₂, hc₂, hd₂, hf₂⟩ := hend
    have hW' : U.WarmedH s₂.vm := hW₂
    have hcc : c₂ = c := by
      have h1 : s₂.code? g.method = U.code? g.method := by
        rw [State.code?_eq, State.code?_eq, hW'.alike.method?]
      exact Option.some.inj (hc₂.symm.trans (h1.trans h.code))
    subst hcc
    have hlen : len₂ = len := by rw [hdg] at hd₂; cases hd₂; rfl
    subst hlen
    have hs₂ : s₂ = (({ U with heap := s₂.heap, slotsUsed := s₂.slotsUsed } : State).setVm s₂.vm).setTop { g with pc := g.pc + len₂, stack := v.toList ++ g.stack } := by
      refine e3.trans ?_
      rw [hf₂, State.calling_eq h.top, State.setFrames_setFrames, State.setTop_of_frames _ hr', hr]
      rfl
    have hsame : U.sameButNew ({ U with heap := s₂.heap, slotsUsed := s₂.slotsUsed } : State) L mc ms := by
      refine ⟨?_, q2, q3, q4, q5, q6⟩
      obtain ⟨t, ht, -⟩ := State.frames_cons hr
      show ({ U with heap := s₂.heap, slotsUsed := s₂.slotsUsed } : State) = { U.setFrames U.frames with heap := s₂.heap, slotsUsed := s₂.slotsUsed }
      rw [State.setFrames_self ht]
    subst hg
    refine Or.inl ⟨v, ⟨(({ U with heap := s₂.heap, slotsUsed := s₂.slotsUsed } : State).setVm s₂.vm), Ls ++ L, c0 + mc, s0 + ms⟩,
      ⟨X.admits, X.cas, X.clock, X.frames, X.room, X.hears, X.method, X.code, (X.here.setHeapUsed s₂.heap s₂.slotsUsed).setVm hW'.alike, X.tail, State.WarmedH.trans X.warmed hW', X.limits, X.bytes, X.same.trans (hsame.setVm s.vm)⟩,
      ⟨g, mk, s₂, L, rfl, rfl, hqc, rfl, hL, rfl, rfl⟩, ?_⟩
    show Steps p.tables e below _ ((({ U with heap := s₂.heap, slotsUsed := s₂.slotsUsed } : State).setVm s₂.vm).setTop { g with pc := g.pc + len₂, stack := v.toList ++ g.stack })
    rw [← hs₂]
    exact hsteps
  · obtain ⟨e2, q2, q3, q4, q5, q6⟩ := id hsm
    have e3 : s₂ = ({ (U.calling g mk a).setFrames s₂.frames with heap := s₂.heap, slotsUsed := s₂.slotsUsed } : State).setVm s₂.vm := by
      have : s₂ = ({ s₂ with vm := (U.calling g mk a).vm } : State).setVm s₂.vm := rfl
      rw [e2] at this
      exact this
    have hf₂ : s₂.frames = .throwing q :: .java g :: U.frames.tail := hend
    have hW' : U.WarmedH s₂.vm := hW₂
    have hs₂ : s₂ = ((({ U with heap := s₂.heap, slotsUsed := s₂.slotsUsed } : State).setVm s₂.vm).setTop g).pushFrame (.throwing q) := by
      refine e3.trans ?_
      rw [hf₂, State.calling_eq h.top, State.setFrames_setFrames, State.pushFrame, State.frames_setTop _ hr', State.setTop_of_frames _ hr', State.setFrames_setFrames, hr]
      rfl
    have hsame : U.sameButNew ({ U with heap := s₂.heap, slotsUsed := s₂.slotsUsed } : State) L mc ms := by
      refine ⟨?_, q2, q3, q4, q5, q6⟩
      obtain ⟨t, ht, -⟩ := State.frames_cons hr
      show ({ U with heap := s₂.heap, slotsUsed := s₂.slotsUsed } : State) = { U.setFrames U.frames with heap := s₂.heap, slotsUsed := s₂.slotsUsed }
      rw [State.setFrames_self ht]
    subst hg
    refine Or.inr ⟨q, ⟨(({ U with heap := s₂.heap, slotsUsed := s₂.slotsUsed } : State).setVm s₂.vm), Ls ++ L, c0 + mc, s0 + ms⟩,
      ⟨X.admits, X.cas, X.clock, X.frames, X.room, X.hears, X.method, X.code, (X.here.setHeapUsed s₂.heap s₂.slotsUsed).setVm hW'.alike, X.tail, State.WarmedH.trans X.warmed hW', X.limits, X.bytes, X.same.trans (hsame.setVm s.vm)⟩,
      ⟨g, mk, s₂, L, E, ce, rfl, rfl, hx, hce, hcv, hcl, rfl, hL, rfl, rfl⟩, ?_⟩
    show Steps p.tables e below _ (((({ U with heap := s₂.heap, slotsUsed := s₂.slotsUsed } : State).setVm s₂.vm).setTop g).pushFrame (.throwing q))
    rw [← hs₂]
    exact hsteps
end
variable {p : Program} {l : Launch} {e : Env} {R : Room} {s : State} {m : MethodId} {args : Array Value} {below : List Frame} {meth : Method} {c : Code} {T : State} {H : Heap} {locs : List Loc} {cells slots : Nat}
theorem vx_callVX (X : Stand p l e R s m args below meth c T locs cells slots) (hexec : p.tables.exec = Jvm.exec) {own C : String} {index : Nat} {y : MethodName} {bytes : ByteArray} {maxL : Nat} {ret : Option FieldType} {hh : List (Nat × Nat × Nat × Nat)}
    (hown : s.vm.findClass own = some m.cls) (hlink : (Cond.methodLink own index y).before args s = true) (hinst : (Cond.instanceMethod y).before args s = true) (hsel : (Cond.selects C y y).before args s = true)
    (hcode : (Cond.codeWith y bytes maxL ret hh).before args s = true) (hy : y.cls ≠ "java/lang/invoke/MethodHandle" ∧ y.cls ≠ "java/lang/invoke/VarHandle")
    {W9 : Nat} {Pre : Pt → Array Value → Prop} {Post : Pt → Array Value → Option Value → Pt → Prop} {PostX : Pt → Array Value → Addr → Pt → Prop} (hK : vx_Back l R p e below s args y 3 W9 Pre Post PostX)
    {b : Addr} {cellB : Cell} (hcell : T.heap[b]? = some cellB) (hobj : cellB.vm.isStatics = false) (hcls : s.vm.findClass C = some cellB.cls)
    {g : JFrame} (hg : g.method = m) (hsize : g.locals.size = c.maxLocals) {argsL rest : List Value} (hlen : ∀ sig, parseMethodDescriptor y.desc = some sig → argsL.length = sig.parameters.length)
    (hstack : g.stack = argsL.reverse ++ .ref b :: rest) (hW : 2 * g.monitorRoom + (rest.map fun v => v.category).sum ≤ W9) (hdg : decode c.code g.pc = .ok (.invokevirtual index, 3))
    (hpre : ∀ vm₁, s.WarmedH vm₁ → Pre ⟨T.setVm vm₁, locs, cells, slots⟩ (Value.ref b :: argsL).toArray) :
    (∃ (v : Option Value) (vm₁ : Vm) (B : Pt), s.WarmedH vm₁ ∧ Stand p l e R s m args below meth c B.U B.locs B.cells B.slots ∧ Post ⟨T.setVm vm₁, locs, cells, slots⟩ (Value.ref b :: argsL).toArray v B ∧
      ∀ target, Steps p.tables e below (B.U.setTop { g with pc := g.pc + 3, stack := v.toList ++ rest }) target → Steps p.tables e below (T.setTop g) target) ∨
    (∃ (q : Addr) (vm₁ : Vm) (B : Pt), s.WarmedH vm₁ ∧ Stand p l e R s m args below meth c B.U B.locs B.cells B.slots ∧ PostX ⟨T.setVm vm₁, locs, cells, slots⟩ (Value.ref b :: argsL).toArray q B ∧
      Steps p.tables e below (T.setTop g) ((B.U.setTop { g with stack := rest }).pushFrame (.throwing q))) := by
  obtain ⟨mk, methM, hnamed, hmethM, hstM, habM⟩ := Cond.instanceMethod_spec hinst
  obtain ⟨m8, methM', cM, hn8, hmethM', -, -, -, -, -, -, hsigM⟩ := Cond.codeWith_spec hcode
  cases Option.some.inj (hn8.symm.trans hnamed)
  cases hmethM.symm.trans hmethM'
  obtain ⟨c2, r2, m2, q1, q2, q3, q4, kP, hkP, hkPi⟩ := Cond.selects_spec hsel
  cases hcls.symm.trans q1
  cases (State.methodFound?_of_named hnamed hy).symm.trans q2
  cases hnamed.symm.trans q3
  have hselP : selectMethod e.platform s.vm cellB.cls mk = .method mk := by rw [Launch.admits_selectMethod X.admits]; exact q4
  obtain ⟨vm₁, X₁, hstep₁⟩ := X.invokevirtual hexec hown hlink hnamed hmethM hstM hkP hkPi hy (a := b) (cell := cellB) hcell
    (fun z h => by rw [h] at hobj; cases hobj) hselP hmethM habM hkP hkPi (g := g) hg (argsL := argsL) (rest := rest) (hlen _ hsigM) hstack hdg
  rcases hK m meth c ⟨T.setVm vm₁, locs, cells, slots⟩ { g with stack := rest } (.invokevirtual index) mk (Value.ref b :: argsL).toArray X₁ hg hsize hdg hW (X₁.named hnamed) (hpre vm₁ X₁.warmed) with ⟨v, B, X', hpost, hsteps⟩ | ⟨q, B, X', hpost, hsteps⟩
  · exact Or.inl ⟨v, vm₁, B, X₁.warmed, X', hpost, fun target h => hstep₁ _ fun acts => by rw [doInvoke_state]; exact hsteps.trans h⟩
  · exact Or.inr ⟨q, vm₁, B, X₁.warmed, X', hpost, hstep₁ _ fun acts => by rw [doInvoke_state]; exact hsteps⟩
theorem vx_callSX (X : Stand p l e R s m args below meth c T locs cells slots) (hexec : p.tables.exec = Jvm.exec) {own : String} {index : Nat} {y : MethodName} {bytes : ByteArray} {maxL : Nat} {ret : Option FieldType} {hh : List (Nat × Nat × Nat × Nat)}
    (hown : s.vm.findClass own = some m.cls) (hlink : (Cond.methodLink own index y).before args s = true) (hstat : (Cond.static y).before args s = true) (hinit : (Cond.initialized y.cls).before args s = true)
    (hcode : (Cond.codeWith y bytes maxL ret hh).before args s = true) (hy : y.cls ≠ "java/lang/invoke/MethodHandle" ∧ y.cls ≠ "java/lang/invoke/VarHandle")
    {W9 : Nat} {Pre : Pt → Array Value → Prop} {Post : Pt → Array Value → Option Value → Pt → Prop} {PostX : Pt → Array Value → Addr → Pt → Prop} (hK : vx_Back l R p e below s args y 3 W9 Pre Post PostX)
    {g : JFrame} (hg : g.method = m) (hsize : g.locals.size = c.maxLocals) {argsL rest : List Value} (hlen : ∀ sig, parseMethodDescriptor y.desc = some sig → argsL.length = sig.parameters.length)
    (hstack : g.stack = argsL.reverse ++ rest) (hW : 2 * g.monitorRoom + (rest.map fun v => v.category).sum ≤ W9) (hdg : decode c.code g.pc = .ok (.invokestatic index, 3))
    (hpre : ∀ vm₁, s.WarmedH vm₁ → Pre ⟨T.setVm vm₁, locs, cells, slots⟩ argsL.toArray) :
    (∃ (v : Option Value) (vm₁ : Vm) (B : Pt), s.WarmedH vm₁ ∧ Stand p l e R s m args below meth c B.U B.locs B.cells B.slots ∧ Post ⟨T.setVm vm₁, locs, cells, slots⟩ argsL.toArray v B ∧
      ∀ target, Steps p.tables e below (B.U.setTop { g with pc := g.pc + 3, stack := v.toList ++ rest }) target → Steps p.tables e below (T.setTop g) target) ∨
    (∃ (q : Addr) (vm₁ : Vm) (B : Pt), s.WarmedH vm₁ ∧ Stand p l e R s m args below meth c B.U B.locs B.cells B.slots ∧ PostX ⟨T.setVm vm₁, locs, cells, slots⟩ argsL.toArray q B ∧
      Steps p.tables e below (T.setTop g) ((B.U.setTop { g with stack := rest }).pushFrame (.throwing q))) := by
  obtain ⟨mk, methM, cM, hnamed, hmethM, -, -, -, -, -, -, hsigM⟩ := Cond.codeWith_spec hcode
  have hstatic : methM.isStatic = true := Cond.static_spec hnamed hmethM hstat
  obtain ⟨kP, hkP, -⟩ := className_of_methodNamed hnamed
  have hinitP : kP.init = .initialized := Cond.initialized_spec (findClass_of_methodNamed hnamed) hkP hinit
  obtain ⟨vm₁, X₁, hstep₁⟩ := X.invokestatic hexec hown hlink hnamed hmethM hstatic hkP hinitP hy (g := g) hg (argsL := argsL) (rest := rest) (hlen _ hsigM) hstack hdg
  rcases hK m meth c ⟨T.setVm vm₁, locs, cells, slots⟩ { g with stack := rest } (.invokestatic index) mk argsL.toArray X₁ hg hsize hdg hW (X₁.named hnamed) (hpre vm₁ X₁.warmed) with ⟨v, B, X', hpost, hsteps⟩ | ⟨q, B, X', hpost, hsteps⟩
  · exact Or.inl ⟨v, vm₁, B, X₁.warmed, X', hpost, fun target h => hstep₁ _ fun acts => by rw [doInvoke_state]; exact hsteps.trans h⟩
  · exact Or.inr ⟨q, vm₁, B, X₁.warmed, X', hpost, hstep₁ _ fun acts => by rw [doInvoke_state]; exact hsteps⟩
theorem vx_callVW (X : Stand p l e R s m args below meth c T locs cells slots) (hexec : p.tables.exec = Jvm.exec) {own C : String} {index : Nat} {y : MethodName} {bytes : ByteArray} {maxL : Nat} {ret : Option FieldType} {hh : List (Nat × Nat × Nat × Nat)}
    (hown : s.vm.findClass own = some m.cls) (hlink : (Cond.methodLink own index y).before args s = true) (hinst : (Cond.instanceMethod y).before args s = true) (hsel : (Cond.selects C y y).before args s = true)
    (hcode : (Cond.codeWith y bytes maxL ret hh).before args s = true) (hy : y.cls ≠ "java/lang/invoke/MethodHandle" ∧ y.cls ≠ "java/lang/invoke/VarHandle")
    {W9 : Nat} {Pre : Pt → Array Value → Prop} {Post : Pt → Array Value → Option Value → Pt → Prop} (hK : Back l R p e below s args y 3 W9 Pre Post)
    {b : Addr} {cellB : Cell} (hcell : T.heap[b]? = some cellB) (hobj : cellB.vm.isStatics = false) (hcls : s.vm.findClass C = some cellB.cls)
    {g : JFrame} (hg : g.method = m) (hsize : g.locals.size = c.maxLocals) {argsL rest : List Value} (hlen : ∀ sig, parseMethodDescriptor y.desc = some sig → argsL.length = sig.parameters.length)
    (hstack : g.stack = argsL.reverse ++ .ref b :: rest) (hW : 2 * g.monitorRoom + (rest.map fun v => v.category).sum ≤ W9) (hdg : decode c.code g.pc = .ok (.invokevirtual index, 3))
    (hpre : ∀ vm₁, s.WarmedH vm₁ → Pre ⟨T.setVm vm₁, locs, cells, slots⟩ (Value.ref b :: argsL).toArray) :
    ∃ (v : Option Value) (vm₁ : Vm) (B : Pt), s.WarmedH vm₁ ∧ Stand p l e R s m args below meth c B.U B.locs B.cells B.slots ∧ Post ⟨T.setVm vm₁, locs, cells, slots⟩ (Value.ref b :: argsL).toArray v B ∧
      ∀ target, Steps p.tables e below (B.U.setTop { g with pc := g.pc + 3, stack := v.toList ++ rest }) target → Steps p.tables e below (T.setTop g) target := by
  obtain ⟨mk, methM, hnamed, hmethM, hstM, habM⟩ := Cond.instanceMethod_spec hinst
  obtain ⟨m8, methM', cM, hn8, hmethM', -, -, -, -, -, -, hsigM⟩ := Cond.codeWith_spec hcode
  cases Option.some.inj (hn8.symm.trans hnamed)
  cases hmethM.symm.trans hmethM'
  obtain ⟨c2, r2, m2, q1, q2, q3, q4, kP, hkP, hkPi⟩ := Cond.selects_spec hsel
  cases hcls.symm.trans q1
  cases (State.methodFound?_of_named hnamed hy).symm.trans q2
  cases hnamed.symm.trans q3
  have hselP : selectMethod e.platform s.vm cellB.cls mk = .method mk := by rw [Launch.admits_selectMethod X.admits]; exact q4
  obtain ⟨vm₁, X₁, hstep₁⟩ := X.invokevirtual hexec hown hlink hnamed hmethM hstM hkP hkPi hy (a := b) (cell := cellB) hcell
    (fun z h => by rw [h] at hobj; cases hobj) hselP hmethM habM hkP hkPi (g := g) hg (argsL := argsL) (rest := rest) (hlen _ hsigM) hstack hdg
  obtain ⟨v, B, X', hpost, hsteps⟩ := hK m meth c ⟨T.setVm vm₁, locs, cells, slots⟩ { g with stack := rest } (.invokevirtual index) mk (Value.ref b :: argsL).toArray X₁ hg hsize hdg hW (X₁.named hnamed) (hpre vm₁ X₁.warmed)
  exact ⟨v, vm₁, B, X₁.warmed, X', hpost, fun target h => hstep₁ _ fun acts => by rw [doInvoke_state]; exact hsteps.trans h⟩
abbrev vx_CVW (R : Room) (s : State) (args : Array Value) (own C : String) (index : Nat) (y : MethodName) (bytes : ByteArray) (maxL : Nat) (ret : Option FieldType) (hh : List (Nat × Nat × Nat × Nat)) (ws : List Cond) (rm : Room) (mc ms n : Nat) : Prop :=
  (rm.cells = mc ∧ rm.slots = ms ∧ rm.frames + 1 ≤ R.frames ∧ 8 + (maxL + 11) + rm.locals ≤ R.locals ∧ (∀ w ∈ ws, ∀ (a' : Array Value) (U : State), s.WarmedH U.vm → w.before a' U = true) ∧ Cond.codeWith y bytes maxL ret hh ∈ ws) ∧
  (Cond.codeWith y bytes maxL ret hh).before args s = true ∧ (Cond.initialized y.cls).before args s = true ∧ (y.cls ≠ "java/lang/invoke/MethodHandle" ∧ y.cls ≠ "java/lang/invoke/VarHandle") ∧
  (∀ sig, parseMethodDescriptor y.desc = some sig → n = sig.parameters.length) ∧ (Cond.methodLink own index y).before args s = true ∧ (Cond.instanceMethod y).before args s = true ∧ (Cond.selects C y y).before args s = true
theorem vx_cwVW {own C : String} {index maxL mc ms : Nat} {y : MethodName} {bytes : ByteArray} {ret : Option FieldType} {hh : List (Nat × Nat × Nat × Nat)} {Ts ws ws' : List Cond} {rm : Room} (n : Nat) (ht : ∀ w ∈ Ts, w.before args s = true) (hT : GoodIn Ts (wsV own index C y ws)) (hw : ws = Cond.codeWith y bytes maxL ret hh :: ws') (hrc : rm.cells = mc) (hrs : rm.slots = ms)
    (hd : y.cls = C ∧ y.cls ≠ "java/lang/invoke/MethodHandle" ∧ y.cls ≠ "java/lang/invoke/VarHandle" ∧ (parseMethodDescriptor y.desc).map (fun d => d.parameters.length) = some n) (hR : rm.frames + 1 ≤ R.frames ∧ 8 + (maxL + 11) + rm.locals ≤ R.locals) :
    vx_CVW R s args own C index y bytes maxL ret hh ws rm mc ms n := by
  obtain ⟨hC, hd⟩ := hd
  subst hC
  have ok : ∀ w ∈ wsV own index y.cls y ws, w.before args s = true := fun w h => ht w (hT w h).1
  have hG : GoodIn Ts ws := fun w h => hT w (by unfold wsV; exact List.mem_append_right _ h)
  have hc : Cond.codeWith y bytes maxL ret hh ∈ ws := by rw [hw]; exact List.mem_cons_self
  refine ⟨⟨hrc, hrs, hR.1, hR.2, pay_in ht hG, hc⟩, ht _ (hG _ hc).1, ok _ (by simp [wsV]), ⟨hd.1, hd.2.1⟩, fun sig h => ?_, ok _ (by simp [wsV]), ok _ (by simp [wsV]), ok _ (by simp [wsV])⟩
  have h2 := hd.2.2
  rw [h] at h2
  exact (Option.some.inj h2).symm
theorem vx_runVW {y : MethodName} {bytes cc : ByteArray} {maxL nL mc ms n index : Nat} {ret : Option FieldType} {hh : List (Nat × Nat × Nat × Nat)} {ws : List Cond} {rm : Room} {Pc : Array Value → State → Prop} {Qc : Array Value → State → Outcome → State → Prop} {free : Addr → Prop} {Ts : List Cond} {own C : String} {b : Addr} {As rest : List Value} {g : JFrame}
    (S : CallFix p m c cc nL s args Ts own) (hM : Met l y ws rm Pc Qc mc ms free) (cw : vx_CVW R s args own C index y bytes maxL ret hh ws rm mc ms n) (hp : PreV s H C b Pc As)
    (hg : g.method = m) (hn : As.length = n) (hsize : g.locals.size = nL) (hstack : g.stack = As.reverse ++ .ref b :: rest) (hW : 2 * g.monitorRoom + (rest.map fun v => v.category).sum ≤ 8) (hdg : decode cc g.pc = .ok (.invokevirtual index, 3)) (hf : cells + mc ≤ R.cells ∧ slots + ms ≤ R.slots) :
    va_Run p l e R s m args below meth c H locs cells slots mc ms g rest (Qc (Value.ref b :: As).toArray) free := by
  obtain ⟨⟨hrc, hrs, hfr, hlo, hws, hcw⟩, hcode, hini, hy, hlen, hl, hin, hse⟩ := cw
  have hK : Back l R p e below s args y 3 8 (PreOf R mc ms Pc) (PostOf Qc mc ms free) := va_backW (hh := hh) (bytes := bytes) (maxL := maxL) (ret := ret) hM hp.1 hrc hrs hfr hlo hws hcw (fun a' U hW => word_at hW (Or.inl (by first | rfl | simp [Cond.onTables, Cond.keeps, Cond.steady])) hini)
  obtain ⟨hx, hb, hml, ho, -⟩ := S
  obtain ⟨-, ⟨cellB, hcB, hoB, hclB⟩, hPc⟩ := hp
  intro T hT X
  obtain ⟨v, vm₁, ⟨U', l2, c2, s2⟩, hW₁, X', ⟨g', mk, t, L, e1, e2, hq, h1, hL, h2, h3⟩, st⟩ := vx_callVW X hx (C := C) (hh := hh) (bytes := bytes) (maxL := maxL) (ret := ret) ho hl hin hse hcode hy hK (by rw [hT]; exact hcB) hoB hclB hg (hsize.trans hml.symm) (argsL := As) (rest := rest) (fun sig h => hn.trans (hlen sig h)) hstack hW (by rw [hb]; exact hdg)
    (fun vm₁ hW₁ => ⟨hf.1, hf.2, hPc (T.setVm vm₁) hT hW₁⟩)
  dsimp only [Pt.U, Pt.locs, Pt.cells, Pt.slots] at X' e1 e2 h1 h2 h3 st
  subst h1; subst h2; subst h3
  exact ⟨v, (T.setVm vm₁).calling g' mk (Value.ref b :: As).toArray, t, U', L, hT, X', hL, e1, e2, hq, st⟩
section
variable {y : MethodName} {bytes cc : ByteArray} {maxL nL mc ms n index : Nat} {ret : Option FieldType} {ws : List Cond} {rm : Room} {Pc : Array Value → State → Prop} {Qc : Array Value → State → Outcome → State → Prop} {XC : String → State → State → Prop} {free : Addr → Prop} {Ts : List Cond} {own C : String} {b : Addr} {As rest : List Value} {g : JFrame}
theorem vx_runVX {hh : List (Nat × Nat × Nat × Nat)} (S : CallFix p m c cc nL s args Ts own) (hM : vx_Met l y ws rm Pc Qc XC mc ms free) (cw : vx_CVW R s args own C index y bytes maxL ret hh ws rm mc ms n) (hp : PreV s H C b Pc As)
    (hg : g.method = m) (hn : As.length = n) (hsize : g.locals.size = nL) (hstack : g.stack = As.reverse ++ .ref b :: rest) (hW : 2 * g.monitorRoom + (rest.map fun v => v.category).sum ≤ 8) (hdg : decode cc g.pc = .ok (.invokevirtual index, 3)) (hf : cells + mc ≤ R.cells ∧ slots + ms ≤ R.slots) :
    vx_Run p l e R s m args below meth c H locs cells slots mc ms g rest (Qc (Value.ref b :: As).toArray) XC free := by
  obtain ⟨⟨hrc, hrs, hfr, hlo, hws, hcw⟩, hcode, hini, hy, hlen, hl, hin, hse⟩ := cw
  have hK : vx_Back l R p e below s args y 3 8 (PreOf R mc ms Pc) (PostOf Qc mc ms free) (vx_Post XC mc ms free) := vx_backW (hh := hh) (bytes := bytes) (maxL := maxL) (ret := ret) hM hp.1 hrc hrs hfr hlo hws hcw (fun a' U hW => word_at hW (Or.inl (by first | rfl | simp [Cond.onTables, Cond.keeps, Cond.steady])) hini)
  obtain ⟨hx, hb, hml, ho, -⟩ := S
  obtain ⟨-, ⟨cellB, hcB, hoB, hclB⟩, hPc⟩ := hp
  intro T hT X
  rcases vx_callVX X hx (C := C) (hh := hh) (bytes := bytes) (maxL := maxL) (ret := ret) ho hl hin hse hcode hy hK (by rw [hT]; exact hcB) hoB hclB hg (hsize.trans hml.symm) (argsL := As) (rest := rest) (fun sig h => hn.trans (hlen sig h)) hstack hW (by rw [hb]; exact hdg)
    (fun vm₁ hW₁ => ⟨hf.1, hf.2, hPc (T.setVm vm₁) hT hW₁⟩) with ⟨v, vm₁, ⟨U', l2, c2, s2⟩, hW₁, X', ⟨g', mk, t, L, e1, e2, hq, h1, hL, h2, h3⟩, st⟩ | ⟨q, vm₁, ⟨U', l2, c2, s2⟩, hW₁, X', ⟨g', mk, t, L, E, ce, e1, e2, hq, hce, hcv, hcl, h1, hL, h2, h3⟩, st⟩
  · dsimp only [Pt.U, Pt.locs, Pt.cells, Pt.slots] at X' e1 e2 h1 h2 h3 st
    subst h1; subst h2; subst h3
    exact Or.inl ⟨v, (T.setVm vm₁).calling g' mk (Value.ref b :: As).toArray, t, U', L, hT, X', hL, e1, e2, hq, st⟩
  · dsimp only [Pt.U, Pt.locs, Pt.cells, Pt.slots] at X' e1 e2 h1 h2 h3 st hcl
    subst h1; subst h2; subst h3
    exact Or.inr ⟨q, (T.setVm vm₁).calling g' mk (Value.ref b :: As).toArray, t, U', L, E, ce, hT, X', hL, e1, e2, hq, hce, hcv, vx_cls hW₁ hcl, st⟩
theorem vx_runSX {hh : List (Nat × Nat × Nat × Nat)} (S : CallFix p m c cc nL s args Ts own) (hM : vx_Met l y ws rm Pc Qc XC mc ms free) (cw : vx_CSW R s args own index y bytes maxL ret hh ws rm mc ms n) (hp : PreS s H Pc As)
    (hg : g.method = m) (hn : As.length = n) (hsize : g.locals.size = nL) (hstack : g.stack = As.reverse ++ rest) (hW : 2 * g.monitorRoom + (rest.map fun v => v.category).sum ≤ 8) (hdg : decode cc g.pc = .ok (.invokestatic index, 3)) (hf : cells + mc ≤ R.cells ∧ slots + ms ≤ R.slots) :
    vx_Run p l e R s m args below meth c H locs cells slots mc ms g rest (Qc As.toArray) XC free := by
  obtain ⟨⟨hrc, hrs, hfr, hlo, hws, hcw⟩, hcode, hini, hy, hlen, hl, hstt⟩ := cw
  have hK : vx_Back l R p e below s args y 3 8 (PreOf R mc ms Pc) (PostOf Qc mc ms free) (vx_Post XC mc ms free) := vx_backW (hh := hh) (bytes := bytes) (maxL := maxL) (ret := ret) hM hp.1 hrc hrs hfr hlo hws hcw (fun a' U hW => word_at hW (Or.inl (by first | rfl | simp [Cond.onTables, Cond.keeps, Cond.steady])) hini)
  obtain ⟨hx, hb, hml, ho, -⟩ := S
  intro T hT X
  rcases vx_callSX X hx (hh := hh) (bytes := bytes) (maxL := maxL) (ret := ret) ho hl hstt hini hcode hy hK hg (hsize.trans hml.symm) (argsL := As) (rest := rest) (fun sig h => hn.trans (hlen sig h)) hstack hW (by rw [hb]; exact hdg)
    (fun vm₁ hW₁ => ⟨hf.1, hf.2, hp.2 (T.setVm vm₁) hT hW₁⟩) with ⟨v, vm₁, ⟨U', l2, c2, s2⟩, hW₁, X', ⟨g', mk, t, L, e1, e2, hq, h1, hL, h2, h3⟩, st⟩ | ⟨q, vm₁, ⟨U', l2, c2, s2⟩, hW₁, X', ⟨g', mk, t, L, E, ce, e1, e2, hq, hce, hcv, hcl, h1, hL, h2, h3⟩, st⟩
  · dsimp only [Pt.U, Pt.locs, Pt.cells, Pt.slots] at X' e1 e2 h1 h2 h3 st
    subst h1; subst h2; subst h3
    exact Or.inl ⟨v, (T.setVm vm₁).calling g' mk As.toArray, t, U', L, hT, X', hL, e1, e2, hq, st⟩
  · dsimp only [Pt.U, Pt.locs, Pt.cells, Pt.slots] at X' e1 e2 h1 h2 h3 st hcl
    subst h1; subst h2; subst h3
    exact Or.inr ⟨q, (T.setVm vm₁).calling g' mk As.toArray, t, U', L, E, ce, hT, X', hL, e1, e2, hq, hce, hcv, vx_cls hW₁ hcl, st⟩
end
end VXH
theorem vx_ofWH {l : Launch} {y : MethodName} {ws ws' : List Cond} {rm : Room} {Pc : Array Value → State → Prop} {Qc : Array Value → State → Outcome → State → Prop} {XC : String → State → State → Prop} {mc ms : Nat} {free : Addr → Prop} {cc : ByteArray} {maxL : Nat} {ret : Option FieldType} {hh : List (Nat × Nat × Nat × Nat)}
    (hy : plainName y.cls = true) (hw : ws = Cond.codeWith y cc maxL ret hh :: ws')
    (body : ∀ p e s m args below meth c s₁, BodyLoose p l y (headSpec ws rm) cc maxL ret e s m args below meth c s₁ → c.maxLocals = maxL → Pc args s →
      W p l e (headSpec ws rm).room s m args below meth c s.heap [] 0 0 (vx_MQ below Qc XC args s mc ms free) (entryFrame m args maxL)) : vx_Met l y ws rm Pc Qc XC mc ms free := by
  refine MetFree.of_bodyS (code := cc) (maxLocals := maxL) (ret := ret) hy ?_ ?_
  · intro args s m h hn
    obtain ⟨m9, meth, c, hn9, h1, h2, h3, h4, -, h5, h6, -⟩ := Cond.codeWith_spec (atoms_spec (ws := ws) h _ (by rw [hw]; exact List.mem_cons_self))
    cases hn.symm.trans hn9
    exact ⟨meth, c, h1, h2, h3, h4, h5, h6⟩
  · intro p e s m args below meth c s₁ B hml hP _
    have hh0 : s₁.heap = s.heap := by rw [B.state]; rfl
    obtain ⟨t, a1, o, b1, b2, b3⟩ := body p e s m args below meth c s₁ B hml hP s₁ hh0 (Stand.of_body B)
    exact ⟨t, o, a1, b1, b2, b3⟩
/-! ===== END ===== -/
end
section
def RX0 : String := "OneHandset$Box"
def TX0 : u_T := fun k => match k with
  | 0 => ("OneHandset$Box", "leads", "[I", true)
  | 1 => ("OneHandset$Box", "states", "I", false)
  | 2 => ("OneHandset$Box", "buttons", "I", false)
  | _ => ("OneHandset$Box", "maybe", "I", false)
def tyX0 : Nat → FieldType := fun k => match k with
  | 0 => .array .int
  | 1 => .int
  | 2 => .int
  | _ => .int
abbrev wsX00 : List Cond := u_ws RX0 TX0 4
theorem nmX0 : ∀ a, a < 4 → ∀ b, b < 4 → a ≠ b → (TX0 a).2.1 ≠ (TX0 b).2.1 := by decide +kernel
theorem tyX0_ok : ∀ k, k < 4 → parseFieldDescriptor (TX0 k).2.2.1 = some (tyX0 k) := by decide +kernel
abbrev cX0_init : ByteArray := prog_2_method_1_code
def yX0_init : MethodName := ⟨RX0, "<init>", "()V"⟩
abbrev cX0_startAnew : ByteArray := prog_2_method_2_code
def yX0_startAnew : MethodName := ⟨RX0, "startAnew", "(II)V"⟩
abbrev cX0_hasState : ByteArray := prog_2_method_3_code
def yX0_hasState : MethodName := ⟨RX0, "hasState", "(I)Z"⟩
abbrev cX0_hasButton : ByteArray := prog_2_method_4_code
def yX0_hasButton : MethodName := ⟨RX0, "hasButton", "(I)Z"⟩
abbrev cX0_hasSet : ByteArray := prog_2_method_5_code
def yX0_hasSet : MethodName := ⟨RX0, "hasSet", "(I)Z"⟩
abbrev cX0_setLead : ByteArray := prog_2_method_6_code
def yX0_setLead : MethodName := ⟨RX0, "setLead", "(III)V"⟩
abbrev cX0_behind : ByteArray := prog_2_method_7_code
def yX0_behind : MethodName := ⟨RX0, "behind", "(II)I"⟩
def RX1 : String := "OneHandset$Form"
def TX1 : u_T := fun k => match k with
  | _ => ("", "", "", false)
def tyX1 : Nat → FieldType := fun k => match k with
  | _ => .int
abbrev wsX10 : List Cond := u_ws RX1 TX1 0
theorem nmX1 : ∀ a, a < 0 → ∀ b, b < 0 → a ≠ b → (TX1 a).2.1 ≠ (TX1 b).2.1 := by decide +kernel
theorem tyX1_ok : ∀ k, k < 0 → parseFieldDescriptor (TX1 k).2.2.1 = some (tyX1 k) := by decide +kernel
abbrev cX1_init : ByteArray := prog_3_method_1_code
def yX1_init : MethodName := ⟨RX1, "<init>", "()V"⟩
def RX2 : String := "OneHandset$HalvesForm"
def TX2 : u_T := fun k => match k with
  | 0 => ("OneHandset$HalvesForm", "bits", "I", true)
  | _ => ("OneHandset$HalvesForm", "p", "I", true)
def tyX2 : Nat → FieldType := fun k => match k with
  | 0 => .int
  | _ => .int
abbrev wsX20 : List Cond := u_ws RX2 TX2 2
theorem nmX2 : ∀ a, a < 2 → ∀ b, b < 2 → a ≠ b → (TX2 a).2.1 ≠ (TX2 b).2.1 := by decide +kernel
theorem tyX2_ok : ∀ k, k < 2 → parseFieldDescriptor (TX2 k).2.2.1 = some (tyX2 k) := by decide +kernel
abbrev cX2_init : ByteArray := prog_4_method_1_code
def yX2_init : MethodName := ⟨RX2, "<init>", "(II)V"⟩
abbrev cX2_isOn : ByteArray := prog_4_method_2_code
def yX2_isOn : MethodName := ⟨RX2, "isOn", "(II)Z"⟩
abbrev cX2_write : ByteArray := prog_4_method_3_code
def yX2_write : MethodName := ⟨RX2, "write", "(ILOneHandset$Tape;)V"⟩
abbrev cX2_decode : ByteArray := prog_4_method_4_code
def yX2_decode : MethodName := ⟨RX2, "decode", "(LOneHandset$Tape;I)I"⟩
def RX3 : String := "OneHandset$Keys"
def TX3 : u_T := fun k => match k with
  | 0 => ("OneHandset$Keys", "bits", "I", true)
  | 1 => ("OneHandset$Keys", "codes", "[I", true)
  | 2 => ("OneHandset$Keys", "constants", "[I", true)
  | 3 => ("OneHandset$Keys", "flip", "I", false)
  | 4 => ("OneHandset$Keys", "flipBit", "I", false)
  | 5 => ("OneHandset$Keys", "learnt", "I", false)
  | 6 => ("OneHandset$Keys", "fixed", "I", false)
  | _ => ("OneHandset$Keys", "fixedOn", "I", false)
def tyX3 : Nat → FieldType := fun k => match k with
  | 0 => .int
  | 1 => .array .int
  | 2 => .array .int
  | 3 => .int
  | 4 => .int
  | 5 => .int
  | 6 => .int
  | _ => .int
abbrev wsX30 : List Cond := u_ws RX3 TX3 8
theorem nmX3 : ∀ a, a < 8 → ∀ b, b < 8 → a ≠ b → (TX3 a).2.1 ≠ (TX3 b).2.1 := by decide +kernel
theorem tyX3_ok : ∀ k, k < 8 → parseFieldDescriptor (TX3 k).2.2.1 = some (tyX3 k) := by decide +kernel
abbrev cX3_init : ByteArray := prog_5_method_1_code
def yX3_init : MethodName := ⟨RX3, "<init>", "(I)V"⟩
abbrev cX3_startWithFlip : ByteArray := prog_5_method_2_code
def yX3_startWithFlip : MethodName := ⟨RX3, "startWithFlip", "(I)V"⟩
abbrev cX3_flipMask : ByteArray := prog_5_method_3_code
def yX3_flipMask : MethodName := ⟨RX3, "flipMask", "()I"⟩
abbrev cX3_hasKey : ByteArray := prog_5_method_4_code
def yX3_hasKey : MethodName := ⟨RX3, "hasKey", "(I)Z"⟩
abbrev cX3_codeOf : ByteArray := prog_5_method_5_code
def yX3_codeOf : MethodName := ⟨RX3, "codeOf", "(I)I"⟩
abbrev cX3_take : ByteArray := prog_5_method_6_code
def yX3_take : MethodName := ⟨RX3, "take", "(II)I"⟩
abbrev cX3_drop : ByteArray := prog_5_method_7_code
def yX3_drop : MethodName := ⟨RX3, "drop", "(I)Z"⟩
abbrev cX3_codeToSend : ByteArray := prog_5_method_8_code
def yX3_codeToSend : MethodName := ⟨RX3, "codeToSend", "(I)I"⟩
abbrev cX3_compareAll : ByteArray := prog_5_method_9_code
def yX3_compareAll : MethodName := ⟨RX3, "compareAll", "()V"⟩
abbrev cX3_isCheck : ByteArray := prog_5_method_10_code
def yX3_isCheck : MethodName := ⟨RX3, "isCheck", "(I)Z"⟩
abbrev cX3_commonConstant : ByteArray := prog_5_method_11_code
def yX3_commonConstant : MethodName := ⟨RX3, "commonConstant", "(I)I"⟩
abbrev cX3_constantFor : ByteArray := prog_5_method_12_code
def yX3_constantFor : MethodName := ⟨RX3, "constantFor", "(II)I"⟩
abbrev cX3_isContrary : ByteArray := prog_5_method_13_code
def yX3_isContrary : MethodName := ⟨RX3, "isContrary", "(I)Z"⟩
abbrev cX3_constantThatHolds : ByteArray := prog_5_method_14_code
def yX3_constantThatHolds : MethodName := ⟨RX3, "constantThatHolds", "(I)I"⟩
abbrev cX3_free : ByteArray := prog_5_method_15_code
def yX3_free : MethodName := ⟨RX3, "free", "()I"⟩
abbrev cX3_canForesee : ByteArray := prog_5_method_16_code
def yX3_canForesee : MethodName := ⟨RX3, "canForesee", "()Z"⟩
abbrev cX3_checksHoldFor : ByteArray := prog_5_method_17_code
def yX3_checksHoldFor : MethodName := ⟨RX3, "checksHoldFor", "(I)Z"⟩
abbrev cX3_foresees : ByteArray := prog_5_method_18_code
def yX3_foresees : MethodName := ⟨RX3, "foresees", "(I)Z"⟩
abbrev cX3_foreseenAbove : ByteArray := prog_5_method_19_code
def yX3_foreseenAbove : MethodName := ⟨RX3, "foreseenAbove", "(I)I"⟩
abbrev cX3_foreseenCount : ByteArray := prog_5_method_20_code
def yX3_foreseenCount : MethodName := ⟨RX3, "foreseenCount", "()I"⟩
abbrev cX3_foreseenAt : ByteArray := prog_5_method_21_code
def yX3_foreseenAt : MethodName := ⟨RX3, "foreseenAt", "(I)I"⟩
abbrev cX3_leastForeseenWith : ByteArray := prog_5_method_22_code
def yX3_leastForeseenWith : MethodName := ⟨RX3, "leastForeseenWith", "(LOneHandset$Keys;)I"⟩
def RX4 : String := "OneHandset$Make"
def TX4 : u_T := fun k => match k with
  | 0 => ("OneHandset$Make", "kind", "I", true)
  | 1 => ("OneHandset$Make", "bits", "I", true)
  | 2 => ("OneHandset$Make", "form", "LOneHandset$Form;", true)
  | 3 => ("OneHandset$Make", "keys", "LOneHandset$Keys;", true)
  | _ => ("OneHandset$Make", "miss", "I", false)
def tyX4 : Nat → FieldType := fun k => match k with
  | 0 => .int
  | 1 => .int
  | 2 => .object "OneHandset$Form"
  | 3 => .object "OneHandset$Keys"
  | _ => .int
abbrev wsX40 : List Cond := u_ws RX4 TX4 5
theorem nmX4 : ∀ a, a < 5 → ∀ b, b < 5 → a ≠ b → (TX4 a).2.1 ≠ (TX4 b).2.1 := by decide +kernel
theorem tyX4_ok : ∀ k, k < 5 → parseFieldDescriptor (TX4 k).2.2.1 = some (tyX4 k) := by decide +kernel
abbrev cX4_init : ByteArray := prog_6_method_1_code
def yX4_init : MethodName := ⟨RX4, "<init>", "(IILOneHandset$Form;)V"⟩
abbrev cX4_flash : ByteArray := prog_6_method_2_code
def yX4_flash : MethodName := ⟨RX4, "flash", "(ILOneHandset$Tape;)I"⟩
abbrev cX4_decode : ByteArray := prog_6_method_3_code
def yX4_decode : MethodName := ⟨RX4, "decode", "(LOneHandset$Tape;)I"⟩
def RX5 : String := "OneHandset$PairsForm"
def TX5 : u_T := fun k => match k with
  | 0 => ("OneHandset$PairsForm", "onTellsBit", "Z", true)
  | 1 => ("OneHandset$PairsForm", "bits", "I", true)
  | 2 => ("OneHandset$PairsForm", "a", "I", true)
  | 3 => ("OneHandset$PairsForm", "b", "I", true)
  | 4 => ("OneHandset$PairsForm", "p", "I", true)
  | 5 => ("OneHandset$PairsForm", "z", "I", true)
  | 6 => ("OneHandset$PairsForm", "o", "I", true)
  | _ => ("OneHandset$PairsForm", "length", "I", true)
def tyX5 : Nat → FieldType := fun k => match k with
  | 0 => .boolean
  | 1 => .int
  | 2 => .int
  | 3 => .int
  | 4 => .int
  | 5 => .int
  | 6 => .int
  | _ => .int
abbrev wsX50 : List Cond := u_ws RX5 TX5 8
theorem nmX5 : ∀ a, a < 8 → ∀ b, b < 8 → a ≠ b → (TX5 a).2.1 ≠ (TX5 b).2.1 := by decide +kernel
theorem tyX5_ok : ∀ k, k < 8 → parseFieldDescriptor (TX5 k).2.2.1 = some (tyX5 k) := by decide +kernel
abbrev cX5_init : ByteArray := prog_7_method_1_code
def yX5_init : MethodName := ⟨RX5, "<init>", "(ZIIIIII)V"⟩
abbrev cX5_tellsBit : ByteArray := prog_7_method_2_code
def yX5_tellsBit : MethodName := ⟨RX5, "tellsBit", "(I)Z"⟩
abbrev cX5_plainTime : ByteArray := prog_7_method_3_code
def yX5_plainTime : MethodName := ⟨RX5, "plainTime", "(I)I"⟩
abbrev cX5_write : ByteArray := prog_7_method_4_code
def yX5_write : MethodName := ⟨RX5, "write", "(ILOneHandset$Tape;)V"⟩
abbrev cX5_decode : ByteArray := prog_7_method_5_code
def yX5_decode : MethodName := ⟨RX5, "decode", "(LOneHandset$Tape;I)I"⟩
def RX6 : String := "OneHandset$Route"
def TX6 : u_T := fun k => match k with
  | 0 => ("OneHandset$Route", "row", "[I", true)
  | 1 => ("OneHandset$Route", "queue", "[I", true)
  | 2 => ("OneHandset$Route", "before", "[I", true)
  | 3 => ("OneHandset$Route", "by", "[I", true)
  | _ => ("OneHandset$Route", "length", "I", false)
def tyX6 : Nat → FieldType := fun k => match k with
  | 0 => .array .int
  | 1 => .array .int
  | 2 => .array .int
  | 3 => .array .int
  | _ => .int
abbrev wsX60 : List Cond := u_ws RX6 TX6 5
theorem nmX6 : ∀ a, a < 5 → ∀ b, b < 5 → a ≠ b → (TX6 a).2.1 ≠ (TX6 b).2.1 := by decide +kernel
theorem tyX6_ok : ∀ k, k < 5 → parseFieldDescriptor (TX6 k).2.2.1 = some (tyX6 k) := by decide +kernel
abbrev cX6_init : ByteArray := prog_8_method_1_code
def yX6_init : MethodName := ⟨RX6, "<init>", "()V"⟩
abbrev cX6_find : ByteArray := prog_8_method_2_code
def yX6_find : MethodName := ⟨RX6, "find", "(LOneHandset$Box;I)I"⟩
abbrev cX6_keepRow : ByteArray := prog_8_method_3_code
def yX6_keepRow : MethodName := ⟨RX6, "keepRow", "(II)I"⟩
abbrev cX6_buttonAt : ByteArray := prog_8_method_4_code
def yX6_buttonAt : MethodName := ⟨RX6, "buttonAt", "(I)I"⟩
def RX7 : String := "OneHandset$Tape"
def TX7 : u_T := fun k => match k with
  | 0 => ("OneHandset$Tape", "times", "[I", true)
  | _ => ("OneHandset$Tape", "size", "I", false)
def tyX7 : Nat → FieldType := fun k => match k with
  | 0 => .array .int
  | _ => .int
abbrev wsX70 : List Cond := u_ws RX7 TX7 2
theorem nmX7 : ∀ a, a < 2 → ∀ b, b < 2 → a ≠ b → (TX7 a).2.1 ≠ (TX7 b).2.1 := by decide +kernel
theorem tyX7_ok : ∀ k, k < 2 → parseFieldDescriptor (TX7 k).2.2.1 = some (tyX7 k) := by decide +kernel
abbrev cX7_init : ByteArray := prog_9_method_1_code
def yX7_init : MethodName := ⟨RX7, "<init>", "()V"⟩
abbrev cX7_append : ByteArray := prog_9_method_2_code
def yX7_append : MethodName := ⟨RX7, "append", "(I)V"⟩
abbrev cX7_lengthenLast : ByteArray := prog_9_method_3_code
def yX7_lengthenLast : MethodName := ⟨RX7, "lengthenLast", "(I)V"⟩
abbrev cX7_at : ByteArray := prog_9_method_4_code
def yX7_at : MethodName := ⟨RX7, "at", "(I)I"⟩
abbrev cX7_stretchAll : ByteArray := prog_9_method_5_code
def yX7_stretchAll : MethodName := ⟨RX7, "stretchAll", "(I)V"⟩
def RX8 : String := "OneHandset"
def TX8 : u_T := fun k => match k with
  | 0 => ("OneHandset", "tape", "LOneHandset$Tape;", true)
  | 1 => ("OneHandset", "makes", "[LOneHandset$Make;", true)
  | 2 => ("OneHandset", "makeCount", "I", false)
  | 3 => ("OneHandset", "boxes", "[LOneHandset$Box;", true)
  | _ => ("OneHandset", "route", "LOneHandset$Route;", true)
def tyX8 : Nat → FieldType := fun k => match k with
  | 0 => .object "OneHandset$Tape"
  | 1 => .array (.object "OneHandset$Make")
  | 2 => .int
  | 3 => .array (.object "OneHandset$Box")
  | _ => .object "OneHandset$Route"
abbrev wsX80 : List Cond := u_ws RX8 TX8 5
theorem nmX8 : ∀ a, a < 5 → ∀ b, b < 5 → a ≠ b → (TX8 a).2.1 ≠ (TX8 b).2.1 := by decide +kernel
theorem tyX8_ok : ∀ k, k < 5 → parseFieldDescriptor (TX8 k).2.2.1 = some (tyX8 k) := by decide +kernel
abbrev cX8_init : ByteArray := prog_1_method_1_code
def yX8_init : MethodName := ⟨RX8, "<init>", "()V"⟩
abbrev cX8_make : ByteArray := prog_1_method_2_code
def yX8_make : MethodName := ⟨RX8, "make", "(IIIIIII)I"⟩
abbrev cX8_set : ByteArray := prog_1_method_3_code
def yX8_set : MethodName := ⟨RX8, "set", "(III)Z"⟩
abbrev cX8_feed : ByteArray := prog_1_method_4_code
def yX8_feed : MethodName := ⟨RX8, "feed", "(IIIII)I"⟩
abbrev cX8_end : ByteArray := prog_1_method_5_code
def yX8_end : MethodName := ⟨RX8, "end", "(I)Z"⟩
abbrev cX8_send : ByteArray := prog_1_method_6_code
def yX8_send : MethodName := ⟨RX8, "send", "(II)I"⟩
abbrev cX8_time : ByteArray := prog_1_method_7_code
def yX8_time : MethodName := ⟨RX8, "time", "(I)I"⟩
abbrev cX8_read : ByteArray := prog_1_method_8_code
def yX8_read : MethodName := ⟨RX8, "read", "(I)I"⟩
abbrev cX8_which : ByteArray := prog_1_method_9_code
def yX8_which : MethodName := ⟨RX8, "which", "()I"⟩
abbrev cX8_stretch : ByteArray := prog_1_method_10_code
def yX8_stretch : MethodName := ⟨RX8, "stretch", "(I)Z"⟩
abbrev cX8_learn : ByteArray := prog_1_method_11_code
def yX8_learn : MethodName := ⟨RX8, "learn", "(II)I"⟩
abbrev cX8_forget : ByteArray := prog_1_method_12_code
def yX8_forget : MethodName := ⟨RX8, "forget", "(II)Z"⟩
abbrev cX8_key : ByteArray := prog_1_method_13_code
def yX8_key : MethodName := ⟨RX8, "key", "(II)I"⟩
abbrev cX8_press : ByteArray := prog_1_method_14_code
def yX8_press : MethodName := ⟨RX8, "press", "(II)I"⟩
abbrev cX8_of : ByteArray := prog_1_method_15_code
def yX8_of : MethodName := ⟨RX8, "of", "(II)I"⟩
abbrev cX8_check : ByteArray := prog_1_method_16_code
def yX8_check : MethodName := ⟨RX8, "check", "(II)I"⟩
abbrev cX8_many : ByteArray := prog_1_method_17_code
def yX8_many : MethodName := ⟨RX8, "many", "(I)I"⟩
abbrev cX8_foreseen : ByteArray := prog_1_method_18_code
def yX8_foreseen : MethodName := ⟨RX8, "foreseen", "(II)I"⟩
abbrev cX8_both : ByteArray := prog_1_method_19_code
def yX8_both : MethodName := ⟨RX8, "both", "(II)I"⟩
abbrev cX8_box : ByteArray := prog_1_method_20_code
def yX8_box : MethodName := ⟨RX8, "box", "(III)Z"⟩
abbrev cX8_lead : ByteArray := prog_1_method_21_code
def yX8_lead : MethodName := ⟨RX8, "lead", "(IIII)Z"⟩
abbrev cX8_maybe : ByteArray := prog_1_method_22_code
def yX8_maybe : MethodName := ⟨RX8, "maybe", "(II)Z"⟩
abbrev cX8_push : ByteArray := prog_1_method_23_code
def yX8_push : MethodName := ⟨RX8, "push", "(II)I"⟩
abbrev cX8_way : ByteArray := prog_1_method_24_code
def yX8_way : MethodName := ⟨RX8, "way", "(II)I"⟩
abbrev cX8_button : ByteArray := prog_1_method_25_code
def yX8_button : MethodName := ⟨RX8, "button", "(I)I"⟩
abbrev cX8_told : ByteArray := prog_1_method_26_code
def yX8_told : MethodName := ⟨RX8, "told", "(II)I"⟩
abbrev cX8_count : ByteArray := prog_1_method_27_code
def yX8_count : MethodName := ⟨RX8, "count", "(I)I"⟩
abbrev cX8_makeAt : ByteArray := prog_1_method_28_code
def yX8_makeAt : MethodName := ⟨RX8, "makeAt", "(I)LOneHandset$Make;"⟩
abbrev cX8_boxAt : ByteArray := prog_1_method_29_code
def yX8_boxAt : MethodName := ⟨RX8, "boxAt", "(I)LOneHandset$Box;"⟩
abbrev cX8_within : ByteArray := prog_1_method_30_code
def yX8_within : MethodName := ⟨RX8, "within", "(III)Z"⟩
abbrev cX8_isNumber : ByteArray := prog_1_method_31_code
def yX8_isNumber : MethodName := ⟨RX8, "isNumber", "(I)Z"⟩
abbrev cX8_isTime : ByteArray := prog_1_method_32_code
def yX8_isTime : MethodName := ⟨RX8, "isTime", "(I)Z"⟩
abbrev cX8_lowBits : ByteArray := prog_1_method_33_code
def yX8_lowBits : MethodName := ⟨RX8, "lowBits", "(I)I"⟩
abbrev cX8_fault : ByteArray := prog_1_method_34_code
def yX8_fault : MethodName := ⟨RX8, "fault", "(I)I"⟩
abbrev cX8_fits : ByteArray := prog_1_method_35_code
def yX8_fits : MethodName := ⟨RX8, "fits", "(III)Z"⟩
abbrev cX8_nearerOf : ByteArray := prog_1_method_36_code
def yX8_nearerOf : MethodName := ⟨RX8, "nearerOf", "(IIII)I"⟩
def RX9 : String := "OneHandsetModel"
def TX9 : u_T := fun k => match k with
  | 0 => ("OneHandsetModel", "tape", "[I", true)
  | 1 => ("OneHandsetModel", "taped", "I", false)
  | 2 => ("OneHandsetModel", "makes", "[I", true)
  | 3 => ("OneHandsetModel", "makeMany", "I", false)
  | 4 => ("OneHandsetModel", "keys", "[I", true)
  | 5 => ("OneHandsetModel", "states", "[I", true)
  | 6 => ("OneHandsetModel", "buttons", "[I", true)
  | 7 => ("OneHandsetModel", "leads", "[I", true)
  | 8 => ("OneHandsetModel", "sets", "[I", true)
  | 9 => ("OneHandsetModel", "way", "[I", true)
  | 10 => ("OneHandsetModel", "wayMany", "I", false)
  | 11 => ("OneHandsetModel", "faultAt", "I", false)
  | 12 => ("OneHandsetModel", "thrown", "I", false)
  | 13 => ("OneHandsetModel", "seen", "I", false)
  | 14 => ("OneHandsetModel", "queue", "[I", true)
  | 15 => ("OneHandsetModel", "from", "[I", true)
  | _ => ("OneHandsetModel", "by", "[I", true)
def tyX9 : Nat → FieldType := fun k => match k with
  | 0 => .array .int
  | 1 => .int
  | 2 => .array .int
  | 3 => .int
  | 4 => .array .int
  | 5 => .array .int
  | 6 => .array .int
  | 7 => .array .int
  | 8 => .array .int
  | 9 => .array .int
  | 10 => .int
  | 11 => .int
  | 12 => .int
  | 13 => .int
  | 14 => .array .int
  | 15 => .array .int
  | _ => .array .int
abbrev wsX90 : List Cond := u_ws RX9 TX9 17
theorem nmX9 : ∀ a, a < 17 → ∀ b, b < 17 → a ≠ b → (TX9 a).2.1 ≠ (TX9 b).2.1 := by decide +kernel
theorem tyX9_ok : ∀ k, k < 17 → parseFieldDescriptor (TX9 k).2.2.1 = some (tyX9 k) := by decide +kernel
abbrev cX9_init : ByteArray := prog_11_method_1_code
def yX9_init : MethodName := ⟨RX9, "<init>", "()V"⟩
abbrev cX9_in : ByteArray := prog_11_method_3_code
def yX9_in : MethodName := ⟨RX9, "in", "(III)Z"⟩
abbrev cX9_isMake : ByteArray := prog_11_method_4_code
def yX9_isMake : MethodName := ⟨RX9, "isMake", "(I)Z"⟩
abbrev cX9_get : ByteArray := prog_11_method_5_code
def yX9_get : MethodName := ⟨RX9, "get", "(II)I"⟩
abbrev cX9_make : ByteArray := prog_11_method_6_code
def yX9_make : MethodName := ⟨RX9, "make", "(IIIIIII)I"⟩
abbrev cX9_set : ByteArray := prog_11_method_7_code
def yX9_set : MethodName := ⟨RX9, "set", "(III)Z"⟩
abbrev cX9_feed : ByteArray := prog_11_method_8_code
def yX9_feed : MethodName := ⟨RX9, "feed", "(IIIII)I"⟩
abbrev cX9_end : ByteArray := prog_11_method_9_code
def yX9_end : MethodName := ⟨RX9, "end", "(I)Z"⟩
abbrev cX9_lay : ByteArray := prog_11_method_10_code
def yX9_lay : MethodName := ⟨RX9, "lay", "(I)V"⟩
abbrev cX9_isOn : ByteArray := prog_11_method_11_code
def yX9_isOn : MethodName := ⟨RX9, "isOn", "(III)Z"⟩
abbrev cX9_layHalves : ByteArray := prog_11_method_12_code
def yX9_layHalves : MethodName := ⟨RX9, "layHalves", "(III)V"⟩
abbrev cX9_flash : ByteArray := prog_11_method_13_code
def yX9_flash : MethodName := ⟨RX9, "flash", "(II)V"⟩
abbrev cX9_send : ByteArray := prog_11_method_14_code
def yX9_send : MethodName := ⟨RX9, "send", "(II)I"⟩
abbrev cX9_time : ByteArray := prog_11_method_15_code
def yX9_time : MethodName := ⟨RX9, "time", "(I)I"⟩
abbrev cX9_isTime : ByteArray := prog_11_method_16_code
def yX9_isTime : MethodName := ⟨RX9, "isTime", "(I)Z"⟩
abbrev cX9_fits : ByteArray := prog_11_method_17_code
def yX9_fits : MethodName := ⟨RX9, "fits", "(III)Z"⟩
abbrev cX9_which : ByteArray := prog_11_method_18_code
def yX9_which : MethodName := ⟨RX9, "which", "(IIII)I"⟩
abbrev cX9_fault : ByteArray := prog_11_method_19_code
def yX9_fault : MethodName := ⟨RX9, "fault", "(I)I"⟩
abbrev cX9_readBits : ByteArray := prog_11_method_20_code
def yX9_readBits : MethodName := ⟨RX9, "readBits", "(I)I"⟩
abbrev cX9_readHalves : ByteArray := prog_11_method_21_code
def yX9_readHalves : MethodName := ⟨RX9, "readHalves", "(I)I"⟩
abbrev cX9_readBy : ByteArray := prog_11_method_22_code
def yX9_readBy : MethodName := ⟨RX9, "readBy", "(I)I"⟩
abbrev cX9_read : ByteArray := prog_11_method_23_code
def yX9_read : MethodName := ⟨RX9, "read", "(I)I"⟩
abbrev cX9_which_ : ByteArray := prog_11_method_24_code
def yX9_which_ : MethodName := ⟨RX9, "which", "()I"⟩
abbrev cX9_stretch : ByteArray := prog_11_method_25_code
def yX9_stretch : MethodName := ⟨RX9, "stretch", "(I)Z"⟩
abbrev cX9_isKey : ByteArray := prog_11_method_26_code
def yX9_isKey : MethodName := ⟨RX9, "isKey", "(II)Z"⟩
abbrev cX9_flipOf : ByteArray := prog_11_method_27_code
def yX9_flipOf : MethodName := ⟨RX9, "flipOf", "(I)I"⟩
abbrev cX9_learn : ByteArray := prog_11_method_28_code
def yX9_learn : MethodName := ⟨RX9, "learn", "(II)I"⟩
abbrev cX9_forget : ByteArray := prog_11_method_29_code
def yX9_forget : MethodName := ⟨RX9, "forget", "(II)Z"⟩
abbrev cX9_key : ByteArray := prog_11_method_30_code
def yX9_key : MethodName := ⟨RX9, "key", "(II)I"⟩
abbrev cX9_press : ByteArray := prog_11_method_31_code
def yX9_press : MethodName := ⟨RX9, "press", "(II)I"⟩
abbrev cX9_learnt : ByteArray := prog_11_method_32_code
def yX9_learnt : MethodName := ⟨RX9, "learnt", "(I)I"⟩
abbrev cX9_some : ByteArray := prog_11_method_33_code
def yX9_some : MethodName := ⟨RX9, "some", "(I)I"⟩
abbrev cX9_fixed : ByteArray := prog_11_method_34_code
def yX9_fixed : MethodName := ⟨RX9, "fixed", "(I)I"⟩
abbrev cX9_of : ByteArray := prog_11_method_35_code
def yX9_of : MethodName := ⟨RX9, "of", "(II)I"⟩
abbrev cX9_sumOf : ByteArray := prog_11_method_36_code
def yX9_sumOf : MethodName := ⟨RX9, "sumOf", "(II)I"⟩
abbrev cX9_numberOf : ByteArray := prog_11_method_37_code
def yX9_numberOf : MethodName := ⟨RX9, "numberOf", "(III)I"⟩
abbrev cX9_checkOf : ByteArray := prog_11_method_38_code
def yX9_checkOf : MethodName := ⟨RX9, "checkOf", "(II)I"⟩
abbrev cX9_check : ByteArray := prog_11_method_39_code
def yX9_check : MethodName := ⟨RX9, "check", "(II)I"⟩
abbrev cX9_canForesee : ByteArray := prog_11_method_40_code
def yX9_canForesee : MethodName := ⟨RX9, "canForesee", "(I)Z"⟩
abbrev cX9_isForeseen : ByteArray := prog_11_method_41_code
def yX9_isForeseen : MethodName := ⟨RX9, "isForeseen", "(II)Z"⟩
abbrev cX9_go : ByteArray := prog_11_method_42_code
def yX9_go : MethodName := ⟨RX9, "go", "(II)I"⟩
abbrev cX9_many : ByteArray := prog_11_method_43_code
def yX9_many : MethodName := ⟨RX9, "many", "(I)I"⟩
abbrev cX9_foreseen : ByteArray := prog_11_method_44_code
def yX9_foreseen : MethodName := ⟨RX9, "foreseen", "(II)I"⟩
abbrev cX9_both : ByteArray := prog_11_method_45_code
def yX9_both : MethodName := ⟨RX9, "both", "(II)I"⟩
abbrev cX9_isBox : ByteArray := prog_11_method_46_code
def yX9_isBox : MethodName := ⟨RX9, "isBox", "(I)Z"⟩
abbrev cX9_box : ByteArray := prog_11_method_47_code
def yX9_box : MethodName := ⟨RX9, "box", "(III)Z"⟩
abbrev cX9_lead : ByteArray := prog_11_method_48_code
def yX9_lead : MethodName := ⟨RX9, "lead", "(IIII)Z"⟩
abbrev cX9_isSet : ByteArray := prog_11_method_49_code
def yX9_isSet : MethodName := ⟨RX9, "isSet", "(II)Z"⟩
abbrev cX9_maybe : ByteArray := prog_11_method_50_code
def yX9_maybe : MethodName := ⟨RX9, "maybe", "(II)Z"⟩
abbrev cX9_behind : ByteArray := prog_11_method_51_code
def yX9_behind : MethodName := ⟨RX9, "behind", "(III)I"⟩
abbrev cX9_push : ByteArray := prog_11_method_52_code
def yX9_push : MethodName := ⟨RX9, "push", "(II)I"⟩
abbrev cX9_way : ByteArray := prog_11_method_53_code
def yX9_way : MethodName := ⟨RX9, "way", "(II)I"⟩
abbrev cX9_tell : ByteArray := prog_11_method_54_code
def yX9_tell : MethodName := ⟨RX9, "tell", "(II)I"⟩
abbrev cX9_button : ByteArray := prog_11_method_55_code
def yX9_button : MethodName := ⟨RX9, "button", "(I)I"⟩
abbrev cX9_told : ByteArray := prog_11_method_56_code
def yX9_told : MethodName := ⟨RX9, "told", "(II)I"⟩
abbrev cX9_count : ByteArray := prog_11_method_57_code
def yX9_count : MethodName := ⟨RX9, "count", "(I)I"⟩
def RJ6 : String := "java/lang/Integer"
def TJ6 : u_T := fun k => match k with
  | _ => ("", "", "", false)
def tyJ6 : Nat → FieldType := fun k => match k with
  | _ => .int
abbrev wsJ60 : List Cond := u_ws RJ6 TJ6 0
theorem nmJ6 : ∀ a, a < 0 → ∀ b, b < 0 → a ≠ b → (TJ6 a).2.1 ≠ (TJ6 b).2.1 := by decide +kernel
theorem tyJ6_ok : ∀ k, k < 0 → parseFieldDescriptor (TJ6 k).2.2.1 = some (tyJ6 k) := by decide +kernel
abbrev cJ6_bitCount_0f7a4 : ByteArray := prog_13_method_49_code
def yJ6_bitCount_0f7a4 : MethodName := ⟨RJ6, "bitCount", "(I)I"⟩
def RJ9 : String := "java/lang/Math"
def TJ9 : u_T := fun k => match k with
  | _ => ("", "", "", false)
def tyJ9 : Nat → FieldType := fun k => match k with
  | _ => .int
abbrev wsJ90 : List Cond := u_ws RJ9 TJ9 0
theorem nmJ9 : ∀ a, a < 0 → ∀ b, b < 0 → a ≠ b → (TJ9 a).2.1 ≠ (TJ9 b).2.1 := by decide +kernel
theorem tyJ9_ok : ∀ k, k < 0 → parseFieldDescriptor (TJ9 k).2.2.1 = some (tyJ9 k) := by decide +kernel
abbrev cJ9_abs_0f7a4 : ByteArray := prog_14_method_59_code
def yJ9_abs_0f7a4 : MethodName := ⟨RJ9, "abs", "(I)I"⟩
abbrev cJ9_max_7cf53 : ByteArray := prog_14_method_65_code
def yJ9_max_7cf53 : MethodName := ⟨RJ9, "max", "(II)I"⟩
abbrev cJ9_min_7cf53 : ByteArray := prog_14_method_69_code
def yJ9_min_7cf53 : MethodName := ⟨RJ9, "min", "(II)I"⟩
def RJ7 : String := "java/util/Arrays"
def TJ7 : u_T := fun k => match k with
  | _ => ("", "", "", false)
def tyJ7 : Nat → FieldType := fun k => match k with
  | _ => .int
abbrev wsJ70 : List Cond := u_ws RJ7 TJ7 0
theorem nmJ7 : ∀ a, a < 0 → ∀ b, b < 0 → a ≠ b → (TJ7 a).2.1 ≠ (TJ7 b).2.1 := by decide +kernel
theorem tyJ7_ok : ∀ k, k < 0 → parseFieldDescriptor (TJ7 k).2.2.1 = some (tyJ7 k) := by decide +kernel
abbrev cJ7_fill_53178 : ByteArray := prog_17_method_103_code
def yJ7_fill_53178 : MethodName := ⟨RJ7, "fill", "([II)V"⟩
def RL : String := "OneHandsetLaw"
abbrev cL_time : ByteArray := method_3_code
def yL_time : MethodName := ⟨RL, "time", "(LOneHandset;I[J)I"⟩
abbrev cL_law : ByteArray := code
def yL_law : MethodName := ⟨RL, "law", "([I)Z"⟩
def wsX8_lowBits : List Cond := .code yX8_lowBits cX8_lowBits 1 (some .int) :: ([])
def wsJ7_fill_53178 : List Cond := .code yJ7_fill_53178 cJ7_fill_53178 4 none :: ([])
def wsX0_startAnew : List Cond := .code yX0_startAnew cX0_startAnew 3 none :: ([.fieldLink RX0 19 "OneHandset$Box" "states" "I", .fieldLink RX0 23 "OneHandset$Box" "buttons" "I", .fieldLink RX0 30 "OneHandset$Box" "maybe" "I", .fieldLink RX0 9 "OneHandset$Box" "leads" "[I", .static yX8_lowBits, .initialized RX8, .code yX8_lowBits cX8_lowBits 1 (some .int), .methodLink RX0 33 yJ7_fill_53178, .static yJ7_fill_53178, .initialized RJ7, .code yJ7_fill_53178 cJ7_fill_53178 4 none] ++ wsX00)
def wsX0_init : List Cond := .code yX0_init cX0_init 1 none :: ([.methodLink RX0 3 objectInit, .instanceMethod objectInit, .code objectInit ⟨#[0xb1]⟩ 1 none, .arrayClass .int, .fieldLink RX0 9 "OneHandset$Box" "leads" "[I", .methodLink RX0 15 yX0_startAnew, .instanceMethod yX0_startAnew, .selects RX0 yX0_startAnew yX0_startAnew, .initialized RX0, .code yX0_startAnew cX0_startAnew 3 none, .fieldLink RX0 19 "OneHandset$Box" "states" "I", .fieldLink RX0 23 "OneHandset$Box" "buttons" "I", .fieldLink RX0 30 "OneHandset$Box" "maybe" "I", .static yX8_lowBits, .initialized RX8, .code yX8_lowBits cX8_lowBits 1 (some .int), .methodLink RX0 33 yJ7_fill_53178, .static yJ7_fill_53178, .initialized RJ7, .code yJ7_fill_53178 cJ7_fill_53178 4 none] ++ wsX00)
def wsX8_within : List Cond := .code yX8_within cX8_within 3 (some .boolean) :: ([])
def wsX0_hasState : List Cond := .code yX0_hasState cX0_hasState 2 (some .boolean) :: ([.fieldLink RX0 19 "OneHandset$Box" "states" "I", .static yX8_within, .initialized RX8, .code yX8_within cX8_within 3 (some .boolean)] ++ wsX00)
def wsX0_hasButton : List Cond := .code yX0_hasButton cX0_hasButton 2 (some .boolean) :: ([.fieldLink RX0 23 "OneHandset$Box" "buttons" "I", .static yX8_within, .initialized RX8, .code yX8_within cX8_within 3 (some .boolean)] ++ wsX00)
def wsX0_hasSet : List Cond := .code yX0_hasSet cX0_hasSet 2 (some .boolean) :: ([.fieldLink RX0 19 "OneHandset$Box" "states" "I", .static yX8_lowBits, .initialized RX8, .code yX8_lowBits cX8_lowBits 1 (some .int), .static yX8_within, .code yX8_within cX8_within 3 (some .boolean)] ++ wsX00)
def wsX0_setLead : List Cond := .code yX0_setLead cX0_setLead 4 none :: ([.fieldLink RX0 9 "OneHandset$Box" "leads" "[I", .methodLink RX0 43 yX0_hasState, .instanceMethod yX0_hasState, .selects RX0 yX0_hasState yX0_hasState, .initialized RX0, .code yX0_hasState cX0_hasState 2 (some .boolean), .fieldLink RX0 19 "OneHandset$Box" "states" "I", .static yX8_within, .initialized RX8, .code yX8_within cX8_within 3 (some .boolean), .methodLink RX0 47 yX0_hasButton, .instanceMethod yX0_hasButton, .selects RX0 yX0_hasButton yX0_hasButton, .code yX0_hasButton cX0_hasButton 2 (some .boolean), .fieldLink RX0 23 "OneHandset$Box" "buttons" "I"] ++ wsX00)
def wsX0_behind : List Cond := .code yX0_behind cX0_behind 5 (some .int) :: ([.fieldLink RX0 19 "OneHandset$Box" "states" "I", .fieldLink RX0 9 "OneHandset$Box" "leads" "[I", .methodLink RX0 47 yX0_hasButton, .instanceMethod yX0_hasButton, .selects RX0 yX0_hasButton yX0_hasButton, .initialized RX0, .code yX0_hasButton cX0_hasButton 2 (some .boolean), .fieldLink RX0 23 "OneHandset$Box" "buttons" "I", .static yX8_within, .initialized RX8, .code yX8_within cX8_within 3 (some .boolean)] ++ wsX00)
def wsX1_init : List Cond := .code yX1_init cX1_init 1 none :: ([.methodLink RX1 1 objectInit, .instanceMethod objectInit, .code objectInit ⟨#[0xb1]⟩ 1 none])
def wsX2_init : List Cond := .code yX2_init cX2_init 3 none :: ([.fieldLink RX2 9 "OneHandset$HalvesForm" "bits" "I", .fieldLink RX2 15 "OneHandset$HalvesForm" "p" "I", .instanceMethod yX1_init, .initialized RX1, .code yX1_init cX1_init 1 none, .methodLink RX1 1 objectInit, .instanceMethod objectInit, .code objectInit ⟨#[0xb1]⟩ 1 none] ++ wsX20)
def wsX2_isOn : List Cond := .code yX2_isOn cX2_isOn 4 (some .boolean) :: ([.fieldLink RX2 9 "OneHandset$HalvesForm" "bits" "I"] ++ wsX20)
def wsX7_append : List Cond := .code yX7_append cX7_append 2 none :: ([.fieldLink RX7 15 "OneHandset$Tape" "size" "I", .fieldLink RX7 9 "OneHandset$Tape" "times" "[I"] ++ wsX70)
def wsX7_lengthenLast : List Cond := .code yX7_lengthenLast cX7_lengthenLast 2 none :: ([.fieldLink RX7 15 "OneHandset$Tape" "size" "I", .fieldLink RX7 9 "OneHandset$Tape" "times" "[I"] ++ wsX70)
def wsX2_write : List Cond := .code yX2_write cX2_write 5 none :: ([.fieldLink RX2 9 "OneHandset$HalvesForm" "bits" "I", .fieldLink RX2 15 "OneHandset$HalvesForm" "p" "I", .methodLink RX2 18 yX2_isOn, .instanceMethod yX2_isOn, .selects RX2 yX2_isOn yX2_isOn, .initialized RX2, .code yX2_isOn cX2_isOn 4 (some .boolean), .methodLink RX2 22 yX7_append, .instanceMethod yX7_append, .selects RX7 yX7_append yX7_append, .initialized RX7, .code yX7_append cX7_append 2 none, .fieldLink RX7 15 "OneHandset$Tape" "size" "I", .fieldLink RX7 9 "OneHandset$Tape" "times" "[I", .methodLink RX2 28 yX7_lengthenLast, .instanceMethod yX7_lengthenLast, .selects RX7 yX7_lengthenLast yX7_lengthenLast, .code yX7_lengthenLast cX7_lengthenLast 2 none] ++ wsX20 ++ wsX70)
def wsX7_at : List Cond := .code yX7_at cX7_at 2 (some .int) :: ([.fieldLink RX7 15 "OneHandset$Tape" "size" "I", .fieldLink RX7 9 "OneHandset$Tape" "times" "[I", .static yX8_within, .initialized RX8, .code yX8_within cX8_within 3 (some .boolean)] ++ wsX70)
def wsX8_isTime : List Cond := .code yX8_isTime cX8_isTime 1 (some .boolean) :: ([.methodLink RX8 40 yX8_within, .static yX8_within, .initialized RX8, .code yX8_within cX8_within 3 (some .boolean)])
def wsX8_fits : List Cond := .code yX8_fits cX8_fits 3 (some .boolean) :: ([.methodLink RX8 202 Lib.Math.abs.name, .static Lib.Math.abs.name, .initialized "java/lang/Math", .code Lib.Math.abs.name Lib.Math.abs.code 1 (some .int), .methodLink RX8 199 yX8_isTime, .static yX8_isTime, .initialized RX8, .code yX8_isTime cX8_isTime 1 (some .boolean), .methodLink RX8 40 yX8_within, .static yX8_within, .code yX8_within cX8_within 3 (some .boolean)])
def wsX8_nearerOf : List Cond := .code yX8_nearerOf cX8_nearerOf 6 (some .int) :: ([.methodLink RX8 202 Lib.Math.abs.name, .static Lib.Math.abs.name, .initialized "java/lang/Math", .code Lib.Math.abs.name Lib.Math.abs.code 1 (some .int), .methodLink RX8 207 yX8_fits, .static yX8_fits, .initialized RX8, .code yX8_fits cX8_fits 3 (some .boolean), .methodLink RX8 199 yX8_isTime, .static yX8_isTime, .code yX8_isTime cX8_isTime 1 (some .boolean), .methodLink RX8 40 yX8_within, .static yX8_within, .code yX8_within cX8_within 3 (some .boolean)])
def wsX8_fault : List Cond := .code yX8_fault cX8_fault 1 (some .int) :: ([])
def wsX2_decode_r1 : List Cond := [Cond.fieldLink RX2 15 "OneHandset$HalvesForm" "p" "I", Cond.fieldLink RX2 9 "OneHandset$HalvesForm" "bits" "I", Cond.methodLink RX2 34 yX7_at, Cond.instanceMethod yX7_at, Cond.selects RX7 yX7_at yX7_at, Cond.initialized RX7, Cond.code yX7_at cX7_at 2 (some .int), Cond.fieldLink RX7 15 "OneHandset$Tape" "size" "I", Cond.fieldLink RX7 9 "OneHandset$Tape" "times" "[I", Cond.static yX8_within, Cond.initialized RX8, Cond.code yX8_within cX8_within 3 (some .boolean), Cond.static yX8_nearerOf, Cond.code yX8_nearerOf cX8_nearerOf 6 (some .int), Cond.methodLink RX8 202 Lib.Math.abs.name, Cond.static Lib.Math.abs.name, Cond.initialized "java/lang/Math", Cond.code Lib.Math.abs.name Lib.Math.abs.code 1 (some .int), Cond.methodLink RX8 207 yX8_fits, Cond.static yX8_fits, Cond.code yX8_fits cX8_fits 3 (some .boolean), Cond.methodLink RX8 199 yX8_isTime, Cond.static yX8_isTime, Cond.code yX8_isTime cX8_isTime 1 (some .boolean)]
def wsX2_decode_r2 : List Cond := [Cond.methodLink RX8 40 yX8_within, Cond.static yX8_fault, Cond.code yX8_fault cX8_fault 1 (some .int)]
def wsX2_decode : List Cond := .code yX2_decode cX2_decode 11 (some .int) :: ((wsX2_decode_r1 ++ wsX2_decode_r2) ++ wsX70 ++ wsX20)
def wsX3_flipMask : List Cond := .code yX3_flipMask cX3_flipMask 1 (some .int) :: ([.fieldLink RX3 26 "OneHandset$Keys" "flip" "I"] ++ wsX30)
def wsX3_isCheck : List Cond := .code yX3_isCheck cX3_isCheck 2 (some .boolean) :: ([.fieldLink RX3 18 "OneHandset$Keys" "bits" "I", .fieldLink RX3 26 "OneHandset$Keys" "flip" "I"] ++ wsX30)
def wsX3_isContrary : List Cond := .code yX3_isContrary cX3_isContrary 3 (some .boolean) :: ([.fieldLink RX3 18 "OneHandset$Keys" "bits" "I", .static yX8_lowBits, .initialized RX8, .code yX8_lowBits cX8_lowBits 1 (some .int)] ++ wsX30)
def wsX3_constantFor : List Cond := .code yX3_constantFor cX3_constantFor 3 (some .int) :: ([.methodLink RX3 79 yX3_isContrary, .instanceMethod yX3_isContrary, .selects RX3 yX3_isContrary yX3_isContrary, .initialized RX3, .code yX3_isContrary cX3_isContrary 3 (some .boolean), .fieldLink RX3 18 "OneHandset$Keys" "bits" "I", .static yX8_lowBits, .initialized RX8, .code yX8_lowBits cX8_lowBits 1 (some .int)] ++ wsX30)
def wsX3_commonConstant : List Cond := .code yX3_commonConstant cX3_commonConstant 6 (some .int) :: ([.fieldLink RX3 9 "OneHandset$Keys" "codes" "[I", .methodLink RX3 75 yX3_constantFor, .instanceMethod yX3_constantFor, .selects RX3 yX3_constantFor yX3_constantFor, .initialized RX3, .code yX3_constantFor cX3_constantFor 3 (some .int), .methodLink RX3 79 yX3_isContrary, .instanceMethod yX3_isContrary, .selects RX3 yX3_isContrary yX3_isContrary, .code yX3_isContrary cX3_isContrary 3 (some .boolean), .fieldLink RX3 18 "OneHandset$Keys" "bits" "I", .static yX8_lowBits, .initialized RX8, .code yX8_lowBits cX8_lowBits 1 (some .int)] ++ wsX30)
def wsX3_compareAll_r1 : List Cond := [Cond.fieldLink RX3 57 "OneHandset$Keys" "learnt" "I", Cond.fieldLink RX3 18 "OneHandset$Keys" "bits" "I", Cond.fieldLink RX3 9 "OneHandset$Keys" "codes" "[I", Cond.fieldLink RX3 63 "OneHandset$Keys" "fixed" "I", Cond.fieldLink RX3 66 "OneHandset$Keys" "fixedOn" "I", Cond.fieldLink RX3 15 "OneHandset$Keys" "constants" "[I", Cond.static yX8_lowBits, Cond.initialized RX8, Cond.code yX8_lowBits cX8_lowBits 1 (some .int), Cond.methodLink RX3 49 yX3_flipMask, Cond.instanceMethod yX3_flipMask, Cond.selects RX3 yX3_flipMask yX3_flipMask, Cond.initialized RX3, Cond.code yX3_flipMask cX3_flipMask 1 (some .int), Cond.fieldLink RX3 26 "OneHandset$Keys" "flip" "I", Cond.methodLink RX3 69 yX3_isCheck, Cond.instanceMethod yX3_isCheck, Cond.selects RX3 yX3_isCheck yX3_isCheck, Cond.code yX3_isCheck cX3_isCheck 2 (some .boolean), Cond.methodLink RX3 72 yX3_commonConstant, Cond.instanceMethod yX3_commonConstant, Cond.selects RX3 yX3_commonConstant yX3_commonConstant, Cond.code yX3_commonConstant cX3_commonConstant 6 (some .int), Cond.methodLink RX3 75 yX3_constantFor]
def wsX3_compareAll_r2 : List Cond := [Cond.instanceMethod yX3_constantFor, Cond.selects RX3 yX3_constantFor yX3_constantFor, Cond.code yX3_constantFor cX3_constantFor 3 (some .int), Cond.methodLink RX3 79 yX3_isContrary, Cond.instanceMethod yX3_isContrary, Cond.selects RX3 yX3_isContrary yX3_isContrary, Cond.code yX3_isContrary cX3_isContrary 3 (some .boolean)]
def wsX3_compareAll : List Cond := .code yX3_compareAll cX3_compareAll 4 none :: ((wsX3_compareAll_r1 ++ wsX3_compareAll_r2) ++ wsX30)
def wsX3_startWithFlip_r1 : List Cond := [Cond.fieldLink RX3 26 "OneHandset$Keys" "flip" "I", Cond.fieldLink RX3 29 "OneHandset$Keys" "flipBit" "I", Cond.fieldLink RX3 9 "OneHandset$Keys" "codes" "[I", Cond.methodLink RX3 32 yJ7_fill_53178, Cond.static yJ7_fill_53178, Cond.initialized RJ7, Cond.code yJ7_fill_53178 cJ7_fill_53178 4 none, Cond.methodLink RX3 38 yX3_compareAll, Cond.instanceMethod yX3_compareAll, Cond.selects RX3 yX3_compareAll yX3_compareAll, Cond.initialized RX3, Cond.code yX3_compareAll cX3_compareAll 4 none, Cond.fieldLink RX3 57 "OneHandset$Keys" "learnt" "I", Cond.fieldLink RX3 18 "OneHandset$Keys" "bits" "I", Cond.fieldLink RX3 63 "OneHandset$Keys" "fixed" "I", Cond.fieldLink RX3 66 "OneHandset$Keys" "fixedOn" "I", Cond.fieldLink RX3 15 "OneHandset$Keys" "constants" "[I", Cond.static yX8_lowBits, Cond.initialized RX8, Cond.code yX8_lowBits cX8_lowBits 1 (some .int), Cond.methodLink RX3 49 yX3_flipMask, Cond.instanceMethod yX3_flipMask, Cond.selects RX3 yX3_flipMask yX3_flipMask, Cond.code yX3_flipMask cX3_flipMask 1 (some .int)]
def wsX3_startWithFlip_r2 : List Cond := [Cond.methodLink RX3 69 yX3_isCheck, Cond.instanceMethod yX3_isCheck, Cond.selects RX3 yX3_isCheck yX3_isCheck, Cond.code yX3_isCheck cX3_isCheck 2 (some .boolean), Cond.methodLink RX3 72 yX3_commonConstant, Cond.instanceMethod yX3_commonConstant, Cond.selects RX3 yX3_commonConstant yX3_commonConstant, Cond.code yX3_commonConstant cX3_commonConstant 6 (some .int), Cond.methodLink RX3 75 yX3_constantFor, Cond.instanceMethod yX3_constantFor, Cond.selects RX3 yX3_constantFor yX3_constantFor, Cond.code yX3_constantFor cX3_constantFor 3 (some .int), Cond.methodLink RX3 79 yX3_isContrary, Cond.instanceMethod yX3_isContrary, Cond.selects RX3 yX3_isContrary yX3_isContrary, Cond.code yX3_isContrary cX3_isContrary 3 (some .boolean)]
def wsX3_startWithFlip : List Cond := .code yX3_startWithFlip cX3_startWithFlip 2 none :: ((wsX3_startWithFlip_r1 ++ wsX3_startWithFlip_r2) ++ wsX30)
def wsX3_init_r1 : List Cond := [Cond.methodLink RX3 3 objectInit, Cond.instanceMethod objectInit, Cond.code objectInit ⟨#[0xb1]⟩ 1 none, Cond.arrayClass .int, Cond.fieldLink RX3 9 "OneHandset$Keys" "codes" "[I", Cond.fieldLink RX3 15 "OneHandset$Keys" "constants" "[I", Cond.fieldLink RX3 18 "OneHandset$Keys" "bits" "I", Cond.methodLink RX3 22 yX3_startWithFlip, Cond.instanceMethod yX3_startWithFlip, Cond.selects RX3 yX3_startWithFlip yX3_startWithFlip, Cond.initialized RX3, Cond.code yX3_startWithFlip cX3_startWithFlip 2 none, Cond.fieldLink RX3 26 "OneHandset$Keys" "flip" "I", Cond.fieldLink RX3 29 "OneHandset$Keys" "flipBit" "I", Cond.methodLink RX3 32 yJ7_fill_53178, Cond.static yJ7_fill_53178, Cond.initialized RJ7, Cond.code yJ7_fill_53178 cJ7_fill_53178 4 none, Cond.methodLink RX3 38 yX3_compareAll, Cond.instanceMethod yX3_compareAll, Cond.selects RX3 yX3_compareAll yX3_compareAll, Cond.code yX3_compareAll cX3_compareAll 4 none, Cond.fieldLink RX3 57 "OneHandset$Keys" "learnt" "I", Cond.fieldLink RX3 63 "OneHandset$Keys" "fixed" "I"]
def wsX3_init_r2 : List Cond := [Cond.fieldLink RX3 66 "OneHandset$Keys" "fixedOn" "I", Cond.static yX8_lowBits, Cond.initialized RX8, Cond.code yX8_lowBits cX8_lowBits 1 (some .int), Cond.methodLink RX3 49 yX3_flipMask, Cond.instanceMethod yX3_flipMask, Cond.selects RX3 yX3_flipMask yX3_flipMask, Cond.code yX3_flipMask cX3_flipMask 1 (some .int), Cond.methodLink RX3 69 yX3_isCheck, Cond.instanceMethod yX3_isCheck, Cond.selects RX3 yX3_isCheck yX3_isCheck, Cond.code yX3_isCheck cX3_isCheck 2 (some .boolean), Cond.methodLink RX3 72 yX3_commonConstant, Cond.instanceMethod yX3_commonConstant, Cond.selects RX3 yX3_commonConstant yX3_commonConstant, Cond.code yX3_commonConstant cX3_commonConstant 6 (some .int), Cond.methodLink RX3 75 yX3_constantFor, Cond.instanceMethod yX3_constantFor, Cond.selects RX3 yX3_constantFor yX3_constantFor, Cond.code yX3_constantFor cX3_constantFor 3 (some .int), Cond.methodLink RX3 79 yX3_isContrary, Cond.instanceMethod yX3_isContrary, Cond.selects RX3 yX3_isContrary yX3_isContrary, Cond.code yX3_isContrary cX3_isContrary 3 (some .boolean)]
def wsX3_init : List Cond := .code yX3_init cX3_init 2 none :: ((wsX3_init_r1 ++ wsX3_init_r2) ++ wsX30)
def wsX3_hasKey : List Cond := .code yX3_hasKey cX3_hasKey 2 (some .boolean) :: ([.static yX8_within, .initialized RX8, .code yX8_within cX8_within 3 (some .boolean)])
def wsX3_codeOf : List Cond := .code yX3_codeOf cX3_codeOf 2 (some .int) :: ([.fieldLink RX3 9 "OneHandset$Keys" "codes" "[I", .methodLink RX3 45 yX3_hasKey, .instanceMethod yX3_hasKey, .selects RX3 yX3_hasKey yX3_hasKey, .initialized RX3, .code yX3_hasKey cX3_hasKey 2 (some .boolean), .static yX8_within, .initialized RX8, .code yX8_within cX8_within 3 (some .boolean)] ++ wsX30)
def wsX3_take_r1 : List Cond := [Cond.fieldLink RX3 9 "OneHandset$Keys" "codes" "[I", Cond.methodLink RX3 49 yX3_flipMask, Cond.instanceMethod yX3_flipMask, Cond.selects RX3 yX3_flipMask yX3_flipMask, Cond.initialized RX3, Cond.code yX3_flipMask cX3_flipMask 1 (some .int), Cond.fieldLink RX3 26 "OneHandset$Keys" "flip" "I", Cond.methodLink RX3 45 yX3_hasKey, Cond.instanceMethod yX3_hasKey, Cond.selects RX3 yX3_hasKey yX3_hasKey, Cond.code yX3_hasKey cX3_hasKey 2 (some .boolean), Cond.static yX8_within, Cond.initialized RX8, Cond.code yX8_within cX8_within 3 (some .boolean), Cond.methodLink RX3 38 yX3_compareAll, Cond.instanceMethod yX3_compareAll, Cond.selects RX3 yX3_compareAll yX3_compareAll, Cond.code yX3_compareAll cX3_compareAll 4 none, Cond.fieldLink RX3 57 "OneHandset$Keys" "learnt" "I", Cond.fieldLink RX3 18 "OneHandset$Keys" "bits" "I", Cond.fieldLink RX3 63 "OneHandset$Keys" "fixed" "I", Cond.fieldLink RX3 66 "OneHandset$Keys" "fixedOn" "I", Cond.fieldLink RX3 15 "OneHandset$Keys" "constants" "[I", Cond.static yX8_lowBits]
def wsX3_take_r2 : List Cond := [Cond.code yX8_lowBits cX8_lowBits 1 (some .int), Cond.methodLink RX3 69 yX3_isCheck, Cond.instanceMethod yX3_isCheck, Cond.selects RX3 yX3_isCheck yX3_isCheck, Cond.code yX3_isCheck cX3_isCheck 2 (some .boolean), Cond.methodLink RX3 72 yX3_commonConstant, Cond.instanceMethod yX3_commonConstant, Cond.selects RX3 yX3_commonConstant yX3_commonConstant, Cond.code yX3_commonConstant cX3_commonConstant 6 (some .int), Cond.methodLink RX3 75 yX3_constantFor, Cond.instanceMethod yX3_constantFor, Cond.selects RX3 yX3_constantFor yX3_constantFor, Cond.code yX3_constantFor cX3_constantFor 3 (some .int), Cond.methodLink RX3 79 yX3_isContrary, Cond.instanceMethod yX3_isContrary, Cond.selects RX3 yX3_isContrary yX3_isContrary, Cond.code yX3_isContrary cX3_isContrary 3 (some .boolean)]
def wsX3_take : List Cond := .code yX3_take cX3_take 4 (some .int) :: ((wsX3_take_r1 ++ wsX3_take_r2) ++ wsX30)
def wsX3_drop_r1 : List Cond := [Cond.fieldLink RX3 9 "OneHandset$Keys" "codes" "[I", Cond.methodLink RX3 53 yX3_codeOf, Cond.instanceMethod yX3_codeOf, Cond.selects RX3 yX3_codeOf yX3_codeOf, Cond.initialized RX3, Cond.code yX3_codeOf cX3_codeOf 2 (some .int), Cond.methodLink RX3 45 yX3_hasKey, Cond.instanceMethod yX3_hasKey, Cond.selects RX3 yX3_hasKey yX3_hasKey, Cond.code yX3_hasKey cX3_hasKey 2 (some .boolean), Cond.static yX8_within, Cond.initialized RX8, Cond.code yX8_within cX8_within 3 (some .boolean), Cond.methodLink RX3 38 yX3_compareAll, Cond.instanceMethod yX3_compareAll, Cond.selects RX3 yX3_compareAll yX3_compareAll, Cond.code yX3_compareAll cX3_compareAll 4 none, Cond.fieldLink RX3 57 "OneHandset$Keys" "learnt" "I", Cond.fieldLink RX3 18 "OneHandset$Keys" "bits" "I", Cond.fieldLink RX3 63 "OneHandset$Keys" "fixed" "I", Cond.fieldLink RX3 66 "OneHandset$Keys" "fixedOn" "I", Cond.fieldLink RX3 15 "OneHandset$Keys" "constants" "[I", Cond.static yX8_lowBits, Cond.code yX8_lowBits cX8_lowBits 1 (some .int)]
def wsX3_drop_r2 : List Cond := [Cond.methodLink RX3 49 yX3_flipMask, Cond.instanceMethod yX3_flipMask, Cond.selects RX3 yX3_flipMask yX3_flipMask, Cond.code yX3_flipMask cX3_flipMask 1 (some .int), Cond.fieldLink RX3 26 "OneHandset$Keys" "flip" "I", Cond.methodLink RX3 69 yX3_isCheck, Cond.instanceMethod yX3_isCheck, Cond.selects RX3 yX3_isCheck yX3_isCheck, Cond.code yX3_isCheck cX3_isCheck 2 (some .boolean), Cond.methodLink RX3 72 yX3_commonConstant, Cond.instanceMethod yX3_commonConstant, Cond.selects RX3 yX3_commonConstant yX3_commonConstant, Cond.code yX3_commonConstant cX3_commonConstant 6 (some .int), Cond.methodLink RX3 75 yX3_constantFor, Cond.instanceMethod yX3_constantFor, Cond.selects RX3 yX3_constantFor yX3_constantFor, Cond.code yX3_constantFor cX3_constantFor 3 (some .int), Cond.methodLink RX3 79 yX3_isContrary, Cond.instanceMethod yX3_isContrary, Cond.selects RX3 yX3_isContrary yX3_isContrary, Cond.code yX3_isContrary cX3_isContrary 3 (some .boolean)]
def wsX3_drop : List Cond := .code yX3_drop cX3_drop 2 (some .boolean) :: ((wsX3_drop_r1 ++ wsX3_drop_r2) ++ wsX30)
def wsX3_codeToSend : List Cond := .code yX3_codeToSend cX3_codeToSend 3 (some .int) :: ([.fieldLink RX3 29 "OneHandset$Keys" "flipBit" "I", .fieldLink RX3 26 "OneHandset$Keys" "flip" "I", .methodLink RX3 53 yX3_codeOf, .instanceMethod yX3_codeOf, .selects RX3 yX3_codeOf yX3_codeOf, .initialized RX3, .code yX3_codeOf cX3_codeOf 2 (some .int), .fieldLink RX3 9 "OneHandset$Keys" "codes" "[I", .methodLink RX3 45 yX3_hasKey, .instanceMethod yX3_hasKey, .selects RX3 yX3_hasKey yX3_hasKey, .code yX3_hasKey cX3_hasKey 2 (some .boolean), .static yX8_within, .initialized RX8, .code yX8_within cX8_within 3 (some .boolean), .methodLink RX3 49 yX3_flipMask, .instanceMethod yX3_flipMask, .selects RX3 yX3_flipMask yX3_flipMask, .code yX3_flipMask cX3_flipMask 1 (some .int)] ++ wsX30)
def wsX3_constantThatHolds : List Cond := .code yX3_constantThatHolds cX3_constantThatHolds 2 (some .int) :: ([.fieldLink RX3 15 "OneHandset$Keys" "constants" "[I", .static yX8_within, .initialized RX8, .code yX8_within cX8_within 3 (some .boolean)] ++ wsX30)
def wsX3_free : List Cond := .code yX3_free cX3_free 1 (some .int) :: ([.fieldLink RX3 18 "OneHandset$Keys" "bits" "I", .fieldLink RX3 63 "OneHandset$Keys" "fixed" "I", .static yX8_lowBits, .initialized RX8, .code yX8_lowBits cX8_lowBits 1 (some .int), .methodLink RX3 49 yX3_flipMask, .instanceMethod yX3_flipMask, .selects RX3 yX3_flipMask yX3_flipMask, .initialized RX3, .code yX3_flipMask cX3_flipMask 1 (some .int), .fieldLink RX3 26 "OneHandset$Keys" "flip" "I"] ++ wsX30)
def wsJ6_bitCount_0f7a4 : List Cond := .code yJ6_bitCount_0f7a4 cJ6_bitCount_0f7a4 1 (some .int) :: ([.constant RJ6 265 (1431655765), .constant RJ6 266 (858993459), .constant RJ6 267 (252645135)])
def wsX3_canForesee : List Cond := .code yX3_canForesee cX3_canForesee 1 (some .boolean) :: ([.fieldLink RX3 57 "OneHandset$Keys" "learnt" "I", .methodLink RX3 82 yX3_free, .instanceMethod yX3_free, .selects RX3 yX3_free yX3_free, .initialized RX3, .code yX3_free cX3_free 1 (some .int), .fieldLink RX3 18 "OneHandset$Keys" "bits" "I", .fieldLink RX3 63 "OneHandset$Keys" "fixed" "I", .static yX8_lowBits, .initialized RX8, .code yX8_lowBits cX8_lowBits 1 (some .int), .methodLink RX3 49 yX3_flipMask, .instanceMethod yX3_flipMask, .selects RX3 yX3_flipMask yX3_flipMask, .code yX3_flipMask cX3_flipMask 1 (some .int), .fieldLink RX3 26 "OneHandset$Keys" "flip" "I", .methodLink RX3 85 yJ6_bitCount_0f7a4, .static yJ6_bitCount_0f7a4, .initialized RJ6, .code yJ6_bitCount_0f7a4 cJ6_bitCount_0f7a4 1 (some .int), .constant RJ6 265 (1431655765), .constant RJ6 266 (858993459), .constant RJ6 267 (252645135)] ++ wsX30)
def wsX3_checksHoldFor : List Cond := .code yX3_checksHoldFor cX3_checksHoldFor 3 (some .boolean) :: ([.fieldLink RX3 15 "OneHandset$Keys" "constants" "[I", .methodLink RX3 75 yX3_constantFor, .instanceMethod yX3_constantFor, .selects RX3 yX3_constantFor yX3_constantFor, .initialized RX3, .code yX3_constantFor cX3_constantFor 3 (some .int), .methodLink RX3 79 yX3_isContrary, .instanceMethod yX3_isContrary, .selects RX3 yX3_isContrary yX3_isContrary, .code yX3_isContrary cX3_isContrary 3 (some .boolean), .fieldLink RX3 18 "OneHandset$Keys" "bits" "I", .static yX8_lowBits, .initialized RX8, .code yX8_lowBits cX8_lowBits 1 (some .int)] ++ wsX30)
def wsX3_foresees_r1 : List Cond := [Cond.fieldLink RX3 66 "OneHandset$Keys" "fixedOn" "I", Cond.methodLink RX3 82 yX3_free, Cond.instanceMethod yX3_free, Cond.selects RX3 yX3_free yX3_free, Cond.initialized RX3, Cond.code yX3_free cX3_free 1 (some .int), Cond.fieldLink RX3 18 "OneHandset$Keys" "bits" "I", Cond.fieldLink RX3 63 "OneHandset$Keys" "fixed" "I", Cond.static yX8_lowBits, Cond.initialized RX8, Cond.code yX8_lowBits cX8_lowBits 1 (some .int), Cond.methodLink RX3 49 yX3_flipMask, Cond.instanceMethod yX3_flipMask, Cond.selects RX3 yX3_flipMask yX3_flipMask, Cond.code yX3_flipMask cX3_flipMask 1 (some .int), Cond.fieldLink RX3 26 "OneHandset$Keys" "flip" "I", Cond.methodLink RX3 90 yX3_checksHoldFor, Cond.instanceMethod yX3_checksHoldFor, Cond.selects RX3 yX3_checksHoldFor yX3_checksHoldFor, Cond.code yX3_checksHoldFor cX3_checksHoldFor 3 (some .boolean), Cond.fieldLink RX3 15 "OneHandset$Keys" "constants" "[I", Cond.methodLink RX3 75 yX3_constantFor, Cond.instanceMethod yX3_constantFor, Cond.selects RX3 yX3_constantFor yX3_constantFor]
def wsX3_foresees_r2 : List Cond := [Cond.code yX3_constantFor cX3_constantFor 3 (some .int), Cond.methodLink RX3 79 yX3_isContrary, Cond.instanceMethod yX3_isContrary, Cond.selects RX3 yX3_isContrary yX3_isContrary, Cond.code yX3_isContrary cX3_isContrary 3 (some .boolean)]
def wsX3_foresees : List Cond := .code yX3_foresees cX3_foresees 2 (some .boolean) :: ((wsX3_foresees_r1 ++ wsX3_foresees_r2) ++ wsX30)
def wsX3_foreseenAbove_r1 : List Cond := [Cond.fieldLink RX3 66 "OneHandset$Keys" "fixedOn" "I", Cond.methodLink RX3 82 yX3_free, Cond.instanceMethod yX3_free, Cond.selects RX3 yX3_free yX3_free, Cond.initialized RX3, Cond.code yX3_free cX3_free 1 (some .int), Cond.fieldLink RX3 18 "OneHandset$Keys" "bits" "I", Cond.fieldLink RX3 63 "OneHandset$Keys" "fixed" "I", Cond.static yX8_lowBits, Cond.initialized RX8, Cond.code yX8_lowBits cX8_lowBits 1 (some .int), Cond.methodLink RX3 49 yX3_flipMask, Cond.instanceMethod yX3_flipMask, Cond.selects RX3 yX3_flipMask yX3_flipMask, Cond.code yX3_flipMask cX3_flipMask 1 (some .int), Cond.fieldLink RX3 26 "OneHandset$Keys" "flip" "I", Cond.methodLink RX3 85 yJ6_bitCount_0f7a4, Cond.static yJ6_bitCount_0f7a4, Cond.initialized RJ6, Cond.code yJ6_bitCount_0f7a4 cJ6_bitCount_0f7a4 1 (some .int), Cond.constant RJ6 265 (1431655765), Cond.constant RJ6 266 (858993459), Cond.constant RJ6 267 (252645135), Cond.methodLink RX3 90 yX3_checksHoldFor]
def wsX3_foreseenAbove_r2 : List Cond := [Cond.instanceMethod yX3_checksHoldFor, Cond.selects RX3 yX3_checksHoldFor yX3_checksHoldFor, Cond.code yX3_checksHoldFor cX3_checksHoldFor 3 (some .boolean), Cond.fieldLink RX3 15 "OneHandset$Keys" "constants" "[I", Cond.methodLink RX3 75 yX3_constantFor, Cond.instanceMethod yX3_constantFor, Cond.selects RX3 yX3_constantFor yX3_constantFor, Cond.code yX3_constantFor cX3_constantFor 3 (some .int), Cond.methodLink RX3 79 yX3_isContrary, Cond.instanceMethod yX3_isContrary, Cond.selects RX3 yX3_isContrary yX3_isContrary, Cond.code yX3_isContrary cX3_isContrary 3 (some .boolean)]
def wsX3_foreseenAbove : List Cond := .code yX3_foreseenAbove cX3_foreseenAbove 6 (some .int) :: ((wsX3_foreseenAbove_r1 ++ wsX3_foreseenAbove_r2) ++ wsX30)
def wsX3_foreseenCount_r1 : List Cond := [Cond.methodLink RX3 93 yX3_foreseenAbove, Cond.instanceMethod yX3_foreseenAbove, Cond.selects RX3 yX3_foreseenAbove yX3_foreseenAbove, Cond.initialized RX3, Cond.code yX3_foreseenAbove cX3_foreseenAbove 6 (some .int), Cond.fieldLink RX3 66 "OneHandset$Keys" "fixedOn" "I", Cond.methodLink RX3 82 yX3_free, Cond.instanceMethod yX3_free, Cond.selects RX3 yX3_free yX3_free, Cond.code yX3_free cX3_free 1 (some .int), Cond.fieldLink RX3 18 "OneHandset$Keys" "bits" "I", Cond.fieldLink RX3 63 "OneHandset$Keys" "fixed" "I", Cond.static yX8_lowBits, Cond.initialized RX8, Cond.code yX8_lowBits cX8_lowBits 1 (some .int), Cond.methodLink RX3 49 yX3_flipMask, Cond.instanceMethod yX3_flipMask, Cond.selects RX3 yX3_flipMask yX3_flipMask, Cond.code yX3_flipMask cX3_flipMask 1 (some .int), Cond.fieldLink RX3 26 "OneHandset$Keys" "flip" "I", Cond.methodLink RX3 85 yJ6_bitCount_0f7a4, Cond.static yJ6_bitCount_0f7a4, Cond.initialized RJ6, Cond.code yJ6_bitCount_0f7a4 cJ6_bitCount_0f7a4 1 (some .int)]
def wsX3_foreseenCount_r2 : List Cond := [Cond.constant RJ6 265 (1431655765), Cond.constant RJ6 266 (858993459), Cond.constant RJ6 267 (252645135), Cond.methodLink RX3 90 yX3_checksHoldFor, Cond.instanceMethod yX3_checksHoldFor, Cond.selects RX3 yX3_checksHoldFor yX3_checksHoldFor, Cond.code yX3_checksHoldFor cX3_checksHoldFor 3 (some .boolean), Cond.fieldLink RX3 15 "OneHandset$Keys" "constants" "[I", Cond.methodLink RX3 75 yX3_constantFor, Cond.instanceMethod yX3_constantFor, Cond.selects RX3 yX3_constantFor yX3_constantFor, Cond.code yX3_constantFor cX3_constantFor 3 (some .int), Cond.methodLink RX3 79 yX3_isContrary, Cond.instanceMethod yX3_isContrary, Cond.selects RX3 yX3_isContrary yX3_isContrary, Cond.code yX3_isContrary cX3_isContrary 3 (some .boolean)]
def wsX3_foreseenCount : List Cond := .code yX3_foreseenCount cX3_foreseenCount 3 (some .int) :: ((wsX3_foreseenCount_r1 ++ wsX3_foreseenCount_r2) ++ wsX30)
def wsX3_foreseenAt_r1 : List Cond := [Cond.static yX8_within, Cond.initialized RX8, Cond.code yX8_within cX8_within 3 (some .boolean), Cond.methodLink RX3 93 yX3_foreseenAbove, Cond.instanceMethod yX3_foreseenAbove, Cond.selects RX3 yX3_foreseenAbove yX3_foreseenAbove, Cond.initialized RX3, Cond.code yX3_foreseenAbove cX3_foreseenAbove 6 (some .int), Cond.fieldLink RX3 66 "OneHandset$Keys" "fixedOn" "I", Cond.methodLink RX3 82 yX3_free, Cond.instanceMethod yX3_free, Cond.selects RX3 yX3_free yX3_free, Cond.code yX3_free cX3_free 1 (some .int), Cond.fieldLink RX3 18 "OneHandset$Keys" "bits" "I", Cond.fieldLink RX3 63 "OneHandset$Keys" "fixed" "I", Cond.static yX8_lowBits, Cond.code yX8_lowBits cX8_lowBits 1 (some .int), Cond.methodLink RX3 49 yX3_flipMask, Cond.instanceMethod yX3_flipMask, Cond.selects RX3 yX3_flipMask yX3_flipMask, Cond.code yX3_flipMask cX3_flipMask 1 (some .int), Cond.fieldLink RX3 26 "OneHandset$Keys" "flip" "I", Cond.methodLink RX3 85 yJ6_bitCount_0f7a4, Cond.static yJ6_bitCount_0f7a4]
def wsX3_foreseenAt_r2 : List Cond := [Cond.initialized RJ6, Cond.code yJ6_bitCount_0f7a4 cJ6_bitCount_0f7a4 1 (some .int), Cond.constant RJ6 265 (1431655765), Cond.constant RJ6 266 (858993459), Cond.constant RJ6 267 (252645135), Cond.methodLink RX3 90 yX3_checksHoldFor, Cond.instanceMethod yX3_checksHoldFor, Cond.selects RX3 yX3_checksHoldFor yX3_checksHoldFor, Cond.code yX3_checksHoldFor cX3_checksHoldFor 3 (some .boolean), Cond.fieldLink RX3 15 "OneHandset$Keys" "constants" "[I", Cond.methodLink RX3 75 yX3_constantFor, Cond.instanceMethod yX3_constantFor, Cond.selects RX3 yX3_constantFor yX3_constantFor, Cond.code yX3_constantFor cX3_constantFor 3 (some .int), Cond.methodLink RX3 79 yX3_isContrary, Cond.instanceMethod yX3_isContrary, Cond.selects RX3 yX3_isContrary yX3_isContrary, Cond.code yX3_isContrary cX3_isContrary 3 (some .boolean)]
def wsX3_foreseenAt : List Cond := .code yX3_foreseenAt cX3_foreseenAt 4 (some .int) :: ((wsX3_foreseenAt_r1 ++ wsX3_foreseenAt_r2) ++ wsX30)
def wsX3_leastForeseenWith_r1 : List Cond := [Cond.methodLink RX3 93 yX3_foreseenAbove, Cond.instanceMethod yX3_foreseenAbove, Cond.selects RX3 yX3_foreseenAbove yX3_foreseenAbove, Cond.initialized RX3, Cond.code yX3_foreseenAbove cX3_foreseenAbove 6 (some .int), Cond.fieldLink RX3 66 "OneHandset$Keys" "fixedOn" "I", Cond.methodLink RX3 82 yX3_free, Cond.instanceMethod yX3_free, Cond.selects RX3 yX3_free yX3_free, Cond.code yX3_free cX3_free 1 (some .int), Cond.fieldLink RX3 18 "OneHandset$Keys" "bits" "I", Cond.fieldLink RX3 63 "OneHandset$Keys" "fixed" "I", Cond.static yX8_lowBits, Cond.initialized RX8, Cond.code yX8_lowBits cX8_lowBits 1 (some .int), Cond.methodLink RX3 49 yX3_flipMask, Cond.instanceMethod yX3_flipMask, Cond.selects RX3 yX3_flipMask yX3_flipMask, Cond.code yX3_flipMask cX3_flipMask 1 (some .int), Cond.fieldLink RX3 26 "OneHandset$Keys" "flip" "I", Cond.methodLink RX3 85 yJ6_bitCount_0f7a4, Cond.static yJ6_bitCount_0f7a4, Cond.initialized RJ6, Cond.code yJ6_bitCount_0f7a4 cJ6_bitCount_0f7a4 1 (some .int)]
def wsX3_leastForeseenWith_r2 : List Cond := [Cond.constant RJ6 265 (1431655765), Cond.constant RJ6 266 (858993459), Cond.constant RJ6 267 (252645135), Cond.methodLink RX3 90 yX3_checksHoldFor, Cond.instanceMethod yX3_checksHoldFor, Cond.selects RX3 yX3_checksHoldFor yX3_checksHoldFor, Cond.code yX3_checksHoldFor cX3_checksHoldFor 3 (some .boolean), Cond.fieldLink RX3 15 "OneHandset$Keys" "constants" "[I", Cond.methodLink RX3 75 yX3_constantFor, Cond.instanceMethod yX3_constantFor, Cond.selects RX3 yX3_constantFor yX3_constantFor, Cond.code yX3_constantFor cX3_constantFor 3 (some .int), Cond.methodLink RX3 79 yX3_isContrary, Cond.instanceMethod yX3_isContrary, Cond.selects RX3 yX3_isContrary yX3_isContrary, Cond.code yX3_isContrary cX3_isContrary 3 (some .boolean), Cond.methodLink RX3 96 yX3_foresees, Cond.instanceMethod yX3_foresees, Cond.selects RX3 yX3_foresees yX3_foresees, Cond.code yX3_foresees cX3_foresees 2 (some .boolean)]
def wsX3_leastForeseenWith : List Cond := .code yX3_leastForeseenWith cX3_leastForeseenWith 4 (some .int) :: ((wsX3_leastForeseenWith_r1 ++ wsX3_leastForeseenWith_r2) ++ wsX30)
def wsX4_init_r1 : List Cond := [Cond.methodLink RX4 3 objectInit, Cond.instanceMethod objectInit, Cond.code objectInit ⟨#[0xb1]⟩ 1 none, Cond.fieldLink RX4 9 "OneHandset$Make" "miss" "I", Cond.fieldLink RX4 15 "OneHandset$Make" "kind" "I", Cond.fieldLink RX4 18 "OneHandset$Make" "bits" "I", Cond.fieldLink RX4 21 "OneHandset$Make" "form" "LOneHandset$Form;", Cond.classLink RX4 25 RX3, Cond.instantiable RX3 8, Cond.initialized RX3, Cond.fieldLink RX4 30 "OneHandset$Make" "keys" "LOneHandset$Keys;", Cond.methodLink RX4 27 yX3_init, Cond.instanceMethod yX3_init, Cond.code yX3_init cX3_init 2 none, Cond.methodLink RX3 3 objectInit, Cond.arrayClass .int, Cond.fieldLink RX3 9 "OneHandset$Keys" "codes" "[I", Cond.fieldLink RX3 15 "OneHandset$Keys" "constants" "[I", Cond.fieldLink RX3 18 "OneHandset$Keys" "bits" "I", Cond.methodLink RX3 22 yX3_startWithFlip, Cond.instanceMethod yX3_startWithFlip, Cond.selects RX3 yX3_startWithFlip yX3_startWithFlip, Cond.code yX3_startWithFlip cX3_startWithFlip 2 none, Cond.fieldLink RX3 26 "OneHandset$Keys" "flip" "I"]
def wsX4_init_r2 : List Cond := [Cond.fieldLink RX3 29 "OneHandset$Keys" "flipBit" "I", Cond.methodLink RX3 32 yJ7_fill_53178, Cond.static yJ7_fill_53178, Cond.initialized RJ7, Cond.code yJ7_fill_53178 cJ7_fill_53178 4 none, Cond.methodLink RX3 38 yX3_compareAll, Cond.instanceMethod yX3_compareAll, Cond.selects RX3 yX3_compareAll yX3_compareAll, Cond.code yX3_compareAll cX3_compareAll 4 none, Cond.fieldLink RX3 57 "OneHandset$Keys" "learnt" "I", Cond.fieldLink RX3 63 "OneHandset$Keys" "fixed" "I", Cond.fieldLink RX3 66 "OneHandset$Keys" "fixedOn" "I", Cond.static yX8_lowBits, Cond.initialized RX8, Cond.code yX8_lowBits cX8_lowBits 1 (some .int), Cond.methodLink RX3 49 yX3_flipMask, Cond.instanceMethod yX3_flipMask, Cond.selects RX3 yX3_flipMask yX3_flipMask, Cond.code yX3_flipMask cX3_flipMask 1 (some .int), Cond.methodLink RX3 69 yX3_isCheck, Cond.instanceMethod yX3_isCheck, Cond.selects RX3 yX3_isCheck yX3_isCheck, Cond.code yX3_isCheck cX3_isCheck 2 (some .boolean), Cond.methodLink RX3 72 yX3_commonConstant]
def wsX4_init_r3 : List Cond := [Cond.instanceMethod yX3_commonConstant, Cond.selects RX3 yX3_commonConstant yX3_commonConstant, Cond.code yX3_commonConstant cX3_commonConstant 6 (some .int), Cond.methodLink RX3 75 yX3_constantFor, Cond.instanceMethod yX3_constantFor, Cond.selects RX3 yX3_constantFor yX3_constantFor, Cond.code yX3_constantFor cX3_constantFor 3 (some .int), Cond.methodLink RX3 79 yX3_isContrary, Cond.instanceMethod yX3_isContrary, Cond.selects RX3 yX3_isContrary yX3_isContrary, Cond.code yX3_isContrary cX3_isContrary 3 (some .boolean)]
def wsX4_init : List Cond := .code yX4_init cX4_init 4 none :: ((wsX4_init_r1 ++ (wsX4_init_r2 ++ wsX4_init_r3)) ++ wsX40 ++ wsX30)
def wsX5_tellsBit : List Cond := .code yX5_tellsBit cX5_tellsBit 2 (some .boolean) :: ([.fieldLink RX5 9 "OneHandset$PairsForm" "onTellsBit" "Z"] ++ wsX50)
def wsX5_plainTime : List Cond := .code yX5_plainTime cX5_plainTime 2 (some .int) :: ([.fieldLink RX5 19 "OneHandset$PairsForm" "a" "I", .fieldLink RX5 22 "OneHandset$PairsForm" "b" "I", .fieldLink RX5 25 "OneHandset$PairsForm" "p" "I"] ++ wsX50)
def wsX5_write : List Cond := .code yX5_write cX5_write 5 none :: ([.fieldLink RX5 15 "OneHandset$PairsForm" "bits" "I", .fieldLink RX5 34 "OneHandset$PairsForm" "length" "I", .fieldLink RX5 28 "OneHandset$PairsForm" "z" "I", .fieldLink RX5 31 "OneHandset$PairsForm" "o" "I", .methodLink RX5 37 yX5_tellsBit, .instanceMethod yX5_tellsBit, .selects RX5 yX5_tellsBit yX5_tellsBit, .initialized RX5, .code yX5_tellsBit cX5_tellsBit 2 (some .boolean), .fieldLink RX5 9 "OneHandset$PairsForm" "onTellsBit" "Z", .methodLink RX5 41 yX7_append, .instanceMethod yX7_append, .selects RX7 yX7_append yX7_append, .initialized RX7, .code yX7_append cX7_append 2 none, .fieldLink RX7 15 "OneHandset$Tape" "size" "I", .fieldLink RX7 9 "OneHandset$Tape" "times" "[I", .methodLink RX5 47 yX5_plainTime, .instanceMethod yX5_plainTime, .selects RX5 yX5_plainTime yX5_plainTime, .code yX5_plainTime cX5_plainTime 2 (some .int), .fieldLink RX5 19 "OneHandset$PairsForm" "a" "I", .fieldLink RX5 22 "OneHandset$PairsForm" "b" "I", .fieldLink RX5 25 "OneHandset$PairsForm" "p" "I"] ++ wsX50 ++ wsX70)
def wsX4_flash_r1 : List Cond := [Cond.fieldLink RX4 21 "OneHandset$Make" "form" "LOneHandset$Form;", Cond.methodLink RX4 39 ⟨"OneHandset$Form", "write", "(ILOneHandset$Tape;)V"⟩, Cond.sameMethod "OneHandset$Form" "OneHandset$Form" "write" "(ILOneHandset$Tape;)V", Cond.selects RX2 ⟨"OneHandset$Form", "write", "(ILOneHandset$Tape;)V"⟩ yX2_write, Cond.instanceMethod yX2_write, Cond.initialized RX2, Cond.code yX2_write cX2_write 5 none, Cond.fieldLink RX2 9 "OneHandset$HalvesForm" "bits" "I", Cond.fieldLink RX2 15 "OneHandset$HalvesForm" "p" "I", Cond.methodLink RX2 18 yX2_isOn, Cond.instanceMethod yX2_isOn, Cond.selects RX2 yX2_isOn yX2_isOn, Cond.code yX2_isOn cX2_isOn 4 (some .boolean), Cond.methodLink RX2 22 yX7_append, Cond.instanceMethod yX7_append, Cond.selects RX7 yX7_append yX7_append, Cond.initialized RX7, Cond.code yX7_append cX7_append 2 none, Cond.fieldLink RX7 15 "OneHandset$Tape" "size" "I", Cond.fieldLink RX7 9 "OneHandset$Tape" "times" "[I", Cond.methodLink RX2 28 yX7_lengthenLast, Cond.instanceMethod yX7_lengthenLast, Cond.selects RX7 yX7_lengthenLast yX7_lengthenLast, Cond.code yX7_lengthenLast cX7_lengthenLast 2 none]
def wsX4_flash_r2 : List Cond := [Cond.selects RX5 ⟨"OneHandset$Form", "write", "(ILOneHandset$Tape;)V"⟩ yX5_write, Cond.instanceMethod yX5_write, Cond.initialized RX5, Cond.code yX5_write cX5_write 5 none, Cond.fieldLink RX5 15 "OneHandset$PairsForm" "bits" "I", Cond.fieldLink RX5 34 "OneHandset$PairsForm" "length" "I", Cond.fieldLink RX5 28 "OneHandset$PairsForm" "z" "I", Cond.fieldLink RX5 31 "OneHandset$PairsForm" "o" "I", Cond.methodLink RX5 37 yX5_tellsBit, Cond.instanceMethod yX5_tellsBit, Cond.selects RX5 yX5_tellsBit yX5_tellsBit, Cond.code yX5_tellsBit cX5_tellsBit 2 (some .boolean), Cond.fieldLink RX5 9 "OneHandset$PairsForm" "onTellsBit" "Z", Cond.methodLink RX5 41 yX7_append, Cond.methodLink RX5 47 yX5_plainTime, Cond.instanceMethod yX5_plainTime, Cond.selects RX5 yX5_plainTime yX5_plainTime, Cond.code yX5_plainTime cX5_plainTime 2 (some .int), Cond.fieldLink RX5 19 "OneHandset$PairsForm" "a" "I", Cond.fieldLink RX5 22 "OneHandset$PairsForm" "b" "I", Cond.fieldLink RX5 25 "OneHandset$PairsForm" "p" "I"]
def wsX4_flash : List Cond := .code yX4_flash cX4_flash 3 (some .int) :: ((wsX4_flash_r1 ++ wsX4_flash_r2) ++ wsX70 ++ wsX40 ++ wsX20 ++ wsX50)
def wsX5_decode_r1 : List Cond := [Cond.fieldLink RX5 34 "OneHandset$PairsForm" "length" "I", Cond.fieldLink RX5 28 "OneHandset$PairsForm" "z" "I", Cond.fieldLink RX5 31 "OneHandset$PairsForm" "o" "I", Cond.static yX8_fault, Cond.initialized RX8, Cond.code yX8_fault cX8_fault 1 (some .int), Cond.methodLink RX5 57 yX7_at, Cond.instanceMethod yX7_at, Cond.selects RX7 yX7_at yX7_at, Cond.initialized RX7, Cond.code yX7_at cX7_at 2 (some .int), Cond.fieldLink RX7 15 "OneHandset$Tape" "size" "I", Cond.fieldLink RX7 9 "OneHandset$Tape" "times" "[I", Cond.static yX8_within, Cond.code yX8_within cX8_within 3 (some .boolean), Cond.methodLink RX5 37 yX5_tellsBit, Cond.instanceMethod yX5_tellsBit, Cond.selects RX5 yX5_tellsBit yX5_tellsBit, Cond.initialized RX5, Cond.code yX5_tellsBit cX5_tellsBit 2 (some .boolean), Cond.fieldLink RX5 9 "OneHandset$PairsForm" "onTellsBit" "Z", Cond.static yX8_nearerOf, Cond.code yX8_nearerOf cX8_nearerOf 6 (some .int), Cond.methodLink RX8 202 Lib.Math.abs.name]
def wsX5_decode_r2 : List Cond := [Cond.static Lib.Math.abs.name, Cond.initialized "java/lang/Math", Cond.code Lib.Math.abs.name Lib.Math.abs.code 1 (some .int), Cond.methodLink RX8 207 yX8_fits, Cond.static yX8_fits, Cond.code yX8_fits cX8_fits 3 (some .boolean), Cond.methodLink RX8 199 yX8_isTime, Cond.static yX8_isTime, Cond.code yX8_isTime cX8_isTime 1 (some .boolean), Cond.methodLink RX8 40 yX8_within, Cond.methodLink RX5 47 yX5_plainTime, Cond.instanceMethod yX5_plainTime, Cond.selects RX5 yX5_plainTime yX5_plainTime, Cond.code yX5_plainTime cX5_plainTime 2 (some .int), Cond.fieldLink RX5 19 "OneHandset$PairsForm" "a" "I", Cond.fieldLink RX5 22 "OneHandset$PairsForm" "b" "I", Cond.fieldLink RX5 25 "OneHandset$PairsForm" "p" "I"]
def wsX5_decode : List Cond := .code yX5_decode cX5_decode 7 (some .int) :: ((wsX5_decode_r1 ++ wsX5_decode_r2) ++ wsX70 ++ wsX50)
def wsX4_decode_r1 : List Cond := [Cond.fieldLink RX4 21 "OneHandset$Make" "form" "LOneHandset$Form;", Cond.fieldLink RX4 9 "OneHandset$Make" "miss" "I", Cond.methodLink RX4 45 ⟨"OneHandset$Form", "decode", "(LOneHandset$Tape;I)I"⟩, Cond.sameMethod "OneHandset$Form" "OneHandset$Form" "decode" "(LOneHandset$Tape;I)I", Cond.selects RX2 ⟨"OneHandset$Form", "decode", "(LOneHandset$Tape;I)I"⟩ yX2_decode, Cond.instanceMethod yX2_decode, Cond.initialized RX2, Cond.code yX2_decode cX2_decode 11 (some .int), Cond.fieldLink RX2 15 "OneHandset$HalvesForm" "p" "I", Cond.fieldLink RX2 9 "OneHandset$HalvesForm" "bits" "I", Cond.methodLink RX2 34 yX7_at, Cond.instanceMethod yX7_at, Cond.selects RX7 yX7_at yX7_at, Cond.initialized RX7, Cond.code yX7_at cX7_at 2 (some .int), Cond.fieldLink RX7 15 "OneHandset$Tape" "size" "I", Cond.fieldLink RX7 9 "OneHandset$Tape" "times" "[I", Cond.static yX8_within, Cond.initialized RX8, Cond.code yX8_within cX8_within 3 (some .boolean), Cond.static yX8_nearerOf, Cond.code yX8_nearerOf cX8_nearerOf 6 (some .int), Cond.methodLink RX8 202 Lib.Math.abs.name, Cond.static Lib.Math.abs.name]
def wsX4_decode_r2 : List Cond := [Cond.initialized "java/lang/Math", Cond.code Lib.Math.abs.name Lib.Math.abs.code 1 (some .int), Cond.methodLink RX8 207 yX8_fits, Cond.static yX8_fits, Cond.code yX8_fits cX8_fits 3 (some .boolean), Cond.methodLink RX8 199 yX8_isTime, Cond.static yX8_isTime, Cond.code yX8_isTime cX8_isTime 1 (some .boolean), Cond.methodLink RX8 40 yX8_within, Cond.static yX8_fault, Cond.code yX8_fault cX8_fault 1 (some .int), Cond.selects RX5 ⟨"OneHandset$Form", "decode", "(LOneHandset$Tape;I)I"⟩ yX5_decode, Cond.instanceMethod yX5_decode, Cond.initialized RX5, Cond.code yX5_decode cX5_decode 7 (some .int), Cond.fieldLink RX5 34 "OneHandset$PairsForm" "length" "I", Cond.fieldLink RX5 28 "OneHandset$PairsForm" "z" "I", Cond.fieldLink RX5 31 "OneHandset$PairsForm" "o" "I", Cond.methodLink RX5 57 yX7_at, Cond.methodLink RX5 37 yX5_tellsBit, Cond.instanceMethod yX5_tellsBit, Cond.selects RX5 yX5_tellsBit yX5_tellsBit, Cond.code yX5_tellsBit cX5_tellsBit 2 (some .boolean), Cond.fieldLink RX5 9 "OneHandset$PairsForm" "onTellsBit" "Z"]
def wsX4_decode_r3 : List Cond := [Cond.methodLink RX5 47 yX5_plainTime, Cond.instanceMethod yX5_plainTime, Cond.selects RX5 yX5_plainTime yX5_plainTime, Cond.code yX5_plainTime cX5_plainTime 2 (some .int), Cond.fieldLink RX5 19 "OneHandset$PairsForm" "a" "I", Cond.fieldLink RX5 22 "OneHandset$PairsForm" "b" "I", Cond.fieldLink RX5 25 "OneHandset$PairsForm" "p" "I"]
def wsX4_decode : List Cond := .code yX4_decode cX4_decode 2 (some .int) :: ((wsX4_decode_r1 ++ (wsX4_decode_r2 ++ wsX4_decode_r3)) ++ wsX40 ++ wsX70 ++ wsX20 ++ wsX50)
def wsX5_init : List Cond := .code yX5_init cX5_init 8 none :: ([.fieldLink RX5 9 "OneHandset$PairsForm" "onTellsBit" "Z", .fieldLink RX5 15 "OneHandset$PairsForm" "bits" "I", .fieldLink RX5 19 "OneHandset$PairsForm" "a" "I", .fieldLink RX5 22 "OneHandset$PairsForm" "b" "I", .fieldLink RX5 25 "OneHandset$PairsForm" "p" "I", .fieldLink RX5 28 "OneHandset$PairsForm" "z" "I", .fieldLink RX5 31 "OneHandset$PairsForm" "o" "I", .fieldLink RX5 34 "OneHandset$PairsForm" "length" "I", .instanceMethod yX1_init, .initialized RX1, .code yX1_init cX1_init 1 none, .methodLink RX1 1 objectInit, .instanceMethod objectInit, .code objectInit ⟨#[0xb1]⟩ 1 none] ++ wsX50)
def wsX6_init : List Cond := .code yX6_init cX6_init 1 none :: ([.methodLink RX6 3 objectInit, .instanceMethod objectInit, .code objectInit ⟨#[0xb1]⟩ 1 none, .arrayClass .int, .fieldLink RX6 9 "OneHandset$Route" "row" "[I", .fieldLink RX6 15 "OneHandset$Route" "queue" "[I", .fieldLink RX6 18 "OneHandset$Route" "before" "[I", .fieldLink RX6 21 "OneHandset$Route" "by" "[I", .fieldLink RX6 24 "OneHandset$Route" "length" "I"] ++ wsX60)
def wsX6_keepRow : List Cond := .code yX6_keepRow cX6_keepRow 5 (some .int) :: ([.fieldLink RX6 24 "OneHandset$Route" "length" "I", .fieldLink RX6 18 "OneHandset$Route" "before" "[I", .fieldLink RX6 9 "OneHandset$Route" "row" "[I", .fieldLink RX6 21 "OneHandset$Route" "by" "[I"] ++ wsX60)
def wsX6_find_r1 : List Cond := [Cond.fieldLink RX6 18 "OneHandset$Route" "before" "[I", Cond.fieldLink RX6 15 "OneHandset$Route" "queue" "[I", Cond.fieldLink RX6 21 "OneHandset$Route" "by" "[I", Cond.methodLink RX6 28 yJ7_fill_53178, Cond.static yJ7_fill_53178, Cond.initialized RJ7, Cond.code yJ7_fill_53178 cJ7_fill_53178 4 none, Cond.methodLink RX6 39 yX6_keepRow, Cond.instanceMethod yX6_keepRow, Cond.selects RX6 yX6_keepRow yX6_keepRow, Cond.initialized RX6, Cond.code yX6_keepRow cX6_keepRow 5 (some .int), Cond.fieldLink RX6 24 "OneHandset$Route" "length" "I", Cond.fieldLink RX6 9 "OneHandset$Route" "row" "[I", Cond.methodLink RX6 46 yX0_behind, Cond.instanceMethod yX0_behind, Cond.selects RX0 yX0_behind yX0_behind, Cond.initialized RX0, Cond.code yX0_behind cX0_behind 5 (some .int), Cond.fieldLink RX0 19 "OneHandset$Box" "states" "I", Cond.fieldLink RX0 9 "OneHandset$Box" "leads" "[I", Cond.methodLink RX0 47 yX0_hasButton, Cond.instanceMethod yX0_hasButton, Cond.selects RX0 yX0_hasButton yX0_hasButton]
def wsX6_find_r2 : List Cond := [Cond.code yX0_hasButton cX0_hasButton 2 (some .boolean), Cond.fieldLink RX0 23 "OneHandset$Box" "buttons" "I", Cond.static yX8_within, Cond.initialized RX8, Cond.code yX8_within cX8_within 3 (some .boolean)]
def wsX6_find : List Cond := .code yX6_find cX6_find 9 (some .int) :: ((wsX6_find_r1 ++ wsX6_find_r2) ++ wsX60 ++ wsX00)
def wsX6_buttonAt : List Cond := .code yX6_buttonAt cX6_buttonAt 2 (some .int) :: ([.fieldLink RX6 24 "OneHandset$Route" "length" "I", .fieldLink RX6 9 "OneHandset$Route" "row" "[I", .static yX8_within, .initialized RX8, .code yX8_within cX8_within 3 (some .boolean)] ++ wsX60)
def wsX7_init : List Cond := .code yX7_init cX7_init 1 none :: ([.methodLink RX7 3 objectInit, .instanceMethod objectInit, .code objectInit ⟨#[0xb1]⟩ 1 none, .arrayClass .int, .fieldLink RX7 9 "OneHandset$Tape" "times" "[I", .fieldLink RX7 15 "OneHandset$Tape" "size" "I"] ++ wsX70)
def wsX7_stretchAll : List Cond := .code yX7_stretchAll cX7_stretchAll 4 none :: ([.fieldLink RX7 15 "OneHandset$Tape" "size" "I", .fieldLink RX7 9 "OneHandset$Tape" "times" "[I", .methodLink RX7 27 Lib.Math.min.name, .static Lib.Math.min.name, .initialized "java/lang/Math", .code Lib.Math.min.name Lib.Math.min.code 2 (some .int), .methodLink RX7 33 Lib.Math.max.name, .static Lib.Math.max.name, .code Lib.Math.max.name Lib.Math.max.code 2 (some .int), .static yX8_isTime, .initialized RX8, .code yX8_isTime cX8_isTime 1 (some .boolean), .methodLink RX8 40 yX8_within, .static yX8_within, .code yX8_within cX8_within 3 (some .boolean)] ++ wsX70)
def wsX8_init_r1 : List Cond := [Cond.methodLink RX8 3 objectInit, Cond.instanceMethod objectInit, Cond.code objectInit ⟨#[0xb1]⟩ 1 none, Cond.classLink RX8 9 RX7, Cond.instantiable RX7 2, Cond.initialized RX7, Cond.fieldLink RX8 12 "OneHandset" "tape" "LOneHandset$Tape;", Cond.classLink RX8 16 RX4, Cond.fieldLink RX8 18 "OneHandset" "makes" "[LOneHandset$Make;", Cond.fieldLink RX8 22 "OneHandset" "makeCount" "I", Cond.classLink RX8 26 RX0, Cond.fieldLink RX8 28 "OneHandset" "boxes" "[LOneHandset$Box;", Cond.instantiable RX0 4, Cond.initialized RX0, Cond.classLink RX8 33 RX6, Cond.instantiable RX6 5, Cond.initialized RX6, Cond.fieldLink RX8 36 "OneHandset" "route" "LOneHandset$Route;", Cond.instanceMethod yX7_init, Cond.code yX7_init cX7_init 1 none, Cond.methodLink RX7 3 objectInit, Cond.arrayClass .int, Cond.fieldLink RX7 9 "OneHandset$Tape" "times" "[I", Cond.fieldLink RX7 15 "OneHandset$Tape" "size" "I"]
def wsX8_init_r2 : List Cond := [Cond.methodLink RX8 32 yX0_init, Cond.instanceMethod yX0_init, Cond.code yX0_init cX0_init 1 none, Cond.methodLink RX0 3 objectInit, Cond.fieldLink RX0 9 "OneHandset$Box" "leads" "[I", Cond.methodLink RX0 15 yX0_startAnew, Cond.instanceMethod yX0_startAnew, Cond.selects RX0 yX0_startAnew yX0_startAnew, Cond.code yX0_startAnew cX0_startAnew 3 none, Cond.fieldLink RX0 19 "OneHandset$Box" "states" "I", Cond.fieldLink RX0 23 "OneHandset$Box" "buttons" "I", Cond.fieldLink RX0 30 "OneHandset$Box" "maybe" "I", Cond.static yX8_lowBits, Cond.initialized RX8, Cond.code yX8_lowBits cX8_lowBits 1 (some .int), Cond.methodLink RX0 33 yJ7_fill_53178, Cond.static yJ7_fill_53178, Cond.initialized RJ7, Cond.code yJ7_fill_53178 cJ7_fill_53178 4 none, Cond.instanceMethod yX6_init, Cond.code yX6_init cX6_init 1 none, Cond.methodLink RX6 3 objectInit, Cond.fieldLink RX6 9 "OneHandset$Route" "row" "[I", Cond.fieldLink RX6 15 "OneHandset$Route" "queue" "[I"]
def wsX8_init_r3 : List Cond := [Cond.fieldLink RX6 18 "OneHandset$Route" "before" "[I", Cond.fieldLink RX6 21 "OneHandset$Route" "by" "[I", Cond.fieldLink RX6 24 "OneHandset$Route" "length" "I"]
def wsX8_init : List Cond := .code yX8_init cX8_init 2 none :: ((wsX8_init_r1 ++ (wsX8_init_r2 ++ wsX8_init_r3)) ++ wsX70 ++ wsX80 ++ wsX00 ++ wsX60)
def wsX8_isNumber : List Cond := .code yX8_isNumber cX8_isNumber 1 (some .boolean) :: ([.methodLink RX8 40 yX8_within, .static yX8_within, .initialized RX8, .code yX8_within cX8_within 3 (some .boolean)])
def wsX8_make_r1 : List Cond := [Cond.fieldLink RX8 22 "OneHandset" "makeCount" "I", Cond.classLink RX8 48 RX2, Cond.instantiable RX2 2, Cond.initialized RX2, Cond.classLink RX8 53 RX5, Cond.instantiable RX5 8, Cond.initialized RX5, Cond.fieldLink RX8 18 "OneHandset" "makes" "[LOneHandset$Make;", Cond.classLink RX8 16 RX4, Cond.instantiable RX4 5, Cond.initialized RX4, Cond.methodLink RX8 40 yX8_within, Cond.static yX8_within, Cond.initialized RX8, Cond.code yX8_within cX8_within 3 (some .boolean), Cond.methodLink RX8 44 yX8_isNumber, Cond.static yX8_isNumber, Cond.code yX8_isNumber cX8_isNumber 1 (some .boolean), Cond.methodLink RX8 50 yX2_init, Cond.instanceMethod yX2_init, Cond.code yX2_init cX2_init 3 none, Cond.fieldLink RX2 9 "OneHandset$HalvesForm" "bits" "I", Cond.fieldLink RX2 15 "OneHandset$HalvesForm" "p" "I", Cond.instanceMethod yX1_init]
def wsX8_make_r2 : List Cond := [Cond.initialized RX1, Cond.code yX1_init cX1_init 1 none, Cond.methodLink RX1 1 objectInit, Cond.instanceMethod objectInit, Cond.code objectInit ⟨#[0xb1]⟩ 1 none, Cond.methodLink RX8 55 yX5_init, Cond.instanceMethod yX5_init, Cond.code yX5_init cX5_init 8 none, Cond.fieldLink RX5 9 "OneHandset$PairsForm" "onTellsBit" "Z", Cond.fieldLink RX5 15 "OneHandset$PairsForm" "bits" "I", Cond.fieldLink RX5 19 "OneHandset$PairsForm" "a" "I", Cond.fieldLink RX5 22 "OneHandset$PairsForm" "b" "I", Cond.fieldLink RX5 25 "OneHandset$PairsForm" "p" "I", Cond.fieldLink RX5 28 "OneHandset$PairsForm" "z" "I", Cond.fieldLink RX5 31 "OneHandset$PairsForm" "o" "I", Cond.fieldLink RX5 34 "OneHandset$PairsForm" "length" "I", Cond.methodLink RX8 58 yX4_init, Cond.instanceMethod yX4_init, Cond.code yX4_init cX4_init 4 none, Cond.methodLink RX4 3 objectInit, Cond.fieldLink RX4 9 "OneHandset$Make" "miss" "I", Cond.fieldLink RX4 15 "OneHandset$Make" "kind" "I", Cond.fieldLink RX4 18 "OneHandset$Make" "bits" "I", Cond.fieldLink RX4 21 "OneHandset$Make" "form" "LOneHandset$Form;"]
def wsX8_make_r3 : List Cond := [Cond.classLink RX4 25 RX3, Cond.instantiable RX3 8, Cond.initialized RX3, Cond.fieldLink RX4 30 "OneHandset$Make" "keys" "LOneHandset$Keys;", Cond.methodLink RX4 27 yX3_init, Cond.instanceMethod yX3_init, Cond.code yX3_init cX3_init 2 none, Cond.methodLink RX3 3 objectInit, Cond.arrayClass .int, Cond.fieldLink RX3 9 "OneHandset$Keys" "codes" "[I", Cond.fieldLink RX3 15 "OneHandset$Keys" "constants" "[I", Cond.fieldLink RX3 18 "OneHandset$Keys" "bits" "I", Cond.methodLink RX3 22 yX3_startWithFlip, Cond.instanceMethod yX3_startWithFlip, Cond.selects RX3 yX3_startWithFlip yX3_startWithFlip, Cond.code yX3_startWithFlip cX3_startWithFlip 2 none, Cond.fieldLink RX3 26 "OneHandset$Keys" "flip" "I", Cond.fieldLink RX3 29 "OneHandset$Keys" "flipBit" "I", Cond.methodLink RX3 32 yJ7_fill_53178, Cond.static yJ7_fill_53178, Cond.initialized RJ7, Cond.code yJ7_fill_53178 cJ7_fill_53178 4 none, Cond.methodLink RX3 38 yX3_compareAll, Cond.instanceMethod yX3_compareAll]
def wsX8_make_r4 : List Cond := [Cond.selects RX3 yX3_compareAll yX3_compareAll, Cond.code yX3_compareAll cX3_compareAll 4 none, Cond.fieldLink RX3 57 "OneHandset$Keys" "learnt" "I", Cond.fieldLink RX3 63 "OneHandset$Keys" "fixed" "I", Cond.fieldLink RX3 66 "OneHandset$Keys" "fixedOn" "I", Cond.static yX8_lowBits, Cond.code yX8_lowBits cX8_lowBits 1 (some .int), Cond.methodLink RX3 49 yX3_flipMask, Cond.instanceMethod yX3_flipMask, Cond.selects RX3 yX3_flipMask yX3_flipMask, Cond.code yX3_flipMask cX3_flipMask 1 (some .int), Cond.methodLink RX3 69 yX3_isCheck, Cond.instanceMethod yX3_isCheck, Cond.selects RX3 yX3_isCheck yX3_isCheck, Cond.code yX3_isCheck cX3_isCheck 2 (some .boolean), Cond.methodLink RX3 72 yX3_commonConstant, Cond.instanceMethod yX3_commonConstant, Cond.selects RX3 yX3_commonConstant yX3_commonConstant, Cond.code yX3_commonConstant cX3_commonConstant 6 (some .int), Cond.methodLink RX3 75 yX3_constantFor, Cond.instanceMethod yX3_constantFor, Cond.selects RX3 yX3_constantFor yX3_constantFor, Cond.code yX3_constantFor cX3_constantFor 3 (some .int), Cond.methodLink RX3 79 yX3_isContrary]
def wsX8_make_r5 : List Cond := [Cond.instanceMethod yX3_isContrary, Cond.selects RX3 yX3_isContrary yX3_isContrary, Cond.code yX3_isContrary cX3_isContrary 3 (some .boolean)]
def wsX8_make : List Cond := .code yX8_make cX8_make 9 (some .int) :: ((wsX8_make_r1 ++ (wsX8_make_r2 ++ (wsX8_make_r3 ++ (wsX8_make_r4 ++ wsX8_make_r5)))) ++ wsX80 ++ wsX20 ++ wsX50 ++ wsX40 ++ wsX30)
def wsX8_makeAt : List Cond := .code yX8_makeAt cX8_makeAt 2 (some (.object "OneHandset$Make")) :: ([.fieldLink RX8 22 "OneHandset" "makeCount" "I", .fieldLink RX8 18 "OneHandset" "makes" "[LOneHandset$Make;", .methodLink RX8 40 yX8_within, .static yX8_within, .initialized RX8, .code yX8_within cX8_within 3 (some .boolean)] ++ wsX80)
def wsX8_set_r1 : List Cond := [Cond.methodLink RX8 61 yX8_makeAt, Cond.instanceMethod yX8_makeAt, Cond.selects RX8 yX8_makeAt yX8_makeAt, Cond.initialized RX8, Cond.code yX8_makeAt cX8_makeAt 2 (some (.object "OneHandset$Make")), Cond.fieldLink RX8 22 "OneHandset" "makeCount" "I", Cond.fieldLink RX8 18 "OneHandset" "makes" "[LOneHandset$Make;", Cond.methodLink RX8 40 yX8_within, Cond.static yX8_within, Cond.code yX8_within cX8_within 3 (some .boolean), Cond.instanceMethod yX3_startWithFlip, Cond.initialized RX3, Cond.selects RX3 yX3_startWithFlip yX3_startWithFlip, Cond.code yX3_startWithFlip cX3_startWithFlip 2 none, Cond.fieldLink RX3 26 "OneHandset$Keys" "flip" "I", Cond.fieldLink RX3 29 "OneHandset$Keys" "flipBit" "I", Cond.fieldLink RX3 9 "OneHandset$Keys" "codes" "[I", Cond.methodLink RX3 32 yJ7_fill_53178, Cond.static yJ7_fill_53178, Cond.initialized RJ7, Cond.code yJ7_fill_53178 cJ7_fill_53178 4 none, Cond.methodLink RX3 38 yX3_compareAll, Cond.instanceMethod yX3_compareAll, Cond.selects RX3 yX3_compareAll yX3_compareAll]
def wsX8_set_r2 : List Cond := [Cond.code yX3_compareAll cX3_compareAll 4 none, Cond.fieldLink RX3 57 "OneHandset$Keys" "learnt" "I", Cond.fieldLink RX3 18 "OneHandset$Keys" "bits" "I", Cond.fieldLink RX3 63 "OneHandset$Keys" "fixed" "I", Cond.fieldLink RX3 66 "OneHandset$Keys" "fixedOn" "I", Cond.fieldLink RX3 15 "OneHandset$Keys" "constants" "[I", Cond.static yX8_lowBits, Cond.code yX8_lowBits cX8_lowBits 1 (some .int), Cond.methodLink RX3 49 yX3_flipMask, Cond.instanceMethod yX3_flipMask, Cond.selects RX3 yX3_flipMask yX3_flipMask, Cond.code yX3_flipMask cX3_flipMask 1 (some .int), Cond.methodLink RX3 69 yX3_isCheck, Cond.instanceMethod yX3_isCheck, Cond.selects RX3 yX3_isCheck yX3_isCheck, Cond.code yX3_isCheck cX3_isCheck 2 (some .boolean), Cond.methodLink RX3 72 yX3_commonConstant, Cond.instanceMethod yX3_commonConstant, Cond.selects RX3 yX3_commonConstant yX3_commonConstant, Cond.code yX3_commonConstant cX3_commonConstant 6 (some .int), Cond.methodLink RX3 75 yX3_constantFor, Cond.instanceMethod yX3_constantFor, Cond.selects RX3 yX3_constantFor yX3_constantFor, Cond.code yX3_constantFor cX3_constantFor 3 (some .int)]
def wsX8_set_r3 : List Cond := [Cond.methodLink RX3 79 yX3_isContrary, Cond.instanceMethod yX3_isContrary, Cond.selects RX3 yX3_isContrary yX3_isContrary, Cond.code yX3_isContrary cX3_isContrary 3 (some .boolean)]
def wsX8_set : List Cond := .code yX8_set cX8_set 5 (some .boolean) :: ((wsX8_set_r1 ++ (wsX8_set_r2 ++ wsX8_set_r3)) ++ wsX40 ++ wsX80 ++ wsX30)
def wsX8_feed : List Cond := .code yX8_feed cX8_feed 6 (some .int) :: ([.fieldLink RX8 12 "OneHandset" "tape" "LOneHandset$Tape;", .methodLink RX8 84 yX7_append, .instanceMethod yX7_append, .selects RX7 yX7_append yX7_append, .initialized RX7, .code yX7_append cX7_append 2 none, .fieldLink RX7 15 "OneHandset$Tape" "size" "I", .fieldLink RX7 9 "OneHandset$Tape" "times" "[I"] ++ wsX80 ++ wsX70)
def wsX8_end : List Cond := .code yX8_end cX8_end 2 (some .boolean) :: ([.fieldLink RX8 12 "OneHandset" "tape" "LOneHandset$Tape;", .methodLink RX8 40 yX8_within, .static yX8_within, .initialized RX8, .code yX8_within cX8_within 3 (some .boolean)] ++ wsX80 ++ wsX70)
def wsX8_send_r1 : List Cond := [Cond.fieldLink RX8 12 "OneHandset" "tape" "LOneHandset$Tape;", Cond.methodLink RX8 61 yX8_makeAt, Cond.instanceMethod yX8_makeAt, Cond.selects RX8 yX8_makeAt yX8_makeAt, Cond.initialized RX8, Cond.code yX8_makeAt cX8_makeAt 2 (some (.object "OneHandset$Make")), Cond.fieldLink RX8 22 "OneHandset" "makeCount" "I", Cond.fieldLink RX8 18 "OneHandset" "makes" "[LOneHandset$Make;", Cond.methodLink RX8 40 yX8_within, Cond.static yX8_within, Cond.code yX8_within cX8_within 3 (some .boolean), Cond.methodLink RX8 87 yX8_lowBits, Cond.static yX8_lowBits, Cond.code yX8_lowBits cX8_lowBits 1 (some .int), Cond.methodLink RX8 91 yX4_flash, Cond.instanceMethod yX4_flash, Cond.selects RX4 yX4_flash yX4_flash, Cond.initialized RX4, Cond.code yX4_flash cX4_flash 3 (some .int), Cond.fieldLink RX4 21 "OneHandset$Make" "form" "LOneHandset$Form;", Cond.methodLink RX4 39 ⟨"OneHandset$Form", "write", "(ILOneHandset$Tape;)V"⟩, Cond.sameMethod "OneHandset$Form" "OneHandset$Form" "write" "(ILOneHandset$Tape;)V", Cond.selects RX2 ⟨"OneHandset$Form", "write", "(ILOneHandset$Tape;)V"⟩ yX2_write, Cond.instanceMethod yX2_write]
def wsX8_send_r2 : List Cond := [Cond.initialized RX2, Cond.code yX2_write cX2_write 5 none, Cond.fieldLink RX2 9 "OneHandset$HalvesForm" "bits" "I", Cond.fieldLink RX2 15 "OneHandset$HalvesForm" "p" "I", Cond.methodLink RX2 18 yX2_isOn, Cond.instanceMethod yX2_isOn, Cond.selects RX2 yX2_isOn yX2_isOn, Cond.code yX2_isOn cX2_isOn 4 (some .boolean), Cond.methodLink RX2 22 yX7_append, Cond.instanceMethod yX7_append, Cond.selects RX7 yX7_append yX7_append, Cond.initialized RX7, Cond.code yX7_append cX7_append 2 none, Cond.fieldLink RX7 15 "OneHandset$Tape" "size" "I", Cond.fieldLink RX7 9 "OneHandset$Tape" "times" "[I", Cond.methodLink RX2 28 yX7_lengthenLast, Cond.instanceMethod yX7_lengthenLast, Cond.selects RX7 yX7_lengthenLast yX7_lengthenLast, Cond.code yX7_lengthenLast cX7_lengthenLast 2 none, Cond.selects RX5 ⟨"OneHandset$Form", "write", "(ILOneHandset$Tape;)V"⟩ yX5_write, Cond.instanceMethod yX5_write, Cond.initialized RX5, Cond.code yX5_write cX5_write 5 none, Cond.fieldLink RX5 15 "OneHandset$PairsForm" "bits" "I"]
def wsX8_send_r3 : List Cond := [Cond.fieldLink RX5 34 "OneHandset$PairsForm" "length" "I", Cond.fieldLink RX5 28 "OneHandset$PairsForm" "z" "I", Cond.fieldLink RX5 31 "OneHandset$PairsForm" "o" "I", Cond.methodLink RX5 37 yX5_tellsBit, Cond.instanceMethod yX5_tellsBit, Cond.selects RX5 yX5_tellsBit yX5_tellsBit, Cond.code yX5_tellsBit cX5_tellsBit 2 (some .boolean), Cond.fieldLink RX5 9 "OneHandset$PairsForm" "onTellsBit" "Z", Cond.methodLink RX5 41 yX7_append, Cond.methodLink RX5 47 yX5_plainTime, Cond.instanceMethod yX5_plainTime, Cond.selects RX5 yX5_plainTime yX5_plainTime, Cond.code yX5_plainTime cX5_plainTime 2 (some .int), Cond.fieldLink RX5 19 "OneHandset$PairsForm" "a" "I", Cond.fieldLink RX5 22 "OneHandset$PairsForm" "b" "I", Cond.fieldLink RX5 25 "OneHandset$PairsForm" "p" "I"]
def wsX8_send : List Cond := .code yX8_send cX8_send 4 (some .int) :: ((wsX8_send_r1 ++ (wsX8_send_r2 ++ wsX8_send_r3)) ++ wsX40 ++ wsX80 ++ wsX70 ++ wsX20 ++ wsX50)
def wsX8_time : List Cond := .code yX8_time cX8_time 2 (some .int) :: ([.classLink RX8 95 "java/util/NoSuchElementException", .initialized "java/util/NoSuchElementException", .fieldLink RX8 12 "OneHandset" "tape" "LOneHandset$Tape;", .methodLink RX8 40 yX8_within, .static yX8_within, .initialized RX8, .code yX8_within cX8_within 3 (some .boolean), .methodLink RX8 98 yX7_at, .instanceMethod yX7_at, .selects RX7 yX7_at yX7_at, .initialized RX7, .code yX7_at cX7_at 2 (some .int), .fieldLink RX7 15 "OneHandset$Tape" "size" "I", .fieldLink RX7 9 "OneHandset$Tape" "times" "[I"] ++ wsX80 ++ wsX70 ++ (vx_at0 RX8 97 "java/util/NoSuchElementException" ["java/lang/RuntimeException", "java/lang/Exception"]).filter goodWord)
def wsX8_read_r1 : List Cond := [Cond.fieldLink RX8 12 "OneHandset" "tape" "LOneHandset$Tape;", Cond.methodLink RX8 61 yX8_makeAt, Cond.instanceMethod yX8_makeAt, Cond.selects RX8 yX8_makeAt yX8_makeAt, Cond.initialized RX8, Cond.code yX8_makeAt cX8_makeAt 2 (some (.object "OneHandset$Make")), Cond.fieldLink RX8 22 "OneHandset" "makeCount" "I", Cond.fieldLink RX8 18 "OneHandset" "makes" "[LOneHandset$Make;", Cond.methodLink RX8 40 yX8_within, Cond.static yX8_within, Cond.code yX8_within cX8_within 3 (some .boolean), Cond.methodLink RX8 101 yX4_decode, Cond.instanceMethod yX4_decode, Cond.selects RX4 yX4_decode yX4_decode, Cond.initialized RX4, Cond.code yX4_decode cX4_decode 2 (some .int), Cond.fieldLink RX4 21 "OneHandset$Make" "form" "LOneHandset$Form;", Cond.fieldLink RX4 9 "OneHandset$Make" "miss" "I", Cond.methodLink RX4 45 ⟨"OneHandset$Form", "decode", "(LOneHandset$Tape;I)I"⟩, Cond.sameMethod "OneHandset$Form" "OneHandset$Form" "decode" "(LOneHandset$Tape;I)I", Cond.selects RX2 ⟨"OneHandset$Form", "decode", "(LOneHandset$Tape;I)I"⟩ yX2_decode, Cond.instanceMethod yX2_decode, Cond.initialized RX2, Cond.code yX2_decode cX2_decode 11 (some .int)]
def wsX8_read_r2 : List Cond := [Cond.fieldLink RX2 15 "OneHandset$HalvesForm" "p" "I", Cond.fieldLink RX2 9 "OneHandset$HalvesForm" "bits" "I", Cond.methodLink RX2 34 yX7_at, Cond.instanceMethod yX7_at, Cond.selects RX7 yX7_at yX7_at, Cond.initialized RX7, Cond.code yX7_at cX7_at 2 (some .int), Cond.fieldLink RX7 15 "OneHandset$Tape" "size" "I", Cond.fieldLink RX7 9 "OneHandset$Tape" "times" "[I", Cond.static yX8_nearerOf, Cond.code yX8_nearerOf cX8_nearerOf 6 (some .int), Cond.methodLink RX8 202 Lib.Math.abs.name, Cond.static Lib.Math.abs.name, Cond.initialized "java/lang/Math", Cond.code Lib.Math.abs.name Lib.Math.abs.code 1 (some .int), Cond.methodLink RX8 207 yX8_fits, Cond.static yX8_fits, Cond.code yX8_fits cX8_fits 3 (some .boolean), Cond.methodLink RX8 199 yX8_isTime, Cond.static yX8_isTime, Cond.code yX8_isTime cX8_isTime 1 (some .boolean), Cond.static yX8_fault, Cond.code yX8_fault cX8_fault 1 (some .int), Cond.selects RX5 ⟨"OneHandset$Form", "decode", "(LOneHandset$Tape;I)I"⟩ yX5_decode]
def wsX8_read_r3 : List Cond := [Cond.instanceMethod yX5_decode, Cond.initialized RX5, Cond.code yX5_decode cX5_decode 7 (some .int), Cond.fieldLink RX5 34 "OneHandset$PairsForm" "length" "I", Cond.fieldLink RX5 28 "OneHandset$PairsForm" "z" "I", Cond.fieldLink RX5 31 "OneHandset$PairsForm" "o" "I", Cond.methodLink RX5 57 yX7_at, Cond.methodLink RX5 37 yX5_tellsBit, Cond.instanceMethod yX5_tellsBit, Cond.selects RX5 yX5_tellsBit yX5_tellsBit, Cond.code yX5_tellsBit cX5_tellsBit 2 (some .boolean), Cond.fieldLink RX5 9 "OneHandset$PairsForm" "onTellsBit" "Z", Cond.methodLink RX5 47 yX5_plainTime, Cond.instanceMethod yX5_plainTime, Cond.selects RX5 yX5_plainTime yX5_plainTime, Cond.code yX5_plainTime cX5_plainTime 2 (some .int), Cond.fieldLink RX5 19 "OneHandset$PairsForm" "a" "I", Cond.fieldLink RX5 22 "OneHandset$PairsForm" "b" "I", Cond.fieldLink RX5 25 "OneHandset$PairsForm" "p" "I"]
def wsX8_read : List Cond := .code yX8_read cX8_read 3 (some .int) :: ((wsX8_read_r1 ++ (wsX8_read_r2 ++ wsX8_read_r3)) ++ wsX80 ++ wsX40 ++ wsX70 ++ wsX20 ++ wsX50)
def wsX8_which_r1 : List Cond := [Cond.fieldLink RX8 22 "OneHandset" "makeCount" "I", Cond.methodLink RX8 105 yX8_read, Cond.instanceMethod yX8_read, Cond.selects RX8 yX8_read yX8_read, Cond.initialized RX8, Cond.code yX8_read cX8_read 3 (some .int), Cond.fieldLink RX8 12 "OneHandset" "tape" "LOneHandset$Tape;", Cond.methodLink RX8 61 yX8_makeAt, Cond.instanceMethod yX8_makeAt, Cond.selects RX8 yX8_makeAt yX8_makeAt, Cond.code yX8_makeAt cX8_makeAt 2 (some (.object "OneHandset$Make")), Cond.fieldLink RX8 18 "OneHandset" "makes" "[LOneHandset$Make;", Cond.methodLink RX8 40 yX8_within, Cond.static yX8_within, Cond.code yX8_within cX8_within 3 (some .boolean), Cond.methodLink RX8 101 yX4_decode, Cond.instanceMethod yX4_decode, Cond.selects RX4 yX4_decode yX4_decode, Cond.initialized RX4, Cond.code yX4_decode cX4_decode 2 (some .int), Cond.fieldLink RX4 21 "OneHandset$Make" "form" "LOneHandset$Form;", Cond.fieldLink RX4 9 "OneHandset$Make" "miss" "I", Cond.methodLink RX4 45 ⟨"OneHandset$Form", "decode", "(LOneHandset$Tape;I)I"⟩, Cond.sameMethod "OneHandset$Form" "OneHandset$Form" "decode" "(LOneHandset$Tape;I)I"]
def wsX8_which_r2 : List Cond := [Cond.selects RX2 ⟨"OneHandset$Form", "decode", "(LOneHandset$Tape;I)I"⟩ yX2_decode, Cond.instanceMethod yX2_decode, Cond.initialized RX2, Cond.code yX2_decode cX2_decode 11 (some .int), Cond.fieldLink RX2 15 "OneHandset$HalvesForm" "p" "I", Cond.fieldLink RX2 9 "OneHandset$HalvesForm" "bits" "I", Cond.methodLink RX2 34 yX7_at, Cond.instanceMethod yX7_at, Cond.selects RX7 yX7_at yX7_at, Cond.initialized RX7, Cond.code yX7_at cX7_at 2 (some .int), Cond.fieldLink RX7 15 "OneHandset$Tape" "size" "I", Cond.fieldLink RX7 9 "OneHandset$Tape" "times" "[I", Cond.static yX8_nearerOf, Cond.code yX8_nearerOf cX8_nearerOf 6 (some .int), Cond.methodLink RX8 202 Lib.Math.abs.name, Cond.static Lib.Math.abs.name, Cond.initialized "java/lang/Math", Cond.code Lib.Math.abs.name Lib.Math.abs.code 1 (some .int), Cond.methodLink RX8 207 yX8_fits, Cond.static yX8_fits, Cond.code yX8_fits cX8_fits 3 (some .boolean), Cond.methodLink RX8 199 yX8_isTime, Cond.static yX8_isTime]
def wsX8_which_r3 : List Cond := [Cond.code yX8_isTime cX8_isTime 1 (some .boolean), Cond.static yX8_fault, Cond.code yX8_fault cX8_fault 1 (some .int), Cond.selects RX5 ⟨"OneHandset$Form", "decode", "(LOneHandset$Tape;I)I"⟩ yX5_decode, Cond.instanceMethod yX5_decode, Cond.initialized RX5, Cond.code yX5_decode cX5_decode 7 (some .int), Cond.fieldLink RX5 34 "OneHandset$PairsForm" "length" "I", Cond.fieldLink RX5 28 "OneHandset$PairsForm" "z" "I", Cond.fieldLink RX5 31 "OneHandset$PairsForm" "o" "I", Cond.methodLink RX5 57 yX7_at, Cond.methodLink RX5 37 yX5_tellsBit, Cond.instanceMethod yX5_tellsBit, Cond.selects RX5 yX5_tellsBit yX5_tellsBit, Cond.code yX5_tellsBit cX5_tellsBit 2 (some .boolean), Cond.fieldLink RX5 9 "OneHandset$PairsForm" "onTellsBit" "Z", Cond.methodLink RX5 47 yX5_plainTime, Cond.instanceMethod yX5_plainTime, Cond.selects RX5 yX5_plainTime yX5_plainTime, Cond.code yX5_plainTime cX5_plainTime 2 (some .int), Cond.fieldLink RX5 19 "OneHandset$PairsForm" "a" "I", Cond.fieldLink RX5 22 "OneHandset$PairsForm" "b" "I", Cond.fieldLink RX5 25 "OneHandset$PairsForm" "p" "I"]
def wsX8_which : List Cond := .code yX8_which cX8_which 3 (some .int) :: ((wsX8_which_r1 ++ (wsX8_which_r2 ++ wsX8_which_r3)) ++ wsX80 ++ wsX40 ++ wsX70 ++ wsX20 ++ wsX50)
def wsX8_stretch : List Cond := .code yX8_stretch cX8_stretch 2 (some .boolean) :: ([.fieldLink RX8 12 "OneHandset" "tape" "LOneHandset$Tape;", .methodLink RX8 40 yX8_within, .static yX8_within, .initialized RX8, .code yX8_within cX8_within 3 (some .boolean), .methodLink RX8 108 yX7_stretchAll, .instanceMethod yX7_stretchAll, .selects RX7 yX7_stretchAll yX7_stretchAll, .initialized RX7, .code yX7_stretchAll cX7_stretchAll 4 none, .fieldLink RX7 15 "OneHandset$Tape" "size" "I", .fieldLink RX7 9 "OneHandset$Tape" "times" "[I", .methodLink RX7 27 Lib.Math.min.name, .static Lib.Math.min.name, .initialized "java/lang/Math", .code Lib.Math.min.name Lib.Math.min.code 2 (some .int), .methodLink RX7 33 Lib.Math.max.name, .static Lib.Math.max.name, .code Lib.Math.max.name Lib.Math.max.code 2 (some .int), .static yX8_isTime, .code yX8_isTime cX8_isTime 1 (some .boolean)] ++ wsX80 ++ wsX70)
def wsX8_learn_r1 : List Cond := [Cond.fieldLink RX8 12 "OneHandset" "tape" "LOneHandset$Tape;", Cond.methodLink RX8 61 yX8_makeAt, Cond.instanceMethod yX8_makeAt, Cond.selects RX8 yX8_makeAt yX8_makeAt, Cond.initialized RX8, Cond.code yX8_makeAt cX8_makeAt 2 (some (.object "OneHandset$Make")), Cond.fieldLink RX8 22 "OneHandset" "makeCount" "I", Cond.fieldLink RX8 18 "OneHandset" "makes" "[LOneHandset$Make;", Cond.methodLink RX8 40 yX8_within, Cond.static yX8_within, Cond.code yX8_within cX8_within 3 (some .boolean), Cond.methodLink RX8 101 yX4_decode, Cond.instanceMethod yX4_decode, Cond.selects RX4 yX4_decode yX4_decode, Cond.initialized RX4, Cond.code yX4_decode cX4_decode 2 (some .int), Cond.fieldLink RX4 21 "OneHandset$Make" "form" "LOneHandset$Form;", Cond.fieldLink RX4 9 "OneHandset$Make" "miss" "I", Cond.methodLink RX4 45 ⟨"OneHandset$Form", "decode", "(LOneHandset$Tape;I)I"⟩, Cond.sameMethod "OneHandset$Form" "OneHandset$Form" "decode" "(LOneHandset$Tape;I)I", Cond.selects RX2 ⟨"OneHandset$Form", "decode", "(LOneHandset$Tape;I)I"⟩ yX2_decode, Cond.instanceMethod yX2_decode, Cond.initialized RX2, Cond.code yX2_decode cX2_decode 11 (some .int)]
def wsX8_learn_r2 : List Cond := [Cond.fieldLink RX2 15 "OneHandset$HalvesForm" "p" "I", Cond.fieldLink RX2 9 "OneHandset$HalvesForm" "bits" "I", Cond.methodLink RX2 34 yX7_at, Cond.instanceMethod yX7_at, Cond.selects RX7 yX7_at yX7_at, Cond.initialized RX7, Cond.code yX7_at cX7_at 2 (some .int), Cond.fieldLink RX7 15 "OneHandset$Tape" "size" "I", Cond.fieldLink RX7 9 "OneHandset$Tape" "times" "[I", Cond.static yX8_nearerOf, Cond.code yX8_nearerOf cX8_nearerOf 6 (some .int), Cond.methodLink RX8 202 Lib.Math.abs.name, Cond.static Lib.Math.abs.name, Cond.initialized "java/lang/Math", Cond.code Lib.Math.abs.name Lib.Math.abs.code 1 (some .int), Cond.methodLink RX8 207 yX8_fits, Cond.static yX8_fits, Cond.code yX8_fits cX8_fits 3 (some .boolean), Cond.methodLink RX8 199 yX8_isTime, Cond.static yX8_isTime, Cond.code yX8_isTime cX8_isTime 1 (some .boolean), Cond.static yX8_fault, Cond.code yX8_fault cX8_fault 1 (some .int), Cond.selects RX5 ⟨"OneHandset$Form", "decode", "(LOneHandset$Tape;I)I"⟩ yX5_decode]
def wsX8_learn_r3 : List Cond := [Cond.instanceMethod yX5_decode, Cond.initialized RX5, Cond.code yX5_decode cX5_decode 7 (some .int), Cond.fieldLink RX5 34 "OneHandset$PairsForm" "length" "I", Cond.fieldLink RX5 28 "OneHandset$PairsForm" "z" "I", Cond.fieldLink RX5 31 "OneHandset$PairsForm" "o" "I", Cond.methodLink RX5 57 yX7_at, Cond.methodLink RX5 37 yX5_tellsBit, Cond.instanceMethod yX5_tellsBit, Cond.selects RX5 yX5_tellsBit yX5_tellsBit, Cond.code yX5_tellsBit cX5_tellsBit 2 (some .boolean), Cond.fieldLink RX5 9 "OneHandset$PairsForm" "onTellsBit" "Z", Cond.methodLink RX5 47 yX5_plainTime, Cond.instanceMethod yX5_plainTime, Cond.selects RX5 yX5_plainTime yX5_plainTime, Cond.code yX5_plainTime cX5_plainTime 2 (some .int), Cond.fieldLink RX5 19 "OneHandset$PairsForm" "a" "I", Cond.fieldLink RX5 22 "OneHandset$PairsForm" "b" "I", Cond.fieldLink RX5 25 "OneHandset$PairsForm" "p" "I", Cond.methodLink RX8 111 yX3_take, Cond.instanceMethod yX3_take, Cond.selects RX3 yX3_take yX3_take, Cond.initialized RX3, Cond.code yX3_take cX3_take 4 (some .int)]
def wsX8_learn_r4 : List Cond := [Cond.fieldLink RX3 9 "OneHandset$Keys" "codes" "[I", Cond.methodLink RX3 49 yX3_flipMask, Cond.instanceMethod yX3_flipMask, Cond.selects RX3 yX3_flipMask yX3_flipMask, Cond.code yX3_flipMask cX3_flipMask 1 (some .int), Cond.fieldLink RX3 26 "OneHandset$Keys" "flip" "I", Cond.methodLink RX3 45 yX3_hasKey, Cond.instanceMethod yX3_hasKey, Cond.selects RX3 yX3_hasKey yX3_hasKey, Cond.code yX3_hasKey cX3_hasKey 2 (some .boolean), Cond.methodLink RX3 38 yX3_compareAll, Cond.instanceMethod yX3_compareAll, Cond.selects RX3 yX3_compareAll yX3_compareAll, Cond.code yX3_compareAll cX3_compareAll 4 none, Cond.fieldLink RX3 57 "OneHandset$Keys" "learnt" "I", Cond.fieldLink RX3 18 "OneHandset$Keys" "bits" "I", Cond.fieldLink RX3 63 "OneHandset$Keys" "fixed" "I", Cond.fieldLink RX3 66 "OneHandset$Keys" "fixedOn" "I", Cond.fieldLink RX3 15 "OneHandset$Keys" "constants" "[I", Cond.static yX8_lowBits, Cond.code yX8_lowBits cX8_lowBits 1 (some .int), Cond.methodLink RX3 69 yX3_isCheck, Cond.instanceMethod yX3_isCheck, Cond.selects RX3 yX3_isCheck yX3_isCheck]
def wsX8_learn_r5 : List Cond := [Cond.code yX3_isCheck cX3_isCheck 2 (some .boolean), Cond.methodLink RX3 72 yX3_commonConstant, Cond.instanceMethod yX3_commonConstant, Cond.selects RX3 yX3_commonConstant yX3_commonConstant, Cond.code yX3_commonConstant cX3_commonConstant 6 (some .int), Cond.methodLink RX3 75 yX3_constantFor, Cond.instanceMethod yX3_constantFor, Cond.selects RX3 yX3_constantFor yX3_constantFor, Cond.code yX3_constantFor cX3_constantFor 3 (some .int), Cond.methodLink RX3 79 yX3_isContrary, Cond.instanceMethod yX3_isContrary, Cond.selects RX3 yX3_isContrary yX3_isContrary, Cond.code yX3_isContrary cX3_isContrary 3 (some .boolean)]
def wsX8_learn : List Cond := .code yX8_learn cX8_learn 5 (some .int) :: ((wsX8_learn_r1 ++ (wsX8_learn_r2 ++ (wsX8_learn_r3 ++ (wsX8_learn_r4 ++ wsX8_learn_r5)))) ++ wsX80 ++ wsX40 ++ wsX70 ++ wsX20 ++ wsX50 ++ wsX30)
def wsX8_forget_r1 : List Cond := [Cond.methodLink RX8 61 yX8_makeAt, Cond.instanceMethod yX8_makeAt, Cond.selects RX8 yX8_makeAt yX8_makeAt, Cond.initialized RX8, Cond.code yX8_makeAt cX8_makeAt 2 (some (.object "OneHandset$Make")), Cond.fieldLink RX8 22 "OneHandset" "makeCount" "I", Cond.fieldLink RX8 18 "OneHandset" "makes" "[LOneHandset$Make;", Cond.methodLink RX8 40 yX8_within, Cond.static yX8_within, Cond.code yX8_within cX8_within 3 (some .boolean), Cond.methodLink RX8 115 yX3_drop, Cond.instanceMethod yX3_drop, Cond.selects RX3 yX3_drop yX3_drop, Cond.initialized RX3, Cond.code yX3_drop cX3_drop 2 (some .boolean), Cond.fieldLink RX3 9 "OneHandset$Keys" "codes" "[I", Cond.methodLink RX3 53 yX3_codeOf, Cond.instanceMethod yX3_codeOf, Cond.selects RX3 yX3_codeOf yX3_codeOf, Cond.code yX3_codeOf cX3_codeOf 2 (some .int), Cond.methodLink RX3 45 yX3_hasKey, Cond.instanceMethod yX3_hasKey, Cond.selects RX3 yX3_hasKey yX3_hasKey, Cond.code yX3_hasKey cX3_hasKey 2 (some .boolean)]
def wsX8_forget_r2 : List Cond := [Cond.methodLink RX3 38 yX3_compareAll, Cond.instanceMethod yX3_compareAll, Cond.selects RX3 yX3_compareAll yX3_compareAll, Cond.code yX3_compareAll cX3_compareAll 4 none, Cond.fieldLink RX3 57 "OneHandset$Keys" "learnt" "I", Cond.fieldLink RX3 18 "OneHandset$Keys" "bits" "I", Cond.fieldLink RX3 63 "OneHandset$Keys" "fixed" "I", Cond.fieldLink RX3 66 "OneHandset$Keys" "fixedOn" "I", Cond.fieldLink RX3 15 "OneHandset$Keys" "constants" "[I", Cond.static yX8_lowBits, Cond.code yX8_lowBits cX8_lowBits 1 (some .int), Cond.methodLink RX3 49 yX3_flipMask, Cond.instanceMethod yX3_flipMask, Cond.selects RX3 yX3_flipMask yX3_flipMask, Cond.code yX3_flipMask cX3_flipMask 1 (some .int), Cond.fieldLink RX3 26 "OneHandset$Keys" "flip" "I", Cond.methodLink RX3 69 yX3_isCheck, Cond.instanceMethod yX3_isCheck, Cond.selects RX3 yX3_isCheck yX3_isCheck, Cond.code yX3_isCheck cX3_isCheck 2 (some .boolean), Cond.methodLink RX3 72 yX3_commonConstant, Cond.instanceMethod yX3_commonConstant, Cond.selects RX3 yX3_commonConstant yX3_commonConstant, Cond.code yX3_commonConstant cX3_commonConstant 6 (some .int)]
def wsX8_forget_r3 : List Cond := [Cond.methodLink RX3 75 yX3_constantFor, Cond.instanceMethod yX3_constantFor, Cond.selects RX3 yX3_constantFor yX3_constantFor, Cond.code yX3_constantFor cX3_constantFor 3 (some .int), Cond.methodLink RX3 79 yX3_isContrary, Cond.instanceMethod yX3_isContrary, Cond.selects RX3 yX3_isContrary yX3_isContrary, Cond.code yX3_isContrary cX3_isContrary 3 (some .boolean)]
def wsX8_forget : List Cond := .code yX8_forget cX8_forget 4 (some .boolean) :: ((wsX8_forget_r1 ++ (wsX8_forget_r2 ++ wsX8_forget_r3)) ++ wsX40 ++ wsX80 ++ wsX30)
def wsX8_key : List Cond := .code yX8_key cX8_key 4 (some .int) :: ([.methodLink RX8 61 yX8_makeAt, .instanceMethod yX8_makeAt, .selects RX8 yX8_makeAt yX8_makeAt, .initialized RX8, .code yX8_makeAt cX8_makeAt 2 (some (.object "OneHandset$Make")), .fieldLink RX8 22 "OneHandset" "makeCount" "I", .fieldLink RX8 18 "OneHandset" "makes" "[LOneHandset$Make;", .methodLink RX8 40 yX8_within, .static yX8_within, .code yX8_within cX8_within 3 (some .boolean), .methodLink RX8 118 yX3_codeOf, .instanceMethod yX3_codeOf, .selects RX3 yX3_codeOf yX3_codeOf, .initialized RX3, .code yX3_codeOf cX3_codeOf 2 (some .int), .fieldLink RX3 9 "OneHandset$Keys" "codes" "[I", .methodLink RX3 45 yX3_hasKey, .instanceMethod yX3_hasKey, .selects RX3 yX3_hasKey yX3_hasKey, .code yX3_hasKey cX3_hasKey 2 (some .boolean)] ++ wsX40 ++ wsX80 ++ wsX30)
def wsX8_press_r1 : List Cond := [Cond.fieldLink RX8 12 "OneHandset" "tape" "LOneHandset$Tape;", Cond.methodLink RX8 61 yX8_makeAt, Cond.instanceMethod yX8_makeAt, Cond.selects RX8 yX8_makeAt yX8_makeAt, Cond.initialized RX8, Cond.code yX8_makeAt cX8_makeAt 2 (some (.object "OneHandset$Make")), Cond.fieldLink RX8 22 "OneHandset" "makeCount" "I", Cond.fieldLink RX8 18 "OneHandset" "makes" "[LOneHandset$Make;", Cond.methodLink RX8 40 yX8_within, Cond.static yX8_within, Cond.code yX8_within cX8_within 3 (some .boolean), Cond.methodLink RX8 118 yX3_codeOf, Cond.instanceMethod yX3_codeOf, Cond.selects RX3 yX3_codeOf yX3_codeOf, Cond.initialized RX3, Cond.code yX3_codeOf cX3_codeOf 2 (some .int), Cond.fieldLink RX3 9 "OneHandset$Keys" "codes" "[I", Cond.methodLink RX3 45 yX3_hasKey, Cond.instanceMethod yX3_hasKey, Cond.selects RX3 yX3_hasKey yX3_hasKey, Cond.code yX3_hasKey cX3_hasKey 2 (some .boolean), Cond.methodLink RX8 121 yX3_codeToSend, Cond.instanceMethod yX3_codeToSend, Cond.selects RX3 yX3_codeToSend yX3_codeToSend]
def wsX8_press_r2 : List Cond := [Cond.code yX3_codeToSend cX3_codeToSend 3 (some .int), Cond.fieldLink RX3 29 "OneHandset$Keys" "flipBit" "I", Cond.fieldLink RX3 26 "OneHandset$Keys" "flip" "I", Cond.methodLink RX3 53 yX3_codeOf, Cond.methodLink RX3 49 yX3_flipMask, Cond.instanceMethod yX3_flipMask, Cond.selects RX3 yX3_flipMask yX3_flipMask, Cond.code yX3_flipMask cX3_flipMask 1 (some .int), Cond.methodLink RX8 91 yX4_flash, Cond.instanceMethod yX4_flash, Cond.selects RX4 yX4_flash yX4_flash, Cond.initialized RX4, Cond.code yX4_flash cX4_flash 3 (some .int), Cond.fieldLink RX4 21 "OneHandset$Make" "form" "LOneHandset$Form;", Cond.methodLink RX4 39 ⟨"OneHandset$Form", "write", "(ILOneHandset$Tape;)V"⟩, Cond.sameMethod "OneHandset$Form" "OneHandset$Form" "write" "(ILOneHandset$Tape;)V", Cond.selects RX2 ⟨"OneHandset$Form", "write", "(ILOneHandset$Tape;)V"⟩ yX2_write, Cond.instanceMethod yX2_write, Cond.initialized RX2, Cond.code yX2_write cX2_write 5 none, Cond.fieldLink RX2 9 "OneHandset$HalvesForm" "bits" "I", Cond.fieldLink RX2 15 "OneHandset$HalvesForm" "p" "I", Cond.methodLink RX2 18 yX2_isOn, Cond.instanceMethod yX2_isOn]
def wsX8_press_r3 : List Cond := [Cond.selects RX2 yX2_isOn yX2_isOn, Cond.code yX2_isOn cX2_isOn 4 (some .boolean), Cond.methodLink RX2 22 yX7_append, Cond.instanceMethod yX7_append, Cond.selects RX7 yX7_append yX7_append, Cond.initialized RX7, Cond.code yX7_append cX7_append 2 none, Cond.fieldLink RX7 15 "OneHandset$Tape" "size" "I", Cond.fieldLink RX7 9 "OneHandset$Tape" "times" "[I", Cond.methodLink RX2 28 yX7_lengthenLast, Cond.instanceMethod yX7_lengthenLast, Cond.selects RX7 yX7_lengthenLast yX7_lengthenLast, Cond.code yX7_lengthenLast cX7_lengthenLast 2 none, Cond.selects RX5 ⟨"OneHandset$Form", "write", "(ILOneHandset$Tape;)V"⟩ yX5_write, Cond.instanceMethod yX5_write, Cond.initialized RX5, Cond.code yX5_write cX5_write 5 none, Cond.fieldLink RX5 15 "OneHandset$PairsForm" "bits" "I", Cond.fieldLink RX5 34 "OneHandset$PairsForm" "length" "I", Cond.fieldLink RX5 28 "OneHandset$PairsForm" "z" "I", Cond.fieldLink RX5 31 "OneHandset$PairsForm" "o" "I", Cond.methodLink RX5 37 yX5_tellsBit, Cond.instanceMethod yX5_tellsBit, Cond.selects RX5 yX5_tellsBit yX5_tellsBit]
def wsX8_press_r4 : List Cond := [Cond.code yX5_tellsBit cX5_tellsBit 2 (some .boolean), Cond.fieldLink RX5 9 "OneHandset$PairsForm" "onTellsBit" "Z", Cond.methodLink RX5 41 yX7_append, Cond.methodLink RX5 47 yX5_plainTime, Cond.instanceMethod yX5_plainTime, Cond.selects RX5 yX5_plainTime yX5_plainTime, Cond.code yX5_plainTime cX5_plainTime 2 (some .int), Cond.fieldLink RX5 19 "OneHandset$PairsForm" "a" "I", Cond.fieldLink RX5 22 "OneHandset$PairsForm" "b" "I", Cond.fieldLink RX5 25 "OneHandset$PairsForm" "p" "I"]
def wsX8_press : List Cond := .code yX8_press cX8_press 4 (some .int) :: ((wsX8_press_r1 ++ (wsX8_press_r2 ++ (wsX8_press_r3 ++ wsX8_press_r4))) ++ wsX40 ++ wsX80 ++ wsX30 ++ wsX70 ++ wsX20 ++ wsX50)
def wsX8_of : List Cond := .code yX8_of cX8_of 4 (some .int) :: ([.methodLink RX8 61 yX8_makeAt, .instanceMethod yX8_makeAt, .selects RX8 yX8_makeAt yX8_makeAt, .initialized RX8, .code yX8_makeAt cX8_makeAt 2 (some (.object "OneHandset$Make")), .fieldLink RX8 22 "OneHandset" "makeCount" "I", .fieldLink RX8 18 "OneHandset" "makes" "[LOneHandset$Make;", .methodLink RX8 40 yX8_within, .static yX8_within, .code yX8_within cX8_within 3 (some .boolean)] ++ wsX40 ++ wsX30 ++ wsX80)
def wsX8_check : List Cond := .code yX8_check cX8_check 4 (some .int) :: ([.methodLink RX8 61 yX8_makeAt, .instanceMethod yX8_makeAt, .selects RX8 yX8_makeAt yX8_makeAt, .initialized RX8, .code yX8_makeAt cX8_makeAt 2 (some (.object "OneHandset$Make")), .fieldLink RX8 22 "OneHandset" "makeCount" "I", .fieldLink RX8 18 "OneHandset" "makes" "[LOneHandset$Make;", .methodLink RX8 40 yX8_within, .static yX8_within, .code yX8_within cX8_within 3 (some .boolean), .methodLink RX8 139 yX3_constantThatHolds, .instanceMethod yX3_constantThatHolds, .selects RX3 yX3_constantThatHolds yX3_constantThatHolds, .initialized RX3, .code yX3_constantThatHolds cX3_constantThatHolds 2 (some .int), .fieldLink RX3 15 "OneHandset$Keys" "constants" "[I"] ++ wsX40 ++ wsX80 ++ wsX30)
def wsX8_many_r1 : List Cond := [Cond.methodLink RX8 61 yX8_makeAt, Cond.instanceMethod yX8_makeAt, Cond.selects RX8 yX8_makeAt yX8_makeAt, Cond.initialized RX8, Cond.code yX8_makeAt cX8_makeAt 2 (some (.object "OneHandset$Make")), Cond.fieldLink RX8 22 "OneHandset" "makeCount" "I", Cond.fieldLink RX8 18 "OneHandset" "makes" "[LOneHandset$Make;", Cond.methodLink RX8 40 yX8_within, Cond.static yX8_within, Cond.code yX8_within cX8_within 3 (some .boolean), Cond.methodLink RX8 142 yX3_canForesee, Cond.instanceMethod yX3_canForesee, Cond.selects RX3 yX3_canForesee yX3_canForesee, Cond.initialized RX3, Cond.code yX3_canForesee cX3_canForesee 1 (some .boolean), Cond.fieldLink RX3 57 "OneHandset$Keys" "learnt" "I", Cond.methodLink RX3 82 yX3_free, Cond.instanceMethod yX3_free, Cond.selects RX3 yX3_free yX3_free, Cond.code yX3_free cX3_free 1 (some .int), Cond.fieldLink RX3 18 "OneHandset$Keys" "bits" "I", Cond.fieldLink RX3 63 "OneHandset$Keys" "fixed" "I", Cond.static yX8_lowBits, Cond.code yX8_lowBits cX8_lowBits 1 (some .int)]
def wsX8_many_r2 : List Cond := [Cond.methodLink RX3 49 yX3_flipMask, Cond.instanceMethod yX3_flipMask, Cond.selects RX3 yX3_flipMask yX3_flipMask, Cond.code yX3_flipMask cX3_flipMask 1 (some .int), Cond.fieldLink RX3 26 "OneHandset$Keys" "flip" "I", Cond.methodLink RX3 85 yJ6_bitCount_0f7a4, Cond.static yJ6_bitCount_0f7a4, Cond.initialized RJ6, Cond.code yJ6_bitCount_0f7a4 cJ6_bitCount_0f7a4 1 (some .int), Cond.constant RJ6 265 (1431655765), Cond.constant RJ6 266 (858993459), Cond.constant RJ6 267 (252645135), Cond.methodLink RX8 146 yX3_foreseenCount, Cond.instanceMethod yX3_foreseenCount, Cond.selects RX3 yX3_foreseenCount yX3_foreseenCount, Cond.code yX3_foreseenCount cX3_foreseenCount 3 (some .int), Cond.methodLink RX3 93 yX3_foreseenAbove, Cond.instanceMethod yX3_foreseenAbove, Cond.selects RX3 yX3_foreseenAbove yX3_foreseenAbove, Cond.code yX3_foreseenAbove cX3_foreseenAbove 6 (some .int), Cond.fieldLink RX3 66 "OneHandset$Keys" "fixedOn" "I", Cond.methodLink RX3 90 yX3_checksHoldFor, Cond.instanceMethod yX3_checksHoldFor, Cond.selects RX3 yX3_checksHoldFor yX3_checksHoldFor]
def wsX8_many_r3 : List Cond := [Cond.code yX3_checksHoldFor cX3_checksHoldFor 3 (some .boolean), Cond.fieldLink RX3 15 "OneHandset$Keys" "constants" "[I", Cond.methodLink RX3 75 yX3_constantFor, Cond.instanceMethod yX3_constantFor, Cond.selects RX3 yX3_constantFor yX3_constantFor, Cond.code yX3_constantFor cX3_constantFor 3 (some .int), Cond.methodLink RX3 79 yX3_isContrary, Cond.instanceMethod yX3_isContrary, Cond.selects RX3 yX3_isContrary yX3_isContrary, Cond.code yX3_isContrary cX3_isContrary 3 (some .boolean)]
def wsX8_many : List Cond := .code yX8_many cX8_many 3 (some .int) :: ((wsX8_many_r1 ++ (wsX8_many_r2 ++ wsX8_many_r3)) ++ wsX40 ++ wsX80 ++ wsX30)
def wsX8_foreseen_r1 : List Cond := [Cond.methodLink RX8 61 yX8_makeAt, Cond.instanceMethod yX8_makeAt, Cond.selects RX8 yX8_makeAt yX8_makeAt, Cond.initialized RX8, Cond.code yX8_makeAt cX8_makeAt 2 (some (.object "OneHandset$Make")), Cond.fieldLink RX8 22 "OneHandset" "makeCount" "I", Cond.fieldLink RX8 18 "OneHandset" "makes" "[LOneHandset$Make;", Cond.methodLink RX8 40 yX8_within, Cond.static yX8_within, Cond.code yX8_within cX8_within 3 (some .boolean), Cond.methodLink RX8 142 yX3_canForesee, Cond.instanceMethod yX3_canForesee, Cond.selects RX3 yX3_canForesee yX3_canForesee, Cond.initialized RX3, Cond.code yX3_canForesee cX3_canForesee 1 (some .boolean), Cond.fieldLink RX3 57 "OneHandset$Keys" "learnt" "I", Cond.methodLink RX3 82 yX3_free, Cond.instanceMethod yX3_free, Cond.selects RX3 yX3_free yX3_free, Cond.code yX3_free cX3_free 1 (some .int), Cond.fieldLink RX3 18 "OneHandset$Keys" "bits" "I", Cond.fieldLink RX3 63 "OneHandset$Keys" "fixed" "I", Cond.static yX8_lowBits, Cond.code yX8_lowBits cX8_lowBits 1 (some .int)]
def wsX8_foreseen_r2 : List Cond := [Cond.methodLink RX3 49 yX3_flipMask, Cond.instanceMethod yX3_flipMask, Cond.selects RX3 yX3_flipMask yX3_flipMask, Cond.code yX3_flipMask cX3_flipMask 1 (some .int), Cond.fieldLink RX3 26 "OneHandset$Keys" "flip" "I", Cond.methodLink RX3 85 yJ6_bitCount_0f7a4, Cond.static yJ6_bitCount_0f7a4, Cond.initialized RJ6, Cond.code yJ6_bitCount_0f7a4 cJ6_bitCount_0f7a4 1 (some .int), Cond.constant RJ6 265 (1431655765), Cond.constant RJ6 266 (858993459), Cond.constant RJ6 267 (252645135), Cond.methodLink RX8 150 yX3_foreseenAt, Cond.instanceMethod yX3_foreseenAt, Cond.selects RX3 yX3_foreseenAt yX3_foreseenAt, Cond.code yX3_foreseenAt cX3_foreseenAt 4 (some .int), Cond.methodLink RX3 93 yX3_foreseenAbove, Cond.instanceMethod yX3_foreseenAbove, Cond.selects RX3 yX3_foreseenAbove yX3_foreseenAbove, Cond.code yX3_foreseenAbove cX3_foreseenAbove 6 (some .int), Cond.fieldLink RX3 66 "OneHandset$Keys" "fixedOn" "I", Cond.methodLink RX3 90 yX3_checksHoldFor, Cond.instanceMethod yX3_checksHoldFor, Cond.selects RX3 yX3_checksHoldFor yX3_checksHoldFor]
def wsX8_foreseen_r3 : List Cond := [Cond.code yX3_checksHoldFor cX3_checksHoldFor 3 (some .boolean), Cond.fieldLink RX3 15 "OneHandset$Keys" "constants" "[I", Cond.methodLink RX3 75 yX3_constantFor, Cond.instanceMethod yX3_constantFor, Cond.selects RX3 yX3_constantFor yX3_constantFor, Cond.code yX3_constantFor cX3_constantFor 3 (some .int), Cond.methodLink RX3 79 yX3_isContrary, Cond.instanceMethod yX3_isContrary, Cond.selects RX3 yX3_isContrary yX3_isContrary, Cond.code yX3_isContrary cX3_isContrary 3 (some .boolean)]
def wsX8_foreseen : List Cond := .code yX8_foreseen cX8_foreseen 4 (some .int) :: ((wsX8_foreseen_r1 ++ (wsX8_foreseen_r2 ++ wsX8_foreseen_r3)) ++ wsX40 ++ wsX80 ++ wsX30)
def wsX8_both_r1 : List Cond := [Cond.methodLink RX8 61 yX8_makeAt, Cond.instanceMethod yX8_makeAt, Cond.selects RX8 yX8_makeAt yX8_makeAt, Cond.initialized RX8, Cond.code yX8_makeAt cX8_makeAt 2 (some (.object "OneHandset$Make")), Cond.fieldLink RX8 22 "OneHandset" "makeCount" "I", Cond.fieldLink RX8 18 "OneHandset" "makes" "[LOneHandset$Make;", Cond.methodLink RX8 40 yX8_within, Cond.static yX8_within, Cond.code yX8_within cX8_within 3 (some .boolean), Cond.methodLink RX8 142 yX3_canForesee, Cond.instanceMethod yX3_canForesee, Cond.selects RX3 yX3_canForesee yX3_canForesee, Cond.initialized RX3, Cond.code yX3_canForesee cX3_canForesee 1 (some .boolean), Cond.fieldLink RX3 57 "OneHandset$Keys" "learnt" "I", Cond.methodLink RX3 82 yX3_free, Cond.instanceMethod yX3_free, Cond.selects RX3 yX3_free yX3_free, Cond.code yX3_free cX3_free 1 (some .int), Cond.fieldLink RX3 18 "OneHandset$Keys" "bits" "I", Cond.fieldLink RX3 63 "OneHandset$Keys" "fixed" "I", Cond.static yX8_lowBits, Cond.code yX8_lowBits cX8_lowBits 1 (some .int)]
def wsX8_both_r2 : List Cond := [Cond.methodLink RX3 49 yX3_flipMask, Cond.instanceMethod yX3_flipMask, Cond.selects RX3 yX3_flipMask yX3_flipMask, Cond.code yX3_flipMask cX3_flipMask 1 (some .int), Cond.fieldLink RX3 26 "OneHandset$Keys" "flip" "I", Cond.methodLink RX3 85 yJ6_bitCount_0f7a4, Cond.static yJ6_bitCount_0f7a4, Cond.initialized RJ6, Cond.code yJ6_bitCount_0f7a4 cJ6_bitCount_0f7a4 1 (some .int), Cond.constant RJ6 265 (1431655765), Cond.constant RJ6 266 (858993459), Cond.constant RJ6 267 (252645135), Cond.methodLink RX8 153 yX3_leastForeseenWith, Cond.instanceMethod yX3_leastForeseenWith, Cond.selects RX3 yX3_leastForeseenWith yX3_leastForeseenWith, Cond.code yX3_leastForeseenWith cX3_leastForeseenWith 4 (some .int), Cond.methodLink RX3 93 yX3_foreseenAbove, Cond.instanceMethod yX3_foreseenAbove, Cond.selects RX3 yX3_foreseenAbove yX3_foreseenAbove, Cond.code yX3_foreseenAbove cX3_foreseenAbove 6 (some .int), Cond.fieldLink RX3 66 "OneHandset$Keys" "fixedOn" "I", Cond.methodLink RX3 90 yX3_checksHoldFor, Cond.instanceMethod yX3_checksHoldFor, Cond.selects RX3 yX3_checksHoldFor yX3_checksHoldFor]
def wsX8_both_r3 : List Cond := [Cond.code yX3_checksHoldFor cX3_checksHoldFor 3 (some .boolean), Cond.fieldLink RX3 15 "OneHandset$Keys" "constants" "[I", Cond.methodLink RX3 75 yX3_constantFor, Cond.instanceMethod yX3_constantFor, Cond.selects RX3 yX3_constantFor yX3_constantFor, Cond.code yX3_constantFor cX3_constantFor 3 (some .int), Cond.methodLink RX3 79 yX3_isContrary, Cond.instanceMethod yX3_isContrary, Cond.selects RX3 yX3_isContrary yX3_isContrary, Cond.code yX3_isContrary cX3_isContrary 3 (some .boolean), Cond.methodLink RX3 96 yX3_foresees, Cond.instanceMethod yX3_foresees, Cond.selects RX3 yX3_foresees yX3_foresees, Cond.code yX3_foresees cX3_foresees 2 (some .boolean)]
def wsX8_both : List Cond := .code yX8_both cX8_both 5 (some .int) :: ((wsX8_both_r1 ++ (wsX8_both_r2 ++ wsX8_both_r3)) ++ wsX40 ++ wsX80 ++ wsX30)
def wsX8_boxAt : List Cond := .code yX8_boxAt cX8_boxAt 2 (some (.object "OneHandset$Box")) :: ([.fieldLink RX8 28 "OneHandset" "boxes" "[LOneHandset$Box;", .methodLink RX8 40 yX8_within, .static yX8_within, .initialized RX8, .code yX8_within cX8_within 3 (some .boolean)] ++ wsX80)
def wsX8_box : List Cond := .code yX8_box cX8_box 5 (some .boolean) :: ([.methodLink RX8 157 yX8_boxAt, .instanceMethod yX8_boxAt, .selects RX8 yX8_boxAt yX8_boxAt, .initialized RX8, .code yX8_boxAt cX8_boxAt 2 (some (.object "OneHandset$Box")), .fieldLink RX8 28 "OneHandset" "boxes" "[LOneHandset$Box;", .methodLink RX8 40 yX8_within, .static yX8_within, .code yX8_within cX8_within 3 (some .boolean), .instanceMethod yX0_startAnew, .initialized RX0, .selects RX0 yX0_startAnew yX0_startAnew, .code yX0_startAnew cX0_startAnew 3 none, .fieldLink RX0 19 "OneHandset$Box" "states" "I", .fieldLink RX0 23 "OneHandset$Box" "buttons" "I", .fieldLink RX0 30 "OneHandset$Box" "maybe" "I", .fieldLink RX0 9 "OneHandset$Box" "leads" "[I", .static yX8_lowBits, .code yX8_lowBits cX8_lowBits 1 (some .int), .methodLink RX0 33 yJ7_fill_53178, .static yJ7_fill_53178, .initialized RJ7, .code yJ7_fill_53178 cJ7_fill_53178 4 none] ++ wsX80 ++ wsX00)
def wsX8_lead_r1 : List Cond := [Cond.methodLink RX8 157 yX8_boxAt, Cond.instanceMethod yX8_boxAt, Cond.selects RX8 yX8_boxAt yX8_boxAt, Cond.initialized RX8, Cond.code yX8_boxAt cX8_boxAt 2 (some (.object "OneHandset$Box")), Cond.fieldLink RX8 28 "OneHandset" "boxes" "[LOneHandset$Box;", Cond.methodLink RX8 40 yX8_within, Cond.static yX8_within, Cond.code yX8_within cX8_within 3 (some .boolean), Cond.methodLink RX8 164 yX0_hasState, Cond.instanceMethod yX0_hasState, Cond.selects RX0 yX0_hasState yX0_hasState, Cond.initialized RX0, Cond.code yX0_hasState cX0_hasState 2 (some .boolean), Cond.fieldLink RX0 19 "OneHandset$Box" "states" "I", Cond.methodLink RX8 167 yX0_hasButton, Cond.instanceMethod yX0_hasButton, Cond.selects RX0 yX0_hasButton yX0_hasButton, Cond.code yX0_hasButton cX0_hasButton 2 (some .boolean), Cond.fieldLink RX0 23 "OneHandset$Box" "buttons" "I", Cond.methodLink RX8 170 yX0_setLead, Cond.instanceMethod yX0_setLead, Cond.selects RX0 yX0_setLead yX0_setLead, Cond.code yX0_setLead cX0_setLead 4 none]
def wsX8_lead_r2 : List Cond := [Cond.fieldLink RX0 9 "OneHandset$Box" "leads" "[I", Cond.methodLink RX0 43 yX0_hasState, Cond.methodLink RX0 47 yX0_hasButton]
def wsX8_lead : List Cond := .code yX8_lead cX8_lead 6 (some .boolean) :: ((wsX8_lead_r1 ++ wsX8_lead_r2) ++ wsX80 ++ wsX00)
def wsX8_maybe : List Cond := .code yX8_maybe cX8_maybe 4 (some .boolean) :: ([.methodLink RX8 157 yX8_boxAt, .instanceMethod yX8_boxAt, .selects RX8 yX8_boxAt yX8_boxAt, .initialized RX8, .code yX8_boxAt cX8_boxAt 2 (some (.object "OneHandset$Box")), .fieldLink RX8 28 "OneHandset" "boxes" "[LOneHandset$Box;", .methodLink RX8 40 yX8_within, .static yX8_within, .code yX8_within cX8_within 3 (some .boolean), .methodLink RX8 174 yX0_hasSet, .instanceMethod yX0_hasSet, .selects RX0 yX0_hasSet yX0_hasSet, .initialized RX0, .code yX0_hasSet cX0_hasSet 2 (some .boolean), .fieldLink RX0 19 "OneHandset$Box" "states" "I", .static yX8_lowBits, .code yX8_lowBits cX8_lowBits 1 (some .int)] ++ wsX00 ++ wsX80)
def wsX8_push : List Cond := .code yX8_push cX8_push 4 (some .int) :: ([.methodLink RX8 157 yX8_boxAt, .instanceMethod yX8_boxAt, .selects RX8 yX8_boxAt yX8_boxAt, .initialized RX8, .code yX8_boxAt cX8_boxAt 2 (some (.object "OneHandset$Box")), .fieldLink RX8 28 "OneHandset" "boxes" "[LOneHandset$Box;", .methodLink RX8 40 yX8_within, .static yX8_within, .code yX8_within cX8_within 3 (some .boolean), .methodLink RX8 167 yX0_hasButton, .instanceMethod yX0_hasButton, .selects RX0 yX0_hasButton yX0_hasButton, .initialized RX0, .code yX0_hasButton cX0_hasButton 2 (some .boolean), .fieldLink RX0 23 "OneHandset$Box" "buttons" "I", .methodLink RX8 180 yX0_behind, .instanceMethod yX0_behind, .selects RX0 yX0_behind yX0_behind, .code yX0_behind cX0_behind 5 (some .int), .fieldLink RX0 19 "OneHandset$Box" "states" "I", .fieldLink RX0 9 "OneHandset$Box" "leads" "[I", .methodLink RX0 47 yX0_hasButton] ++ wsX00 ++ wsX80)
def wsX8_way_r1 : List Cond := [Cond.fieldLink RX8 36 "OneHandset" "route" "LOneHandset$Route;", Cond.methodLink RX8 157 yX8_boxAt, Cond.instanceMethod yX8_boxAt, Cond.selects RX8 yX8_boxAt yX8_boxAt, Cond.initialized RX8, Cond.code yX8_boxAt cX8_boxAt 2 (some (.object "OneHandset$Box")), Cond.fieldLink RX8 28 "OneHandset" "boxes" "[LOneHandset$Box;", Cond.methodLink RX8 40 yX8_within, Cond.static yX8_within, Cond.code yX8_within cX8_within 3 (some .boolean), Cond.methodLink RX8 174 yX0_hasSet, Cond.instanceMethod yX0_hasSet, Cond.selects RX0 yX0_hasSet yX0_hasSet, Cond.initialized RX0, Cond.code yX0_hasSet cX0_hasSet 2 (some .boolean), Cond.fieldLink RX0 19 "OneHandset$Box" "states" "I", Cond.static yX8_lowBits, Cond.code yX8_lowBits cX8_lowBits 1 (some .int), Cond.methodLink RX8 183 yX6_find, Cond.instanceMethod yX6_find, Cond.selects RX6 yX6_find yX6_find, Cond.initialized RX6, Cond.code yX6_find cX6_find 9 (some .int), Cond.fieldLink RX6 18 "OneHandset$Route" "before" "[I"]
def wsX8_way_r2 : List Cond := [Cond.fieldLink RX6 15 "OneHandset$Route" "queue" "[I", Cond.fieldLink RX6 21 "OneHandset$Route" "by" "[I", Cond.methodLink RX6 28 yJ7_fill_53178, Cond.static yJ7_fill_53178, Cond.initialized RJ7, Cond.code yJ7_fill_53178 cJ7_fill_53178 4 none, Cond.methodLink RX6 39 yX6_keepRow, Cond.instanceMethod yX6_keepRow, Cond.selects RX6 yX6_keepRow yX6_keepRow, Cond.code yX6_keepRow cX6_keepRow 5 (some .int), Cond.fieldLink RX6 24 "OneHandset$Route" "length" "I", Cond.fieldLink RX6 9 "OneHandset$Route" "row" "[I", Cond.methodLink RX6 46 yX0_behind, Cond.instanceMethod yX0_behind, Cond.selects RX0 yX0_behind yX0_behind, Cond.code yX0_behind cX0_behind 5 (some .int), Cond.fieldLink RX0 9 "OneHandset$Box" "leads" "[I", Cond.methodLink RX0 47 yX0_hasButton, Cond.instanceMethod yX0_hasButton, Cond.selects RX0 yX0_hasButton yX0_hasButton, Cond.code yX0_hasButton cX0_hasButton 2 (some .boolean), Cond.fieldLink RX0 23 "OneHandset$Box" "buttons" "I"]
def wsX8_way : List Cond := .code yX8_way cX8_way 4 (some .int) :: ((wsX8_way_r1 ++ wsX8_way_r2) ++ wsX80 ++ wsX00 ++ wsX60)
def wsX8_button : List Cond := .code yX8_button cX8_button 2 (some .int) :: ([.fieldLink RX8 36 "OneHandset" "route" "LOneHandset$Route;", .methodLink RX8 187 yX6_buttonAt, .instanceMethod yX6_buttonAt, .selects RX6 yX6_buttonAt yX6_buttonAt, .initialized RX6, .code yX6_buttonAt cX6_buttonAt 2 (some .int), .fieldLink RX6 24 "OneHandset$Route" "length" "I", .fieldLink RX6 9 "OneHandset$Route" "row" "[I", .static yX8_within, .initialized RX8, .code yX8_within cX8_within 3 (some .boolean)] ++ wsX80 ++ wsX60)
def wsX8_told : List Cond := .code yX8_told cX8_told 4 (some .int) :: ([.methodLink RX8 157 yX8_boxAt, .instanceMethod yX8_boxAt, .selects RX8 yX8_boxAt yX8_boxAt, .initialized RX8, .code yX8_boxAt cX8_boxAt 2 (some (.object "OneHandset$Box")), .fieldLink RX8 28 "OneHandset" "boxes" "[LOneHandset$Box;", .methodLink RX8 40 yX8_within, .static yX8_within, .code yX8_within cX8_within 3 (some .boolean)] ++ wsX00 ++ wsX80)
def wsX8_count : List Cond := .code yX8_count cX8_count 2 (some .int) :: ([.fieldLink RX8 22 "OneHandset" "makeCount" "I", .fieldLink RX8 12 "OneHandset" "tape" "LOneHandset$Tape;", .fieldLink RX8 36 "OneHandset" "route" "LOneHandset$Route;"] ++ wsX80 ++ wsX70 ++ wsX60)
def wsX9_init : List Cond := .code yX9_init cX9_init 2 none :: ([.methodLink RX9 1 objectInit, .instanceMethod objectInit, .code objectInit ⟨#[0xb1]⟩ 1 none, .arrayClass .int, .fieldLink RX9 9 "OneHandsetModel" "tape" "[I", .fieldLink RX9 13 "OneHandsetModel" "makes" "[I", .fieldLink RX9 16 "OneHandsetModel" "keys" "[I", .fieldLink RX9 19 "OneHandsetModel" "states" "[I", .fieldLink RX9 22 "OneHandsetModel" "buttons" "[I", .fieldLink RX9 25 "OneHandsetModel" "leads" "[I", .fieldLink RX9 28 "OneHandsetModel" "sets" "[I", .fieldLink RX9 31 "OneHandsetModel" "way" "[I", .fieldLink RX9 34 "OneHandsetModel" "queue" "[I", .fieldLink RX9 37 "OneHandsetModel" "from" "[I", .fieldLink RX9 40 "OneHandsetModel" "by" "[I"] ++ wsX90)
def wsX9_in : List Cond := .code yX9_in cX9_in 3 (some .boolean) :: ([])
def wsX9_isMake : List Cond := .code yX9_isMake cX9_isMake 2 (some .boolean) :: ([.fieldLink RX9 47 "OneHandsetModel" "makeMany" "I", .methodLink RX9 50 yX9_in, .static yX9_in, .initialized RX9, .code yX9_in cX9_in 3 (some .boolean)] ++ wsX90)
def wsX9_get : List Cond := .code yX9_get cX9_get 3 (some .int) :: ([.fieldLink RX9 13 "OneHandsetModel" "makes" "[I"] ++ wsX90)
def wsX9_make : List Cond := .code yX9_make cX9_make 10 (some .int) :: ([.fieldLink RX9 43 "OneHandsetModel" "thrown" "I", .fieldLink RX9 47 "OneHandsetModel" "makeMany" "I", .arrayClass .int, .fieldLink RX9 13 "OneHandsetModel" "makes" "[I", .fieldLink RX9 16 "OneHandsetModel" "keys" "[I", .methodLink RX9 50 yX9_in, .static yX9_in, .initialized RX9, .code yX9_in cX9_in 3 (some .boolean)] ++ wsX90)
def wsX9_set : List Cond := .code yX9_set cX9_set 5 (some .boolean) :: ([.fieldLink RX9 43 "OneHandsetModel" "thrown" "I", .fieldLink RX9 13 "OneHandsetModel" "makes" "[I", .fieldLink RX9 16 "OneHandsetModel" "keys" "[I", .methodLink RX9 54 yX9_isMake, .instanceMethod yX9_isMake, .selects RX9 yX9_isMake yX9_isMake, .initialized RX9, .code yX9_isMake cX9_isMake 2 (some .boolean), .fieldLink RX9 47 "OneHandsetModel" "makeMany" "I", .methodLink RX9 50 yX9_in, .static yX9_in, .code yX9_in cX9_in 3 (some .boolean), .methodLink RX9 58 yX9_get, .instanceMethod yX9_get, .selects RX9 yX9_get yX9_get, .code yX9_get cX9_get 3 (some .int)] ++ wsX90)
def wsX9_feed : List Cond := .code yX9_feed cX9_feed 6 (some .int) :: ([.fieldLink RX9 43 "OneHandsetModel" "thrown" "I", .fieldLink RX9 62 "OneHandsetModel" "taped" "I", .fieldLink RX9 9 "OneHandsetModel" "tape" "[I"] ++ wsX90)
def wsX9_end : List Cond := .code yX9_end cX9_end 2 (some .boolean) :: ([.fieldLink RX9 43 "OneHandsetModel" "thrown" "I", .fieldLink RX9 62 "OneHandsetModel" "taped" "I"] ++ wsX90)
def wsX9_lay : List Cond := .code yX9_lay cX9_lay 2 none :: ([.fieldLink RX9 9 "OneHandsetModel" "tape" "[I", .fieldLink RX9 62 "OneHandsetModel" "taped" "I"] ++ wsX90)
def wsX9_isOn : List Cond := .code yX9_isOn cX9_isOn 4 (some .boolean) :: ([])
def wsX9_layHalves : List Cond := .code yX9_layHalves cX9_layHalves 7 none :: ([.methodLink RX9 65 yX9_isOn, .static yX9_isOn, .initialized RX9, .code yX9_isOn cX9_isOn 4 (some .boolean), .methodLink RX9 68 yX9_lay, .instanceMethod yX9_lay, .selects RX9 yX9_lay yX9_lay, .code yX9_lay cX9_lay 2 none, .fieldLink RX9 9 "OneHandsetModel" "tape" "[I", .fieldLink RX9 62 "OneHandsetModel" "taped" "I"] ++ wsX90)
def wsX9_flash : List Cond := .code yX9_flash cX9_flash 7 none :: ([.fieldLink RX9 62 "OneHandsetModel" "taped" "I", .methodLink RX9 58 yX9_get, .instanceMethod yX9_get, .selects RX9 yX9_get yX9_get, .initialized RX9, .code yX9_get cX9_get 3 (some .int), .fieldLink RX9 13 "OneHandsetModel" "makes" "[I", .methodLink RX9 72 yX9_layHalves, .instanceMethod yX9_layHalves, .selects RX9 yX9_layHalves yX9_layHalves, .code yX9_layHalves cX9_layHalves 7 none, .methodLink RX9 65 yX9_isOn, .static yX9_isOn, .code yX9_isOn cX9_isOn 4 (some .boolean), .methodLink RX9 68 yX9_lay, .instanceMethod yX9_lay, .selects RX9 yX9_lay yX9_lay, .code yX9_lay cX9_lay 2 none, .fieldLink RX9 9 "OneHandsetModel" "tape" "[I"] ++ wsX90)
def wsX9_send_r1 : List Cond := [Cond.fieldLink RX9 43 "OneHandsetModel" "thrown" "I", Cond.fieldLink RX9 62 "OneHandsetModel" "taped" "I", Cond.methodLink RX9 54 yX9_isMake, Cond.instanceMethod yX9_isMake, Cond.selects RX9 yX9_isMake yX9_isMake, Cond.initialized RX9, Cond.code yX9_isMake cX9_isMake 2 (some .boolean), Cond.fieldLink RX9 47 "OneHandsetModel" "makeMany" "I", Cond.methodLink RX9 50 yX9_in, Cond.static yX9_in, Cond.code yX9_in cX9_in 3 (some .boolean), Cond.methodLink RX9 58 yX9_get, Cond.instanceMethod yX9_get, Cond.selects RX9 yX9_get yX9_get, Cond.code yX9_get cX9_get 3 (some .int), Cond.fieldLink RX9 13 "OneHandsetModel" "makes" "[I", Cond.methodLink RX9 76 yX9_flash, Cond.instanceMethod yX9_flash, Cond.selects RX9 yX9_flash yX9_flash, Cond.code yX9_flash cX9_flash 7 none, Cond.methodLink RX9 72 yX9_layHalves, Cond.instanceMethod yX9_layHalves, Cond.selects RX9 yX9_layHalves yX9_layHalves, Cond.code yX9_layHalves cX9_layHalves 7 none]
def wsX9_send_r2 : List Cond := [Cond.methodLink RX9 65 yX9_isOn, Cond.static yX9_isOn, Cond.code yX9_isOn cX9_isOn 4 (some .boolean), Cond.methodLink RX9 68 yX9_lay, Cond.instanceMethod yX9_lay, Cond.selects RX9 yX9_lay yX9_lay, Cond.code yX9_lay cX9_lay 2 none, Cond.fieldLink RX9 9 "OneHandsetModel" "tape" "[I"]
def wsX9_send : List Cond := .code yX9_send cX9_send 3 (some .int) :: ((wsX9_send_r1 ++ wsX9_send_r2) ++ wsX90)
def wsX9_time : List Cond := .code yX9_time cX9_time 2 (some .int) :: ([.fieldLink RX9 43 "OneHandsetModel" "thrown" "I", .fieldLink RX9 62 "OneHandsetModel" "taped" "I", .fieldLink RX9 9 "OneHandsetModel" "tape" "[I", .methodLink RX9 50 yX9_in, .static yX9_in, .initialized RX9, .code yX9_in cX9_in 3 (some .boolean)] ++ wsX90)
def wsX9_isTime : List Cond := .code yX9_isTime cX9_isTime 1 (some .boolean) :: ([.methodLink RX9 50 yX9_in, .static yX9_in, .initialized RX9, .code yX9_in cX9_in 3 (some .boolean)])
def wsX9_fits : List Cond := .code yX9_fits cX9_fits 4 (some .boolean) :: ([.methodLink RX9 83 Lib.Math.abs.name, .static Lib.Math.abs.name, .initialized "java/lang/Math", .code Lib.Math.abs.name Lib.Math.abs.code 1 (some .int), .methodLink RX9 80 yX9_isTime, .static yX9_isTime, .initialized RX9, .code yX9_isTime cX9_isTime 1 (some .boolean), .methodLink RX9 50 yX9_in, .static yX9_in, .code yX9_in cX9_in 3 (some .boolean), .methodLink RX9 58 yX9_get, .instanceMethod yX9_get, .selects RX9 yX9_get yX9_get, .code yX9_get cX9_get 3 (some .int), .fieldLink RX9 13 "OneHandsetModel" "makes" "[I"] ++ wsX90)
def wsX9_which : List Cond := .code yX9_which cX9_which 7 (some .int) :: ([.methodLink RX9 83 Lib.Math.abs.name, .static Lib.Math.abs.name, .initialized "java/lang/Math", .code Lib.Math.abs.name Lib.Math.abs.code 1 (some .int), .methodLink RX9 89 yX9_fits, .instanceMethod yX9_fits, .selects RX9 yX9_fits yX9_fits, .initialized RX9, .code yX9_fits cX9_fits 4 (some .boolean), .methodLink RX9 80 yX9_isTime, .static yX9_isTime, .code yX9_isTime cX9_isTime 1 (some .boolean), .methodLink RX9 50 yX9_in, .static yX9_in, .code yX9_in cX9_in 3 (some .boolean), .methodLink RX9 58 yX9_get, .instanceMethod yX9_get, .selects RX9 yX9_get yX9_get, .code yX9_get cX9_get 3 (some .int), .fieldLink RX9 13 "OneHandsetModel" "makes" "[I"] ++ wsX90)
def wsX9_fault : List Cond := .code yX9_fault cX9_fault 2 (some .int) :: ([.fieldLink RX9 92 "OneHandsetModel" "faultAt" "I"] ++ wsX90)
def wsX9_readBits_r1 : List Cond := [Cond.fieldLink RX9 62 "OneHandsetModel" "taped" "I", Cond.fieldLink RX9 9 "OneHandsetModel" "tape" "[I", Cond.methodLink RX9 58 yX9_get, Cond.instanceMethod yX9_get, Cond.selects RX9 yX9_get yX9_get, Cond.initialized RX9, Cond.code yX9_get cX9_get 3 (some .int), Cond.fieldLink RX9 13 "OneHandsetModel" "makes" "[I", Cond.methodLink RX9 95 yX9_fault, Cond.instanceMethod yX9_fault, Cond.selects RX9 yX9_fault yX9_fault, Cond.code yX9_fault cX9_fault 2 (some .int), Cond.fieldLink RX9 92 "OneHandsetModel" "faultAt" "I", Cond.methodLink RX9 89 yX9_fits, Cond.instanceMethod yX9_fits, Cond.selects RX9 yX9_fits yX9_fits, Cond.code yX9_fits cX9_fits 4 (some .boolean), Cond.methodLink RX9 83 Lib.Math.abs.name, Cond.static Lib.Math.abs.name, Cond.initialized "java/lang/Math", Cond.code Lib.Math.abs.name Lib.Math.abs.code 1 (some .int), Cond.methodLink RX9 80 yX9_isTime, Cond.static yX9_isTime, Cond.code yX9_isTime cX9_isTime 1 (some .boolean)]
def wsX9_readBits_r2 : List Cond := [Cond.methodLink RX9 50 yX9_in, Cond.static yX9_in, Cond.code yX9_in cX9_in 3 (some .boolean), Cond.methodLink RX9 98 yX9_which, Cond.instanceMethod yX9_which, Cond.selects RX9 yX9_which yX9_which, Cond.code yX9_which cX9_which 7 (some .int)]
def wsX9_readBits : List Cond := .code yX9_readBits cX9_readBits 9 (some .int) :: ((wsX9_readBits_r1 ++ wsX9_readBits_r2) ++ wsX90)
def wsX9_readHalves_r1 : List Cond := [Cond.fieldLink RX9 62 "OneHandsetModel" "taped" "I", Cond.fieldLink RX9 9 "OneHandsetModel" "tape" "[I", Cond.methodLink RX9 58 yX9_get, Cond.instanceMethod yX9_get, Cond.selects RX9 yX9_get yX9_get, Cond.initialized RX9, Cond.code yX9_get cX9_get 3 (some .int), Cond.fieldLink RX9 13 "OneHandsetModel" "makes" "[I", Cond.methodLink RX9 98 yX9_which, Cond.instanceMethod yX9_which, Cond.selects RX9 yX9_which yX9_which, Cond.code yX9_which cX9_which 7 (some .int), Cond.methodLink RX9 83 Lib.Math.abs.name, Cond.static Lib.Math.abs.name, Cond.initialized "java/lang/Math", Cond.code Lib.Math.abs.name Lib.Math.abs.code 1 (some .int), Cond.methodLink RX9 89 yX9_fits, Cond.instanceMethod yX9_fits, Cond.selects RX9 yX9_fits yX9_fits, Cond.code yX9_fits cX9_fits 4 (some .boolean), Cond.methodLink RX9 80 yX9_isTime, Cond.static yX9_isTime, Cond.code yX9_isTime cX9_isTime 1 (some .boolean), Cond.methodLink RX9 50 yX9_in]
def wsX9_readHalves_r2 : List Cond := [Cond.static yX9_in, Cond.code yX9_in cX9_in 3 (some .boolean), Cond.methodLink RX9 95 yX9_fault, Cond.instanceMethod yX9_fault, Cond.selects RX9 yX9_fault yX9_fault, Cond.code yX9_fault cX9_fault 2 (some .int), Cond.fieldLink RX9 92 "OneHandsetModel" "faultAt" "I"]
def wsX9_readHalves : List Cond := .code yX9_readHalves cX9_readHalves 11 (some .int) :: ((wsX9_readHalves_r1 ++ wsX9_readHalves_r2) ++ wsX90)
def wsX9_readBy_r1 : List Cond := [Cond.methodLink RX9 58 yX9_get, Cond.instanceMethod yX9_get, Cond.selects RX9 yX9_get yX9_get, Cond.initialized RX9, Cond.code yX9_get cX9_get 3 (some .int), Cond.fieldLink RX9 13 "OneHandsetModel" "makes" "[I", Cond.methodLink RX9 102 yX9_readHalves, Cond.instanceMethod yX9_readHalves, Cond.selects RX9 yX9_readHalves yX9_readHalves, Cond.code yX9_readHalves cX9_readHalves 11 (some .int), Cond.fieldLink RX9 62 "OneHandsetModel" "taped" "I", Cond.fieldLink RX9 9 "OneHandsetModel" "tape" "[I", Cond.methodLink RX9 98 yX9_which, Cond.instanceMethod yX9_which, Cond.selects RX9 yX9_which yX9_which, Cond.code yX9_which cX9_which 7 (some .int), Cond.methodLink RX9 83 Lib.Math.abs.name, Cond.static Lib.Math.abs.name, Cond.initialized "java/lang/Math", Cond.code Lib.Math.abs.name Lib.Math.abs.code 1 (some .int), Cond.methodLink RX9 89 yX9_fits, Cond.instanceMethod yX9_fits, Cond.selects RX9 yX9_fits yX9_fits, Cond.code yX9_fits cX9_fits 4 (some .boolean)]
def wsX9_readBy_r2 : List Cond := [Cond.methodLink RX9 80 yX9_isTime, Cond.static yX9_isTime, Cond.code yX9_isTime cX9_isTime 1 (some .boolean), Cond.methodLink RX9 50 yX9_in, Cond.static yX9_in, Cond.code yX9_in cX9_in 3 (some .boolean), Cond.methodLink RX9 95 yX9_fault, Cond.instanceMethod yX9_fault, Cond.selects RX9 yX9_fault yX9_fault, Cond.code yX9_fault cX9_fault 2 (some .int), Cond.fieldLink RX9 92 "OneHandsetModel" "faultAt" "I", Cond.methodLink RX9 105 yX9_readBits, Cond.instanceMethod yX9_readBits, Cond.selects RX9 yX9_readBits yX9_readBits, Cond.code yX9_readBits cX9_readBits 9 (some .int)]
def wsX9_readBy : List Cond := .code yX9_readBy cX9_readBy 2 (some .int) :: ((wsX9_readBy_r1 ++ wsX9_readBy_r2) ++ wsX90)
def wsX9_read_r1 : List Cond := [Cond.fieldLink RX9 43 "OneHandsetModel" "thrown" "I", Cond.fieldLink RX9 92 "OneHandsetModel" "faultAt" "I", Cond.methodLink RX9 54 yX9_isMake, Cond.instanceMethod yX9_isMake, Cond.selects RX9 yX9_isMake yX9_isMake, Cond.initialized RX9, Cond.code yX9_isMake cX9_isMake 2 (some .boolean), Cond.fieldLink RX9 47 "OneHandsetModel" "makeMany" "I", Cond.methodLink RX9 50 yX9_in, Cond.static yX9_in, Cond.code yX9_in cX9_in 3 (some .boolean), Cond.methodLink RX9 108 yX9_readBy, Cond.instanceMethod yX9_readBy, Cond.selects RX9 yX9_readBy yX9_readBy, Cond.code yX9_readBy cX9_readBy 2 (some .int), Cond.methodLink RX9 58 yX9_get, Cond.instanceMethod yX9_get, Cond.selects RX9 yX9_get yX9_get, Cond.code yX9_get cX9_get 3 (some .int), Cond.fieldLink RX9 13 "OneHandsetModel" "makes" "[I", Cond.methodLink RX9 102 yX9_readHalves, Cond.instanceMethod yX9_readHalves, Cond.selects RX9 yX9_readHalves yX9_readHalves, Cond.code yX9_readHalves cX9_readHalves 11 (some .int)]
def wsX9_read_r2 : List Cond := [Cond.fieldLink RX9 62 "OneHandsetModel" "taped" "I", Cond.fieldLink RX9 9 "OneHandsetModel" "tape" "[I", Cond.methodLink RX9 98 yX9_which, Cond.instanceMethod yX9_which, Cond.selects RX9 yX9_which yX9_which, Cond.code yX9_which cX9_which 7 (some .int), Cond.methodLink RX9 83 Lib.Math.abs.name, Cond.static Lib.Math.abs.name, Cond.initialized "java/lang/Math", Cond.code Lib.Math.abs.name Lib.Math.abs.code 1 (some .int), Cond.methodLink RX9 89 yX9_fits, Cond.instanceMethod yX9_fits, Cond.selects RX9 yX9_fits yX9_fits, Cond.code yX9_fits cX9_fits 4 (some .boolean), Cond.methodLink RX9 80 yX9_isTime, Cond.static yX9_isTime, Cond.code yX9_isTime cX9_isTime 1 (some .boolean), Cond.methodLink RX9 95 yX9_fault, Cond.instanceMethod yX9_fault, Cond.selects RX9 yX9_fault yX9_fault, Cond.code yX9_fault cX9_fault 2 (some .int), Cond.methodLink RX9 105 yX9_readBits, Cond.instanceMethod yX9_readBits, Cond.selects RX9 yX9_readBits yX9_readBits]
def wsX9_read_r3 : List Cond := [Cond.code yX9_readBits cX9_readBits 9 (some .int)]
def wsX9_read : List Cond := .code yX9_read cX9_read 3 (some .int) :: ((wsX9_read_r1 ++ (wsX9_read_r2 ++ wsX9_read_r3)) ++ wsX90)
def wsX9_which__r1 : List Cond := [Cond.fieldLink RX9 43 "OneHandsetModel" "thrown" "I", Cond.fieldLink RX9 47 "OneHandsetModel" "makeMany" "I", Cond.methodLink RX9 108 yX9_readBy, Cond.instanceMethod yX9_readBy, Cond.selects RX9 yX9_readBy yX9_readBy, Cond.initialized RX9, Cond.code yX9_readBy cX9_readBy 2 (some .int), Cond.methodLink RX9 58 yX9_get, Cond.instanceMethod yX9_get, Cond.selects RX9 yX9_get yX9_get, Cond.code yX9_get cX9_get 3 (some .int), Cond.fieldLink RX9 13 "OneHandsetModel" "makes" "[I", Cond.methodLink RX9 102 yX9_readHalves, Cond.instanceMethod yX9_readHalves, Cond.selects RX9 yX9_readHalves yX9_readHalves, Cond.code yX9_readHalves cX9_readHalves 11 (some .int), Cond.fieldLink RX9 62 "OneHandsetModel" "taped" "I", Cond.fieldLink RX9 9 "OneHandsetModel" "tape" "[I", Cond.methodLink RX9 98 yX9_which, Cond.instanceMethod yX9_which, Cond.selects RX9 yX9_which yX9_which, Cond.code yX9_which cX9_which 7 (some .int), Cond.methodLink RX9 83 Lib.Math.abs.name, Cond.static Lib.Math.abs.name]
def wsX9_which__r2 : List Cond := [Cond.initialized "java/lang/Math", Cond.code Lib.Math.abs.name Lib.Math.abs.code 1 (some .int), Cond.methodLink RX9 89 yX9_fits, Cond.instanceMethod yX9_fits, Cond.selects RX9 yX9_fits yX9_fits, Cond.code yX9_fits cX9_fits 4 (some .boolean), Cond.methodLink RX9 80 yX9_isTime, Cond.static yX9_isTime, Cond.code yX9_isTime cX9_isTime 1 (some .boolean), Cond.methodLink RX9 50 yX9_in, Cond.static yX9_in, Cond.code yX9_in cX9_in 3 (some .boolean), Cond.methodLink RX9 95 yX9_fault, Cond.instanceMethod yX9_fault, Cond.selects RX9 yX9_fault yX9_fault, Cond.code yX9_fault cX9_fault 2 (some .int), Cond.fieldLink RX9 92 "OneHandsetModel" "faultAt" "I", Cond.methodLink RX9 105 yX9_readBits, Cond.instanceMethod yX9_readBits, Cond.selects RX9 yX9_readBits yX9_readBits, Cond.code yX9_readBits cX9_readBits 9 (some .int)]
def wsX9_which_ : List Cond := .code yX9_which_ cX9_which_ 3 (some .int) :: ((wsX9_which__r1 ++ wsX9_which__r2) ++ wsX90)
def wsX9_stretch : List Cond := .code yX9_stretch cX9_stretch 4 (some .boolean) :: ([.fieldLink RX9 43 "OneHandsetModel" "thrown" "I", .fieldLink RX9 62 "OneHandsetModel" "taped" "I", .fieldLink RX9 9 "OneHandsetModel" "tape" "[I", .methodLink RX9 50 yX9_in, .static yX9_in, .initialized RX9, .code yX9_in cX9_in 3 (some .boolean), .methodLink RX9 80 yX9_isTime, .static yX9_isTime, .code yX9_isTime cX9_isTime 1 (some .boolean)] ++ wsX90)
def wsX9_isKey : List Cond := .code yX9_isKey cX9_isKey 3 (some .boolean) :: ([.methodLink RX9 54 yX9_isMake, .instanceMethod yX9_isMake, .selects RX9 yX9_isMake yX9_isMake, .initialized RX9, .code yX9_isMake cX9_isMake 2 (some .boolean), .fieldLink RX9 47 "OneHandsetModel" "makeMany" "I", .methodLink RX9 50 yX9_in, .static yX9_in, .code yX9_in cX9_in 3 (some .boolean)] ++ wsX90)
def wsX9_flipOf : List Cond := .code yX9_flipOf cX9_flipOf 2 (some .int) :: ([.methodLink RX9 58 yX9_get, .instanceMethod yX9_get, .selects RX9 yX9_get yX9_get, .initialized RX9, .code yX9_get cX9_get 3 (some .int), .fieldLink RX9 13 "OneHandsetModel" "makes" "[I"] ++ wsX90)
def wsX9_learn_r1 : List Cond := [Cond.fieldLink RX9 43 "OneHandsetModel" "thrown" "I", Cond.fieldLink RX9 16 "OneHandsetModel" "keys" "[I", Cond.methodLink RX9 111 yX9_isKey, Cond.instanceMethod yX9_isKey, Cond.selects RX9 yX9_isKey yX9_isKey, Cond.initialized RX9, Cond.code yX9_isKey cX9_isKey 3 (some .boolean), Cond.methodLink RX9 54 yX9_isMake, Cond.instanceMethod yX9_isMake, Cond.selects RX9 yX9_isMake yX9_isMake, Cond.code yX9_isMake cX9_isMake 2 (some .boolean), Cond.fieldLink RX9 47 "OneHandsetModel" "makeMany" "I", Cond.methodLink RX9 50 yX9_in, Cond.static yX9_in, Cond.code yX9_in cX9_in 3 (some .boolean), Cond.methodLink RX9 108 yX9_readBy, Cond.instanceMethod yX9_readBy, Cond.selects RX9 yX9_readBy yX9_readBy, Cond.code yX9_readBy cX9_readBy 2 (some .int), Cond.methodLink RX9 58 yX9_get, Cond.instanceMethod yX9_get, Cond.selects RX9 yX9_get yX9_get, Cond.code yX9_get cX9_get 3 (some .int), Cond.fieldLink RX9 13 "OneHandsetModel" "makes" "[I"]
def wsX9_learn_r2 : List Cond := [Cond.methodLink RX9 102 yX9_readHalves, Cond.instanceMethod yX9_readHalves, Cond.selects RX9 yX9_readHalves yX9_readHalves, Cond.code yX9_readHalves cX9_readHalves 11 (some .int), Cond.fieldLink RX9 62 "OneHandsetModel" "taped" "I", Cond.fieldLink RX9 9 "OneHandsetModel" "tape" "[I", Cond.methodLink RX9 98 yX9_which, Cond.instanceMethod yX9_which, Cond.selects RX9 yX9_which yX9_which, Cond.code yX9_which cX9_which 7 (some .int), Cond.methodLink RX9 83 Lib.Math.abs.name, Cond.static Lib.Math.abs.name, Cond.initialized "java/lang/Math", Cond.code Lib.Math.abs.name Lib.Math.abs.code 1 (some .int), Cond.methodLink RX9 89 yX9_fits, Cond.instanceMethod yX9_fits, Cond.selects RX9 yX9_fits yX9_fits, Cond.code yX9_fits cX9_fits 4 (some .boolean), Cond.methodLink RX9 80 yX9_isTime, Cond.static yX9_isTime, Cond.code yX9_isTime cX9_isTime 1 (some .boolean), Cond.methodLink RX9 95 yX9_fault, Cond.instanceMethod yX9_fault, Cond.selects RX9 yX9_fault yX9_fault]
def wsX9_learn_r3 : List Cond := [Cond.code yX9_fault cX9_fault 2 (some .int), Cond.fieldLink RX9 92 "OneHandsetModel" "faultAt" "I", Cond.methodLink RX9 105 yX9_readBits, Cond.instanceMethod yX9_readBits, Cond.selects RX9 yX9_readBits yX9_readBits, Cond.code yX9_readBits cX9_readBits 9 (some .int), Cond.methodLink RX9 115 yX9_flipOf, Cond.instanceMethod yX9_flipOf, Cond.selects RX9 yX9_flipOf yX9_flipOf, Cond.code yX9_flipOf cX9_flipOf 2 (some .int)]
def wsX9_learn : List Cond := .code yX9_learn cX9_learn 5 (some .int) :: ((wsX9_learn_r1 ++ (wsX9_learn_r2 ++ wsX9_learn_r3)) ++ wsX90)
def wsX9_forget : List Cond := .code yX9_forget cX9_forget 3 (some .boolean) :: ([.fieldLink RX9 43 "OneHandsetModel" "thrown" "I", .fieldLink RX9 16 "OneHandsetModel" "keys" "[I", .methodLink RX9 111 yX9_isKey, .instanceMethod yX9_isKey, .selects RX9 yX9_isKey yX9_isKey, .initialized RX9, .code yX9_isKey cX9_isKey 3 (some .boolean), .methodLink RX9 54 yX9_isMake, .instanceMethod yX9_isMake, .selects RX9 yX9_isMake yX9_isMake, .code yX9_isMake cX9_isMake 2 (some .boolean), .fieldLink RX9 47 "OneHandsetModel" "makeMany" "I", .methodLink RX9 50 yX9_in, .static yX9_in, .code yX9_in cX9_in 3 (some .boolean)] ++ wsX90)
def wsX9_key : List Cond := .code yX9_key cX9_key 3 (some .int) :: ([.fieldLink RX9 43 "OneHandsetModel" "thrown" "I", .fieldLink RX9 16 "OneHandsetModel" "keys" "[I", .methodLink RX9 111 yX9_isKey, .instanceMethod yX9_isKey, .selects RX9 yX9_isKey yX9_isKey, .initialized RX9, .code yX9_isKey cX9_isKey 3 (some .boolean), .methodLink RX9 54 yX9_isMake, .instanceMethod yX9_isMake, .selects RX9 yX9_isMake yX9_isMake, .code yX9_isMake cX9_isMake 2 (some .boolean), .fieldLink RX9 47 "OneHandsetModel" "makeMany" "I", .methodLink RX9 50 yX9_in, .static yX9_in, .code yX9_in cX9_in 3 (some .boolean)] ++ wsX90)
def wsX9_press_r1 : List Cond := [Cond.fieldLink RX9 43 "OneHandsetModel" "thrown" "I", Cond.fieldLink RX9 16 "OneHandsetModel" "keys" "[I", Cond.fieldLink RX9 13 "OneHandsetModel" "makes" "[I", Cond.fieldLink RX9 62 "OneHandsetModel" "taped" "I", Cond.methodLink RX9 111 yX9_isKey, Cond.instanceMethod yX9_isKey, Cond.selects RX9 yX9_isKey yX9_isKey, Cond.initialized RX9, Cond.code yX9_isKey cX9_isKey 3 (some .boolean), Cond.methodLink RX9 54 yX9_isMake, Cond.instanceMethod yX9_isMake, Cond.selects RX9 yX9_isMake yX9_isMake, Cond.code yX9_isMake cX9_isMake 2 (some .boolean), Cond.fieldLink RX9 47 "OneHandsetModel" "makeMany" "I", Cond.methodLink RX9 50 yX9_in, Cond.static yX9_in, Cond.code yX9_in cX9_in 3 (some .boolean), Cond.methodLink RX9 58 yX9_get, Cond.instanceMethod yX9_get, Cond.selects RX9 yX9_get yX9_get, Cond.code yX9_get cX9_get 3 (some .int), Cond.methodLink RX9 115 yX9_flipOf, Cond.instanceMethod yX9_flipOf, Cond.selects RX9 yX9_flipOf yX9_flipOf]
def wsX9_press_r2 : List Cond := [Cond.code yX9_flipOf cX9_flipOf 2 (some .int), Cond.methodLink RX9 76 yX9_flash, Cond.instanceMethod yX9_flash, Cond.selects RX9 yX9_flash yX9_flash, Cond.code yX9_flash cX9_flash 7 none, Cond.methodLink RX9 72 yX9_layHalves, Cond.instanceMethod yX9_layHalves, Cond.selects RX9 yX9_layHalves yX9_layHalves, Cond.code yX9_layHalves cX9_layHalves 7 none, Cond.methodLink RX9 65 yX9_isOn, Cond.static yX9_isOn, Cond.code yX9_isOn cX9_isOn 4 (some .boolean), Cond.methodLink RX9 68 yX9_lay, Cond.instanceMethod yX9_lay, Cond.selects RX9 yX9_lay yX9_lay, Cond.code yX9_lay cX9_lay 2 none, Cond.fieldLink RX9 9 "OneHandsetModel" "tape" "[I"]
def wsX9_press : List Cond := .code yX9_press cX9_press 3 (some .int) :: ((wsX9_press_r1 ++ wsX9_press_r2) ++ wsX90)
def wsX9_learnt : List Cond := .code yX9_learnt cX9_learnt 4 (some .int) :: ([.fieldLink RX9 16 "OneHandsetModel" "keys" "[I"] ++ wsX90)
def wsX9_some : List Cond := .code yX9_some cX9_some 4 (some .int) :: ([.fieldLink RX9 16 "OneHandsetModel" "keys" "[I"] ++ wsX90)
def wsX9_fixed : List Cond := .code yX9_fixed cX9_fixed 4 (some .int) :: ([.fieldLink RX9 16 "OneHandsetModel" "keys" "[I", .methodLink RX9 118 yX9_learnt, .instanceMethod yX9_learnt, .selects RX9 yX9_learnt yX9_learnt, .initialized RX9, .code yX9_learnt cX9_learnt 4 (some .int), .methodLink RX9 58 yX9_get, .instanceMethod yX9_get, .selects RX9 yX9_get yX9_get, .code yX9_get cX9_get 3 (some .int), .fieldLink RX9 13 "OneHandsetModel" "makes" "[I", .methodLink RX9 115 yX9_flipOf, .instanceMethod yX9_flipOf, .selects RX9 yX9_flipOf yX9_flipOf, .code yX9_flipOf cX9_flipOf 2 (some .int), .methodLink RX9 121 yX9_some, .instanceMethod yX9_some, .selects RX9 yX9_some yX9_some, .code yX9_some cX9_some 4 (some .int)] ++ wsX90)
def wsX9_of_r1 : List Cond := [Cond.fieldLink RX9 43 "OneHandsetModel" "thrown" "I", Cond.methodLink RX9 54 yX9_isMake, Cond.instanceMethod yX9_isMake, Cond.selects RX9 yX9_isMake yX9_isMake, Cond.initialized RX9, Cond.code yX9_isMake cX9_isMake 2 (some .boolean), Cond.fieldLink RX9 47 "OneHandsetModel" "makeMany" "I", Cond.methodLink RX9 50 yX9_in, Cond.static yX9_in, Cond.code yX9_in cX9_in 3 (some .boolean), Cond.methodLink RX9 58 yX9_get, Cond.instanceMethod yX9_get, Cond.selects RX9 yX9_get yX9_get, Cond.code yX9_get cX9_get 3 (some .int), Cond.fieldLink RX9 13 "OneHandsetModel" "makes" "[I", Cond.methodLink RX9 118 yX9_learnt, Cond.instanceMethod yX9_learnt, Cond.selects RX9 yX9_learnt yX9_learnt, Cond.code yX9_learnt cX9_learnt 4 (some .int), Cond.fieldLink RX9 16 "OneHandsetModel" "keys" "[I", Cond.methodLink RX9 124 yX9_fixed, Cond.instanceMethod yX9_fixed, Cond.selects RX9 yX9_fixed yX9_fixed, Cond.code yX9_fixed cX9_fixed 4 (some .int)]
def wsX9_of_r2 : List Cond := [Cond.methodLink RX9 115 yX9_flipOf, Cond.instanceMethod yX9_flipOf, Cond.selects RX9 yX9_flipOf yX9_flipOf, Cond.code yX9_flipOf cX9_flipOf 2 (some .int), Cond.methodLink RX9 121 yX9_some, Cond.instanceMethod yX9_some, Cond.selects RX9 yX9_some yX9_some, Cond.code yX9_some cX9_some 4 (some .int)]
def wsX9_of : List Cond := .code yX9_of cX9_of 3 (some .int) :: ((wsX9_of_r1 ++ wsX9_of_r2) ++ wsX90)
def wsX9_sumOf : List Cond := .code yX9_sumOf cX9_sumOf 4 (some .int) :: ([])
def wsX9_numberOf : List Cond := .code yX9_numberOf cX9_numberOf 6 (some .int) :: ([.methodLink RX9 58 yX9_get, .instanceMethod yX9_get, .selects RX9 yX9_get yX9_get, .initialized RX9, .code yX9_get cX9_get 3 (some .int), .fieldLink RX9 13 "OneHandsetModel" "makes" "[I", .methodLink RX9 127 yX9_sumOf, .static yX9_sumOf, .code yX9_sumOf cX9_sumOf 4 (some .int)] ++ wsX90)
def wsX9_checkOf : List Cond := .code yX9_checkOf cX9_checkOf 5 (some .int) :: ([.fieldLink RX9 16 "OneHandsetModel" "keys" "[I", .methodLink RX9 118 yX9_learnt, .instanceMethod yX9_learnt, .selects RX9 yX9_learnt yX9_learnt, .initialized RX9, .code yX9_learnt cX9_learnt 4 (some .int), .methodLink RX9 121 yX9_some, .instanceMethod yX9_some, .selects RX9 yX9_some yX9_some, .code yX9_some cX9_some 4 (some .int), .methodLink RX9 130 yX9_numberOf, .instanceMethod yX9_numberOf, .selects RX9 yX9_numberOf yX9_numberOf, .code yX9_numberOf cX9_numberOf 6 (some .int), .methodLink RX9 58 yX9_get, .instanceMethod yX9_get, .selects RX9 yX9_get yX9_get, .code yX9_get cX9_get 3 (some .int), .fieldLink RX9 13 "OneHandsetModel" "makes" "[I", .methodLink RX9 127 yX9_sumOf, .static yX9_sumOf, .code yX9_sumOf cX9_sumOf 4 (some .int)] ++ wsX90)
def wsX9_check_r1 : List Cond := [Cond.fieldLink RX9 43 "OneHandsetModel" "thrown" "I", Cond.methodLink RX9 54 yX9_isMake, Cond.instanceMethod yX9_isMake, Cond.selects RX9 yX9_isMake yX9_isMake, Cond.initialized RX9, Cond.code yX9_isMake cX9_isMake 2 (some .boolean), Cond.fieldLink RX9 47 "OneHandsetModel" "makeMany" "I", Cond.methodLink RX9 50 yX9_in, Cond.static yX9_in, Cond.code yX9_in cX9_in 3 (some .boolean), Cond.methodLink RX9 134 yX9_checkOf, Cond.instanceMethod yX9_checkOf, Cond.selects RX9 yX9_checkOf yX9_checkOf, Cond.code yX9_checkOf cX9_checkOf 5 (some .int), Cond.fieldLink RX9 16 "OneHandsetModel" "keys" "[I", Cond.methodLink RX9 118 yX9_learnt, Cond.instanceMethod yX9_learnt, Cond.selects RX9 yX9_learnt yX9_learnt, Cond.code yX9_learnt cX9_learnt 4 (some .int), Cond.methodLink RX9 121 yX9_some, Cond.instanceMethod yX9_some, Cond.selects RX9 yX9_some yX9_some, Cond.code yX9_some cX9_some 4 (some .int), Cond.methodLink RX9 130 yX9_numberOf]
def wsX9_check_r2 : List Cond := [Cond.instanceMethod yX9_numberOf, Cond.selects RX9 yX9_numberOf yX9_numberOf, Cond.code yX9_numberOf cX9_numberOf 6 (some .int), Cond.methodLink RX9 58 yX9_get, Cond.instanceMethod yX9_get, Cond.selects RX9 yX9_get yX9_get, Cond.code yX9_get cX9_get 3 (some .int), Cond.fieldLink RX9 13 "OneHandsetModel" "makes" "[I", Cond.methodLink RX9 127 yX9_sumOf, Cond.static yX9_sumOf, Cond.code yX9_sumOf cX9_sumOf 4 (some .int)]
def wsX9_check : List Cond := .code yX9_check cX9_check 3 (some .int) :: ((wsX9_check_r1 ++ wsX9_check_r2) ++ wsX90)
def wsX9_canForesee_r1 : List Cond := [Cond.methodLink RX9 54 yX9_isMake, Cond.instanceMethod yX9_isMake, Cond.selects RX9 yX9_isMake yX9_isMake, Cond.initialized RX9, Cond.code yX9_isMake cX9_isMake 2 (some .boolean), Cond.fieldLink RX9 47 "OneHandsetModel" "makeMany" "I", Cond.methodLink RX9 50 yX9_in, Cond.static yX9_in, Cond.code yX9_in cX9_in 3 (some .boolean), Cond.methodLink RX9 118 yX9_learnt, Cond.instanceMethod yX9_learnt, Cond.selects RX9 yX9_learnt yX9_learnt, Cond.code yX9_learnt cX9_learnt 4 (some .int), Cond.fieldLink RX9 16 "OneHandsetModel" "keys" "[I", Cond.methodLink RX9 58 yX9_get, Cond.instanceMethod yX9_get, Cond.selects RX9 yX9_get yX9_get, Cond.code yX9_get cX9_get 3 (some .int), Cond.fieldLink RX9 13 "OneHandsetModel" "makes" "[I", Cond.methodLink RX9 115 yX9_flipOf, Cond.instanceMethod yX9_flipOf, Cond.selects RX9 yX9_flipOf yX9_flipOf, Cond.code yX9_flipOf cX9_flipOf 2 (some .int), Cond.methodLink RX9 124 yX9_fixed]
def wsX9_canForesee_r2 : List Cond := [Cond.instanceMethod yX9_fixed, Cond.selects RX9 yX9_fixed yX9_fixed, Cond.code yX9_fixed cX9_fixed 4 (some .int), Cond.methodLink RX9 121 yX9_some, Cond.instanceMethod yX9_some, Cond.selects RX9 yX9_some yX9_some, Cond.code yX9_some cX9_some 4 (some .int), Cond.methodLink RX9 137 yJ6_bitCount_0f7a4, Cond.static yJ6_bitCount_0f7a4, Cond.initialized RJ6, Cond.code yJ6_bitCount_0f7a4 cJ6_bitCount_0f7a4 1 (some .int), Cond.constant RJ6 265 (1431655765), Cond.constant RJ6 266 (858993459), Cond.constant RJ6 267 (252645135)]
def wsX9_canForesee : List Cond := .code yX9_canForesee cX9_canForesee 2 (some .boolean) :: ((wsX9_canForesee_r1 ++ wsX9_canForesee_r2) ++ wsX90)
def wsX9_isForeseen_r1 : List Cond := [Cond.methodLink RX9 134 yX9_checkOf, Cond.instanceMethod yX9_checkOf, Cond.selects RX9 yX9_checkOf yX9_checkOf, Cond.initialized RX9, Cond.code yX9_checkOf cX9_checkOf 5 (some .int), Cond.fieldLink RX9 16 "OneHandsetModel" "keys" "[I", Cond.methodLink RX9 118 yX9_learnt, Cond.instanceMethod yX9_learnt, Cond.selects RX9 yX9_learnt yX9_learnt, Cond.code yX9_learnt cX9_learnt 4 (some .int), Cond.methodLink RX9 121 yX9_some, Cond.instanceMethod yX9_some, Cond.selects RX9 yX9_some yX9_some, Cond.code yX9_some cX9_some 4 (some .int), Cond.methodLink RX9 130 yX9_numberOf, Cond.instanceMethod yX9_numberOf, Cond.selects RX9 yX9_numberOf yX9_numberOf, Cond.code yX9_numberOf cX9_numberOf 6 (some .int), Cond.methodLink RX9 58 yX9_get, Cond.instanceMethod yX9_get, Cond.selects RX9 yX9_get yX9_get, Cond.code yX9_get cX9_get 3 (some .int), Cond.fieldLink RX9 13 "OneHandsetModel" "makes" "[I", Cond.methodLink RX9 127 yX9_sumOf]
def wsX9_isForeseen_r2 : List Cond := [Cond.static yX9_sumOf, Cond.code yX9_sumOf cX9_sumOf 4 (some .int)]
def wsX9_isForeseen : List Cond := .code yX9_isForeseen cX9_isForeseen 4 (some .boolean) :: ((wsX9_isForeseen_r1 ++ wsX9_isForeseen_r2) ++ wsX90)
def wsX9_go_r1 : List Cond := [Cond.fieldLink RX9 142 "OneHandsetModel" "seen" "I", Cond.methodLink RX9 58 yX9_get, Cond.instanceMethod yX9_get, Cond.selects RX9 yX9_get yX9_get, Cond.initialized RX9, Cond.code yX9_get cX9_get 3 (some .int), Cond.fieldLink RX9 13 "OneHandsetModel" "makes" "[I", Cond.methodLink RX9 115 yX9_flipOf, Cond.instanceMethod yX9_flipOf, Cond.selects RX9 yX9_flipOf yX9_flipOf, Cond.code yX9_flipOf cX9_flipOf 2 (some .int), Cond.methodLink RX9 124 yX9_fixed, Cond.instanceMethod yX9_fixed, Cond.selects RX9 yX9_fixed yX9_fixed, Cond.code yX9_fixed cX9_fixed 4 (some .int), Cond.fieldLink RX9 16 "OneHandsetModel" "keys" "[I", Cond.methodLink RX9 118 yX9_learnt, Cond.instanceMethod yX9_learnt, Cond.selects RX9 yX9_learnt yX9_learnt, Cond.code yX9_learnt cX9_learnt 4 (some .int), Cond.methodLink RX9 121 yX9_some, Cond.instanceMethod yX9_some, Cond.selects RX9 yX9_some yX9_some, Cond.code yX9_some cX9_some 4 (some .int)]
def wsX9_go_r2 : List Cond := [Cond.methodLink RX9 145 yX9_isForeseen, Cond.instanceMethod yX9_isForeseen, Cond.selects RX9 yX9_isForeseen yX9_isForeseen, Cond.code yX9_isForeseen cX9_isForeseen 4 (some .boolean), Cond.methodLink RX9 134 yX9_checkOf, Cond.instanceMethod yX9_checkOf, Cond.selects RX9 yX9_checkOf yX9_checkOf, Cond.code yX9_checkOf cX9_checkOf 5 (some .int), Cond.methodLink RX9 130 yX9_numberOf, Cond.instanceMethod yX9_numberOf, Cond.selects RX9 yX9_numberOf yX9_numberOf, Cond.code yX9_numberOf cX9_numberOf 6 (some .int), Cond.methodLink RX9 127 yX9_sumOf, Cond.static yX9_sumOf, Cond.code yX9_sumOf cX9_sumOf 4 (some .int)]
def wsX9_go : List Cond := .code yX9_go cX9_go 8 (some .int) :: ((wsX9_go_r1 ++ wsX9_go_r2) ++ wsX90)
def wsX9_many_r1 : List Cond := [Cond.fieldLink RX9 43 "OneHandsetModel" "thrown" "I", Cond.constant RX9 151 (16777216), Cond.methodLink RX9 148 yX9_canForesee, Cond.instanceMethod yX9_canForesee, Cond.selects RX9 yX9_canForesee yX9_canForesee, Cond.initialized RX9, Cond.code yX9_canForesee cX9_canForesee 2 (some .boolean), Cond.methodLink RX9 54 yX9_isMake, Cond.instanceMethod yX9_isMake, Cond.selects RX9 yX9_isMake yX9_isMake, Cond.code yX9_isMake cX9_isMake 2 (some .boolean), Cond.fieldLink RX9 47 "OneHandsetModel" "makeMany" "I", Cond.methodLink RX9 50 yX9_in, Cond.static yX9_in, Cond.code yX9_in cX9_in 3 (some .boolean), Cond.methodLink RX9 118 yX9_learnt, Cond.instanceMethod yX9_learnt, Cond.selects RX9 yX9_learnt yX9_learnt, Cond.code yX9_learnt cX9_learnt 4 (some .int), Cond.fieldLink RX9 16 "OneHandsetModel" "keys" "[I", Cond.methodLink RX9 58 yX9_get, Cond.instanceMethod yX9_get, Cond.selects RX9 yX9_get yX9_get, Cond.code yX9_get cX9_get 3 (some .int)]
def wsX9_many_r2 : List Cond := [Cond.fieldLink RX9 13 "OneHandsetModel" "makes" "[I", Cond.methodLink RX9 115 yX9_flipOf, Cond.instanceMethod yX9_flipOf, Cond.selects RX9 yX9_flipOf yX9_flipOf, Cond.code yX9_flipOf cX9_flipOf 2 (some .int), Cond.methodLink RX9 124 yX9_fixed, Cond.instanceMethod yX9_fixed, Cond.selects RX9 yX9_fixed yX9_fixed, Cond.code yX9_fixed cX9_fixed 4 (some .int), Cond.methodLink RX9 121 yX9_some, Cond.instanceMethod yX9_some, Cond.selects RX9 yX9_some yX9_some, Cond.code yX9_some cX9_some 4 (some .int), Cond.methodLink RX9 137 yJ6_bitCount_0f7a4, Cond.static yJ6_bitCount_0f7a4, Cond.initialized RJ6, Cond.code yJ6_bitCount_0f7a4 cJ6_bitCount_0f7a4 1 (some .int), Cond.constant RJ6 265 (1431655765), Cond.constant RJ6 266 (858993459), Cond.constant RJ6 267 (252645135), Cond.methodLink RX9 152 yX9_go, Cond.instanceMethod yX9_go, Cond.selects RX9 yX9_go yX9_go, Cond.code yX9_go cX9_go 8 (some .int)]
def wsX9_many_r3 : List Cond := [Cond.fieldLink RX9 142 "OneHandsetModel" "seen" "I", Cond.methodLink RX9 145 yX9_isForeseen, Cond.instanceMethod yX9_isForeseen, Cond.selects RX9 yX9_isForeseen yX9_isForeseen, Cond.code yX9_isForeseen cX9_isForeseen 4 (some .boolean), Cond.methodLink RX9 134 yX9_checkOf, Cond.instanceMethod yX9_checkOf, Cond.selects RX9 yX9_checkOf yX9_checkOf, Cond.code yX9_checkOf cX9_checkOf 5 (some .int), Cond.methodLink RX9 130 yX9_numberOf, Cond.instanceMethod yX9_numberOf, Cond.selects RX9 yX9_numberOf yX9_numberOf, Cond.code yX9_numberOf cX9_numberOf 6 (some .int), Cond.methodLink RX9 127 yX9_sumOf, Cond.static yX9_sumOf, Cond.code yX9_sumOf cX9_sumOf 4 (some .int)]
def wsX9_many : List Cond := .code yX9_many cX9_many 2 (some .int) :: ((wsX9_many_r1 ++ (wsX9_many_r2 ++ wsX9_many_r3)) ++ wsX90)
def wsX9_foreseen_r1 : List Cond := [Cond.fieldLink RX9 43 "OneHandsetModel" "thrown" "I", Cond.constant RX9 155 (8388608), Cond.fieldLink RX9 142 "OneHandsetModel" "seen" "I", Cond.methodLink RX9 148 yX9_canForesee, Cond.instanceMethod yX9_canForesee, Cond.selects RX9 yX9_canForesee yX9_canForesee, Cond.initialized RX9, Cond.code yX9_canForesee cX9_canForesee 2 (some .boolean), Cond.methodLink RX9 54 yX9_isMake, Cond.instanceMethod yX9_isMake, Cond.selects RX9 yX9_isMake yX9_isMake, Cond.code yX9_isMake cX9_isMake 2 (some .boolean), Cond.fieldLink RX9 47 "OneHandsetModel" "makeMany" "I", Cond.methodLink RX9 50 yX9_in, Cond.static yX9_in, Cond.code yX9_in cX9_in 3 (some .boolean), Cond.methodLink RX9 118 yX9_learnt, Cond.instanceMethod yX9_learnt, Cond.selects RX9 yX9_learnt yX9_learnt, Cond.code yX9_learnt cX9_learnt 4 (some .int), Cond.fieldLink RX9 16 "OneHandsetModel" "keys" "[I", Cond.methodLink RX9 58 yX9_get, Cond.instanceMethod yX9_get, Cond.selects RX9 yX9_get yX9_get]
def wsX9_foreseen_r2 : List Cond := [Cond.code yX9_get cX9_get 3 (some .int), Cond.fieldLink RX9 13 "OneHandsetModel" "makes" "[I", Cond.methodLink RX9 115 yX9_flipOf, Cond.instanceMethod yX9_flipOf, Cond.selects RX9 yX9_flipOf yX9_flipOf, Cond.code yX9_flipOf cX9_flipOf 2 (some .int), Cond.methodLink RX9 124 yX9_fixed, Cond.instanceMethod yX9_fixed, Cond.selects RX9 yX9_fixed yX9_fixed, Cond.code yX9_fixed cX9_fixed 4 (some .int), Cond.methodLink RX9 121 yX9_some, Cond.instanceMethod yX9_some, Cond.selects RX9 yX9_some yX9_some, Cond.code yX9_some cX9_some 4 (some .int), Cond.methodLink RX9 137 yJ6_bitCount_0f7a4, Cond.static yJ6_bitCount_0f7a4, Cond.initialized RJ6, Cond.code yJ6_bitCount_0f7a4 cJ6_bitCount_0f7a4 1 (some .int), Cond.constant RJ6 265 (1431655765), Cond.constant RJ6 266 (858993459), Cond.constant RJ6 267 (252645135), Cond.methodLink RX9 152 yX9_go, Cond.instanceMethod yX9_go, Cond.selects RX9 yX9_go yX9_go]
def wsX9_foreseen_r3 : List Cond := [Cond.code yX9_go cX9_go 8 (some .int), Cond.methodLink RX9 145 yX9_isForeseen, Cond.instanceMethod yX9_isForeseen, Cond.selects RX9 yX9_isForeseen yX9_isForeseen, Cond.code yX9_isForeseen cX9_isForeseen 4 (some .boolean), Cond.methodLink RX9 134 yX9_checkOf, Cond.instanceMethod yX9_checkOf, Cond.selects RX9 yX9_checkOf yX9_checkOf, Cond.code yX9_checkOf cX9_checkOf 5 (some .int), Cond.methodLink RX9 130 yX9_numberOf, Cond.instanceMethod yX9_numberOf, Cond.selects RX9 yX9_numberOf yX9_numberOf, Cond.code yX9_numberOf cX9_numberOf 6 (some .int), Cond.methodLink RX9 127 yX9_sumOf, Cond.static yX9_sumOf, Cond.code yX9_sumOf cX9_sumOf 4 (some .int)]
def wsX9_foreseen : List Cond := .code yX9_foreseen cX9_foreseen 3 (some .int) :: ((wsX9_foreseen_r1 ++ (wsX9_foreseen_r2 ++ wsX9_foreseen_r3)) ++ wsX90)
def wsX9_both_r1 : List Cond := [Cond.fieldLink RX9 43 "OneHandsetModel" "thrown" "I", Cond.methodLink RX9 148 yX9_canForesee, Cond.instanceMethod yX9_canForesee, Cond.selects RX9 yX9_canForesee yX9_canForesee, Cond.initialized RX9, Cond.code yX9_canForesee cX9_canForesee 2 (some .boolean), Cond.methodLink RX9 54 yX9_isMake, Cond.instanceMethod yX9_isMake, Cond.selects RX9 yX9_isMake yX9_isMake, Cond.code yX9_isMake cX9_isMake 2 (some .boolean), Cond.fieldLink RX9 47 "OneHandsetModel" "makeMany" "I", Cond.methodLink RX9 50 yX9_in, Cond.static yX9_in, Cond.code yX9_in cX9_in 3 (some .boolean), Cond.methodLink RX9 118 yX9_learnt, Cond.instanceMethod yX9_learnt, Cond.selects RX9 yX9_learnt yX9_learnt, Cond.code yX9_learnt cX9_learnt 4 (some .int), Cond.fieldLink RX9 16 "OneHandsetModel" "keys" "[I", Cond.methodLink RX9 58 yX9_get, Cond.instanceMethod yX9_get, Cond.selects RX9 yX9_get yX9_get, Cond.code yX9_get cX9_get 3 (some .int), Cond.fieldLink RX9 13 "OneHandsetModel" "makes" "[I"]
def wsX9_both_r2 : List Cond := [Cond.methodLink RX9 115 yX9_flipOf, Cond.instanceMethod yX9_flipOf, Cond.selects RX9 yX9_flipOf yX9_flipOf, Cond.code yX9_flipOf cX9_flipOf 2 (some .int), Cond.methodLink RX9 124 yX9_fixed, Cond.instanceMethod yX9_fixed, Cond.selects RX9 yX9_fixed yX9_fixed, Cond.code yX9_fixed cX9_fixed 4 (some .int), Cond.methodLink RX9 121 yX9_some, Cond.instanceMethod yX9_some, Cond.selects RX9 yX9_some yX9_some, Cond.code yX9_some cX9_some 4 (some .int), Cond.methodLink RX9 137 yJ6_bitCount_0f7a4, Cond.static yJ6_bitCount_0f7a4, Cond.initialized RJ6, Cond.code yJ6_bitCount_0f7a4 cJ6_bitCount_0f7a4 1 (some .int), Cond.constant RJ6 265 (1431655765), Cond.constant RJ6 266 (858993459), Cond.constant RJ6 267 (252645135), Cond.methodLink RX9 145 yX9_isForeseen, Cond.instanceMethod yX9_isForeseen, Cond.selects RX9 yX9_isForeseen yX9_isForeseen, Cond.code yX9_isForeseen cX9_isForeseen 4 (some .boolean), Cond.methodLink RX9 134 yX9_checkOf]
def wsX9_both_r3 : List Cond := [Cond.instanceMethod yX9_checkOf, Cond.selects RX9 yX9_checkOf yX9_checkOf, Cond.code yX9_checkOf cX9_checkOf 5 (some .int), Cond.methodLink RX9 130 yX9_numberOf, Cond.instanceMethod yX9_numberOf, Cond.selects RX9 yX9_numberOf yX9_numberOf, Cond.code yX9_numberOf cX9_numberOf 6 (some .int), Cond.methodLink RX9 127 yX9_sumOf, Cond.static yX9_sumOf, Cond.code yX9_sumOf cX9_sumOf 4 (some .int)]
def wsX9_both : List Cond := .code yX9_both cX9_both 9 (some .int) :: ((wsX9_both_r1 ++ (wsX9_both_r2 ++ wsX9_both_r3)) ++ wsX90)
def wsX9_isBox : List Cond := .code yX9_isBox cX9_isBox 1 (some .boolean) :: ([.methodLink RX9 50 yX9_in, .static yX9_in, .initialized RX9, .code yX9_in cX9_in 3 (some .boolean)])
def wsX9_box : List Cond := .code yX9_box cX9_box 5 (some .boolean) :: ([.fieldLink RX9 43 "OneHandsetModel" "thrown" "I", .fieldLink RX9 19 "OneHandsetModel" "states" "[I", .fieldLink RX9 22 "OneHandsetModel" "buttons" "[I", .fieldLink RX9 25 "OneHandsetModel" "leads" "[I", .fieldLink RX9 28 "OneHandsetModel" "sets" "[I", .methodLink RX9 156 yX9_isBox, .static yX9_isBox, .initialized RX9, .code yX9_isBox cX9_isBox 1 (some .boolean), .methodLink RX9 50 yX9_in, .static yX9_in, .code yX9_in cX9_in 3 (some .boolean)] ++ wsX90)
def wsX9_lead : List Cond := .code yX9_lead cX9_lead 5 (some .boolean) :: ([.fieldLink RX9 43 "OneHandsetModel" "thrown" "I", .fieldLink RX9 19 "OneHandsetModel" "states" "[I", .fieldLink RX9 22 "OneHandsetModel" "buttons" "[I", .fieldLink RX9 25 "OneHandsetModel" "leads" "[I", .methodLink RX9 156 yX9_isBox, .static yX9_isBox, .initialized RX9, .code yX9_isBox cX9_isBox 1 (some .boolean), .methodLink RX9 50 yX9_in, .static yX9_in, .code yX9_in cX9_in 3 (some .boolean)] ++ wsX90)
def wsX9_isSet : List Cond := .code yX9_isSet cX9_isSet 3 (some .boolean) :: ([.fieldLink RX9 19 "OneHandsetModel" "states" "[I", .methodLink RX9 50 yX9_in, .static yX9_in, .initialized RX9, .code yX9_in cX9_in 3 (some .boolean)] ++ wsX90)
def wsX9_maybe : List Cond := .code yX9_maybe cX9_maybe 3 (some .boolean) :: ([.fieldLink RX9 43 "OneHandsetModel" "thrown" "I", .fieldLink RX9 28 "OneHandsetModel" "sets" "[I", .methodLink RX9 156 yX9_isBox, .static yX9_isBox, .initialized RX9, .code yX9_isBox cX9_isBox 1 (some .boolean), .methodLink RX9 50 yX9_in, .static yX9_in, .code yX9_in cX9_in 3 (some .boolean), .methodLink RX9 159 yX9_isSet, .instanceMethod yX9_isSet, .selects RX9 yX9_isSet yX9_isSet, .code yX9_isSet cX9_isSet 3 (some .boolean), .fieldLink RX9 19 "OneHandsetModel" "states" "[I"] ++ wsX90)
def wsX9_behind : List Cond := .code yX9_behind cX9_behind 6 (some .int) :: ([.fieldLink RX9 19 "OneHandsetModel" "states" "[I", .fieldLink RX9 25 "OneHandsetModel" "leads" "[I"] ++ wsX90)
def wsX9_push : List Cond := .code yX9_push cX9_push 3 (some .int) :: ([.fieldLink RX9 43 "OneHandsetModel" "thrown" "I", .fieldLink RX9 22 "OneHandsetModel" "buttons" "[I", .fieldLink RX9 28 "OneHandsetModel" "sets" "[I", .methodLink RX9 156 yX9_isBox, .static yX9_isBox, .initialized RX9, .code yX9_isBox cX9_isBox 1 (some .boolean), .methodLink RX9 50 yX9_in, .static yX9_in, .code yX9_in cX9_in 3 (some .boolean), .methodLink RX9 162 yX9_behind, .instanceMethod yX9_behind, .selects RX9 yX9_behind yX9_behind, .code yX9_behind cX9_behind 6 (some .int), .fieldLink RX9 19 "OneHandsetModel" "states" "[I", .fieldLink RX9 25 "OneHandsetModel" "leads" "[I"] ++ wsX90)
def wsX9_tell : List Cond := .code yX9_tell cX9_tell 5 (some .int) :: ([.fieldLink RX9 28 "OneHandsetModel" "sets" "[I", .fieldLink RX9 37 "OneHandsetModel" "from" "[I", .fieldLink RX9 168 "OneHandsetModel" "wayMany" "I", .fieldLink RX9 31 "OneHandsetModel" "way" "[I", .fieldLink RX9 40 "OneHandsetModel" "by" "[I"] ++ wsX90)
def wsX9_way_r1 : List Cond := [Cond.fieldLink RX9 43 "OneHandsetModel" "thrown" "I", Cond.fieldLink RX9 37 "OneHandsetModel" "from" "[I", Cond.fieldLink RX9 34 "OneHandsetModel" "queue" "[I", Cond.fieldLink RX9 28 "OneHandsetModel" "sets" "[I", Cond.fieldLink RX9 22 "OneHandsetModel" "buttons" "[I", Cond.fieldLink RX9 40 "OneHandsetModel" "by" "[I", Cond.methodLink RX9 156 yX9_isBox, Cond.static yX9_isBox, Cond.initialized RX9, Cond.code yX9_isBox cX9_isBox 1 (some .boolean), Cond.methodLink RX9 50 yX9_in, Cond.static yX9_in, Cond.code yX9_in cX9_in 3 (some .boolean), Cond.methodLink RX9 159 yX9_isSet, Cond.instanceMethod yX9_isSet, Cond.selects RX9 yX9_isSet yX9_isSet, Cond.code yX9_isSet cX9_isSet 3 (some .boolean), Cond.fieldLink RX9 19 "OneHandsetModel" "states" "[I", Cond.methodLink RX9 165 yX9_tell, Cond.instanceMethod yX9_tell, Cond.selects RX9 yX9_tell yX9_tell, Cond.code yX9_tell cX9_tell 5 (some .int), Cond.fieldLink RX9 168 "OneHandsetModel" "wayMany" "I", Cond.fieldLink RX9 31 "OneHandsetModel" "way" "[I"]
def wsX9_way_r2 : List Cond := [Cond.methodLink RX9 162 yX9_behind, Cond.instanceMethod yX9_behind, Cond.selects RX9 yX9_behind yX9_behind, Cond.code yX9_behind cX9_behind 6 (some .int), Cond.fieldLink RX9 25 "OneHandsetModel" "leads" "[I"]
def wsX9_way : List Cond := .code yX9_way cX9_way 8 (some .int) :: ((wsX9_way_r1 ++ wsX9_way_r2) ++ wsX90)
def wsX9_button : List Cond := .code yX9_button cX9_button 2 (some .int) :: ([.fieldLink RX9 43 "OneHandsetModel" "thrown" "I", .fieldLink RX9 168 "OneHandsetModel" "wayMany" "I", .fieldLink RX9 31 "OneHandsetModel" "way" "[I", .methodLink RX9 50 yX9_in, .static yX9_in, .initialized RX9, .code yX9_in cX9_in 3 (some .boolean)] ++ wsX90)
def wsX9_told : List Cond := .code yX9_told cX9_told 3 (some .int) :: ([.fieldLink RX9 43 "OneHandsetModel" "thrown" "I", .fieldLink RX9 19 "OneHandsetModel" "states" "[I", .fieldLink RX9 22 "OneHandsetModel" "buttons" "[I", .fieldLink RX9 28 "OneHandsetModel" "sets" "[I", .methodLink RX9 156 yX9_isBox, .static yX9_isBox, .initialized RX9, .code yX9_isBox cX9_isBox 1 (some .boolean), .methodLink RX9 50 yX9_in, .static yX9_in, .code yX9_in cX9_in 3 (some .boolean)] ++ wsX90)
def wsX9_count : List Cond := .code yX9_count cX9_count 2 (some .int) :: ([.fieldLink RX9 43 "OneHandsetModel" "thrown" "I", .fieldLink RX9 47 "OneHandsetModel" "makeMany" "I", .fieldLink RX9 62 "OneHandsetModel" "taped" "I", .fieldLink RX9 168 "OneHandsetModel" "wayMany" "I"] ++ wsX90)
def wsJ9_abs_0f7a4 : List Cond := .code yJ9_abs_0f7a4 cJ9_abs_0f7a4 1 (some .int) :: ([])
def wsJ9_max_7cf53 : List Cond := .code yJ9_max_7cf53 cJ9_max_7cf53 2 (some .int) :: ([])
def wsJ9_min_7cf53 : List Cond := .code yJ9_min_7cf53 cJ9_min_7cf53 2 (some .int) :: ([])
def wsL_time : List Cond := .codeWith yL_time cL_time 4 (some .int) [(0, 9, 12, 13)] :: ([.classLink RL 13 "java/util/NoSuchElementException", .methodLink RL 7 yX8_time, .instanceMethod yX8_time, .selects RX8 yX8_time yX8_time, .initialized RX8, .code yX8_time cX8_time 2 (some .int), .classLink RX8 95 "java/util/NoSuchElementException", .initialized "java/util/NoSuchElementException", .fieldLink RX8 12 "OneHandset" "tape" "LOneHandset$Tape;", .methodLink RX8 40 yX8_within, .static yX8_within, .code yX8_within cX8_within 3 (some .boolean), .methodLink RX8 98 yX7_at, .instanceMethod yX7_at, .selects RX7 yX7_at yX7_at, .initialized RX7, .code yX7_at cX7_at 2 (some .int), .fieldLink RX7 15 "OneHandset$Tape" "size" "I", .fieldLink RX7 9 "OneHandset$Tape" "times" "[I"] ++ wsX80 ++ wsX70 ++ (vx_at0 RX8 97 "java/util/NoSuchElementException" ["java/lang/RuntimeException", "java/lang/Exception"]).filter goodWord)
def wsL_law0_r1 : List Cond := [Cond.classLink RL 8 RX8, Cond.instantiable RX8 5, Cond.initialized RX8, Cond.classLink RL 16 RX9, Cond.instantiable RX9 17, Cond.initialized RX9, Cond.arrayClass .long, Cond.methodLink RL 15 yX8_init, Cond.instanceMethod yX8_init, Cond.code yX8_init cX8_init 2 none, Cond.methodLink RX8 3 objectInit, Cond.instanceMethod objectInit, Cond.code objectInit ⟨#[0xb1]⟩ 1 none, Cond.classLink RX8 9 RX7, Cond.instantiable RX7 2, Cond.initialized RX7, Cond.fieldLink RX8 12 "OneHandset" "tape" "LOneHandset$Tape;", Cond.classLink RX8 16 RX4, Cond.fieldLink RX8 18 "OneHandset" "makes" "[LOneHandset$Make;", Cond.fieldLink RX8 22 "OneHandset" "makeCount" "I", Cond.classLink RX8 26 RX0, Cond.fieldLink RX8 28 "OneHandset" "boxes" "[LOneHandset$Box;", Cond.instantiable RX0 4, Cond.initialized RX0]
def wsL_law0_r2 : List Cond := [Cond.classLink RX8 33 RX6, Cond.instantiable RX6 5, Cond.initialized RX6, Cond.fieldLink RX8 36 "OneHandset" "route" "LOneHandset$Route;", Cond.instanceMethod yX7_init, Cond.code yX7_init cX7_init 1 none, Cond.methodLink RX7 3 objectInit, Cond.arrayClass .int, Cond.fieldLink RX7 9 "OneHandset$Tape" "times" "[I", Cond.fieldLink RX7 15 "OneHandset$Tape" "size" "I", Cond.methodLink RX8 32 yX0_init, Cond.instanceMethod yX0_init, Cond.code yX0_init cX0_init 1 none, Cond.methodLink RX0 3 objectInit, Cond.fieldLink RX0 9 "OneHandset$Box" "leads" "[I", Cond.methodLink RX0 15 yX0_startAnew, Cond.instanceMethod yX0_startAnew, Cond.selects RX0 yX0_startAnew yX0_startAnew, Cond.code yX0_startAnew cX0_startAnew 3 none, Cond.fieldLink RX0 19 "OneHandset$Box" "states" "I", Cond.fieldLink RX0 23 "OneHandset$Box" "buttons" "I", Cond.fieldLink RX0 30 "OneHandset$Box" "maybe" "I", Cond.static yX8_lowBits, Cond.code yX8_lowBits cX8_lowBits 1 (some .int)]
def wsL_law0_r3 : List Cond := [Cond.methodLink RX0 33 yJ7_fill_53178, Cond.static yJ7_fill_53178, Cond.initialized RJ7, Cond.code yJ7_fill_53178 cJ7_fill_53178 4 none, Cond.instanceMethod yX6_init, Cond.code yX6_init cX6_init 1 none, Cond.methodLink RX6 3 objectInit, Cond.fieldLink RX6 9 "OneHandset$Route" "row" "[I", Cond.fieldLink RX6 15 "OneHandset$Route" "queue" "[I", Cond.fieldLink RX6 18 "OneHandset$Route" "before" "[I", Cond.fieldLink RX6 21 "OneHandset$Route" "by" "[I", Cond.fieldLink RX6 24 "OneHandset$Route" "length" "I", Cond.methodLink RL 18 yX9_init, Cond.instanceMethod yX9_init, Cond.code yX9_init cX9_init 2 none, Cond.methodLink RX9 1 objectInit, Cond.fieldLink RX9 9 "OneHandsetModel" "tape" "[I", Cond.fieldLink RX9 13 "OneHandsetModel" "makes" "[I", Cond.fieldLink RX9 16 "OneHandsetModel" "keys" "[I", Cond.fieldLink RX9 19 "OneHandsetModel" "states" "[I", Cond.fieldLink RX9 22 "OneHandsetModel" "buttons" "[I", Cond.fieldLink RX9 25 "OneHandsetModel" "leads" "[I", Cond.fieldLink RX9 28 "OneHandsetModel" "sets" "[I", Cond.fieldLink RX9 31 "OneHandsetModel" "way" "[I"]
def wsL_law0_r4 : List Cond := [Cond.fieldLink RX9 34 "OneHandsetModel" "queue" "[I", Cond.fieldLink RX9 37 "OneHandsetModel" "from" "[I", Cond.fieldLink RX9 40 "OneHandsetModel" "by" "[I", Cond.methodLink RL 19 yX8_make, Cond.instanceMethod yX8_make, Cond.selects RX8 yX8_make yX8_make, Cond.code yX8_make cX8_make 9 (some .int), Cond.classLink RX8 48 RX2, Cond.instantiable RX2 2, Cond.initialized RX2, Cond.classLink RX8 53 RX5, Cond.instantiable RX5 8, Cond.initialized RX5, Cond.instantiable RX4 5, Cond.initialized RX4, Cond.methodLink RX8 40 yX8_within, Cond.static yX8_within, Cond.code yX8_within cX8_within 3 (some .boolean), Cond.methodLink RX8 44 yX8_isNumber, Cond.static yX8_isNumber, Cond.code yX8_isNumber cX8_isNumber 1 (some .boolean), Cond.methodLink RX8 50 yX2_init, Cond.instanceMethod yX2_init, Cond.code yX2_init cX2_init 3 none]
def wsL_law0_r5 : List Cond := [Cond.fieldLink RX2 9 "OneHandset$HalvesForm" "bits" "I", Cond.fieldLink RX2 15 "OneHandset$HalvesForm" "p" "I", Cond.instanceMethod yX1_init, Cond.initialized RX1, Cond.code yX1_init cX1_init 1 none, Cond.methodLink RX1 1 objectInit, Cond.methodLink RX8 55 yX5_init, Cond.instanceMethod yX5_init, Cond.code yX5_init cX5_init 8 none, Cond.fieldLink RX5 9 "OneHandset$PairsForm" "onTellsBit" "Z", Cond.fieldLink RX5 15 "OneHandset$PairsForm" "bits" "I", Cond.fieldLink RX5 19 "OneHandset$PairsForm" "a" "I", Cond.fieldLink RX5 22 "OneHandset$PairsForm" "b" "I", Cond.fieldLink RX5 25 "OneHandset$PairsForm" "p" "I", Cond.fieldLink RX5 28 "OneHandset$PairsForm" "z" "I", Cond.fieldLink RX5 31 "OneHandset$PairsForm" "o" "I", Cond.fieldLink RX5 34 "OneHandset$PairsForm" "length" "I", Cond.methodLink RX8 58 yX4_init, Cond.instanceMethod yX4_init, Cond.code yX4_init cX4_init 4 none, Cond.methodLink RX4 3 objectInit, Cond.fieldLink RX4 9 "OneHandset$Make" "miss" "I", Cond.fieldLink RX4 15 "OneHandset$Make" "kind" "I", Cond.fieldLink RX4 18 "OneHandset$Make" "bits" "I"]
def wsL_law0_r6 : List Cond := [Cond.fieldLink RX4 21 "OneHandset$Make" "form" "LOneHandset$Form;", Cond.classLink RX4 25 RX3, Cond.instantiable RX3 8, Cond.initialized RX3, Cond.fieldLink RX4 30 "OneHandset$Make" "keys" "LOneHandset$Keys;", Cond.methodLink RX4 27 yX3_init, Cond.instanceMethod yX3_init, Cond.code yX3_init cX3_init 2 none, Cond.methodLink RX3 3 objectInit, Cond.fieldLink RX3 9 "OneHandset$Keys" "codes" "[I", Cond.fieldLink RX3 15 "OneHandset$Keys" "constants" "[I", Cond.fieldLink RX3 18 "OneHandset$Keys" "bits" "I", Cond.methodLink RX3 22 yX3_startWithFlip, Cond.instanceMethod yX3_startWithFlip, Cond.selects RX3 yX3_startWithFlip yX3_startWithFlip, Cond.code yX3_startWithFlip cX3_startWithFlip 2 none, Cond.fieldLink RX3 26 "OneHandset$Keys" "flip" "I", Cond.fieldLink RX3 29 "OneHandset$Keys" "flipBit" "I", Cond.methodLink RX3 32 yJ7_fill_53178, Cond.methodLink RX3 38 yX3_compareAll, Cond.instanceMethod yX3_compareAll, Cond.selects RX3 yX3_compareAll yX3_compareAll, Cond.code yX3_compareAll cX3_compareAll 4 none, Cond.fieldLink RX3 57 "OneHandset$Keys" "learnt" "I"]
def wsL_law0_r7 : List Cond := [Cond.fieldLink RX3 63 "OneHandset$Keys" "fixed" "I", Cond.fieldLink RX3 66 "OneHandset$Keys" "fixedOn" "I", Cond.methodLink RX3 49 yX3_flipMask, Cond.instanceMethod yX3_flipMask, Cond.selects RX3 yX3_flipMask yX3_flipMask, Cond.code yX3_flipMask cX3_flipMask 1 (some .int), Cond.methodLink RX3 69 yX3_isCheck, Cond.instanceMethod yX3_isCheck, Cond.selects RX3 yX3_isCheck yX3_isCheck, Cond.code yX3_isCheck cX3_isCheck 2 (some .boolean), Cond.methodLink RX3 72 yX3_commonConstant, Cond.instanceMethod yX3_commonConstant, Cond.selects RX3 yX3_commonConstant yX3_commonConstant, Cond.code yX3_commonConstant cX3_commonConstant 6 (some .int), Cond.methodLink RX3 75 yX3_constantFor, Cond.instanceMethod yX3_constantFor, Cond.selects RX3 yX3_constantFor yX3_constantFor, Cond.code yX3_constantFor cX3_constantFor 3 (some .int), Cond.methodLink RX3 79 yX3_isContrary, Cond.instanceMethod yX3_isContrary, Cond.selects RX3 yX3_isContrary yX3_isContrary, Cond.code yX3_isContrary cX3_isContrary 3 (some .boolean), Cond.methodLink RL 23 yX9_make, Cond.instanceMethod yX9_make]
def wsL_law0_r8 : List Cond := [Cond.selects RX9 yX9_make yX9_make, Cond.code yX9_make cX9_make 10 (some .int), Cond.fieldLink RX9 43 "OneHandsetModel" "thrown" "I", Cond.fieldLink RX9 47 "OneHandsetModel" "makeMany" "I", Cond.methodLink RX9 50 yX9_in, Cond.static yX9_in, Cond.code yX9_in cX9_in 3 (some .boolean), Cond.methodLink RL 24 yX8_set, Cond.instanceMethod yX8_set, Cond.selects RX8 yX8_set yX8_set, Cond.code yX8_set cX8_set 5 (some .boolean), Cond.methodLink RX8 61 yX8_makeAt, Cond.instanceMethod yX8_makeAt, Cond.selects RX8 yX8_makeAt yX8_makeAt, Cond.code yX8_makeAt cX8_makeAt 2 (some (.object "OneHandset$Make")), Cond.methodLink RL 28 yX9_set, Cond.instanceMethod yX9_set, Cond.selects RX9 yX9_set yX9_set, Cond.code yX9_set cX9_set 5 (some .boolean), Cond.methodLink RX9 54 yX9_isMake, Cond.instanceMethod yX9_isMake, Cond.selects RX9 yX9_isMake yX9_isMake, Cond.code yX9_isMake cX9_isMake 2 (some .boolean), Cond.methodLink RX9 58 yX9_get]
def wsL_law0_r9 : List Cond := [Cond.instanceMethod yX9_get, Cond.selects RX9 yX9_get yX9_get, Cond.code yX9_get cX9_get 3 (some .int), Cond.methodLink RL 29 yX8_feed, Cond.instanceMethod yX8_feed, Cond.selects RX8 yX8_feed yX8_feed, Cond.code yX8_feed cX8_feed 6 (some .int), Cond.methodLink RX8 84 yX7_append, Cond.instanceMethod yX7_append, Cond.selects RX7 yX7_append yX7_append, Cond.code yX7_append cX7_append 2 none, Cond.methodLink RL 33 yX9_feed, Cond.instanceMethod yX9_feed, Cond.selects RX9 yX9_feed yX9_feed, Cond.code yX9_feed cX9_feed 6 (some .int), Cond.fieldLink RX9 62 "OneHandsetModel" "taped" "I", Cond.methodLink RL 34 yX8_end, Cond.instanceMethod yX8_end, Cond.selects RX8 yX8_end yX8_end, Cond.code yX8_end cX8_end 2 (some .boolean), Cond.methodLink RL 38 yX9_end, Cond.instanceMethod yX9_end, Cond.selects RX9 yX9_end yX9_end, Cond.code yX9_end cX9_end 2 (some .boolean)]
def wsL_law0_r10 : List Cond := [Cond.methodLink RL 39 yX8_send, Cond.instanceMethod yX8_send, Cond.selects RX8 yX8_send yX8_send, Cond.code yX8_send cX8_send 4 (some .int), Cond.methodLink RX8 87 yX8_lowBits, Cond.methodLink RX8 91 yX4_flash, Cond.instanceMethod yX4_flash, Cond.selects RX4 yX4_flash yX4_flash, Cond.code yX4_flash cX4_flash 3 (some .int), Cond.methodLink RX4 39 ⟨"OneHandset$Form", "write", "(ILOneHandset$Tape;)V"⟩, Cond.sameMethod "OneHandset$Form" "OneHandset$Form" "write" "(ILOneHandset$Tape;)V", Cond.selects RX2 ⟨"OneHandset$Form", "write", "(ILOneHandset$Tape;)V"⟩ yX2_write, Cond.instanceMethod yX2_write, Cond.code yX2_write cX2_write 5 none, Cond.methodLink RX2 18 yX2_isOn, Cond.instanceMethod yX2_isOn, Cond.selects RX2 yX2_isOn yX2_isOn, Cond.code yX2_isOn cX2_isOn 4 (some .boolean), Cond.methodLink RX2 22 yX7_append, Cond.methodLink RX2 28 yX7_lengthenLast, Cond.instanceMethod yX7_lengthenLast, Cond.selects RX7 yX7_lengthenLast yX7_lengthenLast, Cond.code yX7_lengthenLast cX7_lengthenLast 2 none, Cond.selects RX5 ⟨"OneHandset$Form", "write", "(ILOneHandset$Tape;)V"⟩ yX5_write]
def wsL_law0_r11 : List Cond := [Cond.instanceMethod yX5_write, Cond.code yX5_write cX5_write 5 none, Cond.methodLink RX5 37 yX5_tellsBit, Cond.instanceMethod yX5_tellsBit, Cond.selects RX5 yX5_tellsBit yX5_tellsBit, Cond.code yX5_tellsBit cX5_tellsBit 2 (some .boolean), Cond.methodLink RX5 41 yX7_append, Cond.methodLink RX5 47 yX5_plainTime, Cond.instanceMethod yX5_plainTime, Cond.selects RX5 yX5_plainTime yX5_plainTime, Cond.code yX5_plainTime cX5_plainTime 2 (some .int), Cond.methodLink RL 43 yX9_send, Cond.instanceMethod yX9_send, Cond.selects RX9 yX9_send yX9_send, Cond.code yX9_send cX9_send 3 (some .int), Cond.methodLink RX9 76 yX9_flash, Cond.instanceMethod yX9_flash, Cond.selects RX9 yX9_flash yX9_flash, Cond.code yX9_flash cX9_flash 7 none, Cond.methodLink RX9 72 yX9_layHalves, Cond.instanceMethod yX9_layHalves, Cond.selects RX9 yX9_layHalves yX9_layHalves, Cond.code yX9_layHalves cX9_layHalves 7 none, Cond.methodLink RX9 65 yX9_isOn]
def wsL_law0_r12 : List Cond := [Cond.static yX9_isOn, Cond.code yX9_isOn cX9_isOn 4 (some .boolean), Cond.methodLink RX9 68 yX9_lay, Cond.instanceMethod yX9_lay, Cond.selects RX9 yX9_lay yX9_lay, Cond.code yX9_lay cX9_lay 2 none, Cond.methodLink RL 44 yL_time, Cond.static yL_time, Cond.initialized RL, Cond.codeWith yL_time cL_time 4 (some .int) [(0, 9, 12, 13)], Cond.classLink RL 13 "java/util/NoSuchElementException", Cond.methodLink RL 7 yX8_time, Cond.instanceMethod yX8_time, Cond.selects RX8 yX8_time yX8_time, Cond.code yX8_time cX8_time 2 (some .int), Cond.classLink RX8 95 "java/util/NoSuchElementException", Cond.initialized "java/util/NoSuchElementException", Cond.methodLink RX8 98 yX7_at, Cond.instanceMethod yX7_at, Cond.selects RX7 yX7_at yX7_at, Cond.code yX7_at cX7_at 2 (some .int), Cond.methodLink RL 49 yX9_time, Cond.instanceMethod yX9_time, Cond.selects RX9 yX9_time yX9_time]
def wsL_law0_r13 : List Cond := [Cond.code yX9_time cX9_time 2 (some .int), Cond.methodLink RL 50 yX8_read, Cond.instanceMethod yX8_read, Cond.selects RX8 yX8_read yX8_read, Cond.code yX8_read cX8_read 3 (some .int), Cond.methodLink RX8 101 yX4_decode, Cond.instanceMethod yX4_decode, Cond.selects RX4 yX4_decode yX4_decode, Cond.code yX4_decode cX4_decode 2 (some .int), Cond.methodLink RX4 45 ⟨"OneHandset$Form", "decode", "(LOneHandset$Tape;I)I"⟩, Cond.sameMethod "OneHandset$Form" "OneHandset$Form" "decode" "(LOneHandset$Tape;I)I", Cond.selects RX2 ⟨"OneHandset$Form", "decode", "(LOneHandset$Tape;I)I"⟩ yX2_decode, Cond.instanceMethod yX2_decode, Cond.code yX2_decode cX2_decode 11 (some .int), Cond.methodLink RX2 34 yX7_at, Cond.static yX8_nearerOf, Cond.code yX8_nearerOf cX8_nearerOf 6 (some .int), Cond.methodLink RX8 202 Lib.Math.abs.name, Cond.static Lib.Math.abs.name, Cond.initialized "java/lang/Math", Cond.code Lib.Math.abs.name Lib.Math.abs.code 1 (some .int), Cond.methodLink RX8 207 yX8_fits, Cond.static yX8_fits, Cond.code yX8_fits cX8_fits 3 (some .boolean)]
def wsL_law0_r14 : List Cond := [Cond.methodLink RX8 199 yX8_isTime, Cond.static yX8_isTime, Cond.code yX8_isTime cX8_isTime 1 (some .boolean), Cond.static yX8_fault, Cond.code yX8_fault cX8_fault 1 (some .int), Cond.selects RX5 ⟨"OneHandset$Form", "decode", "(LOneHandset$Tape;I)I"⟩ yX5_decode, Cond.instanceMethod yX5_decode, Cond.code yX5_decode cX5_decode 7 (some .int), Cond.methodLink RX5 57 yX7_at, Cond.methodLink RL 53 yX9_read, Cond.instanceMethod yX9_read, Cond.selects RX9 yX9_read yX9_read, Cond.code yX9_read cX9_read 3 (some .int), Cond.fieldLink RX9 92 "OneHandsetModel" "faultAt" "I", Cond.methodLink RX9 108 yX9_readBy, Cond.instanceMethod yX9_readBy, Cond.selects RX9 yX9_readBy yX9_readBy, Cond.code yX9_readBy cX9_readBy 2 (some .int), Cond.methodLink RX9 102 yX9_readHalves, Cond.instanceMethod yX9_readHalves, Cond.selects RX9 yX9_readHalves yX9_readHalves, Cond.code yX9_readHalves cX9_readHalves 11 (some .int), Cond.methodLink RX9 98 yX9_which, Cond.instanceMethod yX9_which]
def wsL_law0_r15 : List Cond := [Cond.selects RX9 yX9_which yX9_which, Cond.code yX9_which cX9_which 7 (some .int), Cond.methodLink RX9 83 Lib.Math.abs.name, Cond.methodLink RX9 89 yX9_fits, Cond.instanceMethod yX9_fits, Cond.selects RX9 yX9_fits yX9_fits, Cond.code yX9_fits cX9_fits 4 (some .boolean), Cond.methodLink RX9 80 yX9_isTime, Cond.static yX9_isTime, Cond.code yX9_isTime cX9_isTime 1 (some .boolean), Cond.methodLink RX9 95 yX9_fault, Cond.instanceMethod yX9_fault, Cond.selects RX9 yX9_fault yX9_fault, Cond.code yX9_fault cX9_fault 2 (some .int), Cond.methodLink RX9 105 yX9_readBits, Cond.instanceMethod yX9_readBits, Cond.selects RX9 yX9_readBits yX9_readBits, Cond.code yX9_readBits cX9_readBits 9 (some .int), Cond.methodLink RL 54 yX8_which, Cond.instanceMethod yX8_which, Cond.selects RX8 yX8_which yX8_which, Cond.code yX8_which cX8_which 3 (some .int), Cond.methodLink RX8 105 yX8_read, Cond.methodLink RL 58 yX9_which_]
def wsL_law0_r16 : List Cond := [Cond.instanceMethod yX9_which_, Cond.selects RX9 yX9_which_ yX9_which_, Cond.code yX9_which_ cX9_which_ 3 (some .int), Cond.methodLink RL 59 yX8_stretch, Cond.instanceMethod yX8_stretch, Cond.selects RX8 yX8_stretch yX8_stretch, Cond.code yX8_stretch cX8_stretch 2 (some .boolean), Cond.methodLink RX8 108 yX7_stretchAll, Cond.instanceMethod yX7_stretchAll, Cond.selects RX7 yX7_stretchAll yX7_stretchAll, Cond.code yX7_stretchAll cX7_stretchAll 4 none, Cond.methodLink RX7 27 Lib.Math.min.name, Cond.static Lib.Math.min.name, Cond.code Lib.Math.min.name Lib.Math.min.code 2 (some .int), Cond.methodLink RX7 33 Lib.Math.max.name, Cond.static Lib.Math.max.name, Cond.code Lib.Math.max.name Lib.Math.max.code 2 (some .int), Cond.methodLink RL 62 yX9_stretch, Cond.instanceMethod yX9_stretch, Cond.selects RX9 yX9_stretch yX9_stretch, Cond.code yX9_stretch cX9_stretch 4 (some .boolean), Cond.methodLink RL 63 yX8_learn, Cond.instanceMethod yX8_learn, Cond.selects RX8 yX8_learn yX8_learn]
def wsL_law0_r17 : List Cond := [Cond.code yX8_learn cX8_learn 5 (some .int), Cond.methodLink RX8 111 yX3_take, Cond.instanceMethod yX3_take, Cond.selects RX3 yX3_take yX3_take, Cond.code yX3_take cX3_take 4 (some .int), Cond.methodLink RX3 45 yX3_hasKey, Cond.instanceMethod yX3_hasKey, Cond.selects RX3 yX3_hasKey yX3_hasKey, Cond.code yX3_hasKey cX3_hasKey 2 (some .boolean), Cond.methodLink RL 66 yX9_learn, Cond.instanceMethod yX9_learn, Cond.selects RX9 yX9_learn yX9_learn, Cond.code yX9_learn cX9_learn 5 (some .int), Cond.methodLink RX9 111 yX9_isKey, Cond.instanceMethod yX9_isKey, Cond.selects RX9 yX9_isKey yX9_isKey, Cond.code yX9_isKey cX9_isKey 3 (some .boolean), Cond.methodLink RX9 115 yX9_flipOf, Cond.instanceMethod yX9_flipOf, Cond.selects RX9 yX9_flipOf yX9_flipOf, Cond.code yX9_flipOf cX9_flipOf 2 (some .int), Cond.methodLink RL 67 yX8_forget, Cond.instanceMethod yX8_forget, Cond.selects RX8 yX8_forget yX8_forget]
def wsL_law0_r18 : List Cond := [Cond.code yX8_forget cX8_forget 4 (some .boolean), Cond.methodLink RX8 115 yX3_drop, Cond.instanceMethod yX3_drop, Cond.selects RX3 yX3_drop yX3_drop, Cond.code yX3_drop cX3_drop 2 (some .boolean), Cond.methodLink RX3 53 yX3_codeOf, Cond.instanceMethod yX3_codeOf, Cond.selects RX3 yX3_codeOf yX3_codeOf, Cond.code yX3_codeOf cX3_codeOf 2 (some .int), Cond.methodLink RL 71 yX9_forget, Cond.instanceMethod yX9_forget, Cond.selects RX9 yX9_forget yX9_forget, Cond.code yX9_forget cX9_forget 3 (some .boolean), Cond.methodLink RL 72 yX8_key, Cond.instanceMethod yX8_key, Cond.selects RX8 yX8_key yX8_key, Cond.code yX8_key cX8_key 4 (some .int), Cond.methodLink RX8 118 yX3_codeOf, Cond.methodLink RL 75 yX9_key, Cond.instanceMethod yX9_key, Cond.selects RX9 yX9_key yX9_key, Cond.code yX9_key cX9_key 3 (some .int), Cond.methodLink RL 76 yX8_press, Cond.instanceMethod yX8_press]
def wsL_law0_r19 : List Cond := [Cond.selects RX8 yX8_press yX8_press, Cond.code yX8_press cX8_press 4 (some .int), Cond.methodLink RX8 121 yX3_codeToSend, Cond.instanceMethod yX3_codeToSend, Cond.selects RX3 yX3_codeToSend yX3_codeToSend, Cond.code yX3_codeToSend cX3_codeToSend 3 (some .int), Cond.methodLink RL 79 yX9_press, Cond.instanceMethod yX9_press, Cond.selects RX9 yX9_press yX9_press, Cond.code yX9_press cX9_press 3 (some .int), Cond.methodLink RL 80 yX8_of, Cond.instanceMethod yX8_of, Cond.selects RX8 yX8_of yX8_of, Cond.code yX8_of cX8_of 4 (some .int), Cond.methodLink RL 83 yX9_of, Cond.instanceMethod yX9_of, Cond.selects RX9 yX9_of yX9_of, Cond.code yX9_of cX9_of 3 (some .int), Cond.methodLink RX9 118 yX9_learnt, Cond.instanceMethod yX9_learnt, Cond.selects RX9 yX9_learnt yX9_learnt, Cond.code yX9_learnt cX9_learnt 4 (some .int), Cond.methodLink RX9 124 yX9_fixed, Cond.instanceMethod yX9_fixed]
def wsL_law0_r20 : List Cond := [Cond.selects RX9 yX9_fixed yX9_fixed, Cond.code yX9_fixed cX9_fixed 4 (some .int), Cond.methodLink RX9 121 yX9_some, Cond.instanceMethod yX9_some, Cond.selects RX9 yX9_some yX9_some, Cond.code yX9_some cX9_some 4 (some .int), Cond.methodLink RL 84 yX8_check, Cond.instanceMethod yX8_check, Cond.selects RX8 yX8_check yX8_check, Cond.code yX8_check cX8_check 4 (some .int), Cond.methodLink RX8 139 yX3_constantThatHolds, Cond.instanceMethod yX3_constantThatHolds, Cond.selects RX3 yX3_constantThatHolds yX3_constantThatHolds, Cond.code yX3_constantThatHolds cX3_constantThatHolds 2 (some .int), Cond.methodLink RL 87 yX9_check, Cond.instanceMethod yX9_check, Cond.selects RX9 yX9_check yX9_check, Cond.code yX9_check cX9_check 3 (some .int), Cond.methodLink RX9 134 yX9_checkOf, Cond.instanceMethod yX9_checkOf, Cond.selects RX9 yX9_checkOf yX9_checkOf, Cond.code yX9_checkOf cX9_checkOf 5 (some .int), Cond.methodLink RX9 130 yX9_numberOf, Cond.instanceMethod yX9_numberOf]
def wsL_law0_r21 : List Cond := [Cond.selects RX9 yX9_numberOf yX9_numberOf, Cond.code yX9_numberOf cX9_numberOf 6 (some .int), Cond.methodLink RX9 127 yX9_sumOf, Cond.static yX9_sumOf, Cond.code yX9_sumOf cX9_sumOf 4 (some .int), Cond.methodLink RL 88 yX8_many, Cond.instanceMethod yX8_many, Cond.selects RX8 yX8_many yX8_many, Cond.code yX8_many cX8_many 3 (some .int), Cond.methodLink RX8 142 yX3_canForesee, Cond.instanceMethod yX3_canForesee, Cond.selects RX3 yX3_canForesee yX3_canForesee, Cond.code yX3_canForesee cX3_canForesee 1 (some .boolean), Cond.methodLink RX3 82 yX3_free, Cond.instanceMethod yX3_free, Cond.selects RX3 yX3_free yX3_free, Cond.code yX3_free cX3_free 1 (some .int), Cond.methodLink RX3 85 yJ6_bitCount_0f7a4, Cond.static yJ6_bitCount_0f7a4, Cond.initialized RJ6, Cond.code yJ6_bitCount_0f7a4 cJ6_bitCount_0f7a4 1 (some .int), Cond.constant RJ6 265 (1431655765), Cond.constant RJ6 266 (858993459), Cond.constant RJ6 267 (252645135)]
def wsL_law0_r22 : List Cond := [Cond.methodLink RX8 146 yX3_foreseenCount, Cond.instanceMethod yX3_foreseenCount, Cond.selects RX3 yX3_foreseenCount yX3_foreseenCount, Cond.code yX3_foreseenCount cX3_foreseenCount 3 (some .int), Cond.methodLink RX3 93 yX3_foreseenAbove, Cond.instanceMethod yX3_foreseenAbove, Cond.selects RX3 yX3_foreseenAbove yX3_foreseenAbove, Cond.code yX3_foreseenAbove cX3_foreseenAbove 6 (some .int), Cond.methodLink RX3 90 yX3_checksHoldFor, Cond.instanceMethod yX3_checksHoldFor, Cond.selects RX3 yX3_checksHoldFor yX3_checksHoldFor, Cond.code yX3_checksHoldFor cX3_checksHoldFor 3 (some .boolean), Cond.methodLink RL 91 yX9_many, Cond.instanceMethod yX9_many, Cond.selects RX9 yX9_many yX9_many, Cond.code yX9_many cX9_many 2 (some .int), Cond.constant RX9 151 (16777216), Cond.methodLink RX9 148 yX9_canForesee, Cond.instanceMethod yX9_canForesee, Cond.selects RX9 yX9_canForesee yX9_canForesee, Cond.code yX9_canForesee cX9_canForesee 2 (some .boolean), Cond.methodLink RX9 137 yJ6_bitCount_0f7a4, Cond.methodLink RX9 152 yX9_go, Cond.instanceMethod yX9_go]
def wsL_law0_r23 : List Cond := [Cond.selects RX9 yX9_go yX9_go, Cond.code yX9_go cX9_go 8 (some .int), Cond.fieldLink RX9 142 "OneHandsetModel" "seen" "I", Cond.methodLink RX9 145 yX9_isForeseen, Cond.instanceMethod yX9_isForeseen, Cond.selects RX9 yX9_isForeseen yX9_isForeseen, Cond.code yX9_isForeseen cX9_isForeseen 4 (some .boolean), Cond.methodLink RL 92 yX8_foreseen, Cond.instanceMethod yX8_foreseen, Cond.selects RX8 yX8_foreseen yX8_foreseen, Cond.code yX8_foreseen cX8_foreseen 4 (some .int), Cond.methodLink RX8 150 yX3_foreseenAt, Cond.instanceMethod yX3_foreseenAt, Cond.selects RX3 yX3_foreseenAt yX3_foreseenAt, Cond.code yX3_foreseenAt cX3_foreseenAt 4 (some .int), Cond.methodLink RL 95 yX9_foreseen, Cond.instanceMethod yX9_foreseen, Cond.selects RX9 yX9_foreseen yX9_foreseen, Cond.code yX9_foreseen cX9_foreseen 3 (some .int), Cond.constant RX9 155 (8388608), Cond.methodLink RL 96 yX8_both, Cond.instanceMethod yX8_both, Cond.selects RX8 yX8_both yX8_both, Cond.code yX8_both cX8_both 5 (some .int)]
def wsL_law0_r24 : List Cond := [Cond.methodLink RX8 153 yX3_leastForeseenWith, Cond.instanceMethod yX3_leastForeseenWith, Cond.selects RX3 yX3_leastForeseenWith yX3_leastForeseenWith, Cond.code yX3_leastForeseenWith cX3_leastForeseenWith 4 (some .int), Cond.methodLink RX3 96 yX3_foresees, Cond.instanceMethod yX3_foresees, Cond.selects RX3 yX3_foresees yX3_foresees, Cond.code yX3_foresees cX3_foresees 2 (some .boolean), Cond.methodLink RL 99 yX9_both, Cond.instanceMethod yX9_both, Cond.selects RX9 yX9_both yX9_both, Cond.code yX9_both cX9_both 9 (some .int), Cond.methodLink RL 100 yX8_box, Cond.instanceMethod yX8_box, Cond.selects RX8 yX8_box yX8_box, Cond.code yX8_box cX8_box 5 (some .boolean), Cond.methodLink RX8 157 yX8_boxAt, Cond.instanceMethod yX8_boxAt, Cond.selects RX8 yX8_boxAt yX8_boxAt, Cond.code yX8_boxAt cX8_boxAt 2 (some (.object "OneHandset$Box")), Cond.methodLink RL 103 yX9_box, Cond.instanceMethod yX9_box, Cond.selects RX9 yX9_box yX9_box, Cond.code yX9_box cX9_box 5 (some .boolean)]
def wsL_law0_r25 : List Cond := [Cond.methodLink RX9 156 yX9_isBox, Cond.static yX9_isBox, Cond.code yX9_isBox cX9_isBox 1 (some .boolean), Cond.methodLink RL 104 yX8_lead, Cond.instanceMethod yX8_lead, Cond.selects RX8 yX8_lead yX8_lead, Cond.code yX8_lead cX8_lead 6 (some .boolean), Cond.methodLink RX8 164 yX0_hasState, Cond.instanceMethod yX0_hasState, Cond.selects RX0 yX0_hasState yX0_hasState, Cond.code yX0_hasState cX0_hasState 2 (some .boolean), Cond.methodLink RX8 167 yX0_hasButton, Cond.instanceMethod yX0_hasButton, Cond.selects RX0 yX0_hasButton yX0_hasButton, Cond.code yX0_hasButton cX0_hasButton 2 (some .boolean), Cond.methodLink RX8 170 yX0_setLead, Cond.instanceMethod yX0_setLead, Cond.selects RX0 yX0_setLead yX0_setLead, Cond.code yX0_setLead cX0_setLead 4 none, Cond.methodLink RX0 43 yX0_hasState, Cond.methodLink RX0 47 yX0_hasButton, Cond.methodLink RL 108 yX9_lead, Cond.instanceMethod yX9_lead, Cond.selects RX9 yX9_lead yX9_lead]
def wsL_law0_r26 : List Cond := [Cond.code yX9_lead cX9_lead 5 (some .boolean), Cond.methodLink RL 109 yX8_maybe, Cond.instanceMethod yX8_maybe, Cond.selects RX8 yX8_maybe yX8_maybe, Cond.code yX8_maybe cX8_maybe 4 (some .boolean), Cond.methodLink RX8 174 yX0_hasSet, Cond.instanceMethod yX0_hasSet, Cond.selects RX0 yX0_hasSet yX0_hasSet, Cond.code yX0_hasSet cX0_hasSet 2 (some .boolean), Cond.methodLink RL 112 yX9_maybe, Cond.instanceMethod yX9_maybe, Cond.selects RX9 yX9_maybe yX9_maybe, Cond.code yX9_maybe cX9_maybe 3 (some .boolean), Cond.methodLink RX9 159 yX9_isSet, Cond.instanceMethod yX9_isSet, Cond.selects RX9 yX9_isSet yX9_isSet, Cond.code yX9_isSet cX9_isSet 3 (some .boolean), Cond.methodLink RL 113 yX8_push, Cond.instanceMethod yX8_push, Cond.selects RX8 yX8_push yX8_push, Cond.code yX8_push cX8_push 4 (some .int), Cond.methodLink RX8 180 yX0_behind, Cond.instanceMethod yX0_behind, Cond.selects RX0 yX0_behind yX0_behind]
def wsL_law0_r27 : List Cond := [Cond.code yX0_behind cX0_behind 5 (some .int), Cond.methodLink RL 116 yX9_push, Cond.instanceMethod yX9_push, Cond.selects RX9 yX9_push yX9_push, Cond.code yX9_push cX9_push 3 (some .int), Cond.methodLink RX9 162 yX9_behind, Cond.instanceMethod yX9_behind, Cond.selects RX9 yX9_behind yX9_behind, Cond.code yX9_behind cX9_behind 6 (some .int), Cond.methodLink RL 117 yX8_way, Cond.instanceMethod yX8_way, Cond.selects RX8 yX8_way yX8_way, Cond.code yX8_way cX8_way 4 (some .int), Cond.methodLink RX8 183 yX6_find, Cond.instanceMethod yX6_find, Cond.selects RX6 yX6_find yX6_find, Cond.code yX6_find cX6_find 9 (some .int), Cond.methodLink RX6 28 yJ7_fill_53178, Cond.methodLink RX6 39 yX6_keepRow, Cond.instanceMethod yX6_keepRow, Cond.selects RX6 yX6_keepRow yX6_keepRow, Cond.code yX6_keepRow cX6_keepRow 5 (some .int), Cond.methodLink RX6 46 yX0_behind, Cond.methodLink RL 120 yX9_way]
def wsL_law0_r28 : List Cond := [Cond.instanceMethod yX9_way, Cond.selects RX9 yX9_way yX9_way, Cond.code yX9_way cX9_way 8 (some .int), Cond.methodLink RX9 165 yX9_tell, Cond.instanceMethod yX9_tell, Cond.selects RX9 yX9_tell yX9_tell, Cond.code yX9_tell cX9_tell 5 (some .int), Cond.fieldLink RX9 168 "OneHandsetModel" "wayMany" "I", Cond.methodLink RL 121 yX8_button, Cond.instanceMethod yX8_button, Cond.selects RX8 yX8_button yX8_button, Cond.code yX8_button cX8_button 2 (some .int), Cond.methodLink RX8 187 yX6_buttonAt, Cond.instanceMethod yX6_buttonAt, Cond.selects RX6 yX6_buttonAt yX6_buttonAt, Cond.code yX6_buttonAt cX6_buttonAt 2 (some .int), Cond.methodLink RL 124 yX9_button, Cond.instanceMethod yX9_button, Cond.selects RX9 yX9_button yX9_button, Cond.code yX9_button cX9_button 2 (some .int), Cond.methodLink RL 125 yX8_told, Cond.instanceMethod yX8_told, Cond.selects RX8 yX8_told yX8_told, Cond.code yX8_told cX8_told 4 (some .int)]
def wsL_law0_r29 : List Cond := [Cond.methodLink RL 128 yX9_told, Cond.instanceMethod yX9_told, Cond.selects RX9 yX9_told yX9_told, Cond.code yX9_told cX9_told 3 (some .int), Cond.methodLink RL 129 yX8_count, Cond.instanceMethod yX8_count, Cond.selects RX8 yX8_count yX8_count, Cond.code yX8_count cX8_count 2 (some .int), Cond.methodLink RL 132 yX9_count, Cond.instanceMethod yX9_count, Cond.selects RX9 yX9_count yX9_count, Cond.code yX9_count cX9_count 2 (some .int)]
def wsL_law0 : List Cond := (wsL_law0_r1 ++ (wsL_law0_r2 ++ (wsL_law0_r3 ++ (wsL_law0_r4 ++ (wsL_law0_r5 ++ (wsL_law0_r6 ++ (wsL_law0_r7 ++ (wsL_law0_r8 ++ (wsL_law0_r9 ++ (wsL_law0_r10 ++ (wsL_law0_r11 ++ (wsL_law0_r12 ++ (wsL_law0_r13 ++ (wsL_law0_r14 ++ (wsL_law0_r15 ++ (wsL_law0_r16 ++ (wsL_law0_r17 ++ (wsL_law0_r18 ++ (wsL_law0_r19 ++ (wsL_law0_r20 ++ (wsL_law0_r21 ++ (wsL_law0_r22 ++ (wsL_law0_r23 ++ (wsL_law0_r24 ++ (wsL_law0_r25 ++ (wsL_law0_r26 ++ (wsL_law0_r27 ++ (wsL_law0_r28 ++ wsL_law0_r29)))))))))))))))))))))))))))) ++ wsX80 ++ wsX90 ++ wsX70 ++ wsX00 ++ wsX60 ++ wsX20 ++ wsX50 ++ wsX40 ++ wsX30 ++ ([] : List Cond)
def wsL_law : List Cond := wsL_law0 ++ (vx_at0 RX8 97 "java/util/NoSuchElementException" ["java/lang/RuntimeException", "java/lang/Exception"]).filter goodWord
abbrev vwCl : List vw_C := [(RX0, TX0, 4), (RX2, TX2, 2), (RX3, TX3, 8), (RX4, TX4, 5), (RX5, TX5, 8), (RX6, TX6, 5), (RX7, TX7, 2), (RX8, TX8, 5), (RX9, TX9, 17)]
end
section
set_option maxRecDepth 20000 in
theorem ggX0_init_X0_startAnew : GoodIn wsX0_init wsX0_startAnew := goodIn_r _ [10, 11, 12, 13, 5, 14, 15, 16, 17, 18, 19, 20, 21, 22, 23, 24] rfl (by decide +kernel)
set_option maxRecDepth 20000 in
theorem gX0_init_X0_startAnew : GoodIn wsX0_init (wsV RX0 15 RX0 yX0_startAnew wsX0_startAnew) := goodIn_app (goodIn_of _ (by decide +kernel)) ggX0_init_X0_startAnew
theorem dX0_init_0 : decode cX0_init 0 = .ok (.aload_n 0, 1) := by decide +kernel
theorem dX0_init_1 : decode cX0_init 1 = .ok (.invokespecial 3, 3) := by decide +kernel
theorem dX0_init_4 : decode cX0_init 4 = .ok (.aload_n 0, 1) := by decide +kernel
theorem dX0_init_5 : decode cX0_init 5 = .ok (.bipush 32, 2) := by decide +kernel
theorem dX0_init_7 : decode cX0_init 7 = .ok (.newarray .int, 2) := by decide +kernel
theorem dX0_init_9 : decode cX0_init 9 = .ok (.putfield 9, 3) := by decide +kernel
theorem dX0_init_12 : decode cX0_init 12 = .ok (.aload_n 0, 1) := by decide +kernel
theorem dX0_init_13 : decode cX0_init 13 = .ok (.iconst 1, 1) := by decide +kernel
theorem dX0_init_14 : decode cX0_init 14 = .ok (.iconst 1, 1) := by decide +kernel
theorem dX0_init_15 : decode cX0_init 15 = .ok (.invokevirtual 15, 3) := by decide +kernel
theorem dX0_init_18 : decode cX0_init 18 = .ok (.return_, 1) := by decide +kernel
set_option maxRecDepth 20000 in
theorem ggX0_startAnew_X8_lowBits : GoodIn wsX0_startAnew wsX8_lowBits := goodIn_r _ [7] rfl (by decide +kernel)
set_option maxRecDepth 20000 in
theorem gX0_startAnew_X8_lowBits_n26 : GoodIn wsX0_startAnew (wsX8_lowBits) := ggX0_startAnew_X8_lowBits
set_option maxRecDepth 20000 in
theorem ggX0_startAnew_J7_fill_53178 : GoodIn wsX0_startAnew wsJ7_fill_53178 := goodIn_r _ [11] rfl (by decide +kernel)
set_option maxRecDepth 20000 in
theorem gX0_startAnew_J7_fill_53178 : GoodIn wsX0_startAnew (va_wsS RX0 33 yJ7_fill_53178 wsJ7_fill_53178) := goodIn_app (goodIn_of _ (by decide +kernel)) ggX0_startAnew_J7_fill_53178
theorem dX0_startAnew_0 : decode cX0_startAnew 0 = .ok (.aload_n 0, 1) := by decide +kernel
theorem dX0_startAnew_1 : decode cX0_startAnew 1 = .ok (.iload_n 1, 1) := by decide +kernel
theorem dX0_startAnew_2 : decode cX0_startAnew 2 = .ok (.putfield 19, 3) := by decide +kernel
theorem dX0_startAnew_5 : decode cX0_startAnew 5 = .ok (.aload_n 0, 1) := by decide +kernel
theorem dX0_startAnew_6 : decode cX0_startAnew 6 = .ok (.iload_n 2, 1) := by decide +kernel
theorem dX0_startAnew_7 : decode cX0_startAnew 7 = .ok (.putfield 23, 3) := by decide +kernel
theorem dX0_startAnew_10 : decode cX0_startAnew 10 = .ok (.aload_n 0, 1) := by decide +kernel
theorem dX0_startAnew_11 : decode cX0_startAnew 11 = .ok (.iload_n 1, 1) := by decide +kernel
theorem dX0_startAnew_12 : decode cX0_startAnew 12 = .ok (.invokestatic 26, 3) := by decide +kernel
theorem dX0_startAnew_15 : decode cX0_startAnew 15 = .ok (.putfield 30, 3) := by decide +kernel
theorem dX0_startAnew_18 : decode cX0_startAnew 18 = .ok (.aload_n 0, 1) := by decide +kernel
theorem dX0_startAnew_19 : decode cX0_startAnew 19 = .ok (.getfield 9, 3) := by decide +kernel
theorem dX0_startAnew_22 : decode cX0_startAnew 22 = .ok (.iconst 0, 1) := by decide +kernel
theorem dX0_startAnew_23 : decode cX0_startAnew 23 = .ok (.invokestatic 33, 3) := by decide +kernel
theorem dX0_startAnew_26 : decode cX0_startAnew 26 = .ok (.return_, 1) := by decide +kernel
set_option maxRecDepth 20000 in
theorem ggX0_hasState_X8_within : GoodIn wsX0_hasState wsX8_within := goodIn_r _ [4] rfl (by decide +kernel)
set_option maxRecDepth 20000 in
theorem gX0_hasState_X8_within_n39 : GoodIn wsX0_hasState (wsX8_within) := ggX0_hasState_X8_within
theorem dX0_hasState_0 : decode cX0_hasState 0 = .ok (.iload_n 1, 1) := by decide +kernel
theorem dX0_hasState_1 : decode cX0_hasState 1 = .ok (.iconst 0, 1) := by decide +kernel
theorem dX0_hasState_2 : decode cX0_hasState 2 = .ok (.aload_n 0, 1) := by decide +kernel
theorem dX0_hasState_3 : decode cX0_hasState 3 = .ok (.getfield 19, 3) := by decide +kernel
theorem dX0_hasState_6 : decode cX0_hasState 6 = .ok (.iconst 1, 1) := by decide +kernel
theorem dX0_hasState_7 : decode cX0_hasState 7 = .ok (.isub, 1) := by decide +kernel
theorem dX0_hasState_8 : decode cX0_hasState 8 = .ok (.invokestatic 39, 3) := by decide +kernel
theorem dX0_hasState_11 : decode cX0_hasState 11 = .ok (.ireturn, 1) := by decide +kernel
set_option maxRecDepth 20000 in
theorem ggX0_hasButton_X8_within : GoodIn wsX0_hasButton wsX8_within := goodIn_r _ [4] rfl (by decide +kernel)
set_option maxRecDepth 20000 in
theorem gX0_hasButton_X8_within_n39 : GoodIn wsX0_hasButton (wsX8_within) := ggX0_hasButton_X8_within
theorem dX0_hasButton_0 : decode cX0_hasButton 0 = .ok (.iload_n 1, 1) := by decide +kernel
theorem dX0_hasButton_1 : decode cX0_hasButton 1 = .ok (.iconst 0, 1) := by decide +kernel
theorem dX0_hasButton_2 : decode cX0_hasButton 2 = .ok (.aload_n 0, 1) := by decide +kernel
theorem dX0_hasButton_3 : decode cX0_hasButton 3 = .ok (.getfield 23, 3) := by decide +kernel
theorem dX0_hasButton_6 : decode cX0_hasButton 6 = .ok (.iconst 1, 1) := by decide +kernel
theorem dX0_hasButton_7 : decode cX0_hasButton 7 = .ok (.isub, 1) := by decide +kernel
theorem dX0_hasButton_8 : decode cX0_hasButton 8 = .ok (.invokestatic 39, 3) := by decide +kernel
theorem dX0_hasButton_11 : decode cX0_hasButton 11 = .ok (.ireturn, 1) := by decide +kernel
set_option maxRecDepth 20000 in
theorem ggX0_hasSet_X8_lowBits : GoodIn wsX0_hasSet wsX8_lowBits := goodIn_r _ [4] rfl (by decide +kernel)
set_option maxRecDepth 20000 in
theorem gX0_hasSet_X8_lowBits_n26 : GoodIn wsX0_hasSet (wsX8_lowBits) := ggX0_hasSet_X8_lowBits
set_option maxRecDepth 20000 in
theorem ggX0_hasSet_X8_within : GoodIn wsX0_hasSet wsX8_within := goodIn_r _ [6] rfl (by decide +kernel)
set_option maxRecDepth 20000 in
theorem gX0_hasSet_X8_within_n39 : GoodIn wsX0_hasSet (wsX8_within) := ggX0_hasSet_X8_within
theorem dX0_hasSet_0 : decode cX0_hasSet 0 = .ok (.iload_n 1, 1) := by decide +kernel
theorem dX0_hasSet_1 : decode cX0_hasSet 1 = .ok (.iconst 1, 1) := by decide +kernel
theorem dX0_hasSet_2 : decode cX0_hasSet 2 = .ok (.aload_n 0, 1) := by decide +kernel
theorem dX0_hasSet_3 : decode cX0_hasSet 3 = .ok (.getfield 19, 3) := by decide +kernel
theorem dX0_hasSet_6 : decode cX0_hasSet 6 = .ok (.invokestatic 26, 3) := by decide +kernel
theorem dX0_hasSet_9 : decode cX0_hasSet 9 = .ok (.invokestatic 39, 3) := by decide +kernel
theorem dX0_hasSet_12 : decode cX0_hasSet 12 = .ok (.ireturn, 1) := by decide +kernel
set_option maxRecDepth 20000 in
theorem ggX0_setLead_X0_hasState : GoodIn wsX0_setLead wsX0_hasState := goodIn_r _ [6, 7, 8, 9, 10, 16, 17, 18, 19] rfl (by decide +kernel)
set_option maxRecDepth 20000 in
theorem gX0_setLead_X0_hasState : GoodIn wsX0_setLead (wsV RX0 43 RX0 yX0_hasState wsX0_hasState) := goodIn_app (goodIn_of _ (by decide +kernel)) ggX0_setLead_X0_hasState
set_option maxRecDepth 20000 in
theorem ggX0_setLead_X0_hasButton : GoodIn wsX0_setLead wsX0_hasButton := goodIn_r _ [14, 15, 8, 9, 10, 16, 17, 18, 19] rfl (by decide +kernel)
set_option maxRecDepth 20000 in
theorem gX0_setLead_X0_hasButton : GoodIn wsX0_setLead (wsV RX0 47 RX0 yX0_hasButton wsX0_hasButton) := goodIn_app (goodIn_of _ (by decide +kernel)) ggX0_setLead_X0_hasButton
theorem dX0_setLead_0 : decode cX0_setLead 0 = .ok (.aload_n 0, 1) := by decide +kernel
theorem dX0_setLead_1 : decode cX0_setLead 1 = .ok (.iload_n 1, 1) := by decide +kernel
theorem dX0_setLead_2 : decode cX0_setLead 2 = .ok (.invokevirtual 43, 3) := by decide +kernel
theorem dX0_setLead_5 : decode cX0_setLead 5 = .ok (.ifCond .eq 22, 3) := by decide +kernel
theorem dX0_setLead_8 : decode cX0_setLead 8 = .ok (.aload_n 0, 1) := by decide +kernel
theorem dX0_setLead_9 : decode cX0_setLead 9 = .ok (.iload_n 2, 1) := by decide +kernel
theorem dX0_setLead_10 : decode cX0_setLead 10 = .ok (.invokevirtual 47, 3) := by decide +kernel
theorem dX0_setLead_13 : decode cX0_setLead 13 = .ok (.ifCond .eq 14, 3) := by decide +kernel
theorem dX0_setLead_16 : decode cX0_setLead 16 = .ok (.aload_n 0, 1) := by decide +kernel
theorem dX0_setLead_17 : decode cX0_setLead 17 = .ok (.getfield 9, 3) := by decide +kernel
theorem dX0_setLead_20 : decode cX0_setLead 20 = .ok (.iload_n 1, 1) := by decide +kernel
theorem dX0_setLead_21 : decode cX0_setLead 21 = .ok (.iconst 4, 1) := by decide +kernel
theorem dX0_setLead_22 : decode cX0_setLead 22 = .ok (.imul, 1) := by decide +kernel
theorem dX0_setLead_23 : decode cX0_setLead 23 = .ok (.iload_n 2, 1) := by decide +kernel
theorem dX0_setLead_24 : decode cX0_setLead 24 = .ok (.iadd, 1) := by decide +kernel
theorem dX0_setLead_25 : decode cX0_setLead 25 = .ok (.iload_n 3, 1) := by decide +kernel
theorem dX0_setLead_26 : decode cX0_setLead 26 = .ok (.iastore, 1) := by decide +kernel
theorem dX0_setLead_27 : decode cX0_setLead 27 = .ok (.return_, 1) := by decide +kernel
set_option maxRecDepth 20000 in
theorem ggX0_behind_X0_hasButton : GoodIn wsX0_behind wsX0_hasButton := goodIn_r _ [7, 8, 9, 10, 11, 12, 13, 14, 15] rfl (by decide +kernel)
set_option maxRecDepth 20000 in
theorem gX0_behind_X0_hasButton : GoodIn wsX0_behind (wsV RX0 47 RX0 yX0_hasButton wsX0_hasButton) := goodIn_app (goodIn_of _ (by decide +kernel)) ggX0_behind_X0_hasButton
theorem dX0_behind_0 : decode cX0_behind 0 = .ok (.iconst 0, 1) := by decide +kernel
theorem dX0_behind_1 : decode cX0_behind 1 = .ok (.istore_n 3, 1) := by decide +kernel
theorem dX0_behind_2 : decode cX0_behind 2 = .ok (.iconst 0, 1) := by decide +kernel
theorem dX0_behind_3 : decode cX0_behind 3 = .ok (.istore 4, 2) := by decide +kernel
theorem dX0_behind_5 : decode cX0_behind 5 = .ok (.iload 4, 2) := by decide +kernel
theorem dX0_behind_7 : decode cX0_behind 7 = .ok (.aload_n 0, 1) := by decide +kernel
theorem dX0_behind_8 : decode cX0_behind 8 = .ok (.getfield 19, 3) := by decide +kernel
theorem dX0_behind_11 : decode cX0_behind 11 = .ok (.if_icmp .ge 43, 3) := by decide +kernel
theorem dX0_behind_14 : decode cX0_behind 14 = .ok (.aload_n 0, 1) := by decide +kernel
theorem dX0_behind_15 : decode cX0_behind 15 = .ok (.iload_n 2, 1) := by decide +kernel
theorem dX0_behind_16 : decode cX0_behind 16 = .ok (.invokevirtual 47, 3) := by decide +kernel
theorem dX0_behind_19 : decode cX0_behind 19 = .ok (.ifCond .eq 35, 3) := by decide +kernel
theorem dX0_behind_22 : decode cX0_behind 22 = .ok (.iload_n 1, 1) := by decide +kernel
theorem dX0_behind_23 : decode cX0_behind 23 = .ok (.iload 4, 2) := by decide +kernel
theorem dX0_behind_25 : decode cX0_behind 25 = .ok (.ishr, 1) := by decide +kernel
theorem dX0_behind_26 : decode cX0_behind 26 = .ok (.iconst 1, 1) := by decide +kernel
theorem dX0_behind_27 : decode cX0_behind 27 = .ok (.iand, 1) := by decide +kernel
theorem dX0_behind_28 : decode cX0_behind 28 = .ok (.iconst 1, 1) := by decide +kernel
theorem dX0_behind_29 : decode cX0_behind 29 = .ok (.if_icmp .ne 19, 3) := by decide +kernel
theorem dX0_behind_32 : decode cX0_behind 32 = .ok (.iload_n 3, 1) := by decide +kernel
theorem dX0_behind_33 : decode cX0_behind 33 = .ok (.iconst 1, 1) := by decide +kernel
theorem dX0_behind_34 : decode cX0_behind 34 = .ok (.aload_n 0, 1) := by decide +kernel
theorem dX0_behind_35 : decode cX0_behind 35 = .ok (.getfield 9, 3) := by decide +kernel
theorem dX0_behind_38 : decode cX0_behind 38 = .ok (.iload 4, 2) := by decide +kernel
theorem dX0_behind_40 : decode cX0_behind 40 = .ok (.iconst 4, 1) := by decide +kernel
theorem dX0_behind_41 : decode cX0_behind 41 = .ok (.imul, 1) := by decide +kernel
theorem dX0_behind_42 : decode cX0_behind 42 = .ok (.iload_n 2, 1) := by decide +kernel
theorem dX0_behind_43 : decode cX0_behind 43 = .ok (.iadd, 1) := by decide +kernel
theorem dX0_behind_44 : decode cX0_behind 44 = .ok (.iaload, 1) := by decide +kernel
theorem dX0_behind_45 : decode cX0_behind 45 = .ok (.ishl, 1) := by decide +kernel
theorem dX0_behind_46 : decode cX0_behind 46 = .ok (.ior, 1) := by decide +kernel
theorem dX0_behind_47 : decode cX0_behind 47 = .ok (.istore_n 3, 1) := by decide +kernel
theorem dX0_behind_48 : decode cX0_behind 48 = .ok (.iinc 4 1, 3) := by decide +kernel
theorem dX0_behind_51 : decode cX0_behind 51 = .ok (.goto (-46), 3) := by decide +kernel
theorem dX0_behind_54 : decode cX0_behind 54 = .ok (.iload_n 3, 1) := by decide +kernel
theorem dX0_behind_55 : decode cX0_behind 55 = .ok (.ireturn, 1) := by decide +kernel
theorem dX1_init_0 : decode cX1_init 0 = .ok (.aload_n 0, 1) := by decide +kernel
theorem dX1_init_1 : decode cX1_init 1 = .ok (.invokespecial 1, 3) := by decide +kernel
theorem dX1_init_4 : decode cX1_init 4 = .ok (.return_, 1) := by decide +kernel
set_option maxRecDepth 20000 in
theorem ggX2_init_X1_init : GoodIn wsX2_init wsX1_init := goodIn_r _ [5, 6, 7, 8] rfl (by decide +kernel)
set_option maxRecDepth 20000 in
theorem gX2_init_X1_init_n3 : GoodIn wsX2_init (wsX1_init) := ggX2_init_X1_init
theorem dX2_init_0 : decode cX2_init 0 = .ok (.aload_n 0, 1) := by decide +kernel
theorem dX2_init_1 : decode cX2_init 1 = .ok (.invokespecial 3, 3) := by decide +kernel
theorem dX2_init_4 : decode cX2_init 4 = .ok (.aload_n 0, 1) := by decide +kernel
theorem dX2_init_5 : decode cX2_init 5 = .ok (.iload_n 1, 1) := by decide +kernel
theorem dX2_init_6 : decode cX2_init 6 = .ok (.putfield 9, 3) := by decide +kernel
theorem dX2_init_9 : decode cX2_init 9 = .ok (.aload_n 0, 1) := by decide +kernel
theorem dX2_init_10 : decode cX2_init 10 = .ok (.iload_n 2, 1) := by decide +kernel
theorem dX2_init_11 : decode cX2_init 11 = .ok (.putfield 15, 3) := by decide +kernel
theorem dX2_init_14 : decode cX2_init 14 = .ok (.return_, 1) := by decide +kernel
theorem dX2_isOn_0 : decode cX2_isOn 0 = .ok (.iload_n 2, 1) := by decide +kernel
theorem dX2_isOn_1 : decode cX2_isOn 1 = .ok (.ifCond .ne 5, 3) := by decide +kernel
theorem dX2_isOn_4 : decode cX2_isOn 4 = .ok (.iconst 1, 1) := by decide +kernel
theorem dX2_isOn_5 : decode cX2_isOn 5 = .ok (.ireturn, 1) := by decide +kernel
theorem dX2_isOn_6 : decode cX2_isOn 6 = .ok (.iload_n 1, 1) := by decide +kernel
theorem dX2_isOn_7 : decode cX2_isOn 7 = .ok (.aload_n 0, 1) := by decide +kernel
theorem dX2_isOn_8 : decode cX2_isOn 8 = .ok (.getfield 9, 3) := by decide +kernel
theorem dX2_isOn_11 : decode cX2_isOn 11 = .ok (.iload_n 2, 1) := by decide +kernel
theorem dX2_isOn_12 : decode cX2_isOn 12 = .ok (.iconst 1, 1) := by decide +kernel
theorem dX2_isOn_13 : decode cX2_isOn 13 = .ok (.iadd, 1) := by decide +kernel
theorem dX2_isOn_14 : decode cX2_isOn 14 = .ok (.iconst 2, 1) := by decide +kernel
theorem dX2_isOn_15 : decode cX2_isOn 15 = .ok (.idiv, 1) := by decide +kernel
theorem dX2_isOn_16 : decode cX2_isOn 16 = .ok (.isub, 1) := by decide +kernel
theorem dX2_isOn_17 : decode cX2_isOn 17 = .ok (.ishr, 1) := by decide +kernel
theorem dX2_isOn_18 : decode cX2_isOn 18 = .ok (.iconst 1, 1) := by decide +kernel
theorem dX2_isOn_19 : decode cX2_isOn 19 = .ok (.iand, 1) := by decide +kernel
theorem dX2_isOn_20 : decode cX2_isOn 20 = .ok (.istore_n 3, 1) := by decide +kernel
theorem dX2_isOn_21 : decode cX2_isOn 21 = .ok (.iload_n 2, 1) := by decide +kernel
theorem dX2_isOn_22 : decode cX2_isOn 22 = .ok (.iconst 2, 1) := by decide +kernel
theorem dX2_isOn_23 : decode cX2_isOn 23 = .ok (.irem, 1) := by decide +kernel
theorem dX2_isOn_24 : decode cX2_isOn 24 = .ok (.iconst 1, 1) := by decide +kernel
theorem dX2_isOn_25 : decode cX2_isOn 25 = .ok (.if_icmp .ne 7, 3) := by decide +kernel
theorem dX2_isOn_28 : decode cX2_isOn 28 = .ok (.iconst 1, 1) := by decide +kernel
theorem dX2_isOn_29 : decode cX2_isOn 29 = .ok (.goto 4, 3) := by decide +kernel
theorem dX2_isOn_32 : decode cX2_isOn 32 = .ok (.iconst 0, 1) := by decide +kernel
theorem dX2_isOn_33 : decode cX2_isOn 33 = .ok (.iload_n 3, 1) := by decide +kernel
theorem dX2_isOn_34 : decode cX2_isOn 34 = .ok (.ifCond .ne 7, 3) := by decide +kernel
theorem dX2_isOn_37 : decode cX2_isOn 37 = .ok (.iconst 1, 1) := by decide +kernel
theorem dX2_isOn_38 : decode cX2_isOn 38 = .ok (.goto 4, 3) := by decide +kernel
theorem dX2_isOn_41 : decode cX2_isOn 41 = .ok (.iconst 0, 1) := by decide +kernel
theorem dX2_isOn_42 : decode cX2_isOn 42 = .ok (.if_icmp .ne 7, 3) := by decide +kernel
theorem dX2_isOn_45 : decode cX2_isOn 45 = .ok (.iconst 1, 1) := by decide +kernel
theorem dX2_isOn_46 : decode cX2_isOn 46 = .ok (.goto 4, 3) := by decide +kernel
theorem dX2_isOn_49 : decode cX2_isOn 49 = .ok (.iconst 0, 1) := by decide +kernel
theorem dX2_isOn_50 : decode cX2_isOn 50 = .ok (.ireturn, 1) := by decide +kernel
set_option maxRecDepth 20000 in
theorem ggX2_write_X2_isOn : GoodIn wsX2_write wsX2_isOn := goodIn_r _ [7, 1, 19, 20] rfl (by decide +kernel)
set_option maxRecDepth 20000 in
theorem gX2_write_X2_isOn : GoodIn wsX2_write (wsV RX2 18 RX2 yX2_isOn wsX2_isOn) := goodIn_app (goodIn_of _ (by decide +kernel)) ggX2_write_X2_isOn
set_option maxRecDepth 20000 in
theorem ggX2_write_X7_append : GoodIn wsX2_write wsX7_append := goodIn_r _ [12, 13, 14, 21, 22] rfl (by decide +kernel)
set_option maxRecDepth 20000 in
theorem gX2_write_X7_append : GoodIn wsX2_write (wsV RX2 22 RX7 yX7_append wsX7_append) := goodIn_app (goodIn_of _ (by decide +kernel)) ggX2_write_X7_append
set_option maxRecDepth 20000 in
theorem ggX2_write_X7_lengthenLast : GoodIn wsX2_write wsX7_lengthenLast := goodIn_r _ [18, 13, 14, 21, 22] rfl (by decide +kernel)
set_option maxRecDepth 20000 in
theorem gX2_write_X7_lengthenLast : GoodIn wsX2_write (wsV RX2 28 RX7 yX7_lengthenLast wsX7_lengthenLast) := goodIn_app (goodIn_of _ (by decide +kernel)) ggX2_write_X7_lengthenLast
theorem dX2_write_0 : decode cX2_write 0 = .ok (.aload_n 0, 1) := by decide +kernel
theorem dX2_write_1 : decode cX2_write 1 = .ok (.iload_n 1, 1) := by decide +kernel
theorem dX2_write_2 : decode cX2_write 2 = .ok (.iconst 2, 1) := by decide +kernel
theorem dX2_write_3 : decode cX2_write 3 = .ok (.aload_n 0, 1) := by decide +kernel
theorem dX2_write_4 : decode cX2_write 4 = .ok (.getfield 9, 3) := by decide +kernel
theorem dX2_write_7 : decode cX2_write 7 = .ok (.imul, 1) := by decide +kernel
theorem dX2_write_8 : decode cX2_write 8 = .ok (.invokevirtual 18, 3) := by decide +kernel
theorem dX2_write_11 : decode cX2_write 11 = .ok (.ifCond .eq 12, 3) := by decide +kernel
theorem dX2_write_14 : decode cX2_write 14 = .ok (.iconst 2, 1) := by decide +kernel
theorem dX2_write_15 : decode cX2_write 15 = .ok (.aload_n 0, 1) := by decide +kernel
theorem dX2_write_16 : decode cX2_write 16 = .ok (.getfield 9, 3) := by decide +kernel
theorem dX2_write_19 : decode cX2_write 19 = .ok (.imul, 1) := by decide +kernel
theorem dX2_write_20 : decode cX2_write 20 = .ok (.goto 11, 3) := by decide +kernel
theorem dX2_write_23 : decode cX2_write 23 = .ok (.iconst 2, 1) := by decide +kernel
theorem dX2_write_24 : decode cX2_write 24 = .ok (.aload_n 0, 1) := by decide +kernel
theorem dX2_write_25 : decode cX2_write 25 = .ok (.getfield 9, 3) := by decide +kernel
theorem dX2_write_28 : decode cX2_write 28 = .ok (.imul, 1) := by decide +kernel
theorem dX2_write_29 : decode cX2_write 29 = .ok (.iconst 1, 1) := by decide +kernel
theorem dX2_write_30 : decode cX2_write 30 = .ok (.isub, 1) := by decide +kernel
theorem dX2_write_31 : decode cX2_write 31 = .ok (.istore_n 3, 1) := by decide +kernel
theorem dX2_write_32 : decode cX2_write 32 = .ok (.aload_n 2, 1) := by decide +kernel
theorem dX2_write_33 : decode cX2_write 33 = .ok (.aload_n 0, 1) := by decide +kernel
theorem dX2_write_34 : decode cX2_write 34 = .ok (.getfield 15, 3) := by decide +kernel
theorem dX2_write_37 : decode cX2_write 37 = .ok (.invokevirtual 22, 3) := by decide +kernel
theorem dX2_write_40 : decode cX2_write 40 = .ok (.iconst 1, 1) := by decide +kernel
theorem dX2_write_41 : decode cX2_write 41 = .ok (.istore 4, 2) := by decide +kernel
theorem dX2_write_43 : decode cX2_write 43 = .ok (.iload 4, 2) := by decide +kernel
theorem dX2_write_45 : decode cX2_write 45 = .ok (.iload_n 3, 1) := by decide +kernel
theorem dX2_write_46 : decode cX2_write 46 = .ok (.if_icmp .gt 47, 3) := by decide +kernel
theorem dX2_write_49 : decode cX2_write 49 = .ok (.aload_n 0, 1) := by decide +kernel
theorem dX2_write_50 : decode cX2_write 50 = .ok (.iload_n 1, 1) := by decide +kernel
theorem dX2_write_51 : decode cX2_write 51 = .ok (.iload 4, 2) := by decide +kernel
theorem dX2_write_53 : decode cX2_write 53 = .ok (.invokevirtual 18, 3) := by decide +kernel
theorem dX2_write_56 : decode cX2_write 56 = .ok (.aload_n 0, 1) := by decide +kernel
theorem dX2_write_57 : decode cX2_write 57 = .ok (.iload_n 1, 1) := by decide +kernel
theorem dX2_write_58 : decode cX2_write 58 = .ok (.iload 4, 2) := by decide +kernel
theorem dX2_write_60 : decode cX2_write 60 = .ok (.iconst 1, 1) := by decide +kernel
theorem dX2_write_61 : decode cX2_write 61 = .ok (.isub, 1) := by decide +kernel
theorem dX2_write_62 : decode cX2_write 62 = .ok (.invokevirtual 18, 3) := by decide +kernel
theorem dX2_write_65 : decode cX2_write 65 = .ok (.if_icmp .ne 14, 3) := by decide +kernel
theorem dX2_write_68 : decode cX2_write 68 = .ok (.aload_n 2, 1) := by decide +kernel
theorem dX2_write_69 : decode cX2_write 69 = .ok (.aload_n 0, 1) := by decide +kernel
theorem dX2_write_70 : decode cX2_write 70 = .ok (.getfield 15, 3) := by decide +kernel
theorem dX2_write_73 : decode cX2_write 73 = .ok (.invokevirtual 28, 3) := by decide +kernel
theorem dX2_write_76 : decode cX2_write 76 = .ok (.goto 11, 3) := by decide +kernel
theorem dX2_write_79 : decode cX2_write 79 = .ok (.aload_n 2, 1) := by decide +kernel
theorem dX2_write_80 : decode cX2_write 80 = .ok (.aload_n 0, 1) := by decide +kernel
theorem dX2_write_81 : decode cX2_write 81 = .ok (.getfield 15, 3) := by decide +kernel
theorem dX2_write_84 : decode cX2_write 84 = .ok (.invokevirtual 22, 3) := by decide +kernel
theorem dX2_write_87 : decode cX2_write 87 = .ok (.iinc 4 1, 3) := by decide +kernel
theorem dX2_write_90 : decode cX2_write 90 = .ok (.goto (-47), 3) := by decide +kernel
theorem dX2_write_93 : decode cX2_write 93 = .ok (.return_, 1) := by decide +kernel
set_option maxRecDepth 20000 in
theorem ggX2_decode_X7_at : GoodIn wsX2_decode wsX7_at := goodIn_r _ [7, 8, 9, 10, 11, 12, 28, 29] rfl (by decide +kernel)
set_option maxRecDepth 20000 in
theorem gX2_decode_X7_at : GoodIn wsX2_decode (wsV RX2 34 RX7 yX7_at wsX7_at) := goodIn_app (goodIn_of _ (by decide +kernel)) ggX2_decode_X7_at
set_option maxRecDepth 20000 in
theorem ggX2_decode_X8_nearerOf : GoodIn wsX2_decode wsX8_nearerOf := goodIn_r _ [14, 15, 16, 17, 18, 19, 20, 11, 21, 22, 23, 24, 25, 10, 12] rfl (by decide +kernel)
set_option maxRecDepth 20000 in
theorem gX2_decode_X8_nearerOf_n38 : GoodIn wsX2_decode (wsX8_nearerOf) := ggX2_decode_X8_nearerOf
set_option maxRecDepth 20000 in
theorem ggX2_decode_X8_fault : GoodIn wsX2_decode wsX8_fault := goodIn_r _ [27] rfl (by decide +kernel)
set_option maxRecDepth 20000 in
theorem gX2_decode_X8_fault_n42 : GoodIn wsX2_decode (wsX8_fault) := ggX2_decode_X8_fault
theorem dX2_decode_0 : decode cX2_decode 0 = .ok (.iconst 0, 1) := by decide +kernel
theorem dX2_decode_1 : decode cX2_decode 1 = .ok (.istore_n 3, 1) := by decide +kernel
theorem dX2_decode_2 : decode cX2_decode 2 = .ok (.iconst 0, 1) := by decide +kernel
theorem dX2_decode_3 : decode cX2_decode 3 = .ok (.istore 4, 2) := by decide +kernel
theorem dX2_decode_5 : decode cX2_decode 5 = .ok (.iconst 0, 1) := by decide +kernel
theorem dX2_decode_6 : decode cX2_decode 6 = .ok (.istore 5, 2) := by decide +kernel
theorem dX2_decode_8 : decode cX2_decode 8 = .ok (.iconst 0, 1) := by decide +kernel
theorem dX2_decode_9 : decode cX2_decode 9 = .ok (.istore 6, 2) := by decide +kernel
theorem dX2_decode_11 : decode cX2_decode 11 = .ok (.iload 6, 2) := by decide +kernel
theorem dX2_decode_13 : decode cX2_decode 13 = .ok (.aload_n 1, 1) := by decide +kernel
theorem dX2_decode_14 : decode cX2_decode 14 = .ok (.getfield 31, 3) := by decide +kernel
theorem dX2_decode_17 : decode cX2_decode 17 = .ok (.if_icmp .ge 148, 3) := by decide +kernel
theorem dX2_decode_20 : decode cX2_decode 20 = .ok (.aload_n 1, 1) := by decide +kernel
theorem dX2_decode_21 : decode cX2_decode 21 = .ok (.iload 6, 2) := by decide +kernel
theorem dX2_decode_23 : decode cX2_decode 23 = .ok (.invokevirtual 34, 3) := by decide +kernel
theorem dX2_decode_26 : decode cX2_decode 26 = .ok (.aload_n 0, 1) := by decide +kernel
theorem dX2_decode_27 : decode cX2_decode 27 = .ok (.getfield 15, 3) := by decide +kernel
theorem dX2_decode_30 : decode cX2_decode 30 = .ok (.iconst 2, 1) := by decide +kernel
theorem dX2_decode_31 : decode cX2_decode 31 = .ok (.aload_n 0, 1) := by decide +kernel
theorem dX2_decode_32 : decode cX2_decode 32 = .ok (.getfield 15, 3) := by decide +kernel
theorem dX2_decode_35 : decode cX2_decode 35 = .ok (.imul, 1) := by decide +kernel
theorem dX2_decode_36 : decode cX2_decode 36 = .ok (.iload_n 2, 1) := by decide +kernel
theorem dX2_decode_37 : decode cX2_decode 37 = .ok (.invokestatic 38, 3) := by decide +kernel
theorem dX2_decode_40 : decode cX2_decode 40 = .ok (.istore 7, 2) := by decide +kernel
theorem dX2_decode_42 : decode cX2_decode 42 = .ok (.iload 7, 2) := by decide +kernel
theorem dX2_decode_44 : decode cX2_decode 44 = .ok (.iconst (-1), 1) := by decide +kernel
theorem dX2_decode_45 : decode cX2_decode 45 = .ok (.if_icmp .ne 9, 3) := by decide +kernel
theorem dX2_decode_48 : decode cX2_decode 48 = .ok (.iload 6, 2) := by decide +kernel
theorem dX2_decode_50 : decode cX2_decode 50 = .ok (.invokestatic 42, 3) := by decide +kernel
theorem dX2_decode_53 : decode cX2_decode 53 = .ok (.ireturn, 1) := by decide +kernel
theorem dX2_decode_54 : decode cX2_decode 54 = .ok (.iload 6, 2) := by decide +kernel
theorem dX2_decode_56 : decode cX2_decode 56 = .ok (.iconst 2, 1) := by decide +kernel
theorem dX2_decode_57 : decode cX2_decode 57 = .ok (.irem, 1) := by decide +kernel
theorem dX2_decode_58 : decode cX2_decode 58 = .ok (.ifCond .ne 7, 3) := by decide +kernel
theorem dX2_decode_61 : decode cX2_decode 61 = .ok (.iconst 1, 1) := by decide +kernel
theorem dX2_decode_62 : decode cX2_decode 62 = .ok (.goto 4, 3) := by decide +kernel
theorem dX2_decode_65 : decode cX2_decode 65 = .ok (.iconst 0, 1) := by decide +kernel
theorem dX2_decode_66 : decode cX2_decode 66 = .ok (.istore 8, 2) := by decide +kernel
theorem dX2_decode_68 : decode cX2_decode 68 = .ok (.iconst 0, 1) := by decide +kernel
theorem dX2_decode_69 : decode cX2_decode 69 = .ok (.istore 9, 2) := by decide +kernel
theorem dX2_decode_71 : decode cX2_decode 71 = .ok (.iload 9, 2) := by decide +kernel
theorem dX2_decode_73 : decode cX2_decode 73 = .ok (.iload 7, 2) := by decide +kernel
theorem dX2_decode_75 : decode cX2_decode 75 = .ok (.if_icmp .gt 84, 3) := by decide +kernel
theorem dX2_decode_78 : decode cX2_decode 78 = .ok (.iload 4, 2) := by decide +kernel
theorem dX2_decode_80 : decode cX2_decode 80 = .ok (.ifCond .le 14, 3) := by decide +kernel
theorem dX2_decode_83 : decode cX2_decode 83 = .ok (.iload 4, 2) := by decide +kernel
theorem dX2_decode_85 : decode cX2_decode 85 = .ok (.iconst 2, 1) := by decide +kernel
theorem dX2_decode_86 : decode cX2_decode 86 = .ok (.irem, 1) := by decide +kernel
theorem dX2_decode_87 : decode cX2_decode 87 = .ok (.ifCond .ne 7, 3) := by decide +kernel
theorem dX2_decode_90 : decode cX2_decode 90 = .ok (.iconst 1, 1) := by decide +kernel
theorem dX2_decode_91 : decode cX2_decode 91 = .ok (.goto 4, 3) := by decide +kernel
theorem dX2_decode_94 : decode cX2_decode 94 = .ok (.iconst 0, 1) := by decide +kernel
theorem dX2_decode_95 : decode cX2_decode 95 = .ok (.istore 10, 2) := by decide +kernel
theorem dX2_decode_97 : decode cX2_decode 97 = .ok (.iload 4, 2) := by decide +kernel
theorem dX2_decode_99 : decode cX2_decode 99 = .ok (.iconst 2, 1) := by decide +kernel
theorem dX2_decode_100 : decode cX2_decode 100 = .ok (.aload_n 0, 1) := by decide +kernel
theorem dX2_decode_101 : decode cX2_decode 101 = .ok (.getfield 9, 3) := by decide +kernel
theorem dX2_decode_104 : decode cX2_decode 104 = .ok (.imul, 1) := by decide +kernel
theorem dX2_decode_105 : decode cX2_decode 105 = .ok (.if_icmp .gt 15, 3) := by decide +kernel
theorem dX2_decode_108 : decode cX2_decode 108 = .ok (.iload 10, 2) := by decide +kernel
theorem dX2_decode_110 : decode cX2_decode 110 = .ok (.ifCond .eq 16, 3) := by decide +kernel
theorem dX2_decode_113 : decode cX2_decode 113 = .ok (.iload 8, 2) := by decide +kernel
theorem dX2_decode_115 : decode cX2_decode 115 = .ok (.iload 5, 2) := by decide +kernel
theorem dX2_decode_117 : decode cX2_decode 117 = .ok (.if_icmp .ne 9, 3) := by decide +kernel
theorem dX2_decode_120 : decode cX2_decode 120 = .ok (.iload 6, 2) := by decide +kernel
theorem dX2_decode_122 : decode cX2_decode 122 = .ok (.invokestatic 42, 3) := by decide +kernel
theorem dX2_decode_125 : decode cX2_decode 125 = .ok (.ireturn, 1) := by decide +kernel
theorem dX2_decode_126 : decode cX2_decode 126 = .ok (.iload 10, 2) := by decide +kernel
theorem dX2_decode_128 : decode cX2_decode 128 = .ok (.ifCond .eq 18, 3) := by decide +kernel
theorem dX2_decode_131 : decode cX2_decode 131 = .ok (.iload_n 3, 1) := by decide +kernel
theorem dX2_decode_132 : decode cX2_decode 132 = .ok (.iconst 2, 1) := by decide +kernel
theorem dX2_decode_133 : decode cX2_decode 133 = .ok (.imul, 1) := by decide +kernel
theorem dX2_decode_134 : decode cX2_decode 134 = .ok (.iload 5, 2) := by decide +kernel
theorem dX2_decode_136 : decode cX2_decode 136 = .ok (.ifCond .eq 7, 3) := by decide +kernel
theorem dX2_decode_139 : decode cX2_decode 139 = .ok (.iconst 0, 1) := by decide +kernel
theorem dX2_decode_140 : decode cX2_decode 140 = .ok (.goto 4, 3) := by decide +kernel
theorem dX2_decode_143 : decode cX2_decode 143 = .ok (.iconst 1, 1) := by decide +kernel
theorem dX2_decode_144 : decode cX2_decode 144 = .ok (.iadd, 1) := by decide +kernel
theorem dX2_decode_145 : decode cX2_decode 145 = .ok (.istore_n 3, 1) := by decide +kernel
theorem dX2_decode_146 : decode cX2_decode 146 = .ok (.iload 8, 2) := by decide +kernel
theorem dX2_decode_148 : decode cX2_decode 148 = .ok (.istore 5, 2) := by decide +kernel
theorem dX2_decode_150 : decode cX2_decode 150 = .ok (.iinc 4 1, 3) := by decide +kernel
theorem dX2_decode_153 : decode cX2_decode 153 = .ok (.iinc 9 1, 3) := by decide +kernel
theorem dX2_decode_156 : decode cX2_decode 156 = .ok (.goto (-85), 3) := by decide +kernel
theorem dX2_decode_159 : decode cX2_decode 159 = .ok (.iinc 6 1, 3) := by decide +kernel
theorem dX2_decode_162 : decode cX2_decode 162 = .ok (.goto (-151), 3) := by decide +kernel
theorem dX2_decode_165 : decode cX2_decode 165 = .ok (.iload 4, 2) := by decide +kernel
theorem dX2_decode_167 : decode cX2_decode 167 = .ok (.iconst 2, 1) := by decide +kernel
theorem dX2_decode_168 : decode cX2_decode 168 = .ok (.aload_n 0, 1) := by decide +kernel
theorem dX2_decode_169 : decode cX2_decode 169 = .ok (.getfield 9, 3) := by decide +kernel
theorem dX2_decode_172 : decode cX2_decode 172 = .ok (.imul, 1) := by decide +kernel
theorem dX2_decode_173 : decode cX2_decode 173 = .ok (.if_icmp .ne 12, 3) := by decide +kernel
theorem dX2_decode_176 : decode cX2_decode 176 = .ok (.iload 5, 2) := by decide +kernel
theorem dX2_decode_178 : decode cX2_decode 178 = .ok (.ifCond .eq 7, 3) := by decide +kernel
theorem dX2_decode_181 : decode cX2_decode 181 = .ok (.iload_n 3, 1) := by decide +kernel
theorem dX2_decode_182 : decode cX2_decode 182 = .ok (.iconst 2, 1) := by decide +kernel
theorem dX2_decode_183 : decode cX2_decode 183 = .ok (.imul, 1) := by decide +kernel
theorem dX2_decode_184 : decode cX2_decode 184 = .ok (.ireturn, 1) := by decide +kernel
theorem dX2_decode_185 : decode cX2_decode 185 = .ok (.iload 4, 2) := by decide +kernel
theorem dX2_decode_187 : decode cX2_decode 187 = .ok (.iconst 2, 1) := by decide +kernel
theorem dX2_decode_188 : decode cX2_decode 188 = .ok (.aload_n 0, 1) := by decide +kernel
theorem dX2_decode_189 : decode cX2_decode 189 = .ok (.getfield 9, 3) := by decide +kernel
theorem dX2_decode_192 : decode cX2_decode 192 = .ok (.imul, 1) := by decide +kernel
theorem dX2_decode_193 : decode cX2_decode 193 = .ok (.if_icmp .le 7, 3) := by decide +kernel
theorem dX2_decode_196 : decode cX2_decode 196 = .ok (.iload_n 3, 1) := by decide +kernel
theorem dX2_decode_197 : decode cX2_decode 197 = .ok (.goto 10, 3) := by decide +kernel
theorem dX2_decode_200 : decode cX2_decode 200 = .ok (.aload_n 1, 1) := by decide +kernel
theorem dX2_decode_201 : decode cX2_decode 201 = .ok (.getfield 31, 3) := by decide +kernel
theorem dX2_decode_204 : decode cX2_decode 204 = .ok (.invokestatic 42, 3) := by decide +kernel
theorem dX2_decode_207 : decode cX2_decode 207 = .ok (.ireturn, 1) := by decide +kernel
set_option maxRecDepth 20000 in
theorem ggX3_init_X3_startWithFlip : GoodIn wsX3_init wsX3_startWithFlip := goodIn_r _ [12, 13, 14, 5, 15, 16, 17, 18, 19, 20, 21, 11, 22, 23, 7, 24, 25, 6, 26, 27, 28, 29, 30, 31, 32, 33, 34, 35, 36, 37, 38, 39, 40, 41, 42, 43, 44, 45, 46, 47, 48, 49, 50, 51, 52, 53, 54, 55, 56] rfl (by decide +kernel)
set_option maxRecDepth 20000 in
theorem gX3_init_X3_startWithFlip : GoodIn wsX3_init (wsV RX3 22 RX3 yX3_startWithFlip wsX3_startWithFlip) := goodIn_app (goodIn_of _ (by decide +kernel)) ggX3_init_X3_startWithFlip
theorem dX3_init_0 : decode cX3_init 0 = .ok (.aload_n 0, 1) := by decide +kernel
theorem dX3_init_1 : decode cX3_init 1 = .ok (.invokespecial 3, 3) := by decide +kernel
theorem dX3_init_4 : decode cX3_init 4 = .ok (.aload_n 0, 1) := by decide +kernel
theorem dX3_init_5 : decode cX3_init 5 = .ok (.bipush 16, 2) := by decide +kernel
theorem dX3_init_7 : decode cX3_init 7 = .ok (.newarray .int, 2) := by decide +kernel
theorem dX3_init_9 : decode cX3_init 9 = .ok (.putfield 9, 3) := by decide +kernel
theorem dX3_init_12 : decode cX3_init 12 = .ok (.aload_n 0, 1) := by decide +kernel
theorem dX3_init_13 : decode cX3_init 13 = .ok (.iconst 4, 1) := by decide +kernel
theorem dX3_init_14 : decode cX3_init 14 = .ok (.newarray .int, 2) := by decide +kernel
theorem dX3_init_16 : decode cX3_init 16 = .ok (.putfield 15, 3) := by decide +kernel
theorem dX3_init_19 : decode cX3_init 19 = .ok (.aload_n 0, 1) := by decide +kernel
theorem dX3_init_20 : decode cX3_init 20 = .ok (.iload_n 1, 1) := by decide +kernel
theorem dX3_init_21 : decode cX3_init 21 = .ok (.putfield 18, 3) := by decide +kernel
theorem dX3_init_24 : decode cX3_init 24 = .ok (.aload_n 0, 1) := by decide +kernel
theorem dX3_init_25 : decode cX3_init 25 = .ok (.iconst (-1), 1) := by decide +kernel
theorem dX3_init_26 : decode cX3_init 26 = .ok (.invokevirtual 22, 3) := by decide +kernel
theorem dX3_init_29 : decode cX3_init 29 = .ok (.return_, 1) := by decide +kernel
set_option maxRecDepth 20000 in
theorem ggX3_startWithFlip_J7_fill_53178 : GoodIn wsX3_startWithFlip wsJ7_fill_53178 := goodIn_r _ [7] rfl (by decide +kernel)
set_option maxRecDepth 20000 in
theorem gX3_startWithFlip_J7_fill_53178 : GoodIn wsX3_startWithFlip (va_wsS RX3 32 yJ7_fill_53178 wsJ7_fill_53178) := goodIn_app (goodIn_of _ (by decide +kernel)) ggX3_startWithFlip_J7_fill_53178
set_option maxRecDepth 20000 in
theorem ggX3_startWithFlip_X3_compareAll : GoodIn wsX3_startWithFlip wsX3_compareAll := goodIn_r _ [12, 13, 14, 3, 15, 16, 17, 18, 19, 20, 21, 22, 23, 11, 24, 1, 25, 26, 27, 28, 29, 30, 31, 32, 33, 34, 35, 36, 37, 38, 39, 40, 41, 42, 43, 44, 45, 46, 47, 48] rfl (by decide +kernel)
set_option maxRecDepth 20000 in
theorem gX3_startWithFlip_X3_compareAll : GoodIn wsX3_startWithFlip (wsV RX3 38 RX3 yX3_compareAll wsX3_compareAll) := goodIn_app (goodIn_of _ (by decide +kernel)) ggX3_startWithFlip_X3_compareAll
theorem dX3_startWithFlip_0 : decode cX3_startWithFlip 0 = .ok (.aload_n 0, 1) := by decide +kernel
theorem dX3_startWithFlip_1 : decode cX3_startWithFlip 1 = .ok (.iload_n 1, 1) := by decide +kernel
theorem dX3_startWithFlip_2 : decode cX3_startWithFlip 2 = .ok (.putfield 26, 3) := by decide +kernel
theorem dX3_startWithFlip_5 : decode cX3_startWithFlip 5 = .ok (.aload_n 0, 1) := by decide +kernel
theorem dX3_startWithFlip_6 : decode cX3_startWithFlip 6 = .ok (.iconst 0, 1) := by decide +kernel
theorem dX3_startWithFlip_7 : decode cX3_startWithFlip 7 = .ok (.putfield 29, 3) := by decide +kernel
theorem dX3_startWithFlip_10 : decode cX3_startWithFlip 10 = .ok (.aload_n 0, 1) := by decide +kernel
theorem dX3_startWithFlip_11 : decode cX3_startWithFlip 11 = .ok (.getfield 9, 3) := by decide +kernel
theorem dX3_startWithFlip_14 : decode cX3_startWithFlip 14 = .ok (.iconst (-1), 1) := by decide +kernel
theorem dX3_startWithFlip_15 : decode cX3_startWithFlip 15 = .ok (.invokestatic 32, 3) := by decide +kernel
theorem dX3_startWithFlip_18 : decode cX3_startWithFlip 18 = .ok (.aload_n 0, 1) := by decide +kernel
theorem dX3_startWithFlip_19 : decode cX3_startWithFlip 19 = .ok (.invokevirtual 38, 3) := by decide +kernel
theorem dX3_startWithFlip_22 : decode cX3_startWithFlip 22 = .ok (.return_, 1) := by decide +kernel
theorem dX3_flipMask_0 : decode cX3_flipMask 0 = .ok (.aload_n 0, 1) := by decide +kernel
theorem dX3_flipMask_1 : decode cX3_flipMask 1 = .ok (.getfield 26, 3) := by decide +kernel
theorem dX3_flipMask_4 : decode cX3_flipMask 4 = .ok (.iconst (-1), 1) := by decide +kernel
theorem dX3_flipMask_5 : decode cX3_flipMask 5 = .ok (.if_icmp .ne 7, 3) := by decide +kernel
theorem dX3_flipMask_8 : decode cX3_flipMask 8 = .ok (.iconst 0, 1) := by decide +kernel
theorem dX3_flipMask_9 : decode cX3_flipMask 9 = .ok (.goto 9, 3) := by decide +kernel
theorem dX3_flipMask_12 : decode cX3_flipMask 12 = .ok (.iconst 1, 1) := by decide +kernel
theorem dX3_flipMask_13 : decode cX3_flipMask 13 = .ok (.aload_n 0, 1) := by decide +kernel
theorem dX3_flipMask_14 : decode cX3_flipMask 14 = .ok (.getfield 26, 3) := by decide +kernel
theorem dX3_flipMask_17 : decode cX3_flipMask 17 = .ok (.ishl, 1) := by decide +kernel
theorem dX3_flipMask_18 : decode cX3_flipMask 18 = .ok (.ireturn, 1) := by decide +kernel
set_option maxRecDepth 20000 in
theorem ggX3_hasKey_X8_within : GoodIn wsX3_hasKey wsX8_within := goodIn_r _ [3] rfl (by decide +kernel)
set_option maxRecDepth 20000 in
theorem gX3_hasKey_X8_within_n41 : GoodIn wsX3_hasKey (wsX8_within) := ggX3_hasKey_X8_within
theorem dX3_hasKey_0 : decode cX3_hasKey 0 = .ok (.iload_n 1, 1) := by decide +kernel
theorem dX3_hasKey_1 : decode cX3_hasKey 1 = .ok (.iconst 0, 1) := by decide +kernel
theorem dX3_hasKey_2 : decode cX3_hasKey 2 = .ok (.bipush 15, 2) := by decide +kernel
theorem dX3_hasKey_4 : decode cX3_hasKey 4 = .ok (.invokestatic 41, 3) := by decide +kernel
theorem dX3_hasKey_7 : decode cX3_hasKey 7 = .ok (.ireturn, 1) := by decide +kernel
set_option maxRecDepth 20000 in
theorem ggX3_codeOf_X3_hasKey : GoodIn wsX3_codeOf wsX3_hasKey := goodIn_r _ [6, 7, 8, 9] rfl (by decide +kernel)
set_option maxRecDepth 20000 in
theorem gX3_codeOf_X3_hasKey : GoodIn wsX3_codeOf (wsV RX3 45 RX3 yX3_hasKey wsX3_hasKey) := goodIn_app (goodIn_of _ (by decide +kernel)) ggX3_codeOf_X3_hasKey
theorem dX3_codeOf_0 : decode cX3_codeOf 0 = .ok (.aload_n 0, 1) := by decide +kernel
theorem dX3_codeOf_1 : decode cX3_codeOf 1 = .ok (.iload_n 1, 1) := by decide +kernel
theorem dX3_codeOf_2 : decode cX3_codeOf 2 = .ok (.invokevirtual 45, 3) := by decide +kernel
theorem dX3_codeOf_5 : decode cX3_codeOf 5 = .ok (.ifCond .eq 12, 3) := by decide +kernel
theorem dX3_codeOf_8 : decode cX3_codeOf 8 = .ok (.aload_n 0, 1) := by decide +kernel
theorem dX3_codeOf_9 : decode cX3_codeOf 9 = .ok (.getfield 9, 3) := by decide +kernel
theorem dX3_codeOf_12 : decode cX3_codeOf 12 = .ok (.iload_n 1, 1) := by decide +kernel
theorem dX3_codeOf_13 : decode cX3_codeOf 13 = .ok (.iaload, 1) := by decide +kernel
theorem dX3_codeOf_14 : decode cX3_codeOf 14 = .ok (.goto 4, 3) := by decide +kernel
theorem dX3_codeOf_17 : decode cX3_codeOf 17 = .ok (.iconst (-1), 1) := by decide +kernel
theorem dX3_codeOf_18 : decode cX3_codeOf 18 = .ok (.ireturn, 1) := by decide +kernel
set_option maxRecDepth 20000 in
theorem ggX3_take_X3_flipMask : GoodIn wsX3_take wsX3_flipMask := goodIn_r _ [6, 7, 42, 43, 44, 45, 46, 47, 48, 49] rfl (by decide +kernel)
set_option maxRecDepth 20000 in
theorem gX3_take_X3_flipMask : GoodIn wsX3_take (wsV RX3 49 RX3 yX3_flipMask wsX3_flipMask) := goodIn_app (goodIn_of _ (by decide +kernel)) ggX3_take_X3_flipMask
set_option maxRecDepth 20000 in
theorem ggX3_take_X3_hasKey : GoodIn wsX3_take wsX3_hasKey := goodIn_r _ [11, 12, 13, 14] rfl (by decide +kernel)
set_option maxRecDepth 20000 in
theorem gX3_take_X3_hasKey : GoodIn wsX3_take (wsV RX3 45 RX3 yX3_hasKey wsX3_hasKey) := goodIn_app (goodIn_of _ (by decide +kernel)) ggX3_take_X3_hasKey
set_option maxRecDepth 20000 in
theorem ggX3_take_X3_compareAll : GoodIn wsX3_take wsX3_compareAll := goodIn_r _ [18, 19, 20, 1, 21, 22, 23, 24, 13, 25, 2, 3, 4, 5, 6, 7, 26, 27, 28, 29, 30, 31, 32, 33, 34, 35, 36, 37, 38, 39, 40, 41, 42, 43, 44, 45, 46, 47, 48, 49] rfl (by decide +kernel)
set_option maxRecDepth 20000 in
theorem gX3_take_X3_compareAll : GoodIn wsX3_take (wsV RX3 38 RX3 yX3_compareAll wsX3_compareAll) := goodIn_app (goodIn_of _ (by decide +kernel)) ggX3_take_X3_compareAll
theorem dX3_take_0 : decode cX3_take 0 = .ok (.iload_n 2, 1) := by decide +kernel
theorem dX3_take_1 : decode cX3_take 1 = .ok (.aload_n 0, 1) := by decide +kernel
theorem dX3_take_2 : decode cX3_take 2 = .ok (.invokevirtual 49, 3) := by decide +kernel
theorem dX3_take_5 : decode cX3_take 5 = .ok (.iconst (-1), 1) := by decide +kernel
theorem dX3_take_6 : decode cX3_take 6 = .ok (.ixor, 1) := by decide +kernel
theorem dX3_take_7 : decode cX3_take 7 = .ok (.iand, 1) := by decide +kernel
theorem dX3_take_8 : decode cX3_take 8 = .ok (.istore_n 3, 1) := by decide +kernel
theorem dX3_take_9 : decode cX3_take 9 = .ok (.aload_n 0, 1) := by decide +kernel
theorem dX3_take_10 : decode cX3_take 10 = .ok (.iload_n 1, 1) := by decide +kernel
theorem dX3_take_11 : decode cX3_take 11 = .ok (.invokevirtual 45, 3) := by decide +kernel
theorem dX3_take_14 : decode cX3_take 14 = .ok (.ifCond .eq 23, 3) := by decide +kernel
theorem dX3_take_17 : decode cX3_take 17 = .ok (.aload_n 0, 1) := by decide +kernel
theorem dX3_take_18 : decode cX3_take 18 = .ok (.getfield 9, 3) := by decide +kernel
theorem dX3_take_21 : decode cX3_take 21 = .ok (.iload_n 1, 1) := by decide +kernel
theorem dX3_take_22 : decode cX3_take 22 = .ok (.iaload, 1) := by decide +kernel
theorem dX3_take_23 : decode cX3_take 23 = .ok (.iconst (-1), 1) := by decide +kernel
theorem dX3_take_24 : decode cX3_take 24 = .ok (.if_icmp .eq 15, 3) := by decide +kernel
theorem dX3_take_27 : decode cX3_take 27 = .ok (.aload_n 0, 1) := by decide +kernel
theorem dX3_take_28 : decode cX3_take 28 = .ok (.getfield 9, 3) := by decide +kernel
theorem dX3_take_31 : decode cX3_take 31 = .ok (.iload_n 1, 1) := by decide +kernel
theorem dX3_take_32 : decode cX3_take 32 = .ok (.iaload, 1) := by decide +kernel
theorem dX3_take_33 : decode cX3_take 33 = .ok (.iload_n 3, 1) := by decide +kernel
theorem dX3_take_34 : decode cX3_take 34 = .ok (.if_icmp .eq 5, 3) := by decide +kernel
theorem dX3_take_37 : decode cX3_take 37 = .ok (.iconst (-1), 1) := by decide +kernel
theorem dX3_take_38 : decode cX3_take 38 = .ok (.ireturn, 1) := by decide +kernel
theorem dX3_take_39 : decode cX3_take 39 = .ok (.aload_n 0, 1) := by decide +kernel
theorem dX3_take_40 : decode cX3_take 40 = .ok (.getfield 9, 3) := by decide +kernel
theorem dX3_take_43 : decode cX3_take 43 = .ok (.iload_n 1, 1) := by decide +kernel
theorem dX3_take_44 : decode cX3_take 44 = .ok (.iload_n 3, 1) := by decide +kernel
theorem dX3_take_45 : decode cX3_take 45 = .ok (.iastore, 1) := by decide +kernel
theorem dX3_take_46 : decode cX3_take 46 = .ok (.aload_n 0, 1) := by decide +kernel
theorem dX3_take_47 : decode cX3_take 47 = .ok (.invokevirtual 38, 3) := by decide +kernel
theorem dX3_take_50 : decode cX3_take 50 = .ok (.iload_n 3, 1) := by decide +kernel
theorem dX3_take_51 : decode cX3_take 51 = .ok (.ireturn, 1) := by decide +kernel
set_option maxRecDepth 20000 in
theorem ggX3_drop_X3_codeOf : GoodIn wsX3_drop wsX3_codeOf := goodIn_r _ [6, 1, 7, 8, 9, 5, 10, 11, 12, 13, 46, 47, 48, 49, 50, 51, 52, 53] rfl (by decide +kernel)
set_option maxRecDepth 20000 in
theorem gX3_drop_X3_codeOf : GoodIn wsX3_drop (wsV RX3 53 RX3 yX3_codeOf wsX3_codeOf) := goodIn_app (goodIn_of _ (by decide +kernel)) ggX3_drop_X3_codeOf
set_option maxRecDepth 20000 in
theorem ggX3_drop_X3_compareAll : GoodIn wsX3_drop wsX3_compareAll := goodIn_r _ [17, 18, 19, 1, 20, 21, 22, 23, 12, 24, 25, 26, 27, 5, 28, 29, 30, 31, 32, 33, 34, 35, 36, 37, 38, 39, 40, 41, 42, 43, 44, 45, 46, 47, 48, 49, 50, 51, 52, 53] rfl (by decide +kernel)
set_option maxRecDepth 20000 in
theorem gX3_drop_X3_compareAll : GoodIn wsX3_drop (wsV RX3 38 RX3 yX3_compareAll wsX3_compareAll) := goodIn_app (goodIn_of _ (by decide +kernel)) ggX3_drop_X3_compareAll
theorem dX3_drop_0 : decode cX3_drop 0 = .ok (.aload_n 0, 1) := by decide +kernel
theorem dX3_drop_1 : decode cX3_drop 1 = .ok (.iload_n 1, 1) := by decide +kernel
theorem dX3_drop_2 : decode cX3_drop 2 = .ok (.invokevirtual 53, 3) := by decide +kernel
theorem dX3_drop_5 : decode cX3_drop 5 = .ok (.iconst (-1), 1) := by decide +kernel
theorem dX3_drop_6 : decode cX3_drop 6 = .ok (.if_icmp .ne 5, 3) := by decide +kernel
theorem dX3_drop_9 : decode cX3_drop 9 = .ok (.iconst 0, 1) := by decide +kernel
theorem dX3_drop_10 : decode cX3_drop 10 = .ok (.ireturn, 1) := by decide +kernel
theorem dX3_drop_11 : decode cX3_drop 11 = .ok (.aload_n 0, 1) := by decide +kernel
theorem dX3_drop_12 : decode cX3_drop 12 = .ok (.getfield 9, 3) := by decide +kernel
theorem dX3_drop_15 : decode cX3_drop 15 = .ok (.iload_n 1, 1) := by decide +kernel
theorem dX3_drop_16 : decode cX3_drop 16 = .ok (.iconst (-1), 1) := by decide +kernel
theorem dX3_drop_17 : decode cX3_drop 17 = .ok (.iastore, 1) := by decide +kernel
theorem dX3_drop_18 : decode cX3_drop 18 = .ok (.aload_n 0, 1) := by decide +kernel
theorem dX3_drop_19 : decode cX3_drop 19 = .ok (.invokevirtual 38, 3) := by decide +kernel
theorem dX3_drop_22 : decode cX3_drop 22 = .ok (.iconst 1, 1) := by decide +kernel
theorem dX3_drop_23 : decode cX3_drop 23 = .ok (.ireturn, 1) := by decide +kernel
set_option maxRecDepth 20000 in
theorem ggX3_codeToSend_X3_codeOf : GoodIn wsX3_codeToSend wsX3_codeOf := goodIn_r _ [7, 8, 9, 10, 11, 6, 12, 13, 14, 15, 20, 21, 22, 23, 24, 25, 26, 27] rfl (by decide +kernel)
set_option maxRecDepth 20000 in
theorem gX3_codeToSend_X3_codeOf : GoodIn wsX3_codeToSend (wsV RX3 53 RX3 yX3_codeOf wsX3_codeOf) := goodIn_app (goodIn_of _ (by decide +kernel)) ggX3_codeToSend_X3_codeOf
set_option maxRecDepth 20000 in
theorem ggX3_codeToSend_X3_flipMask : GoodIn wsX3_codeToSend wsX3_flipMask := goodIn_r _ [19, 2, 20, 21, 22, 23, 24, 25, 26, 27] rfl (by decide +kernel)
set_option maxRecDepth 20000 in
theorem gX3_codeToSend_X3_flipMask : GoodIn wsX3_codeToSend (wsV RX3 49 RX3 yX3_flipMask wsX3_flipMask) := goodIn_app (goodIn_of _ (by decide +kernel)) ggX3_codeToSend_X3_flipMask
theorem dX3_codeToSend_0 : decode cX3_codeToSend 0 = .ok (.aload_n 0, 1) := by decide +kernel
theorem dX3_codeToSend_1 : decode cX3_codeToSend 1 = .ok (.getfield 29, 3) := by decide +kernel
theorem dX3_codeToSend_4 : decode cX3_codeToSend 4 = .ok (.ifCond .ne 11, 3) := by decide +kernel
theorem dX3_codeToSend_7 : decode cX3_codeToSend 7 = .ok (.aload_n 0, 1) := by decide +kernel
theorem dX3_codeToSend_8 : decode cX3_codeToSend 8 = .ok (.iload_n 1, 1) := by decide +kernel
theorem dX3_codeToSend_9 : decode cX3_codeToSend 9 = .ok (.invokevirtual 53, 3) := by decide +kernel
theorem dX3_codeToSend_12 : decode cX3_codeToSend 12 = .ok (.goto 13, 3) := by decide +kernel
theorem dX3_codeToSend_15 : decode cX3_codeToSend 15 = .ok (.aload_n 0, 1) := by decide +kernel
theorem dX3_codeToSend_16 : decode cX3_codeToSend 16 = .ok (.iload_n 1, 1) := by decide +kernel
theorem dX3_codeToSend_17 : decode cX3_codeToSend 17 = .ok (.invokevirtual 53, 3) := by decide +kernel
theorem dX3_codeToSend_20 : decode cX3_codeToSend 20 = .ok (.aload_n 0, 1) := by decide +kernel
theorem dX3_codeToSend_21 : decode cX3_codeToSend 21 = .ok (.invokevirtual 49, 3) := by decide +kernel
theorem dX3_codeToSend_24 : decode cX3_codeToSend 24 = .ok (.ior, 1) := by decide +kernel
theorem dX3_codeToSend_25 : decode cX3_codeToSend 25 = .ok (.istore_n 2, 1) := by decide +kernel
theorem dX3_codeToSend_26 : decode cX3_codeToSend 26 = .ok (.aload_n 0, 1) := by decide +kernel
theorem dX3_codeToSend_27 : decode cX3_codeToSend 27 = .ok (.getfield 26, 3) := by decide +kernel
theorem dX3_codeToSend_30 : decode cX3_codeToSend 30 = .ok (.iconst (-1), 1) := by decide +kernel
theorem dX3_codeToSend_31 : decode cX3_codeToSend 31 = .ok (.if_icmp .eq 13, 3) := by decide +kernel
theorem dX3_codeToSend_34 : decode cX3_codeToSend 34 = .ok (.aload_n 0, 1) := by decide +kernel
theorem dX3_codeToSend_35 : decode cX3_codeToSend 35 = .ok (.iconst 1, 1) := by decide +kernel
theorem dX3_codeToSend_36 : decode cX3_codeToSend 36 = .ok (.aload_n 0, 1) := by decide +kernel
theorem dX3_codeToSend_37 : decode cX3_codeToSend 37 = .ok (.getfield 29, 3) := by decide +kernel
theorem dX3_codeToSend_40 : decode cX3_codeToSend 40 = .ok (.isub, 1) := by decide +kernel
theorem dX3_codeToSend_41 : decode cX3_codeToSend 41 = .ok (.putfield 29, 3) := by decide +kernel
theorem dX3_codeToSend_44 : decode cX3_codeToSend 44 = .ok (.iload_n 2, 1) := by decide +kernel
theorem dX3_codeToSend_45 : decode cX3_codeToSend 45 = .ok (.ireturn, 1) := by decide +kernel
set_option maxRecDepth 20000 in
theorem ggX3_compareAll_X8_lowBits : GoodIn wsX3_compareAll wsX8_lowBits := goodIn_r _ [9] rfl (by decide +kernel)
set_option maxRecDepth 20000 in
theorem gX3_compareAll_X8_lowBits_n60 : GoodIn wsX3_compareAll (wsX8_lowBits) := ggX3_compareAll_X8_lowBits
set_option maxRecDepth 20000 in
theorem ggX3_compareAll_X3_flipMask : GoodIn wsX3_compareAll wsX3_flipMask := goodIn_r _ [14, 15, 32, 33, 34, 35, 36, 37, 38, 39] rfl (by decide +kernel)
set_option maxRecDepth 20000 in
theorem gX3_compareAll_X3_flipMask : GoodIn wsX3_compareAll (wsV RX3 49 RX3 yX3_flipMask wsX3_flipMask) := goodIn_app (goodIn_of _ (by decide +kernel)) ggX3_compareAll_X3_flipMask
set_option maxRecDepth 20000 in
theorem ggX3_compareAll_X3_isCheck : GoodIn wsX3_compareAll wsX3_isCheck := goodIn_r _ [19, 2, 15, 32, 33, 34, 35, 36, 37, 38, 39] rfl (by decide +kernel)
set_option maxRecDepth 20000 in
theorem gX3_compareAll_X3_isCheck : GoodIn wsX3_compareAll (wsV RX3 69 RX3 yX3_isCheck wsX3_isCheck) := goodIn_app (goodIn_of _ (by decide +kernel)) ggX3_compareAll_X3_isCheck
set_option maxRecDepth 20000 in
theorem ggX3_compareAll_X3_commonConstant : GoodIn wsX3_compareAll wsX3_commonConstant := goodIn_r _ [23, 3, 24, 25, 26, 13, 27, 28, 29, 30, 31, 2, 7, 8, 9, 32, 33, 34, 35, 36, 37, 38, 39] rfl (by decide +kernel)
set_option maxRecDepth 20000 in
theorem gX3_compareAll_X3_commonConstant : GoodIn wsX3_compareAll (wsV RX3 72 RX3 yX3_commonConstant wsX3_commonConstant) := goodIn_app (goodIn_of _ (by decide +kernel)) ggX3_compareAll_X3_commonConstant
theorem dX3_compareAll_0 : decode cX3_compareAll 0 = .ok (.aload_n 0, 1) := by decide +kernel
theorem dX3_compareAll_1 : decode cX3_compareAll 1 = .ok (.iconst 0, 1) := by decide +kernel
theorem dX3_compareAll_2 : decode cX3_compareAll 2 = .ok (.putfield 57, 3) := by decide +kernel
theorem dX3_compareAll_5 : decode cX3_compareAll 5 = .ok (.aload_n 0, 1) := by decide +kernel
theorem dX3_compareAll_6 : decode cX3_compareAll 6 = .ok (.getfield 18, 3) := by decide +kernel
theorem dX3_compareAll_9 : decode cX3_compareAll 9 = .ok (.invokestatic 60, 3) := by decide +kernel
theorem dX3_compareAll_12 : decode cX3_compareAll 12 = .ok (.istore_n 1, 1) := by decide +kernel
theorem dX3_compareAll_13 : decode cX3_compareAll 13 = .ok (.iconst 0, 1) := by decide +kernel
theorem dX3_compareAll_14 : decode cX3_compareAll 14 = .ok (.istore_n 2, 1) := by decide +kernel
theorem dX3_compareAll_15 : decode cX3_compareAll 15 = .ok (.iconst 0, 1) := by decide +kernel
theorem dX3_compareAll_16 : decode cX3_compareAll 16 = .ok (.istore_n 3, 1) := by decide +kernel
theorem dX3_compareAll_17 : decode cX3_compareAll 17 = .ok (.iload_n 3, 1) := by decide +kernel
theorem dX3_compareAll_18 : decode cX3_compareAll 18 = .ok (.bipush 16, 2) := by decide +kernel
theorem dX3_compareAll_20 : decode cX3_compareAll 20 = .ok (.if_icmp .ge 47, 3) := by decide +kernel
theorem dX3_compareAll_23 : decode cX3_compareAll 23 = .ok (.aload_n 0, 1) := by decide +kernel
theorem dX3_compareAll_24 : decode cX3_compareAll 24 = .ok (.getfield 9, 3) := by decide +kernel
theorem dX3_compareAll_27 : decode cX3_compareAll 27 = .ok (.iload_n 3, 1) := by decide +kernel
theorem dX3_compareAll_28 : decode cX3_compareAll 28 = .ok (.iaload, 1) := by decide +kernel
theorem dX3_compareAll_29 : decode cX3_compareAll 29 = .ok (.iconst (-1), 1) := by decide +kernel
theorem dX3_compareAll_30 : decode cX3_compareAll 30 = .ok (.if_icmp .eq 31, 3) := by decide +kernel
theorem dX3_compareAll_33 : decode cX3_compareAll 33 = .ok (.aload_n 0, 1) := by decide +kernel
theorem dX3_compareAll_34 : decode cX3_compareAll 34 = .ok (.dup, 1) := by decide +kernel
theorem dX3_compareAll_35 : decode cX3_compareAll 35 = .ok (.getfield 57, 3) := by decide +kernel
theorem dX3_compareAll_38 : decode cX3_compareAll 38 = .ok (.iconst 1, 1) := by decide +kernel
theorem dX3_compareAll_39 : decode cX3_compareAll 39 = .ok (.iadd, 1) := by decide +kernel
theorem dX3_compareAll_40 : decode cX3_compareAll 40 = .ok (.putfield 57, 3) := by decide +kernel
theorem dX3_compareAll_43 : decode cX3_compareAll 43 = .ok (.iload_n 1, 1) := by decide +kernel
theorem dX3_compareAll_44 : decode cX3_compareAll 44 = .ok (.aload_n 0, 1) := by decide +kernel
theorem dX3_compareAll_45 : decode cX3_compareAll 45 = .ok (.getfield 9, 3) := by decide +kernel
theorem dX3_compareAll_48 : decode cX3_compareAll 48 = .ok (.iload_n 3, 1) := by decide +kernel
theorem dX3_compareAll_49 : decode cX3_compareAll 49 = .ok (.iaload, 1) := by decide +kernel
theorem dX3_compareAll_50 : decode cX3_compareAll 50 = .ok (.iand, 1) := by decide +kernel
theorem dX3_compareAll_51 : decode cX3_compareAll 51 = .ok (.istore_n 1, 1) := by decide +kernel
theorem dX3_compareAll_52 : decode cX3_compareAll 52 = .ok (.iload_n 2, 1) := by decide +kernel
theorem dX3_compareAll_53 : decode cX3_compareAll 53 = .ok (.aload_n 0, 1) := by decide +kernel
theorem dX3_compareAll_54 : decode cX3_compareAll 54 = .ok (.getfield 9, 3) := by decide +kernel
theorem dX3_compareAll_57 : decode cX3_compareAll 57 = .ok (.iload_n 3, 1) := by decide +kernel
theorem dX3_compareAll_58 : decode cX3_compareAll 58 = .ok (.iaload, 1) := by decide +kernel
theorem dX3_compareAll_59 : decode cX3_compareAll 59 = .ok (.ior, 1) := by decide +kernel
theorem dX3_compareAll_60 : decode cX3_compareAll 60 = .ok (.istore_n 2, 1) := by decide +kernel
theorem dX3_compareAll_61 : decode cX3_compareAll 61 = .ok (.iinc 3 1, 3) := by decide +kernel
theorem dX3_compareAll_64 : decode cX3_compareAll 64 = .ok (.goto (-47), 3) := by decide +kernel
theorem dX3_compareAll_67 : decode cX3_compareAll 67 = .ok (.aload_n 0, 1) := by decide +kernel
theorem dX3_compareAll_68 : decode cX3_compareAll 68 = .ok (.aload_n 0, 1) := by decide +kernel
theorem dX3_compareAll_69 : decode cX3_compareAll 69 = .ok (.getfield 57, 3) := by decide +kernel
theorem dX3_compareAll_72 : decode cX3_compareAll 72 = .ok (.ifCond .ne 7, 3) := by decide +kernel
theorem dX3_compareAll_75 : decode cX3_compareAll 75 = .ok (.iconst 0, 1) := by decide +kernel
theorem dX3_compareAll_76 : decode cX3_compareAll 76 = .ok (.goto 25, 3) := by decide +kernel
theorem dX3_compareAll_79 : decode cX3_compareAll 79 = .ok (.aload_n 0, 1) := by decide +kernel
theorem dX3_compareAll_80 : decode cX3_compareAll 80 = .ok (.getfield 18, 3) := by decide +kernel
theorem dX3_compareAll_83 : decode cX3_compareAll 83 = .ok (.invokestatic 60, 3) := by decide +kernel
theorem dX3_compareAll_86 : decode cX3_compareAll 86 = .ok (.iload_n 2, 1) := by decide +kernel
theorem dX3_compareAll_87 : decode cX3_compareAll 87 = .ok (.iload_n 1, 1) := by decide +kernel
theorem dX3_compareAll_88 : decode cX3_compareAll 88 = .ok (.iconst (-1), 1) := by decide +kernel
theorem dX3_compareAll_89 : decode cX3_compareAll 89 = .ok (.ixor, 1) := by decide +kernel
theorem dX3_compareAll_90 : decode cX3_compareAll 90 = .ok (.iand, 1) := by decide +kernel
theorem dX3_compareAll_91 : decode cX3_compareAll 91 = .ok (.iconst (-1), 1) := by decide +kernel
theorem dX3_compareAll_92 : decode cX3_compareAll 92 = .ok (.ixor, 1) := by decide +kernel
theorem dX3_compareAll_93 : decode cX3_compareAll 93 = .ok (.iand, 1) := by decide +kernel
theorem dX3_compareAll_94 : decode cX3_compareAll 94 = .ok (.aload_n 0, 1) := by decide +kernel
theorem dX3_compareAll_95 : decode cX3_compareAll 95 = .ok (.invokevirtual 49, 3) := by decide +kernel
theorem dX3_compareAll_98 : decode cX3_compareAll 98 = .ok (.iconst (-1), 1) := by decide +kernel
theorem dX3_compareAll_99 : decode cX3_compareAll 99 = .ok (.ixor, 1) := by decide +kernel
theorem dX3_compareAll_100 : decode cX3_compareAll 100 = .ok (.iand, 1) := by decide +kernel
theorem dX3_compareAll_101 : decode cX3_compareAll 101 = .ok (.putfield 63, 3) := by decide +kernel
theorem dX3_compareAll_104 : decode cX3_compareAll 104 = .ok (.aload_n 0, 1) := by decide +kernel
theorem dX3_compareAll_105 : decode cX3_compareAll 105 = .ok (.iload_n 1, 1) := by decide +kernel
theorem dX3_compareAll_106 : decode cX3_compareAll 106 = .ok (.aload_n 0, 1) := by decide +kernel
theorem dX3_compareAll_107 : decode cX3_compareAll 107 = .ok (.getfield 63, 3) := by decide +kernel
theorem dX3_compareAll_110 : decode cX3_compareAll 110 = .ok (.iand, 1) := by decide +kernel
theorem dX3_compareAll_111 : decode cX3_compareAll 111 = .ok (.putfield 66, 3) := by decide +kernel
theorem dX3_compareAll_114 : decode cX3_compareAll 114 = .ok (.iconst 1, 1) := by decide +kernel
theorem dX3_compareAll_115 : decode cX3_compareAll 115 = .ok (.istore_n 3, 1) := by decide +kernel
theorem dX3_compareAll_116 : decode cX3_compareAll 116 = .ok (.iload_n 3, 1) := by decide +kernel
theorem dX3_compareAll_117 : decode cX3_compareAll 117 = .ok (.iconst 3, 1) := by decide +kernel
theorem dX3_compareAll_118 : decode cX3_compareAll 118 = .ok (.if_icmp .gt 40, 3) := by decide +kernel
theorem dX3_compareAll_121 : decode cX3_compareAll 121 = .ok (.aload_n 0, 1) := by decide +kernel
theorem dX3_compareAll_122 : decode cX3_compareAll 122 = .ok (.getfield 15, 3) := by decide +kernel
theorem dX3_compareAll_125 : decode cX3_compareAll 125 = .ok (.iload_n 3, 1) := by decide +kernel
theorem dX3_compareAll_126 : decode cX3_compareAll 126 = .ok (.aload_n 0, 1) := by decide +kernel
theorem dX3_compareAll_127 : decode cX3_compareAll 127 = .ok (.iload_n 3, 1) := by decide +kernel
theorem dX3_compareAll_128 : decode cX3_compareAll 128 = .ok (.invokevirtual 69, 3) := by decide +kernel
theorem dX3_compareAll_131 : decode cX3_compareAll 131 = .ok (.ifCond .eq 19, 3) := by decide +kernel
theorem dX3_compareAll_134 : decode cX3_compareAll 134 = .ok (.aload_n 0, 1) := by decide +kernel
theorem dX3_compareAll_135 : decode cX3_compareAll 135 = .ok (.getfield 57, 3) := by decide +kernel
theorem dX3_compareAll_138 : decode cX3_compareAll 138 = .ok (.iconst 2, 1) := by decide +kernel
theorem dX3_compareAll_139 : decode cX3_compareAll 139 = .ok (.if_icmp .lt 11, 3) := by decide +kernel
theorem dX3_compareAll_142 : decode cX3_compareAll 142 = .ok (.aload_n 0, 1) := by decide +kernel
theorem dX3_compareAll_143 : decode cX3_compareAll 143 = .ok (.iload_n 3, 1) := by decide +kernel
theorem dX3_compareAll_144 : decode cX3_compareAll 144 = .ok (.invokevirtual 72, 3) := by decide +kernel
theorem dX3_compareAll_147 : decode cX3_compareAll 147 = .ok (.goto 4, 3) := by decide +kernel
theorem dX3_compareAll_150 : decode cX3_compareAll 150 = .ok (.iconst (-1), 1) := by decide +kernel
theorem dX3_compareAll_151 : decode cX3_compareAll 151 = .ok (.iastore, 1) := by decide +kernel
theorem dX3_compareAll_152 : decode cX3_compareAll 152 = .ok (.iinc 3 1, 3) := by decide +kernel
theorem dX3_compareAll_155 : decode cX3_compareAll 155 = .ok (.goto (-39), 3) := by decide +kernel
theorem dX3_compareAll_158 : decode cX3_compareAll 158 = .ok (.return_, 1) := by decide +kernel
theorem dX3_isCheck_0 : decode cX3_isCheck 0 = .ok (.aload_n 0, 1) := by decide +kernel
theorem dX3_isCheck_1 : decode cX3_isCheck 1 = .ok (.getfield 18, 3) := by decide +kernel
theorem dX3_isCheck_4 : decode cX3_isCheck 4 = .ok (.iconst 4, 1) := by decide +kernel
theorem dX3_isCheck_5 : decode cX3_isCheck 5 = .ok (.if_icmp .le 29, 3) := by decide +kernel
theorem dX3_isCheck_8 : decode cX3_isCheck 8 = .ok (.iload_n 1, 1) := by decide +kernel
theorem dX3_isCheck_9 : decode cX3_isCheck 9 = .ok (.iconst 3, 1) := by decide +kernel
theorem dX3_isCheck_10 : decode cX3_isCheck 10 = .ok (.if_icmp .ne 20, 3) := by decide +kernel
theorem dX3_isCheck_13 : decode cX3_isCheck 13 = .ok (.aload_n 0, 1) := by decide +kernel
theorem dX3_isCheck_14 : decode cX3_isCheck 14 = .ok (.getfield 18, 3) := by decide +kernel
theorem dX3_isCheck_17 : decode cX3_isCheck 17 = .ok (.iconst 2, 1) := by decide +kernel
theorem dX3_isCheck_18 : decode cX3_isCheck 18 = .ok (.irem, 1) := by decide +kernel
theorem dX3_isCheck_19 : decode cX3_isCheck 19 = .ok (.ifCond .ne 15, 3) := by decide +kernel
theorem dX3_isCheck_22 : decode cX3_isCheck 22 = .ok (.aload_n 0, 1) := by decide +kernel
theorem dX3_isCheck_23 : decode cX3_isCheck 23 = .ok (.getfield 26, 3) := by decide +kernel
theorem dX3_isCheck_26 : decode cX3_isCheck 26 = .ok (.iconst (-1), 1) := by decide +kernel
theorem dX3_isCheck_27 : decode cX3_isCheck 27 = .ok (.if_icmp .ne 7, 3) := by decide +kernel
theorem dX3_isCheck_30 : decode cX3_isCheck 30 = .ok (.iconst 1, 1) := by decide +kernel
theorem dX3_isCheck_31 : decode cX3_isCheck 31 = .ok (.goto 4, 3) := by decide +kernel
theorem dX3_isCheck_34 : decode cX3_isCheck 34 = .ok (.iconst 0, 1) := by decide +kernel
theorem dX3_isCheck_35 : decode cX3_isCheck 35 = .ok (.ireturn, 1) := by decide +kernel
set_option maxRecDepth 20000 in
theorem ggX3_commonConstant_X3_constantFor : GoodIn wsX3_commonConstant wsX3_constantFor := goodIn_r _ [6, 7, 8, 9, 5, 10, 11, 12, 13, 14, 15, 16, 17, 18, 19, 20, 21, 22] rfl (by decide +kernel)
set_option maxRecDepth 20000 in
theorem gX3_commonConstant_X3_constantFor : GoodIn wsX3_commonConstant (wsV RX3 75 RX3 yX3_constantFor wsX3_constantFor) := goodIn_app (goodIn_of _ (by decide +kernel)) ggX3_commonConstant_X3_constantFor
theorem dX3_commonConstant_0 : decode cX3_commonConstant 0 = .ok (.iconst (-1), 1) := by decide +kernel
theorem dX3_commonConstant_1 : decode cX3_commonConstant 1 = .ok (.istore_n 2, 1) := by decide +kernel
theorem dX3_commonConstant_2 : decode cX3_commonConstant 2 = .ok (.iconst 0, 1) := by decide +kernel
theorem dX3_commonConstant_3 : decode cX3_commonConstant 3 = .ok (.istore_n 3, 1) := by decide +kernel
theorem dX3_commonConstant_4 : decode cX3_commonConstant 4 = .ok (.iconst 0, 1) := by decide +kernel
theorem dX3_commonConstant_5 : decode cX3_commonConstant 5 = .ok (.istore 4, 2) := by decide +kernel
theorem dX3_commonConstant_7 : decode cX3_commonConstant 7 = .ok (.iload 4, 2) := by decide +kernel
theorem dX3_commonConstant_9 : decode cX3_commonConstant 9 = .ok (.bipush 16, 2) := by decide +kernel
theorem dX3_commonConstant_11 : decode cX3_commonConstant 11 = .ok (.if_icmp .ge 51, 3) := by decide +kernel
theorem dX3_commonConstant_14 : decode cX3_commonConstant 14 = .ok (.aload_n 0, 1) := by decide +kernel
theorem dX3_commonConstant_15 : decode cX3_commonConstant 15 = .ok (.getfield 9, 3) := by decide +kernel
theorem dX3_commonConstant_18 : decode cX3_commonConstant 18 = .ok (.iload 4, 2) := by decide +kernel
theorem dX3_commonConstant_20 : decode cX3_commonConstant 20 = .ok (.iaload, 1) := by decide +kernel
theorem dX3_commonConstant_21 : decode cX3_commonConstant 21 = .ok (.iconst (-1), 1) := by decide +kernel
theorem dX3_commonConstant_22 : decode cX3_commonConstant 22 = .ok (.if_icmp .eq 34, 3) := by decide +kernel
theorem dX3_commonConstant_25 : decode cX3_commonConstant 25 = .ok (.aload_n 0, 1) := by decide +kernel
theorem dX3_commonConstant_26 : decode cX3_commonConstant 26 = .ok (.iload_n 1, 1) := by decide +kernel
theorem dX3_commonConstant_27 : decode cX3_commonConstant 27 = .ok (.aload_n 0, 1) := by decide +kernel
theorem dX3_commonConstant_28 : decode cX3_commonConstant 28 = .ok (.getfield 9, 3) := by decide +kernel
theorem dX3_commonConstant_31 : decode cX3_commonConstant 31 = .ok (.iload 4, 2) := by decide +kernel
theorem dX3_commonConstant_33 : decode cX3_commonConstant 33 = .ok (.iaload, 1) := by decide +kernel
theorem dX3_commonConstant_34 : decode cX3_commonConstant 34 = .ok (.invokevirtual 75, 3) := by decide +kernel
theorem dX3_commonConstant_37 : decode cX3_commonConstant 37 = .ok (.istore 5, 2) := by decide +kernel
theorem dX3_commonConstant_39 : decode cX3_commonConstant 39 = .ok (.iload_n 3, 1) := by decide +kernel
theorem dX3_commonConstant_40 : decode cX3_commonConstant 40 = .ok (.ifCond .eq 11, 3) := by decide +kernel
theorem dX3_commonConstant_43 : decode cX3_commonConstant 43 = .ok (.iload 5, 2) := by decide +kernel
theorem dX3_commonConstant_45 : decode cX3_commonConstant 45 = .ok (.iload_n 2, 1) := by decide +kernel
theorem dX3_commonConstant_46 : decode cX3_commonConstant 46 = .ok (.if_icmp .eq 5, 3) := by decide +kernel
theorem dX3_commonConstant_49 : decode cX3_commonConstant 49 = .ok (.iconst (-1), 1) := by decide +kernel
theorem dX3_commonConstant_50 : decode cX3_commonConstant 50 = .ok (.ireturn, 1) := by decide +kernel
theorem dX3_commonConstant_51 : decode cX3_commonConstant 51 = .ok (.iload 5, 2) := by decide +kernel
theorem dX3_commonConstant_53 : decode cX3_commonConstant 53 = .ok (.istore_n 2, 1) := by decide +kernel
theorem dX3_commonConstant_54 : decode cX3_commonConstant 54 = .ok (.iconst 1, 1) := by decide +kernel
theorem dX3_commonConstant_55 : decode cX3_commonConstant 55 = .ok (.istore_n 3, 1) := by decide +kernel
theorem dX3_commonConstant_56 : decode cX3_commonConstant 56 = .ok (.iinc 4 1, 3) := by decide +kernel
theorem dX3_commonConstant_59 : decode cX3_commonConstant 59 = .ok (.goto (-52), 3) := by decide +kernel
theorem dX3_commonConstant_62 : decode cX3_commonConstant 62 = .ok (.iload_n 2, 1) := by decide +kernel
theorem dX3_commonConstant_63 : decode cX3_commonConstant 63 = .ok (.ireturn, 1) := by decide +kernel
set_option maxRecDepth 20000 in
theorem ggX3_constantFor_X3_isContrary : GoodIn wsX3_constantFor wsX3_isContrary := goodIn_r _ [5, 6, 7, 8, 9, 10, 11, 12, 13, 14, 15, 16, 17] rfl (by decide +kernel)
set_option maxRecDepth 20000 in
theorem gX3_constantFor_X3_isContrary : GoodIn wsX3_constantFor (wsV RX3 79 RX3 yX3_isContrary wsX3_isContrary) := goodIn_app (goodIn_of _ (by decide +kernel)) ggX3_constantFor_X3_isContrary
theorem dX3_constantFor_0 : decode cX3_constantFor 0 = .ok (.iload_n 1, 1) := by decide +kernel
theorem dX3_constantFor_1 : decode cX3_constantFor 1 = .ok (.lookupswitch 85 #[(1, 27), (2, 56)], 27) := by decide +kernel
theorem dX3_constantFor_28 : decode cX3_constantFor 28 = .ok (.iload_n 2, 1) := by decide +kernel
theorem dX3_constantFor_29 : decode cX3_constantFor 29 = .ok (.iload_n 2, 1) := by decide +kernel
theorem dX3_constantFor_30 : decode cX3_constantFor 30 = .ok (.iconst 4, 1) := by decide +kernel
theorem dX3_constantFor_31 : decode cX3_constantFor 31 = .ok (.ishr, 1) := by decide +kernel
theorem dX3_constantFor_32 : decode cX3_constantFor 32 = .ok (.isub, 1) := by decide +kernel
theorem dX3_constantFor_33 : decode cX3_constantFor 33 = .ok (.iload_n 2, 1) := by decide +kernel
theorem dX3_constantFor_34 : decode cX3_constantFor 34 = .ok (.bipush 8, 2) := by decide +kernel
theorem dX3_constantFor_36 : decode cX3_constantFor 36 = .ok (.ishr, 1) := by decide +kernel
theorem dX3_constantFor_37 : decode cX3_constantFor 37 = .ok (.isub, 1) := by decide +kernel
theorem dX3_constantFor_38 : decode cX3_constantFor 38 = .ok (.iload_n 2, 1) := by decide +kernel
theorem dX3_constantFor_39 : decode cX3_constantFor 39 = .ok (.bipush 12, 2) := by decide +kernel
theorem dX3_constantFor_41 : decode cX3_constantFor 41 = .ok (.ishr, 1) := by decide +kernel
theorem dX3_constantFor_42 : decode cX3_constantFor 42 = .ok (.isub, 1) := by decide +kernel
theorem dX3_constantFor_43 : decode cX3_constantFor 43 = .ok (.iload_n 2, 1) := by decide +kernel
theorem dX3_constantFor_44 : decode cX3_constantFor 44 = .ok (.bipush 16, 2) := by decide +kernel
theorem dX3_constantFor_46 : decode cX3_constantFor 46 = .ok (.ishr, 1) := by decide +kernel
theorem dX3_constantFor_47 : decode cX3_constantFor 47 = .ok (.isub, 1) := by decide +kernel
theorem dX3_constantFor_48 : decode cX3_constantFor 48 = .ok (.iload_n 2, 1) := by decide +kernel
theorem dX3_constantFor_49 : decode cX3_constantFor 49 = .ok (.bipush 20, 2) := by decide +kernel
theorem dX3_constantFor_51 : decode cX3_constantFor 51 = .ok (.ishr, 1) := by decide +kernel
theorem dX3_constantFor_52 : decode cX3_constantFor 52 = .ok (.isub, 1) := by decide +kernel
theorem dX3_constantFor_53 : decode cX3_constantFor 53 = .ok (.bipush 15, 2) := by decide +kernel
theorem dX3_constantFor_55 : decode cX3_constantFor 55 = .ok (.iand, 1) := by decide +kernel
theorem dX3_constantFor_56 : decode cX3_constantFor 56 = .ok (.ireturn, 1) := by decide +kernel
theorem dX3_constantFor_57 : decode cX3_constantFor 57 = .ok (.iload_n 2, 1) := by decide +kernel
theorem dX3_constantFor_58 : decode cX3_constantFor 58 = .ok (.iload_n 2, 1) := by decide +kernel
theorem dX3_constantFor_59 : decode cX3_constantFor 59 = .ok (.iconst 4, 1) := by decide +kernel
theorem dX3_constantFor_60 : decode cX3_constantFor 60 = .ok (.ishr, 1) := by decide +kernel
theorem dX3_constantFor_61 : decode cX3_constantFor 61 = .ok (.ixor, 1) := by decide +kernel
theorem dX3_constantFor_62 : decode cX3_constantFor 62 = .ok (.iload_n 2, 1) := by decide +kernel
theorem dX3_constantFor_63 : decode cX3_constantFor 63 = .ok (.bipush 8, 2) := by decide +kernel
theorem dX3_constantFor_65 : decode cX3_constantFor 65 = .ok (.ishr, 1) := by decide +kernel
theorem dX3_constantFor_66 : decode cX3_constantFor 66 = .ok (.ixor, 1) := by decide +kernel
theorem dX3_constantFor_67 : decode cX3_constantFor 67 = .ok (.iload_n 2, 1) := by decide +kernel
theorem dX3_constantFor_68 : decode cX3_constantFor 68 = .ok (.bipush 12, 2) := by decide +kernel
theorem dX3_constantFor_70 : decode cX3_constantFor 70 = .ok (.ishr, 1) := by decide +kernel
theorem dX3_constantFor_71 : decode cX3_constantFor 71 = .ok (.ixor, 1) := by decide +kernel
theorem dX3_constantFor_72 : decode cX3_constantFor 72 = .ok (.iload_n 2, 1) := by decide +kernel
theorem dX3_constantFor_73 : decode cX3_constantFor 73 = .ok (.bipush 16, 2) := by decide +kernel
theorem dX3_constantFor_75 : decode cX3_constantFor 75 = .ok (.ishr, 1) := by decide +kernel
theorem dX3_constantFor_76 : decode cX3_constantFor 76 = .ok (.ixor, 1) := by decide +kernel
theorem dX3_constantFor_77 : decode cX3_constantFor 77 = .ok (.iload_n 2, 1) := by decide +kernel
theorem dX3_constantFor_78 : decode cX3_constantFor 78 = .ok (.bipush 20, 2) := by decide +kernel
theorem dX3_constantFor_80 : decode cX3_constantFor 80 = .ok (.ishr, 1) := by decide +kernel
theorem dX3_constantFor_81 : decode cX3_constantFor 81 = .ok (.ixor, 1) := by decide +kernel
theorem dX3_constantFor_82 : decode cX3_constantFor 82 = .ok (.bipush 15, 2) := by decide +kernel
theorem dX3_constantFor_84 : decode cX3_constantFor 84 = .ok (.iand, 1) := by decide +kernel
theorem dX3_constantFor_85 : decode cX3_constantFor 85 = .ok (.ireturn, 1) := by decide +kernel
theorem dX3_constantFor_86 : decode cX3_constantFor 86 = .ok (.aload_n 0, 1) := by decide +kernel
theorem dX3_constantFor_87 : decode cX3_constantFor 87 = .ok (.iload_n 2, 1) := by decide +kernel
theorem dX3_constantFor_88 : decode cX3_constantFor 88 = .ok (.invokevirtual 79, 3) := by decide +kernel
theorem dX3_constantFor_91 : decode cX3_constantFor 91 = .ok (.ifCond .eq 7, 3) := by decide +kernel
theorem dX3_constantFor_94 : decode cX3_constantFor 94 = .ok (.iconst 0, 1) := by decide +kernel
theorem dX3_constantFor_95 : decode cX3_constantFor 95 = .ok (.goto 4, 3) := by decide +kernel
theorem dX3_constantFor_98 : decode cX3_constantFor 98 = .ok (.iconst (-1), 1) := by decide +kernel
theorem dX3_constantFor_99 : decode cX3_constantFor 99 = .ok (.ireturn, 1) := by decide +kernel
set_option maxRecDepth 20000 in
theorem ggX3_isContrary_X8_lowBits : GoodIn wsX3_isContrary wsX8_lowBits := goodIn_r _ [4] rfl (by decide +kernel)
set_option maxRecDepth 20000 in
theorem gX3_isContrary_X8_lowBits_n60 : GoodIn wsX3_isContrary (wsX8_lowBits) := ggX3_isContrary_X8_lowBits
theorem dX3_isContrary_0 : decode cX3_isContrary 0 = .ok (.aload_n 0, 1) := by decide +kernel
theorem dX3_isContrary_1 : decode cX3_isContrary 1 = .ok (.getfield 18, 3) := by decide +kernel
theorem dX3_isContrary_4 : decode cX3_isContrary 4 = .ok (.iconst 2, 1) := by decide +kernel
theorem dX3_isContrary_5 : decode cX3_isContrary 5 = .ok (.idiv, 1) := by decide +kernel
theorem dX3_isContrary_6 : decode cX3_isContrary 6 = .ok (.invokestatic 60, 3) := by decide +kernel
theorem dX3_isContrary_9 : decode cX3_isContrary 9 = .ok (.istore_n 2, 1) := by decide +kernel
theorem dX3_isContrary_10 : decode cX3_isContrary 10 = .ok (.iload_n 1, 1) := by decide +kernel
theorem dX3_isContrary_11 : decode cX3_isContrary 11 = .ok (.iload_n 1, 1) := by decide +kernel
theorem dX3_isContrary_12 : decode cX3_isContrary 12 = .ok (.aload_n 0, 1) := by decide +kernel
theorem dX3_isContrary_13 : decode cX3_isContrary 13 = .ok (.getfield 18, 3) := by decide +kernel
theorem dX3_isContrary_16 : decode cX3_isContrary 16 = .ok (.iconst 2, 1) := by decide +kernel
theorem dX3_isContrary_17 : decode cX3_isContrary 17 = .ok (.idiv, 1) := by decide +kernel
theorem dX3_isContrary_18 : decode cX3_isContrary 18 = .ok (.ishr, 1) := by decide +kernel
theorem dX3_isContrary_19 : decode cX3_isContrary 19 = .ok (.ixor, 1) := by decide +kernel
theorem dX3_isContrary_20 : decode cX3_isContrary 20 = .ok (.iload_n 2, 1) := by decide +kernel
theorem dX3_isContrary_21 : decode cX3_isContrary 21 = .ok (.iand, 1) := by decide +kernel
theorem dX3_isContrary_22 : decode cX3_isContrary 22 = .ok (.iload_n 2, 1) := by decide +kernel
theorem dX3_isContrary_23 : decode cX3_isContrary 23 = .ok (.if_icmp .ne 7, 3) := by decide +kernel
theorem dX3_isContrary_26 : decode cX3_isContrary 26 = .ok (.iconst 1, 1) := by decide +kernel
theorem dX3_isContrary_27 : decode cX3_isContrary 27 = .ok (.goto 4, 3) := by decide +kernel
theorem dX3_isContrary_30 : decode cX3_isContrary 30 = .ok (.iconst 0, 1) := by decide +kernel
theorem dX3_isContrary_31 : decode cX3_isContrary 31 = .ok (.ireturn, 1) := by decide +kernel
set_option maxRecDepth 20000 in
theorem ggX3_constantThatHolds_X8_within : GoodIn wsX3_constantThatHolds wsX8_within := goodIn_r _ [4] rfl (by decide +kernel)
set_option maxRecDepth 20000 in
theorem gX3_constantThatHolds_X8_within_n41 : GoodIn wsX3_constantThatHolds (wsX8_within) := ggX3_constantThatHolds_X8_within
theorem dX3_constantThatHolds_0 : decode cX3_constantThatHolds 0 = .ok (.iload_n 1, 1) := by decide +kernel
theorem dX3_constantThatHolds_1 : decode cX3_constantThatHolds 1 = .ok (.iconst 1, 1) := by decide +kernel
theorem dX3_constantThatHolds_2 : decode cX3_constantThatHolds 2 = .ok (.iconst 3, 1) := by decide +kernel
theorem dX3_constantThatHolds_3 : decode cX3_constantThatHolds 3 = .ok (.invokestatic 41, 3) := by decide +kernel
theorem dX3_constantThatHolds_6 : decode cX3_constantThatHolds 6 = .ok (.ifCond .eq 12, 3) := by decide +kernel
theorem dX3_constantThatHolds_9 : decode cX3_constantThatHolds 9 = .ok (.aload_n 0, 1) := by decide +kernel
theorem dX3_constantThatHolds_10 : decode cX3_constantThatHolds 10 = .ok (.getfield 15, 3) := by decide +kernel
theorem dX3_constantThatHolds_13 : decode cX3_constantThatHolds 13 = .ok (.iload_n 1, 1) := by decide +kernel
theorem dX3_constantThatHolds_14 : decode cX3_constantThatHolds 14 = .ok (.iaload, 1) := by decide +kernel
theorem dX3_constantThatHolds_15 : decode cX3_constantThatHolds 15 = .ok (.goto 4, 3) := by decide +kernel
theorem dX3_constantThatHolds_18 : decode cX3_constantThatHolds 18 = .ok (.iconst (-1), 1) := by decide +kernel
theorem dX3_constantThatHolds_19 : decode cX3_constantThatHolds 19 = .ok (.ireturn, 1) := by decide +kernel
set_option maxRecDepth 20000 in
theorem ggX3_free_X8_lowBits : GoodIn wsX3_free wsX8_lowBits := goodIn_r _ [5] rfl (by decide +kernel)
set_option maxRecDepth 20000 in
theorem gX3_free_X8_lowBits_n60 : GoodIn wsX3_free (wsX8_lowBits) := ggX3_free_X8_lowBits
set_option maxRecDepth 20000 in
theorem ggX3_free_X3_flipMask : GoodIn wsX3_free wsX3_flipMask := goodIn_r _ [10, 11, 12, 13, 14, 15, 16, 17, 18, 19] rfl (by decide +kernel)
set_option maxRecDepth 20000 in
theorem gX3_free_X3_flipMask : GoodIn wsX3_free (wsV RX3 49 RX3 yX3_flipMask wsX3_flipMask) := goodIn_app (goodIn_of _ (by decide +kernel)) ggX3_free_X3_flipMask
theorem dX3_free_0 : decode cX3_free 0 = .ok (.aload_n 0, 1) := by decide +kernel
theorem dX3_free_1 : decode cX3_free 1 = .ok (.getfield 18, 3) := by decide +kernel
theorem dX3_free_4 : decode cX3_free 4 = .ok (.invokestatic 60, 3) := by decide +kernel
theorem dX3_free_7 : decode cX3_free 7 = .ok (.aload_n 0, 1) := by decide +kernel
theorem dX3_free_8 : decode cX3_free 8 = .ok (.getfield 63, 3) := by decide +kernel
theorem dX3_free_11 : decode cX3_free 11 = .ok (.iconst (-1), 1) := by decide +kernel
theorem dX3_free_12 : decode cX3_free 12 = .ok (.ixor, 1) := by decide +kernel
theorem dX3_free_13 : decode cX3_free 13 = .ok (.iand, 1) := by decide +kernel
theorem dX3_free_14 : decode cX3_free 14 = .ok (.aload_n 0, 1) := by decide +kernel
theorem dX3_free_15 : decode cX3_free 15 = .ok (.invokevirtual 49, 3) := by decide +kernel
theorem dX3_free_18 : decode cX3_free 18 = .ok (.iconst (-1), 1) := by decide +kernel
theorem dX3_free_19 : decode cX3_free 19 = .ok (.ixor, 1) := by decide +kernel
theorem dX3_free_20 : decode cX3_free 20 = .ok (.iand, 1) := by decide +kernel
theorem dX3_free_21 : decode cX3_free 21 = .ok (.ireturn, 1) := by decide +kernel
set_option maxRecDepth 20000 in
theorem ggX3_canForesee_X3_free : GoodIn wsX3_canForesee wsX3_free := goodIn_r _ [6, 7, 8, 9, 10, 11, 12, 13, 14, 5, 15, 16, 24, 25, 26, 27, 28, 29, 30, 31] rfl (by decide +kernel)
set_option maxRecDepth 20000 in
theorem gX3_canForesee_X3_free : GoodIn wsX3_canForesee (wsV RX3 82 RX3 yX3_free wsX3_free) := goodIn_app (goodIn_of _ (by decide +kernel)) ggX3_canForesee_X3_free
set_option maxRecDepth 20000 in
theorem ggX3_canForesee_J6_bitCount_0f7a4 : GoodIn wsX3_canForesee wsJ6_bitCount_0f7a4 := goodIn_r _ [20, 21, 22, 23] rfl (by decide +kernel)
set_option maxRecDepth 20000 in
theorem gX3_canForesee_J6_bitCount_0f7a4 : GoodIn wsX3_canForesee (va_wsS RX3 85 yJ6_bitCount_0f7a4 wsJ6_bitCount_0f7a4) := goodIn_app (goodIn_of _ (by decide +kernel)) ggX3_canForesee_J6_bitCount_0f7a4
theorem dX3_canForesee_0 : decode cX3_canForesee 0 = .ok (.aload_n 0, 1) := by decide +kernel
theorem dX3_canForesee_1 : decode cX3_canForesee 1 = .ok (.getfield 57, 3) := by decide +kernel
theorem dX3_canForesee_4 : decode cX3_canForesee 4 = .ok (.ifCond .le 19, 3) := by decide +kernel
theorem dX3_canForesee_7 : decode cX3_canForesee 7 = .ok (.aload_n 0, 1) := by decide +kernel
theorem dX3_canForesee_8 : decode cX3_canForesee 8 = .ok (.invokevirtual 82, 3) := by decide +kernel
theorem dX3_canForesee_11 : decode cX3_canForesee 11 = .ok (.invokestatic 85, 3) := by decide +kernel
theorem dX3_canForesee_14 : decode cX3_canForesee 14 = .ok (.bipush 14, 2) := by decide +kernel
theorem dX3_canForesee_16 : decode cX3_canForesee 16 = .ok (.if_icmp .gt 7, 3) := by decide +kernel
theorem dX3_canForesee_19 : decode cX3_canForesee 19 = .ok (.iconst 1, 1) := by decide +kernel
theorem dX3_canForesee_20 : decode cX3_canForesee 20 = .ok (.goto 4, 3) := by decide +kernel
theorem dX3_canForesee_23 : decode cX3_canForesee 23 = .ok (.iconst 0, 1) := by decide +kernel
theorem dX3_canForesee_24 : decode cX3_canForesee 24 = .ok (.ireturn, 1) := by decide +kernel
set_option maxRecDepth 20000 in
theorem ggX3_checksHoldFor_X3_constantFor : GoodIn wsX3_checksHoldFor wsX3_constantFor := goodIn_r _ [6, 7, 8, 9, 5, 10, 11, 12, 13, 14, 15, 16, 17, 18, 19, 20, 21, 22] rfl (by decide +kernel)
set_option maxRecDepth 20000 in
theorem gX3_checksHoldFor_X3_constantFor : GoodIn wsX3_checksHoldFor (wsV RX3 75 RX3 yX3_constantFor wsX3_constantFor) := goodIn_app (goodIn_of _ (by decide +kernel)) ggX3_checksHoldFor_X3_constantFor
theorem dX3_checksHoldFor_0 : decode cX3_checksHoldFor 0 = .ok (.iconst 1, 1) := by decide +kernel
theorem dX3_checksHoldFor_1 : decode cX3_checksHoldFor 1 = .ok (.istore_n 2, 1) := by decide +kernel
theorem dX3_checksHoldFor_2 : decode cX3_checksHoldFor 2 = .ok (.iload_n 2, 1) := by decide +kernel
theorem dX3_checksHoldFor_3 : decode cX3_checksHoldFor 3 = .ok (.iconst 3, 1) := by decide +kernel
theorem dX3_checksHoldFor_4 : decode cX3_checksHoldFor 4 = .ok (.if_icmp .gt 36, 3) := by decide +kernel
theorem dX3_checksHoldFor_7 : decode cX3_checksHoldFor 7 = .ok (.aload_n 0, 1) := by decide +kernel
theorem dX3_checksHoldFor_8 : decode cX3_checksHoldFor 8 = .ok (.getfield 15, 3) := by decide +kernel
theorem dX3_checksHoldFor_11 : decode cX3_checksHoldFor 11 = .ok (.iload_n 2, 1) := by decide +kernel
theorem dX3_checksHoldFor_12 : decode cX3_checksHoldFor 12 = .ok (.iaload, 1) := by decide +kernel
theorem dX3_checksHoldFor_13 : decode cX3_checksHoldFor 13 = .ok (.iconst (-1), 1) := by decide +kernel
theorem dX3_checksHoldFor_14 : decode cX3_checksHoldFor 14 = .ok (.if_icmp .eq 20, 3) := by decide +kernel
theorem dX3_checksHoldFor_17 : decode cX3_checksHoldFor 17 = .ok (.aload_n 0, 1) := by decide +kernel
theorem dX3_checksHoldFor_18 : decode cX3_checksHoldFor 18 = .ok (.iload_n 2, 1) := by decide +kernel
theorem dX3_checksHoldFor_19 : decode cX3_checksHoldFor 19 = .ok (.iload_n 1, 1) := by decide +kernel
theorem dX3_checksHoldFor_20 : decode cX3_checksHoldFor 20 = .ok (.invokevirtual 75, 3) := by decide +kernel
theorem dX3_checksHoldFor_23 : decode cX3_checksHoldFor 23 = .ok (.aload_n 0, 1) := by decide +kernel
theorem dX3_checksHoldFor_24 : decode cX3_checksHoldFor 24 = .ok (.getfield 15, 3) := by decide +kernel
theorem dX3_checksHoldFor_27 : decode cX3_checksHoldFor 27 = .ok (.iload_n 2, 1) := by decide +kernel
theorem dX3_checksHoldFor_28 : decode cX3_checksHoldFor 28 = .ok (.iaload, 1) := by decide +kernel
theorem dX3_checksHoldFor_29 : decode cX3_checksHoldFor 29 = .ok (.if_icmp .eq 5, 3) := by decide +kernel
theorem dX3_checksHoldFor_32 : decode cX3_checksHoldFor 32 = .ok (.iconst 0, 1) := by decide +kernel
theorem dX3_checksHoldFor_33 : decode cX3_checksHoldFor 33 = .ok (.ireturn, 1) := by decide +kernel
theorem dX3_checksHoldFor_34 : decode cX3_checksHoldFor 34 = .ok (.iinc 2 1, 3) := by decide +kernel
theorem dX3_checksHoldFor_37 : decode cX3_checksHoldFor 37 = .ok (.goto (-35), 3) := by decide +kernel
theorem dX3_checksHoldFor_40 : decode cX3_checksHoldFor 40 = .ok (.iconst 1, 1) := by decide +kernel
theorem dX3_checksHoldFor_41 : decode cX3_checksHoldFor 41 = .ok (.ireturn, 1) := by decide +kernel
set_option maxRecDepth 20000 in
theorem ggX3_foresees_X3_free : GoodIn wsX3_foresees wsX3_free := goodIn_r _ [6, 7, 8, 9, 10, 11, 12, 13, 14, 5, 15, 16, 30, 31, 32, 33, 34, 35, 36, 37] rfl (by decide +kernel)
set_option maxRecDepth 20000 in
theorem gX3_foresees_X3_free : GoodIn wsX3_foresees (wsV RX3 82 RX3 yX3_free wsX3_free) := goodIn_app (goodIn_of _ (by decide +kernel)) ggX3_foresees_X3_free
set_option maxRecDepth 20000 in
theorem ggX3_foresees_X3_checksHoldFor : GoodIn wsX3_foresees wsX3_checksHoldFor := goodIn_r _ [20, 21, 22, 23, 24, 5, 25, 26, 27, 28, 29, 7, 9, 10, 11, 30, 31, 32, 33, 34, 35, 36, 37] rfl (by decide +kernel)
set_option maxRecDepth 20000 in
theorem gX3_foresees_X3_checksHoldFor : GoodIn wsX3_foresees (wsV RX3 90 RX3 yX3_checksHoldFor wsX3_checksHoldFor) := goodIn_app (goodIn_of _ (by decide +kernel)) ggX3_foresees_X3_checksHoldFor
theorem dX3_foresees_0 : decode cX3_foresees 0 = .ok (.iload_n 1, 1) := by decide +kernel
theorem dX3_foresees_1 : decode cX3_foresees 1 = .ok (.aload_n 0, 1) := by decide +kernel
theorem dX3_foresees_2 : decode cX3_foresees 2 = .ok (.invokevirtual 82, 3) := by decide +kernel
theorem dX3_foresees_5 : decode cX3_foresees 5 = .ok (.iconst (-1), 1) := by decide +kernel
theorem dX3_foresees_6 : decode cX3_foresees 6 = .ok (.ixor, 1) := by decide +kernel
theorem dX3_foresees_7 : decode cX3_foresees 7 = .ok (.iand, 1) := by decide +kernel
theorem dX3_foresees_8 : decode cX3_foresees 8 = .ok (.aload_n 0, 1) := by decide +kernel
theorem dX3_foresees_9 : decode cX3_foresees 9 = .ok (.getfield 66, 3) := by decide +kernel
theorem dX3_foresees_12 : decode cX3_foresees 12 = .ok (.if_icmp .ne 15, 3) := by decide +kernel
theorem dX3_foresees_15 : decode cX3_foresees 15 = .ok (.aload_n 0, 1) := by decide +kernel
theorem dX3_foresees_16 : decode cX3_foresees 16 = .ok (.iload_n 1, 1) := by decide +kernel
theorem dX3_foresees_17 : decode cX3_foresees 17 = .ok (.invokevirtual 90, 3) := by decide +kernel
theorem dX3_foresees_20 : decode cX3_foresees 20 = .ok (.ifCond .eq 7, 3) := by decide +kernel
theorem dX3_foresees_23 : decode cX3_foresees 23 = .ok (.iconst 1, 1) := by decide +kernel
theorem dX3_foresees_24 : decode cX3_foresees 24 = .ok (.goto 4, 3) := by decide +kernel
theorem dX3_foresees_27 : decode cX3_foresees 27 = .ok (.iconst 0, 1) := by decide +kernel
theorem dX3_foresees_28 : decode cX3_foresees 28 = .ok (.ireturn, 1) := by decide +kernel
set_option maxRecDepth 20000 in
theorem ggX3_foreseenAbove_X3_free : GoodIn wsX3_foreseenAbove wsX3_free := goodIn_r _ [6, 7, 8, 9, 10, 11, 12, 13, 14, 5, 15, 16, 37, 38, 39, 40, 41, 42, 43, 44] rfl (by decide +kernel)
set_option maxRecDepth 20000 in
theorem gX3_foreseenAbove_X3_free : GoodIn wsX3_foreseenAbove (wsV RX3 82 RX3 yX3_free wsX3_free) := goodIn_app (goodIn_of _ (by decide +kernel)) ggX3_foreseenAbove_X3_free
set_option maxRecDepth 20000 in
theorem ggX3_foreseenAbove_J6_bitCount_0f7a4 : GoodIn wsX3_foreseenAbove wsJ6_bitCount_0f7a4 := goodIn_r _ [20, 21, 22, 23] rfl (by decide +kernel)
set_option maxRecDepth 20000 in
theorem gX3_foreseenAbove_J6_bitCount_0f7a4 : GoodIn wsX3_foreseenAbove (va_wsS RX3 85 yJ6_bitCount_0f7a4 wsJ6_bitCount_0f7a4) := goodIn_app (goodIn_of _ (by decide +kernel)) ggX3_foreseenAbove_J6_bitCount_0f7a4
set_option maxRecDepth 20000 in
theorem ggX3_foreseenAbove_X3_checksHoldFor : GoodIn wsX3_foreseenAbove wsX3_checksHoldFor := goodIn_r _ [27, 28, 29, 30, 31, 5, 32, 33, 34, 35, 36, 7, 9, 10, 11, 37, 38, 39, 40, 41, 42, 43, 44] rfl (by decide +kernel)
set_option maxRecDepth 20000 in
theorem gX3_foreseenAbove_X3_checksHoldFor : GoodIn wsX3_foreseenAbove (wsV RX3 90 RX3 yX3_checksHoldFor wsX3_checksHoldFor) := goodIn_app (goodIn_of _ (by decide +kernel)) ggX3_foreseenAbove_X3_checksHoldFor
theorem dX3_foreseenAbove_0 : decode cX3_foreseenAbove 0 = .ok (.aload_n 0, 1) := by decide +kernel
theorem dX3_foreseenAbove_1 : decode cX3_foreseenAbove 1 = .ok (.invokevirtual 82, 3) := by decide +kernel
theorem dX3_foreseenAbove_4 : decode cX3_foreseenAbove 4 = .ok (.istore_n 2, 1) := by decide +kernel
theorem dX3_foreseenAbove_5 : decode cX3_foreseenAbove 5 = .ok (.iconst 1, 1) := by decide +kernel
theorem dX3_foreseenAbove_6 : decode cX3_foreseenAbove 6 = .ok (.iload_n 2, 1) := by decide +kernel
theorem dX3_foreseenAbove_7 : decode cX3_foreseenAbove 7 = .ok (.invokestatic 85, 3) := by decide +kernel
theorem dX3_foreseenAbove_10 : decode cX3_foreseenAbove 10 = .ok (.ishl, 1) := by decide +kernel
theorem dX3_foreseenAbove_11 : decode cX3_foreseenAbove 11 = .ok (.istore_n 3, 1) := by decide +kernel
theorem dX3_foreseenAbove_12 : decode cX3_foreseenAbove 12 = .ok (.iload_n 1, 1) := by decide +kernel
theorem dX3_foreseenAbove_13 : decode cX3_foreseenAbove 13 = .ok (.iload_n 2, 1) := by decide +kernel
theorem dX3_foreseenAbove_14 : decode cX3_foreseenAbove 14 = .ok (.iand, 1) := by decide +kernel
theorem dX3_foreseenAbove_15 : decode cX3_foreseenAbove 15 = .ok (.istore 4, 2) := by decide +kernel
theorem dX3_foreseenAbove_17 : decode cX3_foreseenAbove 17 = .ok (.iconst 0, 1) := by decide +kernel
theorem dX3_foreseenAbove_18 : decode cX3_foreseenAbove 18 = .ok (.istore 5, 2) := by decide +kernel
theorem dX3_foreseenAbove_20 : decode cX3_foreseenAbove 20 = .ok (.iload 5, 2) := by decide +kernel
theorem dX3_foreseenAbove_22 : decode cX3_foreseenAbove 22 = .ok (.iload_n 3, 1) := by decide +kernel
theorem dX3_foreseenAbove_23 : decode cX3_foreseenAbove 23 = .ok (.if_icmp .ge 51, 3) := by decide +kernel
theorem dX3_foreseenAbove_26 : decode cX3_foreseenAbove 26 = .ok (.iload 4, 2) := by decide +kernel
theorem dX3_foreseenAbove_28 : decode cX3_foreseenAbove 28 = .ok (.iload_n 2, 1) := by decide +kernel
theorem dX3_foreseenAbove_29 : decode cX3_foreseenAbove 29 = .ok (.isub, 1) := by decide +kernel
theorem dX3_foreseenAbove_30 : decode cX3_foreseenAbove 30 = .ok (.iload_n 2, 1) := by decide +kernel
theorem dX3_foreseenAbove_31 : decode cX3_foreseenAbove 31 = .ok (.iand, 1) := by decide +kernel
theorem dX3_foreseenAbove_32 : decode cX3_foreseenAbove 32 = .ok (.istore 4, 2) := by decide +kernel
theorem dX3_foreseenAbove_34 : decode cX3_foreseenAbove 34 = .ok (.iload 4, 2) := by decide +kernel
theorem dX3_foreseenAbove_36 : decode cX3_foreseenAbove 36 = .ok (.ifCond .ne 10, 3) := by decide +kernel
theorem dX3_foreseenAbove_39 : decode cX3_foreseenAbove 39 = .ok (.iload_n 1, 1) := by decide +kernel
theorem dX3_foreseenAbove_40 : decode cX3_foreseenAbove 40 = .ok (.iconst (-1), 1) := by decide +kernel
theorem dX3_foreseenAbove_41 : decode cX3_foreseenAbove 41 = .ok (.if_icmp .eq 5, 3) := by decide +kernel
theorem dX3_foreseenAbove_44 : decode cX3_foreseenAbove 44 = .ok (.iconst (-1), 1) := by decide +kernel
theorem dX3_foreseenAbove_45 : decode cX3_foreseenAbove 45 = .ok (.ireturn, 1) := by decide +kernel
theorem dX3_foreseenAbove_46 : decode cX3_foreseenAbove 46 = .ok (.aload_n 0, 1) := by decide +kernel
theorem dX3_foreseenAbove_47 : decode cX3_foreseenAbove 47 = .ok (.aload_n 0, 1) := by decide +kernel
theorem dX3_foreseenAbove_48 : decode cX3_foreseenAbove 48 = .ok (.getfield 66, 3) := by decide +kernel
theorem dX3_foreseenAbove_51 : decode cX3_foreseenAbove 51 = .ok (.iload 4, 2) := by decide +kernel
theorem dX3_foreseenAbove_53 : decode cX3_foreseenAbove 53 = .ok (.ior, 1) := by decide +kernel
theorem dX3_foreseenAbove_54 : decode cX3_foreseenAbove 54 = .ok (.invokevirtual 90, 3) := by decide +kernel
theorem dX3_foreseenAbove_57 : decode cX3_foreseenAbove 57 = .ok (.ifCond .eq 11, 3) := by decide +kernel
theorem dX3_foreseenAbove_60 : decode cX3_foreseenAbove 60 = .ok (.aload_n 0, 1) := by decide +kernel
theorem dX3_foreseenAbove_61 : decode cX3_foreseenAbove 61 = .ok (.getfield 66, 3) := by decide +kernel
theorem dX3_foreseenAbove_64 : decode cX3_foreseenAbove 64 = .ok (.iload 4, 2) := by decide +kernel
theorem dX3_foreseenAbove_66 : decode cX3_foreseenAbove 66 = .ok (.ior, 1) := by decide +kernel
theorem dX3_foreseenAbove_67 : decode cX3_foreseenAbove 67 = .ok (.ireturn, 1) := by decide +kernel
theorem dX3_foreseenAbove_68 : decode cX3_foreseenAbove 68 = .ok (.iinc 5 1, 3) := by decide +kernel
theorem dX3_foreseenAbove_71 : decode cX3_foreseenAbove 71 = .ok (.goto (-51), 3) := by decide +kernel
theorem dX3_foreseenAbove_74 : decode cX3_foreseenAbove 74 = .ok (.iconst (-1), 1) := by decide +kernel
theorem dX3_foreseenAbove_75 : decode cX3_foreseenAbove 75 = .ok (.ireturn, 1) := by decide +kernel
set_option maxRecDepth 20000 in
theorem ggX3_foreseenCount_X3_foreseenAbove : GoodIn wsX3_foreseenCount wsX3_foreseenAbove := goodIn_r _ [5, 6, 7, 8, 9, 4, 10, 11, 12, 13, 14, 15, 16, 17, 18, 19, 20, 21, 22, 23, 24, 25, 26, 27, 28, 29, 30, 31, 32, 33, 34, 35, 36, 37, 38, 39, 40, 41, 42, 43, 44, 45, 46, 47, 48] rfl (by decide +kernel)
set_option maxRecDepth 20000 in
theorem gX3_foreseenCount_X3_foreseenAbove : GoodIn wsX3_foreseenCount (wsV RX3 93 RX3 yX3_foreseenAbove wsX3_foreseenAbove) := goodIn_app (goodIn_of _ (by decide +kernel)) ggX3_foreseenCount_X3_foreseenAbove
theorem dX3_foreseenCount_0 : decode cX3_foreseenCount 0 = .ok (.iconst 0, 1) := by decide +kernel
theorem dX3_foreseenCount_1 : decode cX3_foreseenCount 1 = .ok (.istore_n 1, 1) := by decide +kernel
theorem dX3_foreseenCount_2 : decode cX3_foreseenCount 2 = .ok (.aload_n 0, 1) := by decide +kernel
theorem dX3_foreseenCount_3 : decode cX3_foreseenCount 3 = .ok (.iconst (-1), 1) := by decide +kernel
theorem dX3_foreseenCount_4 : decode cX3_foreseenCount 4 = .ok (.invokevirtual 93, 3) := by decide +kernel
theorem dX3_foreseenCount_7 : decode cX3_foreseenCount 7 = .ok (.istore_n 2, 1) := by decide +kernel
theorem dX3_foreseenCount_8 : decode cX3_foreseenCount 8 = .ok (.iload_n 2, 1) := by decide +kernel
theorem dX3_foreseenCount_9 : decode cX3_foreseenCount 9 = .ok (.iconst (-1), 1) := by decide +kernel
theorem dX3_foreseenCount_10 : decode cX3_foreseenCount 10 = .ok (.if_icmp .eq 22, 3) := by decide +kernel
theorem dX3_foreseenCount_13 : decode cX3_foreseenCount 13 = .ok (.iload_n 1, 1) := by decide +kernel
theorem dX3_foreseenCount_14 : decode cX3_foreseenCount 14 = .ok (.sipush 16384, 3) := by decide +kernel
theorem dX3_foreseenCount_17 : decode cX3_foreseenCount 17 = .ok (.if_icmp .ge 15, 3) := by decide +kernel
theorem dX3_foreseenCount_20 : decode cX3_foreseenCount 20 = .ok (.iinc 1 1, 3) := by decide +kernel
theorem dX3_foreseenCount_23 : decode cX3_foreseenCount 23 = .ok (.aload_n 0, 1) := by decide +kernel
theorem dX3_foreseenCount_24 : decode cX3_foreseenCount 24 = .ok (.iload_n 2, 1) := by decide +kernel
theorem dX3_foreseenCount_25 : decode cX3_foreseenCount 25 = .ok (.invokevirtual 93, 3) := by decide +kernel
theorem dX3_foreseenCount_28 : decode cX3_foreseenCount 28 = .ok (.istore_n 2, 1) := by decide +kernel
theorem dX3_foreseenCount_29 : decode cX3_foreseenCount 29 = .ok (.goto (-21), 3) := by decide +kernel
theorem dX3_foreseenCount_32 : decode cX3_foreseenCount 32 = .ok (.iload_n 1, 1) := by decide +kernel
theorem dX3_foreseenCount_33 : decode cX3_foreseenCount 33 = .ok (.ireturn, 1) := by decide +kernel
set_option maxRecDepth 20000 in
theorem ggX3_foreseenAt_X8_within : GoodIn wsX3_foreseenAt wsX8_within := goodIn_r _ [3] rfl (by decide +kernel)
set_option maxRecDepth 20000 in
theorem gX3_foreseenAt_X8_within_n41 : GoodIn wsX3_foreseenAt (wsX8_within) := ggX3_foreseenAt_X8_within
set_option maxRecDepth 20000 in
theorem ggX3_foreseenAt_X3_foreseenAbove : GoodIn wsX3_foreseenAt wsX3_foreseenAbove := goodIn_r _ [8, 9, 10, 11, 12, 7, 13, 14, 15, 16, 2, 17, 18, 19, 20, 21, 22, 23, 24, 25, 26, 27, 28, 29, 30, 31, 32, 33, 34, 35, 36, 37, 38, 39, 40, 41, 42, 43, 44, 45, 46, 47, 48, 49, 50] rfl (by decide +kernel)
set_option maxRecDepth 20000 in
theorem gX3_foreseenAt_X3_foreseenAbove : GoodIn wsX3_foreseenAt (wsV RX3 93 RX3 yX3_foreseenAbove wsX3_foreseenAbove) := goodIn_app (goodIn_of _ (by decide +kernel)) ggX3_foreseenAt_X3_foreseenAbove
theorem dX3_foreseenAt_0 : decode cX3_foreseenAt 0 = .ok (.iload_n 1, 1) := by decide +kernel
theorem dX3_foreseenAt_1 : decode cX3_foreseenAt 1 = .ok (.iconst 0, 1) := by decide +kernel
theorem dX3_foreseenAt_2 : decode cX3_foreseenAt 2 = .ok (.sipush 16383, 3) := by decide +kernel
theorem dX3_foreseenAt_5 : decode cX3_foreseenAt 5 = .ok (.invokestatic 41, 3) := by decide +kernel
theorem dX3_foreseenAt_8 : decode cX3_foreseenAt 8 = .ok (.ifCond .ne 5, 3) := by decide +kernel
theorem dX3_foreseenAt_11 : decode cX3_foreseenAt 11 = .ok (.iconst (-1), 1) := by decide +kernel
theorem dX3_foreseenAt_12 : decode cX3_foreseenAt 12 = .ok (.ireturn, 1) := by decide +kernel
theorem dX3_foreseenAt_13 : decode cX3_foreseenAt 13 = .ok (.aload_n 0, 1) := by decide +kernel
theorem dX3_foreseenAt_14 : decode cX3_foreseenAt 14 = .ok (.iconst (-1), 1) := by decide +kernel
theorem dX3_foreseenAt_15 : decode cX3_foreseenAt 15 = .ok (.invokevirtual 93, 3) := by decide +kernel
theorem dX3_foreseenAt_18 : decode cX3_foreseenAt 18 = .ok (.istore_n 2, 1) := by decide +kernel
theorem dX3_foreseenAt_19 : decode cX3_foreseenAt 19 = .ok (.iconst 0, 1) := by decide +kernel
theorem dX3_foreseenAt_20 : decode cX3_foreseenAt 20 = .ok (.istore_n 3, 1) := by decide +kernel
theorem dX3_foreseenAt_21 : decode cX3_foreseenAt 21 = .ok (.iload_n 3, 1) := by decide +kernel
theorem dX3_foreseenAt_22 : decode cX3_foreseenAt 22 = .ok (.iload_n 1, 1) := by decide +kernel
theorem dX3_foreseenAt_23 : decode cX3_foreseenAt 23 = .ok (.if_icmp .ge 20, 3) := by decide +kernel
theorem dX3_foreseenAt_26 : decode cX3_foreseenAt 26 = .ok (.iload_n 2, 1) := by decide +kernel
theorem dX3_foreseenAt_27 : decode cX3_foreseenAt 27 = .ok (.iconst (-1), 1) := by decide +kernel
theorem dX3_foreseenAt_28 : decode cX3_foreseenAt 28 = .ok (.if_icmp .eq 15, 3) := by decide +kernel
theorem dX3_foreseenAt_31 : decode cX3_foreseenAt 31 = .ok (.aload_n 0, 1) := by decide +kernel
theorem dX3_foreseenAt_32 : decode cX3_foreseenAt 32 = .ok (.iload_n 2, 1) := by decide +kernel
theorem dX3_foreseenAt_33 : decode cX3_foreseenAt 33 = .ok (.invokevirtual 93, 3) := by decide +kernel
theorem dX3_foreseenAt_36 : decode cX3_foreseenAt 36 = .ok (.istore_n 2, 1) := by decide +kernel
theorem dX3_foreseenAt_37 : decode cX3_foreseenAt 37 = .ok (.iinc 3 1, 3) := by decide +kernel
theorem dX3_foreseenAt_40 : decode cX3_foreseenAt 40 = .ok (.goto (-19), 3) := by decide +kernel
theorem dX3_foreseenAt_43 : decode cX3_foreseenAt 43 = .ok (.iload_n 2, 1) := by decide +kernel
theorem dX3_foreseenAt_44 : decode cX3_foreseenAt 44 = .ok (.ireturn, 1) := by decide +kernel
set_option maxRecDepth 20000 in
theorem ggX3_leastForeseenWith_X3_foreseenAbove : GoodIn wsX3_leastForeseenWith wsX3_foreseenAbove := goodIn_r _ [5, 6, 7, 8, 9, 4, 10, 11, 12, 13, 14, 15, 16, 17, 18, 19, 20, 21, 22, 23, 24, 25, 26, 27, 28, 29, 30, 31, 32, 33, 34, 35, 36, 37, 38, 39, 40, 45, 46, 47, 48, 49, 50, 51, 52] rfl (by decide +kernel)
set_option maxRecDepth 20000 in
theorem gX3_leastForeseenWith_X3_foreseenAbove : GoodIn wsX3_leastForeseenWith (wsV RX3 93 RX3 yX3_foreseenAbove wsX3_foreseenAbove) := goodIn_app (goodIn_of _ (by decide +kernel)) ggX3_leastForeseenWith_X3_foreseenAbove
set_option maxRecDepth 20000 in
theorem ggX3_leastForeseenWith_X3_foresees : GoodIn wsX3_leastForeseenWith wsX3_foresees := goodIn_r _ [44, 6, 7, 8, 9, 4, 10, 11, 12, 13, 14, 15, 16, 17, 18, 19, 20, 28, 29, 30, 31, 32, 33, 34, 35, 36, 37, 38, 39, 40, 45, 46, 47, 48, 49, 50, 51, 52] rfl (by decide +kernel)
set_option maxRecDepth 20000 in
theorem gX3_leastForeseenWith_X3_foresees : GoodIn wsX3_leastForeseenWith (wsV RX3 96 RX3 yX3_foresees wsX3_foresees) := goodIn_app (goodIn_of _ (by decide +kernel)) ggX3_leastForeseenWith_X3_foresees
theorem dX3_leastForeseenWith_0 : decode cX3_leastForeseenWith 0 = .ok (.aload_n 0, 1) := by decide +kernel
theorem dX3_leastForeseenWith_1 : decode cX3_leastForeseenWith 1 = .ok (.iconst (-1), 1) := by decide +kernel
theorem dX3_leastForeseenWith_2 : decode cX3_leastForeseenWith 2 = .ok (.invokevirtual 93, 3) := by decide +kernel
theorem dX3_leastForeseenWith_5 : decode cX3_leastForeseenWith 5 = .ok (.istore_n 2, 1) := by decide +kernel
theorem dX3_leastForeseenWith_6 : decode cX3_leastForeseenWith 6 = .ok (.iconst 0, 1) := by decide +kernel
theorem dX3_leastForeseenWith_7 : decode cX3_leastForeseenWith 7 = .ok (.istore_n 3, 1) := by decide +kernel
theorem dX3_leastForeseenWith_8 : decode cX3_leastForeseenWith 8 = .ok (.iload_n 3, 1) := by decide +kernel
theorem dX3_leastForeseenWith_9 : decode cX3_leastForeseenWith 9 = .ok (.sipush 16384, 3) := by decide +kernel
theorem dX3_leastForeseenWith_12 : decode cX3_leastForeseenWith 12 = .ok (.if_icmp .ge 30, 3) := by decide +kernel
theorem dX3_leastForeseenWith_15 : decode cX3_leastForeseenWith 15 = .ok (.iload_n 2, 1) := by decide +kernel
theorem dX3_leastForeseenWith_16 : decode cX3_leastForeseenWith 16 = .ok (.iconst (-1), 1) := by decide +kernel
theorem dX3_leastForeseenWith_17 : decode cX3_leastForeseenWith 17 = .ok (.if_icmp .eq 25, 3) := by decide +kernel
theorem dX3_leastForeseenWith_20 : decode cX3_leastForeseenWith 20 = .ok (.aload_n 1, 1) := by decide +kernel
theorem dX3_leastForeseenWith_21 : decode cX3_leastForeseenWith 21 = .ok (.iload_n 2, 1) := by decide +kernel
theorem dX3_leastForeseenWith_22 : decode cX3_leastForeseenWith 22 = .ok (.invokevirtual 96, 3) := by decide +kernel
theorem dX3_leastForeseenWith_25 : decode cX3_leastForeseenWith 25 = .ok (.ifCond .eq 5, 3) := by decide +kernel
theorem dX3_leastForeseenWith_28 : decode cX3_leastForeseenWith 28 = .ok (.iload_n 2, 1) := by decide +kernel
theorem dX3_leastForeseenWith_29 : decode cX3_leastForeseenWith 29 = .ok (.ireturn, 1) := by decide +kernel
theorem dX3_leastForeseenWith_30 : decode cX3_leastForeseenWith 30 = .ok (.aload_n 0, 1) := by decide +kernel
theorem dX3_leastForeseenWith_31 : decode cX3_leastForeseenWith 31 = .ok (.iload_n 2, 1) := by decide +kernel
theorem dX3_leastForeseenWith_32 : decode cX3_leastForeseenWith 32 = .ok (.invokevirtual 93, 3) := by decide +kernel
theorem dX3_leastForeseenWith_35 : decode cX3_leastForeseenWith 35 = .ok (.istore_n 2, 1) := by decide +kernel
theorem dX3_leastForeseenWith_36 : decode cX3_leastForeseenWith 36 = .ok (.iinc 3 1, 3) := by decide +kernel
theorem dX3_leastForeseenWith_39 : decode cX3_leastForeseenWith 39 = .ok (.goto (-31), 3) := by decide +kernel
theorem dX3_leastForeseenWith_42 : decode cX3_leastForeseenWith 42 = .ok (.bipush (-2), 2) := by decide +kernel
theorem dX3_leastForeseenWith_44 : decode cX3_leastForeseenWith 44 = .ok (.ireturn, 1) := by decide +kernel
set_option maxRecDepth 20000 in
theorem ggX4_init_X3_init : GoodIn wsX4_init wsX3_init := goodIn_r _ [14, 15, 2, 3, 16, 17, 18, 19, 20, 21, 22, 10, 23, 24, 25, 26, 27, 28, 29, 30, 31, 32, 33, 34, 35, 36, 37, 38, 39, 40, 41, 42, 43, 44, 45, 46, 47, 48, 49, 50, 51, 52, 53, 54, 55, 56, 57, 58, 59, 65, 66, 67, 68, 69, 70, 71, 72] rfl (by decide +kernel)
set_option maxRecDepth 20000 in
theorem gX4_init_X3_init : GoodIn wsX4_init (wsX3_init) := ggX4_init_X3_init
theorem dX4_init_0 : decode cX4_init 0 = .ok (.aload_n 0, 1) := by decide +kernel
theorem dX4_init_1 : decode cX4_init 1 = .ok (.invokespecial 3, 3) := by decide +kernel
theorem dX4_init_4 : decode cX4_init 4 = .ok (.aload_n 0, 1) := by decide +kernel
theorem dX4_init_5 : decode cX4_init 5 = .ok (.bipush 20, 2) := by decide +kernel
theorem dX4_init_7 : decode cX4_init 7 = .ok (.putfield 9, 3) := by decide +kernel
theorem dX4_init_10 : decode cX4_init 10 = .ok (.aload_n 0, 1) := by decide +kernel
theorem dX4_init_11 : decode cX4_init 11 = .ok (.iload_n 1, 1) := by decide +kernel
theorem dX4_init_12 : decode cX4_init 12 = .ok (.putfield 15, 3) := by decide +kernel
theorem dX4_init_15 : decode cX4_init 15 = .ok (.aload_n 0, 1) := by decide +kernel
theorem dX4_init_16 : decode cX4_init 16 = .ok (.iload_n 2, 1) := by decide +kernel
theorem dX4_init_17 : decode cX4_init 17 = .ok (.putfield 18, 3) := by decide +kernel
theorem dX4_init_20 : decode cX4_init 20 = .ok (.aload_n 0, 1) := by decide +kernel
theorem dX4_init_21 : decode cX4_init 21 = .ok (.aload_n 3, 1) := by decide +kernel
theorem dX4_init_22 : decode cX4_init 22 = .ok (.putfield 21, 3) := by decide +kernel
theorem dX4_init_25 : decode cX4_init 25 = .ok (.aload_n 0, 1) := by decide +kernel
theorem dX4_init_26 : decode cX4_init 26 = .ok (.new 25, 3) := by decide +kernel
theorem dX4_init_29 : decode cX4_init 29 = .ok (.dup, 1) := by decide +kernel
theorem dX4_init_30 : decode cX4_init 30 = .ok (.iload_n 2, 1) := by decide +kernel
theorem dX4_init_31 : decode cX4_init 31 = .ok (.invokespecial 27, 3) := by decide +kernel
theorem dX4_init_34 : decode cX4_init 34 = .ok (.putfield 30, 3) := by decide +kernel
theorem dX4_init_37 : decode cX4_init 37 = .ok (.return_, 1) := by decide +kernel
set_option maxRecDepth 20000 in
theorem ggX4_flash_X2_write : GoodIn wsX4_flash wsX2_write := goodIn_r _ [7, 8, 9, 10, 11, 12, 6, 13, 14, 15, 16, 17, 18, 19, 20, 21, 22, 23, 24, 53, 54, 46, 47] rfl (by decide +kernel)
set_option maxRecDepth 20000 in
theorem gX4_flash_X2_write_u39X2 : GoodIn wsX4_flash (va_wsU RX4 39 RX2 "OneHandset$Form" ⟨"OneHandset$Form", "write", "(ILOneHandset$Tape;)V"⟩ yX2_write wsX2_write) := goodIn_app (goodIn_of _ (by decide +kernel)) ggX4_flash_X2_write
set_option maxRecDepth 20000 in
theorem ggX4_flash_X5_write : GoodIn wsX4_flash wsX5_write := goodIn_r _ [28, 29, 30, 31, 32, 33, 34, 35, 27, 36, 37, 38, 15, 16, 17, 18, 19, 20, 39, 40, 41, 42, 43, 44, 45, 55, 56, 57, 58, 59, 60, 61, 62, 46, 47] rfl (by decide +kernel)
set_option maxRecDepth 20000 in
theorem gX4_flash_X5_write_u39X5 : GoodIn wsX4_flash (va_wsU RX4 39 RX5 "OneHandset$Form" ⟨"OneHandset$Form", "write", "(ILOneHandset$Tape;)V"⟩ yX5_write wsX5_write) := goodIn_app (goodIn_of _ (by decide +kernel)) ggX4_flash_X5_write
theorem dX4_flash_0 : decode cX4_flash 0 = .ok (.aload_n 2, 1) := by decide +kernel
theorem dX4_flash_1 : decode cX4_flash 1 = .ok (.iconst 0, 1) := by decide +kernel
theorem dX4_flash_2 : decode cX4_flash 2 = .ok (.putfield 34, 3) := by decide +kernel
theorem dX4_flash_5 : decode cX4_flash 5 = .ok (.aload_n 0, 1) := by decide +kernel
theorem dX4_flash_6 : decode cX4_flash 6 = .ok (.getfield 21, 3) := by decide +kernel
theorem dX4_flash_9 : decode cX4_flash 9 = .ok (.iload_n 1, 1) := by decide +kernel
theorem dX4_flash_10 : decode cX4_flash 10 = .ok (.aload_n 2, 1) := by decide +kernel
theorem dX4_flash_11 : decode cX4_flash 11 = .ok (.invokevirtual 39, 3) := by decide +kernel
theorem dX4_flash_14 : decode cX4_flash 14 = .ok (.aload_n 2, 1) := by decide +kernel
theorem dX4_flash_15 : decode cX4_flash 15 = .ok (.getfield 34, 3) := by decide +kernel
theorem dX4_flash_18 : decode cX4_flash 18 = .ok (.ireturn, 1) := by decide +kernel
set_option maxRecDepth 20000 in
theorem ggX4_decode_X2_decode : GoodIn wsX4_decode wsX2_decode := goodIn_r _ [8, 9, 10, 11, 12, 13, 14, 15, 16, 17, 18, 19, 20, 21, 22, 23, 24, 25, 26, 27, 28, 29, 30, 31, 32, 33, 34, 35, 61, 62, 63, 64] rfl (by decide +kernel)
set_option maxRecDepth 20000 in
theorem gX4_decode_X2_decode_u45X2 : GoodIn wsX4_decode (va_wsU RX4 45 RX2 "OneHandset$Form" ⟨"OneHandset$Form", "decode", "(LOneHandset$Tape;I)I"⟩ yX2_decode wsX2_decode) := goodIn_app (goodIn_of _ (by decide +kernel)) ggX4_decode_X2_decode
set_option maxRecDepth 20000 in
theorem ggX4_decode_X5_decode : GoodIn wsX4_decode wsX5_decode := goodIn_r _ [39, 40, 41, 42, 34, 19, 35, 43, 12, 13, 14, 15, 16, 17, 18, 20, 44, 45, 46, 38, 47, 48, 21, 22, 23, 24, 25, 26, 27, 28, 29, 30, 31, 32, 33, 49, 50, 51, 52, 53, 54, 55, 61, 62, 65, 66, 67, 68, 69, 70, 71, 72] rfl (by decide +kernel)
set_option maxRecDepth 20000 in
theorem gX4_decode_X5_decode_u45X5 : GoodIn wsX4_decode (va_wsU RX4 45 RX5 "OneHandset$Form" ⟨"OneHandset$Form", "decode", "(LOneHandset$Tape;I)I"⟩ yX5_decode wsX5_decode) := goodIn_app (goodIn_of _ (by decide +kernel)) ggX4_decode_X5_decode
theorem dX4_decode_0 : decode cX4_decode 0 = .ok (.aload_n 0, 1) := by decide +kernel
theorem dX4_decode_1 : decode cX4_decode 1 = .ok (.getfield 21, 3) := by decide +kernel
theorem dX4_decode_4 : decode cX4_decode 4 = .ok (.aload_n 1, 1) := by decide +kernel
theorem dX4_decode_5 : decode cX4_decode 5 = .ok (.aload_n 0, 1) := by decide +kernel
theorem dX4_decode_6 : decode cX4_decode 6 = .ok (.getfield 9, 3) := by decide +kernel
theorem dX4_decode_9 : decode cX4_decode 9 = .ok (.invokevirtual 45, 3) := by decide +kernel
theorem dX4_decode_12 : decode cX4_decode 12 = .ok (.ireturn, 1) := by decide +kernel
set_option maxRecDepth 20000 in
theorem ggX5_init_X1_init : GoodIn wsX5_init wsX1_init := goodIn_r _ [11, 12, 13, 14] rfl (by decide +kernel)
set_option maxRecDepth 20000 in
theorem gX5_init_X1_init_n3 : GoodIn wsX5_init (wsX1_init) := ggX5_init_X1_init
theorem dX5_init_0 : decode cX5_init 0 = .ok (.aload_n 0, 1) := by decide +kernel
theorem dX5_init_1 : decode cX5_init 1 = .ok (.invokespecial 3, 3) := by decide +kernel
theorem dX5_init_4 : decode cX5_init 4 = .ok (.aload_n 0, 1) := by decide +kernel
theorem dX5_init_5 : decode cX5_init 5 = .ok (.iload_n 1, 1) := by decide +kernel
theorem dX5_init_6 : decode cX5_init 6 = .ok (.putfield 9, 3) := by decide +kernel
theorem dX5_init_9 : decode cX5_init 9 = .ok (.aload_n 0, 1) := by decide +kernel
theorem dX5_init_10 : decode cX5_init 10 = .ok (.iload_n 2, 1) := by decide +kernel
theorem dX5_init_11 : decode cX5_init 11 = .ok (.putfield 15, 3) := by decide +kernel
theorem dX5_init_14 : decode cX5_init 14 = .ok (.aload_n 0, 1) := by decide +kernel
theorem dX5_init_15 : decode cX5_init 15 = .ok (.iload_n 3, 1) := by decide +kernel
theorem dX5_init_16 : decode cX5_init 16 = .ok (.putfield 19, 3) := by decide +kernel
theorem dX5_init_19 : decode cX5_init 19 = .ok (.aload_n 0, 1) := by decide +kernel
theorem dX5_init_20 : decode cX5_init 20 = .ok (.iload 4, 2) := by decide +kernel
theorem dX5_init_22 : decode cX5_init 22 = .ok (.putfield 22, 3) := by decide +kernel
theorem dX5_init_25 : decode cX5_init 25 = .ok (.aload_n 0, 1) := by decide +kernel
theorem dX5_init_26 : decode cX5_init 26 = .ok (.iload 5, 2) := by decide +kernel
theorem dX5_init_28 : decode cX5_init 28 = .ok (.putfield 25, 3) := by decide +kernel
theorem dX5_init_31 : decode cX5_init 31 = .ok (.aload_n 0, 1) := by decide +kernel
theorem dX5_init_32 : decode cX5_init 32 = .ok (.iload 6, 2) := by decide +kernel
theorem dX5_init_34 : decode cX5_init 34 = .ok (.putfield 28, 3) := by decide +kernel
theorem dX5_init_37 : decode cX5_init 37 = .ok (.aload_n 0, 1) := by decide +kernel
theorem dX5_init_38 : decode cX5_init 38 = .ok (.iload 7, 2) := by decide +kernel
theorem dX5_init_40 : decode cX5_init 40 = .ok (.putfield 31, 3) := by decide +kernel
theorem dX5_init_43 : decode cX5_init 43 = .ok (.aload_n 0, 1) := by decide +kernel
theorem dX5_init_44 : decode cX5_init 44 = .ok (.iload_n 1, 1) := by decide +kernel
theorem dX5_init_45 : decode cX5_init 45 = .ok (.ifCond .eq 11, 3) := by decide +kernel
theorem dX5_init_48 : decode cX5_init 48 = .ok (.iconst 2, 1) := by decide +kernel
theorem dX5_init_49 : decode cX5_init 49 = .ok (.iload_n 2, 1) := by decide +kernel
theorem dX5_init_50 : decode cX5_init 50 = .ok (.imul, 1) := by decide +kernel
theorem dX5_init_51 : decode cX5_init 51 = .ok (.iconst 1, 1) := by decide +kernel
theorem dX5_init_52 : decode cX5_init 52 = .ok (.iadd, 1) := by decide +kernel
theorem dX5_init_53 : decode cX5_init 53 = .ok (.goto 8, 3) := by decide +kernel
theorem dX5_init_56 : decode cX5_init 56 = .ok (.iconst 2, 1) := by decide +kernel
theorem dX5_init_57 : decode cX5_init 57 = .ok (.iload_n 2, 1) := by decide +kernel
theorem dX5_init_58 : decode cX5_init 58 = .ok (.imul, 1) := by decide +kernel
theorem dX5_init_59 : decode cX5_init 59 = .ok (.iconst 3, 1) := by decide +kernel
theorem dX5_init_60 : decode cX5_init 60 = .ok (.iadd, 1) := by decide +kernel
theorem dX5_init_61 : decode cX5_init 61 = .ok (.putfield 34, 3) := by decide +kernel
theorem dX5_init_64 : decode cX5_init 64 = .ok (.return_, 1) := by decide +kernel
theorem dX5_tellsBit_0 : decode cX5_tellsBit 0 = .ok (.iload_n 1, 1) := by decide +kernel
theorem dX5_tellsBit_1 : decode cX5_tellsBit 1 = .ok (.iconst 2, 1) := by decide +kernel
theorem dX5_tellsBit_2 : decode cX5_tellsBit 2 = .ok (.if_icmp .lt 25, 3) := by decide +kernel
theorem dX5_tellsBit_5 : decode cX5_tellsBit 5 = .ok (.iload_n 1, 1) := by decide +kernel
theorem dX5_tellsBit_6 : decode cX5_tellsBit 6 = .ok (.iconst 2, 1) := by decide +kernel
theorem dX5_tellsBit_7 : decode cX5_tellsBit 7 = .ok (.irem, 1) := by decide +kernel
theorem dX5_tellsBit_8 : decode cX5_tellsBit 8 = .ok (.ifCond .ne 7, 3) := by decide +kernel
theorem dX5_tellsBit_11 : decode cX5_tellsBit 11 = .ok (.iconst 1, 1) := by decide +kernel
theorem dX5_tellsBit_12 : decode cX5_tellsBit 12 = .ok (.goto 4, 3) := by decide +kernel
theorem dX5_tellsBit_15 : decode cX5_tellsBit 15 = .ok (.iconst 0, 1) := by decide +kernel
theorem dX5_tellsBit_16 : decode cX5_tellsBit 16 = .ok (.aload_n 0, 1) := by decide +kernel
theorem dX5_tellsBit_17 : decode cX5_tellsBit 17 = .ok (.getfield 9, 3) := by decide +kernel
theorem dX5_tellsBit_20 : decode cX5_tellsBit 20 = .ok (.if_icmp .ne 7, 3) := by decide +kernel
theorem dX5_tellsBit_23 : decode cX5_tellsBit 23 = .ok (.iconst 1, 1) := by decide +kernel
theorem dX5_tellsBit_24 : decode cX5_tellsBit 24 = .ok (.goto 4, 3) := by decide +kernel
theorem dX5_tellsBit_27 : decode cX5_tellsBit 27 = .ok (.iconst 0, 1) := by decide +kernel
theorem dX5_tellsBit_28 : decode cX5_tellsBit 28 = .ok (.ireturn, 1) := by decide +kernel
theorem dX5_plainTime_0 : decode cX5_plainTime 0 = .ok (.iload_n 1, 1) := by decide +kernel
theorem dX5_plainTime_1 : decode cX5_plainTime 1 = .ok (.ifCond .ne 8, 3) := by decide +kernel
theorem dX5_plainTime_4 : decode cX5_plainTime 4 = .ok (.aload_n 0, 1) := by decide +kernel
theorem dX5_plainTime_5 : decode cX5_plainTime 5 = .ok (.getfield 19, 3) := by decide +kernel
theorem dX5_plainTime_8 : decode cX5_plainTime 8 = .ok (.ireturn, 1) := by decide +kernel
theorem dX5_plainTime_9 : decode cX5_plainTime 9 = .ok (.iload_n 1, 1) := by decide +kernel
theorem dX5_plainTime_10 : decode cX5_plainTime 10 = .ok (.iconst 1, 1) := by decide +kernel
theorem dX5_plainTime_11 : decode cX5_plainTime 11 = .ok (.if_icmp .ne 10, 3) := by decide +kernel
theorem dX5_plainTime_14 : decode cX5_plainTime 14 = .ok (.aload_n 0, 1) := by decide +kernel
theorem dX5_plainTime_15 : decode cX5_plainTime 15 = .ok (.getfield 22, 3) := by decide +kernel
theorem dX5_plainTime_18 : decode cX5_plainTime 18 = .ok (.goto 7, 3) := by decide +kernel
theorem dX5_plainTime_21 : decode cX5_plainTime 21 = .ok (.aload_n 0, 1) := by decide +kernel
theorem dX5_plainTime_22 : decode cX5_plainTime 22 = .ok (.getfield 25, 3) := by decide +kernel
theorem dX5_plainTime_25 : decode cX5_plainTime 25 = .ok (.ireturn, 1) := by decide +kernel
set_option maxRecDepth 20000 in
theorem ggX5_write_X5_tellsBit : GoodIn wsX5_write wsX5_tellsBit := goodIn_r _ [9, 10, 25, 26, 27, 28, 29, 30, 31, 32] rfl (by decide +kernel)
set_option maxRecDepth 20000 in
theorem gX5_write_X5_tellsBit : GoodIn wsX5_write (wsV RX5 37 RX5 yX5_tellsBit wsX5_tellsBit) := goodIn_app (goodIn_of _ (by decide +kernel)) ggX5_write_X5_tellsBit
set_option maxRecDepth 20000 in
theorem ggX5_write_X7_append : GoodIn wsX5_write wsX7_append := goodIn_r _ [15, 16, 17, 33, 34] rfl (by decide +kernel)
set_option maxRecDepth 20000 in
theorem gX5_write_X7_append : GoodIn wsX5_write (wsV RX5 41 RX7 yX7_append wsX7_append) := goodIn_app (goodIn_of _ (by decide +kernel)) ggX5_write_X7_append
set_option maxRecDepth 20000 in
theorem ggX5_write_X5_plainTime : GoodIn wsX5_write wsX5_plainTime := goodIn_r _ [21, 22, 23, 24, 25, 26, 27, 28, 29, 30, 31, 32] rfl (by decide +kernel)
set_option maxRecDepth 20000 in
theorem gX5_write_X5_plainTime : GoodIn wsX5_write (wsV RX5 47 RX5 yX5_plainTime wsX5_plainTime) := goodIn_app (goodIn_of _ (by decide +kernel)) ggX5_write_X5_plainTime
theorem dX5_write_0 : decode cX5_write 0 = .ok (.aload_n 0, 1) := by decide +kernel
theorem dX5_write_1 : decode cX5_write 1 = .ok (.getfield 15, 3) := by decide +kernel
theorem dX5_write_4 : decode cX5_write 4 = .ok (.istore_n 3, 1) := by decide +kernel
theorem dX5_write_5 : decode cX5_write 5 = .ok (.iconst 0, 1) := by decide +kernel
theorem dX5_write_6 : decode cX5_write 6 = .ok (.istore 4, 2) := by decide +kernel
theorem dX5_write_8 : decode cX5_write 8 = .ok (.iload 4, 2) := by decide +kernel
theorem dX5_write_10 : decode cX5_write 10 = .ok (.aload_n 0, 1) := by decide +kernel
theorem dX5_write_11 : decode cX5_write 11 = .ok (.getfield 34, 3) := by decide +kernel
theorem dX5_write_14 : decode cX5_write 14 = .ok (.if_icmp .ge 57, 3) := by decide +kernel
theorem dX5_write_17 : decode cX5_write 17 = .ok (.aload_n 0, 1) := by decide +kernel
theorem dX5_write_18 : decode cX5_write 18 = .ok (.iload 4, 2) := by decide +kernel
theorem dX5_write_20 : decode cX5_write 20 = .ok (.invokevirtual 37, 3) := by decide +kernel
theorem dX5_write_23 : decode cX5_write 23 = .ok (.ifCond .eq 32, 3) := by decide +kernel
theorem dX5_write_26 : decode cX5_write 26 = .ok (.iinc 3 (-1), 3) := by decide +kernel
theorem dX5_write_29 : decode cX5_write 29 = .ok (.aload_n 2, 1) := by decide +kernel
theorem dX5_write_30 : decode cX5_write 30 = .ok (.iload_n 1, 1) := by decide +kernel
theorem dX5_write_31 : decode cX5_write 31 = .ok (.iload_n 3, 1) := by decide +kernel
theorem dX5_write_32 : decode cX5_write 32 = .ok (.ishr, 1) := by decide +kernel
theorem dX5_write_33 : decode cX5_write 33 = .ok (.iconst 1, 1) := by decide +kernel
theorem dX5_write_34 : decode cX5_write 34 = .ok (.iand, 1) := by decide +kernel
theorem dX5_write_35 : decode cX5_write 35 = .ok (.ifCond .ne 10, 3) := by decide +kernel
theorem dX5_write_38 : decode cX5_write 38 = .ok (.aload_n 0, 1) := by decide +kernel
theorem dX5_write_39 : decode cX5_write 39 = .ok (.getfield 28, 3) := by decide +kernel
theorem dX5_write_42 : decode cX5_write 42 = .ok (.goto 7, 3) := by decide +kernel
theorem dX5_write_45 : decode cX5_write 45 = .ok (.aload_n 0, 1) := by decide +kernel
theorem dX5_write_46 : decode cX5_write 46 = .ok (.getfield 31, 3) := by decide +kernel
theorem dX5_write_49 : decode cX5_write 49 = .ok (.invokevirtual 41, 3) := by decide +kernel
theorem dX5_write_52 : decode cX5_write 52 = .ok (.goto 13, 3) := by decide +kernel
theorem dX5_write_55 : decode cX5_write 55 = .ok (.aload_n 2, 1) := by decide +kernel
theorem dX5_write_56 : decode cX5_write 56 = .ok (.aload_n 0, 1) := by decide +kernel
theorem dX5_write_57 : decode cX5_write 57 = .ok (.iload 4, 2) := by decide +kernel
theorem dX5_write_59 : decode cX5_write 59 = .ok (.invokevirtual 47, 3) := by decide +kernel
theorem dX5_write_62 : decode cX5_write 62 = .ok (.invokevirtual 41, 3) := by decide +kernel
theorem dX5_write_65 : decode cX5_write 65 = .ok (.iinc 4 1, 3) := by decide +kernel
theorem dX5_write_68 : decode cX5_write 68 = .ok (.goto (-60), 3) := by decide +kernel
theorem dX5_write_71 : decode cX5_write 71 = .ok (.return_, 1) := by decide +kernel
set_option maxRecDepth 20000 in
theorem ggX5_decode_X8_fault : GoodIn wsX5_decode wsX8_fault := goodIn_r _ [6] rfl (by decide +kernel)
set_option maxRecDepth 20000 in
theorem gX5_decode_X8_fault_n54 : GoodIn wsX5_decode (wsX8_fault) := ggX5_decode_X8_fault
set_option maxRecDepth 20000 in
theorem ggX5_decode_X7_at : GoodIn wsX5_decode wsX7_at := goodIn_r _ [11, 12, 13, 14, 5, 15, 42, 43] rfl (by decide +kernel)
set_option maxRecDepth 20000 in
theorem gX5_decode_X7_at : GoodIn wsX5_decode (wsV RX5 57 RX7 yX7_at wsX7_at) := goodIn_app (goodIn_of _ (by decide +kernel)) ggX5_decode_X7_at
set_option maxRecDepth 20000 in
theorem ggX5_decode_X5_tellsBit : GoodIn wsX5_decode wsX5_tellsBit := goodIn_r _ [20, 21, 44, 45, 46, 47, 48, 49, 50, 51] rfl (by decide +kernel)
set_option maxRecDepth 20000 in
theorem gX5_decode_X5_tellsBit : GoodIn wsX5_decode (wsV RX5 37 RX5 yX5_tellsBit wsX5_tellsBit) := goodIn_app (goodIn_of _ (by decide +kernel)) ggX5_decode_X5_tellsBit
set_option maxRecDepth 20000 in
theorem ggX5_decode_X8_nearerOf : GoodIn wsX5_decode wsX8_nearerOf := goodIn_r _ [23, 24, 25, 26, 27, 28, 29, 5, 30, 31, 32, 33, 34, 14, 15] rfl (by decide +kernel)
set_option maxRecDepth 20000 in
theorem gX5_decode_X8_nearerOf_n60 : GoodIn wsX5_decode (wsX8_nearerOf) := ggX5_decode_X8_nearerOf
set_option maxRecDepth 20000 in
theorem ggX5_decode_X5_plainTime : GoodIn wsX5_decode wsX5_plainTime := goodIn_r _ [38, 39, 40, 41, 44, 45, 46, 47, 48, 49, 50, 51] rfl (by decide +kernel)
set_option maxRecDepth 20000 in
theorem gX5_decode_X5_plainTime : GoodIn wsX5_decode (wsV RX5 47 RX5 yX5_plainTime wsX5_plainTime) := goodIn_app (goodIn_of _ (by decide +kernel)) ggX5_decode_X5_plainTime
set_option maxRecDepth 20000 in
theorem ggX5_decode_X8_fits : GoodIn wsX5_decode wsX8_fits := goodIn_r _ [30, 24, 25, 26, 27, 31, 32, 5, 33, 34, 14, 15] rfl (by decide +kernel)
set_option maxRecDepth 20000 in
theorem gX5_decode_X8_fits_n64 : GoodIn wsX5_decode (wsX8_fits) := ggX5_decode_X8_fits
theorem dX5_decode_0 : decode cX5_decode 0 = .ok (.iconst 0, 1) := by decide +kernel
theorem dX5_decode_1 : decode cX5_decode 1 = .ok (.istore_n 3, 1) := by decide +kernel
theorem dX5_decode_2 : decode cX5_decode 2 = .ok (.iconst 0, 1) := by decide +kernel
theorem dX5_decode_3 : decode cX5_decode 3 = .ok (.istore 4, 2) := by decide +kernel
theorem dX5_decode_5 : decode cX5_decode 5 = .ok (.iload 4, 2) := by decide +kernel
theorem dX5_decode_7 : decode cX5_decode 7 = .ok (.aload_n 1, 1) := by decide +kernel
theorem dX5_decode_8 : decode cX5_decode 8 = .ok (.getfield 51, 3) := by decide +kernel
theorem dX5_decode_11 : decode cX5_decode 11 = .ok (.if_icmp .ge 100, 3) := by decide +kernel
theorem dX5_decode_14 : decode cX5_decode 14 = .ok (.iload 4, 2) := by decide +kernel
theorem dX5_decode_16 : decode cX5_decode 16 = .ok (.aload_n 0, 1) := by decide +kernel
theorem dX5_decode_17 : decode cX5_decode 17 = .ok (.getfield 34, 3) := by decide +kernel
theorem dX5_decode_20 : decode cX5_decode 20 = .ok (.if_icmp .lt 9, 3) := by decide +kernel
theorem dX5_decode_23 : decode cX5_decode 23 = .ok (.iload 4, 2) := by decide +kernel
theorem dX5_decode_25 : decode cX5_decode 25 = .ok (.invokestatic 54, 3) := by decide +kernel
theorem dX5_decode_28 : decode cX5_decode 28 = .ok (.ireturn, 1) := by decide +kernel
theorem dX5_decode_29 : decode cX5_decode 29 = .ok (.aload_n 1, 1) := by decide +kernel
theorem dX5_decode_30 : decode cX5_decode 30 = .ok (.iload 4, 2) := by decide +kernel
theorem dX5_decode_32 : decode cX5_decode 32 = .ok (.invokevirtual 57, 3) := by decide +kernel
theorem dX5_decode_35 : decode cX5_decode 35 = .ok (.istore 5, 2) := by decide +kernel
theorem dX5_decode_37 : decode cX5_decode 37 = .ok (.aload_n 0, 1) := by decide +kernel
theorem dX5_decode_38 : decode cX5_decode 38 = .ok (.iload 4, 2) := by decide +kernel
theorem dX5_decode_40 : decode cX5_decode 40 = .ok (.invokevirtual 37, 3) := by decide +kernel
theorem dX5_decode_43 : decode cX5_decode 43 = .ok (.ifCond .eq 41, 3) := by decide +kernel
theorem dX5_decode_46 : decode cX5_decode 46 = .ok (.iload 5, 2) := by decide +kernel
theorem dX5_decode_48 : decode cX5_decode 48 = .ok (.aload_n 0, 1) := by decide +kernel
theorem dX5_decode_49 : decode cX5_decode 49 = .ok (.getfield 28, 3) := by decide +kernel
theorem dX5_decode_52 : decode cX5_decode 52 = .ok (.aload_n 0, 1) := by decide +kernel
theorem dX5_decode_53 : decode cX5_decode 53 = .ok (.getfield 31, 3) := by decide +kernel
theorem dX5_decode_56 : decode cX5_decode 56 = .ok (.iload_n 2, 1) := by decide +kernel
theorem dX5_decode_57 : decode cX5_decode 57 = .ok (.invokestatic 60, 3) := by decide +kernel
theorem dX5_decode_60 : decode cX5_decode 60 = .ok (.istore 6, 2) := by decide +kernel
theorem dX5_decode_62 : decode cX5_decode 62 = .ok (.iload 6, 2) := by decide +kernel
theorem dX5_decode_64 : decode cX5_decode 64 = .ok (.iconst (-1), 1) := by decide +kernel
theorem dX5_decode_65 : decode cX5_decode 65 = .ok (.if_icmp .ne 9, 3) := by decide +kernel
theorem dX5_decode_68 : decode cX5_decode 68 = .ok (.iload 4, 2) := by decide +kernel
theorem dX5_decode_70 : decode cX5_decode 70 = .ok (.invokestatic 54, 3) := by decide +kernel
theorem dX5_decode_73 : decode cX5_decode 73 = .ok (.ireturn, 1) := by decide +kernel
theorem dX5_decode_74 : decode cX5_decode 74 = .ok (.iload_n 3, 1) := by decide +kernel
theorem dX5_decode_75 : decode cX5_decode 75 = .ok (.iconst 2, 1) := by decide +kernel
theorem dX5_decode_76 : decode cX5_decode 76 = .ok (.imul, 1) := by decide +kernel
theorem dX5_decode_77 : decode cX5_decode 77 = .ok (.iload 6, 2) := by decide +kernel
theorem dX5_decode_79 : decode cX5_decode 79 = .ok (.iadd, 1) := by decide +kernel
theorem dX5_decode_80 : decode cX5_decode 80 = .ok (.istore_n 3, 1) := by decide +kernel
theorem dX5_decode_81 : decode cX5_decode 81 = .ok (.goto 24, 3) := by decide +kernel
theorem dX5_decode_84 : decode cX5_decode 84 = .ok (.iload 5, 2) := by decide +kernel
theorem dX5_decode_86 : decode cX5_decode 86 = .ok (.aload_n 0, 1) := by decide +kernel
theorem dX5_decode_87 : decode cX5_decode 87 = .ok (.iload 4, 2) := by decide +kernel
theorem dX5_decode_89 : decode cX5_decode 89 = .ok (.invokevirtual 47, 3) := by decide +kernel
theorem dX5_decode_92 : decode cX5_decode 92 = .ok (.iload_n 2, 1) := by decide +kernel
theorem dX5_decode_93 : decode cX5_decode 93 = .ok (.invokestatic 64, 3) := by decide +kernel
theorem dX5_decode_96 : decode cX5_decode 96 = .ok (.ifCond .ne 9, 3) := by decide +kernel
theorem dX5_decode_99 : decode cX5_decode 99 = .ok (.iload 4, 2) := by decide +kernel
theorem dX5_decode_101 : decode cX5_decode 101 = .ok (.invokestatic 54, 3) := by decide +kernel
theorem dX5_decode_104 : decode cX5_decode 104 = .ok (.ireturn, 1) := by decide +kernel
theorem dX5_decode_105 : decode cX5_decode 105 = .ok (.iinc 4 1, 3) := by decide +kernel
theorem dX5_decode_108 : decode cX5_decode 108 = .ok (.goto (-103), 3) := by decide +kernel
theorem dX5_decode_111 : decode cX5_decode 111 = .ok (.aload_n 1, 1) := by decide +kernel
theorem dX5_decode_112 : decode cX5_decode 112 = .ok (.getfield 51, 3) := by decide +kernel
theorem dX5_decode_115 : decode cX5_decode 115 = .ok (.aload_n 0, 1) := by decide +kernel
theorem dX5_decode_116 : decode cX5_decode 116 = .ok (.getfield 34, 3) := by decide +kernel
theorem dX5_decode_119 : decode cX5_decode 119 = .ok (.if_icmp .ge 13, 3) := by decide +kernel
theorem dX5_decode_122 : decode cX5_decode 122 = .ok (.aload_n 1, 1) := by decide +kernel
theorem dX5_decode_123 : decode cX5_decode 123 = .ok (.getfield 51, 3) := by decide +kernel
theorem dX5_decode_126 : decode cX5_decode 126 = .ok (.invokestatic 54, 3) := by decide +kernel
theorem dX5_decode_129 : decode cX5_decode 129 = .ok (.goto 4, 3) := by decide +kernel
theorem dX5_decode_132 : decode cX5_decode 132 = .ok (.iload_n 3, 1) := by decide +kernel
theorem dX5_decode_133 : decode cX5_decode 133 = .ok (.ireturn, 1) := by decide +kernel
theorem dX6_init_0 : decode cX6_init 0 = .ok (.aload_n 0, 1) := by decide +kernel
theorem dX6_init_1 : decode cX6_init 1 = .ok (.invokespecial 3, 3) := by decide +kernel
theorem dX6_init_4 : decode cX6_init 4 = .ok (.aload_n 0, 1) := by decide +kernel
theorem dX6_init_5 : decode cX6_init 5 = .ok (.sipush 256, 3) := by decide +kernel
theorem dX6_init_8 : decode cX6_init 8 = .ok (.newarray .int, 2) := by decide +kernel
theorem dX6_init_10 : decode cX6_init 10 = .ok (.putfield 9, 3) := by decide +kernel
theorem dX6_init_13 : decode cX6_init 13 = .ok (.aload_n 0, 1) := by decide +kernel
theorem dX6_init_14 : decode cX6_init 14 = .ok (.sipush 256, 3) := by decide +kernel
theorem dX6_init_17 : decode cX6_init 17 = .ok (.newarray .int, 2) := by decide +kernel
theorem dX6_init_19 : decode cX6_init 19 = .ok (.putfield 15, 3) := by decide +kernel
theorem dX6_init_22 : decode cX6_init 22 = .ok (.aload_n 0, 1) := by decide +kernel
theorem dX6_init_23 : decode cX6_init 23 = .ok (.sipush 256, 3) := by decide +kernel
theorem dX6_init_26 : decode cX6_init 26 = .ok (.newarray .int, 2) := by decide +kernel
theorem dX6_init_28 : decode cX6_init 28 = .ok (.putfield 18, 3) := by decide +kernel
theorem dX6_init_31 : decode cX6_init 31 = .ok (.aload_n 0, 1) := by decide +kernel
theorem dX6_init_32 : decode cX6_init 32 = .ok (.sipush 256, 3) := by decide +kernel
theorem dX6_init_35 : decode cX6_init 35 = .ok (.newarray .int, 2) := by decide +kernel
theorem dX6_init_37 : decode cX6_init 37 = .ok (.putfield 21, 3) := by decide +kernel
theorem dX6_init_40 : decode cX6_init 40 = .ok (.aload_n 0, 1) := by decide +kernel
theorem dX6_init_41 : decode cX6_init 41 = .ok (.iconst 0, 1) := by decide +kernel
theorem dX6_init_42 : decode cX6_init 42 = .ok (.putfield 24, 3) := by decide +kernel
theorem dX6_init_45 : decode cX6_init 45 = .ok (.return_, 1) := by decide +kernel
set_option maxRecDepth 20000 in
theorem ggX6_find_J7_fill_53178 : GoodIn wsX6_find wsJ7_fill_53178 := goodIn_r _ [7] rfl (by decide +kernel)
set_option maxRecDepth 20000 in
theorem gX6_find_J7_fill_53178 : GoodIn wsX6_find (va_wsS RX6 28 yJ7_fill_53178 wsJ7_fill_53178) := goodIn_app (goodIn_of _ (by decide +kernel)) ggX6_find_J7_fill_53178
set_option maxRecDepth 20000 in
theorem ggX6_find_X6_keepRow : GoodIn wsX6_find wsX6_keepRow := goodIn_r _ [12, 13, 1, 14, 3, 30, 31, 32, 33, 34] rfl (by decide +kernel)
set_option maxRecDepth 20000 in
theorem gX6_find_X6_keepRow : GoodIn wsX6_find (wsV RX6 39 RX6 yX6_keepRow wsX6_keepRow) := goodIn_app (goodIn_of _ (by decide +kernel)) ggX6_find_X6_keepRow
set_option maxRecDepth 20000 in
theorem ggX6_find_X0_behind : GoodIn wsX6_find wsX0_behind := goodIn_r _ [19, 20, 21, 22, 23, 24, 18, 25, 26, 27, 28, 29, 35, 36, 37, 38] rfl (by decide +kernel)
set_option maxRecDepth 20000 in
theorem gX6_find_X0_behind : GoodIn wsX6_find (wsV RX6 46 RX0 yX0_behind wsX0_behind) := goodIn_app (goodIn_of _ (by decide +kernel)) ggX6_find_X0_behind
theorem dX6_find_0 : decode cX6_find 0 = .ok (.aload_n 0, 1) := by decide +kernel
theorem dX6_find_1 : decode cX6_find 1 = .ok (.getfield 18, 3) := by decide +kernel
theorem dX6_find_4 : decode cX6_find 4 = .ok (.iconst (-1), 1) := by decide +kernel
theorem dX6_find_5 : decode cX6_find 5 = .ok (.invokestatic 28, 3) := by decide +kernel
theorem dX6_find_8 : decode cX6_find 8 = .ok (.aload_n 1, 1) := by decide +kernel
theorem dX6_find_9 : decode cX6_find 9 = .ok (.getfield 34, 3) := by decide +kernel
theorem dX6_find_12 : decode cX6_find 12 = .ok (.istore_n 3, 1) := by decide +kernel
theorem dX6_find_13 : decode cX6_find 13 = .ok (.aload_n 0, 1) := by decide +kernel
theorem dX6_find_14 : decode cX6_find 14 = .ok (.getfield 15, 3) := by decide +kernel
theorem dX6_find_17 : decode cX6_find 17 = .ok (.iconst 0, 1) := by decide +kernel
theorem dX6_find_18 : decode cX6_find 18 = .ok (.iload_n 3, 1) := by decide +kernel
theorem dX6_find_19 : decode cX6_find 19 = .ok (.iastore, 1) := by decide +kernel
theorem dX6_find_20 : decode cX6_find 20 = .ok (.aload_n 0, 1) := by decide +kernel
theorem dX6_find_21 : decode cX6_find 21 = .ok (.getfield 18, 3) := by decide +kernel
theorem dX6_find_24 : decode cX6_find 24 = .ok (.iload_n 3, 1) := by decide +kernel
theorem dX6_find_25 : decode cX6_find 25 = .ok (.iload_n 3, 1) := by decide +kernel
theorem dX6_find_26 : decode cX6_find 26 = .ok (.iastore, 1) := by decide +kernel
theorem dX6_find_27 : decode cX6_find 27 = .ok (.iconst 1, 1) := by decide +kernel
theorem dX6_find_28 : decode cX6_find 28 = .ok (.istore 4, 2) := by decide +kernel
theorem dX6_find_30 : decode cX6_find 30 = .ok (.iconst 0, 1) := by decide +kernel
theorem dX6_find_31 : decode cX6_find 31 = .ok (.istore 5, 2) := by decide +kernel
theorem dX6_find_33 : decode cX6_find 33 = .ok (.iload 5, 2) := by decide +kernel
theorem dX6_find_35 : decode cX6_find 35 = .ok (.iload 4, 2) := by decide +kernel
theorem dX6_find_37 : decode cX6_find 37 = .ok (.if_icmp .ge 120, 3) := by decide +kernel
theorem dX6_find_40 : decode cX6_find 40 = .ok (.iload 5, 2) := by decide +kernel
theorem dX6_find_42 : decode cX6_find 42 = .ok (.sipush 256, 3) := by decide +kernel
theorem dX6_find_45 : decode cX6_find 45 = .ok (.if_icmp .ge 112, 3) := by decide +kernel
theorem dX6_find_48 : decode cX6_find 48 = .ok (.aload_n 0, 1) := by decide +kernel
theorem dX6_find_49 : decode cX6_find 49 = .ok (.getfield 15, 3) := by decide +kernel
theorem dX6_find_52 : decode cX6_find 52 = .ok (.iload 5, 2) := by decide +kernel
theorem dX6_find_54 : decode cX6_find 54 = .ok (.iaload, 1) := by decide +kernel
theorem dX6_find_55 : decode cX6_find 55 = .ok (.istore 6, 2) := by decide +kernel
theorem dX6_find_57 : decode cX6_find 57 = .ok (.iload 6, 2) := by decide +kernel
theorem dX6_find_59 : decode cX6_find 59 = .ok (.iload_n 2, 1) := by decide +kernel
theorem dX6_find_60 : decode cX6_find 60 = .ok (.iconst (-1), 1) := by decide +kernel
theorem dX6_find_61 : decode cX6_find 61 = .ok (.ixor, 1) := by decide +kernel
theorem dX6_find_62 : decode cX6_find 62 = .ok (.iand, 1) := by decide +kernel
theorem dX6_find_63 : decode cX6_find 63 = .ok (.ifCond .ne 11, 3) := by decide +kernel
theorem dX6_find_66 : decode cX6_find 66 = .ok (.aload_n 0, 1) := by decide +kernel
theorem dX6_find_67 : decode cX6_find 67 = .ok (.iload_n 3, 1) := by decide +kernel
theorem dX6_find_68 : decode cX6_find 68 = .ok (.iload 6, 2) := by decide +kernel
theorem dX6_find_70 : decode cX6_find 70 = .ok (.invokevirtual 39, 3) := by decide +kernel
theorem dX6_find_73 : decode cX6_find 73 = .ok (.ireturn, 1) := by decide +kernel
theorem dX6_find_74 : decode cX6_find 74 = .ok (.iconst 0, 1) := by decide +kernel
theorem dX6_find_75 : decode cX6_find 75 = .ok (.istore 7, 2) := by decide +kernel
theorem dX6_find_77 : decode cX6_find 77 = .ok (.iload 7, 2) := by decide +kernel
theorem dX6_find_79 : decode cX6_find 79 = .ok (.aload_n 1, 1) := by decide +kernel
theorem dX6_find_80 : decode cX6_find 80 = .ok (.getfield 43, 3) := by decide +kernel
theorem dX6_find_83 : decode cX6_find 83 = .ok (.if_icmp .ge 68, 3) := by decide +kernel
theorem dX6_find_86 : decode cX6_find 86 = .ok (.aload_n 1, 1) := by decide +kernel
theorem dX6_find_87 : decode cX6_find 87 = .ok (.iload 6, 2) := by decide +kernel
theorem dX6_find_89 : decode cX6_find 89 = .ok (.iload 7, 2) := by decide +kernel
theorem dX6_find_91 : decode cX6_find 91 = .ok (.invokevirtual 46, 3) := by decide +kernel
theorem dX6_find_94 : decode cX6_find 94 = .ok (.istore 8, 2) := by decide +kernel
theorem dX6_find_96 : decode cX6_find 96 = .ok (.aload_n 0, 1) := by decide +kernel
theorem dX6_find_97 : decode cX6_find 97 = .ok (.getfield 18, 3) := by decide +kernel
theorem dX6_find_100 : decode cX6_find 100 = .ok (.iload 8, 2) := by decide +kernel
theorem dX6_find_102 : decode cX6_find 102 = .ok (.iaload, 1) := by decide +kernel
theorem dX6_find_103 : decode cX6_find 103 = .ok (.iconst (-1), 1) := by decide +kernel
theorem dX6_find_104 : decode cX6_find 104 = .ok (.if_icmp .ne 41, 3) := by decide +kernel
theorem dX6_find_107 : decode cX6_find 107 = .ok (.iload 4, 2) := by decide +kernel
theorem dX6_find_109 : decode cX6_find 109 = .ok (.sipush 256, 3) := by decide +kernel
theorem dX6_find_112 : decode cX6_find 112 = .ok (.if_icmp .ge 33, 3) := by decide +kernel
theorem dX6_find_115 : decode cX6_find 115 = .ok (.aload_n 0, 1) := by decide +kernel
theorem dX6_find_116 : decode cX6_find 116 = .ok (.getfield 18, 3) := by decide +kernel
theorem dX6_find_119 : decode cX6_find 119 = .ok (.iload 8, 2) := by decide +kernel
theorem dX6_find_121 : decode cX6_find 121 = .ok (.iload 6, 2) := by decide +kernel
theorem dX6_find_123 : decode cX6_find 123 = .ok (.iastore, 1) := by decide +kernel
theorem dX6_find_124 : decode cX6_find 124 = .ok (.aload_n 0, 1) := by decide +kernel
theorem dX6_find_125 : decode cX6_find 125 = .ok (.getfield 21, 3) := by decide +kernel
theorem dX6_find_128 : decode cX6_find 128 = .ok (.iload 8, 2) := by decide +kernel
theorem dX6_find_130 : decode cX6_find 130 = .ok (.iload 7, 2) := by decide +kernel
theorem dX6_find_132 : decode cX6_find 132 = .ok (.iastore, 1) := by decide +kernel
theorem dX6_find_133 : decode cX6_find 133 = .ok (.aload_n 0, 1) := by decide +kernel
theorem dX6_find_134 : decode cX6_find 134 = .ok (.getfield 15, 3) := by decide +kernel
theorem dX6_find_137 : decode cX6_find 137 = .ok (.iload 4, 2) := by decide +kernel
theorem dX6_find_139 : decode cX6_find 139 = .ok (.iload 8, 2) := by decide +kernel
theorem dX6_find_141 : decode cX6_find 141 = .ok (.iastore, 1) := by decide +kernel
theorem dX6_find_142 : decode cX6_find 142 = .ok (.iinc 4 1, 3) := by decide +kernel
theorem dX6_find_145 : decode cX6_find 145 = .ok (.iinc 7 1, 3) := by decide +kernel
theorem dX6_find_148 : decode cX6_find 148 = .ok (.goto (-71), 3) := by decide +kernel
theorem dX6_find_151 : decode cX6_find 151 = .ok (.iinc 5 1, 3) := by decide +kernel
theorem dX6_find_154 : decode cX6_find 154 = .ok (.goto (-121), 3) := by decide +kernel
theorem dX6_find_157 : decode cX6_find 157 = .ok (.bipush (-2), 2) := by decide +kernel
theorem dX6_find_159 : decode cX6_find 159 = .ok (.ireturn, 1) := by decide +kernel
theorem dX6_keepRow_0 : decode cX6_keepRow 0 = .ok (.aload_n 0, 1) := by decide +kernel
theorem dX6_keepRow_1 : decode cX6_keepRow 1 = .ok (.iconst 0, 1) := by decide +kernel
theorem dX6_keepRow_2 : decode cX6_keepRow 2 = .ok (.putfield 24, 3) := by decide +kernel
theorem dX6_keepRow_5 : decode cX6_keepRow 5 = .ok (.iload_n 2, 1) := by decide +kernel
theorem dX6_keepRow_6 : decode cX6_keepRow 6 = .ok (.istore_n 3, 1) := by decide +kernel
theorem dX6_keepRow_7 : decode cX6_keepRow 7 = .ok (.iload_n 3, 1) := by decide +kernel
theorem dX6_keepRow_8 : decode cX6_keepRow 8 = .ok (.iload_n 1, 1) := by decide +kernel
theorem dX6_keepRow_9 : decode cX6_keepRow 9 = .ok (.if_icmp .eq 33, 3) := by decide +kernel
theorem dX6_keepRow_12 : decode cX6_keepRow 12 = .ok (.aload_n 0, 1) := by decide +kernel
theorem dX6_keepRow_13 : decode cX6_keepRow 13 = .ok (.getfield 24, 3) := by decide +kernel
theorem dX6_keepRow_16 : decode cX6_keepRow 16 = .ok (.sipush 256, 3) := by decide +kernel
theorem dX6_keepRow_19 : decode cX6_keepRow 19 = .ok (.if_icmp .ge 23, 3) := by decide +kernel
theorem dX6_keepRow_22 : decode cX6_keepRow 22 = .ok (.aload_n 0, 1) := by decide +kernel
theorem dX6_keepRow_23 : decode cX6_keepRow 23 = .ok (.dup, 1) := by decide +kernel
theorem dX6_keepRow_24 : decode cX6_keepRow 24 = .ok (.getfield 24, 3) := by decide +kernel
theorem dX6_keepRow_27 : decode cX6_keepRow 27 = .ok (.iconst 1, 1) := by decide +kernel
theorem dX6_keepRow_28 : decode cX6_keepRow 28 = .ok (.iadd, 1) := by decide +kernel
theorem dX6_keepRow_29 : decode cX6_keepRow 29 = .ok (.putfield 24, 3) := by decide +kernel
theorem dX6_keepRow_32 : decode cX6_keepRow 32 = .ok (.aload_n 0, 1) := by decide +kernel
theorem dX6_keepRow_33 : decode cX6_keepRow 33 = .ok (.getfield 18, 3) := by decide +kernel
theorem dX6_keepRow_36 : decode cX6_keepRow 36 = .ok (.iload_n 3, 1) := by decide +kernel
theorem dX6_keepRow_37 : decode cX6_keepRow 37 = .ok (.iaload, 1) := by decide +kernel
theorem dX6_keepRow_38 : decode cX6_keepRow 38 = .ok (.istore_n 3, 1) := by decide +kernel
theorem dX6_keepRow_39 : decode cX6_keepRow 39 = .ok (.goto (-32), 3) := by decide +kernel
theorem dX6_keepRow_42 : decode cX6_keepRow 42 = .ok (.iload_n 2, 1) := by decide +kernel
theorem dX6_keepRow_43 : decode cX6_keepRow 43 = .ok (.istore_n 3, 1) := by decide +kernel
theorem dX6_keepRow_44 : decode cX6_keepRow 44 = .ok (.aload_n 0, 1) := by decide +kernel
theorem dX6_keepRow_45 : decode cX6_keepRow 45 = .ok (.getfield 24, 3) := by decide +kernel
theorem dX6_keepRow_48 : decode cX6_keepRow 48 = .ok (.iconst 1, 1) := by decide +kernel
theorem dX6_keepRow_49 : decode cX6_keepRow 49 = .ok (.isub, 1) := by decide +kernel
theorem dX6_keepRow_50 : decode cX6_keepRow 50 = .ok (.istore 4, 2) := by decide +kernel
theorem dX6_keepRow_52 : decode cX6_keepRow 52 = .ok (.iload 4, 2) := by decide +kernel
theorem dX6_keepRow_54 : decode cX6_keepRow 54 = .ok (.ifCond .lt 29, 3) := by decide +kernel
theorem dX6_keepRow_57 : decode cX6_keepRow 57 = .ok (.aload_n 0, 1) := by decide +kernel
theorem dX6_keepRow_58 : decode cX6_keepRow 58 = .ok (.getfield 9, 3) := by decide +kernel
theorem dX6_keepRow_61 : decode cX6_keepRow 61 = .ok (.iload 4, 2) := by decide +kernel
theorem dX6_keepRow_63 : decode cX6_keepRow 63 = .ok (.aload_n 0, 1) := by decide +kernel
theorem dX6_keepRow_64 : decode cX6_keepRow 64 = .ok (.getfield 21, 3) := by decide +kernel
theorem dX6_keepRow_67 : decode cX6_keepRow 67 = .ok (.iload_n 3, 1) := by decide +kernel
theorem dX6_keepRow_68 : decode cX6_keepRow 68 = .ok (.iaload, 1) := by decide +kernel
theorem dX6_keepRow_69 : decode cX6_keepRow 69 = .ok (.iastore, 1) := by decide +kernel
theorem dX6_keepRow_70 : decode cX6_keepRow 70 = .ok (.aload_n 0, 1) := by decide +kernel
theorem dX6_keepRow_71 : decode cX6_keepRow 71 = .ok (.getfield 18, 3) := by decide +kernel
theorem dX6_keepRow_74 : decode cX6_keepRow 74 = .ok (.iload_n 3, 1) := by decide +kernel
theorem dX6_keepRow_75 : decode cX6_keepRow 75 = .ok (.iaload, 1) := by decide +kernel
theorem dX6_keepRow_76 : decode cX6_keepRow 76 = .ok (.istore_n 3, 1) := by decide +kernel
theorem dX6_keepRow_77 : decode cX6_keepRow 77 = .ok (.iinc 4 (-1), 3) := by decide +kernel
theorem dX6_keepRow_80 : decode cX6_keepRow 80 = .ok (.goto (-28), 3) := by decide +kernel
theorem dX6_keepRow_83 : decode cX6_keepRow 83 = .ok (.aload_n 0, 1) := by decide +kernel
theorem dX6_keepRow_84 : decode cX6_keepRow 84 = .ok (.getfield 24, 3) := by decide +kernel
theorem dX6_keepRow_87 : decode cX6_keepRow 87 = .ok (.ireturn, 1) := by decide +kernel
set_option maxRecDepth 20000 in
theorem ggX6_buttonAt_X8_within : GoodIn wsX6_buttonAt wsX8_within := goodIn_r _ [5] rfl (by decide +kernel)
set_option maxRecDepth 20000 in
theorem gX6_buttonAt_X8_within_n49 : GoodIn wsX6_buttonAt (wsX8_within) := ggX6_buttonAt_X8_within
theorem dX6_buttonAt_0 : decode cX6_buttonAt 0 = .ok (.iload_n 1, 1) := by decide +kernel
theorem dX6_buttonAt_1 : decode cX6_buttonAt 1 = .ok (.iconst 0, 1) := by decide +kernel
theorem dX6_buttonAt_2 : decode cX6_buttonAt 2 = .ok (.aload_n 0, 1) := by decide +kernel
theorem dX6_buttonAt_3 : decode cX6_buttonAt 3 = .ok (.getfield 24, 3) := by decide +kernel
theorem dX6_buttonAt_6 : decode cX6_buttonAt 6 = .ok (.iconst 1, 1) := by decide +kernel
theorem dX6_buttonAt_7 : decode cX6_buttonAt 7 = .ok (.isub, 1) := by decide +kernel
theorem dX6_buttonAt_8 : decode cX6_buttonAt 8 = .ok (.invokestatic 49, 3) := by decide +kernel
theorem dX6_buttonAt_11 : decode cX6_buttonAt 11 = .ok (.ifCond .eq 12, 3) := by decide +kernel
theorem dX6_buttonAt_14 : decode cX6_buttonAt 14 = .ok (.aload_n 0, 1) := by decide +kernel
theorem dX6_buttonAt_15 : decode cX6_buttonAt 15 = .ok (.getfield 9, 3) := by decide +kernel
theorem dX6_buttonAt_18 : decode cX6_buttonAt 18 = .ok (.iload_n 1, 1) := by decide +kernel
theorem dX6_buttonAt_19 : decode cX6_buttonAt 19 = .ok (.iaload, 1) := by decide +kernel
theorem dX6_buttonAt_20 : decode cX6_buttonAt 20 = .ok (.goto 4, 3) := by decide +kernel
theorem dX6_buttonAt_23 : decode cX6_buttonAt 23 = .ok (.iconst (-1), 1) := by decide +kernel
theorem dX6_buttonAt_24 : decode cX6_buttonAt 24 = .ok (.ireturn, 1) := by decide +kernel
theorem dX7_init_0 : decode cX7_init 0 = .ok (.aload_n 0, 1) := by decide +kernel
theorem dX7_init_1 : decode cX7_init 1 = .ok (.invokespecial 3, 3) := by decide +kernel
theorem dX7_init_4 : decode cX7_init 4 = .ok (.aload_n 0, 1) := by decide +kernel
theorem dX7_init_5 : decode cX7_init 5 = .ok (.bipush 120, 2) := by decide +kernel
theorem dX7_init_7 : decode cX7_init 7 = .ok (.newarray .int, 2) := by decide +kernel
theorem dX7_init_9 : decode cX7_init 9 = .ok (.putfield 9, 3) := by decide +kernel
theorem dX7_init_12 : decode cX7_init 12 = .ok (.aload_n 0, 1) := by decide +kernel
theorem dX7_init_13 : decode cX7_init 13 = .ok (.iconst 0, 1) := by decide +kernel
theorem dX7_init_14 : decode cX7_init 14 = .ok (.putfield 15, 3) := by decide +kernel
theorem dX7_init_17 : decode cX7_init 17 = .ok (.return_, 1) := by decide +kernel
theorem dX7_append_0 : decode cX7_append 0 = .ok (.aload_n 0, 1) := by decide +kernel
theorem dX7_append_1 : decode cX7_append 1 = .ok (.getfield 15, 3) := by decide +kernel
theorem dX7_append_4 : decode cX7_append 4 = .ok (.bipush 120, 2) := by decide +kernel
theorem dX7_append_6 : decode cX7_append 6 = .ok (.if_icmp .ge 23, 3) := by decide +kernel
theorem dX7_append_9 : decode cX7_append 9 = .ok (.aload_n 0, 1) := by decide +kernel
theorem dX7_append_10 : decode cX7_append 10 = .ok (.getfield 9, 3) := by decide +kernel
theorem dX7_append_13 : decode cX7_append 13 = .ok (.aload_n 0, 1) := by decide +kernel
theorem dX7_append_14 : decode cX7_append 14 = .ok (.getfield 15, 3) := by decide +kernel
theorem dX7_append_17 : decode cX7_append 17 = .ok (.iload_n 1, 1) := by decide +kernel
theorem dX7_append_18 : decode cX7_append 18 = .ok (.iastore, 1) := by decide +kernel
theorem dX7_append_19 : decode cX7_append 19 = .ok (.aload_n 0, 1) := by decide +kernel
theorem dX7_append_20 : decode cX7_append 20 = .ok (.dup, 1) := by decide +kernel
theorem dX7_append_21 : decode cX7_append 21 = .ok (.getfield 15, 3) := by decide +kernel
theorem dX7_append_24 : decode cX7_append 24 = .ok (.iconst 1, 1) := by decide +kernel
theorem dX7_append_25 : decode cX7_append 25 = .ok (.iadd, 1) := by decide +kernel
theorem dX7_append_26 : decode cX7_append 26 = .ok (.putfield 15, 3) := by decide +kernel
theorem dX7_append_29 : decode cX7_append 29 = .ok (.return_, 1) := by decide +kernel
theorem dX7_lengthenLast_0 : decode cX7_lengthenLast 0 = .ok (.aload_n 0, 1) := by decide +kernel
theorem dX7_lengthenLast_1 : decode cX7_lengthenLast 1 = .ok (.getfield 15, 3) := by decide +kernel
theorem dX7_lengthenLast_4 : decode cX7_lengthenLast 4 = .ok (.ifCond .le 18, 3) := by decide +kernel
theorem dX7_lengthenLast_7 : decode cX7_lengthenLast 7 = .ok (.aload_n 0, 1) := by decide +kernel
theorem dX7_lengthenLast_8 : decode cX7_lengthenLast 8 = .ok (.getfield 9, 3) := by decide +kernel
theorem dX7_lengthenLast_11 : decode cX7_lengthenLast 11 = .ok (.aload_n 0, 1) := by decide +kernel
theorem dX7_lengthenLast_12 : decode cX7_lengthenLast 12 = .ok (.getfield 15, 3) := by decide +kernel
theorem dX7_lengthenLast_15 : decode cX7_lengthenLast 15 = .ok (.iconst 1, 1) := by decide +kernel
theorem dX7_lengthenLast_16 : decode cX7_lengthenLast 16 = .ok (.isub, 1) := by decide +kernel
theorem dX7_lengthenLast_17 : decode cX7_lengthenLast 17 = .ok (.dup2, 1) := by decide +kernel
theorem dX7_lengthenLast_18 : decode cX7_lengthenLast 18 = .ok (.iaload, 1) := by decide +kernel
theorem dX7_lengthenLast_19 : decode cX7_lengthenLast 19 = .ok (.iload_n 1, 1) := by decide +kernel
theorem dX7_lengthenLast_20 : decode cX7_lengthenLast 20 = .ok (.iadd, 1) := by decide +kernel
theorem dX7_lengthenLast_21 : decode cX7_lengthenLast 21 = .ok (.iastore, 1) := by decide +kernel
theorem dX7_lengthenLast_22 : decode cX7_lengthenLast 22 = .ok (.return_, 1) := by decide +kernel
set_option maxRecDepth 20000 in
theorem ggX7_at_X8_within : GoodIn wsX7_at wsX8_within := goodIn_r _ [5] rfl (by decide +kernel)
set_option maxRecDepth 20000 in
theorem gX7_at_X8_within_n19 : GoodIn wsX7_at (wsX8_within) := ggX7_at_X8_within
theorem dX7_at_0 : decode cX7_at 0 = .ok (.iload_n 1, 1) := by decide +kernel
theorem dX7_at_1 : decode cX7_at 1 = .ok (.iconst 0, 1) := by decide +kernel
theorem dX7_at_2 : decode cX7_at 2 = .ok (.aload_n 0, 1) := by decide +kernel
theorem dX7_at_3 : decode cX7_at 3 = .ok (.getfield 15, 3) := by decide +kernel
theorem dX7_at_6 : decode cX7_at 6 = .ok (.iconst 1, 1) := by decide +kernel
theorem dX7_at_7 : decode cX7_at 7 = .ok (.isub, 1) := by decide +kernel
theorem dX7_at_8 : decode cX7_at 8 = .ok (.invokestatic 19, 3) := by decide +kernel
theorem dX7_at_11 : decode cX7_at 11 = .ok (.ifCond .eq 12, 3) := by decide +kernel
theorem dX7_at_14 : decode cX7_at 14 = .ok (.aload_n 0, 1) := by decide +kernel
theorem dX7_at_15 : decode cX7_at 15 = .ok (.getfield 9, 3) := by decide +kernel
theorem dX7_at_18 : decode cX7_at 18 = .ok (.iload_n 1, 1) := by decide +kernel
theorem dX7_at_19 : decode cX7_at 19 = .ok (.iaload, 1) := by decide +kernel
theorem dX7_at_20 : decode cX7_at 20 = .ok (.goto 4, 3) := by decide +kernel
theorem dX7_at_23 : decode cX7_at 23 = .ok (.iconst 0, 1) := by decide +kernel
theorem dX7_at_24 : decode cX7_at 24 = .ok (.ireturn, 1) := by decide +kernel
end
section
set_option maxRecDepth 20000 in
theorem ggX7_stretchAll_X8_isTime : GoodIn wsX7_stretchAll wsX8_isTime := goodIn_r _ [12, 13, 14, 11, 15] rfl (by decide +kernel)
set_option maxRecDepth 20000 in
theorem gX7_stretchAll_X8_isTime_n23 : GoodIn wsX7_stretchAll (wsX8_isTime) := ggX7_stretchAll_X8_isTime
theorem dX7_stretchAll_0 : decode cX7_stretchAll 0 = .ok (.iconst 0, 1) := by decide +kernel
theorem dX7_stretchAll_1 : decode cX7_stretchAll 1 = .ok (.istore_n 2, 1) := by decide +kernel
theorem dX7_stretchAll_2 : decode cX7_stretchAll 2 = .ok (.iload_n 2, 1) := by decide +kernel
theorem dX7_stretchAll_3 : decode cX7_stretchAll 3 = .ok (.aload_n 0, 1) := by decide +kernel
theorem dX7_stretchAll_4 : decode cX7_stretchAll 4 = .ok (.getfield 15, 3) := by decide +kernel
theorem dX7_stretchAll_7 : decode cX7_stretchAll 7 = .ok (.if_icmp .ge 53, 3) := by decide +kernel
theorem dX7_stretchAll_10 : decode cX7_stretchAll 10 = .ok (.aload_n 0, 1) := by decide +kernel
theorem dX7_stretchAll_11 : decode cX7_stretchAll 11 = .ok (.getfield 9, 3) := by decide +kernel
theorem dX7_stretchAll_14 : decode cX7_stretchAll 14 = .ok (.iload_n 2, 1) := by decide +kernel
theorem dX7_stretchAll_15 : decode cX7_stretchAll 15 = .ok (.iaload, 1) := by decide +kernel
theorem dX7_stretchAll_16 : decode cX7_stretchAll 16 = .ok (.invokestatic 23, 3) := by decide +kernel
theorem dX7_stretchAll_19 : decode cX7_stretchAll 19 = .ok (.ifCond .eq 35, 3) := by decide +kernel
theorem dX7_stretchAll_22 : decode cX7_stretchAll 22 = .ok (.aload_n 0, 1) := by decide +kernel
theorem dX7_stretchAll_23 : decode cX7_stretchAll 23 = .ok (.getfield 9, 3) := by decide +kernel
theorem dX7_stretchAll_26 : decode cX7_stretchAll 26 = .ok (.iload_n 2, 1) := by decide +kernel
theorem dX7_stretchAll_27 : decode cX7_stretchAll 27 = .ok (.iaload, 1) := by decide +kernel
theorem dX7_stretchAll_28 : decode cX7_stretchAll 28 = .ok (.bipush 100, 2) := by decide +kernel
theorem dX7_stretchAll_30 : decode cX7_stretchAll 30 = .ok (.iload_n 1, 1) := by decide +kernel
theorem dX7_stretchAll_31 : decode cX7_stretchAll 31 = .ok (.iadd, 1) := by decide +kernel
theorem dX7_stretchAll_32 : decode cX7_stretchAll 32 = .ok (.imul, 1) := by decide +kernel
theorem dX7_stretchAll_33 : decode cX7_stretchAll 33 = .ok (.bipush 100, 2) := by decide +kernel
theorem dX7_stretchAll_35 : decode cX7_stretchAll 35 = .ok (.idiv, 1) := by decide +kernel
theorem dX7_stretchAll_36 : decode cX7_stretchAll 36 = .ok (.istore_n 3, 1) := by decide +kernel
theorem dX7_stretchAll_37 : decode cX7_stretchAll 37 = .ok (.aload_n 0, 1) := by decide +kernel
theorem dX7_stretchAll_38 : decode cX7_stretchAll 38 = .ok (.getfield 9, 3) := by decide +kernel
theorem dX7_stretchAll_41 : decode cX7_stretchAll 41 = .ok (.iload_n 2, 1) := by decide +kernel
theorem dX7_stretchAll_42 : decode cX7_stretchAll 42 = .ok (.iconst 1, 1) := by decide +kernel
theorem dX7_stretchAll_43 : decode cX7_stretchAll 43 = .ok (.sipush 20000, 3) := by decide +kernel
theorem dX7_stretchAll_46 : decode cX7_stretchAll 46 = .ok (.iload_n 3, 1) := by decide +kernel
theorem dX7_stretchAll_47 : decode cX7_stretchAll 47 = .ok (.invokestatic 27, 3) := by decide +kernel
theorem dX7_stretchAll_50 : decode cX7_stretchAll 50 = .ok (.invokestatic 33, 3) := by decide +kernel
theorem dX7_stretchAll_53 : decode cX7_stretchAll 53 = .ok (.iastore, 1) := by decide +kernel
theorem dX7_stretchAll_54 : decode cX7_stretchAll 54 = .ok (.iinc 2 1, 3) := by decide +kernel
theorem dX7_stretchAll_57 : decode cX7_stretchAll 57 = .ok (.goto (-55), 3) := by decide +kernel
theorem dX7_stretchAll_60 : decode cX7_stretchAll 60 = .ok (.return_, 1) := by decide +kernel
set_option maxRecDepth 20000 in
theorem ggX8_init_X7_init : GoodIn wsX8_init wsX7_init := goodIn_r _ [20, 21, 2, 3, 22, 23, 24, 52, 53] rfl (by decide +kernel)
set_option maxRecDepth 20000 in
theorem gX8_init_X7_init_n11 : GoodIn wsX8_init (wsX7_init) := ggX8_init_X7_init
set_option maxRecDepth 20000 in
theorem ggX8_init_X0_init : GoodIn wsX8_init wsX0_init := goodIn_r _ [27, 28, 2, 3, 22, 29, 30, 31, 32, 14, 33, 34, 35, 36, 37, 38, 39, 40, 41, 42, 43, 59, 60, 61, 62] rfl (by decide +kernel)
set_option maxRecDepth 20000 in
theorem gX8_init_X0_init : GoodIn wsX8_init (wsX0_init) := ggX8_init_X0_init
set_option maxRecDepth 20000 in
theorem ggX8_init_X6_init : GoodIn wsX8_init wsX6_init := goodIn_r _ [45, 46, 2, 3, 22, 47, 48, 49, 50, 51, 63, 64, 65, 66, 67] rfl (by decide +kernel)
set_option maxRecDepth 20000 in
theorem gX8_init_X6_init_n35 : GoodIn wsX8_init (wsX6_init) := ggX8_init_X6_init
theorem dX8_init_0 : decode cX8_init 0 = .ok (.aload_n 0, 1) := by decide +kernel
theorem dX8_init_1 : decode cX8_init 1 = .ok (.invokespecial 3, 3) := by decide +kernel
theorem dX8_init_4 : decode cX8_init 4 = .ok (.aload_n 0, 1) := by decide +kernel
theorem dX8_init_5 : decode cX8_init 5 = .ok (.new 9, 3) := by decide +kernel
theorem dX8_init_8 : decode cX8_init 8 = .ok (.dup, 1) := by decide +kernel
theorem dX8_init_9 : decode cX8_init 9 = .ok (.invokespecial 11, 3) := by decide +kernel
theorem dX8_init_12 : decode cX8_init 12 = .ok (.putfield 12, 3) := by decide +kernel
theorem dX8_init_15 : decode cX8_init 15 = .ok (.aload_n 0, 1) := by decide +kernel
theorem dX8_init_16 : decode cX8_init 16 = .ok (.bipush 8, 2) := by decide +kernel
theorem dX8_init_18 : decode cX8_init 18 = .ok (.anewarray 16, 3) := by decide +kernel
theorem dX8_init_21 : decode cX8_init 21 = .ok (.putfield 18, 3) := by decide +kernel
theorem dX8_init_24 : decode cX8_init 24 = .ok (.aload_n 0, 1) := by decide +kernel
theorem dX8_init_25 : decode cX8_init 25 = .ok (.iconst 0, 1) := by decide +kernel
theorem dX8_init_26 : decode cX8_init 26 = .ok (.putfield 22, 3) := by decide +kernel
theorem dX8_init_29 : decode cX8_init 29 = .ok (.aload_n 0, 1) := by decide +kernel
theorem dX8_init_30 : decode cX8_init 30 = .ok (.iconst 4, 1) := by decide +kernel
theorem dX8_init_31 : decode cX8_init 31 = .ok (.anewarray 26, 3) := by decide +kernel
theorem dX8_init_34 : decode cX8_init 34 = .ok (.putfield 28, 3) := by decide +kernel
theorem dX8_init_37 : decode cX8_init 37 = .ok (.iconst 0, 1) := by decide +kernel
theorem dX8_init_38 : decode cX8_init 38 = .ok (.istore_n 1, 1) := by decide +kernel
theorem dX8_init_39 : decode cX8_init 39 = .ok (.iload_n 1, 1) := by decide +kernel
theorem dX8_init_40 : decode cX8_init 40 = .ok (.iconst 4, 1) := by decide +kernel
theorem dX8_init_41 : decode cX8_init 41 = .ok (.if_icmp .ge 22, 3) := by decide +kernel
theorem dX8_init_44 : decode cX8_init 44 = .ok (.aload_n 0, 1) := by decide +kernel
theorem dX8_init_45 : decode cX8_init 45 = .ok (.getfield 28, 3) := by decide +kernel
theorem dX8_init_48 : decode cX8_init 48 = .ok (.iload_n 1, 1) := by decide +kernel
theorem dX8_init_49 : decode cX8_init 49 = .ok (.new 26, 3) := by decide +kernel
theorem dX8_init_52 : decode cX8_init 52 = .ok (.dup, 1) := by decide +kernel
theorem dX8_init_53 : decode cX8_init 53 = .ok (.invokespecial 32, 3) := by decide +kernel
theorem dX8_init_56 : decode cX8_init 56 = .ok (.aastore, 1) := by decide +kernel
theorem dX8_init_57 : decode cX8_init 57 = .ok (.iinc 1 1, 3) := by decide +kernel
theorem dX8_init_60 : decode cX8_init 60 = .ok (.goto (-21), 3) := by decide +kernel
theorem dX8_init_63 : decode cX8_init 63 = .ok (.aload_n 0, 1) := by decide +kernel
theorem dX8_init_64 : decode cX8_init 64 = .ok (.new 33, 3) := by decide +kernel
theorem dX8_init_67 : decode cX8_init 67 = .ok (.dup, 1) := by decide +kernel
theorem dX8_init_68 : decode cX8_init 68 = .ok (.invokespecial 35, 3) := by decide +kernel
theorem dX8_init_71 : decode cX8_init 71 = .ok (.putfield 36, 3) := by decide +kernel
theorem dX8_init_74 : decode cX8_init 74 = .ok (.return_, 1) := by decide +kernel
set_option maxRecDepth 20000 in
theorem ggX8_make_X8_within : GoodIn wsX8_make wsX8_within := goodIn_r _ [15] rfl (by decide +kernel)
set_option maxRecDepth 20000 in
theorem gX8_make_X8_within : GoodIn wsX8_make (va_wsS RX8 40 yX8_within wsX8_within) := goodIn_app (goodIn_of _ (by decide +kernel)) ggX8_make_X8_within
set_option maxRecDepth 20000 in
theorem ggX8_make_X8_isNumber : GoodIn wsX8_make wsX8_isNumber := goodIn_r _ [18, 12, 13, 14, 15] rfl (by decide +kernel)
set_option maxRecDepth 20000 in
theorem gX8_make_X8_isNumber : GoodIn wsX8_make (va_wsS RX8 44 yX8_isNumber wsX8_isNumber) := goodIn_app (goodIn_of _ (by decide +kernel)) ggX8_make_X8_isNumber
set_option maxRecDepth 20000 in
theorem ggX8_make_X2_init : GoodIn wsX8_make wsX2_init := goodIn_r _ [21, 22, 23, 24, 25, 26, 27, 28, 29, 105, 106] rfl (by decide +kernel)
set_option maxRecDepth 20000 in
theorem gX8_make_X2_init : GoodIn wsX8_make (wsX2_init) := ggX8_make_X2_init
set_option maxRecDepth 20000 in
theorem ggX8_make_X5_init : GoodIn wsX8_make wsX5_init := goodIn_r _ [32, 33, 34, 35, 36, 37, 38, 39, 40, 24, 25, 26, 27, 28, 29, 107, 108, 109, 110, 111, 112, 113, 114] rfl (by decide +kernel)
set_option maxRecDepth 20000 in
theorem gX8_make_X5_init : GoodIn wsX8_make (wsX5_init) := ggX8_make_X5_init
set_option maxRecDepth 20000 in
theorem ggX8_make_X4_init : GoodIn wsX8_make wsX4_init := goodIn_r _ [43, 44, 28, 29, 45, 46, 47, 48, 49, 50, 51, 52, 53, 54, 55, 56, 57, 58, 59, 60, 61, 62, 63, 64, 65, 66, 67, 68, 69, 70, 71, 72, 73, 74, 75, 76, 77, 78, 14, 79, 80, 81, 82, 83, 84, 85, 86, 87, 88, 89, 90, 91, 92, 93, 94, 95, 96, 97, 98, 99, 115, 116, 117, 118, 119, 120, 121, 122, 123, 124, 125, 126, 127] rfl (by decide +kernel)
set_option maxRecDepth 20000 in
theorem gX8_make_X4_init : GoodIn wsX8_make (wsX4_init) := ggX8_make_X4_init
theorem dX8_make_0 : decode cX8_make 0 = .ok (.aload_n 0, 1) := by decide +kernel
theorem dX8_make_1 : decode cX8_make 1 = .ok (.getfield 22, 3) := by decide +kernel
theorem dX8_make_4 : decode cX8_make 4 = .ok (.bipush 8, 2) := by decide +kernel
theorem dX8_make_6 : decode cX8_make 6 = .ok (.if_icmp .ge 22, 3) := by decide +kernel
theorem dX8_make_9 : decode cX8_make 9 = .ok (.iload_n 1, 1) := by decide +kernel
theorem dX8_make_10 : decode cX8_make 10 = .ok (.iconst 0, 1) := by decide +kernel
theorem dX8_make_11 : decode cX8_make 11 = .ok (.iconst 2, 1) := by decide +kernel
theorem dX8_make_12 : decode cX8_make 12 = .ok (.invokestatic 40, 3) := by decide +kernel
theorem dX8_make_15 : decode cX8_make 15 = .ok (.ifCond .eq 13, 3) := by decide +kernel
theorem dX8_make_18 : decode cX8_make 18 = .ok (.iload_n 2, 1) := by decide +kernel
theorem dX8_make_19 : decode cX8_make 19 = .ok (.iconst 1, 1) := by decide +kernel
theorem dX8_make_20 : decode cX8_make 20 = .ok (.bipush 24, 2) := by decide +kernel
theorem dX8_make_22 : decode cX8_make 22 = .ok (.invokestatic 40, 3) := by decide +kernel
theorem dX8_make_25 : decode cX8_make 25 = .ok (.ifCond .ne 5, 3) := by decide +kernel
theorem dX8_make_28 : decode cX8_make 28 = .ok (.iconst (-1), 1) := by decide +kernel
theorem dX8_make_29 : decode cX8_make 29 = .ok (.ireturn, 1) := by decide +kernel
theorem dX8_make_30 : decode cX8_make 30 = .ok (.iload_n 3, 1) := by decide +kernel
theorem dX8_make_31 : decode cX8_make 31 = .ok (.invokestatic 44, 3) := by decide +kernel
theorem dX8_make_34 : decode cX8_make 34 = .ok (.ifCond .eq 42, 3) := by decide +kernel
theorem dX8_make_37 : decode cX8_make 37 = .ok (.iload 4, 2) := by decide +kernel
theorem dX8_make_39 : decode cX8_make 39 = .ok (.invokestatic 44, 3) := by decide +kernel
theorem dX8_make_42 : decode cX8_make 42 = .ok (.ifCond .eq 34, 3) := by decide +kernel
theorem dX8_make_45 : decode cX8_make 45 = .ok (.iload 5, 2) := by decide +kernel
theorem dX8_make_47 : decode cX8_make 47 = .ok (.invokestatic 44, 3) := by decide +kernel
theorem dX8_make_50 : decode cX8_make 50 = .ok (.ifCond .eq 26, 3) := by decide +kernel
theorem dX8_make_53 : decode cX8_make 53 = .ok (.iload 6, 2) := by decide +kernel
theorem dX8_make_55 : decode cX8_make 55 = .ok (.invokestatic 44, 3) := by decide +kernel
theorem dX8_make_58 : decode cX8_make 58 = .ok (.ifCond .eq 18, 3) := by decide +kernel
theorem dX8_make_61 : decode cX8_make 61 = .ok (.iload 7, 2) := by decide +kernel
theorem dX8_make_63 : decode cX8_make 63 = .ok (.invokestatic 44, 3) := by decide +kernel
theorem dX8_make_66 : decode cX8_make 66 = .ok (.ifCond .eq 10, 3) := by decide +kernel
theorem dX8_make_69 : decode cX8_make 69 = .ok (.iload 6, 2) := by decide +kernel
theorem dX8_make_71 : decode cX8_make 71 = .ok (.iload 7, 2) := by decide +kernel
theorem dX8_make_73 : decode cX8_make 73 = .ok (.if_icmp .ne 5, 3) := by decide +kernel
theorem dX8_make_76 : decode cX8_make 76 = .ok (.iconst (-1), 1) := by decide +kernel
theorem dX8_make_77 : decode cX8_make 77 = .ok (.ireturn, 1) := by decide +kernel
theorem dX8_make_78 : decode cX8_make 78 = .ok (.iload_n 1, 1) := by decide +kernel
theorem dX8_make_79 : decode cX8_make 79 = .ok (.iconst 2, 1) := by decide +kernel
theorem dX8_make_80 : decode cX8_make 80 = .ok (.if_icmp .ne 16, 3) := by decide +kernel
theorem dX8_make_83 : decode cX8_make 83 = .ok (.new 48, 3) := by decide +kernel
theorem dX8_make_86 : decode cX8_make 86 = .ok (.dup, 1) := by decide +kernel
theorem dX8_make_87 : decode cX8_make 87 = .ok (.iload_n 2, 1) := by decide +kernel
theorem dX8_make_88 : decode cX8_make 88 = .ok (.iload 5, 2) := by decide +kernel
theorem dX8_make_90 : decode cX8_make 90 = .ok (.invokespecial 50, 3) := by decide +kernel
theorem dX8_make_93 : decode cX8_make 93 = .ok (.goto 30, 3) := by decide +kernel
theorem dX8_make_96 : decode cX8_make 96 = .ok (.new 53, 3) := by decide +kernel
theorem dX8_make_99 : decode cX8_make 99 = .ok (.dup, 1) := by decide +kernel
theorem dX8_make_100 : decode cX8_make 100 = .ok (.iload_n 1, 1) := by decide +kernel
theorem dX8_make_101 : decode cX8_make 101 = .ok (.iconst 1, 1) := by decide +kernel
theorem dX8_make_102 : decode cX8_make 102 = .ok (.if_icmp .ne 7, 3) := by decide +kernel
theorem dX8_make_105 : decode cX8_make 105 = .ok (.iconst 1, 1) := by decide +kernel
theorem dX8_make_106 : decode cX8_make 106 = .ok (.goto 4, 3) := by decide +kernel
theorem dX8_make_109 : decode cX8_make 109 = .ok (.iconst 0, 1) := by decide +kernel
theorem dX8_make_110 : decode cX8_make 110 = .ok (.iload_n 2, 1) := by decide +kernel
theorem dX8_make_111 : decode cX8_make 111 = .ok (.iload_n 3, 1) := by decide +kernel
theorem dX8_make_112 : decode cX8_make 112 = .ok (.iload 4, 2) := by decide +kernel
theorem dX8_make_114 : decode cX8_make 114 = .ok (.iload 5, 2) := by decide +kernel
theorem dX8_make_116 : decode cX8_make 116 = .ok (.iload 6, 2) := by decide +kernel
theorem dX8_make_118 : decode cX8_make 118 = .ok (.iload 7, 2) := by decide +kernel
theorem dX8_make_120 : decode cX8_make 120 = .ok (.invokespecial 55, 3) := by decide +kernel
theorem dX8_make_123 : decode cX8_make 123 = .ok (.astore 8, 2) := by decide +kernel
theorem dX8_make_125 : decode cX8_make 125 = .ok (.aload_n 0, 1) := by decide +kernel
theorem dX8_make_126 : decode cX8_make 126 = .ok (.getfield 18, 3) := by decide +kernel
theorem dX8_make_129 : decode cX8_make 129 = .ok (.aload_n 0, 1) := by decide +kernel
theorem dX8_make_130 : decode cX8_make 130 = .ok (.getfield 22, 3) := by decide +kernel
theorem dX8_make_133 : decode cX8_make 133 = .ok (.new 16, 3) := by decide +kernel
theorem dX8_make_136 : decode cX8_make 136 = .ok (.dup, 1) := by decide +kernel
theorem dX8_make_137 : decode cX8_make 137 = .ok (.iload_n 1, 1) := by decide +kernel
theorem dX8_make_138 : decode cX8_make 138 = .ok (.iload_n 2, 1) := by decide +kernel
theorem dX8_make_139 : decode cX8_make 139 = .ok (.aload 8, 2) := by decide +kernel
theorem dX8_make_141 : decode cX8_make 141 = .ok (.invokespecial 58, 3) := by decide +kernel
theorem dX8_make_144 : decode cX8_make 144 = .ok (.aastore, 1) := by decide +kernel
theorem dX8_make_145 : decode cX8_make 145 = .ok (.aload_n 0, 1) := by decide +kernel
theorem dX8_make_146 : decode cX8_make 146 = .ok (.dup, 1) := by decide +kernel
theorem dX8_make_147 : decode cX8_make 147 = .ok (.getfield 22, 3) := by decide +kernel
theorem dX8_make_150 : decode cX8_make 150 = .ok (.iconst 1, 1) := by decide +kernel
theorem dX8_make_151 : decode cX8_make 151 = .ok (.iadd, 1) := by decide +kernel
theorem dX8_make_152 : decode cX8_make 152 = .ok (.putfield 22, 3) := by decide +kernel
theorem dX8_make_155 : decode cX8_make 155 = .ok (.aload_n 0, 1) := by decide +kernel
theorem dX8_make_156 : decode cX8_make 156 = .ok (.getfield 22, 3) := by decide +kernel
theorem dX8_make_159 : decode cX8_make 159 = .ok (.iconst 1, 1) := by decide +kernel
theorem dX8_make_160 : decode cX8_make 160 = .ok (.isub, 1) := by decide +kernel
theorem dX8_make_161 : decode cX8_make 161 = .ok (.ireturn, 1) := by decide +kernel
set_option maxRecDepth 20000 in
theorem ggX8_set_X8_makeAt : GoodIn wsX8_set wsX8_makeAt := goodIn_r _ [5, 6, 7, 8, 9, 4, 10, 58, 59, 60, 61, 62] rfl (by decide +kernel)
set_option maxRecDepth 20000 in
theorem gX8_set_X8_makeAt : GoodIn wsX8_set (wsV RX8 61 RX8 yX8_makeAt wsX8_makeAt) := goodIn_app (goodIn_of _ (by decide +kernel)) ggX8_set_X8_makeAt
set_option maxRecDepth 20000 in
theorem ggX8_set_X8_within : GoodIn wsX8_set wsX8_within := goodIn_r _ [10] rfl (by decide +kernel)
set_option maxRecDepth 20000 in
theorem gX8_set_X8_within : GoodIn wsX8_set (va_wsS RX8 40 yX8_within wsX8_within) := goodIn_app (goodIn_of _ (by decide +kernel)) ggX8_set_X8_within
set_option maxRecDepth 20000 in
theorem ggX8_set_X3_startWithFlip : GoodIn wsX8_set wsX3_startWithFlip := goodIn_r _ [14, 15, 16, 17, 18, 19, 20, 21, 22, 23, 24, 12, 25, 26, 27, 28, 29, 30, 31, 4, 32, 33, 34, 35, 36, 37, 38, 39, 40, 41, 42, 43, 44, 45, 46, 47, 48, 49, 50, 51, 52, 63, 64, 65, 66, 67, 68, 69, 70] rfl (by decide +kernel)
set_option maxRecDepth 20000 in
theorem gX8_set_X3_startWithFlip_n75 : GoodIn wsX8_set (wsX3_startWithFlip) := ggX8_set_X3_startWithFlip
theorem dX8_set_0 : decode cX8_set 0 = .ok (.aload_n 0, 1) := by decide +kernel
theorem dX8_set_1 : decode cX8_set 1 = .ok (.iload_n 1, 1) := by decide +kernel
theorem dX8_set_2 : decode cX8_set 2 = .ok (.invokevirtual 61, 3) := by decide +kernel
theorem dX8_set_5 : decode cX8_set 5 = .ok (.astore 4, 2) := by decide +kernel
theorem dX8_set_7 : decode cX8_set 7 = .ok (.aload 4, 2) := by decide +kernel
theorem dX8_set_9 : decode cX8_set 9 = .ok (.ifnonnull 5, 3) := by decide +kernel
theorem dX8_set_12 : decode cX8_set 12 = .ok (.iconst 0, 1) := by decide +kernel
theorem dX8_set_13 : decode cX8_set 13 = .ok (.ireturn, 1) := by decide +kernel
theorem dX8_set_14 : decode cX8_set 14 = .ok (.iload_n 2, 1) := by decide +kernel
theorem dX8_set_15 : decode cX8_set 15 = .ok (.ifCond .ne 21, 3) := by decide +kernel
theorem dX8_set_18 : decode cX8_set 18 = .ok (.iload_n 3, 1) := by decide +kernel
theorem dX8_set_19 : decode cX8_set 19 = .ok (.iconst 0, 1) := by decide +kernel
theorem dX8_set_20 : decode cX8_set 20 = .ok (.bipush 40, 2) := by decide +kernel
theorem dX8_set_22 : decode cX8_set 22 = .ok (.invokestatic 40, 3) := by decide +kernel
theorem dX8_set_25 : decode cX8_set 25 = .ok (.ifCond .eq 11, 3) := by decide +kernel
theorem dX8_set_28 : decode cX8_set 28 = .ok (.aload 4, 2) := by decide +kernel
theorem dX8_set_30 : decode cX8_set 30 = .ok (.iload_n 3, 1) := by decide +kernel
theorem dX8_set_31 : decode cX8_set 31 = .ok (.putfield 65, 3) := by decide +kernel
theorem dX8_set_34 : decode cX8_set 34 = .ok (.iconst 1, 1) := by decide +kernel
theorem dX8_set_35 : decode cX8_set 35 = .ok (.ireturn, 1) := by decide +kernel
theorem dX8_set_36 : decode cX8_set 36 = .ok (.iload_n 2, 1) := by decide +kernel
theorem dX8_set_37 : decode cX8_set 37 = .ok (.iconst 1, 1) := by decide +kernel
theorem dX8_set_38 : decode cX8_set 38 = .ok (.if_icmp .ne 29, 3) := by decide +kernel
theorem dX8_set_41 : decode cX8_set 41 = .ok (.iload_n 3, 1) := by decide +kernel
theorem dX8_set_42 : decode cX8_set 42 = .ok (.iconst (-1), 1) := by decide +kernel
theorem dX8_set_43 : decode cX8_set 43 = .ok (.aload 4, 2) := by decide +kernel
theorem dX8_set_45 : decode cX8_set 45 = .ok (.getfield 68, 3) := by decide +kernel
theorem dX8_set_48 : decode cX8_set 48 = .ok (.iconst 1, 1) := by decide +kernel
theorem dX8_set_49 : decode cX8_set 49 = .ok (.isub, 1) := by decide +kernel
theorem dX8_set_50 : decode cX8_set 50 = .ok (.invokestatic 40, 3) := by decide +kernel
theorem dX8_set_53 : decode cX8_set 53 = .ok (.ifCond .eq 14, 3) := by decide +kernel
theorem dX8_set_56 : decode cX8_set 56 = .ok (.aload 4, 2) := by decide +kernel
theorem dX8_set_58 : decode cX8_set 58 = .ok (.getfield 71, 3) := by decide +kernel
theorem dX8_set_61 : decode cX8_set 61 = .ok (.iload_n 3, 1) := by decide +kernel
theorem dX8_set_62 : decode cX8_set 62 = .ok (.invokevirtual 75, 3) := by decide +kernel
theorem dX8_set_65 : decode cX8_set 65 = .ok (.iconst 1, 1) := by decide +kernel
theorem dX8_set_66 : decode cX8_set 66 = .ok (.ireturn, 1) := by decide +kernel
theorem dX8_set_67 : decode cX8_set 67 = .ok (.iconst 0, 1) := by decide +kernel
theorem dX8_set_68 : decode cX8_set 68 = .ok (.ireturn, 1) := by decide +kernel
set_option maxRecDepth 20000 in
theorem ggX8_feed_X7_append : GoodIn wsX8_feed wsX7_append := goodIn_r _ [6, 7, 8, 14, 15] rfl (by decide +kernel)
set_option maxRecDepth 20000 in
theorem gX8_feed_X7_append : GoodIn wsX8_feed (wsV RX8 84 RX7 yX7_append wsX7_append) := goodIn_app (goodIn_of _ (by decide +kernel)) ggX8_feed_X7_append
theorem dX8_feed_0 : decode cX8_feed 0 = .ok (.aload_n 0, 1) := by decide +kernel
theorem dX8_feed_1 : decode cX8_feed 1 = .ok (.getfield 12, 3) := by decide +kernel
theorem dX8_feed_4 : decode cX8_feed 4 = .ok (.getfield 81, 3) := by decide +kernel
theorem dX8_feed_7 : decode cX8_feed 7 = .ok (.bipush 115, 2) := by decide +kernel
theorem dX8_feed_9 : decode cX8_feed 9 = .ok (.if_icmp .le 5, 3) := by decide +kernel
theorem dX8_feed_12 : decode cX8_feed 12 = .ok (.iconst (-1), 1) := by decide +kernel
theorem dX8_feed_13 : decode cX8_feed 13 = .ok (.ireturn, 1) := by decide +kernel
theorem dX8_feed_14 : decode cX8_feed 14 = .ok (.aload_n 0, 1) := by decide +kernel
theorem dX8_feed_15 : decode cX8_feed 15 = .ok (.getfield 12, 3) := by decide +kernel
theorem dX8_feed_18 : decode cX8_feed 18 = .ok (.iload_n 1, 1) := by decide +kernel
theorem dX8_feed_19 : decode cX8_feed 19 = .ok (.invokevirtual 84, 3) := by decide +kernel
theorem dX8_feed_22 : decode cX8_feed 22 = .ok (.aload_n 0, 1) := by decide +kernel
theorem dX8_feed_23 : decode cX8_feed 23 = .ok (.getfield 12, 3) := by decide +kernel
theorem dX8_feed_26 : decode cX8_feed 26 = .ok (.iload_n 2, 1) := by decide +kernel
theorem dX8_feed_27 : decode cX8_feed 27 = .ok (.invokevirtual 84, 3) := by decide +kernel
theorem dX8_feed_30 : decode cX8_feed 30 = .ok (.aload_n 0, 1) := by decide +kernel
theorem dX8_feed_31 : decode cX8_feed 31 = .ok (.getfield 12, 3) := by decide +kernel
theorem dX8_feed_34 : decode cX8_feed 34 = .ok (.iload_n 3, 1) := by decide +kernel
theorem dX8_feed_35 : decode cX8_feed 35 = .ok (.invokevirtual 84, 3) := by decide +kernel
theorem dX8_feed_38 : decode cX8_feed 38 = .ok (.aload_n 0, 1) := by decide +kernel
theorem dX8_feed_39 : decode cX8_feed 39 = .ok (.getfield 12, 3) := by decide +kernel
theorem dX8_feed_42 : decode cX8_feed 42 = .ok (.iload 4, 2) := by decide +kernel
theorem dX8_feed_44 : decode cX8_feed 44 = .ok (.invokevirtual 84, 3) := by decide +kernel
theorem dX8_feed_47 : decode cX8_feed 47 = .ok (.aload_n 0, 1) := by decide +kernel
theorem dX8_feed_48 : decode cX8_feed 48 = .ok (.getfield 12, 3) := by decide +kernel
theorem dX8_feed_51 : decode cX8_feed 51 = .ok (.iload 5, 2) := by decide +kernel
theorem dX8_feed_53 : decode cX8_feed 53 = .ok (.invokevirtual 84, 3) := by decide +kernel
theorem dX8_feed_56 : decode cX8_feed 56 = .ok (.aload_n 0, 1) := by decide +kernel
theorem dX8_feed_57 : decode cX8_feed 57 = .ok (.getfield 12, 3) := by decide +kernel
theorem dX8_feed_60 : decode cX8_feed 60 = .ok (.getfield 81, 3) := by decide +kernel
theorem dX8_feed_63 : decode cX8_feed 63 = .ok (.ireturn, 1) := by decide +kernel
set_option maxRecDepth 20000 in
theorem ggX8_end_X8_within : GoodIn wsX8_end wsX8_within := goodIn_r _ [5] rfl (by decide +kernel)
set_option maxRecDepth 20000 in
theorem gX8_end_X8_within : GoodIn wsX8_end (va_wsS RX8 40 yX8_within wsX8_within) := goodIn_app (goodIn_of _ (by decide +kernel)) ggX8_end_X8_within
theorem dX8_end_0 : decode cX8_end 0 = .ok (.iload_n 1, 1) := by decide +kernel
theorem dX8_end_1 : decode cX8_end 1 = .ok (.iconst 0, 1) := by decide +kernel
theorem dX8_end_2 : decode cX8_end 2 = .ok (.aload_n 0, 1) := by decide +kernel
theorem dX8_end_3 : decode cX8_end 3 = .ok (.getfield 12, 3) := by decide +kernel
theorem dX8_end_6 : decode cX8_end 6 = .ok (.getfield 81, 3) := by decide +kernel
theorem dX8_end_9 : decode cX8_end 9 = .ok (.invokestatic 40, 3) := by decide +kernel
theorem dX8_end_12 : decode cX8_end 12 = .ok (.ifCond .ne 5, 3) := by decide +kernel
theorem dX8_end_15 : decode cX8_end 15 = .ok (.iconst 0, 1) := by decide +kernel
theorem dX8_end_16 : decode cX8_end 16 = .ok (.ireturn, 1) := by decide +kernel
theorem dX8_end_17 : decode cX8_end 17 = .ok (.aload_n 0, 1) := by decide +kernel
theorem dX8_end_18 : decode cX8_end 18 = .ok (.getfield 12, 3) := by decide +kernel
theorem dX8_end_21 : decode cX8_end 21 = .ok (.iload_n 1, 1) := by decide +kernel
theorem dX8_end_22 : decode cX8_end 22 = .ok (.putfield 81, 3) := by decide +kernel
theorem dX8_end_25 : decode cX8_end 25 = .ok (.iconst 1, 1) := by decide +kernel
theorem dX8_end_26 : decode cX8_end 26 = .ok (.ireturn, 1) := by decide +kernel
set_option maxRecDepth 20000 in
theorem ggX8_send_X8_makeAt : GoodIn wsX8_send wsX8_makeAt := goodIn_r _ [6, 7, 8, 9, 10, 5, 11, 70, 71, 72, 73, 74] rfl (by decide +kernel)
set_option maxRecDepth 20000 in
theorem gX8_send_X8_makeAt : GoodIn wsX8_send (wsV RX8 61 RX8 yX8_makeAt wsX8_makeAt) := goodIn_app (goodIn_of _ (by decide +kernel)) ggX8_send_X8_makeAt
set_option maxRecDepth 20000 in
theorem ggX8_send_X8_lowBits : GoodIn wsX8_send wsX8_lowBits := goodIn_r _ [14] rfl (by decide +kernel)
set_option maxRecDepth 20000 in
theorem gX8_send_X8_lowBits : GoodIn wsX8_send (va_wsS RX8 87 yX8_lowBits wsX8_lowBits) := goodIn_app (goodIn_of _ (by decide +kernel)) ggX8_send_X8_lowBits
set_option maxRecDepth 20000 in
theorem ggX8_send_X8_within : GoodIn wsX8_send wsX8_within := goodIn_r _ [11] rfl (by decide +kernel)
set_option maxRecDepth 20000 in
theorem gX8_send_X8_within : GoodIn wsX8_send (va_wsS RX8 40 yX8_within wsX8_within) := goodIn_app (goodIn_of _ (by decide +kernel)) ggX8_send_X8_within
set_option maxRecDepth 20000 in
theorem ggX8_send_X4_flash : GoodIn wsX8_send wsX4_flash := goodIn_r _ [19, 20, 21, 22, 23, 24, 25, 26, 27, 28, 29, 30, 31, 32, 33, 34, 35, 36, 37, 38, 39, 40, 41, 42, 43, 44, 45, 46, 47, 48, 49, 50, 51, 52, 53, 54, 55, 56, 57, 58, 59, 60, 61, 62, 63, 64, 75, 76, 65, 66, 67, 68, 69, 77, 78, 79, 80, 81, 82, 83, 84, 85, 86] rfl (by decide +kernel)
set_option maxRecDepth 20000 in
theorem gX8_send_X4_flash : GoodIn wsX8_send (wsV RX8 91 RX4 yX4_flash wsX4_flash) := goodIn_app (goodIn_of _ (by decide +kernel)) ggX8_send_X4_flash
theorem dX8_send_0 : decode cX8_send 0 = .ok (.aload_n 0, 1) := by decide +kernel
theorem dX8_send_1 : decode cX8_send 1 = .ok (.iload_n 1, 1) := by decide +kernel
theorem dX8_send_2 : decode cX8_send 2 = .ok (.invokevirtual 61, 3) := by decide +kernel
theorem dX8_send_5 : decode cX8_send 5 = .ok (.astore_n 3, 1) := by decide +kernel
theorem dX8_send_6 : decode cX8_send 6 = .ok (.aload_n 3, 1) := by decide +kernel
theorem dX8_send_7 : decode cX8_send 7 = .ok (.ifnull 18, 3) := by decide +kernel
theorem dX8_send_10 : decode cX8_send 10 = .ok (.iload_n 2, 1) := by decide +kernel
theorem dX8_send_11 : decode cX8_send 11 = .ok (.iconst 0, 1) := by decide +kernel
theorem dX8_send_12 : decode cX8_send 12 = .ok (.aload_n 3, 1) := by decide +kernel
theorem dX8_send_13 : decode cX8_send 13 = .ok (.getfield 68, 3) := by decide +kernel
theorem dX8_send_16 : decode cX8_send 16 = .ok (.invokestatic 87, 3) := by decide +kernel
theorem dX8_send_19 : decode cX8_send 19 = .ok (.invokestatic 40, 3) := by decide +kernel
theorem dX8_send_22 : decode cX8_send 22 = .ok (.ifCond .ne 5, 3) := by decide +kernel
theorem dX8_send_25 : decode cX8_send 25 = .ok (.iconst (-1), 1) := by decide +kernel
theorem dX8_send_26 : decode cX8_send 26 = .ok (.ireturn, 1) := by decide +kernel
theorem dX8_send_27 : decode cX8_send 27 = .ok (.aload_n 3, 1) := by decide +kernel
theorem dX8_send_28 : decode cX8_send 28 = .ok (.iload_n 2, 1) := by decide +kernel
theorem dX8_send_29 : decode cX8_send 29 = .ok (.aload_n 0, 1) := by decide +kernel
theorem dX8_send_30 : decode cX8_send 30 = .ok (.getfield 12, 3) := by decide +kernel
theorem dX8_send_33 : decode cX8_send 33 = .ok (.invokevirtual 91, 3) := by decide +kernel
theorem dX8_send_36 : decode cX8_send 36 = .ok (.ireturn, 1) := by decide +kernel
set_option maxRecDepth 20000 in
theorem ggX8_time_X8_within : GoodIn wsX8_time wsX8_within := goodIn_r _ [7] rfl (by decide +kernel)
set_option maxRecDepth 20000 in
theorem gX8_time_X8_within : GoodIn wsX8_time (va_wsS RX8 40 yX8_within wsX8_within) := goodIn_app (goodIn_of _ (by decide +kernel)) ggX8_time_X8_within
set_option maxRecDepth 20000 in
theorem ggX8_time_X7_at : GoodIn wsX8_time wsX7_at := goodIn_r _ [12, 13, 14, 5, 6, 7, 20, 21] rfl (by decide +kernel)
set_option maxRecDepth 20000 in
theorem gX8_time_X7_at : GoodIn wsX8_time (wsV RX8 98 RX7 yX7_at wsX7_at) := goodIn_app (goodIn_of _ (by decide +kernel)) ggX8_time_X7_at
theorem dX8_time_0 : decode cX8_time 0 = .ok (.iload_n 1, 1) := by decide +kernel
theorem dX8_time_1 : decode cX8_time 1 = .ok (.iconst 0, 1) := by decide +kernel
theorem dX8_time_2 : decode cX8_time 2 = .ok (.aload_n 0, 1) := by decide +kernel
theorem dX8_time_3 : decode cX8_time 3 = .ok (.getfield 12, 3) := by decide +kernel
theorem dX8_time_6 : decode cX8_time 6 = .ok (.getfield 81, 3) := by decide +kernel
theorem dX8_time_9 : decode cX8_time 9 = .ok (.iconst 1, 1) := by decide +kernel
theorem dX8_time_10 : decode cX8_time 10 = .ok (.isub, 1) := by decide +kernel
theorem dX8_time_11 : decode cX8_time 11 = .ok (.invokestatic 40, 3) := by decide +kernel
theorem dX8_time_14 : decode cX8_time 14 = .ok (.ifCond .ne 11, 3) := by decide +kernel
theorem dX8_time_17 : decode cX8_time 17 = .ok (.new 95, 3) := by decide +kernel
theorem dX8_time_20 : decode cX8_time 20 = .ok (.dup, 1) := by decide +kernel
theorem dX8_time_21 : decode cX8_time 21 = .ok (.invokespecial 97, 3) := by decide +kernel
theorem dX8_time_24 : decode cX8_time 24 = .ok (.athrow, 1) := by decide +kernel
theorem dX8_time_25 : decode cX8_time 25 = .ok (.aload_n 0, 1) := by decide +kernel
theorem dX8_time_26 : decode cX8_time 26 = .ok (.getfield 12, 3) := by decide +kernel
theorem dX8_time_29 : decode cX8_time 29 = .ok (.iload_n 1, 1) := by decide +kernel
theorem dX8_time_30 : decode cX8_time 30 = .ok (.invokevirtual 98, 3) := by decide +kernel
theorem dX8_time_33 : decode cX8_time 33 = .ok (.ireturn, 1) := by decide +kernel
set_option maxRecDepth 20000 in
theorem ggX8_read_X8_makeAt : GoodIn wsX8_read wsX8_makeAt := goodIn_r _ [6, 7, 8, 9, 10, 5, 11, 68, 69, 70, 71, 72] rfl (by decide +kernel)
set_option maxRecDepth 20000 in
theorem gX8_read_X8_makeAt : GoodIn wsX8_read (wsV RX8 61 RX8 yX8_makeAt wsX8_makeAt) := goodIn_app (goodIn_of _ (by decide +kernel)) ggX8_read_X8_makeAt
set_option maxRecDepth 20000 in
theorem ggX8_read_X4_decode : GoodIn wsX8_read wsX4_decode := goodIn_r _ [16, 17, 18, 19, 20, 21, 22, 23, 24, 25, 26, 27, 28, 29, 30, 31, 32, 33, 10, 5, 11, 34, 35, 36, 37, 38, 39, 40, 41, 42, 43, 44, 45, 9, 46, 47, 48, 49, 50, 51, 52, 53, 54, 55, 56, 57, 58, 59, 60, 61, 62, 63, 64, 65, 66, 67, 73, 74, 75, 76, 77, 78, 79, 80, 81, 82, 83, 84, 85, 86, 87, 88, 89] rfl (by decide +kernel)
set_option maxRecDepth 20000 in
theorem gX8_read_X4_decode : GoodIn wsX8_read (wsV RX8 101 RX4 yX4_decode wsX4_decode) := goodIn_app (goodIn_of _ (by decide +kernel)) ggX8_read_X4_decode
theorem dX8_read_0 : decode cX8_read 0 = .ok (.aload_n 0, 1) := by decide +kernel
theorem dX8_read_1 : decode cX8_read 1 = .ok (.iload_n 1, 1) := by decide +kernel
theorem dX8_read_2 : decode cX8_read 2 = .ok (.invokevirtual 61, 3) := by decide +kernel
theorem dX8_read_5 : decode cX8_read 5 = .ok (.astore_n 2, 1) := by decide +kernel
theorem dX8_read_6 : decode cX8_read 6 = .ok (.aload_n 2, 1) := by decide +kernel
theorem dX8_read_7 : decode cX8_read 7 = .ok (.ifnonnull 7, 3) := by decide +kernel
theorem dX8_read_10 : decode cX8_read 10 = .ok (.iconst (-1), 1) := by decide +kernel
theorem dX8_read_11 : decode cX8_read 11 = .ok (.goto 11, 3) := by decide +kernel
theorem dX8_read_14 : decode cX8_read 14 = .ok (.aload_n 2, 1) := by decide +kernel
theorem dX8_read_15 : decode cX8_read 15 = .ok (.aload_n 0, 1) := by decide +kernel
theorem dX8_read_16 : decode cX8_read 16 = .ok (.getfield 12, 3) := by decide +kernel
theorem dX8_read_19 : decode cX8_read 19 = .ok (.invokevirtual 101, 3) := by decide +kernel
theorem dX8_read_22 : decode cX8_read 22 = .ok (.ireturn, 1) := by decide +kernel
set_option maxRecDepth 20000 in
theorem ggX8_which_X8_read : GoodIn wsX8_which wsX8_read := goodIn_r _ [6, 7, 8, 9, 10, 5, 11, 1, 12, 13, 14, 15, 16, 17, 18, 19, 20, 21, 22, 23, 24, 25, 26, 27, 28, 29, 30, 31, 32, 33, 34, 35, 36, 37, 38, 39, 40, 41, 42, 43, 44, 45, 46, 47, 48, 49, 50, 51, 52, 53, 54, 55, 56, 57, 58, 59, 60, 61, 62, 63, 64, 65, 66, 67, 68, 69, 70, 71, 72, 73, 74, 75, 76, 77, 78, 79, 80, 81, 82, 83, 84, 85, 86, 87, 88, 89, 90, 91, 92, 93] rfl (by decide +kernel)
set_option maxRecDepth 20000 in
theorem gX8_which_X8_read : GoodIn wsX8_which (wsV RX8 105 RX8 yX8_read wsX8_read) := goodIn_app (goodIn_of _ (by decide +kernel)) ggX8_which_X8_read
theorem dX8_which_0 : decode cX8_which 0 = .ok (.iconst 0, 1) := by decide +kernel
theorem dX8_which_1 : decode cX8_which 1 = .ok (.istore_n 1, 1) := by decide +kernel
theorem dX8_which_2 : decode cX8_which 2 = .ok (.iconst 0, 1) := by decide +kernel
theorem dX8_which_3 : decode cX8_which 3 = .ok (.istore_n 2, 1) := by decide +kernel
theorem dX8_which_4 : decode cX8_which 4 = .ok (.iload_n 2, 1) := by decide +kernel
theorem dX8_which_5 : decode cX8_which 5 = .ok (.aload_n 0, 1) := by decide +kernel
theorem dX8_which_6 : decode cX8_which 6 = .ok (.getfield 22, 3) := by decide +kernel
theorem dX8_which_9 : decode cX8_which 9 = .ok (.if_icmp .ge 23, 3) := by decide +kernel
theorem dX8_which_12 : decode cX8_which 12 = .ok (.aload_n 0, 1) := by decide +kernel
theorem dX8_which_13 : decode cX8_which 13 = .ok (.iload_n 2, 1) := by decide +kernel
theorem dX8_which_14 : decode cX8_which 14 = .ok (.invokevirtual 105, 3) := by decide +kernel
theorem dX8_which_17 : decode cX8_which 17 = .ok (.ifCond .lt 9, 3) := by decide +kernel
theorem dX8_which_20 : decode cX8_which 20 = .ok (.iload_n 1, 1) := by decide +kernel
theorem dX8_which_21 : decode cX8_which 21 = .ok (.iconst 1, 1) := by decide +kernel
theorem dX8_which_22 : decode cX8_which 22 = .ok (.iload_n 2, 1) := by decide +kernel
theorem dX8_which_23 : decode cX8_which 23 = .ok (.ishl, 1) := by decide +kernel
theorem dX8_which_24 : decode cX8_which 24 = .ok (.ior, 1) := by decide +kernel
theorem dX8_which_25 : decode cX8_which 25 = .ok (.istore_n 1, 1) := by decide +kernel
theorem dX8_which_26 : decode cX8_which 26 = .ok (.iinc 2 1, 3) := by decide +kernel
theorem dX8_which_29 : decode cX8_which 29 = .ok (.goto (-25), 3) := by decide +kernel
theorem dX8_which_32 : decode cX8_which 32 = .ok (.iload_n 1, 1) := by decide +kernel
theorem dX8_which_33 : decode cX8_which 33 = .ok (.ireturn, 1) := by decide +kernel
set_option maxRecDepth 20000 in
theorem ggX8_stretch_X8_within : GoodIn wsX8_stretch wsX8_within := goodIn_r _ [5] rfl (by decide +kernel)
set_option maxRecDepth 20000 in
theorem gX8_stretch_X8_within : GoodIn wsX8_stretch (va_wsS RX8 40 yX8_within wsX8_within) := goodIn_app (goodIn_of _ (by decide +kernel)) ggX8_stretch_X8_within
set_option maxRecDepth 20000 in
theorem ggX8_stretch_X7_stretchAll : GoodIn wsX8_stretch wsX7_stretchAll := goodIn_r _ [10, 11, 12, 13, 14, 15, 16, 17, 18, 19, 20, 4, 21, 2, 3, 5, 27, 28] rfl (by decide +kernel)
set_option maxRecDepth 20000 in
theorem gX8_stretch_X7_stretchAll : GoodIn wsX8_stretch (wsV RX8 108 RX7 yX7_stretchAll wsX7_stretchAll) := goodIn_app (goodIn_of _ (by decide +kernel)) ggX8_stretch_X7_stretchAll
theorem dX8_stretch_0 : decode cX8_stretch 0 = .ok (.iload_n 1, 1) := by decide +kernel
theorem dX8_stretch_1 : decode cX8_stretch 1 = .ok (.bipush (-60), 2) := by decide +kernel
theorem dX8_stretch_3 : decode cX8_stretch 3 = .ok (.bipush 60, 2) := by decide +kernel
theorem dX8_stretch_5 : decode cX8_stretch 5 = .ok (.invokestatic 40, 3) := by decide +kernel
theorem dX8_stretch_8 : decode cX8_stretch 8 = .ok (.ifCond .ne 5, 3) := by decide +kernel
theorem dX8_stretch_11 : decode cX8_stretch 11 = .ok (.iconst 0, 1) := by decide +kernel
theorem dX8_stretch_12 : decode cX8_stretch 12 = .ok (.ireturn, 1) := by decide +kernel
theorem dX8_stretch_13 : decode cX8_stretch 13 = .ok (.aload_n 0, 1) := by decide +kernel
theorem dX8_stretch_14 : decode cX8_stretch 14 = .ok (.getfield 12, 3) := by decide +kernel
theorem dX8_stretch_17 : decode cX8_stretch 17 = .ok (.iload_n 1, 1) := by decide +kernel
theorem dX8_stretch_18 : decode cX8_stretch 18 = .ok (.invokevirtual 108, 3) := by decide +kernel
theorem dX8_stretch_21 : decode cX8_stretch 21 = .ok (.iconst 1, 1) := by decide +kernel
theorem dX8_stretch_22 : decode cX8_stretch 22 = .ok (.ireturn, 1) := by decide +kernel
set_option maxRecDepth 20000 in
theorem ggX8_learn_X8_makeAt : GoodIn wsX8_learn wsX8_makeAt := goodIn_r _ [6, 7, 8, 9, 10, 5, 11, 110, 111, 112, 113, 114] rfl (by decide +kernel)
set_option maxRecDepth 20000 in
theorem gX8_learn_X8_makeAt : GoodIn wsX8_learn (wsV RX8 61 RX8 yX8_makeAt wsX8_makeAt) := goodIn_app (goodIn_of _ (by decide +kernel)) ggX8_learn_X8_makeAt
set_option maxRecDepth 20000 in
theorem ggX8_learn_X4_decode : GoodIn wsX8_learn wsX4_decode := goodIn_r _ [16, 17, 18, 19, 20, 21, 22, 23, 24, 25, 26, 27, 28, 29, 30, 31, 32, 33, 10, 5, 11, 34, 35, 36, 37, 38, 39, 40, 41, 42, 43, 44, 45, 9, 46, 47, 48, 49, 50, 51, 52, 53, 54, 55, 56, 57, 58, 59, 60, 61, 62, 63, 64, 65, 66, 67, 115, 116, 117, 118, 119, 120, 121, 122, 123, 124, 125, 126, 127, 128, 129, 130, 131] rfl (by decide +kernel)
set_option maxRecDepth 20000 in
theorem gX8_learn_X4_decode : GoodIn wsX8_learn (wsV RX8 101 RX4 yX4_decode wsX4_decode) := goodIn_app (goodIn_of _ (by decide +kernel)) ggX8_learn_X4_decode
set_option maxRecDepth 20000 in
theorem ggX8_learn_X3_take : GoodIn wsX8_learn wsX3_take := goodIn_r _ [72, 73, 74, 75, 76, 71, 77, 78, 79, 80, 81, 82, 10, 5, 11, 83, 84, 85, 86, 87, 88, 89, 90, 91, 92, 93, 94, 95, 96, 97, 98, 99, 100, 101, 102, 103, 104, 105, 106, 107, 108, 109, 132, 133, 134, 135, 136, 137, 138, 139] rfl (by decide +kernel)
set_option maxRecDepth 20000 in
theorem gX8_learn_X3_take : GoodIn wsX8_learn (wsV RX8 111 RX3 yX3_take wsX3_take) := goodIn_app (goodIn_of _ (by decide +kernel)) ggX8_learn_X3_take
theorem dX8_learn_0 : decode cX8_learn 0 = .ok (.aload_n 0, 1) := by decide +kernel
theorem dX8_learn_1 : decode cX8_learn 1 = .ok (.iload_n 1, 1) := by decide +kernel
theorem dX8_learn_2 : decode cX8_learn 2 = .ok (.invokevirtual 61, 3) := by decide +kernel
theorem dX8_learn_5 : decode cX8_learn 5 = .ok (.astore_n 3, 1) := by decide +kernel
theorem dX8_learn_6 : decode cX8_learn 6 = .ok (.aload_n 3, 1) := by decide +kernel
theorem dX8_learn_7 : decode cX8_learn 7 = .ok (.ifnonnull 5, 3) := by decide +kernel
theorem dX8_learn_10 : decode cX8_learn 10 = .ok (.iconst (-1), 1) := by decide +kernel
theorem dX8_learn_11 : decode cX8_learn 11 = .ok (.ireturn, 1) := by decide +kernel
theorem dX8_learn_12 : decode cX8_learn 12 = .ok (.aload_n 3, 1) := by decide +kernel
theorem dX8_learn_13 : decode cX8_learn 13 = .ok (.aload_n 0, 1) := by decide +kernel
theorem dX8_learn_14 : decode cX8_learn 14 = .ok (.getfield 12, 3) := by decide +kernel
theorem dX8_learn_17 : decode cX8_learn 17 = .ok (.invokevirtual 101, 3) := by decide +kernel
theorem dX8_learn_20 : decode cX8_learn 20 = .ok (.istore 4, 2) := by decide +kernel
theorem dX8_learn_22 : decode cX8_learn 22 = .ok (.iload 4, 2) := by decide +kernel
theorem dX8_learn_24 : decode cX8_learn 24 = .ok (.ifCond .ge 7, 3) := by decide +kernel
theorem dX8_learn_27 : decode cX8_learn 27 = .ok (.iconst (-1), 1) := by decide +kernel
theorem dX8_learn_28 : decode cX8_learn 28 = .ok (.goto 13, 3) := by decide +kernel
theorem dX8_learn_31 : decode cX8_learn 31 = .ok (.aload_n 3, 1) := by decide +kernel
theorem dX8_learn_32 : decode cX8_learn 32 = .ok (.getfield 71, 3) := by decide +kernel
theorem dX8_learn_35 : decode cX8_learn 35 = .ok (.iload_n 2, 1) := by decide +kernel
theorem dX8_learn_36 : decode cX8_learn 36 = .ok (.iload 4, 2) := by decide +kernel
theorem dX8_learn_38 : decode cX8_learn 38 = .ok (.invokevirtual 111, 3) := by decide +kernel
theorem dX8_learn_41 : decode cX8_learn 41 = .ok (.ireturn, 1) := by decide +kernel
set_option maxRecDepth 20000 in
theorem ggX8_forget_X8_makeAt : GoodIn wsX8_forget wsX8_makeAt := goodIn_r _ [5, 6, 7, 8, 9, 4, 10, 62, 63, 64, 65, 66] rfl (by decide +kernel)
set_option maxRecDepth 20000 in
theorem gX8_forget_X8_makeAt : GoodIn wsX8_forget (wsV RX8 61 RX8 yX8_makeAt wsX8_makeAt) := goodIn_app (goodIn_of _ (by decide +kernel)) ggX8_forget_X8_makeAt
set_option maxRecDepth 20000 in
theorem ggX8_forget_X3_drop : GoodIn wsX8_forget wsX3_drop := goodIn_r _ [15, 16, 17, 18, 19, 14, 20, 21, 22, 23, 24, 9, 4, 10, 25, 26, 27, 28, 29, 30, 31, 32, 33, 34, 35, 36, 37, 38, 39, 40, 41, 42, 43, 44, 45, 46, 47, 48, 49, 50, 51, 52, 53, 54, 55, 56, 67, 68, 69, 70, 71, 72, 73, 74] rfl (by decide +kernel)
set_option maxRecDepth 20000 in
theorem gX8_forget_X3_drop : GoodIn wsX8_forget (wsV RX8 115 RX3 yX3_drop wsX3_drop) := goodIn_app (goodIn_of _ (by decide +kernel)) ggX8_forget_X3_drop
theorem dX8_forget_0 : decode cX8_forget 0 = .ok (.aload_n 0, 1) := by decide +kernel
theorem dX8_forget_1 : decode cX8_forget 1 = .ok (.iload_n 1, 1) := by decide +kernel
theorem dX8_forget_2 : decode cX8_forget 2 = .ok (.invokevirtual 61, 3) := by decide +kernel
theorem dX8_forget_5 : decode cX8_forget 5 = .ok (.astore_n 3, 1) := by decide +kernel
theorem dX8_forget_6 : decode cX8_forget 6 = .ok (.aload_n 3, 1) := by decide +kernel
theorem dX8_forget_7 : decode cX8_forget 7 = .ok (.ifnull 18, 3) := by decide +kernel
theorem dX8_forget_10 : decode cX8_forget 10 = .ok (.aload_n 3, 1) := by decide +kernel
theorem dX8_forget_11 : decode cX8_forget 11 = .ok (.getfield 71, 3) := by decide +kernel
theorem dX8_forget_14 : decode cX8_forget 14 = .ok (.iload_n 2, 1) := by decide +kernel
theorem dX8_forget_15 : decode cX8_forget 15 = .ok (.invokevirtual 115, 3) := by decide +kernel
theorem dX8_forget_18 : decode cX8_forget 18 = .ok (.ifCond .eq 7, 3) := by decide +kernel
theorem dX8_forget_21 : decode cX8_forget 21 = .ok (.iconst 1, 1) := by decide +kernel
theorem dX8_forget_22 : decode cX8_forget 22 = .ok (.goto 4, 3) := by decide +kernel
theorem dX8_forget_25 : decode cX8_forget 25 = .ok (.iconst 0, 1) := by decide +kernel
theorem dX8_forget_26 : decode cX8_forget 26 = .ok (.ireturn, 1) := by decide +kernel
set_option maxRecDepth 20000 in
theorem ggX8_key_X8_makeAt : GoodIn wsX8_key wsX8_makeAt := goodIn_r _ [5, 6, 7, 8, 9, 4, 10, 26, 27, 28, 29, 30] rfl (by decide +kernel)
set_option maxRecDepth 20000 in
theorem gX8_key_X8_makeAt : GoodIn wsX8_key (wsV RX8 61 RX8 yX8_makeAt wsX8_makeAt) := goodIn_app (goodIn_of _ (by decide +kernel)) ggX8_key_X8_makeAt
set_option maxRecDepth 20000 in
theorem ggX8_key_X3_codeOf : GoodIn wsX8_key wsX3_codeOf := goodIn_r _ [15, 16, 17, 18, 19, 14, 20, 9, 4, 10, 31, 32, 33, 34, 35, 36, 37, 38] rfl (by decide +kernel)
set_option maxRecDepth 20000 in
theorem gX8_key_X3_codeOf : GoodIn wsX8_key (wsV RX8 118 RX3 yX3_codeOf wsX3_codeOf) := goodIn_app (goodIn_of _ (by decide +kernel)) ggX8_key_X3_codeOf
theorem dX8_key_0 : decode cX8_key 0 = .ok (.aload_n 0, 1) := by decide +kernel
theorem dX8_key_1 : decode cX8_key 1 = .ok (.iload_n 1, 1) := by decide +kernel
theorem dX8_key_2 : decode cX8_key 2 = .ok (.invokevirtual 61, 3) := by decide +kernel
theorem dX8_key_5 : decode cX8_key 5 = .ok (.astore_n 3, 1) := by decide +kernel
theorem dX8_key_6 : decode cX8_key 6 = .ok (.aload_n 3, 1) := by decide +kernel
theorem dX8_key_7 : decode cX8_key 7 = .ok (.ifnonnull 7, 3) := by decide +kernel
theorem dX8_key_10 : decode cX8_key 10 = .ok (.iconst (-1), 1) := by decide +kernel
theorem dX8_key_11 : decode cX8_key 11 = .ok (.goto 11, 3) := by decide +kernel
theorem dX8_key_14 : decode cX8_key 14 = .ok (.aload_n 3, 1) := by decide +kernel
theorem dX8_key_15 : decode cX8_key 15 = .ok (.getfield 71, 3) := by decide +kernel
theorem dX8_key_18 : decode cX8_key 18 = .ok (.iload_n 2, 1) := by decide +kernel
theorem dX8_key_19 : decode cX8_key 19 = .ok (.invokevirtual 118, 3) := by decide +kernel
theorem dX8_key_22 : decode cX8_key 22 = .ok (.ireturn, 1) := by decide +kernel
set_option maxRecDepth 20000 in
theorem ggX8_press_X8_makeAt : GoodIn wsX8_press wsX8_makeAt := goodIn_r _ [6, 7, 8, 9, 10, 5, 11, 88, 89, 90, 91, 92] rfl (by decide +kernel)
set_option maxRecDepth 20000 in
theorem gX8_press_X8_makeAt : GoodIn wsX8_press (wsV RX8 61 RX8 yX8_makeAt wsX8_makeAt) := goodIn_app (goodIn_of _ (by decide +kernel)) ggX8_press_X8_makeAt
set_option maxRecDepth 20000 in
theorem ggX8_press_X3_codeOf : GoodIn wsX8_press wsX3_codeOf := goodIn_r _ [16, 17, 18, 19, 20, 15, 21, 10, 5, 11, 93, 94, 95, 96, 97, 98, 99, 100] rfl (by decide +kernel)
set_option maxRecDepth 20000 in
theorem gX8_press_X3_codeOf : GoodIn wsX8_press (wsV RX8 118 RX3 yX3_codeOf wsX3_codeOf) := goodIn_app (goodIn_of _ (by decide +kernel)) ggX8_press_X3_codeOf
set_option maxRecDepth 20000 in
theorem ggX8_press_X3_codeToSend : GoodIn wsX8_press wsX3_codeToSend := goodIn_r _ [25, 26, 27, 28, 13, 14, 15, 16, 17, 18, 19, 20, 21, 10, 5, 11, 29, 30, 31, 32, 93, 94, 95, 96, 97, 98, 99, 100] rfl (by decide +kernel)
set_option maxRecDepth 20000 in
theorem gX8_press_X3_codeToSend : GoodIn wsX8_press (wsV RX8 121 RX3 yX3_codeToSend wsX3_codeToSend) := goodIn_app (goodIn_of _ (by decide +kernel)) ggX8_press_X3_codeToSend
set_option maxRecDepth 20000 in
theorem ggX8_press_X4_flash : GoodIn wsX8_press wsX4_flash := goodIn_r _ [37, 38, 39, 40, 41, 42, 43, 44, 45, 46, 47, 48, 49, 50, 51, 52, 53, 54, 55, 56, 57, 58, 59, 60, 61, 62, 63, 64, 65, 66, 67, 68, 69, 70, 71, 72, 73, 74, 75, 76, 77, 78, 79, 80, 81, 82, 101, 102, 83, 84, 85, 86, 87, 103, 104, 105, 106, 107, 108, 109, 110, 111, 112] rfl (by decide +kernel)
set_option maxRecDepth 20000 in
theorem gX8_press_X4_flash : GoodIn wsX8_press (wsV RX8 91 RX4 yX4_flash wsX4_flash) := goodIn_app (goodIn_of _ (by decide +kernel)) ggX8_press_X4_flash
theorem dX8_press_0 : decode cX8_press 0 = .ok (.aload_n 0, 1) := by decide +kernel
theorem dX8_press_1 : decode cX8_press 1 = .ok (.iload_n 1, 1) := by decide +kernel
theorem dX8_press_2 : decode cX8_press 2 = .ok (.invokevirtual 61, 3) := by decide +kernel
theorem dX8_press_5 : decode cX8_press 5 = .ok (.astore_n 3, 1) := by decide +kernel
theorem dX8_press_6 : decode cX8_press 6 = .ok (.aload_n 3, 1) := by decide +kernel
theorem dX8_press_7 : decode cX8_press 7 = .ok (.ifnull 15, 3) := by decide +kernel
theorem dX8_press_10 : decode cX8_press 10 = .ok (.aload_n 3, 1) := by decide +kernel
theorem dX8_press_11 : decode cX8_press 11 = .ok (.getfield 71, 3) := by decide +kernel
theorem dX8_press_14 : decode cX8_press 14 = .ok (.iload_n 2, 1) := by decide +kernel
theorem dX8_press_15 : decode cX8_press 15 = .ok (.invokevirtual 118, 3) := by decide +kernel
theorem dX8_press_18 : decode cX8_press 18 = .ok (.iconst (-1), 1) := by decide +kernel
theorem dX8_press_19 : decode cX8_press 19 = .ok (.if_icmp .ne 5, 3) := by decide +kernel
theorem dX8_press_22 : decode cX8_press 22 = .ok (.iconst (-1), 1) := by decide +kernel
theorem dX8_press_23 : decode cX8_press 23 = .ok (.ireturn, 1) := by decide +kernel
theorem dX8_press_24 : decode cX8_press 24 = .ok (.aload_n 3, 1) := by decide +kernel
theorem dX8_press_25 : decode cX8_press 25 = .ok (.aload_n 3, 1) := by decide +kernel
theorem dX8_press_26 : decode cX8_press 26 = .ok (.getfield 71, 3) := by decide +kernel
theorem dX8_press_29 : decode cX8_press 29 = .ok (.iload_n 2, 1) := by decide +kernel
theorem dX8_press_30 : decode cX8_press 30 = .ok (.invokevirtual 121, 3) := by decide +kernel
theorem dX8_press_33 : decode cX8_press 33 = .ok (.aload_n 0, 1) := by decide +kernel
theorem dX8_press_34 : decode cX8_press 34 = .ok (.getfield 12, 3) := by decide +kernel
theorem dX8_press_37 : decode cX8_press 37 = .ok (.invokevirtual 91, 3) := by decide +kernel
theorem dX8_press_40 : decode cX8_press 40 = .ok (.ireturn, 1) := by decide +kernel
set_option maxRecDepth 20000 in
theorem ggX8_of_X8_makeAt : GoodIn wsX8_of wsX8_makeAt := goodIn_r _ [5, 6, 7, 8, 9, 4, 10, 24, 25, 26, 27, 28] rfl (by decide +kernel)
set_option maxRecDepth 20000 in
theorem gX8_of_X8_makeAt : GoodIn wsX8_of (wsV RX8 61 RX8 yX8_makeAt wsX8_makeAt) := goodIn_app (goodIn_of _ (by decide +kernel)) ggX8_of_X8_makeAt
theorem dX8_of_0 : decode cX8_of 0 = .ok (.aload_n 0, 1) := by decide +kernel
theorem dX8_of_1 : decode cX8_of 1 = .ok (.iload_n 1, 1) := by decide +kernel
theorem dX8_of_2 : decode cX8_of 2 = .ok (.invokevirtual 61, 3) := by decide +kernel
theorem dX8_of_5 : decode cX8_of 5 = .ok (.astore_n 3, 1) := by decide +kernel
theorem dX8_of_6 : decode cX8_of 6 = .ok (.aload_n 3, 1) := by decide +kernel
theorem dX8_of_7 : decode cX8_of 7 = .ok (.ifnonnull 5, 3) := by decide +kernel
theorem dX8_of_10 : decode cX8_of 10 = .ok (.iconst (-1), 1) := by decide +kernel
theorem dX8_of_11 : decode cX8_of 11 = .ok (.ireturn, 1) := by decide +kernel
theorem dX8_of_12 : decode cX8_of 12 = .ok (.iload_n 2, 1) := by decide +kernel
theorem dX8_of_13 : decode cX8_of 13 = .ok (.tableswitch 90 0 6 #[43, 48, 53, 58, 66, 74, 82], 43) := by decide +kernel
theorem dX8_of_56 : decode cX8_of 56 = .ok (.aload_n 3, 1) := by decide +kernel
theorem dX8_of_57 : decode cX8_of 57 = .ok (.getfield 124, 3) := by decide +kernel
theorem dX8_of_60 : decode cX8_of 60 = .ok (.ireturn, 1) := by decide +kernel
theorem dX8_of_61 : decode cX8_of 61 = .ok (.aload_n 3, 1) := by decide +kernel
theorem dX8_of_62 : decode cX8_of 62 = .ok (.getfield 68, 3) := by decide +kernel
theorem dX8_of_65 : decode cX8_of 65 = .ok (.ireturn, 1) := by decide +kernel
theorem dX8_of_66 : decode cX8_of 66 = .ok (.aload_n 3, 1) := by decide +kernel
theorem dX8_of_67 : decode cX8_of 67 = .ok (.getfield 65, 3) := by decide +kernel
theorem dX8_of_70 : decode cX8_of 70 = .ok (.ireturn, 1) := by decide +kernel
theorem dX8_of_71 : decode cX8_of 71 = .ok (.aload_n 3, 1) := by decide +kernel
theorem dX8_of_72 : decode cX8_of 72 = .ok (.getfield 71, 3) := by decide +kernel
theorem dX8_of_75 : decode cX8_of 75 = .ok (.getfield 127, 3) := by decide +kernel
theorem dX8_of_78 : decode cX8_of 78 = .ok (.ireturn, 1) := by decide +kernel
theorem dX8_of_79 : decode cX8_of 79 = .ok (.aload_n 3, 1) := by decide +kernel
theorem dX8_of_80 : decode cX8_of 80 = .ok (.getfield 71, 3) := by decide +kernel
theorem dX8_of_83 : decode cX8_of 83 = .ok (.getfield 130, 3) := by decide +kernel
theorem dX8_of_86 : decode cX8_of 86 = .ok (.ireturn, 1) := by decide +kernel
theorem dX8_of_87 : decode cX8_of 87 = .ok (.aload_n 3, 1) := by decide +kernel
theorem dX8_of_88 : decode cX8_of 88 = .ok (.getfield 71, 3) := by decide +kernel
theorem dX8_of_91 : decode cX8_of 91 = .ok (.getfield 133, 3) := by decide +kernel
theorem dX8_of_94 : decode cX8_of 94 = .ok (.ireturn, 1) := by decide +kernel
theorem dX8_of_95 : decode cX8_of 95 = .ok (.aload_n 3, 1) := by decide +kernel
theorem dX8_of_96 : decode cX8_of 96 = .ok (.getfield 71, 3) := by decide +kernel
theorem dX8_of_99 : decode cX8_of 99 = .ok (.getfield 136, 3) := by decide +kernel
theorem dX8_of_102 : decode cX8_of 102 = .ok (.ireturn, 1) := by decide +kernel
theorem dX8_of_103 : decode cX8_of 103 = .ok (.iconst (-1), 1) := by decide +kernel
theorem dX8_of_104 : decode cX8_of 104 = .ok (.ireturn, 1) := by decide +kernel
set_option maxRecDepth 20000 in
theorem ggX8_check_X8_makeAt : GoodIn wsX8_check wsX8_makeAt := goodIn_r _ [5, 6, 7, 8, 9, 4, 10, 22, 23, 24, 25, 26] rfl (by decide +kernel)
set_option maxRecDepth 20000 in
theorem gX8_check_X8_makeAt : GoodIn wsX8_check (wsV RX8 61 RX8 yX8_makeAt wsX8_makeAt) := goodIn_app (goodIn_of _ (by decide +kernel)) ggX8_check_X8_makeAt
set_option maxRecDepth 20000 in
theorem ggX8_check_X3_constantThatHolds : GoodIn wsX8_check wsX3_constantThatHolds := goodIn_r _ [15, 16, 9, 4, 10, 27, 28, 29, 30, 31, 32, 33, 34] rfl (by decide +kernel)
set_option maxRecDepth 20000 in
theorem gX8_check_X3_constantThatHolds : GoodIn wsX8_check (wsV RX8 139 RX3 yX3_constantThatHolds wsX3_constantThatHolds) := goodIn_app (goodIn_of _ (by decide +kernel)) ggX8_check_X3_constantThatHolds
theorem dX8_check_0 : decode cX8_check 0 = .ok (.aload_n 0, 1) := by decide +kernel
theorem dX8_check_1 : decode cX8_check 1 = .ok (.iload_n 1, 1) := by decide +kernel
theorem dX8_check_2 : decode cX8_check 2 = .ok (.invokevirtual 61, 3) := by decide +kernel
theorem dX8_check_5 : decode cX8_check 5 = .ok (.astore_n 3, 1) := by decide +kernel
theorem dX8_check_6 : decode cX8_check 6 = .ok (.aload_n 3, 1) := by decide +kernel
theorem dX8_check_7 : decode cX8_check 7 = .ok (.ifnonnull 7, 3) := by decide +kernel
theorem dX8_check_10 : decode cX8_check 10 = .ok (.iconst (-1), 1) := by decide +kernel
theorem dX8_check_11 : decode cX8_check 11 = .ok (.goto 11, 3) := by decide +kernel
theorem dX8_check_14 : decode cX8_check 14 = .ok (.aload_n 3, 1) := by decide +kernel
theorem dX8_check_15 : decode cX8_check 15 = .ok (.getfield 71, 3) := by decide +kernel
theorem dX8_check_18 : decode cX8_check 18 = .ok (.iload_n 2, 1) := by decide +kernel
theorem dX8_check_19 : decode cX8_check 19 = .ok (.invokevirtual 139, 3) := by decide +kernel
theorem dX8_check_22 : decode cX8_check 22 = .ok (.ireturn, 1) := by decide +kernel
set_option maxRecDepth 20000 in
theorem ggX8_many_X8_makeAt : GoodIn wsX8_many wsX8_makeAt := goodIn_r _ [5, 6, 7, 8, 9, 4, 10, 64, 65, 66, 67, 68] rfl (by decide +kernel)
set_option maxRecDepth 20000 in
theorem gX8_many_X8_makeAt : GoodIn wsX8_many (wsV RX8 61 RX8 yX8_makeAt wsX8_makeAt) := goodIn_app (goodIn_of _ (by decide +kernel)) ggX8_many_X8_makeAt
set_option maxRecDepth 20000 in
theorem ggX8_many_X3_canForesee : GoodIn wsX8_many wsX3_canForesee := goodIn_r _ [15, 16, 17, 18, 19, 14, 20, 21, 22, 23, 4, 24, 25, 26, 27, 28, 29, 30, 31, 32, 33, 34, 35, 36, 69, 70, 71, 72, 73, 74, 75, 76] rfl (by decide +kernel)
set_option maxRecDepth 20000 in
theorem gX8_many_X3_canForesee : GoodIn wsX8_many (wsV RX8 142 RX3 yX3_canForesee wsX3_canForesee) := goodIn_app (goodIn_of _ (by decide +kernel)) ggX8_many_X3_canForesee
set_option maxRecDepth 20000 in
theorem ggX8_many_X3_foreseenCount : GoodIn wsX8_many wsX3_foreseenCount := goodIn_r _ [40, 41, 42, 43, 14, 44, 45, 17, 18, 19, 20, 21, 22, 23, 4, 24, 25, 26, 27, 28, 29, 30, 31, 32, 33, 34, 35, 36, 46, 47, 48, 49, 50, 51, 52, 53, 54, 55, 56, 57, 58, 69, 70, 71, 72, 73, 74, 75, 76] rfl (by decide +kernel)
set_option maxRecDepth 20000 in
theorem gX8_many_X3_foreseenCount : GoodIn wsX8_many (wsV RX8 146 RX3 yX3_foreseenCount wsX3_foreseenCount) := goodIn_app (goodIn_of _ (by decide +kernel)) ggX8_many_X3_foreseenCount
theorem dX8_many_0 : decode cX8_many 0 = .ok (.aload_n 0, 1) := by decide +kernel
theorem dX8_many_1 : decode cX8_many 1 = .ok (.iload_n 1, 1) := by decide +kernel
theorem dX8_many_2 : decode cX8_many 2 = .ok (.invokevirtual 61, 3) := by decide +kernel
theorem dX8_many_5 : decode cX8_many 5 = .ok (.astore_n 2, 1) := by decide +kernel
theorem dX8_many_6 : decode cX8_many 6 = .ok (.aload_n 2, 1) := by decide +kernel
theorem dX8_many_7 : decode cX8_many 7 = .ok (.ifnull 13, 3) := by decide +kernel
theorem dX8_many_10 : decode cX8_many 10 = .ok (.aload_n 2, 1) := by decide +kernel
theorem dX8_many_11 : decode cX8_many 11 = .ok (.getfield 71, 3) := by decide +kernel
theorem dX8_many_14 : decode cX8_many 14 = .ok (.invokevirtual 142, 3) := by decide +kernel
theorem dX8_many_17 : decode cX8_many 17 = .ok (.ifCond .ne 7, 3) := by decide +kernel
theorem dX8_many_20 : decode cX8_many 20 = .ok (.iconst (-1), 1) := by decide +kernel
theorem dX8_many_21 : decode cX8_many 21 = .ok (.goto 10, 3) := by decide +kernel
theorem dX8_many_24 : decode cX8_many 24 = .ok (.aload_n 2, 1) := by decide +kernel
theorem dX8_many_25 : decode cX8_many 25 = .ok (.getfield 71, 3) := by decide +kernel
theorem dX8_many_28 : decode cX8_many 28 = .ok (.invokevirtual 146, 3) := by decide +kernel
theorem dX8_many_31 : decode cX8_many 31 = .ok (.ireturn, 1) := by decide +kernel
set_option maxRecDepth 20000 in
theorem ggX8_foreseen_X8_makeAt : GoodIn wsX8_foreseen wsX8_makeAt := goodIn_r _ [5, 6, 7, 8, 9, 4, 10, 64, 65, 66, 67, 68] rfl (by decide +kernel)
set_option maxRecDepth 20000 in
theorem gX8_foreseen_X8_makeAt : GoodIn wsX8_foreseen (wsV RX8 61 RX8 yX8_makeAt wsX8_makeAt) := goodIn_app (goodIn_of _ (by decide +kernel)) ggX8_foreseen_X8_makeAt
set_option maxRecDepth 20000 in
theorem ggX8_foreseen_X3_canForesee : GoodIn wsX8_foreseen wsX3_canForesee := goodIn_r _ [15, 16, 17, 18, 19, 14, 20, 21, 22, 23, 4, 24, 25, 26, 27, 28, 29, 30, 31, 32, 33, 34, 35, 36, 69, 70, 71, 72, 73, 74, 75, 76] rfl (by decide +kernel)
set_option maxRecDepth 20000 in
theorem gX8_foreseen_X3_canForesee : GoodIn wsX8_foreseen (wsV RX8 142 RX3 yX3_canForesee wsX3_canForesee) := goodIn_app (goodIn_of _ (by decide +kernel)) ggX8_foreseen_X3_canForesee
set_option maxRecDepth 20000 in
theorem ggX8_foreseen_X3_foreseenAt : GoodIn wsX8_foreseen wsX3_foreseenAt := goodIn_r _ [40, 9, 4, 10, 41, 42, 43, 14, 44, 45, 17, 18, 19, 20, 21, 22, 23, 24, 25, 26, 27, 28, 29, 30, 31, 32, 33, 34, 35, 36, 46, 47, 48, 49, 50, 51, 52, 53, 54, 55, 56, 57, 58, 69, 70, 71, 72, 73, 74, 75, 76] rfl (by decide +kernel)
set_option maxRecDepth 20000 in
theorem gX8_foreseen_X3_foreseenAt : GoodIn wsX8_foreseen (wsV RX8 150 RX3 yX3_foreseenAt wsX3_foreseenAt) := goodIn_app (goodIn_of _ (by decide +kernel)) ggX8_foreseen_X3_foreseenAt
theorem dX8_foreseen_0 : decode cX8_foreseen 0 = .ok (.aload_n 0, 1) := by decide +kernel
theorem dX8_foreseen_1 : decode cX8_foreseen 1 = .ok (.iload_n 1, 1) := by decide +kernel
theorem dX8_foreseen_2 : decode cX8_foreseen 2 = .ok (.invokevirtual 61, 3) := by decide +kernel
theorem dX8_foreseen_5 : decode cX8_foreseen 5 = .ok (.astore_n 3, 1) := by decide +kernel
theorem dX8_foreseen_6 : decode cX8_foreseen 6 = .ok (.aload_n 3, 1) := by decide +kernel
theorem dX8_foreseen_7 : decode cX8_foreseen 7 = .ok (.ifnull 13, 3) := by decide +kernel
theorem dX8_foreseen_10 : decode cX8_foreseen 10 = .ok (.aload_n 3, 1) := by decide +kernel
theorem dX8_foreseen_11 : decode cX8_foreseen 11 = .ok (.getfield 71, 3) := by decide +kernel
theorem dX8_foreseen_14 : decode cX8_foreseen 14 = .ok (.invokevirtual 142, 3) := by decide +kernel
theorem dX8_foreseen_17 : decode cX8_foreseen 17 = .ok (.ifCond .ne 7, 3) := by decide +kernel
theorem dX8_foreseen_20 : decode cX8_foreseen 20 = .ok (.iconst (-1), 1) := by decide +kernel
theorem dX8_foreseen_21 : decode cX8_foreseen 21 = .ok (.goto 11, 3) := by decide +kernel
theorem dX8_foreseen_24 : decode cX8_foreseen 24 = .ok (.aload_n 3, 1) := by decide +kernel
theorem dX8_foreseen_25 : decode cX8_foreseen 25 = .ok (.getfield 71, 3) := by decide +kernel
theorem dX8_foreseen_28 : decode cX8_foreseen 28 = .ok (.iload_n 2, 1) := by decide +kernel
theorem dX8_foreseen_29 : decode cX8_foreseen 29 = .ok (.invokevirtual 150, 3) := by decide +kernel
theorem dX8_foreseen_32 : decode cX8_foreseen 32 = .ok (.ireturn, 1) := by decide +kernel
set_option maxRecDepth 20000 in
theorem ggX8_both_X8_makeAt : GoodIn wsX8_both wsX8_makeAt := goodIn_r _ [5, 6, 7, 8, 9, 4, 10, 68, 69, 70, 71, 72] rfl (by decide +kernel)
set_option maxRecDepth 20000 in
theorem gX8_both_X8_makeAt : GoodIn wsX8_both (wsV RX8 61 RX8 yX8_makeAt wsX8_makeAt) := goodIn_app (goodIn_of _ (by decide +kernel)) ggX8_both_X8_makeAt
set_option maxRecDepth 20000 in
theorem ggX8_both_X3_canForesee : GoodIn wsX8_both wsX3_canForesee := goodIn_r _ [15, 16, 17, 18, 19, 14, 20, 21, 22, 23, 4, 24, 25, 26, 27, 28, 29, 30, 31, 32, 33, 34, 35, 36, 73, 74, 75, 76, 77, 78, 79, 80] rfl (by decide +kernel)
set_option maxRecDepth 20000 in
theorem gX8_both_X3_canForesee : GoodIn wsX8_both (wsV RX8 142 RX3 yX3_canForesee wsX3_canForesee) := goodIn_app (goodIn_of _ (by decide +kernel)) ggX8_both_X3_canForesee
set_option maxRecDepth 20000 in
theorem ggX8_both_X3_leastForeseenWith : GoodIn wsX8_both wsX3_leastForeseenWith := goodIn_r _ [40, 41, 42, 43, 14, 44, 45, 17, 18, 19, 20, 21, 22, 23, 4, 24, 25, 26, 27, 28, 29, 30, 31, 32, 33, 34, 35, 36, 46, 47, 48, 49, 50, 51, 52, 53, 54, 55, 56, 57, 58, 59, 60, 61, 62, 73, 74, 75, 76, 77, 78, 79, 80] rfl (by decide +kernel)
set_option maxRecDepth 20000 in
theorem gX8_both_X3_leastForeseenWith : GoodIn wsX8_both (wsV RX8 153 RX3 yX3_leastForeseenWith wsX3_leastForeseenWith) := goodIn_app (goodIn_of _ (by decide +kernel)) ggX8_both_X3_leastForeseenWith
theorem dX8_both_0 : decode cX8_both 0 = .ok (.aload_n 0, 1) := by decide +kernel
theorem dX8_both_1 : decode cX8_both 1 = .ok (.iload_n 1, 1) := by decide +kernel
theorem dX8_both_2 : decode cX8_both 2 = .ok (.invokevirtual 61, 3) := by decide +kernel
theorem dX8_both_5 : decode cX8_both 5 = .ok (.astore_n 3, 1) := by decide +kernel
theorem dX8_both_6 : decode cX8_both 6 = .ok (.aload_n 0, 1) := by decide +kernel
theorem dX8_both_7 : decode cX8_both 7 = .ok (.iload_n 2, 1) := by decide +kernel
theorem dX8_both_8 : decode cX8_both 8 = .ok (.invokevirtual 61, 3) := by decide +kernel
theorem dX8_both_11 : decode cX8_both 11 = .ok (.astore 4, 2) := by decide +kernel
theorem dX8_both_13 : decode cX8_both 13 = .ok (.aload_n 3, 1) := by decide +kernel
theorem dX8_both_14 : decode cX8_both 14 = .ok (.ifnull 20, 3) := by decide +kernel
theorem dX8_both_17 : decode cX8_both 17 = .ok (.aload 4, 2) := by decide +kernel
theorem dX8_both_19 : decode cX8_both 19 = .ok (.ifnull 15, 3) := by decide +kernel
theorem dX8_both_22 : decode cX8_both 22 = .ok (.aload_n 3, 1) := by decide +kernel
theorem dX8_both_23 : decode cX8_both 23 = .ok (.getfield 68, 3) := by decide +kernel
theorem dX8_both_26 : decode cX8_both 26 = .ok (.aload 4, 2) := by decide +kernel
theorem dX8_both_28 : decode cX8_both 28 = .ok (.getfield 68, 3) := by decide +kernel
theorem dX8_both_31 : decode cX8_both 31 = .ok (.if_icmp .eq 5, 3) := by decide +kernel
theorem dX8_both_34 : decode cX8_both 34 = .ok (.iconst (-1), 1) := by decide +kernel
theorem dX8_both_35 : decode cX8_both 35 = .ok (.ireturn, 1) := by decide +kernel
theorem dX8_both_36 : decode cX8_both 36 = .ok (.aload_n 3, 1) := by decide +kernel
theorem dX8_both_37 : decode cX8_both 37 = .ok (.getfield 71, 3) := by decide +kernel
theorem dX8_both_40 : decode cX8_both 40 = .ok (.invokevirtual 142, 3) := by decide +kernel
theorem dX8_both_43 : decode cX8_both 43 = .ok (.ifCond .eq 14, 3) := by decide +kernel
theorem dX8_both_46 : decode cX8_both 46 = .ok (.aload 4, 2) := by decide +kernel
theorem dX8_both_48 : decode cX8_both 48 = .ok (.getfield 71, 3) := by decide +kernel
theorem dX8_both_51 : decode cX8_both 51 = .ok (.invokevirtual 142, 3) := by decide +kernel
theorem dX8_both_54 : decode cX8_both 54 = .ok (.ifCond .ne 5, 3) := by decide +kernel
theorem dX8_both_57 : decode cX8_both 57 = .ok (.iconst (-1), 1) := by decide +kernel
theorem dX8_both_58 : decode cX8_both 58 = .ok (.ireturn, 1) := by decide +kernel
theorem dX8_both_59 : decode cX8_both 59 = .ok (.aload_n 3, 1) := by decide +kernel
theorem dX8_both_60 : decode cX8_both 60 = .ok (.getfield 71, 3) := by decide +kernel
theorem dX8_both_63 : decode cX8_both 63 = .ok (.aload 4, 2) := by decide +kernel
theorem dX8_both_65 : decode cX8_both 65 = .ok (.getfield 71, 3) := by decide +kernel
theorem dX8_both_68 : decode cX8_both 68 = .ok (.invokevirtual 153, 3) := by decide +kernel
theorem dX8_both_71 : decode cX8_both 71 = .ok (.ireturn, 1) := by decide +kernel
set_option maxRecDepth 20000 in
theorem ggX8_box_X8_boxAt : GoodIn wsX8_box wsX8_boxAt := goodIn_r _ [5, 6, 7, 8, 4, 9, 24, 25, 26, 27, 28] rfl (by decide +kernel)
set_option maxRecDepth 20000 in
theorem gX8_box_X8_boxAt : GoodIn wsX8_box (wsV RX8 157 RX8 yX8_boxAt wsX8_boxAt) := goodIn_app (goodIn_of _ (by decide +kernel)) ggX8_box_X8_boxAt
set_option maxRecDepth 20000 in
theorem ggX8_box_X8_within : GoodIn wsX8_box wsX8_within := goodIn_r _ [9] rfl (by decide +kernel)
set_option maxRecDepth 20000 in
theorem gX8_box_X8_within : GoodIn wsX8_box (va_wsS RX8 40 yX8_within wsX8_within) := goodIn_app (goodIn_of _ (by decide +kernel)) ggX8_box_X8_within
set_option maxRecDepth 20000 in
theorem ggX8_box_X0_startAnew : GoodIn wsX8_box wsX0_startAnew := goodIn_r _ [13, 14, 15, 16, 17, 18, 4, 19, 20, 21, 22, 23, 29, 30, 31, 32] rfl (by decide +kernel)
set_option maxRecDepth 20000 in
theorem gX8_box_X0_startAnew_n161 : GoodIn wsX8_box (wsX0_startAnew) := ggX8_box_X0_startAnew
theorem dX8_box_0 : decode cX8_box 0 = .ok (.aload_n 0, 1) := by decide +kernel
theorem dX8_box_1 : decode cX8_box 1 = .ok (.iload_n 1, 1) := by decide +kernel
theorem dX8_box_2 : decode cX8_box 2 = .ok (.invokevirtual 157, 3) := by decide +kernel
theorem dX8_box_5 : decode cX8_box 5 = .ok (.astore 4, 2) := by decide +kernel
theorem dX8_box_7 : decode cX8_box 7 = .ok (.aload 4, 2) := by decide +kernel
theorem dX8_box_9 : decode cX8_box 9 = .ok (.ifnull 22, 3) := by decide +kernel
theorem dX8_box_12 : decode cX8_box 12 = .ok (.iload_n 2, 1) := by decide +kernel
theorem dX8_box_13 : decode cX8_box 13 = .ok (.iconst 1, 1) := by decide +kernel
theorem dX8_box_14 : decode cX8_box 14 = .ok (.bipush 8, 2) := by decide +kernel
theorem dX8_box_16 : decode cX8_box 16 = .ok (.invokestatic 40, 3) := by decide +kernel
theorem dX8_box_19 : decode cX8_box 19 = .ok (.ifCond .eq 12, 3) := by decide +kernel
theorem dX8_box_22 : decode cX8_box 22 = .ok (.iload_n 3, 1) := by decide +kernel
theorem dX8_box_23 : decode cX8_box 23 = .ok (.iconst 1, 1) := by decide +kernel
theorem dX8_box_24 : decode cX8_box 24 = .ok (.iconst 4, 1) := by decide +kernel
theorem dX8_box_25 : decode cX8_box 25 = .ok (.invokestatic 40, 3) := by decide +kernel
theorem dX8_box_28 : decode cX8_box 28 = .ok (.ifCond .ne 5, 3) := by decide +kernel
theorem dX8_box_31 : decode cX8_box 31 = .ok (.iconst 0, 1) := by decide +kernel
theorem dX8_box_32 : decode cX8_box 32 = .ok (.ireturn, 1) := by decide +kernel
theorem dX8_box_33 : decode cX8_box 33 = .ok (.aload 4, 2) := by decide +kernel
theorem dX8_box_35 : decode cX8_box 35 = .ok (.iload_n 2, 1) := by decide +kernel
theorem dX8_box_36 : decode cX8_box 36 = .ok (.iload_n 3, 1) := by decide +kernel
theorem dX8_box_37 : decode cX8_box 37 = .ok (.invokevirtual 161, 3) := by decide +kernel
theorem dX8_box_40 : decode cX8_box 40 = .ok (.iconst 1, 1) := by decide +kernel
theorem dX8_box_41 : decode cX8_box 41 = .ok (.ireturn, 1) := by decide +kernel
set_option maxRecDepth 20000 in
theorem ggX8_lead_X8_boxAt : GoodIn wsX8_lead wsX8_boxAt := goodIn_r _ [5, 6, 7, 8, 4, 9, 28, 29, 30, 31, 32] rfl (by decide +kernel)
set_option maxRecDepth 20000 in
theorem gX8_lead_X8_boxAt : GoodIn wsX8_lead (wsV RX8 157 RX8 yX8_boxAt wsX8_boxAt) := goodIn_app (goodIn_of _ (by decide +kernel)) ggX8_lead_X8_boxAt
set_option maxRecDepth 20000 in
theorem ggX8_lead_X0_hasState : GoodIn wsX8_lead wsX0_hasState := goodIn_r _ [14, 15, 8, 4, 9, 33, 34, 35, 36] rfl (by decide +kernel)
set_option maxRecDepth 20000 in
theorem gX8_lead_X0_hasState : GoodIn wsX8_lead (wsV RX8 164 RX0 yX0_hasState wsX0_hasState) := goodIn_app (goodIn_of _ (by decide +kernel)) ggX8_lead_X0_hasState
set_option maxRecDepth 20000 in
theorem ggX8_lead_X0_hasButton : GoodIn wsX8_lead wsX0_hasButton := goodIn_r _ [19, 20, 8, 4, 9, 33, 34, 35, 36] rfl (by decide +kernel)
set_option maxRecDepth 20000 in
theorem gX8_lead_X0_hasButton : GoodIn wsX8_lead (wsV RX8 167 RX0 yX0_hasButton wsX0_hasButton) := goodIn_app (goodIn_of _ (by decide +kernel)) ggX8_lead_X0_hasButton
set_option maxRecDepth 20000 in
theorem ggX8_lead_X0_setLead : GoodIn wsX8_lead wsX0_setLead := goodIn_r _ [24, 25, 26, 11, 12, 13, 14, 15, 8, 4, 9, 27, 17, 18, 19, 20, 33, 34, 35, 36] rfl (by decide +kernel)
set_option maxRecDepth 20000 in
theorem gX8_lead_X0_setLead : GoodIn wsX8_lead (wsV RX8 170 RX0 yX0_setLead wsX0_setLead) := goodIn_app (goodIn_of _ (by decide +kernel)) ggX8_lead_X0_setLead
theorem dX8_lead_0 : decode cX8_lead 0 = .ok (.aload_n 0, 1) := by decide +kernel
theorem dX8_lead_1 : decode cX8_lead 1 = .ok (.iload_n 1, 1) := by decide +kernel
theorem dX8_lead_2 : decode cX8_lead 2 = .ok (.invokevirtual 157, 3) := by decide +kernel
theorem dX8_lead_5 : decode cX8_lead 5 = .ok (.astore 5, 2) := by decide +kernel
theorem dX8_lead_7 : decode cX8_lead 7 = .ok (.aload 5, 2) := by decide +kernel
theorem dX8_lead_9 : decode cX8_lead 9 = .ok (.ifnull 31, 3) := by decide +kernel
theorem dX8_lead_12 : decode cX8_lead 12 = .ok (.aload 5, 2) := by decide +kernel
theorem dX8_lead_14 : decode cX8_lead 14 = .ok (.iload_n 2, 1) := by decide +kernel
theorem dX8_lead_15 : decode cX8_lead 15 = .ok (.invokevirtual 164, 3) := by decide +kernel
theorem dX8_lead_18 : decode cX8_lead 18 = .ok (.ifCond .eq 22, 3) := by decide +kernel
theorem dX8_lead_21 : decode cX8_lead 21 = .ok (.aload 5, 2) := by decide +kernel
theorem dX8_lead_23 : decode cX8_lead 23 = .ok (.iload_n 3, 1) := by decide +kernel
theorem dX8_lead_24 : decode cX8_lead 24 = .ok (.invokevirtual 167, 3) := by decide +kernel
theorem dX8_lead_27 : decode cX8_lead 27 = .ok (.ifCond .eq 13, 3) := by decide +kernel
theorem dX8_lead_30 : decode cX8_lead 30 = .ok (.aload 5, 2) := by decide +kernel
theorem dX8_lead_32 : decode cX8_lead 32 = .ok (.iload 4, 2) := by decide +kernel
theorem dX8_lead_34 : decode cX8_lead 34 = .ok (.invokevirtual 164, 3) := by decide +kernel
theorem dX8_lead_37 : decode cX8_lead 37 = .ok (.ifCond .ne 5, 3) := by decide +kernel
theorem dX8_lead_40 : decode cX8_lead 40 = .ok (.iconst 0, 1) := by decide +kernel
theorem dX8_lead_41 : decode cX8_lead 41 = .ok (.ireturn, 1) := by decide +kernel
theorem dX8_lead_42 : decode cX8_lead 42 = .ok (.aload 5, 2) := by decide +kernel
theorem dX8_lead_44 : decode cX8_lead 44 = .ok (.iload_n 2, 1) := by decide +kernel
theorem dX8_lead_45 : decode cX8_lead 45 = .ok (.iload_n 3, 1) := by decide +kernel
theorem dX8_lead_46 : decode cX8_lead 46 = .ok (.iload 4, 2) := by decide +kernel
theorem dX8_lead_48 : decode cX8_lead 48 = .ok (.invokevirtual 170, 3) := by decide +kernel
theorem dX8_lead_51 : decode cX8_lead 51 = .ok (.iconst 1, 1) := by decide +kernel
theorem dX8_lead_52 : decode cX8_lead 52 = .ok (.ireturn, 1) := by decide +kernel
set_option maxRecDepth 20000 in
theorem ggX8_maybe_X8_boxAt : GoodIn wsX8_maybe wsX8_boxAt := goodIn_r _ [5, 6, 7, 8, 4, 9, 22, 23, 24, 25, 26] rfl (by decide +kernel)
set_option maxRecDepth 20000 in
theorem gX8_maybe_X8_boxAt : GoodIn wsX8_maybe (wsV RX8 157 RX8 yX8_boxAt wsX8_boxAt) := goodIn_app (goodIn_of _ (by decide +kernel)) ggX8_maybe_X8_boxAt
set_option maxRecDepth 20000 in
theorem ggX8_maybe_X0_hasSet : GoodIn wsX8_maybe wsX0_hasSet := goodIn_r _ [14, 15, 16, 4, 17, 8, 9, 18, 19, 20, 21] rfl (by decide +kernel)
set_option maxRecDepth 20000 in
theorem gX8_maybe_X0_hasSet : GoodIn wsX8_maybe (wsV RX8 174 RX0 yX0_hasSet wsX0_hasSet) := goodIn_app (goodIn_of _ (by decide +kernel)) ggX8_maybe_X0_hasSet
theorem dX8_maybe_0 : decode cX8_maybe 0 = .ok (.aload_n 0, 1) := by decide +kernel
theorem dX8_maybe_1 : decode cX8_maybe 1 = .ok (.iload_n 1, 1) := by decide +kernel
theorem dX8_maybe_2 : decode cX8_maybe 2 = .ok (.invokevirtual 157, 3) := by decide +kernel
theorem dX8_maybe_5 : decode cX8_maybe 5 = .ok (.astore_n 3, 1) := by decide +kernel
theorem dX8_maybe_6 : decode cX8_maybe 6 = .ok (.aload_n 3, 1) := by decide +kernel
theorem dX8_maybe_7 : decode cX8_maybe 7 = .ok (.ifnull 11, 3) := by decide +kernel
theorem dX8_maybe_10 : decode cX8_maybe 10 = .ok (.aload_n 3, 1) := by decide +kernel
theorem dX8_maybe_11 : decode cX8_maybe 11 = .ok (.iload_n 2, 1) := by decide +kernel
theorem dX8_maybe_12 : decode cX8_maybe 12 = .ok (.invokevirtual 174, 3) := by decide +kernel
theorem dX8_maybe_15 : decode cX8_maybe 15 = .ok (.ifCond .ne 5, 3) := by decide +kernel
theorem dX8_maybe_18 : decode cX8_maybe 18 = .ok (.iconst 0, 1) := by decide +kernel
theorem dX8_maybe_19 : decode cX8_maybe 19 = .ok (.ireturn, 1) := by decide +kernel
theorem dX8_maybe_20 : decode cX8_maybe 20 = .ok (.aload_n 3, 1) := by decide +kernel
theorem dX8_maybe_21 : decode cX8_maybe 21 = .ok (.iload_n 2, 1) := by decide +kernel
theorem dX8_maybe_22 : decode cX8_maybe 22 = .ok (.putfield 177, 3) := by decide +kernel
theorem dX8_maybe_25 : decode cX8_maybe 25 = .ok (.iconst 1, 1) := by decide +kernel
theorem dX8_maybe_26 : decode cX8_maybe 26 = .ok (.ireturn, 1) := by decide +kernel
set_option maxRecDepth 20000 in
theorem ggX8_push_X8_boxAt : GoodIn wsX8_push wsX8_boxAt := goodIn_r _ [5, 6, 7, 8, 4, 9, 27, 28, 29, 30, 31] rfl (by decide +kernel)
set_option maxRecDepth 20000 in
theorem gX8_push_X8_boxAt : GoodIn wsX8_push (wsV RX8 157 RX8 yX8_boxAt wsX8_boxAt) := goodIn_app (goodIn_of _ (by decide +kernel)) ggX8_push_X8_boxAt
set_option maxRecDepth 20000 in
theorem ggX8_push_X0_hasButton : GoodIn wsX8_push wsX0_hasButton := goodIn_r _ [14, 15, 8, 4, 9, 23, 24, 25, 26] rfl (by decide +kernel)
set_option maxRecDepth 20000 in
theorem gX8_push_X0_hasButton : GoodIn wsX8_push (wsV RX8 167 RX0 yX0_hasButton wsX0_hasButton) := goodIn_app (goodIn_of _ (by decide +kernel)) ggX8_push_X0_hasButton
set_option maxRecDepth 20000 in
theorem ggX8_push_X0_behind : GoodIn wsX8_push wsX0_behind := goodIn_r _ [19, 20, 21, 22, 11, 12, 13, 14, 15, 8, 4, 9, 23, 24, 25, 26] rfl (by decide +kernel)
set_option maxRecDepth 20000 in
theorem gX8_push_X0_behind : GoodIn wsX8_push (wsV RX8 180 RX0 yX0_behind wsX0_behind) := goodIn_app (goodIn_of _ (by decide +kernel)) ggX8_push_X0_behind
theorem dX8_push_0 : decode cX8_push 0 = .ok (.aload_n 0, 1) := by decide +kernel
theorem dX8_push_1 : decode cX8_push 1 = .ok (.iload_n 1, 1) := by decide +kernel
theorem dX8_push_2 : decode cX8_push 2 = .ok (.invokevirtual 157, 3) := by decide +kernel
theorem dX8_push_5 : decode cX8_push 5 = .ok (.astore_n 3, 1) := by decide +kernel
theorem dX8_push_6 : decode cX8_push 6 = .ok (.aload_n 3, 1) := by decide +kernel
theorem dX8_push_7 : decode cX8_push 7 = .ok (.ifnull 11, 3) := by decide +kernel
theorem dX8_push_10 : decode cX8_push 10 = .ok (.aload_n 3, 1) := by decide +kernel
theorem dX8_push_11 : decode cX8_push 11 = .ok (.iload_n 2, 1) := by decide +kernel
theorem dX8_push_12 : decode cX8_push 12 = .ok (.invokevirtual 167, 3) := by decide +kernel
theorem dX8_push_15 : decode cX8_push 15 = .ok (.ifCond .ne 5, 3) := by decide +kernel
theorem dX8_push_18 : decode cX8_push 18 = .ok (.iconst (-1), 1) := by decide +kernel
theorem dX8_push_19 : decode cX8_push 19 = .ok (.ireturn, 1) := by decide +kernel
theorem dX8_push_20 : decode cX8_push 20 = .ok (.aload_n 3, 1) := by decide +kernel
theorem dX8_push_21 : decode cX8_push 21 = .ok (.aload_n 3, 1) := by decide +kernel
theorem dX8_push_22 : decode cX8_push 22 = .ok (.aload_n 3, 1) := by decide +kernel
theorem dX8_push_23 : decode cX8_push 23 = .ok (.getfield 177, 3) := by decide +kernel
theorem dX8_push_26 : decode cX8_push 26 = .ok (.iload_n 2, 1) := by decide +kernel
theorem dX8_push_27 : decode cX8_push 27 = .ok (.invokevirtual 180, 3) := by decide +kernel
theorem dX8_push_30 : decode cX8_push 30 = .ok (.putfield 177, 3) := by decide +kernel
theorem dX8_push_33 : decode cX8_push 33 = .ok (.aload_n 3, 1) := by decide +kernel
theorem dX8_push_34 : decode cX8_push 34 = .ok (.getfield 177, 3) := by decide +kernel
theorem dX8_push_37 : decode cX8_push 37 = .ok (.ireturn, 1) := by decide +kernel
set_option maxRecDepth 20000 in
theorem ggX8_way_X8_boxAt : GoodIn wsX8_way wsX8_boxAt := goodIn_r _ [6, 7, 8, 9, 5, 10, 47, 48, 49, 50, 51] rfl (by decide +kernel)
set_option maxRecDepth 20000 in
theorem gX8_way_X8_boxAt : GoodIn wsX8_way (wsV RX8 157 RX8 yX8_boxAt wsX8_boxAt) := goodIn_app (goodIn_of _ (by decide +kernel)) ggX8_way_X8_boxAt
set_option maxRecDepth 20000 in
theorem ggX8_way_X0_hasSet : GoodIn wsX8_way wsX0_hasSet := goodIn_r _ [15, 16, 17, 5, 18, 9, 10, 52, 53, 54, 55] rfl (by decide +kernel)
set_option maxRecDepth 20000 in
theorem gX8_way_X0_hasSet : GoodIn wsX8_way (wsV RX8 174 RX0 yX0_hasSet wsX0_hasSet) := goodIn_app (goodIn_of _ (by decide +kernel)) ggX8_way_X0_hasSet
set_option maxRecDepth 20000 in
theorem ggX8_way_X6_find : GoodIn wsX8_way wsX6_find := goodIn_r _ [23, 24, 25, 26, 27, 28, 29, 30, 31, 32, 33, 22, 34, 35, 36, 37, 38, 39, 14, 40, 16, 41, 42, 43, 44, 45, 46, 9, 5, 10, 56, 57, 58, 59, 60, 52, 53, 54, 55] rfl (by decide +kernel)
set_option maxRecDepth 20000 in
theorem gX8_way_X6_find : GoodIn wsX8_way (wsV RX8 183 RX6 yX6_find wsX6_find) := goodIn_app (goodIn_of _ (by decide +kernel)) ggX8_way_X6_find
theorem dX8_way_0 : decode cX8_way 0 = .ok (.aload_n 0, 1) := by decide +kernel
theorem dX8_way_1 : decode cX8_way 1 = .ok (.iload_n 1, 1) := by decide +kernel
theorem dX8_way_2 : decode cX8_way 2 = .ok (.invokevirtual 157, 3) := by decide +kernel
theorem dX8_way_5 : decode cX8_way 5 = .ok (.astore_n 3, 1) := by decide +kernel
theorem dX8_way_6 : decode cX8_way 6 = .ok (.aload_n 3, 1) := by decide +kernel
theorem dX8_way_7 : decode cX8_way 7 = .ok (.ifnull 11, 3) := by decide +kernel
theorem dX8_way_10 : decode cX8_way 10 = .ok (.aload_n 3, 1) := by decide +kernel
theorem dX8_way_11 : decode cX8_way 11 = .ok (.iload_n 2, 1) := by decide +kernel
theorem dX8_way_12 : decode cX8_way 12 = .ok (.invokevirtual 174, 3) := by decide +kernel
theorem dX8_way_15 : decode cX8_way 15 = .ok (.ifCond .ne 7, 3) := by decide +kernel
theorem dX8_way_18 : decode cX8_way 18 = .ok (.iconst (-1), 1) := by decide +kernel
theorem dX8_way_19 : decode cX8_way 19 = .ok (.goto 12, 3) := by decide +kernel
theorem dX8_way_22 : decode cX8_way 22 = .ok (.aload_n 0, 1) := by decide +kernel
theorem dX8_way_23 : decode cX8_way 23 = .ok (.getfield 36, 3) := by decide +kernel
theorem dX8_way_26 : decode cX8_way 26 = .ok (.aload_n 3, 1) := by decide +kernel
theorem dX8_way_27 : decode cX8_way 27 = .ok (.iload_n 2, 1) := by decide +kernel
theorem dX8_way_28 : decode cX8_way 28 = .ok (.invokevirtual 183, 3) := by decide +kernel
theorem dX8_way_31 : decode cX8_way 31 = .ok (.ireturn, 1) := by decide +kernel
set_option maxRecDepth 20000 in
theorem ggX8_button_X6_buttonAt : GoodIn wsX8_button wsX6_buttonAt := goodIn_r _ [6, 7, 8, 9, 10, 11, 17, 18, 19, 20, 21] rfl (by decide +kernel)
set_option maxRecDepth 20000 in
theorem gX8_button_X6_buttonAt : GoodIn wsX8_button (wsV RX8 187 RX6 yX6_buttonAt wsX6_buttonAt) := goodIn_app (goodIn_of _ (by decide +kernel)) ggX8_button_X6_buttonAt
theorem dX8_button_0 : decode cX8_button 0 = .ok (.aload_n 0, 1) := by decide +kernel
theorem dX8_button_1 : decode cX8_button 1 = .ok (.getfield 36, 3) := by decide +kernel
theorem dX8_button_4 : decode cX8_button 4 = .ok (.iload_n 1, 1) := by decide +kernel
theorem dX8_button_5 : decode cX8_button 5 = .ok (.invokevirtual 187, 3) := by decide +kernel
theorem dX8_button_8 : decode cX8_button 8 = .ok (.ireturn, 1) := by decide +kernel
set_option maxRecDepth 20000 in
theorem ggX8_told_X8_boxAt : GoodIn wsX8_told wsX8_boxAt := goodIn_r _ [5, 6, 7, 8, 4, 9, 14, 15, 16, 17, 18] rfl (by decide +kernel)
set_option maxRecDepth 20000 in
theorem gX8_told_X8_boxAt : GoodIn wsX8_told (wsV RX8 157 RX8 yX8_boxAt wsX8_boxAt) := goodIn_app (goodIn_of _ (by decide +kernel)) ggX8_told_X8_boxAt
theorem dX8_told_0 : decode cX8_told 0 = .ok (.aload_n 0, 1) := by decide +kernel
theorem dX8_told_1 : decode cX8_told 1 = .ok (.iload_n 1, 1) := by decide +kernel
theorem dX8_told_2 : decode cX8_told 2 = .ok (.invokevirtual 157, 3) := by decide +kernel
theorem dX8_told_5 : decode cX8_told 5 = .ok (.astore_n 3, 1) := by decide +kernel
theorem dX8_told_6 : decode cX8_told 6 = .ok (.aload_n 3, 1) := by decide +kernel
theorem dX8_told_7 : decode cX8_told 7 = .ok (.ifnonnull 5, 3) := by decide +kernel
theorem dX8_told_10 : decode cX8_told 10 = .ok (.iconst (-1), 1) := by decide +kernel
theorem dX8_told_11 : decode cX8_told 11 = .ok (.ireturn, 1) := by decide +kernel
theorem dX8_told_12 : decode cX8_told 12 = .ok (.iload_n 2, 1) := by decide +kernel
theorem dX8_told_13 : decode cX8_told 13 = .ok (.tableswitch 42 0 2 #[27, 32, 37], 27) := by decide +kernel
theorem dX8_told_40 : decode cX8_told 40 = .ok (.aload_n 3, 1) := by decide +kernel
theorem dX8_told_41 : decode cX8_told 41 = .ok (.getfield 190, 3) := by decide +kernel
theorem dX8_told_44 : decode cX8_told 44 = .ok (.ireturn, 1) := by decide +kernel
theorem dX8_told_45 : decode cX8_told 45 = .ok (.aload_n 3, 1) := by decide +kernel
theorem dX8_told_46 : decode cX8_told 46 = .ok (.getfield 193, 3) := by decide +kernel
theorem dX8_told_49 : decode cX8_told 49 = .ok (.ireturn, 1) := by decide +kernel
theorem dX8_told_50 : decode cX8_told 50 = .ok (.aload_n 3, 1) := by decide +kernel
theorem dX8_told_51 : decode cX8_told 51 = .ok (.getfield 177, 3) := by decide +kernel
theorem dX8_told_54 : decode cX8_told 54 = .ok (.ireturn, 1) := by decide +kernel
theorem dX8_told_55 : decode cX8_told 55 = .ok (.iconst (-1), 1) := by decide +kernel
theorem dX8_told_56 : decode cX8_told 56 = .ok (.ireturn, 1) := by decide +kernel
theorem dX8_count_0 : decode cX8_count 0 = .ok (.iload_n 1, 1) := by decide +kernel
theorem dX8_count_1 : decode cX8_count 1 = .ok (.tableswitch 48 0 2 #[27, 32, 40], 27) := by decide +kernel
theorem dX8_count_28 : decode cX8_count 28 = .ok (.aload_n 0, 1) := by decide +kernel
theorem dX8_count_29 : decode cX8_count 29 = .ok (.getfield 22, 3) := by decide +kernel
theorem dX8_count_32 : decode cX8_count 32 = .ok (.ireturn, 1) := by decide +kernel
theorem dX8_count_33 : decode cX8_count 33 = .ok (.aload_n 0, 1) := by decide +kernel
theorem dX8_count_34 : decode cX8_count 34 = .ok (.getfield 12, 3) := by decide +kernel
theorem dX8_count_37 : decode cX8_count 37 = .ok (.getfield 81, 3) := by decide +kernel
theorem dX8_count_40 : decode cX8_count 40 = .ok (.ireturn, 1) := by decide +kernel
theorem dX8_count_41 : decode cX8_count 41 = .ok (.aload_n 0, 1) := by decide +kernel
theorem dX8_count_42 : decode cX8_count 42 = .ok (.getfield 36, 3) := by decide +kernel
theorem dX8_count_45 : decode cX8_count 45 = .ok (.getfield 196, 3) := by decide +kernel
theorem dX8_count_48 : decode cX8_count 48 = .ok (.ireturn, 1) := by decide +kernel
theorem dX8_count_49 : decode cX8_count 49 = .ok (.iconst (-1), 1) := by decide +kernel
theorem dX8_count_50 : decode cX8_count 50 = .ok (.ireturn, 1) := by decide +kernel
set_option maxRecDepth 20000 in
theorem ggX8_makeAt_X8_within : GoodIn wsX8_makeAt wsX8_within := goodIn_r _ [6] rfl (by decide +kernel)
set_option maxRecDepth 20000 in
theorem gX8_makeAt_X8_within : GoodIn wsX8_makeAt (va_wsS RX8 40 yX8_within wsX8_within) := goodIn_app (goodIn_of _ (by decide +kernel)) ggX8_makeAt_X8_within
theorem dX8_makeAt_0 : decode cX8_makeAt 0 = .ok (.iload_n 1, 1) := by decide +kernel
theorem dX8_makeAt_1 : decode cX8_makeAt 1 = .ok (.iconst 0, 1) := by decide +kernel
theorem dX8_makeAt_2 : decode cX8_makeAt 2 = .ok (.aload_n 0, 1) := by decide +kernel
theorem dX8_makeAt_3 : decode cX8_makeAt 3 = .ok (.getfield 22, 3) := by decide +kernel
theorem dX8_makeAt_6 : decode cX8_makeAt 6 = .ok (.iconst 1, 1) := by decide +kernel
theorem dX8_makeAt_7 : decode cX8_makeAt 7 = .ok (.isub, 1) := by decide +kernel
theorem dX8_makeAt_8 : decode cX8_makeAt 8 = .ok (.invokestatic 40, 3) := by decide +kernel
theorem dX8_makeAt_11 : decode cX8_makeAt 11 = .ok (.ifCond .eq 12, 3) := by decide +kernel
theorem dX8_makeAt_14 : decode cX8_makeAt 14 = .ok (.aload_n 0, 1) := by decide +kernel
theorem dX8_makeAt_15 : decode cX8_makeAt 15 = .ok (.getfield 18, 3) := by decide +kernel
theorem dX8_makeAt_18 : decode cX8_makeAt 18 = .ok (.iload_n 1, 1) := by decide +kernel
theorem dX8_makeAt_19 : decode cX8_makeAt 19 = .ok (.aaload, 1) := by decide +kernel
theorem dX8_makeAt_20 : decode cX8_makeAt 20 = .ok (.goto 4, 3) := by decide +kernel
theorem dX8_makeAt_23 : decode cX8_makeAt 23 = .ok (.aconst_null, 1) := by decide +kernel
theorem dX8_makeAt_24 : decode cX8_makeAt 24 = .ok (.areturn, 1) := by decide +kernel
set_option maxRecDepth 20000 in
theorem ggX8_boxAt_X8_within : GoodIn wsX8_boxAt wsX8_within := goodIn_r _ [5] rfl (by decide +kernel)
set_option maxRecDepth 20000 in
theorem gX8_boxAt_X8_within : GoodIn wsX8_boxAt (va_wsS RX8 40 yX8_within wsX8_within) := goodIn_app (goodIn_of _ (by decide +kernel)) ggX8_boxAt_X8_within
theorem dX8_boxAt_0 : decode cX8_boxAt 0 = .ok (.iload_n 1, 1) := by decide +kernel
theorem dX8_boxAt_1 : decode cX8_boxAt 1 = .ok (.iconst 0, 1) := by decide +kernel
theorem dX8_boxAt_2 : decode cX8_boxAt 2 = .ok (.iconst 3, 1) := by decide +kernel
theorem dX8_boxAt_3 : decode cX8_boxAt 3 = .ok (.invokestatic 40, 3) := by decide +kernel
theorem dX8_boxAt_6 : decode cX8_boxAt 6 = .ok (.ifCond .eq 12, 3) := by decide +kernel
theorem dX8_boxAt_9 : decode cX8_boxAt 9 = .ok (.aload_n 0, 1) := by decide +kernel
theorem dX8_boxAt_10 : decode cX8_boxAt 10 = .ok (.getfield 28, 3) := by decide +kernel
theorem dX8_boxAt_13 : decode cX8_boxAt 13 = .ok (.iload_n 1, 1) := by decide +kernel
theorem dX8_boxAt_14 : decode cX8_boxAt 14 = .ok (.aaload, 1) := by decide +kernel
theorem dX8_boxAt_15 : decode cX8_boxAt 15 = .ok (.goto 4, 3) := by decide +kernel
theorem dX8_boxAt_18 : decode cX8_boxAt 18 = .ok (.aconst_null, 1) := by decide +kernel
theorem dX8_boxAt_19 : decode cX8_boxAt 19 = .ok (.areturn, 1) := by decide +kernel
theorem dX8_within_0 : decode cX8_within 0 = .ok (.iload_n 0, 1) := by decide +kernel
theorem dX8_within_1 : decode cX8_within 1 = .ok (.iload_n 1, 1) := by decide +kernel
theorem dX8_within_2 : decode cX8_within 2 = .ok (.if_icmp .lt 12, 3) := by decide +kernel
theorem dX8_within_5 : decode cX8_within 5 = .ok (.iload_n 0, 1) := by decide +kernel
theorem dX8_within_6 : decode cX8_within 6 = .ok (.iload_n 2, 1) := by decide +kernel
theorem dX8_within_7 : decode cX8_within 7 = .ok (.if_icmp .gt 7, 3) := by decide +kernel
theorem dX8_within_10 : decode cX8_within 10 = .ok (.iconst 1, 1) := by decide +kernel
theorem dX8_within_11 : decode cX8_within 11 = .ok (.goto 4, 3) := by decide +kernel
theorem dX8_within_14 : decode cX8_within 14 = .ok (.iconst 0, 1) := by decide +kernel
theorem dX8_within_15 : decode cX8_within 15 = .ok (.ireturn, 1) := by decide +kernel
set_option maxRecDepth 20000 in
theorem ggX8_isNumber_X8_within : GoodIn wsX8_isNumber wsX8_within := goodIn_r _ [4] rfl (by decide +kernel)
set_option maxRecDepth 20000 in
theorem gX8_isNumber_X8_within : GoodIn wsX8_isNumber (va_wsS RX8 40 yX8_within wsX8_within) := goodIn_app (goodIn_of _ (by decide +kernel)) ggX8_isNumber_X8_within
theorem dX8_isNumber_0 : decode cX8_isNumber 0 = .ok (.iload_n 0, 1) := by decide +kernel
theorem dX8_isNumber_1 : decode cX8_isNumber 1 = .ok (.iconst 1, 1) := by decide +kernel
theorem dX8_isNumber_2 : decode cX8_isNumber 2 = .ok (.sipush 9999, 3) := by decide +kernel
theorem dX8_isNumber_5 : decode cX8_isNumber 5 = .ok (.invokestatic 40, 3) := by decide +kernel
theorem dX8_isNumber_8 : decode cX8_isNumber 8 = .ok (.ireturn, 1) := by decide +kernel
set_option maxRecDepth 20000 in
theorem ggX8_isTime_X8_within : GoodIn wsX8_isTime wsX8_within := goodIn_r _ [4] rfl (by decide +kernel)
set_option maxRecDepth 20000 in
theorem gX8_isTime_X8_within : GoodIn wsX8_isTime (va_wsS RX8 40 yX8_within wsX8_within) := goodIn_app (goodIn_of _ (by decide +kernel)) ggX8_isTime_X8_within
theorem dX8_isTime_0 : decode cX8_isTime 0 = .ok (.iload_n 0, 1) := by decide +kernel
theorem dX8_isTime_1 : decode cX8_isTime 1 = .ok (.iconst 1, 1) := by decide +kernel
theorem dX8_isTime_2 : decode cX8_isTime 2 = .ok (.sipush 20000, 3) := by decide +kernel
theorem dX8_isTime_5 : decode cX8_isTime 5 = .ok (.invokestatic 40, 3) := by decide +kernel
theorem dX8_isTime_8 : decode cX8_isTime 8 = .ok (.ireturn, 1) := by decide +kernel
theorem dX8_lowBits_0 : decode cX8_lowBits 0 = .ok (.iconst 1, 1) := by decide +kernel
theorem dX8_lowBits_1 : decode cX8_lowBits 1 = .ok (.iload_n 0, 1) := by decide +kernel
theorem dX8_lowBits_2 : decode cX8_lowBits 2 = .ok (.ishl, 1) := by decide +kernel
theorem dX8_lowBits_3 : decode cX8_lowBits 3 = .ok (.iconst 1, 1) := by decide +kernel
theorem dX8_lowBits_4 : decode cX8_lowBits 4 = .ok (.isub, 1) := by decide +kernel
theorem dX8_lowBits_5 : decode cX8_lowBits 5 = .ok (.ireturn, 1) := by decide +kernel
theorem dX8_fault_0 : decode cX8_fault 0 = .ok (.bipush (-2), 2) := by decide +kernel
theorem dX8_fault_2 : decode cX8_fault 2 = .ok (.iload_n 0, 1) := by decide +kernel
theorem dX8_fault_3 : decode cX8_fault 3 = .ok (.isub, 1) := by decide +kernel
theorem dX8_fault_4 : decode cX8_fault 4 = .ok (.ireturn, 1) := by decide +kernel
set_option maxRecDepth 20000 in
theorem ggX8_fits_X8_isTime : GoodIn wsX8_fits wsX8_isTime := goodIn_r _ [8, 9, 10, 7, 11] rfl (by decide +kernel)
set_option maxRecDepth 20000 in
theorem gX8_fits_X8_isTime : GoodIn wsX8_fits (va_wsS RX8 199 yX8_isTime wsX8_isTime) := goodIn_app (goodIn_of _ (by decide +kernel)) ggX8_fits_X8_isTime
theorem dX8_fits_0 : decode cX8_fits 0 = .ok (.iload_n 0, 1) := by decide +kernel
theorem dX8_fits_1 : decode cX8_fits 1 = .ok (.invokestatic 199, 3) := by decide +kernel
theorem dX8_fits_4 : decode cX8_fits 4 = .ok (.ifCond .eq 22, 3) := by decide +kernel
theorem dX8_fits_7 : decode cX8_fits 7 = .ok (.iload_n 0, 1) := by decide +kernel
theorem dX8_fits_8 : decode cX8_fits 8 = .ok (.iload_n 1, 1) := by decide +kernel
theorem dX8_fits_9 : decode cX8_fits 9 = .ok (.isub, 1) := by decide +kernel
theorem dX8_fits_10 : decode cX8_fits 10 = .ok (.invokestatic 202, 3) := by decide +kernel
theorem dX8_fits_13 : decode cX8_fits 13 = .ok (.bipush 100, 2) := by decide +kernel
theorem dX8_fits_15 : decode cX8_fits 15 = .ok (.imul, 1) := by decide +kernel
theorem dX8_fits_16 : decode cX8_fits 16 = .ok (.iload_n 2, 1) := by decide +kernel
theorem dX8_fits_17 : decode cX8_fits 17 = .ok (.iload_n 1, 1) := by decide +kernel
theorem dX8_fits_18 : decode cX8_fits 18 = .ok (.imul, 1) := by decide +kernel
theorem dX8_fits_19 : decode cX8_fits 19 = .ok (.if_icmp .gt 7, 3) := by decide +kernel
theorem dX8_fits_22 : decode cX8_fits 22 = .ok (.iconst 1, 1) := by decide +kernel
theorem dX8_fits_23 : decode cX8_fits 23 = .ok (.goto 4, 3) := by decide +kernel
theorem dX8_fits_26 : decode cX8_fits 26 = .ok (.iconst 0, 1) := by decide +kernel
theorem dX8_fits_27 : decode cX8_fits 27 = .ok (.ireturn, 1) := by decide +kernel
set_option maxRecDepth 20000 in
theorem ggX8_nearerOf_X8_fits : GoodIn wsX8_nearerOf wsX8_fits := goodIn_r _ [8, 1, 2, 3, 4, 9, 10, 7, 11, 12, 13, 14] rfl (by decide +kernel)
set_option maxRecDepth 20000 in
theorem gX8_nearerOf_X8_fits : GoodIn wsX8_nearerOf (va_wsS RX8 207 yX8_fits wsX8_fits) := goodIn_app (goodIn_of _ (by decide +kernel)) ggX8_nearerOf_X8_fits
theorem dX8_nearerOf_0 : decode cX8_nearerOf 0 = .ok (.iload_n 0, 1) := by decide +kernel
theorem dX8_nearerOf_1 : decode cX8_nearerOf 1 = .ok (.iload_n 1, 1) := by decide +kernel
theorem dX8_nearerOf_2 : decode cX8_nearerOf 2 = .ok (.iload_n 3, 1) := by decide +kernel
theorem dX8_nearerOf_3 : decode cX8_nearerOf 3 = .ok (.invokestatic 207, 3) := by decide +kernel
theorem dX8_nearerOf_6 : decode cX8_nearerOf 6 = .ok (.istore 4, 2) := by decide +kernel
theorem dX8_nearerOf_8 : decode cX8_nearerOf 8 = .ok (.iload_n 0, 1) := by decide +kernel
theorem dX8_nearerOf_9 : decode cX8_nearerOf 9 = .ok (.iload_n 2, 1) := by decide +kernel
theorem dX8_nearerOf_10 : decode cX8_nearerOf 10 = .ok (.iload_n 3, 1) := by decide +kernel
theorem dX8_nearerOf_11 : decode cX8_nearerOf 11 = .ok (.invokestatic 207, 3) := by decide +kernel
theorem dX8_nearerOf_14 : decode cX8_nearerOf 14 = .ok (.istore 5, 2) := by decide +kernel
theorem dX8_nearerOf_16 : decode cX8_nearerOf 16 = .ok (.iload 4, 2) := by decide +kernel
theorem dX8_nearerOf_18 : decode cX8_nearerOf 18 = .ok (.ifCond .eq 29, 3) := by decide +kernel
theorem dX8_nearerOf_21 : decode cX8_nearerOf 21 = .ok (.iload 5, 2) := by decide +kernel
theorem dX8_nearerOf_23 : decode cX8_nearerOf 23 = .ok (.ifCond .eq 24, 3) := by decide +kernel
theorem dX8_nearerOf_26 : decode cX8_nearerOf 26 = .ok (.iload_n 0, 1) := by decide +kernel
theorem dX8_nearerOf_27 : decode cX8_nearerOf 27 = .ok (.iload_n 2, 1) := by decide +kernel
theorem dX8_nearerOf_28 : decode cX8_nearerOf 28 = .ok (.isub, 1) := by decide +kernel
theorem dX8_nearerOf_29 : decode cX8_nearerOf 29 = .ok (.invokestatic 202, 3) := by decide +kernel
theorem dX8_nearerOf_32 : decode cX8_nearerOf 32 = .ok (.iload_n 0, 1) := by decide +kernel
theorem dX8_nearerOf_33 : decode cX8_nearerOf 33 = .ok (.iload_n 1, 1) := by decide +kernel
theorem dX8_nearerOf_34 : decode cX8_nearerOf 34 = .ok (.isub, 1) := by decide +kernel
theorem dX8_nearerOf_35 : decode cX8_nearerOf 35 = .ok (.invokestatic 202, 3) := by decide +kernel
theorem dX8_nearerOf_38 : decode cX8_nearerOf 38 = .ok (.if_icmp .ge 7, 3) := by decide +kernel
theorem dX8_nearerOf_41 : decode cX8_nearerOf 41 = .ok (.iconst 1, 1) := by decide +kernel
theorem dX8_nearerOf_42 : decode cX8_nearerOf 42 = .ok (.goto 4, 3) := by decide +kernel
theorem dX8_nearerOf_45 : decode cX8_nearerOf 45 = .ok (.iconst 0, 1) := by decide +kernel
theorem dX8_nearerOf_46 : decode cX8_nearerOf 46 = .ok (.ireturn, 1) := by decide +kernel
theorem dX8_nearerOf_47 : decode cX8_nearerOf 47 = .ok (.iload 4, 2) := by decide +kernel
theorem dX8_nearerOf_49 : decode cX8_nearerOf 49 = .ok (.ifCond .eq 5, 3) := by decide +kernel
theorem dX8_nearerOf_52 : decode cX8_nearerOf 52 = .ok (.iconst 0, 1) := by decide +kernel
theorem dX8_nearerOf_53 : decode cX8_nearerOf 53 = .ok (.ireturn, 1) := by decide +kernel
theorem dX8_nearerOf_54 : decode cX8_nearerOf 54 = .ok (.iload 5, 2) := by decide +kernel
theorem dX8_nearerOf_56 : decode cX8_nearerOf 56 = .ok (.ifCond .eq 7, 3) := by decide +kernel
theorem dX8_nearerOf_59 : decode cX8_nearerOf 59 = .ok (.iconst 1, 1) := by decide +kernel
theorem dX8_nearerOf_60 : decode cX8_nearerOf 60 = .ok (.goto 4, 3) := by decide +kernel
theorem dX8_nearerOf_63 : decode cX8_nearerOf 63 = .ok (.iconst (-1), 1) := by decide +kernel
theorem dX8_nearerOf_64 : decode cX8_nearerOf 64 = .ok (.ireturn, 1) := by decide +kernel
theorem dX9_init_0 : decode cX9_init 0 = .ok (.aload_n 0, 1) := by decide +kernel
theorem dX9_init_1 : decode cX9_init 1 = .ok (.invokespecial 1, 3) := by decide +kernel
theorem dX9_init_4 : decode cX9_init 4 = .ok (.aload_n 0, 1) := by decide +kernel
theorem dX9_init_5 : decode cX9_init 5 = .ok (.bipush 120, 2) := by decide +kernel
theorem dX9_init_7 : decode cX9_init 7 = .ok (.newarray .int, 2) := by decide +kernel
theorem dX9_init_9 : decode cX9_init 9 = .ok (.putfield 9, 3) := by decide +kernel
theorem dX9_init_12 : decode cX9_init 12 = .ok (.aload_n 0, 1) := by decide +kernel
theorem dX9_init_13 : decode cX9_init 13 = .ok (.bipush 80, 2) := by decide +kernel
theorem dX9_init_15 : decode cX9_init 15 = .ok (.newarray .int, 2) := by decide +kernel
theorem dX9_init_17 : decode cX9_init 17 = .ok (.putfield 13, 3) := by decide +kernel
theorem dX9_init_20 : decode cX9_init 20 = .ok (.aload_n 0, 1) := by decide +kernel
theorem dX9_init_21 : decode cX9_init 21 = .ok (.sipush 128, 3) := by decide +kernel
theorem dX9_init_24 : decode cX9_init 24 = .ok (.newarray .int, 2) := by decide +kernel
theorem dX9_init_26 : decode cX9_init 26 = .ok (.putfield 16, 3) := by decide +kernel
theorem dX9_init_29 : decode cX9_init 29 = .ok (.aload_n 0, 1) := by decide +kernel
theorem dX9_init_30 : decode cX9_init 30 = .ok (.iconst 4, 1) := by decide +kernel
theorem dX9_init_31 : decode cX9_init 31 = .ok (.newarray .int, 2) := by decide +kernel
theorem dX9_init_33 : decode cX9_init 33 = .ok (.putfield 19, 3) := by decide +kernel
theorem dX9_init_36 : decode cX9_init 36 = .ok (.aload_n 0, 1) := by decide +kernel
theorem dX9_init_37 : decode cX9_init 37 = .ok (.iconst 4, 1) := by decide +kernel
theorem dX9_init_38 : decode cX9_init 38 = .ok (.newarray .int, 2) := by decide +kernel
theorem dX9_init_40 : decode cX9_init 40 = .ok (.putfield 22, 3) := by decide +kernel
theorem dX9_init_43 : decode cX9_init 43 = .ok (.aload_n 0, 1) := by decide +kernel
theorem dX9_init_44 : decode cX9_init 44 = .ok (.sipush 128, 3) := by decide +kernel
theorem dX9_init_47 : decode cX9_init 47 = .ok (.newarray .int, 2) := by decide +kernel
theorem dX9_init_49 : decode cX9_init 49 = .ok (.putfield 25, 3) := by decide +kernel
theorem dX9_init_52 : decode cX9_init 52 = .ok (.aload_n 0, 1) := by decide +kernel
theorem dX9_init_53 : decode cX9_init 53 = .ok (.iconst 4, 1) := by decide +kernel
theorem dX9_init_54 : decode cX9_init 54 = .ok (.newarray .int, 2) := by decide +kernel
theorem dX9_init_56 : decode cX9_init 56 = .ok (.putfield 28, 3) := by decide +kernel
theorem dX9_init_59 : decode cX9_init 59 = .ok (.aload_n 0, 1) := by decide +kernel
theorem dX9_init_60 : decode cX9_init 60 = .ok (.sipush 256, 3) := by decide +kernel
theorem dX9_init_63 : decode cX9_init 63 = .ok (.newarray .int, 2) := by decide +kernel
theorem dX9_init_65 : decode cX9_init 65 = .ok (.putfield 31, 3) := by decide +kernel
theorem dX9_init_68 : decode cX9_init 68 = .ok (.aload_n 0, 1) := by decide +kernel
theorem dX9_init_69 : decode cX9_init 69 = .ok (.sipush 256, 3) := by decide +kernel
theorem dX9_init_72 : decode cX9_init 72 = .ok (.newarray .int, 2) := by decide +kernel
theorem dX9_init_74 : decode cX9_init 74 = .ok (.putfield 34, 3) := by decide +kernel
theorem dX9_init_77 : decode cX9_init 77 = .ok (.aload_n 0, 1) := by decide +kernel
theorem dX9_init_78 : decode cX9_init 78 = .ok (.sipush 256, 3) := by decide +kernel
theorem dX9_init_81 : decode cX9_init 81 = .ok (.newarray .int, 2) := by decide +kernel
theorem dX9_init_83 : decode cX9_init 83 = .ok (.putfield 37, 3) := by decide +kernel
theorem dX9_init_86 : decode cX9_init 86 = .ok (.aload_n 0, 1) := by decide +kernel
theorem dX9_init_87 : decode cX9_init 87 = .ok (.sipush 256, 3) := by decide +kernel
theorem dX9_init_90 : decode cX9_init 90 = .ok (.newarray .int, 2) := by decide +kernel
theorem dX9_init_92 : decode cX9_init 92 = .ok (.putfield 40, 3) := by decide +kernel
theorem dX9_init_95 : decode cX9_init 95 = .ok (.iconst 0, 1) := by decide +kernel
theorem dX9_init_96 : decode cX9_init 96 = .ok (.istore_n 1, 1) := by decide +kernel
theorem dX9_init_97 : decode cX9_init 97 = .ok (.iload_n 1, 1) := by decide +kernel
theorem dX9_init_98 : decode cX9_init 98 = .ok (.iconst 4, 1) := by decide +kernel
theorem dX9_init_99 : decode cX9_init 99 = .ok (.if_icmp .ge 30, 3) := by decide +kernel
theorem dX9_init_102 : decode cX9_init 102 = .ok (.aload_n 0, 1) := by decide +kernel
theorem dX9_init_103 : decode cX9_init 103 = .ok (.getfield 19, 3) := by decide +kernel
theorem dX9_init_106 : decode cX9_init 106 = .ok (.iload_n 1, 1) := by decide +kernel
theorem dX9_init_107 : decode cX9_init 107 = .ok (.iconst 1, 1) := by decide +kernel
theorem dX9_init_108 : decode cX9_init 108 = .ok (.iastore, 1) := by decide +kernel
theorem dX9_init_109 : decode cX9_init 109 = .ok (.aload_n 0, 1) := by decide +kernel
theorem dX9_init_110 : decode cX9_init 110 = .ok (.getfield 22, 3) := by decide +kernel
theorem dX9_init_113 : decode cX9_init 113 = .ok (.iload_n 1, 1) := by decide +kernel
theorem dX9_init_114 : decode cX9_init 114 = .ok (.iconst 1, 1) := by decide +kernel
theorem dX9_init_115 : decode cX9_init 115 = .ok (.iastore, 1) := by decide +kernel
theorem dX9_init_116 : decode cX9_init 116 = .ok (.aload_n 0, 1) := by decide +kernel
theorem dX9_init_117 : decode cX9_init 117 = .ok (.getfield 28, 3) := by decide +kernel
theorem dX9_init_120 : decode cX9_init 120 = .ok (.iload_n 1, 1) := by decide +kernel
theorem dX9_init_121 : decode cX9_init 121 = .ok (.iconst 1, 1) := by decide +kernel
theorem dX9_init_122 : decode cX9_init 122 = .ok (.iastore, 1) := by decide +kernel
theorem dX9_init_123 : decode cX9_init 123 = .ok (.iinc 1 1, 3) := by decide +kernel
theorem dX9_init_126 : decode cX9_init 126 = .ok (.goto (-29), 3) := by decide +kernel
theorem dX9_init_129 : decode cX9_init 129 = .ok (.return_, 1) := by decide +kernel
theorem dX9_in_0 : decode cX9_in 0 = .ok (.iload_n 0, 1) := by decide +kernel
theorem dX9_in_1 : decode cX9_in 1 = .ok (.iload_n 1, 1) := by decide +kernel
theorem dX9_in_2 : decode cX9_in 2 = .ok (.if_icmp .lt 12, 3) := by decide +kernel
theorem dX9_in_5 : decode cX9_in 5 = .ok (.iload_n 0, 1) := by decide +kernel
theorem dX9_in_6 : decode cX9_in 6 = .ok (.iload_n 2, 1) := by decide +kernel
theorem dX9_in_7 : decode cX9_in 7 = .ok (.if_icmp .gt 7, 3) := by decide +kernel
theorem dX9_in_10 : decode cX9_in 10 = .ok (.iconst 1, 1) := by decide +kernel
theorem dX9_in_11 : decode cX9_in 11 = .ok (.goto 4, 3) := by decide +kernel
theorem dX9_in_14 : decode cX9_in 14 = .ok (.iconst 0, 1) := by decide +kernel
theorem dX9_in_15 : decode cX9_in 15 = .ok (.ireturn, 1) := by decide +kernel
set_option maxRecDepth 20000 in
theorem ggX9_isMake_X9_in : GoodIn wsX9_isMake wsX9_in := goodIn_r _ [5] rfl (by decide +kernel)
set_option maxRecDepth 20000 in
theorem gX9_isMake_X9_in : GoodIn wsX9_isMake (va_wsS RX9 50 yX9_in wsX9_in) := goodIn_app (goodIn_of _ (by decide +kernel)) ggX9_isMake_X9_in
theorem dX9_isMake_0 : decode cX9_isMake 0 = .ok (.iload_n 1, 1) := by decide +kernel
theorem dX9_isMake_1 : decode cX9_isMake 1 = .ok (.iconst 0, 1) := by decide +kernel
theorem dX9_isMake_2 : decode cX9_isMake 2 = .ok (.aload_n 0, 1) := by decide +kernel
theorem dX9_isMake_3 : decode cX9_isMake 3 = .ok (.getfield 47, 3) := by decide +kernel
theorem dX9_isMake_6 : decode cX9_isMake 6 = .ok (.iconst 1, 1) := by decide +kernel
theorem dX9_isMake_7 : decode cX9_isMake 7 = .ok (.isub, 1) := by decide +kernel
theorem dX9_isMake_8 : decode cX9_isMake 8 = .ok (.invokestatic 50, 3) := by decide +kernel
theorem dX9_isMake_11 : decode cX9_isMake 11 = .ok (.ireturn, 1) := by decide +kernel
theorem dX9_get_0 : decode cX9_get 0 = .ok (.aload_n 0, 1) := by decide +kernel
theorem dX9_get_1 : decode cX9_get 1 = .ok (.getfield 13, 3) := by decide +kernel
theorem dX9_get_4 : decode cX9_get 4 = .ok (.bipush 10, 2) := by decide +kernel
theorem dX9_get_6 : decode cX9_get 6 = .ok (.iload_n 1, 1) := by decide +kernel
theorem dX9_get_7 : decode cX9_get 7 = .ok (.imul, 1) := by decide +kernel
theorem dX9_get_8 : decode cX9_get 8 = .ok (.iload_n 2, 1) := by decide +kernel
theorem dX9_get_9 : decode cX9_get 9 = .ok (.iadd, 1) := by decide +kernel
theorem dX9_get_10 : decode cX9_get 10 = .ok (.iaload, 1) := by decide +kernel
theorem dX9_get_11 : decode cX9_get 11 = .ok (.ireturn, 1) := by decide +kernel
set_option maxRecDepth 20000 in
theorem ggX9_make_X9_in : GoodIn wsX9_make wsX9_in := goodIn_r _ [9] rfl (by decide +kernel)
set_option maxRecDepth 20000 in
theorem gX9_make_X9_in : GoodIn wsX9_make (va_wsS RX9 50 yX9_in wsX9_in) := goodIn_app (goodIn_of _ (by decide +kernel)) ggX9_make_X9_in
theorem dX9_make_0 : decode cX9_make 0 = .ok (.aload_n 0, 1) := by decide +kernel
theorem dX9_make_1 : decode cX9_make 1 = .ok (.iconst 0, 1) := by decide +kernel
theorem dX9_make_2 : decode cX9_make 2 = .ok (.putfield 43, 3) := by decide +kernel
theorem dX9_make_5 : decode cX9_make 5 = .ok (.iload_n 1, 1) := by decide +kernel
theorem dX9_make_6 : decode cX9_make 6 = .ok (.iconst 0, 1) := by decide +kernel
theorem dX9_make_7 : decode cX9_make 7 = .ok (.iconst 2, 1) := by decide +kernel
theorem dX9_make_8 : decode cX9_make 8 = .ok (.invokestatic 50, 3) := by decide +kernel
theorem dX9_make_11 : decode cX9_make 11 = .ok (.ifCond .eq 88, 3) := by decide +kernel
theorem dX9_make_14 : decode cX9_make 14 = .ok (.iload_n 2, 1) := by decide +kernel
theorem dX9_make_15 : decode cX9_make 15 = .ok (.iconst 1, 1) := by decide +kernel
theorem dX9_make_16 : decode cX9_make 16 = .ok (.bipush 24, 2) := by decide +kernel
theorem dX9_make_18 : decode cX9_make 18 = .ok (.invokestatic 50, 3) := by decide +kernel
theorem dX9_make_21 : decode cX9_make 21 = .ok (.ifCond .eq 78, 3) := by decide +kernel
theorem dX9_make_24 : decode cX9_make 24 = .ok (.iload_n 3, 1) := by decide +kernel
theorem dX9_make_25 : decode cX9_make 25 = .ok (.iconst 1, 1) := by decide +kernel
theorem dX9_make_26 : decode cX9_make 26 = .ok (.sipush 9999, 3) := by decide +kernel
theorem dX9_make_29 : decode cX9_make 29 = .ok (.invokestatic 50, 3) := by decide +kernel
theorem dX9_make_32 : decode cX9_make 32 = .ok (.ifCond .eq 67, 3) := by decide +kernel
theorem dX9_make_35 : decode cX9_make 35 = .ok (.iload 4, 2) := by decide +kernel
theorem dX9_make_37 : decode cX9_make 37 = .ok (.iconst 1, 1) := by decide +kernel
theorem dX9_make_38 : decode cX9_make 38 = .ok (.sipush 9999, 3) := by decide +kernel
theorem dX9_make_41 : decode cX9_make 41 = .ok (.invokestatic 50, 3) := by decide +kernel
theorem dX9_make_44 : decode cX9_make 44 = .ok (.ifCond .eq 55, 3) := by decide +kernel
theorem dX9_make_47 : decode cX9_make 47 = .ok (.iload 5, 2) := by decide +kernel
theorem dX9_make_49 : decode cX9_make 49 = .ok (.iconst 1, 1) := by decide +kernel
theorem dX9_make_50 : decode cX9_make 50 = .ok (.sipush 9999, 3) := by decide +kernel
theorem dX9_make_53 : decode cX9_make 53 = .ok (.invokestatic 50, 3) := by decide +kernel
theorem dX9_make_56 : decode cX9_make 56 = .ok (.ifCond .eq 43, 3) := by decide +kernel
theorem dX9_make_59 : decode cX9_make 59 = .ok (.iload 6, 2) := by decide +kernel
theorem dX9_make_61 : decode cX9_make 61 = .ok (.iconst 1, 1) := by decide +kernel
theorem dX9_make_62 : decode cX9_make 62 = .ok (.sipush 9999, 3) := by decide +kernel
theorem dX9_make_65 : decode cX9_make 65 = .ok (.invokestatic 50, 3) := by decide +kernel
theorem dX9_make_68 : decode cX9_make 68 = .ok (.ifCond .eq 31, 3) := by decide +kernel
theorem dX9_make_71 : decode cX9_make 71 = .ok (.iload 7, 2) := by decide +kernel
theorem dX9_make_73 : decode cX9_make 73 = .ok (.iconst 1, 1) := by decide +kernel
theorem dX9_make_74 : decode cX9_make 74 = .ok (.sipush 9999, 3) := by decide +kernel
theorem dX9_make_77 : decode cX9_make 77 = .ok (.invokestatic 50, 3) := by decide +kernel
theorem dX9_make_80 : decode cX9_make 80 = .ok (.ifCond .eq 19, 3) := by decide +kernel
theorem dX9_make_83 : decode cX9_make 83 = .ok (.iload 6, 2) := by decide +kernel
theorem dX9_make_85 : decode cX9_make 85 = .ok (.iload 7, 2) := by decide +kernel
theorem dX9_make_87 : decode cX9_make 87 = .ok (.if_icmp .eq 12, 3) := by decide +kernel
theorem dX9_make_90 : decode cX9_make 90 = .ok (.aload_n 0, 1) := by decide +kernel
theorem dX9_make_91 : decode cX9_make 91 = .ok (.getfield 47, 3) := by decide +kernel
theorem dX9_make_94 : decode cX9_make 94 = .ok (.bipush 8, 2) := by decide +kernel
theorem dX9_make_96 : decode cX9_make 96 = .ok (.if_icmp .ne 5, 3) := by decide +kernel
theorem dX9_make_99 : decode cX9_make 99 = .ok (.iconst (-1), 1) := by decide +kernel
theorem dX9_make_100 : decode cX9_make 100 = .ok (.ireturn, 1) := by decide +kernel
theorem dX9_make_101 : decode cX9_make 101 = .ok (.bipush 10, 2) := by decide +kernel
theorem dX9_make_103 : decode cX9_make 103 = .ok (.newarray .int, 2) := by decide +kernel
theorem dX9_make_105 : decode cX9_make 105 = .ok (.dup, 1) := by decide +kernel
theorem dX9_make_106 : decode cX9_make 106 = .ok (.iconst 0, 1) := by decide +kernel
theorem dX9_make_107 : decode cX9_make 107 = .ok (.iload_n 1, 1) := by decide +kernel
theorem dX9_make_108 : decode cX9_make 108 = .ok (.iastore, 1) := by decide +kernel
theorem dX9_make_109 : decode cX9_make 109 = .ok (.dup, 1) := by decide +kernel
theorem dX9_make_110 : decode cX9_make 110 = .ok (.iconst 1, 1) := by decide +kernel
theorem dX9_make_111 : decode cX9_make 111 = .ok (.iload_n 2, 1) := by decide +kernel
theorem dX9_make_112 : decode cX9_make 112 = .ok (.iastore, 1) := by decide +kernel
theorem dX9_make_113 : decode cX9_make 113 = .ok (.dup, 1) := by decide +kernel
theorem dX9_make_114 : decode cX9_make 114 = .ok (.iconst 2, 1) := by decide +kernel
theorem dX9_make_115 : decode cX9_make 115 = .ok (.iload_n 3, 1) := by decide +kernel
theorem dX9_make_116 : decode cX9_make 116 = .ok (.iastore, 1) := by decide +kernel
theorem dX9_make_117 : decode cX9_make 117 = .ok (.dup, 1) := by decide +kernel
theorem dX9_make_118 : decode cX9_make 118 = .ok (.iconst 3, 1) := by decide +kernel
theorem dX9_make_119 : decode cX9_make 119 = .ok (.iload 4, 2) := by decide +kernel
theorem dX9_make_121 : decode cX9_make 121 = .ok (.iastore, 1) := by decide +kernel
theorem dX9_make_122 : decode cX9_make 122 = .ok (.dup, 1) := by decide +kernel
theorem dX9_make_123 : decode cX9_make 123 = .ok (.iconst 4, 1) := by decide +kernel
theorem dX9_make_124 : decode cX9_make 124 = .ok (.iload 5, 2) := by decide +kernel
theorem dX9_make_126 : decode cX9_make 126 = .ok (.iastore, 1) := by decide +kernel
theorem dX9_make_127 : decode cX9_make 127 = .ok (.dup, 1) := by decide +kernel
theorem dX9_make_128 : decode cX9_make 128 = .ok (.iconst 5, 1) := by decide +kernel
theorem dX9_make_129 : decode cX9_make 129 = .ok (.iload 6, 2) := by decide +kernel
theorem dX9_make_131 : decode cX9_make 131 = .ok (.iastore, 1) := by decide +kernel
theorem dX9_make_132 : decode cX9_make 132 = .ok (.dup, 1) := by decide +kernel
theorem dX9_make_133 : decode cX9_make 133 = .ok (.bipush 6, 2) := by decide +kernel
theorem dX9_make_135 : decode cX9_make 135 = .ok (.iload 7, 2) := by decide +kernel
theorem dX9_make_137 : decode cX9_make 137 = .ok (.iastore, 1) := by decide +kernel
theorem dX9_make_138 : decode cX9_make 138 = .ok (.dup, 1) := by decide +kernel
theorem dX9_make_139 : decode cX9_make 139 = .ok (.bipush 7, 2) := by decide +kernel
theorem dX9_make_141 : decode cX9_make 141 = .ok (.bipush 20, 2) := by decide +kernel
theorem dX9_make_143 : decode cX9_make 143 = .ok (.iastore, 1) := by decide +kernel
theorem dX9_make_144 : decode cX9_make 144 = .ok (.dup, 1) := by decide +kernel
theorem dX9_make_145 : decode cX9_make 145 = .ok (.bipush 8, 2) := by decide +kernel
theorem dX9_make_147 : decode cX9_make 147 = .ok (.iconst (-1), 1) := by decide +kernel
theorem dX9_make_148 : decode cX9_make 148 = .ok (.iastore, 1) := by decide +kernel
theorem dX9_make_149 : decode cX9_make 149 = .ok (.dup, 1) := by decide +kernel
theorem dX9_make_150 : decode cX9_make 150 = .ok (.bipush 9, 2) := by decide +kernel
theorem dX9_make_152 : decode cX9_make 152 = .ok (.iconst 0, 1) := by decide +kernel
theorem dX9_make_153 : decode cX9_make 153 = .ok (.iastore, 1) := by decide +kernel
theorem dX9_make_154 : decode cX9_make 154 = .ok (.astore 8, 2) := by decide +kernel
theorem dX9_make_156 : decode cX9_make 156 = .ok (.iconst 0, 1) := by decide +kernel
theorem dX9_make_157 : decode cX9_make 157 = .ok (.istore 9, 2) := by decide +kernel
theorem dX9_make_159 : decode cX9_make 159 = .ok (.iload 9, 2) := by decide +kernel
theorem dX9_make_161 : decode cX9_make 161 = .ok (.bipush 10, 2) := by decide +kernel
theorem dX9_make_163 : decode cX9_make 163 = .ok (.if_icmp .ge 29, 3) := by decide +kernel
theorem dX9_make_166 : decode cX9_make 166 = .ok (.aload_n 0, 1) := by decide +kernel
theorem dX9_make_167 : decode cX9_make 167 = .ok (.getfield 13, 3) := by decide +kernel
theorem dX9_make_170 : decode cX9_make 170 = .ok (.bipush 10, 2) := by decide +kernel
theorem dX9_make_172 : decode cX9_make 172 = .ok (.aload_n 0, 1) := by decide +kernel
theorem dX9_make_173 : decode cX9_make 173 = .ok (.getfield 47, 3) := by decide +kernel
theorem dX9_make_176 : decode cX9_make 176 = .ok (.imul, 1) := by decide +kernel
theorem dX9_make_177 : decode cX9_make 177 = .ok (.iload 9, 2) := by decide +kernel
theorem dX9_make_179 : decode cX9_make 179 = .ok (.iadd, 1) := by decide +kernel
theorem dX9_make_180 : decode cX9_make 180 = .ok (.aload 8, 2) := by decide +kernel
theorem dX9_make_182 : decode cX9_make 182 = .ok (.iload 9, 2) := by decide +kernel
theorem dX9_make_184 : decode cX9_make 184 = .ok (.iaload, 1) := by decide +kernel
theorem dX9_make_185 : decode cX9_make 185 = .ok (.iastore, 1) := by decide +kernel
theorem dX9_make_186 : decode cX9_make 186 = .ok (.iinc 9 1, 3) := by decide +kernel
theorem dX9_make_189 : decode cX9_make 189 = .ok (.goto (-30), 3) := by decide +kernel
theorem dX9_make_192 : decode cX9_make 192 = .ok (.iconst 0, 1) := by decide +kernel
theorem dX9_make_193 : decode cX9_make 193 = .ok (.istore 9, 2) := by decide +kernel
theorem dX9_make_195 : decode cX9_make 195 = .ok (.iload 9, 2) := by decide +kernel
theorem dX9_make_197 : decode cX9_make 197 = .ok (.bipush 16, 2) := by decide +kernel
theorem dX9_make_199 : decode cX9_make 199 = .ok (.if_icmp .ge 25, 3) := by decide +kernel
theorem dX9_make_202 : decode cX9_make 202 = .ok (.aload_n 0, 1) := by decide +kernel
theorem dX9_make_203 : decode cX9_make 203 = .ok (.getfield 16, 3) := by decide +kernel
theorem dX9_make_206 : decode cX9_make 206 = .ok (.bipush 16, 2) := by decide +kernel
theorem dX9_make_208 : decode cX9_make 208 = .ok (.aload_n 0, 1) := by decide +kernel
theorem dX9_make_209 : decode cX9_make 209 = .ok (.getfield 47, 3) := by decide +kernel
theorem dX9_make_212 : decode cX9_make 212 = .ok (.imul, 1) := by decide +kernel
theorem dX9_make_213 : decode cX9_make 213 = .ok (.iload 9, 2) := by decide +kernel
theorem dX9_make_215 : decode cX9_make 215 = .ok (.iadd, 1) := by decide +kernel
theorem dX9_make_216 : decode cX9_make 216 = .ok (.iconst (-1), 1) := by decide +kernel
theorem dX9_make_217 : decode cX9_make 217 = .ok (.iastore, 1) := by decide +kernel
theorem dX9_make_218 : decode cX9_make 218 = .ok (.iinc 9 1, 3) := by decide +kernel
theorem dX9_make_221 : decode cX9_make 221 = .ok (.goto (-26), 3) := by decide +kernel
theorem dX9_make_224 : decode cX9_make 224 = .ok (.aload_n 0, 1) := by decide +kernel
theorem dX9_make_225 : decode cX9_make 225 = .ok (.dup, 1) := by decide +kernel
theorem dX9_make_226 : decode cX9_make 226 = .ok (.getfield 47, 3) := by decide +kernel
theorem dX9_make_229 : decode cX9_make 229 = .ok (.iconst 1, 1) := by decide +kernel
theorem dX9_make_230 : decode cX9_make 230 = .ok (.iadd, 1) := by decide +kernel
theorem dX9_make_231 : decode cX9_make 231 = .ok (.putfield 47, 3) := by decide +kernel
theorem dX9_make_234 : decode cX9_make 234 = .ok (.aload_n 0, 1) := by decide +kernel
theorem dX9_make_235 : decode cX9_make 235 = .ok (.getfield 47, 3) := by decide +kernel
theorem dX9_make_238 : decode cX9_make 238 = .ok (.iconst 1, 1) := by decide +kernel
theorem dX9_make_239 : decode cX9_make 239 = .ok (.isub, 1) := by decide +kernel
theorem dX9_make_240 : decode cX9_make 240 = .ok (.ireturn, 1) := by decide +kernel
set_option maxRecDepth 20000 in
theorem ggX9_set_X9_isMake : GoodIn wsX9_set wsX9_isMake := goodIn_r _ [8, 9, 10, 11, 7, 12, 17, 18, 19, 20, 21, 22, 23, 24, 25, 26, 27, 28, 29, 30, 31, 32, 33] rfl (by decide +kernel)
set_option maxRecDepth 20000 in
theorem gX9_set_X9_isMake : GoodIn wsX9_set (wsV RX9 54 RX9 yX9_isMake wsX9_isMake) := goodIn_app (goodIn_of _ (by decide +kernel)) ggX9_set_X9_isMake
set_option maxRecDepth 20000 in
theorem ggX9_set_X9_in : GoodIn wsX9_set wsX9_in := goodIn_r _ [12] rfl (by decide +kernel)
set_option maxRecDepth 20000 in
theorem gX9_set_X9_in : GoodIn wsX9_set (va_wsS RX9 50 yX9_in wsX9_in) := goodIn_app (goodIn_of _ (by decide +kernel)) ggX9_set_X9_in
set_option maxRecDepth 20000 in
theorem ggX9_set_X9_get : GoodIn wsX9_set wsX9_get := goodIn_r _ [16, 2, 17, 18, 19, 20, 21, 22, 23, 24, 25, 26, 27, 28, 29, 30, 31, 32, 33] rfl (by decide +kernel)
set_option maxRecDepth 20000 in
theorem gX9_set_X9_get : GoodIn wsX9_set (wsV RX9 58 RX9 yX9_get wsX9_get) := goodIn_app (goodIn_of _ (by decide +kernel)) ggX9_set_X9_get
theorem dX9_set_0 : decode cX9_set 0 = .ok (.aload_n 0, 1) := by decide +kernel
theorem dX9_set_1 : decode cX9_set 1 = .ok (.iconst 0, 1) := by decide +kernel
theorem dX9_set_2 : decode cX9_set 2 = .ok (.putfield 43, 3) := by decide +kernel
theorem dX9_set_5 : decode cX9_set 5 = .ok (.aload_n 0, 1) := by decide +kernel
theorem dX9_set_6 : decode cX9_set 6 = .ok (.iload_n 1, 1) := by decide +kernel
theorem dX9_set_7 : decode cX9_set 7 = .ok (.invokevirtual 54, 3) := by decide +kernel
theorem dX9_set_10 : decode cX9_set 10 = .ok (.ifCond .eq 45, 3) := by decide +kernel
theorem dX9_set_13 : decode cX9_set 13 = .ok (.iload_n 2, 1) := by decide +kernel
theorem dX9_set_14 : decode cX9_set 14 = .ok (.iconst 0, 1) := by decide +kernel
theorem dX9_set_15 : decode cX9_set 15 = .ok (.iconst 1, 1) := by decide +kernel
theorem dX9_set_16 : decode cX9_set 16 = .ok (.invokestatic 50, 3) := by decide +kernel
theorem dX9_set_19 : decode cX9_set 19 = .ok (.ifCond .eq 36, 3) := by decide +kernel
theorem dX9_set_22 : decode cX9_set 22 = .ok (.iload_n 2, 1) := by decide +kernel
theorem dX9_set_23 : decode cX9_set 23 = .ok (.ifCond .ne 16, 3) := by decide +kernel
theorem dX9_set_26 : decode cX9_set 26 = .ok (.iload_n 3, 1) := by decide +kernel
theorem dX9_set_27 : decode cX9_set 27 = .ok (.iconst 0, 1) := by decide +kernel
theorem dX9_set_28 : decode cX9_set 28 = .ok (.bipush 40, 2) := by decide +kernel
theorem dX9_set_30 : decode cX9_set 30 = .ok (.invokestatic 50, 3) := by decide +kernel
theorem dX9_set_33 : decode cX9_set 33 = .ok (.ifCond .ne 24, 3) := by decide +kernel
theorem dX9_set_36 : decode cX9_set 36 = .ok (.goto 19, 3) := by decide +kernel
theorem dX9_set_39 : decode cX9_set 39 = .ok (.iload_n 3, 1) := by decide +kernel
theorem dX9_set_40 : decode cX9_set 40 = .ok (.iconst (-1), 1) := by decide +kernel
theorem dX9_set_41 : decode cX9_set 41 = .ok (.aload_n 0, 1) := by decide +kernel
theorem dX9_set_42 : decode cX9_set 42 = .ok (.iload_n 1, 1) := by decide +kernel
theorem dX9_set_43 : decode cX9_set 43 = .ok (.iconst 1, 1) := by decide +kernel
theorem dX9_set_44 : decode cX9_set 44 = .ok (.invokevirtual 58, 3) := by decide +kernel
theorem dX9_set_47 : decode cX9_set 47 = .ok (.iconst 1, 1) := by decide +kernel
theorem dX9_set_48 : decode cX9_set 48 = .ok (.isub, 1) := by decide +kernel
theorem dX9_set_49 : decode cX9_set 49 = .ok (.invokestatic 50, 3) := by decide +kernel
theorem dX9_set_52 : decode cX9_set 52 = .ok (.ifCond .ne 5, 3) := by decide +kernel
theorem dX9_set_55 : decode cX9_set 55 = .ok (.iconst 0, 1) := by decide +kernel
theorem dX9_set_56 : decode cX9_set 56 = .ok (.ireturn, 1) := by decide +kernel
theorem dX9_set_57 : decode cX9_set 57 = .ok (.aload_n 0, 1) := by decide +kernel
theorem dX9_set_58 : decode cX9_set 58 = .ok (.getfield 13, 3) := by decide +kernel
theorem dX9_set_61 : decode cX9_set 61 = .ok (.bipush 10, 2) := by decide +kernel
theorem dX9_set_63 : decode cX9_set 63 = .ok (.iload_n 1, 1) := by decide +kernel
theorem dX9_set_64 : decode cX9_set 64 = .ok (.imul, 1) := by decide +kernel
theorem dX9_set_65 : decode cX9_set 65 = .ok (.bipush 7, 2) := by decide +kernel
theorem dX9_set_67 : decode cX9_set 67 = .ok (.iadd, 1) := by decide +kernel
theorem dX9_set_68 : decode cX9_set 68 = .ok (.iload_n 2, 1) := by decide +kernel
theorem dX9_set_69 : decode cX9_set 69 = .ok (.iadd, 1) := by decide +kernel
theorem dX9_set_70 : decode cX9_set 70 = .ok (.iload_n 3, 1) := by decide +kernel
theorem dX9_set_71 : decode cX9_set 71 = .ok (.iastore, 1) := by decide +kernel
theorem dX9_set_72 : decode cX9_set 72 = .ok (.iload_n 2, 1) := by decide +kernel
theorem dX9_set_73 : decode cX9_set 73 = .ok (.ifCond .ne 5, 3) := by decide +kernel
theorem dX9_set_76 : decode cX9_set 76 = .ok (.iconst 1, 1) := by decide +kernel
theorem dX9_set_77 : decode cX9_set 77 = .ok (.ireturn, 1) := by decide +kernel
theorem dX9_set_78 : decode cX9_set 78 = .ok (.aload_n 0, 1) := by decide +kernel
theorem dX9_set_79 : decode cX9_set 79 = .ok (.getfield 13, 3) := by decide +kernel
theorem dX9_set_82 : decode cX9_set 82 = .ok (.bipush 10, 2) := by decide +kernel
theorem dX9_set_84 : decode cX9_set 84 = .ok (.iload_n 1, 1) := by decide +kernel
theorem dX9_set_85 : decode cX9_set 85 = .ok (.imul, 1) := by decide +kernel
theorem dX9_set_86 : decode cX9_set 86 = .ok (.bipush 9, 2) := by decide +kernel
theorem dX9_set_88 : decode cX9_set 88 = .ok (.iadd, 1) := by decide +kernel
theorem dX9_set_89 : decode cX9_set 89 = .ok (.iconst 0, 1) := by decide +kernel
theorem dX9_set_90 : decode cX9_set 90 = .ok (.iastore, 1) := by decide +kernel
theorem dX9_set_91 : decode cX9_set 91 = .ok (.iconst 0, 1) := by decide +kernel
theorem dX9_set_92 : decode cX9_set 92 = .ok (.istore 4, 2) := by decide +kernel
theorem dX9_set_94 : decode cX9_set 94 = .ok (.iload 4, 2) := by decide +kernel
theorem dX9_set_96 : decode cX9_set 96 = .ok (.bipush 16, 2) := by decide +kernel
theorem dX9_set_98 : decode cX9_set 98 = .ok (.if_icmp .ge 22, 3) := by decide +kernel
theorem dX9_set_101 : decode cX9_set 101 = .ok (.aload_n 0, 1) := by decide +kernel
theorem dX9_set_102 : decode cX9_set 102 = .ok (.getfield 16, 3) := by decide +kernel
theorem dX9_set_105 : decode cX9_set 105 = .ok (.bipush 16, 2) := by decide +kernel
theorem dX9_set_107 : decode cX9_set 107 = .ok (.iload_n 1, 1) := by decide +kernel
theorem dX9_set_108 : decode cX9_set 108 = .ok (.imul, 1) := by decide +kernel
theorem dX9_set_109 : decode cX9_set 109 = .ok (.iload 4, 2) := by decide +kernel
theorem dX9_set_111 : decode cX9_set 111 = .ok (.iadd, 1) := by decide +kernel
theorem dX9_set_112 : decode cX9_set 112 = .ok (.iconst (-1), 1) := by decide +kernel
theorem dX9_set_113 : decode cX9_set 113 = .ok (.iastore, 1) := by decide +kernel
theorem dX9_set_114 : decode cX9_set 114 = .ok (.iinc 4 1, 3) := by decide +kernel
theorem dX9_set_117 : decode cX9_set 117 = .ok (.goto (-23), 3) := by decide +kernel
theorem dX9_set_120 : decode cX9_set 120 = .ok (.iconst 1, 1) := by decide +kernel
theorem dX9_set_121 : decode cX9_set 121 = .ok (.ireturn, 1) := by decide +kernel
theorem dX9_feed_0 : decode cX9_feed 0 = .ok (.aload_n 0, 1) := by decide +kernel
theorem dX9_feed_1 : decode cX9_feed 1 = .ok (.iconst 0, 1) := by decide +kernel
theorem dX9_feed_2 : decode cX9_feed 2 = .ok (.putfield 43, 3) := by decide +kernel
theorem dX9_feed_5 : decode cX9_feed 5 = .ok (.aload_n 0, 1) := by decide +kernel
theorem dX9_feed_6 : decode cX9_feed 6 = .ok (.getfield 62, 3) := by decide +kernel
theorem dX9_feed_9 : decode cX9_feed 9 = .ok (.iconst 5, 1) := by decide +kernel
theorem dX9_feed_10 : decode cX9_feed 10 = .ok (.iadd, 1) := by decide +kernel
theorem dX9_feed_11 : decode cX9_feed 11 = .ok (.bipush 120, 2) := by decide +kernel
theorem dX9_feed_13 : decode cX9_feed 13 = .ok (.if_icmp .le 5, 3) := by decide +kernel
theorem dX9_feed_16 : decode cX9_feed 16 = .ok (.iconst (-1), 1) := by decide +kernel
theorem dX9_feed_17 : decode cX9_feed 17 = .ok (.ireturn, 1) := by decide +kernel
theorem dX9_feed_18 : decode cX9_feed 18 = .ok (.aload_n 0, 1) := by decide +kernel
theorem dX9_feed_19 : decode cX9_feed 19 = .ok (.getfield 9, 3) := by decide +kernel
theorem dX9_feed_22 : decode cX9_feed 22 = .ok (.aload_n 0, 1) := by decide +kernel
theorem dX9_feed_23 : decode cX9_feed 23 = .ok (.getfield 62, 3) := by decide +kernel
theorem dX9_feed_26 : decode cX9_feed 26 = .ok (.iload_n 1, 1) := by decide +kernel
theorem dX9_feed_27 : decode cX9_feed 27 = .ok (.iastore, 1) := by decide +kernel
theorem dX9_feed_28 : decode cX9_feed 28 = .ok (.aload_n 0, 1) := by decide +kernel
theorem dX9_feed_29 : decode cX9_feed 29 = .ok (.getfield 9, 3) := by decide +kernel
theorem dX9_feed_32 : decode cX9_feed 32 = .ok (.aload_n 0, 1) := by decide +kernel
theorem dX9_feed_33 : decode cX9_feed 33 = .ok (.getfield 62, 3) := by decide +kernel
theorem dX9_feed_36 : decode cX9_feed 36 = .ok (.iconst 1, 1) := by decide +kernel
theorem dX9_feed_37 : decode cX9_feed 37 = .ok (.iadd, 1) := by decide +kernel
theorem dX9_feed_38 : decode cX9_feed 38 = .ok (.iload_n 2, 1) := by decide +kernel
theorem dX9_feed_39 : decode cX9_feed 39 = .ok (.iastore, 1) := by decide +kernel
theorem dX9_feed_40 : decode cX9_feed 40 = .ok (.aload_n 0, 1) := by decide +kernel
theorem dX9_feed_41 : decode cX9_feed 41 = .ok (.getfield 9, 3) := by decide +kernel
theorem dX9_feed_44 : decode cX9_feed 44 = .ok (.aload_n 0, 1) := by decide +kernel
theorem dX9_feed_45 : decode cX9_feed 45 = .ok (.getfield 62, 3) := by decide +kernel
theorem dX9_feed_48 : decode cX9_feed 48 = .ok (.iconst 2, 1) := by decide +kernel
theorem dX9_feed_49 : decode cX9_feed 49 = .ok (.iadd, 1) := by decide +kernel
theorem dX9_feed_50 : decode cX9_feed 50 = .ok (.iload_n 3, 1) := by decide +kernel
theorem dX9_feed_51 : decode cX9_feed 51 = .ok (.iastore, 1) := by decide +kernel
theorem dX9_feed_52 : decode cX9_feed 52 = .ok (.aload_n 0, 1) := by decide +kernel
theorem dX9_feed_53 : decode cX9_feed 53 = .ok (.getfield 9, 3) := by decide +kernel
theorem dX9_feed_56 : decode cX9_feed 56 = .ok (.aload_n 0, 1) := by decide +kernel
theorem dX9_feed_57 : decode cX9_feed 57 = .ok (.getfield 62, 3) := by decide +kernel
theorem dX9_feed_60 : decode cX9_feed 60 = .ok (.iconst 3, 1) := by decide +kernel
theorem dX9_feed_61 : decode cX9_feed 61 = .ok (.iadd, 1) := by decide +kernel
theorem dX9_feed_62 : decode cX9_feed 62 = .ok (.iload 4, 2) := by decide +kernel
theorem dX9_feed_64 : decode cX9_feed 64 = .ok (.iastore, 1) := by decide +kernel
theorem dX9_feed_65 : decode cX9_feed 65 = .ok (.aload_n 0, 1) := by decide +kernel
theorem dX9_feed_66 : decode cX9_feed 66 = .ok (.getfield 9, 3) := by decide +kernel
theorem dX9_feed_69 : decode cX9_feed 69 = .ok (.aload_n 0, 1) := by decide +kernel
theorem dX9_feed_70 : decode cX9_feed 70 = .ok (.getfield 62, 3) := by decide +kernel
theorem dX9_feed_73 : decode cX9_feed 73 = .ok (.iconst 4, 1) := by decide +kernel
theorem dX9_feed_74 : decode cX9_feed 74 = .ok (.iadd, 1) := by decide +kernel
theorem dX9_feed_75 : decode cX9_feed 75 = .ok (.iload 5, 2) := by decide +kernel
theorem dX9_feed_77 : decode cX9_feed 77 = .ok (.iastore, 1) := by decide +kernel
theorem dX9_feed_78 : decode cX9_feed 78 = .ok (.aload_n 0, 1) := by decide +kernel
theorem dX9_feed_79 : decode cX9_feed 79 = .ok (.dup, 1) := by decide +kernel
theorem dX9_feed_80 : decode cX9_feed 80 = .ok (.getfield 62, 3) := by decide +kernel
theorem dX9_feed_83 : decode cX9_feed 83 = .ok (.iconst 5, 1) := by decide +kernel
theorem dX9_feed_84 : decode cX9_feed 84 = .ok (.iadd, 1) := by decide +kernel
theorem dX9_feed_85 : decode cX9_feed 85 = .ok (.putfield 62, 3) := by decide +kernel
theorem dX9_feed_88 : decode cX9_feed 88 = .ok (.aload_n 0, 1) := by decide +kernel
theorem dX9_feed_89 : decode cX9_feed 89 = .ok (.getfield 62, 3) := by decide +kernel
theorem dX9_feed_92 : decode cX9_feed 92 = .ok (.ireturn, 1) := by decide +kernel
theorem dX9_end_0 : decode cX9_end 0 = .ok (.aload_n 0, 1) := by decide +kernel
theorem dX9_end_1 : decode cX9_end 1 = .ok (.iconst 0, 1) := by decide +kernel
theorem dX9_end_2 : decode cX9_end 2 = .ok (.putfield 43, 3) := by decide +kernel
theorem dX9_end_5 : decode cX9_end 5 = .ok (.iload_n 1, 1) := by decide +kernel
theorem dX9_end_6 : decode cX9_end 6 = .ok (.ifCond .lt 11, 3) := by decide +kernel
theorem dX9_end_9 : decode cX9_end 9 = .ok (.iload_n 1, 1) := by decide +kernel
theorem dX9_end_10 : decode cX9_end 10 = .ok (.aload_n 0, 1) := by decide +kernel
theorem dX9_end_11 : decode cX9_end 11 = .ok (.getfield 62, 3) := by decide +kernel
theorem dX9_end_14 : decode cX9_end 14 = .ok (.if_icmp .le 5, 3) := by decide +kernel
theorem dX9_end_17 : decode cX9_end 17 = .ok (.iconst 0, 1) := by decide +kernel
theorem dX9_end_18 : decode cX9_end 18 = .ok (.ireturn, 1) := by decide +kernel
theorem dX9_end_19 : decode cX9_end 19 = .ok (.aload_n 0, 1) := by decide +kernel
theorem dX9_end_20 : decode cX9_end 20 = .ok (.iload_n 1, 1) := by decide +kernel
theorem dX9_end_21 : decode cX9_end 21 = .ok (.putfield 62, 3) := by decide +kernel
theorem dX9_end_24 : decode cX9_end 24 = .ok (.iconst 1, 1) := by decide +kernel
theorem dX9_end_25 : decode cX9_end 25 = .ok (.ireturn, 1) := by decide +kernel
theorem dX9_lay_0 : decode cX9_lay 0 = .ok (.aload_n 0, 1) := by decide +kernel
theorem dX9_lay_1 : decode cX9_lay 1 = .ok (.getfield 9, 3) := by decide +kernel
theorem dX9_lay_4 : decode cX9_lay 4 = .ok (.aload_n 0, 1) := by decide +kernel
theorem dX9_lay_5 : decode cX9_lay 5 = .ok (.getfield 62, 3) := by decide +kernel
theorem dX9_lay_8 : decode cX9_lay 8 = .ok (.iload_n 1, 1) := by decide +kernel
theorem dX9_lay_9 : decode cX9_lay 9 = .ok (.iastore, 1) := by decide +kernel
theorem dX9_lay_10 : decode cX9_lay 10 = .ok (.aload_n 0, 1) := by decide +kernel
theorem dX9_lay_11 : decode cX9_lay 11 = .ok (.dup, 1) := by decide +kernel
theorem dX9_lay_12 : decode cX9_lay 12 = .ok (.getfield 62, 3) := by decide +kernel
theorem dX9_lay_15 : decode cX9_lay 15 = .ok (.iconst 1, 1) := by decide +kernel
theorem dX9_lay_16 : decode cX9_lay 16 = .ok (.iadd, 1) := by decide +kernel
theorem dX9_lay_17 : decode cX9_lay 17 = .ok (.putfield 62, 3) := by decide +kernel
theorem dX9_lay_20 : decode cX9_lay 20 = .ok (.return_, 1) := by decide +kernel
theorem dX9_isOn_0 : decode cX9_isOn 0 = .ok (.iload_n 2, 1) := by decide +kernel
theorem dX9_isOn_1 : decode cX9_isOn 1 = .ok (.ifCond .ne 5, 3) := by decide +kernel
theorem dX9_isOn_4 : decode cX9_isOn 4 = .ok (.iconst 1, 1) := by decide +kernel
theorem dX9_isOn_5 : decode cX9_isOn 5 = .ok (.ireturn, 1) := by decide +kernel
theorem dX9_isOn_6 : decode cX9_isOn 6 = .ok (.iload_n 1, 1) := by decide +kernel
theorem dX9_isOn_7 : decode cX9_isOn 7 = .ok (.iload_n 0, 1) := by decide +kernel
theorem dX9_isOn_8 : decode cX9_isOn 8 = .ok (.iconst 1, 1) := by decide +kernel
theorem dX9_isOn_9 : decode cX9_isOn 9 = .ok (.isub, 1) := by decide +kernel
theorem dX9_isOn_10 : decode cX9_isOn 10 = .ok (.iload_n 2, 1) := by decide +kernel
theorem dX9_isOn_11 : decode cX9_isOn 11 = .ok (.iconst 1, 1) := by decide +kernel
theorem dX9_isOn_12 : decode cX9_isOn 12 = .ok (.isub, 1) := by decide +kernel
theorem dX9_isOn_13 : decode cX9_isOn 13 = .ok (.iconst 2, 1) := by decide +kernel
theorem dX9_isOn_14 : decode cX9_isOn 14 = .ok (.idiv, 1) := by decide +kernel
theorem dX9_isOn_15 : decode cX9_isOn 15 = .ok (.isub, 1) := by decide +kernel
theorem dX9_isOn_16 : decode cX9_isOn 16 = .ok (.ishr, 1) := by decide +kernel
theorem dX9_isOn_17 : decode cX9_isOn 17 = .ok (.iconst 1, 1) := by decide +kernel
theorem dX9_isOn_18 : decode cX9_isOn 18 = .ok (.iand, 1) := by decide +kernel
theorem dX9_isOn_19 : decode cX9_isOn 19 = .ok (.istore_n 3, 1) := by decide +kernel
theorem dX9_isOn_20 : decode cX9_isOn 20 = .ok (.iload_n 2, 1) := by decide +kernel
theorem dX9_isOn_21 : decode cX9_isOn 21 = .ok (.iconst 1, 1) := by decide +kernel
theorem dX9_isOn_22 : decode cX9_isOn 22 = .ok (.isub, 1) := by decide +kernel
theorem dX9_isOn_23 : decode cX9_isOn 23 = .ok (.iconst 2, 1) := by decide +kernel
theorem dX9_isOn_24 : decode cX9_isOn 24 = .ok (.irem, 1) := by decide +kernel
theorem dX9_isOn_25 : decode cX9_isOn 25 = .ok (.iload_n 3, 1) := by decide +kernel
theorem dX9_isOn_26 : decode cX9_isOn 26 = .ok (.if_icmp .ne 7, 3) := by decide +kernel
theorem dX9_isOn_29 : decode cX9_isOn 29 = .ok (.iconst 1, 1) := by decide +kernel
theorem dX9_isOn_30 : decode cX9_isOn 30 = .ok (.goto 4, 3) := by decide +kernel
theorem dX9_isOn_33 : decode cX9_isOn 33 = .ok (.iconst 0, 1) := by decide +kernel
theorem dX9_isOn_34 : decode cX9_isOn 34 = .ok (.ireturn, 1) := by decide +kernel
set_option maxRecDepth 20000 in
theorem ggX9_layHalves_X9_isOn : GoodIn wsX9_layHalves wsX9_isOn := goodIn_r _ [4] rfl (by decide +kernel)
set_option maxRecDepth 20000 in
theorem gX9_layHalves_X9_isOn : GoodIn wsX9_layHalves (va_wsS RX9 65 yX9_isOn wsX9_isOn) := goodIn_app (goodIn_of _ (by decide +kernel)) ggX9_layHalves_X9_isOn
set_option maxRecDepth 20000 in
theorem ggX9_layHalves_X9_lay : GoodIn wsX9_layHalves wsX9_lay := goodIn_r _ [8, 9, 10, 11, 12, 13, 14, 15, 16, 17, 18, 19, 20, 21, 22, 23, 24, 25, 26, 27] rfl (by decide +kernel)
set_option maxRecDepth 20000 in
theorem gX9_layHalves_X9_lay : GoodIn wsX9_layHalves (wsV RX9 68 RX9 yX9_lay wsX9_lay) := goodIn_app (goodIn_of _ (by decide +kernel)) ggX9_layHalves_X9_lay
theorem dX9_layHalves_0 : decode cX9_layHalves 0 = .ok (.iconst 2, 1) := by decide +kernel
theorem dX9_layHalves_1 : decode cX9_layHalves 1 = .ok (.iload_n 1, 1) := by decide +kernel
theorem dX9_layHalves_2 : decode cX9_layHalves 2 = .ok (.imul, 1) := by decide +kernel
theorem dX9_layHalves_3 : decode cX9_layHalves 3 = .ok (.iconst 1, 1) := by decide +kernel
theorem dX9_layHalves_4 : decode cX9_layHalves 4 = .ok (.iadd, 1) := by decide +kernel
theorem dX9_layHalves_5 : decode cX9_layHalves 5 = .ok (.istore 4, 2) := by decide +kernel
theorem dX9_layHalves_7 : decode cX9_layHalves 7 = .ok (.iload_n 1, 1) := by decide +kernel
theorem dX9_layHalves_8 : decode cX9_layHalves 8 = .ok (.iload_n 2, 1) := by decide +kernel
theorem dX9_layHalves_9 : decode cX9_layHalves 9 = .ok (.iload 4, 2) := by decide +kernel
theorem dX9_layHalves_11 : decode cX9_layHalves 11 = .ok (.iconst 1, 1) := by decide +kernel
theorem dX9_layHalves_12 : decode cX9_layHalves 12 = .ok (.isub, 1) := by decide +kernel
theorem dX9_layHalves_13 : decode cX9_layHalves 13 = .ok (.invokestatic 65, 3) := by decide +kernel
theorem dX9_layHalves_16 : decode cX9_layHalves 16 = .ok (.ifCond .ne 6, 3) := by decide +kernel
theorem dX9_layHalves_19 : decode cX9_layHalves 19 = .ok (.iinc 4 (-1), 3) := by decide +kernel
theorem dX9_layHalves_22 : decode cX9_layHalves 22 = .ok (.iconst 0, 1) := by decide +kernel
theorem dX9_layHalves_23 : decode cX9_layHalves 23 = .ok (.istore 5, 2) := by decide +kernel
theorem dX9_layHalves_25 : decode cX9_layHalves 25 = .ok (.iconst 1, 1) := by decide +kernel
theorem dX9_layHalves_26 : decode cX9_layHalves 26 = .ok (.istore 6, 2) := by decide +kernel
theorem dX9_layHalves_28 : decode cX9_layHalves 28 = .ok (.iload 6, 2) := by decide +kernel
theorem dX9_layHalves_30 : decode cX9_layHalves 30 = .ok (.iload 4, 2) := by decide +kernel
theorem dX9_layHalves_32 : decode cX9_layHalves 32 = .ok (.if_icmp .gt 51, 3) := by decide +kernel
theorem dX9_layHalves_35 : decode cX9_layHalves 35 = .ok (.iload 6, 2) := by decide +kernel
theorem dX9_layHalves_37 : decode cX9_layHalves 37 = .ok (.iload 4, 2) := by decide +kernel
theorem dX9_layHalves_39 : decode cX9_layHalves 39 = .ok (.if_icmp .ge 23, 3) := by decide +kernel
theorem dX9_layHalves_42 : decode cX9_layHalves 42 = .ok (.iload_n 1, 1) := by decide +kernel
theorem dX9_layHalves_43 : decode cX9_layHalves 43 = .ok (.iload_n 2, 1) := by decide +kernel
theorem dX9_layHalves_44 : decode cX9_layHalves 44 = .ok (.iload 6, 2) := by decide +kernel
theorem dX9_layHalves_46 : decode cX9_layHalves 46 = .ok (.invokestatic 65, 3) := by decide +kernel
theorem dX9_layHalves_49 : decode cX9_layHalves 49 = .ok (.iload_n 1, 1) := by decide +kernel
theorem dX9_layHalves_50 : decode cX9_layHalves 50 = .ok (.iload_n 2, 1) := by decide +kernel
theorem dX9_layHalves_51 : decode cX9_layHalves 51 = .ok (.iload 5, 2) := by decide +kernel
theorem dX9_layHalves_53 : decode cX9_layHalves 53 = .ok (.invokestatic 65, 3) := by decide +kernel
theorem dX9_layHalves_56 : decode cX9_layHalves 56 = .ok (.if_icmp .ne 6, 3) := by decide +kernel
theorem dX9_layHalves_59 : decode cX9_layHalves 59 = .ok (.goto 18, 3) := by decide +kernel
theorem dX9_layHalves_62 : decode cX9_layHalves 62 = .ok (.aload_n 0, 1) := by decide +kernel
theorem dX9_layHalves_63 : decode cX9_layHalves 63 = .ok (.iload_n 3, 1) := by decide +kernel
theorem dX9_layHalves_64 : decode cX9_layHalves 64 = .ok (.iload 6, 2) := by decide +kernel
theorem dX9_layHalves_66 : decode cX9_layHalves 66 = .ok (.iload 5, 2) := by decide +kernel
theorem dX9_layHalves_68 : decode cX9_layHalves 68 = .ok (.isub, 1) := by decide +kernel
theorem dX9_layHalves_69 : decode cX9_layHalves 69 = .ok (.imul, 1) := by decide +kernel
theorem dX9_layHalves_70 : decode cX9_layHalves 70 = .ok (.invokevirtual 68, 3) := by decide +kernel
theorem dX9_layHalves_73 : decode cX9_layHalves 73 = .ok (.iload 6, 2) := by decide +kernel
theorem dX9_layHalves_75 : decode cX9_layHalves 75 = .ok (.istore 5, 2) := by decide +kernel
theorem dX9_layHalves_77 : decode cX9_layHalves 77 = .ok (.iinc 6 1, 3) := by decide +kernel
theorem dX9_layHalves_80 : decode cX9_layHalves 80 = .ok (.goto (-52), 3) := by decide +kernel
theorem dX9_layHalves_83 : decode cX9_layHalves 83 = .ok (.return_, 1) := by decide +kernel
set_option maxRecDepth 20000 in
theorem ggX9_flash_X9_get : GoodIn wsX9_flash wsX9_get := goodIn_r _ [6, 7, 20, 21, 22, 23, 24, 25, 26, 27, 28, 29, 30, 31, 32, 33, 34, 35, 36] rfl (by decide +kernel)
set_option maxRecDepth 20000 in
theorem gX9_flash_X9_get : GoodIn wsX9_flash (wsV RX9 58 RX9 yX9_get wsX9_get) := goodIn_app (goodIn_of _ (by decide +kernel)) ggX9_flash_X9_get
set_option maxRecDepth 20000 in
theorem ggX9_flash_X9_layHalves : GoodIn wsX9_flash wsX9_layHalves := goodIn_r _ [11, 12, 13, 5, 14, 15, 16, 17, 18, 19, 1, 20, 21, 22, 23, 24, 25, 26, 27, 28, 29, 30, 31, 32, 33, 34, 35, 36] rfl (by decide +kernel)
set_option maxRecDepth 20000 in
theorem gX9_flash_X9_layHalves : GoodIn wsX9_flash (wsV RX9 72 RX9 yX9_layHalves wsX9_layHalves) := goodIn_app (goodIn_of _ (by decide +kernel)) ggX9_flash_X9_layHalves
set_option maxRecDepth 20000 in
theorem ggX9_flash_X9_lay : GoodIn wsX9_flash wsX9_lay := goodIn_r _ [18, 19, 1, 20, 21, 22, 23, 24, 25, 26, 27, 28, 29, 30, 31, 32, 33, 34, 35, 36] rfl (by decide +kernel)
set_option maxRecDepth 20000 in
theorem gX9_flash_X9_lay : GoodIn wsX9_flash (wsV RX9 68 RX9 yX9_lay wsX9_lay) := goodIn_app (goodIn_of _ (by decide +kernel)) ggX9_flash_X9_lay
theorem dX9_flash_0 : decode cX9_flash 0 = .ok (.aload_n 0, 1) := by decide +kernel
theorem dX9_flash_1 : decode cX9_flash 1 = .ok (.iconst 0, 1) := by decide +kernel
theorem dX9_flash_2 : decode cX9_flash 2 = .ok (.putfield 62, 3) := by decide +kernel
theorem dX9_flash_5 : decode cX9_flash 5 = .ok (.aload_n 0, 1) := by decide +kernel
theorem dX9_flash_6 : decode cX9_flash 6 = .ok (.iload_n 1, 1) := by decide +kernel
theorem dX9_flash_7 : decode cX9_flash 7 = .ok (.iconst 1, 1) := by decide +kernel
theorem dX9_flash_8 : decode cX9_flash 8 = .ok (.invokevirtual 58, 3) := by decide +kernel
theorem dX9_flash_11 : decode cX9_flash 11 = .ok (.istore_n 3, 1) := by decide +kernel
theorem dX9_flash_12 : decode cX9_flash 12 = .ok (.aload_n 0, 1) := by decide +kernel
theorem dX9_flash_13 : decode cX9_flash 13 = .ok (.iload_n 1, 1) := by decide +kernel
theorem dX9_flash_14 : decode cX9_flash 14 = .ok (.iconst 4, 1) := by decide +kernel
theorem dX9_flash_15 : decode cX9_flash 15 = .ok (.invokevirtual 58, 3) := by decide +kernel
theorem dX9_flash_18 : decode cX9_flash 18 = .ok (.istore 4, 2) := by decide +kernel
theorem dX9_flash_20 : decode cX9_flash 20 = .ok (.aload_n 0, 1) := by decide +kernel
theorem dX9_flash_21 : decode cX9_flash 21 = .ok (.iload_n 1, 1) := by decide +kernel
theorem dX9_flash_22 : decode cX9_flash 22 = .ok (.iconst 0, 1) := by decide +kernel
theorem dX9_flash_23 : decode cX9_flash 23 = .ok (.invokevirtual 58, 3) := by decide +kernel
theorem dX9_flash_26 : decode cX9_flash 26 = .ok (.iconst 2, 1) := by decide +kernel
theorem dX9_flash_27 : decode cX9_flash 27 = .ok (.if_icmp .ne 12, 3) := by decide +kernel
theorem dX9_flash_30 : decode cX9_flash 30 = .ok (.aload_n 0, 1) := by decide +kernel
theorem dX9_flash_31 : decode cX9_flash 31 = .ok (.iload_n 3, 1) := by decide +kernel
theorem dX9_flash_32 : decode cX9_flash 32 = .ok (.iload_n 2, 1) := by decide +kernel
theorem dX9_flash_33 : decode cX9_flash 33 = .ok (.iload 4, 2) := by decide +kernel
theorem dX9_flash_35 : decode cX9_flash 35 = .ok (.invokevirtual 72, 3) := by decide +kernel
theorem dX9_flash_38 : decode cX9_flash 38 = .ok (.return_, 1) := by decide +kernel
theorem dX9_flash_39 : decode cX9_flash 39 = .ok (.aload_n 0, 1) := by decide +kernel
theorem dX9_flash_40 : decode cX9_flash 40 = .ok (.aload_n 0, 1) := by decide +kernel
theorem dX9_flash_41 : decode cX9_flash 41 = .ok (.iload_n 1, 1) := by decide +kernel
theorem dX9_flash_42 : decode cX9_flash 42 = .ok (.iconst 2, 1) := by decide +kernel
theorem dX9_flash_43 : decode cX9_flash 43 = .ok (.invokevirtual 58, 3) := by decide +kernel
theorem dX9_flash_46 : decode cX9_flash 46 = .ok (.invokevirtual 68, 3) := by decide +kernel
theorem dX9_flash_49 : decode cX9_flash 49 = .ok (.aload_n 0, 1) := by decide +kernel
theorem dX9_flash_50 : decode cX9_flash 50 = .ok (.aload_n 0, 1) := by decide +kernel
theorem dX9_flash_51 : decode cX9_flash 51 = .ok (.iload_n 1, 1) := by decide +kernel
theorem dX9_flash_52 : decode cX9_flash 52 = .ok (.iconst 3, 1) := by decide +kernel
theorem dX9_flash_53 : decode cX9_flash 53 = .ok (.invokevirtual 58, 3) := by decide +kernel
theorem dX9_flash_56 : decode cX9_flash 56 = .ok (.invokevirtual 68, 3) := by decide +kernel
theorem dX9_flash_59 : decode cX9_flash 59 = .ok (.iload_n 3, 1) := by decide +kernel
theorem dX9_flash_60 : decode cX9_flash 60 = .ok (.iconst 1, 1) := by decide +kernel
theorem dX9_flash_61 : decode cX9_flash 61 = .ok (.isub, 1) := by decide +kernel
theorem dX9_flash_62 : decode cX9_flash 62 = .ok (.istore 5, 2) := by decide +kernel
theorem dX9_flash_64 : decode cX9_flash 64 = .ok (.iload 5, 2) := by decide +kernel
theorem dX9_flash_66 : decode cX9_flash 66 = .ok (.ifCond .lt 78, 3) := by decide +kernel
theorem dX9_flash_69 : decode cX9_flash 69 = .ok (.aload_n 0, 1) := by decide +kernel
theorem dX9_flash_70 : decode cX9_flash 70 = .ok (.iload_n 1, 1) := by decide +kernel
theorem dX9_flash_71 : decode cX9_flash 71 = .ok (.iconst 5, 1) := by decide +kernel
theorem dX9_flash_72 : decode cX9_flash 72 = .ok (.iload_n 2, 1) := by decide +kernel
theorem dX9_flash_73 : decode cX9_flash 73 = .ok (.iload 5, 2) := by decide +kernel
theorem dX9_flash_75 : decode cX9_flash 75 = .ok (.ishr, 1) := by decide +kernel
theorem dX9_flash_76 : decode cX9_flash 76 = .ok (.iconst 1, 1) := by decide +kernel
theorem dX9_flash_77 : decode cX9_flash 77 = .ok (.iand, 1) := by decide +kernel
theorem dX9_flash_78 : decode cX9_flash 78 = .ok (.iadd, 1) := by decide +kernel
theorem dX9_flash_79 : decode cX9_flash 79 = .ok (.invokevirtual 58, 3) := by decide +kernel
theorem dX9_flash_82 : decode cX9_flash 82 = .ok (.istore 6, 2) := by decide +kernel
end
section
theorem dX9_flash_84 : decode cX9_flash 84 = .ok (.aload_n 0, 1) := by decide +kernel
theorem dX9_flash_85 : decode cX9_flash 85 = .ok (.aload_n 0, 1) := by decide +kernel
theorem dX9_flash_86 : decode cX9_flash 86 = .ok (.iload_n 1, 1) := by decide +kernel
theorem dX9_flash_87 : decode cX9_flash 87 = .ok (.iconst 0, 1) := by decide +kernel
theorem dX9_flash_88 : decode cX9_flash 88 = .ok (.invokevirtual 58, 3) := by decide +kernel
theorem dX9_flash_91 : decode cX9_flash 91 = .ok (.ifCond .ne 8, 3) := by decide +kernel
theorem dX9_flash_94 : decode cX9_flash 94 = .ok (.iload 4, 2) := by decide +kernel
theorem dX9_flash_96 : decode cX9_flash 96 = .ok (.goto 5, 3) := by decide +kernel
theorem dX9_flash_99 : decode cX9_flash 99 = .ok (.iload 6, 2) := by decide +kernel
theorem dX9_flash_101 : decode cX9_flash 101 = .ok (.invokevirtual 68, 3) := by decide +kernel
theorem dX9_flash_104 : decode cX9_flash 104 = .ok (.aload_n 0, 1) := by decide +kernel
theorem dX9_flash_105 : decode cX9_flash 105 = .ok (.iload_n 1, 1) := by decide +kernel
theorem dX9_flash_106 : decode cX9_flash 106 = .ok (.iconst 0, 1) := by decide +kernel
theorem dX9_flash_107 : decode cX9_flash 107 = .ok (.invokevirtual 58, 3) := by decide +kernel
theorem dX9_flash_110 : decode cX9_flash 110 = .ok (.ifCond .eq 8, 3) := by decide +kernel
theorem dX9_flash_113 : decode cX9_flash 113 = .ok (.iload 5, 2) := by decide +kernel
theorem dX9_flash_115 : decode cX9_flash 115 = .ok (.ifCond .le 23, 3) := by decide +kernel
theorem dX9_flash_118 : decode cX9_flash 118 = .ok (.aload_n 0, 1) := by decide +kernel
theorem dX9_flash_119 : decode cX9_flash 119 = .ok (.aload_n 0, 1) := by decide +kernel
theorem dX9_flash_120 : decode cX9_flash 120 = .ok (.iload_n 1, 1) := by decide +kernel
theorem dX9_flash_121 : decode cX9_flash 121 = .ok (.iconst 0, 1) := by decide +kernel
theorem dX9_flash_122 : decode cX9_flash 122 = .ok (.invokevirtual 58, 3) := by decide +kernel
theorem dX9_flash_125 : decode cX9_flash 125 = .ok (.ifCond .ne 8, 3) := by decide +kernel
theorem dX9_flash_128 : decode cX9_flash 128 = .ok (.iload 6, 2) := by decide +kernel
theorem dX9_flash_130 : decode cX9_flash 130 = .ok (.goto 5, 3) := by decide +kernel
theorem dX9_flash_133 : decode cX9_flash 133 = .ok (.iload 4, 2) := by decide +kernel
theorem dX9_flash_135 : decode cX9_flash 135 = .ok (.invokevirtual 68, 3) := by decide +kernel
theorem dX9_flash_138 : decode cX9_flash 138 = .ok (.iinc 5 (-1), 3) := by decide +kernel
theorem dX9_flash_141 : decode cX9_flash 141 = .ok (.goto (-77), 3) := by decide +kernel
theorem dX9_flash_144 : decode cX9_flash 144 = .ok (.aload_n 0, 1) := by decide +kernel
theorem dX9_flash_145 : decode cX9_flash 145 = .ok (.iload_n 1, 1) := by decide +kernel
theorem dX9_flash_146 : decode cX9_flash 146 = .ok (.iconst 0, 1) := by decide +kernel
theorem dX9_flash_147 : decode cX9_flash 147 = .ok (.invokevirtual 58, 3) := by decide +kernel
theorem dX9_flash_150 : decode cX9_flash 150 = .ok (.ifCond .ne 9, 3) := by decide +kernel
theorem dX9_flash_153 : decode cX9_flash 153 = .ok (.aload_n 0, 1) := by decide +kernel
theorem dX9_flash_154 : decode cX9_flash 154 = .ok (.iload 4, 2) := by decide +kernel
theorem dX9_flash_156 : decode cX9_flash 156 = .ok (.invokevirtual 68, 3) := by decide +kernel
theorem dX9_flash_159 : decode cX9_flash 159 = .ok (.return_, 1) := by decide +kernel
set_option maxRecDepth 20000 in
theorem ggX9_send_X9_isMake : GoodIn wsX9_send wsX9_isMake := goodIn_r _ [7, 8, 9, 10, 6, 11, 33, 34, 35, 36, 37, 38, 39, 40, 41, 42, 43, 44, 45, 46, 47, 48, 49] rfl (by decide +kernel)
set_option maxRecDepth 20000 in
theorem gX9_send_X9_isMake : GoodIn wsX9_send (wsV RX9 54 RX9 yX9_isMake wsX9_isMake) := goodIn_app (goodIn_of _ (by decide +kernel)) ggX9_send_X9_isMake
set_option maxRecDepth 20000 in
theorem ggX9_send_X9_get : GoodIn wsX9_send wsX9_get := goodIn_r _ [15, 16, 33, 34, 35, 36, 37, 38, 39, 40, 41, 42, 43, 44, 45, 46, 47, 48, 49] rfl (by decide +kernel)
set_option maxRecDepth 20000 in
theorem gX9_send_X9_get : GoodIn wsX9_send (wsV RX9 58 RX9 yX9_get wsX9_get) := goodIn_app (goodIn_of _ (by decide +kernel)) ggX9_send_X9_get
set_option maxRecDepth 20000 in
theorem ggX9_send_X9_flash : GoodIn wsX9_send wsX9_flash := goodIn_r _ [20, 2, 12, 13, 14, 6, 15, 16, 21, 22, 23, 24, 25, 26, 27, 28, 29, 30, 31, 32, 33, 34, 35, 36, 37, 38, 39, 40, 41, 42, 43, 44, 45, 46, 47, 48, 49] rfl (by decide +kernel)
set_option maxRecDepth 20000 in
theorem gX9_send_X9_flash : GoodIn wsX9_send (wsV RX9 76 RX9 yX9_flash wsX9_flash) := goodIn_app (goodIn_of _ (by decide +kernel)) ggX9_send_X9_flash
theorem dX9_send_0 : decode cX9_send 0 = .ok (.aload_n 0, 1) := by decide +kernel
theorem dX9_send_1 : decode cX9_send 1 = .ok (.iconst 0, 1) := by decide +kernel
theorem dX9_send_2 : decode cX9_send 2 = .ok (.putfield 43, 3) := by decide +kernel
theorem dX9_send_5 : decode cX9_send 5 = .ok (.aload_n 0, 1) := by decide +kernel
theorem dX9_send_6 : decode cX9_send 6 = .ok (.iload_n 1, 1) := by decide +kernel
theorem dX9_send_7 : decode cX9_send 7 = .ok (.invokevirtual 54, 3) := by decide +kernel
theorem dX9_send_10 : decode cX9_send 10 = .ok (.ifCond .eq 19, 3) := by decide +kernel
theorem dX9_send_13 : decode cX9_send 13 = .ok (.iload_n 2, 1) := by decide +kernel
theorem dX9_send_14 : decode cX9_send 14 = .ok (.ifCond .lt 15, 3) := by decide +kernel
theorem dX9_send_17 : decode cX9_send 17 = .ok (.iload_n 2, 1) := by decide +kernel
theorem dX9_send_18 : decode cX9_send 18 = .ok (.iconst 1, 1) := by decide +kernel
theorem dX9_send_19 : decode cX9_send 19 = .ok (.aload_n 0, 1) := by decide +kernel
theorem dX9_send_20 : decode cX9_send 20 = .ok (.iload_n 1, 1) := by decide +kernel
theorem dX9_send_21 : decode cX9_send 21 = .ok (.iconst 1, 1) := by decide +kernel
theorem dX9_send_22 : decode cX9_send 22 = .ok (.invokevirtual 58, 3) := by decide +kernel
theorem dX9_send_25 : decode cX9_send 25 = .ok (.ishl, 1) := by decide +kernel
theorem dX9_send_26 : decode cX9_send 26 = .ok (.if_icmp .lt 5, 3) := by decide +kernel
theorem dX9_send_29 : decode cX9_send 29 = .ok (.iconst (-1), 1) := by decide +kernel
theorem dX9_send_30 : decode cX9_send 30 = .ok (.ireturn, 1) := by decide +kernel
theorem dX9_send_31 : decode cX9_send 31 = .ok (.aload_n 0, 1) := by decide +kernel
theorem dX9_send_32 : decode cX9_send 32 = .ok (.iload_n 1, 1) := by decide +kernel
theorem dX9_send_33 : decode cX9_send 33 = .ok (.iload_n 2, 1) := by decide +kernel
theorem dX9_send_34 : decode cX9_send 34 = .ok (.invokevirtual 76, 3) := by decide +kernel
theorem dX9_send_37 : decode cX9_send 37 = .ok (.aload_n 0, 1) := by decide +kernel
theorem dX9_send_38 : decode cX9_send 38 = .ok (.getfield 62, 3) := by decide +kernel
theorem dX9_send_41 : decode cX9_send 41 = .ok (.ireturn, 1) := by decide +kernel
set_option maxRecDepth 20000 in
theorem ggX9_time_X9_in : GoodIn wsX9_time wsX9_in := goodIn_r _ [7] rfl (by decide +kernel)
set_option maxRecDepth 20000 in
theorem gX9_time_X9_in : GoodIn wsX9_time (va_wsS RX9 50 yX9_in wsX9_in) := goodIn_app (goodIn_of _ (by decide +kernel)) ggX9_time_X9_in
theorem dX9_time_0 : decode cX9_time 0 = .ok (.aload_n 0, 1) := by decide +kernel
theorem dX9_time_1 : decode cX9_time 1 = .ok (.iconst 0, 1) := by decide +kernel
theorem dX9_time_2 : decode cX9_time 2 = .ok (.putfield 43, 3) := by decide +kernel
theorem dX9_time_5 : decode cX9_time 5 = .ok (.iload_n 1, 1) := by decide +kernel
theorem dX9_time_6 : decode cX9_time 6 = .ok (.iconst 0, 1) := by decide +kernel
theorem dX9_time_7 : decode cX9_time 7 = .ok (.aload_n 0, 1) := by decide +kernel
theorem dX9_time_8 : decode cX9_time 8 = .ok (.getfield 62, 3) := by decide +kernel
theorem dX9_time_11 : decode cX9_time 11 = .ok (.iconst 1, 1) := by decide +kernel
theorem dX9_time_12 : decode cX9_time 12 = .ok (.isub, 1) := by decide +kernel
theorem dX9_time_13 : decode cX9_time 13 = .ok (.invokestatic 50, 3) := by decide +kernel
theorem dX9_time_16 : decode cX9_time 16 = .ok (.ifCond .ne 10, 3) := by decide +kernel
theorem dX9_time_19 : decode cX9_time 19 = .ok (.aload_n 0, 1) := by decide +kernel
theorem dX9_time_20 : decode cX9_time 20 = .ok (.iconst 1, 1) := by decide +kernel
theorem dX9_time_21 : decode cX9_time 21 = .ok (.putfield 43, 3) := by decide +kernel
theorem dX9_time_24 : decode cX9_time 24 = .ok (.iconst 0, 1) := by decide +kernel
theorem dX9_time_25 : decode cX9_time 25 = .ok (.ireturn, 1) := by decide +kernel
theorem dX9_time_26 : decode cX9_time 26 = .ok (.aload_n 0, 1) := by decide +kernel
theorem dX9_time_27 : decode cX9_time 27 = .ok (.getfield 9, 3) := by decide +kernel
theorem dX9_time_30 : decode cX9_time 30 = .ok (.iload_n 1, 1) := by decide +kernel
theorem dX9_time_31 : decode cX9_time 31 = .ok (.iaload, 1) := by decide +kernel
theorem dX9_time_32 : decode cX9_time 32 = .ok (.ireturn, 1) := by decide +kernel
set_option maxRecDepth 20000 in
theorem ggX9_isTime_X9_in : GoodIn wsX9_isTime wsX9_in := goodIn_r _ [4] rfl (by decide +kernel)
set_option maxRecDepth 20000 in
theorem gX9_isTime_X9_in : GoodIn wsX9_isTime (va_wsS RX9 50 yX9_in wsX9_in) := goodIn_app (goodIn_of _ (by decide +kernel)) ggX9_isTime_X9_in
theorem dX9_isTime_0 : decode cX9_isTime 0 = .ok (.iload_n 0, 1) := by decide +kernel
theorem dX9_isTime_1 : decode cX9_isTime 1 = .ok (.iconst 1, 1) := by decide +kernel
theorem dX9_isTime_2 : decode cX9_isTime 2 = .ok (.sipush 20000, 3) := by decide +kernel
theorem dX9_isTime_5 : decode cX9_isTime 5 = .ok (.invokestatic 50, 3) := by decide +kernel
theorem dX9_isTime_8 : decode cX9_isTime 8 = .ok (.ireturn, 1) := by decide +kernel
set_option maxRecDepth 20000 in
theorem ggX9_fits_X9_isTime : GoodIn wsX9_fits wsX9_isTime := goodIn_r _ [8, 9, 10, 7, 11] rfl (by decide +kernel)
set_option maxRecDepth 20000 in
theorem gX9_fits_X9_isTime : GoodIn wsX9_fits (va_wsS RX9 80 yX9_isTime wsX9_isTime) := goodIn_app (goodIn_of _ (by decide +kernel)) ggX9_fits_X9_isTime
set_option maxRecDepth 20000 in
theorem ggX9_fits_X9_get : GoodIn wsX9_fits wsX9_get := goodIn_r _ [15, 16, 17, 18, 19, 20, 21, 22, 23, 24, 25, 26, 27, 28, 29, 30, 31, 32, 33] rfl (by decide +kernel)
set_option maxRecDepth 20000 in
theorem gX9_fits_X9_get : GoodIn wsX9_fits (wsV RX9 58 RX9 yX9_get wsX9_get) := goodIn_app (goodIn_of _ (by decide +kernel)) ggX9_fits_X9_get
theorem dX9_fits_0 : decode cX9_fits 0 = .ok (.iload_n 2, 1) := by decide +kernel
theorem dX9_fits_1 : decode cX9_fits 1 = .ok (.invokestatic 80, 3) := by decide +kernel
theorem dX9_fits_4 : decode cX9_fits 4 = .ok (.ifCond .eq 28, 3) := by decide +kernel
theorem dX9_fits_7 : decode cX9_fits 7 = .ok (.iload_n 2, 1) := by decide +kernel
theorem dX9_fits_8 : decode cX9_fits 8 = .ok (.iload_n 3, 1) := by decide +kernel
theorem dX9_fits_9 : decode cX9_fits 9 = .ok (.isub, 1) := by decide +kernel
theorem dX9_fits_10 : decode cX9_fits 10 = .ok (.invokestatic 83, 3) := by decide +kernel
theorem dX9_fits_13 : decode cX9_fits 13 = .ok (.bipush 100, 2) := by decide +kernel
theorem dX9_fits_15 : decode cX9_fits 15 = .ok (.imul, 1) := by decide +kernel
theorem dX9_fits_16 : decode cX9_fits 16 = .ok (.aload_n 0, 1) := by decide +kernel
theorem dX9_fits_17 : decode cX9_fits 17 = .ok (.iload_n 1, 1) := by decide +kernel
theorem dX9_fits_18 : decode cX9_fits 18 = .ok (.bipush 7, 2) := by decide +kernel
theorem dX9_fits_20 : decode cX9_fits 20 = .ok (.invokevirtual 58, 3) := by decide +kernel
theorem dX9_fits_23 : decode cX9_fits 23 = .ok (.iload_n 3, 1) := by decide +kernel
theorem dX9_fits_24 : decode cX9_fits 24 = .ok (.imul, 1) := by decide +kernel
theorem dX9_fits_25 : decode cX9_fits 25 = .ok (.if_icmp .gt 7, 3) := by decide +kernel
theorem dX9_fits_28 : decode cX9_fits 28 = .ok (.iconst 1, 1) := by decide +kernel
theorem dX9_fits_29 : decode cX9_fits 29 = .ok (.goto 4, 3) := by decide +kernel
theorem dX9_fits_32 : decode cX9_fits 32 = .ok (.iconst 0, 1) := by decide +kernel
theorem dX9_fits_33 : decode cX9_fits 33 = .ok (.ireturn, 1) := by decide +kernel
set_option maxRecDepth 20000 in
theorem ggX9_which_X9_fits : GoodIn wsX9_which wsX9_fits := goodIn_r _ [9, 1, 2, 3, 4, 10, 11, 8, 12, 13, 14, 15, 16, 17, 18, 19, 20, 21, 22, 23, 24, 25, 26, 27, 28, 29, 30, 31, 32, 33, 34, 35, 36, 37] rfl (by decide +kernel)
set_option maxRecDepth 20000 in
theorem gX9_which_X9_fits : GoodIn wsX9_which (wsV RX9 89 RX9 yX9_fits wsX9_fits) := goodIn_app (goodIn_of _ (by decide +kernel)) ggX9_which_X9_fits
theorem dX9_which_0 : decode cX9_which 0 = .ok (.aload_n 0, 1) := by decide +kernel
theorem dX9_which_1 : decode cX9_which 1 = .ok (.iload_n 1, 1) := by decide +kernel
theorem dX9_which_2 : decode cX9_which 2 = .ok (.iload_n 2, 1) := by decide +kernel
theorem dX9_which_3 : decode cX9_which 3 = .ok (.iload_n 3, 1) := by decide +kernel
theorem dX9_which_4 : decode cX9_which 4 = .ok (.invokevirtual 89, 3) := by decide +kernel
theorem dX9_which_7 : decode cX9_which 7 = .ok (.istore 5, 2) := by decide +kernel
theorem dX9_which_9 : decode cX9_which 9 = .ok (.aload_n 0, 1) := by decide +kernel
theorem dX9_which_10 : decode cX9_which 10 = .ok (.iload_n 1, 1) := by decide +kernel
theorem dX9_which_11 : decode cX9_which 11 = .ok (.iload_n 2, 1) := by decide +kernel
theorem dX9_which_12 : decode cX9_which 12 = .ok (.iload 4, 2) := by decide +kernel
theorem dX9_which_14 : decode cX9_which 14 = .ok (.invokevirtual 89, 3) := by decide +kernel
theorem dX9_which_17 : decode cX9_which 17 = .ok (.istore 6, 2) := by decide +kernel
theorem dX9_which_19 : decode cX9_which 19 = .ok (.iload 5, 2) := by decide +kernel
theorem dX9_which_21 : decode cX9_which 21 = .ok (.ifCond .eq 30, 3) := by decide +kernel
theorem dX9_which_24 : decode cX9_which 24 = .ok (.iload 6, 2) := by decide +kernel
theorem dX9_which_26 : decode cX9_which 26 = .ok (.ifCond .eq 25, 3) := by decide +kernel
theorem dX9_which_29 : decode cX9_which 29 = .ok (.iload_n 2, 1) := by decide +kernel
theorem dX9_which_30 : decode cX9_which 30 = .ok (.iload 4, 2) := by decide +kernel
theorem dX9_which_32 : decode cX9_which 32 = .ok (.isub, 1) := by decide +kernel
theorem dX9_which_33 : decode cX9_which 33 = .ok (.invokestatic 83, 3) := by decide +kernel
theorem dX9_which_36 : decode cX9_which 36 = .ok (.iload_n 2, 1) := by decide +kernel
theorem dX9_which_37 : decode cX9_which 37 = .ok (.iload_n 3, 1) := by decide +kernel
theorem dX9_which_38 : decode cX9_which 38 = .ok (.isub, 1) := by decide +kernel
theorem dX9_which_39 : decode cX9_which 39 = .ok (.invokestatic 83, 3) := by decide +kernel
theorem dX9_which_42 : decode cX9_which 42 = .ok (.if_icmp .ge 7, 3) := by decide +kernel
theorem dX9_which_45 : decode cX9_which 45 = .ok (.iconst 1, 1) := by decide +kernel
theorem dX9_which_46 : decode cX9_which 46 = .ok (.goto 4, 3) := by decide +kernel
theorem dX9_which_49 : decode cX9_which 49 = .ok (.iconst 0, 1) := by decide +kernel
theorem dX9_which_50 : decode cX9_which 50 = .ok (.ireturn, 1) := by decide +kernel
theorem dX9_which_51 : decode cX9_which 51 = .ok (.iload 5, 2) := by decide +kernel
theorem dX9_which_53 : decode cX9_which 53 = .ok (.ifCond .eq 7, 3) := by decide +kernel
theorem dX9_which_56 : decode cX9_which 56 = .ok (.iconst 0, 1) := by decide +kernel
theorem dX9_which_57 : decode cX9_which 57 = .ok (.goto 13, 3) := by decide +kernel
theorem dX9_which_60 : decode cX9_which 60 = .ok (.iload 6, 2) := by decide +kernel
theorem dX9_which_62 : decode cX9_which 62 = .ok (.ifCond .eq 7, 3) := by decide +kernel
theorem dX9_which_65 : decode cX9_which 65 = .ok (.iconst 1, 1) := by decide +kernel
theorem dX9_which_66 : decode cX9_which 66 = .ok (.goto 4, 3) := by decide +kernel
theorem dX9_which_69 : decode cX9_which 69 = .ok (.iconst (-1), 1) := by decide +kernel
theorem dX9_which_70 : decode cX9_which 70 = .ok (.ireturn, 1) := by decide +kernel
theorem dX9_fault_0 : decode cX9_fault 0 = .ok (.aload_n 0, 1) := by decide +kernel
theorem dX9_fault_1 : decode cX9_fault 1 = .ok (.iload_n 1, 1) := by decide +kernel
theorem dX9_fault_2 : decode cX9_fault 2 = .ok (.putfield 92, 3) := by decide +kernel
theorem dX9_fault_5 : decode cX9_fault 5 = .ok (.iconst (-1), 1) := by decide +kernel
theorem dX9_fault_6 : decode cX9_fault 6 = .ok (.ireturn, 1) := by decide +kernel
set_option maxRecDepth 20000 in
theorem ggX9_readBits_X9_get : GoodIn wsX9_readBits wsX9_get := goodIn_r _ [7, 8, 32, 33, 34, 35, 36, 37, 38, 39, 40, 41, 42, 43, 44, 45, 46, 47, 48] rfl (by decide +kernel)
set_option maxRecDepth 20000 in
theorem gX9_readBits_X9_get : GoodIn wsX9_readBits (wsV RX9 58 RX9 yX9_get wsX9_get) := goodIn_app (goodIn_of _ (by decide +kernel)) ggX9_readBits_X9_get
set_option maxRecDepth 20000 in
theorem ggX9_readBits_X9_fault : GoodIn wsX9_readBits wsX9_fault := goodIn_r _ [12, 13, 32, 33, 34, 35, 36, 37, 38, 39, 40, 41, 42, 43, 44, 45, 46, 47, 48] rfl (by decide +kernel)
set_option maxRecDepth 20000 in
theorem gX9_readBits_X9_fault : GoodIn wsX9_readBits (wsV RX9 95 RX9 yX9_fault wsX9_fault) := goodIn_app (goodIn_of _ (by decide +kernel)) ggX9_readBits_X9_fault
set_option maxRecDepth 20000 in
theorem ggX9_readBits_X9_fits : GoodIn wsX9_readBits wsX9_fits := goodIn_r _ [17, 18, 19, 20, 21, 22, 23, 6, 24, 25, 26, 27, 3, 4, 5, 7, 8, 32, 33, 34, 35, 36, 37, 38, 39, 40, 41, 42, 43, 44, 45, 46, 47, 48] rfl (by decide +kernel)
set_option maxRecDepth 20000 in
theorem gX9_readBits_X9_fits : GoodIn wsX9_readBits (wsV RX9 89 RX9 yX9_fits wsX9_fits) := goodIn_app (goodIn_of _ (by decide +kernel)) ggX9_readBits_X9_fits
set_option maxRecDepth 20000 in
theorem ggX9_readBits_X9_which : GoodIn wsX9_readBits wsX9_which := goodIn_r _ [31, 18, 19, 20, 21, 14, 15, 16, 6, 17, 22, 23, 24, 25, 26, 27, 3, 4, 5, 7, 8, 32, 33, 34, 35, 36, 37, 38, 39, 40, 41, 42, 43, 44, 45, 46, 47, 48] rfl (by decide +kernel)
set_option maxRecDepth 20000 in
theorem gX9_readBits_X9_which : GoodIn wsX9_readBits (wsV RX9 98 RX9 yX9_which wsX9_which) := goodIn_app (goodIn_of _ (by decide +kernel)) ggX9_readBits_X9_which
theorem dX9_readBits_0 : decode cX9_readBits 0 = .ok (.aload_n 0, 1) := by decide +kernel
theorem dX9_readBits_1 : decode cX9_readBits 1 = .ok (.iload_n 1, 1) := by decide +kernel
theorem dX9_readBits_2 : decode cX9_readBits 2 = .ok (.iconst 1, 1) := by decide +kernel
theorem dX9_readBits_3 : decode cX9_readBits 3 = .ok (.invokevirtual 58, 3) := by decide +kernel
theorem dX9_readBits_6 : decode cX9_readBits 6 = .ok (.istore_n 2, 1) := by decide +kernel
theorem dX9_readBits_7 : decode cX9_readBits 7 = .ok (.aload_n 0, 1) := by decide +kernel
theorem dX9_readBits_8 : decode cX9_readBits 8 = .ok (.iload_n 1, 1) := by decide +kernel
theorem dX9_readBits_9 : decode cX9_readBits 9 = .ok (.iconst 0, 1) := by decide +kernel
theorem dX9_readBits_10 : decode cX9_readBits 10 = .ok (.invokevirtual 58, 3) := by decide +kernel
theorem dX9_readBits_13 : decode cX9_readBits 13 = .ok (.ifCond .ne 7, 3) := by decide +kernel
theorem dX9_readBits_16 : decode cX9_readBits 16 = .ok (.iconst 1, 1) := by decide +kernel
theorem dX9_readBits_17 : decode cX9_readBits 17 = .ok (.goto 4, 3) := by decide +kernel
theorem dX9_readBits_20 : decode cX9_readBits 20 = .ok (.iconst 0, 1) := by decide +kernel
theorem dX9_readBits_21 : decode cX9_readBits 21 = .ok (.istore_n 3, 1) := by decide +kernel
theorem dX9_readBits_22 : decode cX9_readBits 22 = .ok (.iload_n 3, 1) := by decide +kernel
theorem dX9_readBits_23 : decode cX9_readBits 23 = .ok (.ifCond .eq 11, 3) := by decide +kernel
theorem dX9_readBits_26 : decode cX9_readBits 26 = .ok (.iconst 2, 1) := by decide +kernel
theorem dX9_readBits_27 : decode cX9_readBits 27 = .ok (.iload_n 2, 1) := by decide +kernel
theorem dX9_readBits_28 : decode cX9_readBits 28 = .ok (.imul, 1) := by decide +kernel
theorem dX9_readBits_29 : decode cX9_readBits 29 = .ok (.iconst 3, 1) := by decide +kernel
theorem dX9_readBits_30 : decode cX9_readBits 30 = .ok (.iadd, 1) := by decide +kernel
theorem dX9_readBits_31 : decode cX9_readBits 31 = .ok (.goto 8, 3) := by decide +kernel
theorem dX9_readBits_34 : decode cX9_readBits 34 = .ok (.iconst 2, 1) := by decide +kernel
theorem dX9_readBits_35 : decode cX9_readBits 35 = .ok (.iload_n 2, 1) := by decide +kernel
theorem dX9_readBits_36 : decode cX9_readBits 36 = .ok (.imul, 1) := by decide +kernel
theorem dX9_readBits_37 : decode cX9_readBits 37 = .ok (.iconst 1, 1) := by decide +kernel
theorem dX9_readBits_38 : decode cX9_readBits 38 = .ok (.iadd, 1) := by decide +kernel
theorem dX9_readBits_39 : decode cX9_readBits 39 = .ok (.istore 4, 2) := by decide +kernel
theorem dX9_readBits_41 : decode cX9_readBits 41 = .ok (.iconst 0, 1) := by decide +kernel
theorem dX9_readBits_42 : decode cX9_readBits 42 = .ok (.istore 5, 2) := by decide +kernel
theorem dX9_readBits_44 : decode cX9_readBits 44 = .ok (.iconst 0, 1) := by decide +kernel
theorem dX9_readBits_45 : decode cX9_readBits 45 = .ok (.istore 6, 2) := by decide +kernel
theorem dX9_readBits_47 : decode cX9_readBits 47 = .ok (.iload 6, 2) := by decide +kernel
theorem dX9_readBits_49 : decode cX9_readBits 49 = .ok (.aload_n 0, 1) := by decide +kernel
theorem dX9_readBits_50 : decode cX9_readBits 50 = .ok (.getfield 62, 3) := by decide +kernel
theorem dX9_readBits_53 : decode cX9_readBits 53 = .ok (.if_icmp .ge 150, 3) := by decide +kernel
theorem dX9_readBits_56 : decode cX9_readBits 56 = .ok (.iload 6, 2) := by decide +kernel
theorem dX9_readBits_58 : decode cX9_readBits 58 = .ok (.iload 4, 2) := by decide +kernel
theorem dX9_readBits_60 : decode cX9_readBits 60 = .ok (.if_icmp .lt 10, 3) := by decide +kernel
theorem dX9_readBits_63 : decode cX9_readBits 63 = .ok (.aload_n 0, 1) := by decide +kernel
theorem dX9_readBits_64 : decode cX9_readBits 64 = .ok (.iload 6, 2) := by decide +kernel
theorem dX9_readBits_66 : decode cX9_readBits 66 = .ok (.invokevirtual 95, 3) := by decide +kernel
theorem dX9_readBits_69 : decode cX9_readBits 69 = .ok (.ireturn, 1) := by decide +kernel
theorem dX9_readBits_70 : decode cX9_readBits 70 = .ok (.aload_n 0, 1) := by decide +kernel
theorem dX9_readBits_71 : decode cX9_readBits 71 = .ok (.getfield 9, 3) := by decide +kernel
theorem dX9_readBits_74 : decode cX9_readBits 74 = .ok (.iload 6, 2) := by decide +kernel
theorem dX9_readBits_76 : decode cX9_readBits 76 = .ok (.iaload, 1) := by decide +kernel
theorem dX9_readBits_77 : decode cX9_readBits 77 = .ok (.istore 7, 2) := by decide +kernel
theorem dX9_readBits_79 : decode cX9_readBits 79 = .ok (.iload 6, 2) := by decide +kernel
theorem dX9_readBits_81 : decode cX9_readBits 81 = .ok (.iconst 2, 1) := by decide +kernel
theorem dX9_readBits_82 : decode cX9_readBits 82 = .ok (.if_icmp .ge 29, 3) := by decide +kernel
theorem dX9_readBits_85 : decode cX9_readBits 85 = .ok (.aload_n 0, 1) := by decide +kernel
theorem dX9_readBits_86 : decode cX9_readBits 86 = .ok (.iload_n 1, 1) := by decide +kernel
theorem dX9_readBits_87 : decode cX9_readBits 87 = .ok (.iload 7, 2) := by decide +kernel
theorem dX9_readBits_89 : decode cX9_readBits 89 = .ok (.aload_n 0, 1) := by decide +kernel
theorem dX9_readBits_90 : decode cX9_readBits 90 = .ok (.iload_n 1, 1) := by decide +kernel
theorem dX9_readBits_91 : decode cX9_readBits 91 = .ok (.iconst 2, 1) := by decide +kernel
theorem dX9_readBits_92 : decode cX9_readBits 92 = .ok (.iload 6, 2) := by decide +kernel
theorem dX9_readBits_94 : decode cX9_readBits 94 = .ok (.iadd, 1) := by decide +kernel
theorem dX9_readBits_95 : decode cX9_readBits 95 = .ok (.invokevirtual 58, 3) := by decide +kernel
theorem dX9_readBits_98 : decode cX9_readBits 98 = .ok (.invokevirtual 89, 3) := by decide +kernel
theorem dX9_readBits_101 : decode cX9_readBits 101 = .ok (.ifCond .ne 96, 3) := by decide +kernel
theorem dX9_readBits_104 : decode cX9_readBits 104 = .ok (.aload_n 0, 1) := by decide +kernel
theorem dX9_readBits_105 : decode cX9_readBits 105 = .ok (.iload 6, 2) := by decide +kernel
theorem dX9_readBits_107 : decode cX9_readBits 107 = .ok (.invokevirtual 95, 3) := by decide +kernel
theorem dX9_readBits_110 : decode cX9_readBits 110 = .ok (.ireturn, 1) := by decide +kernel
theorem dX9_readBits_111 : decode cX9_readBits 111 = .ok (.iload 6, 2) := by decide +kernel
theorem dX9_readBits_113 : decode cX9_readBits 113 = .ok (.iconst 2, 1) := by decide +kernel
theorem dX9_readBits_114 : decode cX9_readBits 114 = .ok (.irem, 1) := by decide +kernel
theorem dX9_readBits_115 : decode cX9_readBits 115 = .ok (.iload_n 3, 1) := by decide +kernel
theorem dX9_readBits_116 : decode cX9_readBits 116 = .ok (.ifCond .eq 7, 3) := by decide +kernel
theorem dX9_readBits_119 : decode cX9_readBits 119 = .ok (.iconst 1, 1) := by decide +kernel
theorem dX9_readBits_120 : decode cX9_readBits 120 = .ok (.goto 4, 3) := by decide +kernel
theorem dX9_readBits_123 : decode cX9_readBits 123 = .ok (.iconst 0, 1) := by decide +kernel
theorem dX9_readBits_124 : decode cX9_readBits 124 = .ok (.if_icmp .ne 50, 3) := by decide +kernel
theorem dX9_readBits_127 : decode cX9_readBits 127 = .ok (.aload_n 0, 1) := by decide +kernel
theorem dX9_readBits_128 : decode cX9_readBits 128 = .ok (.iload_n 1, 1) := by decide +kernel
theorem dX9_readBits_129 : decode cX9_readBits 129 = .ok (.iload 7, 2) := by decide +kernel
theorem dX9_readBits_131 : decode cX9_readBits 131 = .ok (.aload_n 0, 1) := by decide +kernel
theorem dX9_readBits_132 : decode cX9_readBits 132 = .ok (.iload_n 1, 1) := by decide +kernel
theorem dX9_readBits_133 : decode cX9_readBits 133 = .ok (.iconst 5, 1) := by decide +kernel
theorem dX9_readBits_134 : decode cX9_readBits 134 = .ok (.invokevirtual 58, 3) := by decide +kernel
theorem dX9_readBits_137 : decode cX9_readBits 137 = .ok (.aload_n 0, 1) := by decide +kernel
theorem dX9_readBits_138 : decode cX9_readBits 138 = .ok (.iload_n 1, 1) := by decide +kernel
theorem dX9_readBits_139 : decode cX9_readBits 139 = .ok (.bipush 6, 2) := by decide +kernel
theorem dX9_readBits_141 : decode cX9_readBits 141 = .ok (.invokevirtual 58, 3) := by decide +kernel
theorem dX9_readBits_144 : decode cX9_readBits 144 = .ok (.invokevirtual 98, 3) := by decide +kernel
theorem dX9_readBits_147 : decode cX9_readBits 147 = .ok (.istore 8, 2) := by decide +kernel
theorem dX9_readBits_149 : decode cX9_readBits 149 = .ok (.iload 8, 2) := by decide +kernel
theorem dX9_readBits_151 : decode cX9_readBits 151 = .ok (.iconst (-1), 1) := by decide +kernel
theorem dX9_readBits_152 : decode cX9_readBits 152 = .ok (.if_icmp .ne 10, 3) := by decide +kernel
theorem dX9_readBits_155 : decode cX9_readBits 155 = .ok (.aload_n 0, 1) := by decide +kernel
theorem dX9_readBits_156 : decode cX9_readBits 156 = .ok (.iload 6, 2) := by decide +kernel
theorem dX9_readBits_158 : decode cX9_readBits 158 = .ok (.invokevirtual 95, 3) := by decide +kernel
theorem dX9_readBits_161 : decode cX9_readBits 161 = .ok (.ireturn, 1) := by decide +kernel
theorem dX9_readBits_162 : decode cX9_readBits 162 = .ok (.iconst 2, 1) := by decide +kernel
theorem dX9_readBits_163 : decode cX9_readBits 163 = .ok (.iload 5, 2) := by decide +kernel
theorem dX9_readBits_165 : decode cX9_readBits 165 = .ok (.imul, 1) := by decide +kernel
theorem dX9_readBits_166 : decode cX9_readBits 166 = .ok (.iload 8, 2) := by decide +kernel
theorem dX9_readBits_168 : decode cX9_readBits 168 = .ok (.iadd, 1) := by decide +kernel
theorem dX9_readBits_169 : decode cX9_readBits 169 = .ok (.istore 5, 2) := by decide +kernel
theorem dX9_readBits_171 : decode cX9_readBits 171 = .ok (.goto 26, 3) := by decide +kernel
theorem dX9_readBits_174 : decode cX9_readBits 174 = .ok (.aload_n 0, 1) := by decide +kernel
theorem dX9_readBits_175 : decode cX9_readBits 175 = .ok (.iload_n 1, 1) := by decide +kernel
theorem dX9_readBits_176 : decode cX9_readBits 176 = .ok (.iload 7, 2) := by decide +kernel
theorem dX9_readBits_178 : decode cX9_readBits 178 = .ok (.aload_n 0, 1) := by decide +kernel
theorem dX9_readBits_179 : decode cX9_readBits 179 = .ok (.iload_n 1, 1) := by decide +kernel
theorem dX9_readBits_180 : decode cX9_readBits 180 = .ok (.iconst 4, 1) := by decide +kernel
theorem dX9_readBits_181 : decode cX9_readBits 181 = .ok (.invokevirtual 58, 3) := by decide +kernel
theorem dX9_readBits_184 : decode cX9_readBits 184 = .ok (.invokevirtual 89, 3) := by decide +kernel
theorem dX9_readBits_187 : decode cX9_readBits 187 = .ok (.ifCond .ne 10, 3) := by decide +kernel
theorem dX9_readBits_190 : decode cX9_readBits 190 = .ok (.aload_n 0, 1) := by decide +kernel
theorem dX9_readBits_191 : decode cX9_readBits 191 = .ok (.iload 6, 2) := by decide +kernel
theorem dX9_readBits_193 : decode cX9_readBits 193 = .ok (.invokevirtual 95, 3) := by decide +kernel
theorem dX9_readBits_196 : decode cX9_readBits 196 = .ok (.ireturn, 1) := by decide +kernel
theorem dX9_readBits_197 : decode cX9_readBits 197 = .ok (.iinc 6 1, 3) := by decide +kernel
theorem dX9_readBits_200 : decode cX9_readBits 200 = .ok (.goto (-153), 3) := by decide +kernel
theorem dX9_readBits_203 : decode cX9_readBits 203 = .ok (.aload_n 0, 1) := by decide +kernel
theorem dX9_readBits_204 : decode cX9_readBits 204 = .ok (.getfield 62, 3) := by decide +kernel
theorem dX9_readBits_207 : decode cX9_readBits 207 = .ok (.iload 4, 2) := by decide +kernel
theorem dX9_readBits_209 : decode cX9_readBits 209 = .ok (.if_icmp .ge 14, 3) := by decide +kernel
theorem dX9_readBits_212 : decode cX9_readBits 212 = .ok (.aload_n 0, 1) := by decide +kernel
theorem dX9_readBits_213 : decode cX9_readBits 213 = .ok (.aload_n 0, 1) := by decide +kernel
theorem dX9_readBits_214 : decode cX9_readBits 214 = .ok (.getfield 62, 3) := by decide +kernel
theorem dX9_readBits_217 : decode cX9_readBits 217 = .ok (.invokevirtual 95, 3) := by decide +kernel
theorem dX9_readBits_220 : decode cX9_readBits 220 = .ok (.goto 5, 3) := by decide +kernel
theorem dX9_readBits_223 : decode cX9_readBits 223 = .ok (.iload 5, 2) := by decide +kernel
theorem dX9_readBits_225 : decode cX9_readBits 225 = .ok (.ireturn, 1) := by decide +kernel
set_option maxRecDepth 20000 in
theorem ggX9_readHalves_X9_get : GoodIn wsX9_readHalves wsX9_get := goodIn_r _ [7, 8, 32, 33, 34, 35, 36, 37, 38, 39, 40, 41, 42, 43, 44, 45, 46, 47, 48] rfl (by decide +kernel)
set_option maxRecDepth 20000 in
theorem gX9_readHalves_X9_get : GoodIn wsX9_readHalves (wsV RX9 58 RX9 yX9_get wsX9_get) := goodIn_app (goodIn_of _ (by decide +kernel)) ggX9_readHalves_X9_get
set_option maxRecDepth 20000 in
theorem ggX9_readHalves_X9_which : GoodIn wsX9_readHalves wsX9_which := goodIn_r _ [12, 13, 14, 15, 16, 17, 18, 19, 6, 20, 21, 22, 23, 24, 25, 26, 3, 4, 5, 7, 8, 32, 33, 34, 35, 36, 37, 38, 39, 40, 41, 42, 43, 44, 45, 46, 47, 48] rfl (by decide +kernel)
set_option maxRecDepth 20000 in
theorem gX9_readHalves_X9_which : GoodIn wsX9_readHalves (wsV RX9 98 RX9 yX9_which wsX9_which) := goodIn_app (goodIn_of _ (by decide +kernel)) ggX9_readHalves_X9_which
set_option maxRecDepth 20000 in
theorem ggX9_readHalves_X9_fault : GoodIn wsX9_readHalves wsX9_fault := goodIn_r _ [30, 31, 32, 33, 34, 35, 36, 37, 38, 39, 40, 41, 42, 43, 44, 45, 46, 47, 48] rfl (by decide +kernel)
set_option maxRecDepth 20000 in
theorem gX9_readHalves_X9_fault : GoodIn wsX9_readHalves (wsV RX9 95 RX9 yX9_fault wsX9_fault) := goodIn_app (goodIn_of _ (by decide +kernel)) ggX9_readHalves_X9_fault
theorem dX9_readHalves_0 : decode cX9_readHalves 0 = .ok (.aload_n 0, 1) := by decide +kernel
theorem dX9_readHalves_1 : decode cX9_readHalves 1 = .ok (.iload_n 1, 1) := by decide +kernel
theorem dX9_readHalves_2 : decode cX9_readHalves 2 = .ok (.iconst 1, 1) := by decide +kernel
theorem dX9_readHalves_3 : decode cX9_readHalves 3 = .ok (.invokevirtual 58, 3) := by decide +kernel
theorem dX9_readHalves_6 : decode cX9_readHalves 6 = .ok (.istore_n 2, 1) := by decide +kernel
theorem dX9_readHalves_7 : decode cX9_readHalves 7 = .ok (.aload_n 0, 1) := by decide +kernel
theorem dX9_readHalves_8 : decode cX9_readHalves 8 = .ok (.iload_n 1, 1) := by decide +kernel
theorem dX9_readHalves_9 : decode cX9_readHalves 9 = .ok (.iconst 4, 1) := by decide +kernel
theorem dX9_readHalves_10 : decode cX9_readHalves 10 = .ok (.invokevirtual 58, 3) := by decide +kernel
theorem dX9_readHalves_13 : decode cX9_readHalves 13 = .ok (.istore_n 3, 1) := by decide +kernel
theorem dX9_readHalves_14 : decode cX9_readHalves 14 = .ok (.iconst 0, 1) := by decide +kernel
theorem dX9_readHalves_15 : decode cX9_readHalves 15 = .ok (.istore 4, 2) := by decide +kernel
theorem dX9_readHalves_17 : decode cX9_readHalves 17 = .ok (.iconst 0, 1) := by decide +kernel
theorem dX9_readHalves_18 : decode cX9_readHalves 18 = .ok (.istore 5, 2) := by decide +kernel
theorem dX9_readHalves_20 : decode cX9_readHalves 20 = .ok (.iconst 1, 1) := by decide +kernel
theorem dX9_readHalves_21 : decode cX9_readHalves 21 = .ok (.istore 6, 2) := by decide +kernel
theorem dX9_readHalves_23 : decode cX9_readHalves 23 = .ok (.iconst 0, 1) := by decide +kernel
theorem dX9_readHalves_24 : decode cX9_readHalves 24 = .ok (.istore 7, 2) := by decide +kernel
theorem dX9_readHalves_26 : decode cX9_readHalves 26 = .ok (.iload 7, 2) := by decide +kernel
theorem dX9_readHalves_28 : decode cX9_readHalves 28 = .ok (.aload_n 0, 1) := by decide +kernel
theorem dX9_readHalves_29 : decode cX9_readHalves 29 = .ok (.getfield 62, 3) := by decide +kernel
theorem dX9_readHalves_32 : decode cX9_readHalves 32 = .ok (.if_icmp .ge 145, 3) := by decide +kernel
theorem dX9_readHalves_35 : decode cX9_readHalves 35 = .ok (.iconst 1, 1) := by decide +kernel
theorem dX9_readHalves_36 : decode cX9_readHalves 36 = .ok (.aload_n 0, 1) := by decide +kernel
theorem dX9_readHalves_37 : decode cX9_readHalves 37 = .ok (.iload_n 1, 1) := by decide +kernel
theorem dX9_readHalves_38 : decode cX9_readHalves 38 = .ok (.aload_n 0, 1) := by decide +kernel
theorem dX9_readHalves_39 : decode cX9_readHalves 39 = .ok (.getfield 9, 3) := by decide +kernel
theorem dX9_readHalves_42 : decode cX9_readHalves 42 = .ok (.iload 7, 2) := by decide +kernel
theorem dX9_readHalves_44 : decode cX9_readHalves 44 = .ok (.iaload, 1) := by decide +kernel
theorem dX9_readHalves_45 : decode cX9_readHalves 45 = .ok (.iload_n 3, 1) := by decide +kernel
theorem dX9_readHalves_46 : decode cX9_readHalves 46 = .ok (.iconst 2, 1) := by decide +kernel
theorem dX9_readHalves_47 : decode cX9_readHalves 47 = .ok (.iload_n 3, 1) := by decide +kernel
theorem dX9_readHalves_48 : decode cX9_readHalves 48 = .ok (.imul, 1) := by decide +kernel
theorem dX9_readHalves_49 : decode cX9_readHalves 49 = .ok (.invokevirtual 98, 3) := by decide +kernel
theorem dX9_readHalves_52 : decode cX9_readHalves 52 = .ok (.iadd, 1) := by decide +kernel
theorem dX9_readHalves_53 : decode cX9_readHalves 53 = .ok (.istore 8, 2) := by decide +kernel
theorem dX9_readHalves_55 : decode cX9_readHalves 55 = .ok (.iload 8, 2) := by decide +kernel
theorem dX9_readHalves_57 : decode cX9_readHalves 57 = .ok (.ifCond .ne 10, 3) := by decide +kernel
theorem dX9_readHalves_60 : decode cX9_readHalves 60 = .ok (.aload_n 0, 1) := by decide +kernel
theorem dX9_readHalves_61 : decode cX9_readHalves 61 = .ok (.iload 7, 2) := by decide +kernel
theorem dX9_readHalves_63 : decode cX9_readHalves 63 = .ok (.invokevirtual 95, 3) := by decide +kernel
theorem dX9_readHalves_66 : decode cX9_readHalves 66 = .ok (.ireturn, 1) := by decide +kernel
theorem dX9_readHalves_67 : decode cX9_readHalves 67 = .ok (.iload 7, 2) := by decide +kernel
theorem dX9_readHalves_69 : decode cX9_readHalves 69 = .ok (.iconst 2, 1) := by decide +kernel
theorem dX9_readHalves_70 : decode cX9_readHalves 70 = .ok (.irem, 1) := by decide +kernel
theorem dX9_readHalves_71 : decode cX9_readHalves 71 = .ok (.ifCond .ne 7, 3) := by decide +kernel
theorem dX9_readHalves_74 : decode cX9_readHalves 74 = .ok (.iconst 1, 1) := by decide +kernel
theorem dX9_readHalves_75 : decode cX9_readHalves 75 = .ok (.goto 4, 3) := by decide +kernel
theorem dX9_readHalves_78 : decode cX9_readHalves 78 = .ok (.iconst 0, 1) := by decide +kernel
theorem dX9_readHalves_79 : decode cX9_readHalves 79 = .ok (.istore 9, 2) := by decide +kernel
theorem dX9_readHalves_81 : decode cX9_readHalves 81 = .ok (.iconst 0, 1) := by decide +kernel
theorem dX9_readHalves_82 : decode cX9_readHalves 82 = .ok (.istore 10, 2) := by decide +kernel
theorem dX9_readHalves_84 : decode cX9_readHalves 84 = .ok (.iload 10, 2) := by decide +kernel
theorem dX9_readHalves_86 : decode cX9_readHalves 86 = .ok (.iload 8, 2) := by decide +kernel
theorem dX9_readHalves_88 : decode cX9_readHalves 88 = .ok (.if_icmp .ge 83, 3) := by decide +kernel
theorem dX9_readHalves_91 : decode cX9_readHalves 91 = .ok (.iload 4, 2) := by decide +kernel
theorem dX9_readHalves_93 : decode cX9_readHalves 93 = .ok (.iconst 2, 1) := by decide +kernel
theorem dX9_readHalves_94 : decode cX9_readHalves 94 = .ok (.iload_n 2, 1) := by decide +kernel
theorem dX9_readHalves_95 : decode cX9_readHalves 95 = .ok (.imul, 1) := by decide +kernel
theorem dX9_readHalves_96 : decode cX9_readHalves 96 = .ok (.if_icmp .le 10, 3) := by decide +kernel
theorem dX9_readHalves_99 : decode cX9_readHalves 99 = .ok (.aload_n 0, 1) := by decide +kernel
theorem dX9_readHalves_100 : decode cX9_readHalves 100 = .ok (.iload 7, 2) := by decide +kernel
theorem dX9_readHalves_102 : decode cX9_readHalves 102 = .ok (.invokevirtual 95, 3) := by decide +kernel
theorem dX9_readHalves_105 : decode cX9_readHalves 105 = .ok (.ireturn, 1) := by decide +kernel
theorem dX9_readHalves_106 : decode cX9_readHalves 106 = .ok (.iload 4, 2) := by decide +kernel
theorem dX9_readHalves_108 : decode cX9_readHalves 108 = .ok (.ifCond .le 35, 3) := by decide +kernel
theorem dX9_readHalves_111 : decode cX9_readHalves 111 = .ok (.iload 4, 2) := by decide +kernel
theorem dX9_readHalves_113 : decode cX9_readHalves 113 = .ok (.iconst 2, 1) := by decide +kernel
theorem dX9_readHalves_114 : decode cX9_readHalves 114 = .ok (.irem, 1) := by decide +kernel
theorem dX9_readHalves_115 : decode cX9_readHalves 115 = .ok (.iconst 1, 1) := by decide +kernel
theorem dX9_readHalves_116 : decode cX9_readHalves 116 = .ok (.if_icmp .ne 27, 3) := by decide +kernel
theorem dX9_readHalves_119 : decode cX9_readHalves 119 = .ok (.iload 9, 2) := by decide +kernel
theorem dX9_readHalves_121 : decode cX9_readHalves 121 = .ok (.istore 6, 2) := by decide +kernel
theorem dX9_readHalves_123 : decode cX9_readHalves 123 = .ok (.iconst 2, 1) := by decide +kernel
theorem dX9_readHalves_124 : decode cX9_readHalves 124 = .ok (.iload 5, 2) := by decide +kernel
theorem dX9_readHalves_126 : decode cX9_readHalves 126 = .ok (.imul, 1) := by decide +kernel
theorem dX9_readHalves_127 : decode cX9_readHalves 127 = .ok (.iload 9, 2) := by decide +kernel
theorem dX9_readHalves_129 : decode cX9_readHalves 129 = .ok (.ifCond .eq 7, 3) := by decide +kernel
theorem dX9_readHalves_132 : decode cX9_readHalves 132 = .ok (.iconst 0, 1) := by decide +kernel
theorem dX9_readHalves_133 : decode cX9_readHalves 133 = .ok (.goto 4, 3) := by decide +kernel
theorem dX9_readHalves_136 : decode cX9_readHalves 136 = .ok (.iconst 1, 1) := by decide +kernel
theorem dX9_readHalves_137 : decode cX9_readHalves 137 = .ok (.iadd, 1) := by decide +kernel
theorem dX9_readHalves_138 : decode cX9_readHalves 138 = .ok (.istore 5, 2) := by decide +kernel
theorem dX9_readHalves_140 : decode cX9_readHalves 140 = .ok (.goto 22, 3) := by decide +kernel
theorem dX9_readHalves_143 : decode cX9_readHalves 143 = .ok (.iload 4, 2) := by decide +kernel
theorem dX9_readHalves_145 : decode cX9_readHalves 145 = .ok (.ifCond .le 17, 3) := by decide +kernel
theorem dX9_readHalves_148 : decode cX9_readHalves 148 = .ok (.iload 6, 2) := by decide +kernel
theorem dX9_readHalves_150 : decode cX9_readHalves 150 = .ok (.iload 9, 2) := by decide +kernel
theorem dX9_readHalves_152 : decode cX9_readHalves 152 = .ok (.if_icmp .ne 10, 3) := by decide +kernel
theorem dX9_readHalves_155 : decode cX9_readHalves 155 = .ok (.aload_n 0, 1) := by decide +kernel
theorem dX9_readHalves_156 : decode cX9_readHalves 156 = .ok (.iload 7, 2) := by decide +kernel
theorem dX9_readHalves_158 : decode cX9_readHalves 158 = .ok (.invokevirtual 95, 3) := by decide +kernel
theorem dX9_readHalves_161 : decode cX9_readHalves 161 = .ok (.ireturn, 1) := by decide +kernel
theorem dX9_readHalves_162 : decode cX9_readHalves 162 = .ok (.iinc 4 1, 3) := by decide +kernel
theorem dX9_readHalves_165 : decode cX9_readHalves 165 = .ok (.iinc 10 1, 3) := by decide +kernel
theorem dX9_readHalves_168 : decode cX9_readHalves 168 = .ok (.goto (-84), 3) := by decide +kernel
theorem dX9_readHalves_171 : decode cX9_readHalves 171 = .ok (.iinc 7 1, 3) := by decide +kernel
theorem dX9_readHalves_174 : decode cX9_readHalves 174 = .ok (.goto (-148), 3) := by decide +kernel
theorem dX9_readHalves_177 : decode cX9_readHalves 177 = .ok (.iload 4, 2) := by decide +kernel
theorem dX9_readHalves_179 : decode cX9_readHalves 179 = .ok (.iconst 2, 1) := by decide +kernel
theorem dX9_readHalves_180 : decode cX9_readHalves 180 = .ok (.iload_n 2, 1) := by decide +kernel
theorem dX9_readHalves_181 : decode cX9_readHalves 181 = .ok (.imul, 1) := by decide +kernel
theorem dX9_readHalves_182 : decode cX9_readHalves 182 = .ok (.iconst 1, 1) := by decide +kernel
theorem dX9_readHalves_183 : decode cX9_readHalves 183 = .ok (.iadd, 1) := by decide +kernel
theorem dX9_readHalves_184 : decode cX9_readHalves 184 = .ok (.if_icmp .eq 16, 3) := by decide +kernel
theorem dX9_readHalves_187 : decode cX9_readHalves 187 = .ok (.iload 4, 2) := by decide +kernel
theorem dX9_readHalves_189 : decode cX9_readHalves 189 = .ok (.iconst 2, 1) := by decide +kernel
theorem dX9_readHalves_190 : decode cX9_readHalves 190 = .ok (.iload_n 2, 1) := by decide +kernel
theorem dX9_readHalves_191 : decode cX9_readHalves 191 = .ok (.imul, 1) := by decide +kernel
theorem dX9_readHalves_192 : decode cX9_readHalves 192 = .ok (.if_icmp .ne 12, 3) := by decide +kernel
theorem dX9_readHalves_195 : decode cX9_readHalves 195 = .ok (.iload 6, 2) := by decide +kernel
theorem dX9_readHalves_197 : decode cX9_readHalves 197 = .ok (.ifCond .eq 7, 3) := by decide +kernel
theorem dX9_readHalves_200 : decode cX9_readHalves 200 = .ok (.iconst 1, 1) := by decide +kernel
theorem dX9_readHalves_201 : decode cX9_readHalves 201 = .ok (.goto 4, 3) := by decide +kernel
theorem dX9_readHalves_204 : decode cX9_readHalves 204 = .ok (.iconst 0, 1) := by decide +kernel
theorem dX9_readHalves_205 : decode cX9_readHalves 205 = .ok (.istore 7, 2) := by decide +kernel
theorem dX9_readHalves_207 : decode cX9_readHalves 207 = .ok (.iload 7, 2) := by decide +kernel
theorem dX9_readHalves_209 : decode cX9_readHalves 209 = .ok (.ifCond .eq 8, 3) := by decide +kernel
theorem dX9_readHalves_212 : decode cX9_readHalves 212 = .ok (.iload 5, 2) := by decide +kernel
theorem dX9_readHalves_214 : decode cX9_readHalves 214 = .ok (.goto 11, 3) := by decide +kernel
theorem dX9_readHalves_217 : decode cX9_readHalves 217 = .ok (.aload_n 0, 1) := by decide +kernel
theorem dX9_readHalves_218 : decode cX9_readHalves 218 = .ok (.aload_n 0, 1) := by decide +kernel
theorem dX9_readHalves_219 : decode cX9_readHalves 219 = .ok (.getfield 62, 3) := by decide +kernel
theorem dX9_readHalves_222 : decode cX9_readHalves 222 = .ok (.invokevirtual 95, 3) := by decide +kernel
theorem dX9_readHalves_225 : decode cX9_readHalves 225 = .ok (.ireturn, 1) := by decide +kernel
set_option maxRecDepth 20000 in
theorem ggX9_readBy_X9_get : GoodIn wsX9_readBy wsX9_get := goodIn_r _ [5, 6, 40, 41, 42, 43, 44, 45, 46, 47, 48, 49, 50, 51, 52, 53, 54, 55, 56] rfl (by decide +kernel)
set_option maxRecDepth 20000 in
theorem gX9_readBy_X9_get : GoodIn wsX9_readBy (wsV RX9 58 RX9 yX9_get wsX9_get) := goodIn_app (goodIn_of _ (by decide +kernel)) ggX9_readBy_X9_get
set_option maxRecDepth 20000 in
theorem ggX9_readBy_X9_readHalves : GoodIn wsX9_readBy wsX9_readHalves := goodIn_r _ [10, 11, 12, 1, 2, 3, 4, 5, 6, 13, 14, 15, 16, 17, 18, 19, 20, 21, 22, 23, 24, 25, 26, 27, 28, 29, 30, 31, 32, 33, 34, 35, 40, 41, 42, 43, 44, 45, 46, 47, 48, 49, 50, 51, 52, 53, 54, 55, 56] rfl (by decide +kernel)
set_option maxRecDepth 20000 in
theorem gX9_readBy_X9_readHalves : GoodIn wsX9_readBy (wsV RX9 102 RX9 yX9_readHalves wsX9_readHalves) := goodIn_app (goodIn_of _ (by decide +kernel)) ggX9_readBy_X9_readHalves
set_option maxRecDepth 20000 in
theorem ggX9_readBy_X9_readBits : GoodIn wsX9_readBy wsX9_readBits := goodIn_r _ [39, 11, 12, 1, 2, 3, 4, 5, 6, 31, 32, 33, 34, 35, 21, 22, 23, 24, 17, 18, 19, 20, 25, 26, 27, 28, 29, 30, 13, 14, 15, 16, 40, 41, 42, 43, 44, 45, 46, 47, 48, 49, 50, 51, 52, 53, 54, 55, 56] rfl (by decide +kernel)
set_option maxRecDepth 20000 in
theorem gX9_readBy_X9_readBits : GoodIn wsX9_readBy (wsV RX9 105 RX9 yX9_readBits wsX9_readBits) := goodIn_app (goodIn_of _ (by decide +kernel)) ggX9_readBy_X9_readBits
theorem dX9_readBy_0 : decode cX9_readBy 0 = .ok (.aload_n 0, 1) := by decide +kernel
theorem dX9_readBy_1 : decode cX9_readBy 1 = .ok (.iload_n 1, 1) := by decide +kernel
theorem dX9_readBy_2 : decode cX9_readBy 2 = .ok (.iconst 0, 1) := by decide +kernel
theorem dX9_readBy_3 : decode cX9_readBy 3 = .ok (.invokevirtual 58, 3) := by decide +kernel
theorem dX9_readBy_6 : decode cX9_readBy 6 = .ok (.iconst 2, 1) := by decide +kernel
theorem dX9_readBy_7 : decode cX9_readBy 7 = .ok (.if_icmp .ne 11, 3) := by decide +kernel
theorem dX9_readBy_10 : decode cX9_readBy 10 = .ok (.aload_n 0, 1) := by decide +kernel
theorem dX9_readBy_11 : decode cX9_readBy 11 = .ok (.iload_n 1, 1) := by decide +kernel
theorem dX9_readBy_12 : decode cX9_readBy 12 = .ok (.invokevirtual 102, 3) := by decide +kernel
theorem dX9_readBy_15 : decode cX9_readBy 15 = .ok (.goto 8, 3) := by decide +kernel
theorem dX9_readBy_18 : decode cX9_readBy 18 = .ok (.aload_n 0, 1) := by decide +kernel
theorem dX9_readBy_19 : decode cX9_readBy 19 = .ok (.iload_n 1, 1) := by decide +kernel
theorem dX9_readBy_20 : decode cX9_readBy 20 = .ok (.invokevirtual 105, 3) := by decide +kernel
theorem dX9_readBy_23 : decode cX9_readBy 23 = .ok (.ireturn, 1) := by decide +kernel
set_option maxRecDepth 20000 in
theorem ggX9_read_X9_isMake : GoodIn wsX9_read wsX9_isMake := goodIn_r _ [7, 8, 9, 10, 6, 11, 50, 51, 52, 53, 54, 55, 56, 57, 58, 59, 60, 61, 62, 63, 64, 65, 66] rfl (by decide +kernel)
set_option maxRecDepth 20000 in
theorem gX9_read_X9_isMake : GoodIn wsX9_read (wsV RX9 54 RX9 yX9_isMake wsX9_isMake) := goodIn_app (goodIn_of _ (by decide +kernel)) ggX9_read_X9_isMake
set_option maxRecDepth 20000 in
theorem ggX9_read_X9_readBy : GoodIn wsX9_read wsX9_readBy := goodIn_r _ [15, 16, 17, 18, 6, 19, 20, 21, 22, 23, 24, 25, 26, 27, 28, 29, 30, 31, 32, 33, 34, 35, 36, 37, 38, 39, 40, 41, 9, 10, 11, 42, 43, 44, 45, 2, 46, 47, 48, 49, 50, 51, 52, 53, 54, 55, 56, 57, 58, 59, 60, 61, 62, 63, 64, 65, 66] rfl (by decide +kernel)
set_option maxRecDepth 20000 in
theorem gX9_read_X9_readBy : GoodIn wsX9_read (wsV RX9 108 RX9 yX9_readBy wsX9_readBy) := goodIn_app (goodIn_of _ (by decide +kernel)) ggX9_read_X9_readBy
theorem dX9_read_0 : decode cX9_read 0 = .ok (.aload_n 0, 1) := by decide +kernel
theorem dX9_read_1 : decode cX9_read 1 = .ok (.iconst 0, 1) := by decide +kernel
theorem dX9_read_2 : decode cX9_read 2 = .ok (.putfield 43, 3) := by decide +kernel
theorem dX9_read_5 : decode cX9_read 5 = .ok (.aload_n 0, 1) := by decide +kernel
theorem dX9_read_6 : decode cX9_read 6 = .ok (.iload_n 1, 1) := by decide +kernel
theorem dX9_read_7 : decode cX9_read 7 = .ok (.invokevirtual 54, 3) := by decide +kernel
theorem dX9_read_10 : decode cX9_read 10 = .ok (.ifCond .ne 5, 3) := by decide +kernel
theorem dX9_read_13 : decode cX9_read 13 = .ok (.iconst (-1), 1) := by decide +kernel
theorem dX9_read_14 : decode cX9_read 14 = .ok (.ireturn, 1) := by decide +kernel
theorem dX9_read_15 : decode cX9_read 15 = .ok (.aload_n 0, 1) := by decide +kernel
theorem dX9_read_16 : decode cX9_read 16 = .ok (.iload_n 1, 1) := by decide +kernel
theorem dX9_read_17 : decode cX9_read 17 = .ok (.invokevirtual 108, 3) := by decide +kernel
theorem dX9_read_20 : decode cX9_read 20 = .ok (.istore_n 2, 1) := by decide +kernel
theorem dX9_read_21 : decode cX9_read 21 = .ok (.iload_n 2, 1) := by decide +kernel
theorem dX9_read_22 : decode cX9_read 22 = .ok (.iconst (-1), 1) := by decide +kernel
theorem dX9_read_23 : decode cX9_read 23 = .ok (.if_icmp .ne 13, 3) := by decide +kernel
theorem dX9_read_26 : decode cX9_read 26 = .ok (.bipush (-2), 2) := by decide +kernel
theorem dX9_read_28 : decode cX9_read 28 = .ok (.aload_n 0, 1) := by decide +kernel
theorem dX9_read_29 : decode cX9_read 29 = .ok (.getfield 92, 3) := by decide +kernel
theorem dX9_read_32 : decode cX9_read 32 = .ok (.isub, 1) := by decide +kernel
theorem dX9_read_33 : decode cX9_read 33 = .ok (.goto 4, 3) := by decide +kernel
theorem dX9_read_36 : decode cX9_read 36 = .ok (.iload_n 2, 1) := by decide +kernel
theorem dX9_read_37 : decode cX9_read 37 = .ok (.ireturn, 1) := by decide +kernel
set_option maxRecDepth 20000 in
theorem ggX9_which__X9_readBy : GoodIn wsX9_which_ wsX9_readBy := goodIn_r _ [7, 8, 9, 10, 6, 11, 12, 13, 14, 15, 16, 17, 18, 19, 20, 21, 22, 23, 24, 25, 26, 27, 28, 29, 30, 31, 32, 33, 34, 35, 36, 37, 38, 39, 40, 41, 42, 43, 44, 45, 46, 47, 48, 49, 50, 51, 52, 53, 54, 55, 56, 57, 58, 59, 60, 61, 62] rfl (by decide +kernel)
set_option maxRecDepth 20000 in
theorem gX9_which__X9_readBy : GoodIn wsX9_which_ (wsV RX9 108 RX9 yX9_readBy wsX9_readBy) := goodIn_app (goodIn_of _ (by decide +kernel)) ggX9_which__X9_readBy
theorem dX9_which__0 : decode cX9_which_ 0 = .ok (.aload_n 0, 1) := by decide +kernel
theorem dX9_which__1 : decode cX9_which_ 1 = .ok (.iconst 0, 1) := by decide +kernel
theorem dX9_which__2 : decode cX9_which_ 2 = .ok (.putfield 43, 3) := by decide +kernel
theorem dX9_which__5 : decode cX9_which_ 5 = .ok (.iconst 0, 1) := by decide +kernel
theorem dX9_which__6 : decode cX9_which_ 6 = .ok (.istore_n 1, 1) := by decide +kernel
theorem dX9_which__7 : decode cX9_which_ 7 = .ok (.iconst 0, 1) := by decide +kernel
theorem dX9_which__8 : decode cX9_which_ 8 = .ok (.istore_n 2, 1) := by decide +kernel
theorem dX9_which__9 : decode cX9_which_ 9 = .ok (.iload_n 2, 1) := by decide +kernel
theorem dX9_which__10 : decode cX9_which_ 10 = .ok (.aload_n 0, 1) := by decide +kernel
theorem dX9_which__11 : decode cX9_which_ 11 = .ok (.getfield 47, 3) := by decide +kernel
theorem dX9_which__14 : decode cX9_which_ 14 = .ok (.if_icmp .ge 24, 3) := by decide +kernel
theorem dX9_which__17 : decode cX9_which_ 17 = .ok (.aload_n 0, 1) := by decide +kernel
theorem dX9_which__18 : decode cX9_which_ 18 = .ok (.iload_n 2, 1) := by decide +kernel
theorem dX9_which__19 : decode cX9_which_ 19 = .ok (.invokevirtual 108, 3) := by decide +kernel
theorem dX9_which__22 : decode cX9_which_ 22 = .ok (.iconst (-1), 1) := by decide +kernel
theorem dX9_which__23 : decode cX9_which_ 23 = .ok (.if_icmp .eq 9, 3) := by decide +kernel
theorem dX9_which__26 : decode cX9_which_ 26 = .ok (.iload_n 1, 1) := by decide +kernel
theorem dX9_which__27 : decode cX9_which_ 27 = .ok (.iconst 1, 1) := by decide +kernel
theorem dX9_which__28 : decode cX9_which_ 28 = .ok (.iload_n 2, 1) := by decide +kernel
theorem dX9_which__29 : decode cX9_which_ 29 = .ok (.ishl, 1) := by decide +kernel
theorem dX9_which__30 : decode cX9_which_ 30 = .ok (.ior, 1) := by decide +kernel
theorem dX9_which__31 : decode cX9_which_ 31 = .ok (.istore_n 1, 1) := by decide +kernel
theorem dX9_which__32 : decode cX9_which_ 32 = .ok (.iinc 2 1, 3) := by decide +kernel
theorem dX9_which__35 : decode cX9_which_ 35 = .ok (.goto (-26), 3) := by decide +kernel
theorem dX9_which__38 : decode cX9_which_ 38 = .ok (.iload_n 1, 1) := by decide +kernel
theorem dX9_which__39 : decode cX9_which_ 39 = .ok (.ireturn, 1) := by decide +kernel
set_option maxRecDepth 20000 in
theorem ggX9_stretch_X9_in : GoodIn wsX9_stretch wsX9_in := goodIn_r _ [7] rfl (by decide +kernel)
set_option maxRecDepth 20000 in
theorem gX9_stretch_X9_in : GoodIn wsX9_stretch (va_wsS RX9 50 yX9_in wsX9_in) := goodIn_app (goodIn_of _ (by decide +kernel)) ggX9_stretch_X9_in
set_option maxRecDepth 20000 in
theorem ggX9_stretch_X9_isTime : GoodIn wsX9_stretch wsX9_isTime := goodIn_r _ [10, 4, 5, 6, 7] rfl (by decide +kernel)
set_option maxRecDepth 20000 in
theorem gX9_stretch_X9_isTime : GoodIn wsX9_stretch (va_wsS RX9 80 yX9_isTime wsX9_isTime) := goodIn_app (goodIn_of _ (by decide +kernel)) ggX9_stretch_X9_isTime
theorem dX9_stretch_0 : decode cX9_stretch 0 = .ok (.aload_n 0, 1) := by decide +kernel
theorem dX9_stretch_1 : decode cX9_stretch 1 = .ok (.iconst 0, 1) := by decide +kernel
theorem dX9_stretch_2 : decode cX9_stretch 2 = .ok (.putfield 43, 3) := by decide +kernel
theorem dX9_stretch_5 : decode cX9_stretch 5 = .ok (.iload_n 1, 1) := by decide +kernel
theorem dX9_stretch_6 : decode cX9_stretch 6 = .ok (.bipush (-60), 2) := by decide +kernel
theorem dX9_stretch_8 : decode cX9_stretch 8 = .ok (.bipush 60, 2) := by decide +kernel
theorem dX9_stretch_10 : decode cX9_stretch 10 = .ok (.invokestatic 50, 3) := by decide +kernel
theorem dX9_stretch_13 : decode cX9_stretch 13 = .ok (.ifCond .ne 5, 3) := by decide +kernel
theorem dX9_stretch_16 : decode cX9_stretch 16 = .ok (.iconst 0, 1) := by decide +kernel
theorem dX9_stretch_17 : decode cX9_stretch 17 = .ok (.ireturn, 1) := by decide +kernel
theorem dX9_stretch_18 : decode cX9_stretch 18 = .ok (.iconst 0, 1) := by decide +kernel
theorem dX9_stretch_19 : decode cX9_stretch 19 = .ok (.istore_n 2, 1) := by decide +kernel
theorem dX9_stretch_20 : decode cX9_stretch 20 = .ok (.iload_n 2, 1) := by decide +kernel
theorem dX9_stretch_21 : decode cX9_stretch 21 = .ok (.aload_n 0, 1) := by decide +kernel
theorem dX9_stretch_22 : decode cX9_stretch 22 = .ok (.getfield 62, 3) := by decide +kernel
theorem dX9_stretch_25 : decode cX9_stretch 25 = .ok (.if_icmp .ge 72, 3) := by decide +kernel
theorem dX9_stretch_28 : decode cX9_stretch 28 = .ok (.aload_n 0, 1) := by decide +kernel
theorem dX9_stretch_29 : decode cX9_stretch 29 = .ok (.getfield 9, 3) := by decide +kernel
theorem dX9_stretch_32 : decode cX9_stretch 32 = .ok (.iload_n 2, 1) := by decide +kernel
theorem dX9_stretch_33 : decode cX9_stretch 33 = .ok (.iaload, 1) := by decide +kernel
theorem dX9_stretch_34 : decode cX9_stretch 34 = .ok (.invokestatic 80, 3) := by decide +kernel
theorem dX9_stretch_37 : decode cX9_stretch 37 = .ok (.ifCond .ne 6, 3) := by decide +kernel
theorem dX9_stretch_40 : decode cX9_stretch 40 = .ok (.goto 51, 3) := by decide +kernel
theorem dX9_stretch_43 : decode cX9_stretch 43 = .ok (.aload_n 0, 1) := by decide +kernel
theorem dX9_stretch_44 : decode cX9_stretch 44 = .ok (.getfield 9, 3) := by decide +kernel
theorem dX9_stretch_47 : decode cX9_stretch 47 = .ok (.iload_n 2, 1) := by decide +kernel
theorem dX9_stretch_48 : decode cX9_stretch 48 = .ok (.iaload, 1) := by decide +kernel
theorem dX9_stretch_49 : decode cX9_stretch 49 = .ok (.aload_n 0, 1) := by decide +kernel
theorem dX9_stretch_50 : decode cX9_stretch 50 = .ok (.getfield 9, 3) := by decide +kernel
theorem dX9_stretch_53 : decode cX9_stretch 53 = .ok (.iload_n 2, 1) := by decide +kernel
theorem dX9_stretch_54 : decode cX9_stretch 54 = .ok (.iaload, 1) := by decide +kernel
theorem dX9_stretch_55 : decode cX9_stretch 55 = .ok (.iload_n 1, 1) := by decide +kernel
theorem dX9_stretch_56 : decode cX9_stretch 56 = .ok (.imul, 1) := by decide +kernel
theorem dX9_stretch_57 : decode cX9_stretch 57 = .ok (.bipush 100, 2) := by decide +kernel
theorem dX9_stretch_59 : decode cX9_stretch 59 = .ok (.idiv, 1) := by decide +kernel
theorem dX9_stretch_60 : decode cX9_stretch 60 = .ok (.iadd, 1) := by decide +kernel
theorem dX9_stretch_61 : decode cX9_stretch 61 = .ok (.istore_n 3, 1) := by decide +kernel
theorem dX9_stretch_62 : decode cX9_stretch 62 = .ok (.aload_n 0, 1) := by decide +kernel
theorem dX9_stretch_63 : decode cX9_stretch 63 = .ok (.getfield 9, 3) := by decide +kernel
theorem dX9_stretch_66 : decode cX9_stretch 66 = .ok (.iload_n 2, 1) := by decide +kernel
theorem dX9_stretch_67 : decode cX9_stretch 67 = .ok (.iload_n 3, 1) := by decide +kernel
theorem dX9_stretch_68 : decode cX9_stretch 68 = .ok (.iconst 1, 1) := by decide +kernel
theorem dX9_stretch_69 : decode cX9_stretch 69 = .ok (.if_icmp .ge 7, 3) := by decide +kernel
theorem dX9_stretch_72 : decode cX9_stretch 72 = .ok (.iconst 1, 1) := by decide +kernel
theorem dX9_stretch_73 : decode cX9_stretch 73 = .ok (.goto 17, 3) := by decide +kernel
theorem dX9_stretch_76 : decode cX9_stretch 76 = .ok (.iload_n 3, 1) := by decide +kernel
theorem dX9_stretch_77 : decode cX9_stretch 77 = .ok (.sipush 20000, 3) := by decide +kernel
theorem dX9_stretch_80 : decode cX9_stretch 80 = .ok (.if_icmp .le 9, 3) := by decide +kernel
theorem dX9_stretch_83 : decode cX9_stretch 83 = .ok (.sipush 20000, 3) := by decide +kernel
theorem dX9_stretch_86 : decode cX9_stretch 86 = .ok (.goto 4, 3) := by decide +kernel
theorem dX9_stretch_89 : decode cX9_stretch 89 = .ok (.iload_n 3, 1) := by decide +kernel
theorem dX9_stretch_90 : decode cX9_stretch 90 = .ok (.iastore, 1) := by decide +kernel
theorem dX9_stretch_91 : decode cX9_stretch 91 = .ok (.iinc 2 1, 3) := by decide +kernel
theorem dX9_stretch_94 : decode cX9_stretch 94 = .ok (.goto (-74), 3) := by decide +kernel
theorem dX9_stretch_97 : decode cX9_stretch 97 = .ok (.iconst 1, 1) := by decide +kernel
theorem dX9_stretch_98 : decode cX9_stretch 98 = .ok (.ireturn, 1) := by decide +kernel
set_option maxRecDepth 20000 in
theorem ggX9_isKey_X9_isMake : GoodIn wsX9_isKey wsX9_isMake := goodIn_r _ [5, 6, 7, 8, 4, 9, 10, 11, 12, 13, 14, 15, 16, 17, 18, 19, 20, 21, 22, 23, 24, 25, 26] rfl (by decide +kernel)
set_option maxRecDepth 20000 in
theorem gX9_isKey_X9_isMake : GoodIn wsX9_isKey (wsV RX9 54 RX9 yX9_isMake wsX9_isMake) := goodIn_app (goodIn_of _ (by decide +kernel)) ggX9_isKey_X9_isMake
set_option maxRecDepth 20000 in
theorem ggX9_isKey_X9_in : GoodIn wsX9_isKey wsX9_in := goodIn_r _ [9] rfl (by decide +kernel)
set_option maxRecDepth 20000 in
theorem gX9_isKey_X9_in : GoodIn wsX9_isKey (va_wsS RX9 50 yX9_in wsX9_in) := goodIn_app (goodIn_of _ (by decide +kernel)) ggX9_isKey_X9_in
theorem dX9_isKey_0 : decode cX9_isKey 0 = .ok (.aload_n 0, 1) := by decide +kernel
theorem dX9_isKey_1 : decode cX9_isKey 1 = .ok (.iload_n 1, 1) := by decide +kernel
theorem dX9_isKey_2 : decode cX9_isKey 2 = .ok (.invokevirtual 54, 3) := by decide +kernel
theorem dX9_isKey_5 : decode cX9_isKey 5 = .ok (.ifCond .eq 17, 3) := by decide +kernel
theorem dX9_isKey_8 : decode cX9_isKey 8 = .ok (.iload_n 2, 1) := by decide +kernel
theorem dX9_isKey_9 : decode cX9_isKey 9 = .ok (.iconst 0, 1) := by decide +kernel
theorem dX9_isKey_10 : decode cX9_isKey 10 = .ok (.bipush 15, 2) := by decide +kernel
theorem dX9_isKey_12 : decode cX9_isKey 12 = .ok (.invokestatic 50, 3) := by decide +kernel
theorem dX9_isKey_15 : decode cX9_isKey 15 = .ok (.ifCond .eq 7, 3) := by decide +kernel
theorem dX9_isKey_18 : decode cX9_isKey 18 = .ok (.iconst 1, 1) := by decide +kernel
theorem dX9_isKey_19 : decode cX9_isKey 19 = .ok (.goto 4, 3) := by decide +kernel
theorem dX9_isKey_22 : decode cX9_isKey 22 = .ok (.iconst 0, 1) := by decide +kernel
theorem dX9_isKey_23 : decode cX9_isKey 23 = .ok (.ireturn, 1) := by decide +kernel
set_option maxRecDepth 20000 in
theorem ggX9_flipOf_X9_get : GoodIn wsX9_flipOf wsX9_get := goodIn_r _ [5, 6, 7, 8, 9, 10, 11, 12, 13, 14, 15, 16, 17, 18, 19, 20, 21, 22, 23] rfl (by decide +kernel)
set_option maxRecDepth 20000 in
theorem gX9_flipOf_X9_get : GoodIn wsX9_flipOf (wsV RX9 58 RX9 yX9_get wsX9_get) := goodIn_app (goodIn_of _ (by decide +kernel)) ggX9_flipOf_X9_get
theorem dX9_flipOf_0 : decode cX9_flipOf 0 = .ok (.aload_n 0, 1) := by decide +kernel
theorem dX9_flipOf_1 : decode cX9_flipOf 1 = .ok (.iload_n 1, 1) := by decide +kernel
theorem dX9_flipOf_2 : decode cX9_flipOf 2 = .ok (.bipush 8, 2) := by decide +kernel
theorem dX9_flipOf_4 : decode cX9_flipOf 4 = .ok (.invokevirtual 58, 3) := by decide +kernel
theorem dX9_flipOf_7 : decode cX9_flipOf 7 = .ok (.iconst (-1), 1) := by decide +kernel
theorem dX9_flipOf_8 : decode cX9_flipOf 8 = .ok (.if_icmp .ne 7, 3) := by decide +kernel
theorem dX9_flipOf_11 : decode cX9_flipOf 11 = .ok (.iconst 0, 1) := by decide +kernel
theorem dX9_flipOf_12 : decode cX9_flipOf 12 = .ok (.goto 12, 3) := by decide +kernel
theorem dX9_flipOf_15 : decode cX9_flipOf 15 = .ok (.iconst 1, 1) := by decide +kernel
theorem dX9_flipOf_16 : decode cX9_flipOf 16 = .ok (.aload_n 0, 1) := by decide +kernel
theorem dX9_flipOf_17 : decode cX9_flipOf 17 = .ok (.iload_n 1, 1) := by decide +kernel
theorem dX9_flipOf_18 : decode cX9_flipOf 18 = .ok (.bipush 8, 2) := by decide +kernel
theorem dX9_flipOf_20 : decode cX9_flipOf 20 = .ok (.invokevirtual 58, 3) := by decide +kernel
theorem dX9_flipOf_23 : decode cX9_flipOf 23 = .ok (.ishl, 1) := by decide +kernel
theorem dX9_flipOf_24 : decode cX9_flipOf 24 = .ok (.ireturn, 1) := by decide +kernel
set_option maxRecDepth 20000 in
theorem ggX9_learn_X9_isKey : GoodIn wsX9_learn wsX9_isKey := goodIn_r _ [7, 8, 9, 10, 6, 11, 12, 13, 14, 15, 59, 60, 61, 62, 63, 64, 65, 66, 67, 68, 69, 70, 71, 72, 73, 74, 75] rfl (by decide +kernel)
set_option maxRecDepth 20000 in
theorem gX9_learn_X9_isKey : GoodIn wsX9_learn (wsV RX9 111 RX9 yX9_isKey wsX9_isKey) := goodIn_app (goodIn_of _ (by decide +kernel)) ggX9_learn_X9_isKey
set_option maxRecDepth 20000 in
theorem ggX9_learn_X9_readBy : GoodIn wsX9_learn wsX9_readBy := goodIn_r _ [19, 20, 21, 22, 6, 23, 24, 25, 26, 27, 28, 29, 30, 31, 32, 33, 34, 35, 36, 37, 38, 39, 40, 41, 42, 43, 44, 45, 13, 14, 15, 46, 47, 48, 49, 50, 51, 52, 53, 54, 59, 60, 61, 62, 63, 64, 65, 66, 67, 68, 69, 70, 71, 72, 73, 74, 75] rfl (by decide +kernel)
set_option maxRecDepth 20000 in
theorem gX9_learn_X9_readBy : GoodIn wsX9_learn (wsV RX9 108 RX9 yX9_readBy wsX9_readBy) := goodIn_app (goodIn_of _ (by decide +kernel)) ggX9_learn_X9_readBy
set_option maxRecDepth 20000 in
theorem ggX9_learn_X9_flipOf : GoodIn wsX9_learn wsX9_flipOf := goodIn_r _ [58, 20, 21, 22, 6, 23, 24, 59, 60, 61, 62, 63, 64, 65, 66, 67, 68, 69, 70, 71, 72, 73, 74, 75] rfl (by decide +kernel)
set_option maxRecDepth 20000 in
theorem gX9_learn_X9_flipOf : GoodIn wsX9_learn (wsV RX9 115 RX9 yX9_flipOf wsX9_flipOf) := goodIn_app (goodIn_of _ (by decide +kernel)) ggX9_learn_X9_flipOf
theorem dX9_learn_0 : decode cX9_learn 0 = .ok (.aload_n 0, 1) := by decide +kernel
theorem dX9_learn_1 : decode cX9_learn 1 = .ok (.iconst 0, 1) := by decide +kernel
theorem dX9_learn_2 : decode cX9_learn 2 = .ok (.putfield 43, 3) := by decide +kernel
theorem dX9_learn_5 : decode cX9_learn 5 = .ok (.aload_n 0, 1) := by decide +kernel
theorem dX9_learn_6 : decode cX9_learn 6 = .ok (.iload_n 1, 1) := by decide +kernel
theorem dX9_learn_7 : decode cX9_learn 7 = .ok (.iload_n 2, 1) := by decide +kernel
theorem dX9_learn_8 : decode cX9_learn 8 = .ok (.invokevirtual 111, 3) := by decide +kernel
theorem dX9_learn_11 : decode cX9_learn 11 = .ok (.ifCond .ne 5, 3) := by decide +kernel
theorem dX9_learn_14 : decode cX9_learn 14 = .ok (.iconst (-1), 1) := by decide +kernel
theorem dX9_learn_15 : decode cX9_learn 15 = .ok (.ireturn, 1) := by decide +kernel
theorem dX9_learn_16 : decode cX9_learn 16 = .ok (.aload_n 0, 1) := by decide +kernel
theorem dX9_learn_17 : decode cX9_learn 17 = .ok (.iload_n 1, 1) := by decide +kernel
theorem dX9_learn_18 : decode cX9_learn 18 = .ok (.invokevirtual 108, 3) := by decide +kernel
theorem dX9_learn_21 : decode cX9_learn 21 = .ok (.istore_n 3, 1) := by decide +kernel
theorem dX9_learn_22 : decode cX9_learn 22 = .ok (.iload_n 3, 1) := by decide +kernel
theorem dX9_learn_23 : decode cX9_learn 23 = .ok (.iconst (-1), 1) := by decide +kernel
theorem dX9_learn_24 : decode cX9_learn 24 = .ok (.if_icmp .ne 5, 3) := by decide +kernel
theorem dX9_learn_27 : decode cX9_learn 27 = .ok (.iconst (-1), 1) := by decide +kernel
theorem dX9_learn_28 : decode cX9_learn 28 = .ok (.ireturn, 1) := by decide +kernel
theorem dX9_learn_29 : decode cX9_learn 29 = .ok (.iload_n 3, 1) := by decide +kernel
theorem dX9_learn_30 : decode cX9_learn 30 = .ok (.aload_n 0, 1) := by decide +kernel
theorem dX9_learn_31 : decode cX9_learn 31 = .ok (.iload_n 1, 1) := by decide +kernel
theorem dX9_learn_32 : decode cX9_learn 32 = .ok (.invokevirtual 115, 3) := by decide +kernel
theorem dX9_learn_35 : decode cX9_learn 35 = .ok (.iconst (-1), 1) := by decide +kernel
theorem dX9_learn_36 : decode cX9_learn 36 = .ok (.ixor, 1) := by decide +kernel
theorem dX9_learn_37 : decode cX9_learn 37 = .ok (.iand, 1) := by decide +kernel
theorem dX9_learn_38 : decode cX9_learn 38 = .ok (.istore_n 3, 1) := by decide +kernel
theorem dX9_learn_39 : decode cX9_learn 39 = .ok (.aload_n 0, 1) := by decide +kernel
theorem dX9_learn_40 : decode cX9_learn 40 = .ok (.getfield 16, 3) := by decide +kernel
theorem dX9_learn_43 : decode cX9_learn 43 = .ok (.bipush 16, 2) := by decide +kernel
theorem dX9_learn_45 : decode cX9_learn 45 = .ok (.iload_n 1, 1) := by decide +kernel
theorem dX9_learn_46 : decode cX9_learn 46 = .ok (.imul, 1) := by decide +kernel
theorem dX9_learn_47 : decode cX9_learn 47 = .ok (.iload_n 2, 1) := by decide +kernel
theorem dX9_learn_48 : decode cX9_learn 48 = .ok (.iadd, 1) := by decide +kernel
theorem dX9_learn_49 : decode cX9_learn 49 = .ok (.iaload, 1) := by decide +kernel
theorem dX9_learn_50 : decode cX9_learn 50 = .ok (.istore 4, 2) := by decide +kernel
theorem dX9_learn_52 : decode cX9_learn 52 = .ok (.iload 4, 2) := by decide +kernel
theorem dX9_learn_54 : decode cX9_learn 54 = .ok (.iconst (-1), 1) := by decide +kernel
theorem dX9_learn_55 : decode cX9_learn 55 = .ok (.if_icmp .eq 11, 3) := by decide +kernel
theorem dX9_learn_58 : decode cX9_learn 58 = .ok (.iload 4, 2) := by decide +kernel
theorem dX9_learn_60 : decode cX9_learn 60 = .ok (.iload_n 3, 1) := by decide +kernel
theorem dX9_learn_61 : decode cX9_learn 61 = .ok (.if_icmp .eq 5, 3) := by decide +kernel
theorem dX9_learn_64 : decode cX9_learn 64 = .ok (.iconst (-1), 1) := by decide +kernel
theorem dX9_learn_65 : decode cX9_learn 65 = .ok (.ireturn, 1) := by decide +kernel
theorem dX9_learn_66 : decode cX9_learn 66 = .ok (.aload_n 0, 1) := by decide +kernel
theorem dX9_learn_67 : decode cX9_learn 67 = .ok (.getfield 16, 3) := by decide +kernel
theorem dX9_learn_70 : decode cX9_learn 70 = .ok (.bipush 16, 2) := by decide +kernel
theorem dX9_learn_72 : decode cX9_learn 72 = .ok (.iload_n 1, 1) := by decide +kernel
theorem dX9_learn_73 : decode cX9_learn 73 = .ok (.imul, 1) := by decide +kernel
theorem dX9_learn_74 : decode cX9_learn 74 = .ok (.iload_n 2, 1) := by decide +kernel
theorem dX9_learn_75 : decode cX9_learn 75 = .ok (.iadd, 1) := by decide +kernel
theorem dX9_learn_76 : decode cX9_learn 76 = .ok (.iload_n 3, 1) := by decide +kernel
theorem dX9_learn_77 : decode cX9_learn 77 = .ok (.iastore, 1) := by decide +kernel
theorem dX9_learn_78 : decode cX9_learn 78 = .ok (.iload_n 3, 1) := by decide +kernel
theorem dX9_learn_79 : decode cX9_learn 79 = .ok (.ireturn, 1) := by decide +kernel
set_option maxRecDepth 20000 in
theorem ggX9_forget_X9_isKey : GoodIn wsX9_forget wsX9_isKey := goodIn_r _ [7, 8, 9, 10, 6, 11, 12, 13, 14, 15, 16, 17, 18, 19, 20, 21, 22, 23, 24, 25, 26, 27, 28, 29, 30, 31, 32] rfl (by decide +kernel)
set_option maxRecDepth 20000 in
theorem gX9_forget_X9_isKey : GoodIn wsX9_forget (wsV RX9 111 RX9 yX9_isKey wsX9_isKey) := goodIn_app (goodIn_of _ (by decide +kernel)) ggX9_forget_X9_isKey
theorem dX9_forget_0 : decode cX9_forget 0 = .ok (.aload_n 0, 1) := by decide +kernel
theorem dX9_forget_1 : decode cX9_forget 1 = .ok (.iconst 0, 1) := by decide +kernel
theorem dX9_forget_2 : decode cX9_forget 2 = .ok (.putfield 43, 3) := by decide +kernel
theorem dX9_forget_5 : decode cX9_forget 5 = .ok (.aload_n 0, 1) := by decide +kernel
theorem dX9_forget_6 : decode cX9_forget 6 = .ok (.iload_n 1, 1) := by decide +kernel
theorem dX9_forget_7 : decode cX9_forget 7 = .ok (.iload_n 2, 1) := by decide +kernel
theorem dX9_forget_8 : decode cX9_forget 8 = .ok (.invokevirtual 111, 3) := by decide +kernel
theorem dX9_forget_11 : decode cX9_forget 11 = .ok (.ifCond .eq 18, 3) := by decide +kernel
theorem dX9_forget_14 : decode cX9_forget 14 = .ok (.aload_n 0, 1) := by decide +kernel
theorem dX9_forget_15 : decode cX9_forget 15 = .ok (.getfield 16, 3) := by decide +kernel
theorem dX9_forget_18 : decode cX9_forget 18 = .ok (.bipush 16, 2) := by decide +kernel
theorem dX9_forget_20 : decode cX9_forget 20 = .ok (.iload_n 1, 1) := by decide +kernel
theorem dX9_forget_21 : decode cX9_forget 21 = .ok (.imul, 1) := by decide +kernel
theorem dX9_forget_22 : decode cX9_forget 22 = .ok (.iload_n 2, 1) := by decide +kernel
theorem dX9_forget_23 : decode cX9_forget 23 = .ok (.iadd, 1) := by decide +kernel
theorem dX9_forget_24 : decode cX9_forget 24 = .ok (.iaload, 1) := by decide +kernel
theorem dX9_forget_25 : decode cX9_forget 25 = .ok (.iconst (-1), 1) := by decide +kernel
theorem dX9_forget_26 : decode cX9_forget 26 = .ok (.if_icmp .ne 5, 3) := by decide +kernel
theorem dX9_forget_29 : decode cX9_forget 29 = .ok (.iconst 0, 1) := by decide +kernel
theorem dX9_forget_30 : decode cX9_forget 30 = .ok (.ireturn, 1) := by decide +kernel
theorem dX9_forget_31 : decode cX9_forget 31 = .ok (.aload_n 0, 1) := by decide +kernel
theorem dX9_forget_32 : decode cX9_forget 32 = .ok (.getfield 16, 3) := by decide +kernel
theorem dX9_forget_35 : decode cX9_forget 35 = .ok (.bipush 16, 2) := by decide +kernel
theorem dX9_forget_37 : decode cX9_forget 37 = .ok (.iload_n 1, 1) := by decide +kernel
theorem dX9_forget_38 : decode cX9_forget 38 = .ok (.imul, 1) := by decide +kernel
theorem dX9_forget_39 : decode cX9_forget 39 = .ok (.iload_n 2, 1) := by decide +kernel
theorem dX9_forget_40 : decode cX9_forget 40 = .ok (.iadd, 1) := by decide +kernel
theorem dX9_forget_41 : decode cX9_forget 41 = .ok (.iconst (-1), 1) := by decide +kernel
theorem dX9_forget_42 : decode cX9_forget 42 = .ok (.iastore, 1) := by decide +kernel
theorem dX9_forget_43 : decode cX9_forget 43 = .ok (.iconst 1, 1) := by decide +kernel
theorem dX9_forget_44 : decode cX9_forget 44 = .ok (.ireturn, 1) := by decide +kernel
set_option maxRecDepth 20000 in
theorem ggX9_key_X9_isKey : GoodIn wsX9_key wsX9_isKey := goodIn_r _ [7, 8, 9, 10, 6, 11, 12, 13, 14, 15, 16, 17, 18, 19, 20, 21, 22, 23, 24, 25, 26, 27, 28, 29, 30, 31, 32] rfl (by decide +kernel)
set_option maxRecDepth 20000 in
theorem gX9_key_X9_isKey : GoodIn wsX9_key (wsV RX9 111 RX9 yX9_isKey wsX9_isKey) := goodIn_app (goodIn_of _ (by decide +kernel)) ggX9_key_X9_isKey
theorem dX9_key_0 : decode cX9_key 0 = .ok (.aload_n 0, 1) := by decide +kernel
theorem dX9_key_1 : decode cX9_key 1 = .ok (.iconst 0, 1) := by decide +kernel
theorem dX9_key_2 : decode cX9_key 2 = .ok (.putfield 43, 3) := by decide +kernel
theorem dX9_key_5 : decode cX9_key 5 = .ok (.aload_n 0, 1) := by decide +kernel
theorem dX9_key_6 : decode cX9_key 6 = .ok (.iload_n 1, 1) := by decide +kernel
theorem dX9_key_7 : decode cX9_key 7 = .ok (.iload_n 2, 1) := by decide +kernel
theorem dX9_key_8 : decode cX9_key 8 = .ok (.invokevirtual 111, 3) := by decide +kernel
theorem dX9_key_11 : decode cX9_key 11 = .ok (.ifCond .eq 17, 3) := by decide +kernel
theorem dX9_key_14 : decode cX9_key 14 = .ok (.aload_n 0, 1) := by decide +kernel
theorem dX9_key_15 : decode cX9_key 15 = .ok (.getfield 16, 3) := by decide +kernel
theorem dX9_key_18 : decode cX9_key 18 = .ok (.bipush 16, 2) := by decide +kernel
theorem dX9_key_20 : decode cX9_key 20 = .ok (.iload_n 1, 1) := by decide +kernel
theorem dX9_key_21 : decode cX9_key 21 = .ok (.imul, 1) := by decide +kernel
theorem dX9_key_22 : decode cX9_key 22 = .ok (.iload_n 2, 1) := by decide +kernel
theorem dX9_key_23 : decode cX9_key 23 = .ok (.iadd, 1) := by decide +kernel
theorem dX9_key_24 : decode cX9_key 24 = .ok (.iaload, 1) := by decide +kernel
theorem dX9_key_25 : decode cX9_key 25 = .ok (.goto 4, 3) := by decide +kernel
theorem dX9_key_28 : decode cX9_key 28 = .ok (.iconst (-1), 1) := by decide +kernel
theorem dX9_key_29 : decode cX9_key 29 = .ok (.ireturn, 1) := by decide +kernel
set_option maxRecDepth 20000 in
theorem ggX9_press_X9_isKey : GoodIn wsX9_press wsX9_isKey := goodIn_r _ [9, 10, 11, 12, 8, 13, 14, 15, 16, 17, 42, 43, 44, 45, 46, 47, 48, 49, 50, 51, 52, 53, 54, 55, 56, 57, 58] rfl (by decide +kernel)
set_option maxRecDepth 20000 in
theorem gX9_press_X9_isKey : GoodIn wsX9_press (wsV RX9 111 RX9 yX9_isKey wsX9_isKey) := goodIn_app (goodIn_of _ (by decide +kernel)) ggX9_press_X9_isKey
set_option maxRecDepth 20000 in
theorem ggX9_press_X9_get : GoodIn wsX9_press wsX9_get := goodIn_r _ [21, 3, 42, 43, 44, 45, 46, 47, 48, 49, 50, 51, 52, 53, 54, 55, 56, 57, 58] rfl (by decide +kernel)
set_option maxRecDepth 20000 in
theorem gX9_press_X9_get : GoodIn wsX9_press (wsV RX9 58 RX9 yX9_get wsX9_get) := goodIn_app (goodIn_of _ (by decide +kernel)) ggX9_press_X9_get
set_option maxRecDepth 20000 in
theorem ggX9_press_X9_flipOf : GoodIn wsX9_press wsX9_flipOf := goodIn_r _ [25, 18, 19, 20, 8, 21, 3, 42, 43, 44, 45, 46, 47, 48, 49, 50, 51, 52, 53, 54, 55, 56, 57, 58] rfl (by decide +kernel)
set_option maxRecDepth 20000 in
theorem gX9_press_X9_flipOf : GoodIn wsX9_press (wsV RX9 115 RX9 yX9_flipOf wsX9_flipOf) := goodIn_app (goodIn_of _ (by decide +kernel)) ggX9_press_X9_flipOf
set_option maxRecDepth 20000 in
theorem ggX9_press_X9_flash : GoodIn wsX9_press wsX9_flash := goodIn_r _ [29, 4, 18, 19, 20, 8, 21, 3, 30, 31, 32, 33, 34, 35, 36, 37, 38, 39, 40, 41, 42, 43, 44, 45, 46, 47, 48, 49, 50, 51, 52, 53, 54, 55, 56, 57, 58] rfl (by decide +kernel)
set_option maxRecDepth 20000 in
theorem gX9_press_X9_flash : GoodIn wsX9_press (wsV RX9 76 RX9 yX9_flash wsX9_flash) := goodIn_app (goodIn_of _ (by decide +kernel)) ggX9_press_X9_flash
theorem dX9_press_0 : decode cX9_press 0 = .ok (.aload_n 0, 1) := by decide +kernel
theorem dX9_press_1 : decode cX9_press 1 = .ok (.iconst 0, 1) := by decide +kernel
theorem dX9_press_2 : decode cX9_press 2 = .ok (.putfield 43, 3) := by decide +kernel
theorem dX9_press_5 : decode cX9_press 5 = .ok (.aload_n 0, 1) := by decide +kernel
theorem dX9_press_6 : decode cX9_press 6 = .ok (.iload_n 1, 1) := by decide +kernel
theorem dX9_press_7 : decode cX9_press 7 = .ok (.iload_n 2, 1) := by decide +kernel
theorem dX9_press_8 : decode cX9_press 8 = .ok (.invokevirtual 111, 3) := by decide +kernel
theorem dX9_press_11 : decode cX9_press 11 = .ok (.ifCond .eq 18, 3) := by decide +kernel
theorem dX9_press_14 : decode cX9_press 14 = .ok (.aload_n 0, 1) := by decide +kernel
theorem dX9_press_15 : decode cX9_press 15 = .ok (.getfield 16, 3) := by decide +kernel
theorem dX9_press_18 : decode cX9_press 18 = .ok (.bipush 16, 2) := by decide +kernel
theorem dX9_press_20 : decode cX9_press 20 = .ok (.iload_n 1, 1) := by decide +kernel
theorem dX9_press_21 : decode cX9_press 21 = .ok (.imul, 1) := by decide +kernel
theorem dX9_press_22 : decode cX9_press 22 = .ok (.iload_n 2, 1) := by decide +kernel
theorem dX9_press_23 : decode cX9_press 23 = .ok (.iadd, 1) := by decide +kernel
theorem dX9_press_24 : decode cX9_press 24 = .ok (.iaload, 1) := by decide +kernel
theorem dX9_press_25 : decode cX9_press 25 = .ok (.iconst (-1), 1) := by decide +kernel
theorem dX9_press_26 : decode cX9_press 26 = .ok (.if_icmp .ne 5, 3) := by decide +kernel
theorem dX9_press_29 : decode cX9_press 29 = .ok (.iconst (-1), 1) := by decide +kernel
theorem dX9_press_30 : decode cX9_press 30 = .ok (.ireturn, 1) := by decide +kernel
theorem dX9_press_31 : decode cX9_press 31 = .ok (.aload_n 0, 1) := by decide +kernel
theorem dX9_press_32 : decode cX9_press 32 = .ok (.iload_n 1, 1) := by decide +kernel
theorem dX9_press_33 : decode cX9_press 33 = .ok (.aload_n 0, 1) := by decide +kernel
theorem dX9_press_34 : decode cX9_press 34 = .ok (.getfield 16, 3) := by decide +kernel
theorem dX9_press_37 : decode cX9_press 37 = .ok (.bipush 16, 2) := by decide +kernel
theorem dX9_press_39 : decode cX9_press 39 = .ok (.iload_n 1, 1) := by decide +kernel
theorem dX9_press_40 : decode cX9_press 40 = .ok (.imul, 1) := by decide +kernel
theorem dX9_press_41 : decode cX9_press 41 = .ok (.iload_n 2, 1) := by decide +kernel
theorem dX9_press_42 : decode cX9_press 42 = .ok (.iadd, 1) := by decide +kernel
theorem dX9_press_43 : decode cX9_press 43 = .ok (.iaload, 1) := by decide +kernel
theorem dX9_press_44 : decode cX9_press 44 = .ok (.aload_n 0, 1) := by decide +kernel
theorem dX9_press_45 : decode cX9_press 45 = .ok (.iload_n 1, 1) := by decide +kernel
theorem dX9_press_46 : decode cX9_press 46 = .ok (.bipush 9, 2) := by decide +kernel
theorem dX9_press_48 : decode cX9_press 48 = .ok (.invokevirtual 58, 3) := by decide +kernel
theorem dX9_press_51 : decode cX9_press 51 = .ok (.iconst 1, 1) := by decide +kernel
theorem dX9_press_52 : decode cX9_press 52 = .ok (.if_icmp .ne 11, 3) := by decide +kernel
theorem dX9_press_55 : decode cX9_press 55 = .ok (.aload_n 0, 1) := by decide +kernel
theorem dX9_press_56 : decode cX9_press 56 = .ok (.iload_n 1, 1) := by decide +kernel
theorem dX9_press_57 : decode cX9_press 57 = .ok (.invokevirtual 115, 3) := by decide +kernel
theorem dX9_press_60 : decode cX9_press 60 = .ok (.goto 4, 3) := by decide +kernel
theorem dX9_press_63 : decode cX9_press 63 = .ok (.iconst 0, 1) := by decide +kernel
theorem dX9_press_64 : decode cX9_press 64 = .ok (.ior, 1) := by decide +kernel
theorem dX9_press_65 : decode cX9_press 65 = .ok (.invokevirtual 76, 3) := by decide +kernel
theorem dX9_press_68 : decode cX9_press 68 = .ok (.aload_n 0, 1) := by decide +kernel
theorem dX9_press_69 : decode cX9_press 69 = .ok (.iload_n 1, 1) := by decide +kernel
theorem dX9_press_70 : decode cX9_press 70 = .ok (.bipush 8, 2) := by decide +kernel
theorem dX9_press_72 : decode cX9_press 72 = .ok (.invokevirtual 58, 3) := by decide +kernel
theorem dX9_press_75 : decode cX9_press 75 = .ok (.iconst (-1), 1) := by decide +kernel
theorem dX9_press_76 : decode cX9_press 76 = .ok (.if_icmp .eq 24, 3) := by decide +kernel
theorem dX9_press_79 : decode cX9_press 79 = .ok (.aload_n 0, 1) := by decide +kernel
theorem dX9_press_80 : decode cX9_press 80 = .ok (.getfield 13, 3) := by decide +kernel
theorem dX9_press_83 : decode cX9_press 83 = .ok (.bipush 10, 2) := by decide +kernel
theorem dX9_press_85 : decode cX9_press 85 = .ok (.iload_n 1, 1) := by decide +kernel
theorem dX9_press_86 : decode cX9_press 86 = .ok (.imul, 1) := by decide +kernel
theorem dX9_press_87 : decode cX9_press 87 = .ok (.bipush 9, 2) := by decide +kernel
theorem dX9_press_89 : decode cX9_press 89 = .ok (.iadd, 1) := by decide +kernel
theorem dX9_press_90 : decode cX9_press 90 = .ok (.iconst 1, 1) := by decide +kernel
theorem dX9_press_91 : decode cX9_press 91 = .ok (.aload_n 0, 1) := by decide +kernel
theorem dX9_press_92 : decode cX9_press 92 = .ok (.iload_n 1, 1) := by decide +kernel
theorem dX9_press_93 : decode cX9_press 93 = .ok (.bipush 9, 2) := by decide +kernel
theorem dX9_press_95 : decode cX9_press 95 = .ok (.invokevirtual 58, 3) := by decide +kernel
theorem dX9_press_98 : decode cX9_press 98 = .ok (.isub, 1) := by decide +kernel
theorem dX9_press_99 : decode cX9_press 99 = .ok (.iastore, 1) := by decide +kernel
theorem dX9_press_100 : decode cX9_press 100 = .ok (.aload_n 0, 1) := by decide +kernel
theorem dX9_press_101 : decode cX9_press 101 = .ok (.getfield 62, 3) := by decide +kernel
theorem dX9_press_104 : decode cX9_press 104 = .ok (.ireturn, 1) := by decide +kernel
theorem dX9_learnt_0 : decode cX9_learnt 0 = .ok (.iconst 0, 1) := by decide +kernel
theorem dX9_learnt_1 : decode cX9_learnt 1 = .ok (.istore_n 2, 1) := by decide +kernel
theorem dX9_learnt_2 : decode cX9_learnt 2 = .ok (.iconst 0, 1) := by decide +kernel
theorem dX9_learnt_3 : decode cX9_learnt 3 = .ok (.istore_n 3, 1) := by decide +kernel
theorem dX9_learnt_4 : decode cX9_learnt 4 = .ok (.iload_n 3, 1) := by decide +kernel
theorem dX9_learnt_5 : decode cX9_learnt 5 = .ok (.bipush 16, 2) := by decide +kernel
theorem dX9_learnt_7 : decode cX9_learnt 7 = .ok (.if_icmp .ge 27, 3) := by decide +kernel
theorem dX9_learnt_10 : decode cX9_learnt 10 = .ok (.aload_n 0, 1) := by decide +kernel
theorem dX9_learnt_11 : decode cX9_learnt 11 = .ok (.getfield 16, 3) := by decide +kernel
theorem dX9_learnt_14 : decode cX9_learnt 14 = .ok (.bipush 16, 2) := by decide +kernel
theorem dX9_learnt_16 : decode cX9_learnt 16 = .ok (.iload_n 1, 1) := by decide +kernel
theorem dX9_learnt_17 : decode cX9_learnt 17 = .ok (.imul, 1) := by decide +kernel
theorem dX9_learnt_18 : decode cX9_learnt 18 = .ok (.iload_n 3, 1) := by decide +kernel
theorem dX9_learnt_19 : decode cX9_learnt 19 = .ok (.iadd, 1) := by decide +kernel
theorem dX9_learnt_20 : decode cX9_learnt 20 = .ok (.iaload, 1) := by decide +kernel
theorem dX9_learnt_21 : decode cX9_learnt 21 = .ok (.iconst (-1), 1) := by decide +kernel
theorem dX9_learnt_22 : decode cX9_learnt 22 = .ok (.if_icmp .eq 6, 3) := by decide +kernel
theorem dX9_learnt_25 : decode cX9_learnt 25 = .ok (.iinc 2 1, 3) := by decide +kernel
theorem dX9_learnt_28 : decode cX9_learnt 28 = .ok (.iinc 3 1, 3) := by decide +kernel
theorem dX9_learnt_31 : decode cX9_learnt 31 = .ok (.goto (-27), 3) := by decide +kernel
theorem dX9_learnt_34 : decode cX9_learnt 34 = .ok (.iload_n 2, 1) := by decide +kernel
theorem dX9_learnt_35 : decode cX9_learnt 35 = .ok (.ireturn, 1) := by decide +kernel
theorem dX9_some_0 : decode cX9_some 0 = .ok (.iconst (-1), 1) := by decide +kernel
theorem dX9_some_1 : decode cX9_some 1 = .ok (.istore_n 2, 1) := by decide +kernel
theorem dX9_some_2 : decode cX9_some 2 = .ok (.iconst 0, 1) := by decide +kernel
theorem dX9_some_3 : decode cX9_some 3 = .ok (.istore_n 3, 1) := by decide +kernel
theorem dX9_some_4 : decode cX9_some 4 = .ok (.iload_n 3, 1) := by decide +kernel
theorem dX9_some_5 : decode cX9_some 5 = .ok (.bipush 16, 2) := by decide +kernel
theorem dX9_some_7 : decode cX9_some 7 = .ok (.if_icmp .ge 36, 3) := by decide +kernel
theorem dX9_some_10 : decode cX9_some 10 = .ok (.aload_n 0, 1) := by decide +kernel
theorem dX9_some_11 : decode cX9_some 11 = .ok (.getfield 16, 3) := by decide +kernel
theorem dX9_some_14 : decode cX9_some 14 = .ok (.bipush 16, 2) := by decide +kernel
theorem dX9_some_16 : decode cX9_some 16 = .ok (.iload_n 1, 1) := by decide +kernel
theorem dX9_some_17 : decode cX9_some 17 = .ok (.imul, 1) := by decide +kernel
theorem dX9_some_18 : decode cX9_some 18 = .ok (.iload_n 3, 1) := by decide +kernel
theorem dX9_some_19 : decode cX9_some 19 = .ok (.iadd, 1) := by decide +kernel
theorem dX9_some_20 : decode cX9_some 20 = .ok (.iaload, 1) := by decide +kernel
theorem dX9_some_21 : decode cX9_some 21 = .ok (.iconst (-1), 1) := by decide +kernel
theorem dX9_some_22 : decode cX9_some 22 = .ok (.if_icmp .eq 15, 3) := by decide +kernel
theorem dX9_some_25 : decode cX9_some 25 = .ok (.aload_n 0, 1) := by decide +kernel
theorem dX9_some_26 : decode cX9_some 26 = .ok (.getfield 16, 3) := by decide +kernel
theorem dX9_some_29 : decode cX9_some 29 = .ok (.bipush 16, 2) := by decide +kernel
theorem dX9_some_31 : decode cX9_some 31 = .ok (.iload_n 1, 1) := by decide +kernel
theorem dX9_some_32 : decode cX9_some 32 = .ok (.imul, 1) := by decide +kernel
theorem dX9_some_33 : decode cX9_some 33 = .ok (.iload_n 3, 1) := by decide +kernel
theorem dX9_some_34 : decode cX9_some 34 = .ok (.iadd, 1) := by decide +kernel
theorem dX9_some_35 : decode cX9_some 35 = .ok (.iaload, 1) := by decide +kernel
theorem dX9_some_36 : decode cX9_some 36 = .ok (.istore_n 2, 1) := by decide +kernel
theorem dX9_some_37 : decode cX9_some 37 = .ok (.iinc 3 1, 3) := by decide +kernel
theorem dX9_some_40 : decode cX9_some 40 = .ok (.goto (-36), 3) := by decide +kernel
theorem dX9_some_43 : decode cX9_some 43 = .ok (.iload_n 2, 1) := by decide +kernel
theorem dX9_some_44 : decode cX9_some 44 = .ok (.ireturn, 1) := by decide +kernel
set_option maxRecDepth 20000 in
theorem ggX9_fixed_X9_learnt : GoodIn wsX9_fixed wsX9_learnt := goodIn_r _ [6, 1, 20, 21, 22, 23, 24, 25, 26, 27, 28, 29, 30, 31, 32, 33, 34, 35, 36] rfl (by decide +kernel)
set_option maxRecDepth 20000 in
theorem gX9_fixed_X9_learnt : GoodIn wsX9_fixed (wsV RX9 118 RX9 yX9_learnt wsX9_learnt) := goodIn_app (goodIn_of _ (by decide +kernel)) ggX9_fixed_X9_learnt
set_option maxRecDepth 20000 in
theorem ggX9_fixed_X9_get : GoodIn wsX9_fixed wsX9_get := goodIn_r _ [10, 11, 20, 21, 22, 23, 24, 25, 26, 27, 28, 29, 30, 31, 32, 33, 34, 35, 36] rfl (by decide +kernel)
set_option maxRecDepth 20000 in
theorem gX9_fixed_X9_get : GoodIn wsX9_fixed (wsV RX9 58 RX9 yX9_get wsX9_get) := goodIn_app (goodIn_of _ (by decide +kernel)) ggX9_fixed_X9_get
set_option maxRecDepth 20000 in
theorem ggX9_fixed_X9_flipOf : GoodIn wsX9_fixed wsX9_flipOf := goodIn_r _ [15, 7, 8, 9, 5, 10, 11, 20, 21, 22, 23, 24, 25, 26, 27, 28, 29, 30, 31, 32, 33, 34, 35, 36] rfl (by decide +kernel)
set_option maxRecDepth 20000 in
theorem gX9_fixed_X9_flipOf : GoodIn wsX9_fixed (wsV RX9 115 RX9 yX9_flipOf wsX9_flipOf) := goodIn_app (goodIn_of _ (by decide +kernel)) ggX9_fixed_X9_flipOf
set_option maxRecDepth 20000 in
theorem ggX9_fixed_X9_some : GoodIn wsX9_fixed wsX9_some := goodIn_r _ [19, 1, 20, 21, 22, 23, 24, 25, 26, 27, 28, 29, 30, 31, 32, 33, 34, 35, 36] rfl (by decide +kernel)
set_option maxRecDepth 20000 in
theorem gX9_fixed_X9_some : GoodIn wsX9_fixed (wsV RX9 121 RX9 yX9_some wsX9_some) := goodIn_app (goodIn_of _ (by decide +kernel)) ggX9_fixed_X9_some
theorem dX9_fixed_0 : decode cX9_fixed 0 = .ok (.aload_n 0, 1) := by decide +kernel
theorem dX9_fixed_1 : decode cX9_fixed 1 = .ok (.iload_n 1, 1) := by decide +kernel
theorem dX9_fixed_2 : decode cX9_fixed 2 = .ok (.invokevirtual 118, 3) := by decide +kernel
theorem dX9_fixed_5 : decode cX9_fixed 5 = .ok (.ifCond .ne 7, 3) := by decide +kernel
theorem dX9_fixed_8 : decode cX9_fixed 8 = .ok (.iconst 0, 1) := by decide +kernel
theorem dX9_fixed_9 : decode cX9_fixed 9 = .ok (.goto 21, 3) := by decide +kernel
theorem dX9_fixed_12 : decode cX9_fixed 12 = .ok (.iconst 1, 1) := by decide +kernel
theorem dX9_fixed_13 : decode cX9_fixed 13 = .ok (.aload_n 0, 1) := by decide +kernel
theorem dX9_fixed_14 : decode cX9_fixed 14 = .ok (.iload_n 1, 1) := by decide +kernel
theorem dX9_fixed_15 : decode cX9_fixed 15 = .ok (.iconst 1, 1) := by decide +kernel
theorem dX9_fixed_16 : decode cX9_fixed 16 = .ok (.invokevirtual 58, 3) := by decide +kernel
theorem dX9_fixed_19 : decode cX9_fixed 19 = .ok (.ishl, 1) := by decide +kernel
theorem dX9_fixed_20 : decode cX9_fixed 20 = .ok (.iconst 1, 1) := by decide +kernel
theorem dX9_fixed_21 : decode cX9_fixed 21 = .ok (.isub, 1) := by decide +kernel
theorem dX9_fixed_22 : decode cX9_fixed 22 = .ok (.aload_n 0, 1) := by decide +kernel
theorem dX9_fixed_23 : decode cX9_fixed 23 = .ok (.iload_n 1, 1) := by decide +kernel
theorem dX9_fixed_24 : decode cX9_fixed 24 = .ok (.invokevirtual 115, 3) := by decide +kernel
theorem dX9_fixed_27 : decode cX9_fixed 27 = .ok (.iconst (-1), 1) := by decide +kernel
theorem dX9_fixed_28 : decode cX9_fixed 28 = .ok (.ixor, 1) := by decide +kernel
theorem dX9_fixed_29 : decode cX9_fixed 29 = .ok (.iand, 1) := by decide +kernel
theorem dX9_fixed_30 : decode cX9_fixed 30 = .ok (.istore_n 2, 1) := by decide +kernel
theorem dX9_fixed_31 : decode cX9_fixed 31 = .ok (.iconst 0, 1) := by decide +kernel
theorem dX9_fixed_32 : decode cX9_fixed 32 = .ok (.istore_n 3, 1) := by decide +kernel
theorem dX9_fixed_33 : decode cX9_fixed 33 = .ok (.iload_n 3, 1) := by decide +kernel
theorem dX9_fixed_34 : decode cX9_fixed 34 = .ok (.bipush 16, 2) := by decide +kernel
theorem dX9_fixed_36 : decode cX9_fixed 36 = .ok (.if_icmp .ge 46, 3) := by decide +kernel
theorem dX9_fixed_39 : decode cX9_fixed 39 = .ok (.aload_n 0, 1) := by decide +kernel
theorem dX9_fixed_40 : decode cX9_fixed 40 = .ok (.getfield 16, 3) := by decide +kernel
theorem dX9_fixed_43 : decode cX9_fixed 43 = .ok (.bipush 16, 2) := by decide +kernel
theorem dX9_fixed_45 : decode cX9_fixed 45 = .ok (.iload_n 1, 1) := by decide +kernel
theorem dX9_fixed_46 : decode cX9_fixed 46 = .ok (.imul, 1) := by decide +kernel
theorem dX9_fixed_47 : decode cX9_fixed 47 = .ok (.iload_n 3, 1) := by decide +kernel
theorem dX9_fixed_48 : decode cX9_fixed 48 = .ok (.iadd, 1) := by decide +kernel
theorem dX9_fixed_49 : decode cX9_fixed 49 = .ok (.iaload, 1) := by decide +kernel
theorem dX9_fixed_50 : decode cX9_fixed 50 = .ok (.iconst (-1), 1) := by decide +kernel
theorem dX9_fixed_51 : decode cX9_fixed 51 = .ok (.if_icmp .eq 25, 3) := by decide +kernel
theorem dX9_fixed_54 : decode cX9_fixed 54 = .ok (.iload_n 2, 1) := by decide +kernel
theorem dX9_fixed_55 : decode cX9_fixed 55 = .ok (.aload_n 0, 1) := by decide +kernel
theorem dX9_fixed_56 : decode cX9_fixed 56 = .ok (.getfield 16, 3) := by decide +kernel
theorem dX9_fixed_59 : decode cX9_fixed 59 = .ok (.bipush 16, 2) := by decide +kernel
theorem dX9_fixed_61 : decode cX9_fixed 61 = .ok (.iload_n 1, 1) := by decide +kernel
theorem dX9_fixed_62 : decode cX9_fixed 62 = .ok (.imul, 1) := by decide +kernel
theorem dX9_fixed_63 : decode cX9_fixed 63 = .ok (.iload_n 3, 1) := by decide +kernel
theorem dX9_fixed_64 : decode cX9_fixed 64 = .ok (.iadd, 1) := by decide +kernel
theorem dX9_fixed_65 : decode cX9_fixed 65 = .ok (.iaload, 1) := by decide +kernel
theorem dX9_fixed_66 : decode cX9_fixed 66 = .ok (.aload_n 0, 1) := by decide +kernel
theorem dX9_fixed_67 : decode cX9_fixed 67 = .ok (.iload_n 1, 1) := by decide +kernel
theorem dX9_fixed_68 : decode cX9_fixed 68 = .ok (.invokevirtual 121, 3) := by decide +kernel
theorem dX9_fixed_71 : decode cX9_fixed 71 = .ok (.ixor, 1) := by decide +kernel
theorem dX9_fixed_72 : decode cX9_fixed 72 = .ok (.iconst (-1), 1) := by decide +kernel
theorem dX9_fixed_73 : decode cX9_fixed 73 = .ok (.ixor, 1) := by decide +kernel
theorem dX9_fixed_74 : decode cX9_fixed 74 = .ok (.iand, 1) := by decide +kernel
theorem dX9_fixed_75 : decode cX9_fixed 75 = .ok (.istore_n 2, 1) := by decide +kernel
theorem dX9_fixed_76 : decode cX9_fixed 76 = .ok (.iinc 3 1, 3) := by decide +kernel
theorem dX9_fixed_79 : decode cX9_fixed 79 = .ok (.goto (-46), 3) := by decide +kernel
theorem dX9_fixed_82 : decode cX9_fixed 82 = .ok (.iload_n 2, 1) := by decide +kernel
theorem dX9_fixed_83 : decode cX9_fixed 83 = .ok (.ireturn, 1) := by decide +kernel
set_option maxRecDepth 20000 in
theorem ggX9_of_X9_isMake : GoodIn wsX9_of wsX9_isMake := goodIn_r _ [6, 7, 8, 9, 5, 10, 33, 34, 35, 36, 37, 38, 39, 40, 41, 42, 43, 44, 45, 46, 47, 48, 49] rfl (by decide +kernel)
set_option maxRecDepth 20000 in
theorem gX9_of_X9_isMake : GoodIn wsX9_of (wsV RX9 54 RX9 yX9_isMake wsX9_isMake) := goodIn_app (goodIn_of _ (by decide +kernel)) ggX9_of_X9_isMake
set_option maxRecDepth 20000 in
theorem ggX9_of_X9_get : GoodIn wsX9_of wsX9_get := goodIn_r _ [14, 15, 33, 34, 35, 36, 37, 38, 39, 40, 41, 42, 43, 44, 45, 46, 47, 48, 49] rfl (by decide +kernel)
set_option maxRecDepth 20000 in
theorem gX9_of_X9_get : GoodIn wsX9_of (wsV RX9 58 RX9 yX9_get wsX9_get) := goodIn_app (goodIn_of _ (by decide +kernel)) ggX9_of_X9_get
set_option maxRecDepth 20000 in
theorem ggX9_of_X9_learnt : GoodIn wsX9_of wsX9_learnt := goodIn_r _ [19, 20, 33, 34, 35, 36, 37, 38, 39, 40, 41, 42, 43, 44, 45, 46, 47, 48, 49] rfl (by decide +kernel)
set_option maxRecDepth 20000 in
theorem gX9_of_X9_learnt : GoodIn wsX9_of (wsV RX9 118 RX9 yX9_learnt wsX9_learnt) := goodIn_app (goodIn_of _ (by decide +kernel)) ggX9_of_X9_learnt
set_option maxRecDepth 20000 in
theorem ggX9_of_X9_fixed : GoodIn wsX9_of wsX9_fixed := goodIn_r _ [24, 20, 16, 17, 18, 5, 19, 11, 12, 13, 14, 15, 25, 26, 27, 28, 29, 30, 31, 32, 33, 34, 35, 36, 37, 38, 39, 40, 41, 42, 43, 44, 45, 46, 47, 48, 49] rfl (by decide +kernel)
set_option maxRecDepth 20000 in
theorem gX9_of_X9_fixed : GoodIn wsX9_of (wsV RX9 124 RX9 yX9_fixed wsX9_fixed) := goodIn_app (goodIn_of _ (by decide +kernel)) ggX9_of_X9_fixed
theorem dX9_of_0 : decode cX9_of 0 = .ok (.aload_n 0, 1) := by decide +kernel
theorem dX9_of_1 : decode cX9_of 1 = .ok (.iconst 0, 1) := by decide +kernel
theorem dX9_of_2 : decode cX9_of 2 = .ok (.putfield 43, 3) := by decide +kernel
theorem dX9_of_5 : decode cX9_of 5 = .ok (.aload_n 0, 1) := by decide +kernel
theorem dX9_of_6 : decode cX9_of 6 = .ok (.iload_n 1, 1) := by decide +kernel
theorem dX9_of_7 : decode cX9_of 7 = .ok (.invokevirtual 54, 3) := by decide +kernel
theorem dX9_of_10 : decode cX9_of 10 = .ok (.ifCond .ne 5, 3) := by decide +kernel
theorem dX9_of_13 : decode cX9_of 13 = .ok (.iconst (-1), 1) := by decide +kernel
theorem dX9_of_14 : decode cX9_of 14 = .ok (.ireturn, 1) := by decide +kernel
theorem dX9_of_15 : decode cX9_of 15 = .ok (.iload_n 2, 1) := by decide +kernel
theorem dX9_of_16 : decode cX9_of 16 = .ok (.tableswitch 94 0 6 #[44, 51, 58, 66, 74, 80, 86], 44) := by decide +kernel
theorem dX9_of_60 : decode cX9_of 60 = .ok (.aload_n 0, 1) := by decide +kernel
theorem dX9_of_61 : decode cX9_of 61 = .ok (.iload_n 1, 1) := by decide +kernel
theorem dX9_of_62 : decode cX9_of 62 = .ok (.iconst 0, 1) := by decide +kernel
theorem dX9_of_63 : decode cX9_of 63 = .ok (.invokevirtual 58, 3) := by decide +kernel
theorem dX9_of_66 : decode cX9_of 66 = .ok (.ireturn, 1) := by decide +kernel
theorem dX9_of_67 : decode cX9_of 67 = .ok (.aload_n 0, 1) := by decide +kernel
theorem dX9_of_68 : decode cX9_of 68 = .ok (.iload_n 1, 1) := by decide +kernel
theorem dX9_of_69 : decode cX9_of 69 = .ok (.iconst 1, 1) := by decide +kernel
theorem dX9_of_70 : decode cX9_of 70 = .ok (.invokevirtual 58, 3) := by decide +kernel
theorem dX9_of_73 : decode cX9_of 73 = .ok (.ireturn, 1) := by decide +kernel
theorem dX9_of_74 : decode cX9_of 74 = .ok (.aload_n 0, 1) := by decide +kernel
theorem dX9_of_75 : decode cX9_of 75 = .ok (.iload_n 1, 1) := by decide +kernel
theorem dX9_of_76 : decode cX9_of 76 = .ok (.bipush 7, 2) := by decide +kernel
theorem dX9_of_78 : decode cX9_of 78 = .ok (.invokevirtual 58, 3) := by decide +kernel
theorem dX9_of_81 : decode cX9_of 81 = .ok (.ireturn, 1) := by decide +kernel
theorem dX9_of_82 : decode cX9_of 82 = .ok (.aload_n 0, 1) := by decide +kernel
theorem dX9_of_83 : decode cX9_of 83 = .ok (.iload_n 1, 1) := by decide +kernel
theorem dX9_of_84 : decode cX9_of 84 = .ok (.bipush 8, 2) := by decide +kernel
theorem dX9_of_86 : decode cX9_of 86 = .ok (.invokevirtual 58, 3) := by decide +kernel
theorem dX9_of_89 : decode cX9_of 89 = .ok (.ireturn, 1) := by decide +kernel
theorem dX9_of_90 : decode cX9_of 90 = .ok (.aload_n 0, 1) := by decide +kernel
theorem dX9_of_91 : decode cX9_of 91 = .ok (.iload_n 1, 1) := by decide +kernel
theorem dX9_of_92 : decode cX9_of 92 = .ok (.invokevirtual 118, 3) := by decide +kernel
theorem dX9_of_95 : decode cX9_of 95 = .ok (.ireturn, 1) := by decide +kernel
theorem dX9_of_96 : decode cX9_of 96 = .ok (.aload_n 0, 1) := by decide +kernel
theorem dX9_of_97 : decode cX9_of 97 = .ok (.iload_n 1, 1) := by decide +kernel
theorem dX9_of_98 : decode cX9_of 98 = .ok (.invokevirtual 124, 3) := by decide +kernel
theorem dX9_of_101 : decode cX9_of 101 = .ok (.ireturn, 1) := by decide +kernel
theorem dX9_of_102 : decode cX9_of 102 = .ok (.aload_n 0, 1) := by decide +kernel
theorem dX9_of_103 : decode cX9_of 103 = .ok (.iload_n 1, 1) := by decide +kernel
theorem dX9_of_104 : decode cX9_of 104 = .ok (.bipush 9, 2) := by decide +kernel
theorem dX9_of_106 : decode cX9_of 106 = .ok (.invokevirtual 58, 3) := by decide +kernel
theorem dX9_of_109 : decode cX9_of 109 = .ok (.ireturn, 1) := by decide +kernel
theorem dX9_of_110 : decode cX9_of 110 = .ok (.iconst (-1), 1) := by decide +kernel
theorem dX9_of_111 : decode cX9_of 111 = .ok (.ireturn, 1) := by decide +kernel
theorem dX9_sumOf_0 : decode cX9_sumOf 0 = .ok (.iconst 0, 1) := by decide +kernel
theorem dX9_sumOf_1 : decode cX9_sumOf 1 = .ok (.istore_n 2, 1) := by decide +kernel
theorem dX9_sumOf_2 : decode cX9_sumOf 2 = .ok (.iload_n 0, 1) := by decide +kernel
theorem dX9_sumOf_3 : decode cX9_sumOf 3 = .ok (.iconst 4, 1) := by decide +kernel
theorem dX9_sumOf_4 : decode cX9_sumOf 4 = .ok (.ishr, 1) := by decide +kernel
theorem dX9_sumOf_5 : decode cX9_sumOf 5 = .ok (.istore_n 3, 1) := by decide +kernel
theorem dX9_sumOf_6 : decode cX9_sumOf 6 = .ok (.iload_n 3, 1) := by decide +kernel
theorem dX9_sumOf_7 : decode cX9_sumOf 7 = .ok (.ifCond .le 34, 3) := by decide +kernel
theorem dX9_sumOf_10 : decode cX9_sumOf 10 = .ok (.iload_n 1, 1) := by decide +kernel
theorem dX9_sumOf_11 : decode cX9_sumOf 11 = .ok (.iconst 1, 1) := by decide +kernel
theorem dX9_sumOf_12 : decode cX9_sumOf 12 = .ok (.if_icmp .ne 15, 3) := by decide +kernel
theorem dX9_sumOf_15 : decode cX9_sumOf 15 = .ok (.iload_n 2, 1) := by decide +kernel
theorem dX9_sumOf_16 : decode cX9_sumOf 16 = .ok (.iload_n 3, 1) := by decide +kernel
theorem dX9_sumOf_17 : decode cX9_sumOf 17 = .ok (.bipush 15, 2) := by decide +kernel
theorem dX9_sumOf_19 : decode cX9_sumOf 19 = .ok (.iand, 1) := by decide +kernel
theorem dX9_sumOf_20 : decode cX9_sumOf 20 = .ok (.iadd, 1) := by decide +kernel
theorem dX9_sumOf_21 : decode cX9_sumOf 21 = .ok (.bipush 15, 2) := by decide +kernel
theorem dX9_sumOf_23 : decode cX9_sumOf 23 = .ok (.iand, 1) := by decide +kernel
theorem dX9_sumOf_24 : decode cX9_sumOf 24 = .ok (.goto 9, 3) := by decide +kernel
theorem dX9_sumOf_27 : decode cX9_sumOf 27 = .ok (.iload_n 2, 1) := by decide +kernel
theorem dX9_sumOf_28 : decode cX9_sumOf 28 = .ok (.iload_n 3, 1) := by decide +kernel
theorem dX9_sumOf_29 : decode cX9_sumOf 29 = .ok (.bipush 15, 2) := by decide +kernel
theorem dX9_sumOf_31 : decode cX9_sumOf 31 = .ok (.iand, 1) := by decide +kernel
theorem dX9_sumOf_32 : decode cX9_sumOf 32 = .ok (.ixor, 1) := by decide +kernel
theorem dX9_sumOf_33 : decode cX9_sumOf 33 = .ok (.istore_n 2, 1) := by decide +kernel
theorem dX9_sumOf_34 : decode cX9_sumOf 34 = .ok (.iload_n 3, 1) := by decide +kernel
theorem dX9_sumOf_35 : decode cX9_sumOf 35 = .ok (.iconst 4, 1) := by decide +kernel
theorem dX9_sumOf_36 : decode cX9_sumOf 36 = .ok (.ishr, 1) := by decide +kernel
theorem dX9_sumOf_37 : decode cX9_sumOf 37 = .ok (.istore_n 3, 1) := by decide +kernel
theorem dX9_sumOf_38 : decode cX9_sumOf 38 = .ok (.goto (-32), 3) := by decide +kernel
theorem dX9_sumOf_41 : decode cX9_sumOf 41 = .ok (.iload_n 2, 1) := by decide +kernel
theorem dX9_sumOf_42 : decode cX9_sumOf 42 = .ok (.ireturn, 1) := by decide +kernel
set_option maxRecDepth 20000 in
theorem ggX9_numberOf_X9_get : GoodIn wsX9_numberOf wsX9_get := goodIn_r _ [5, 6, 10, 11, 12, 13, 14, 15, 16, 17, 18, 19, 20, 21, 22, 23, 24, 25, 26] rfl (by decide +kernel)
set_option maxRecDepth 20000 in
theorem gX9_numberOf_X9_get : GoodIn wsX9_numberOf (wsV RX9 58 RX9 yX9_get wsX9_get) := goodIn_app (goodIn_of _ (by decide +kernel)) ggX9_numberOf_X9_get
set_option maxRecDepth 20000 in
theorem ggX9_numberOf_X9_sumOf : GoodIn wsX9_numberOf wsX9_sumOf := goodIn_r _ [9] rfl (by decide +kernel)
set_option maxRecDepth 20000 in
theorem gX9_numberOf_X9_sumOf : GoodIn wsX9_numberOf (va_wsS RX9 127 yX9_sumOf wsX9_sumOf) := goodIn_app (goodIn_of _ (by decide +kernel)) ggX9_numberOf_X9_sumOf
theorem dX9_numberOf_0 : decode cX9_numberOf 0 = .ok (.aload_n 0, 1) := by decide +kernel
theorem dX9_numberOf_1 : decode cX9_numberOf 1 = .ok (.iload_n 1, 1) := by decide +kernel
theorem dX9_numberOf_2 : decode cX9_numberOf 2 = .ok (.iconst 1, 1) := by decide +kernel
theorem dX9_numberOf_3 : decode cX9_numberOf 3 = .ok (.invokevirtual 58, 3) := by decide +kernel
theorem dX9_numberOf_6 : decode cX9_numberOf 6 = .ok (.istore 4, 2) := by decide +kernel
theorem dX9_numberOf_8 : decode cX9_numberOf 8 = .ok (.iload 4, 2) := by decide +kernel
theorem dX9_numberOf_10 : decode cX9_numberOf 10 = .ok (.iconst 5, 1) := by decide +kernel
theorem dX9_numberOf_11 : decode cX9_numberOf 11 = .ok (.if_icmp .ge 5, 3) := by decide +kernel
theorem dX9_numberOf_14 : decode cX9_numberOf 14 = .ok (.iconst (-1), 1) := by decide +kernel
theorem dX9_numberOf_15 : decode cX9_numberOf 15 = .ok (.ireturn, 1) := by decide +kernel
theorem dX9_numberOf_16 : decode cX9_numberOf 16 = .ok (.iload_n 3, 1) := by decide +kernel
theorem dX9_numberOf_17 : decode cX9_numberOf 17 = .ok (.iconst 1, 1) := by decide +kernel
theorem dX9_numberOf_18 : decode cX9_numberOf 18 = .ok (.if_icmp .ne 17, 3) := by decide +kernel
theorem dX9_numberOf_21 : decode cX9_numberOf 21 = .ok (.iload_n 2, 1) := by decide +kernel
theorem dX9_numberOf_22 : decode cX9_numberOf 22 = .ok (.bipush 15, 2) := by decide +kernel
theorem dX9_numberOf_24 : decode cX9_numberOf 24 = .ok (.iand, 1) := by decide +kernel
theorem dX9_numberOf_25 : decode cX9_numberOf 25 = .ok (.iload_n 2, 1) := by decide +kernel
theorem dX9_numberOf_26 : decode cX9_numberOf 26 = .ok (.iconst 1, 1) := by decide +kernel
theorem dX9_numberOf_27 : decode cX9_numberOf 27 = .ok (.invokestatic 127, 3) := by decide +kernel
theorem dX9_numberOf_30 : decode cX9_numberOf 30 = .ok (.isub, 1) := by decide +kernel
theorem dX9_numberOf_31 : decode cX9_numberOf 31 = .ok (.bipush 15, 2) := by decide +kernel
theorem dX9_numberOf_33 : decode cX9_numberOf 33 = .ok (.iand, 1) := by decide +kernel
theorem dX9_numberOf_34 : decode cX9_numberOf 34 = .ok (.ireturn, 1) := by decide +kernel
theorem dX9_numberOf_35 : decode cX9_numberOf 35 = .ok (.iload_n 3, 1) := by decide +kernel
theorem dX9_numberOf_36 : decode cX9_numberOf 36 = .ok (.iconst 2, 1) := by decide +kernel
theorem dX9_numberOf_37 : decode cX9_numberOf 37 = .ok (.if_icmp .ne 14, 3) := by decide +kernel
theorem dX9_numberOf_40 : decode cX9_numberOf 40 = .ok (.iload_n 2, 1) := by decide +kernel
theorem dX9_numberOf_41 : decode cX9_numberOf 41 = .ok (.bipush 15, 2) := by decide +kernel
theorem dX9_numberOf_43 : decode cX9_numberOf 43 = .ok (.iand, 1) := by decide +kernel
theorem dX9_numberOf_44 : decode cX9_numberOf 44 = .ok (.iload_n 2, 1) := by decide +kernel
theorem dX9_numberOf_45 : decode cX9_numberOf 45 = .ok (.iconst 2, 1) := by decide +kernel
theorem dX9_numberOf_46 : decode cX9_numberOf 46 = .ok (.invokestatic 127, 3) := by decide +kernel
theorem dX9_numberOf_49 : decode cX9_numberOf 49 = .ok (.ixor, 1) := by decide +kernel
theorem dX9_numberOf_50 : decode cX9_numberOf 50 = .ok (.ireturn, 1) := by decide +kernel
theorem dX9_numberOf_51 : decode cX9_numberOf 51 = .ok (.iload 4, 2) := by decide +kernel
theorem dX9_numberOf_53 : decode cX9_numberOf 53 = .ok (.iconst 2, 1) := by decide +kernel
theorem dX9_numberOf_54 : decode cX9_numberOf 54 = .ok (.irem, 1) := by decide +kernel
theorem dX9_numberOf_55 : decode cX9_numberOf 55 = .ok (.iconst 1, 1) := by decide +kernel
theorem dX9_numberOf_56 : decode cX9_numberOf 56 = .ok (.if_icmp .eq 14, 3) := by decide +kernel
theorem dX9_numberOf_59 : decode cX9_numberOf 59 = .ok (.aload_n 0, 1) := by decide +kernel
theorem dX9_numberOf_60 : decode cX9_numberOf 60 = .ok (.iload_n 1, 1) := by decide +kernel
theorem dX9_numberOf_61 : decode cX9_numberOf 61 = .ok (.bipush 8, 2) := by decide +kernel
theorem dX9_numberOf_63 : decode cX9_numberOf 63 = .ok (.invokevirtual 58, 3) := by decide +kernel
theorem dX9_numberOf_66 : decode cX9_numberOf 66 = .ok (.iconst (-1), 1) := by decide +kernel
theorem dX9_numberOf_67 : decode cX9_numberOf 67 = .ok (.if_icmp .eq 5, 3) := by decide +kernel
theorem dX9_numberOf_70 : decode cX9_numberOf 70 = .ok (.iconst (-1), 1) := by decide +kernel
theorem dX9_numberOf_71 : decode cX9_numberOf 71 = .ok (.ireturn, 1) := by decide +kernel
theorem dX9_numberOf_72 : decode cX9_numberOf 72 = .ok (.iconst 1, 1) := by decide +kernel
theorem dX9_numberOf_73 : decode cX9_numberOf 73 = .ok (.iload 4, 2) := by decide +kernel
theorem dX9_numberOf_75 : decode cX9_numberOf 75 = .ok (.iconst 2, 1) := by decide +kernel
theorem dX9_numberOf_76 : decode cX9_numberOf 76 = .ok (.idiv, 1) := by decide +kernel
theorem dX9_numberOf_77 : decode cX9_numberOf 77 = .ok (.ishl, 1) := by decide +kernel
theorem dX9_numberOf_78 : decode cX9_numberOf 78 = .ok (.iconst 1, 1) := by decide +kernel
theorem dX9_numberOf_79 : decode cX9_numberOf 79 = .ok (.isub, 1) := by decide +kernel
theorem dX9_numberOf_80 : decode cX9_numberOf 80 = .ok (.istore 5, 2) := by decide +kernel
theorem dX9_numberOf_82 : decode cX9_numberOf 82 = .ok (.iload_n 2, 1) := by decide +kernel
theorem dX9_numberOf_83 : decode cX9_numberOf 83 = .ok (.iload 4, 2) := by decide +kernel
theorem dX9_numberOf_85 : decode cX9_numberOf 85 = .ok (.iconst 2, 1) := by decide +kernel
theorem dX9_numberOf_86 : decode cX9_numberOf 86 = .ok (.idiv, 1) := by decide +kernel
theorem dX9_numberOf_87 : decode cX9_numberOf 87 = .ok (.ishr, 1) := by decide +kernel
theorem dX9_numberOf_88 : decode cX9_numberOf 88 = .ok (.iload_n 2, 1) := by decide +kernel
theorem dX9_numberOf_89 : decode cX9_numberOf 89 = .ok (.iload 5, 2) := by decide +kernel
theorem dX9_numberOf_91 : decode cX9_numberOf 91 = .ok (.iand, 1) := by decide +kernel
theorem dX9_numberOf_92 : decode cX9_numberOf 92 = .ok (.ixor, 1) := by decide +kernel
theorem dX9_numberOf_93 : decode cX9_numberOf 93 = .ok (.iload 5, 2) := by decide +kernel
theorem dX9_numberOf_95 : decode cX9_numberOf 95 = .ok (.if_icmp .ne 7, 3) := by decide +kernel
theorem dX9_numberOf_98 : decode cX9_numberOf 98 = .ok (.iconst 0, 1) := by decide +kernel
theorem dX9_numberOf_99 : decode cX9_numberOf 99 = .ok (.goto 4, 3) := by decide +kernel
theorem dX9_numberOf_102 : decode cX9_numberOf 102 = .ok (.iconst (-1), 1) := by decide +kernel
theorem dX9_numberOf_103 : decode cX9_numberOf 103 = .ok (.ireturn, 1) := by decide +kernel
set_option maxRecDepth 20000 in
theorem ggX9_checkOf_X9_learnt : GoodIn wsX9_checkOf wsX9_learnt := goodIn_r _ [6, 1, 23, 24, 25, 26, 27, 28, 29, 30, 31, 32, 33, 34, 35, 36, 37, 38, 39] rfl (by decide +kernel)
set_option maxRecDepth 20000 in
theorem gX9_checkOf_X9_learnt : GoodIn wsX9_checkOf (wsV RX9 118 RX9 yX9_learnt wsX9_learnt) := goodIn_app (goodIn_of _ (by decide +kernel)) ggX9_checkOf_X9_learnt
set_option maxRecDepth 20000 in
theorem ggX9_checkOf_X9_some : GoodIn wsX9_checkOf wsX9_some := goodIn_r _ [10, 1, 23, 24, 25, 26, 27, 28, 29, 30, 31, 32, 33, 34, 35, 36, 37, 38, 39] rfl (by decide +kernel)
set_option maxRecDepth 20000 in
theorem gX9_checkOf_X9_some : GoodIn wsX9_checkOf (wsV RX9 121 RX9 yX9_some wsX9_some) := goodIn_app (goodIn_of _ (by decide +kernel)) ggX9_checkOf_X9_some
set_option maxRecDepth 20000 in
theorem ggX9_checkOf_X9_numberOf : GoodIn wsX9_checkOf wsX9_numberOf := goodIn_r _ [14, 15, 16, 17, 5, 18, 19, 20, 21, 22, 23, 24, 25, 26, 27, 28, 29, 30, 31, 32, 33, 34, 35, 36, 37, 38, 39] rfl (by decide +kernel)
set_option maxRecDepth 20000 in
theorem gX9_checkOf_X9_numberOf : GoodIn wsX9_checkOf (wsV RX9 130 RX9 yX9_numberOf wsX9_numberOf) := goodIn_app (goodIn_of _ (by decide +kernel)) ggX9_checkOf_X9_numberOf
theorem dX9_checkOf_0 : decode cX9_checkOf 0 = .ok (.aload_n 0, 1) := by decide +kernel
theorem dX9_checkOf_1 : decode cX9_checkOf 1 = .ok (.iload_n 1, 1) := by decide +kernel
theorem dX9_checkOf_2 : decode cX9_checkOf 2 = .ok (.invokevirtual 118, 3) := by decide +kernel
theorem dX9_checkOf_5 : decode cX9_checkOf 5 = .ok (.iconst 2, 1) := by decide +kernel
theorem dX9_checkOf_6 : decode cX9_checkOf 6 = .ok (.if_icmp .ge 5, 3) := by decide +kernel
theorem dX9_checkOf_9 : decode cX9_checkOf 9 = .ok (.iconst (-1), 1) := by decide +kernel
theorem dX9_checkOf_10 : decode cX9_checkOf 10 = .ok (.ireturn, 1) := by decide +kernel
theorem dX9_checkOf_11 : decode cX9_checkOf 11 = .ok (.aload_n 0, 1) := by decide +kernel
theorem dX9_checkOf_12 : decode cX9_checkOf 12 = .ok (.iload_n 1, 1) := by decide +kernel
theorem dX9_checkOf_13 : decode cX9_checkOf 13 = .ok (.aload_n 0, 1) := by decide +kernel
theorem dX9_checkOf_14 : decode cX9_checkOf 14 = .ok (.iload_n 1, 1) := by decide +kernel
theorem dX9_checkOf_15 : decode cX9_checkOf 15 = .ok (.invokevirtual 121, 3) := by decide +kernel
theorem dX9_checkOf_18 : decode cX9_checkOf 18 = .ok (.iload_n 2, 1) := by decide +kernel
theorem dX9_checkOf_19 : decode cX9_checkOf 19 = .ok (.invokevirtual 130, 3) := by decide +kernel
theorem dX9_checkOf_22 : decode cX9_checkOf 22 = .ok (.istore_n 3, 1) := by decide +kernel
theorem dX9_checkOf_23 : decode cX9_checkOf 23 = .ok (.iconst 0, 1) := by decide +kernel
theorem dX9_checkOf_24 : decode cX9_checkOf 24 = .ok (.istore 4, 2) := by decide +kernel
theorem dX9_checkOf_26 : decode cX9_checkOf 26 = .ok (.iload 4, 2) := by decide +kernel
theorem dX9_checkOf_28 : decode cX9_checkOf 28 = .ok (.bipush 16, 2) := by decide +kernel
theorem dX9_checkOf_30 : decode cX9_checkOf 30 = .ok (.if_icmp .ge 49, 3) := by decide +kernel
theorem dX9_checkOf_33 : decode cX9_checkOf 33 = .ok (.aload_n 0, 1) := by decide +kernel
theorem dX9_checkOf_34 : decode cX9_checkOf 34 = .ok (.getfield 16, 3) := by decide +kernel
theorem dX9_checkOf_37 : decode cX9_checkOf 37 = .ok (.bipush 16, 2) := by decide +kernel
theorem dX9_checkOf_39 : decode cX9_checkOf 39 = .ok (.iload_n 1, 1) := by decide +kernel
theorem dX9_checkOf_40 : decode cX9_checkOf 40 = .ok (.imul, 1) := by decide +kernel
theorem dX9_checkOf_41 : decode cX9_checkOf 41 = .ok (.iload 4, 2) := by decide +kernel
theorem dX9_checkOf_43 : decode cX9_checkOf 43 = .ok (.iadd, 1) := by decide +kernel
theorem dX9_checkOf_44 : decode cX9_checkOf 44 = .ok (.iaload, 1) := by decide +kernel
theorem dX9_checkOf_45 : decode cX9_checkOf 45 = .ok (.iconst (-1), 1) := by decide +kernel
theorem dX9_checkOf_46 : decode cX9_checkOf 46 = .ok (.if_icmp .eq 27, 3) := by decide +kernel
theorem dX9_checkOf_49 : decode cX9_checkOf 49 = .ok (.aload_n 0, 1) := by decide +kernel
theorem dX9_checkOf_50 : decode cX9_checkOf 50 = .ok (.iload_n 1, 1) := by decide +kernel
theorem dX9_checkOf_51 : decode cX9_checkOf 51 = .ok (.aload_n 0, 1) := by decide +kernel
theorem dX9_checkOf_52 : decode cX9_checkOf 52 = .ok (.getfield 16, 3) := by decide +kernel
theorem dX9_checkOf_55 : decode cX9_checkOf 55 = .ok (.bipush 16, 2) := by decide +kernel
theorem dX9_checkOf_57 : decode cX9_checkOf 57 = .ok (.iload_n 1, 1) := by decide +kernel
theorem dX9_checkOf_58 : decode cX9_checkOf 58 = .ok (.imul, 1) := by decide +kernel
theorem dX9_checkOf_59 : decode cX9_checkOf 59 = .ok (.iload 4, 2) := by decide +kernel
theorem dX9_checkOf_61 : decode cX9_checkOf 61 = .ok (.iadd, 1) := by decide +kernel
theorem dX9_checkOf_62 : decode cX9_checkOf 62 = .ok (.iaload, 1) := by decide +kernel
theorem dX9_checkOf_63 : decode cX9_checkOf 63 = .ok (.iload_n 2, 1) := by decide +kernel
theorem dX9_checkOf_64 : decode cX9_checkOf 64 = .ok (.invokevirtual 130, 3) := by decide +kernel
theorem dX9_checkOf_67 : decode cX9_checkOf 67 = .ok (.iload_n 3, 1) := by decide +kernel
theorem dX9_checkOf_68 : decode cX9_checkOf 68 = .ok (.if_icmp .eq 5, 3) := by decide +kernel
theorem dX9_checkOf_71 : decode cX9_checkOf 71 = .ok (.iconst (-1), 1) := by decide +kernel
theorem dX9_checkOf_72 : decode cX9_checkOf 72 = .ok (.ireturn, 1) := by decide +kernel
theorem dX9_checkOf_73 : decode cX9_checkOf 73 = .ok (.iinc 4 1, 3) := by decide +kernel
theorem dX9_checkOf_76 : decode cX9_checkOf 76 = .ok (.goto (-50), 3) := by decide +kernel
theorem dX9_checkOf_79 : decode cX9_checkOf 79 = .ok (.iload_n 3, 1) := by decide +kernel
theorem dX9_checkOf_80 : decode cX9_checkOf 80 = .ok (.ireturn, 1) := by decide +kernel
set_option maxRecDepth 20000 in
theorem ggX9_check_X9_isMake : GoodIn wsX9_check wsX9_isMake := goodIn_r _ [6, 7, 8, 9, 5, 10, 36, 37, 38, 39, 40, 41, 42, 43, 44, 45, 46, 47, 48, 49, 50, 51, 52] rfl (by decide +kernel)
set_option maxRecDepth 20000 in
theorem gX9_check_X9_isMake : GoodIn wsX9_check (wsV RX9 54 RX9 yX9_isMake wsX9_isMake) := goodIn_app (goodIn_of _ (by decide +kernel)) ggX9_check_X9_isMake
set_option maxRecDepth 20000 in
theorem ggX9_check_X9_in : GoodIn wsX9_check wsX9_in := goodIn_r _ [10] rfl (by decide +kernel)
set_option maxRecDepth 20000 in
theorem gX9_check_X9_in : GoodIn wsX9_check (va_wsS RX9 50 yX9_in wsX9_in) := goodIn_app (goodIn_of _ (by decide +kernel)) ggX9_check_X9_in
set_option maxRecDepth 20000 in
theorem ggX9_check_X9_checkOf : GoodIn wsX9_check wsX9_checkOf := goodIn_r _ [14, 15, 16, 17, 18, 5, 19, 20, 21, 22, 23, 24, 25, 26, 27, 28, 29, 30, 31, 32, 33, 34, 35, 36, 37, 38, 39, 40, 41, 42, 43, 44, 45, 46, 47, 48, 49, 50, 51, 52] rfl (by decide +kernel)
set_option maxRecDepth 20000 in
theorem gX9_check_X9_checkOf : GoodIn wsX9_check (wsV RX9 134 RX9 yX9_checkOf wsX9_checkOf) := goodIn_app (goodIn_of _ (by decide +kernel)) ggX9_check_X9_checkOf
theorem dX9_check_0 : decode cX9_check 0 = .ok (.aload_n 0, 1) := by decide +kernel
theorem dX9_check_1 : decode cX9_check 1 = .ok (.iconst 0, 1) := by decide +kernel
theorem dX9_check_2 : decode cX9_check 2 = .ok (.putfield 43, 3) := by decide +kernel
theorem dX9_check_5 : decode cX9_check 5 = .ok (.aload_n 0, 1) := by decide +kernel
theorem dX9_check_6 : decode cX9_check 6 = .ok (.iload_n 1, 1) := by decide +kernel
theorem dX9_check_7 : decode cX9_check 7 = .ok (.invokevirtual 54, 3) := by decide +kernel
theorem dX9_check_10 : decode cX9_check 10 = .ok (.ifCond .eq 21, 3) := by decide +kernel
theorem dX9_check_13 : decode cX9_check 13 = .ok (.iload_n 2, 1) := by decide +kernel
theorem dX9_check_14 : decode cX9_check 14 = .ok (.iconst 1, 1) := by decide +kernel
theorem dX9_check_15 : decode cX9_check 15 = .ok (.iconst 3, 1) := by decide +kernel
theorem dX9_check_16 : decode cX9_check 16 = .ok (.invokestatic 50, 3) := by decide +kernel
theorem dX9_check_19 : decode cX9_check 19 = .ok (.ifCond .eq 12, 3) := by decide +kernel
theorem dX9_check_22 : decode cX9_check 22 = .ok (.aload_n 0, 1) := by decide +kernel
theorem dX9_check_23 : decode cX9_check 23 = .ok (.iload_n 1, 1) := by decide +kernel
theorem dX9_check_24 : decode cX9_check 24 = .ok (.iload_n 2, 1) := by decide +kernel
theorem dX9_check_25 : decode cX9_check 25 = .ok (.invokevirtual 134, 3) := by decide +kernel
theorem dX9_check_28 : decode cX9_check 28 = .ok (.goto 4, 3) := by decide +kernel
theorem dX9_check_31 : decode cX9_check 31 = .ok (.iconst (-1), 1) := by decide +kernel
theorem dX9_check_32 : decode cX9_check 32 = .ok (.ireturn, 1) := by decide +kernel
set_option maxRecDepth 20000 in
theorem ggX9_canForesee_X9_isMake : GoodIn wsX9_canForesee wsX9_isMake := goodIn_r _ [5, 6, 7, 8, 4, 9, 39, 40, 41, 42, 43, 44, 45, 46, 47, 48, 49, 50, 51, 52, 53, 54, 55] rfl (by decide +kernel)
set_option maxRecDepth 20000 in
theorem gX9_canForesee_X9_isMake : GoodIn wsX9_canForesee (wsV RX9 54 RX9 yX9_isMake wsX9_isMake) := goodIn_app (goodIn_of _ (by decide +kernel)) ggX9_canForesee_X9_isMake
set_option maxRecDepth 20000 in
theorem ggX9_canForesee_X9_learnt : GoodIn wsX9_canForesee wsX9_learnt := goodIn_r _ [13, 14, 39, 40, 41, 42, 43, 44, 45, 46, 47, 48, 49, 50, 51, 52, 53, 54, 55] rfl (by decide +kernel)
set_option maxRecDepth 20000 in
theorem gX9_canForesee_X9_learnt : GoodIn wsX9_canForesee (wsV RX9 118 RX9 yX9_learnt wsX9_learnt) := goodIn_app (goodIn_of _ (by decide +kernel)) ggX9_canForesee_X9_learnt
set_option maxRecDepth 20000 in
theorem ggX9_canForesee_X9_get : GoodIn wsX9_canForesee wsX9_get := goodIn_r _ [18, 19, 39, 40, 41, 42, 43, 44, 45, 46, 47, 48, 49, 50, 51, 52, 53, 54, 55] rfl (by decide +kernel)
set_option maxRecDepth 20000 in
theorem gX9_canForesee_X9_get : GoodIn wsX9_canForesee (wsV RX9 58 RX9 yX9_get wsX9_get) := goodIn_app (goodIn_of _ (by decide +kernel)) ggX9_canForesee_X9_get
set_option maxRecDepth 20000 in
theorem ggX9_canForesee_X9_flipOf : GoodIn wsX9_canForesee wsX9_flipOf := goodIn_r _ [23, 15, 16, 17, 4, 18, 19, 39, 40, 41, 42, 43, 44, 45, 46, 47, 48, 49, 50, 51, 52, 53, 54, 55] rfl (by decide +kernel)
set_option maxRecDepth 20000 in
theorem gX9_canForesee_X9_flipOf : GoodIn wsX9_canForesee (wsV RX9 115 RX9 yX9_flipOf wsX9_flipOf) := goodIn_app (goodIn_of _ (by decide +kernel)) ggX9_canForesee_X9_flipOf
set_option maxRecDepth 20000 in
theorem ggX9_canForesee_X9_fixed : GoodIn wsX9_canForesee wsX9_fixed := goodIn_r _ [27, 14, 10, 11, 12, 4, 13, 15, 16, 17, 18, 19, 20, 21, 22, 23, 28, 29, 30, 31, 39, 40, 41, 42, 43, 44, 45, 46, 47, 48, 49, 50, 51, 52, 53, 54, 55] rfl (by decide +kernel)
set_option maxRecDepth 20000 in
theorem gX9_canForesee_X9_fixed : GoodIn wsX9_canForesee (wsV RX9 124 RX9 yX9_fixed wsX9_fixed) := goodIn_app (goodIn_of _ (by decide +kernel)) ggX9_canForesee_X9_fixed
set_option maxRecDepth 20000 in
theorem ggX9_canForesee_J6_bitCount_0f7a4 : GoodIn wsX9_canForesee wsJ6_bitCount_0f7a4 := goodIn_r _ [35, 36, 37, 38] rfl (by decide +kernel)
set_option maxRecDepth 20000 in
theorem gX9_canForesee_J6_bitCount_0f7a4 : GoodIn wsX9_canForesee (va_wsS RX9 137 yJ6_bitCount_0f7a4 wsJ6_bitCount_0f7a4) := goodIn_app (goodIn_of _ (by decide +kernel)) ggX9_canForesee_J6_bitCount_0f7a4
theorem dX9_canForesee_0 : decode cX9_canForesee 0 = .ok (.aload_n 0, 1) := by decide +kernel
theorem dX9_canForesee_1 : decode cX9_canForesee 1 = .ok (.iload_n 1, 1) := by decide +kernel
theorem dX9_canForesee_2 : decode cX9_canForesee 2 = .ok (.invokevirtual 54, 3) := by decide +kernel
theorem dX9_canForesee_5 : decode cX9_canForesee 5 = .ok (.ifCond .eq 49, 3) := by decide +kernel
theorem dX9_canForesee_8 : decode cX9_canForesee 8 = .ok (.aload_n 0, 1) := by decide +kernel
theorem dX9_canForesee_9 : decode cX9_canForesee 9 = .ok (.iload_n 1, 1) := by decide +kernel
theorem dX9_canForesee_10 : decode cX9_canForesee 10 = .ok (.invokevirtual 118, 3) := by decide +kernel
theorem dX9_canForesee_13 : decode cX9_canForesee 13 = .ok (.ifCond .le 41, 3) := by decide +kernel
theorem dX9_canForesee_16 : decode cX9_canForesee 16 = .ok (.iconst 1, 1) := by decide +kernel
theorem dX9_canForesee_17 : decode cX9_canForesee 17 = .ok (.aload_n 0, 1) := by decide +kernel
theorem dX9_canForesee_18 : decode cX9_canForesee 18 = .ok (.iload_n 1, 1) := by decide +kernel
theorem dX9_canForesee_19 : decode cX9_canForesee 19 = .ok (.iconst 1, 1) := by decide +kernel
theorem dX9_canForesee_20 : decode cX9_canForesee 20 = .ok (.invokevirtual 58, 3) := by decide +kernel
theorem dX9_canForesee_23 : decode cX9_canForesee 23 = .ok (.ishl, 1) := by decide +kernel
theorem dX9_canForesee_24 : decode cX9_canForesee 24 = .ok (.iconst 1, 1) := by decide +kernel
theorem dX9_canForesee_25 : decode cX9_canForesee 25 = .ok (.isub, 1) := by decide +kernel
theorem dX9_canForesee_26 : decode cX9_canForesee 26 = .ok (.aload_n 0, 1) := by decide +kernel
theorem dX9_canForesee_27 : decode cX9_canForesee 27 = .ok (.iload_n 1, 1) := by decide +kernel
theorem dX9_canForesee_28 : decode cX9_canForesee 28 = .ok (.invokevirtual 115, 3) := by decide +kernel
theorem dX9_canForesee_31 : decode cX9_canForesee 31 = .ok (.iconst (-1), 1) := by decide +kernel
theorem dX9_canForesee_32 : decode cX9_canForesee 32 = .ok (.ixor, 1) := by decide +kernel
theorem dX9_canForesee_33 : decode cX9_canForesee 33 = .ok (.iand, 1) := by decide +kernel
theorem dX9_canForesee_34 : decode cX9_canForesee 34 = .ok (.aload_n 0, 1) := by decide +kernel
theorem dX9_canForesee_35 : decode cX9_canForesee 35 = .ok (.iload_n 1, 1) := by decide +kernel
theorem dX9_canForesee_36 : decode cX9_canForesee 36 = .ok (.invokevirtual 124, 3) := by decide +kernel
theorem dX9_canForesee_39 : decode cX9_canForesee 39 = .ok (.iconst (-1), 1) := by decide +kernel
theorem dX9_canForesee_40 : decode cX9_canForesee 40 = .ok (.ixor, 1) := by decide +kernel
theorem dX9_canForesee_41 : decode cX9_canForesee 41 = .ok (.iand, 1) := by decide +kernel
theorem dX9_canForesee_42 : decode cX9_canForesee 42 = .ok (.invokestatic 137, 3) := by decide +kernel
theorem dX9_canForesee_45 : decode cX9_canForesee 45 = .ok (.bipush 14, 2) := by decide +kernel
theorem dX9_canForesee_47 : decode cX9_canForesee 47 = .ok (.if_icmp .gt 7, 3) := by decide +kernel
theorem dX9_canForesee_50 : decode cX9_canForesee 50 = .ok (.iconst 1, 1) := by decide +kernel
theorem dX9_canForesee_51 : decode cX9_canForesee 51 = .ok (.goto 4, 3) := by decide +kernel
theorem dX9_canForesee_54 : decode cX9_canForesee 54 = .ok (.iconst 0, 1) := by decide +kernel
theorem dX9_canForesee_55 : decode cX9_canForesee 55 = .ok (.ireturn, 1) := by decide +kernel
set_option maxRecDepth 20000 in
theorem ggX9_isForeseen_X9_checkOf : GoodIn wsX9_isForeseen wsX9_checkOf := goodIn_r _ [5, 6, 7, 8, 9, 4, 10, 11, 12, 13, 14, 15, 16, 17, 18, 19, 20, 21, 22, 23, 24, 25, 26, 27, 28, 29, 30, 31, 32, 33, 34, 35, 36, 37, 38, 39, 40, 41, 42, 43] rfl (by decide +kernel)
set_option maxRecDepth 20000 in
theorem gX9_isForeseen_X9_checkOf : GoodIn wsX9_isForeseen (wsV RX9 134 RX9 yX9_checkOf wsX9_checkOf) := goodIn_app (goodIn_of _ (by decide +kernel)) ggX9_isForeseen_X9_checkOf
set_option maxRecDepth 20000 in
theorem ggX9_isForeseen_X9_numberOf : GoodIn wsX9_isForeseen wsX9_numberOf := goodIn_r _ [18, 19, 20, 21, 4, 22, 23, 24, 25, 26, 27, 28, 29, 30, 31, 32, 33, 34, 35, 36, 37, 38, 39, 40, 41, 42, 43] rfl (by decide +kernel)
set_option maxRecDepth 20000 in
theorem gX9_isForeseen_X9_numberOf : GoodIn wsX9_isForeseen (wsV RX9 130 RX9 yX9_numberOf wsX9_numberOf) := goodIn_app (goodIn_of _ (by decide +kernel)) ggX9_isForeseen_X9_numberOf
theorem dX9_isForeseen_0 : decode cX9_isForeseen 0 = .ok (.iconst 1, 1) := by decide +kernel
theorem dX9_isForeseen_1 : decode cX9_isForeseen 1 = .ok (.istore_n 3, 1) := by decide +kernel
theorem dX9_isForeseen_2 : decode cX9_isForeseen 2 = .ok (.iload_n 3, 1) := by decide +kernel
theorem dX9_isForeseen_3 : decode cX9_isForeseen 3 = .ok (.iconst 4, 1) := by decide +kernel
theorem dX9_isForeseen_4 : decode cX9_isForeseen 4 = .ok (.if_icmp .ge 37, 3) := by decide +kernel
theorem dX9_isForeseen_7 : decode cX9_isForeseen 7 = .ok (.aload_n 0, 1) := by decide +kernel
theorem dX9_isForeseen_8 : decode cX9_isForeseen 8 = .ok (.iload_n 1, 1) := by decide +kernel
theorem dX9_isForeseen_9 : decode cX9_isForeseen 9 = .ok (.iload_n 3, 1) := by decide +kernel
theorem dX9_isForeseen_10 : decode cX9_isForeseen 10 = .ok (.invokevirtual 134, 3) := by decide +kernel
theorem dX9_isForeseen_13 : decode cX9_isForeseen 13 = .ok (.iconst (-1), 1) := by decide +kernel
theorem dX9_isForeseen_14 : decode cX9_isForeseen 14 = .ok (.if_icmp .eq 21, 3) := by decide +kernel
theorem dX9_isForeseen_17 : decode cX9_isForeseen 17 = .ok (.aload_n 0, 1) := by decide +kernel
theorem dX9_isForeseen_18 : decode cX9_isForeseen 18 = .ok (.iload_n 1, 1) := by decide +kernel
theorem dX9_isForeseen_19 : decode cX9_isForeseen 19 = .ok (.iload_n 2, 1) := by decide +kernel
theorem dX9_isForeseen_20 : decode cX9_isForeseen 20 = .ok (.iload_n 3, 1) := by decide +kernel
theorem dX9_isForeseen_21 : decode cX9_isForeseen 21 = .ok (.invokevirtual 130, 3) := by decide +kernel
theorem dX9_isForeseen_24 : decode cX9_isForeseen 24 = .ok (.aload_n 0, 1) := by decide +kernel
theorem dX9_isForeseen_25 : decode cX9_isForeseen 25 = .ok (.iload_n 1, 1) := by decide +kernel
theorem dX9_isForeseen_26 : decode cX9_isForeseen 26 = .ok (.iload_n 3, 1) := by decide +kernel
theorem dX9_isForeseen_27 : decode cX9_isForeseen 27 = .ok (.invokevirtual 134, 3) := by decide +kernel
theorem dX9_isForeseen_30 : decode cX9_isForeseen 30 = .ok (.if_icmp .eq 5, 3) := by decide +kernel
theorem dX9_isForeseen_33 : decode cX9_isForeseen 33 = .ok (.iconst 0, 1) := by decide +kernel
theorem dX9_isForeseen_34 : decode cX9_isForeseen 34 = .ok (.ireturn, 1) := by decide +kernel
theorem dX9_isForeseen_35 : decode cX9_isForeseen 35 = .ok (.iinc 3 1, 3) := by decide +kernel
theorem dX9_isForeseen_38 : decode cX9_isForeseen 38 = .ok (.goto (-36), 3) := by decide +kernel
theorem dX9_isForeseen_41 : decode cX9_isForeseen 41 = .ok (.iconst 1, 1) := by decide +kernel
theorem dX9_isForeseen_42 : decode cX9_isForeseen 42 = .ok (.ireturn, 1) := by decide +kernel
set_option maxRecDepth 20000 in
theorem ggX9_go_X9_get : GoodIn wsX9_go wsX9_get := goodIn_r _ [6, 7, 40, 41, 42, 43, 44, 45, 46, 47, 48, 49, 50, 51, 52, 53, 54, 55, 56] rfl (by decide +kernel)
set_option maxRecDepth 20000 in
theorem gX9_go_X9_get : GoodIn wsX9_go (wsV RX9 58 RX9 yX9_get wsX9_get) := goodIn_app (goodIn_of _ (by decide +kernel)) ggX9_go_X9_get
set_option maxRecDepth 20000 in
theorem ggX9_go_X9_flipOf : GoodIn wsX9_go wsX9_flipOf := goodIn_r _ [11, 2, 3, 4, 5, 6, 7, 40, 41, 42, 43, 44, 45, 46, 47, 48, 49, 50, 51, 52, 53, 54, 55, 56] rfl (by decide +kernel)
set_option maxRecDepth 20000 in
theorem gX9_go_X9_flipOf : GoodIn wsX9_go (wsV RX9 115 RX9 yX9_flipOf wsX9_flipOf) := goodIn_app (goodIn_of _ (by decide +kernel)) ggX9_go_X9_flipOf
set_option maxRecDepth 20000 in
theorem ggX9_go_X9_fixed : GoodIn wsX9_go wsX9_fixed := goodIn_r _ [15, 16, 17, 18, 19, 5, 20, 2, 3, 4, 6, 7, 8, 9, 10, 11, 21, 22, 23, 24, 40, 41, 42, 43, 44, 45, 46, 47, 48, 49, 50, 51, 52, 53, 54, 55, 56] rfl (by decide +kernel)
set_option maxRecDepth 20000 in
theorem gX9_go_X9_fixed : GoodIn wsX9_go (wsV RX9 124 RX9 yX9_fixed wsX9_fixed) := goodIn_app (goodIn_of _ (by decide +kernel)) ggX9_go_X9_fixed
set_option maxRecDepth 20000 in
theorem ggX9_go_X9_some : GoodIn wsX9_go wsX9_some := goodIn_r _ [24, 16, 40, 41, 42, 43, 44, 45, 46, 47, 48, 49, 50, 51, 52, 53, 54, 55, 56] rfl (by decide +kernel)
set_option maxRecDepth 20000 in
theorem gX9_go_X9_some : GoodIn wsX9_go (wsV RX9 121 RX9 yX9_some wsX9_some) := goodIn_app (goodIn_of _ (by decide +kernel)) ggX9_go_X9_some
set_option maxRecDepth 20000 in
theorem ggX9_go_X9_isForeseen : GoodIn wsX9_go wsX9_isForeseen := goodIn_r _ [28, 29, 30, 31, 5, 32, 16, 17, 18, 19, 20, 21, 22, 23, 24, 33, 34, 35, 36, 2, 3, 4, 6, 7, 37, 38, 39, 40, 41, 42, 43, 44, 45, 46, 47, 48, 49, 50, 51, 52, 53, 54, 55, 56] rfl (by decide +kernel)
set_option maxRecDepth 20000 in
theorem gX9_go_X9_isForeseen : GoodIn wsX9_go (wsV RX9 145 RX9 yX9_isForeseen wsX9_isForeseen) := goodIn_app (goodIn_of _ (by decide +kernel)) ggX9_go_X9_isForeseen
theorem dX9_go_0 : decode cX9_go 0 = .ok (.iconst 1, 1) := by decide +kernel
theorem dX9_go_1 : decode cX9_go 1 = .ok (.aload_n 0, 1) := by decide +kernel
theorem dX9_go_2 : decode cX9_go 2 = .ok (.iload_n 1, 1) := by decide +kernel
theorem dX9_go_3 : decode cX9_go 3 = .ok (.iconst 1, 1) := by decide +kernel
theorem dX9_go_4 : decode cX9_go 4 = .ok (.invokevirtual 58, 3) := by decide +kernel
theorem dX9_go_7 : decode cX9_go 7 = .ok (.ishl, 1) := by decide +kernel
theorem dX9_go_8 : decode cX9_go 8 = .ok (.iconst 1, 1) := by decide +kernel
theorem dX9_go_9 : decode cX9_go 9 = .ok (.isub, 1) := by decide +kernel
theorem dX9_go_10 : decode cX9_go 10 = .ok (.aload_n 0, 1) := by decide +kernel
theorem dX9_go_11 : decode cX9_go 11 = .ok (.iload_n 1, 1) := by decide +kernel
theorem dX9_go_12 : decode cX9_go 12 = .ok (.invokevirtual 115, 3) := by decide +kernel
theorem dX9_go_15 : decode cX9_go 15 = .ok (.iconst (-1), 1) := by decide +kernel
theorem dX9_go_16 : decode cX9_go 16 = .ok (.ixor, 1) := by decide +kernel
theorem dX9_go_17 : decode cX9_go 17 = .ok (.iand, 1) := by decide +kernel
theorem dX9_go_18 : decode cX9_go 18 = .ok (.aload_n 0, 1) := by decide +kernel
theorem dX9_go_19 : decode cX9_go 19 = .ok (.iload_n 1, 1) := by decide +kernel
theorem dX9_go_20 : decode cX9_go 20 = .ok (.invokevirtual 124, 3) := by decide +kernel
theorem dX9_go_23 : decode cX9_go 23 = .ok (.iconst (-1), 1) := by decide +kernel
theorem dX9_go_24 : decode cX9_go 24 = .ok (.ixor, 1) := by decide +kernel
theorem dX9_go_25 : decode cX9_go 25 = .ok (.iand, 1) := by decide +kernel
theorem dX9_go_26 : decode cX9_go 26 = .ok (.istore_n 3, 1) := by decide +kernel
theorem dX9_go_27 : decode cX9_go 27 = .ok (.aload_n 0, 1) := by decide +kernel
theorem dX9_go_28 : decode cX9_go 28 = .ok (.iload_n 1, 1) := by decide +kernel
theorem dX9_go_29 : decode cX9_go 29 = .ok (.invokevirtual 121, 3) := by decide +kernel
theorem dX9_go_32 : decode cX9_go 32 = .ok (.aload_n 0, 1) := by decide +kernel
theorem dX9_go_33 : decode cX9_go 33 = .ok (.iload_n 1, 1) := by decide +kernel
theorem dX9_go_34 : decode cX9_go 34 = .ok (.invokevirtual 124, 3) := by decide +kernel
theorem dX9_go_37 : decode cX9_go 37 = .ok (.iand, 1) := by decide +kernel
theorem dX9_go_38 : decode cX9_go 38 = .ok (.istore 4, 2) := by decide +kernel
theorem dX9_go_40 : decode cX9_go 40 = .ok (.iconst 0, 1) := by decide +kernel
theorem dX9_go_41 : decode cX9_go 41 = .ok (.istore 5, 2) := by decide +kernel
theorem dX9_go_43 : decode cX9_go 43 = .ok (.iconst 0, 1) := by decide +kernel
theorem dX9_go_44 : decode cX9_go 44 = .ok (.istore 6, 2) := by decide +kernel
theorem dX9_go_46 : decode cX9_go 46 = .ok (.aload_n 0, 1) := by decide +kernel
theorem dX9_go_47 : decode cX9_go 47 = .ok (.iconst (-1), 1) := by decide +kernel
theorem dX9_go_48 : decode cX9_go 48 = .ok (.putfield 142, 3) := by decide +kernel
theorem dX9_go_51 : decode cX9_go 51 = .ok (.iconst 1, 1) := by decide +kernel
theorem dX9_go_52 : decode cX9_go 52 = .ok (.istore 7, 2) := by decide +kernel
theorem dX9_go_54 : decode cX9_go 54 = .ok (.iload 7, 2) := by decide +kernel
theorem dX9_go_56 : decode cX9_go 56 = .ok (.ifCond .eq 64, 3) := by decide +kernel
theorem dX9_go_59 : decode cX9_go 59 = .ok (.aload_n 0, 1) := by decide +kernel
theorem dX9_go_60 : decode cX9_go 60 = .ok (.iload_n 1, 1) := by decide +kernel
theorem dX9_go_61 : decode cX9_go 61 = .ok (.iload 4, 2) := by decide +kernel
theorem dX9_go_63 : decode cX9_go 63 = .ok (.iload 5, 2) := by decide +kernel
theorem dX9_go_65 : decode cX9_go 65 = .ok (.ior, 1) := by decide +kernel
theorem dX9_go_66 : decode cX9_go 66 = .ok (.invokevirtual 145, 3) := by decide +kernel
theorem dX9_go_69 : decode cX9_go 69 = .ok (.ifCond .eq 21, 3) := by decide +kernel
theorem dX9_go_72 : decode cX9_go 72 = .ok (.iload 6, 2) := by decide +kernel
theorem dX9_go_74 : decode cX9_go 74 = .ok (.iload_n 2, 1) := by decide +kernel
theorem dX9_go_75 : decode cX9_go 75 = .ok (.if_icmp .ne 12, 3) := by decide +kernel
theorem dX9_go_78 : decode cX9_go 78 = .ok (.aload_n 0, 1) := by decide +kernel
theorem dX9_go_79 : decode cX9_go 79 = .ok (.iload 4, 2) := by decide +kernel
theorem dX9_go_81 : decode cX9_go 81 = .ok (.iload 5, 2) := by decide +kernel
theorem dX9_go_83 : decode cX9_go 83 = .ok (.ior, 1) := by decide +kernel
theorem dX9_go_84 : decode cX9_go 84 = .ok (.putfield 142, 3) := by decide +kernel
theorem dX9_go_87 : decode cX9_go 87 = .ok (.iinc 6 1, 3) := by decide +kernel
theorem dX9_go_90 : decode cX9_go 90 = .ok (.iload 5, 2) := by decide +kernel
theorem dX9_go_92 : decode cX9_go 92 = .ok (.iload_n 3, 1) := by decide +kernel
theorem dX9_go_93 : decode cX9_go 93 = .ok (.if_icmp .eq 13, 3) := by decide +kernel
theorem dX9_go_96 : decode cX9_go 96 = .ok (.iload 6, 2) := by decide +kernel
theorem dX9_go_98 : decode cX9_go 98 = .ok (.iload_n 2, 1) := by decide +kernel
theorem dX9_go_99 : decode cX9_go 99 = .ok (.if_icmp .gt 7, 3) := by decide +kernel
theorem dX9_go_102 : decode cX9_go 102 = .ok (.iconst 1, 1) := by decide +kernel
theorem dX9_go_103 : decode cX9_go 103 = .ok (.goto 4, 3) := by decide +kernel
theorem dX9_go_106 : decode cX9_go 106 = .ok (.iconst 0, 1) := by decide +kernel
theorem dX9_go_107 : decode cX9_go 107 = .ok (.istore 7, 2) := by decide +kernel
theorem dX9_go_109 : decode cX9_go 109 = .ok (.iload 5, 2) := by decide +kernel
theorem dX9_go_111 : decode cX9_go 111 = .ok (.iload_n 3, 1) := by decide +kernel
theorem dX9_go_112 : decode cX9_go 112 = .ok (.isub, 1) := by decide +kernel
theorem dX9_go_113 : decode cX9_go 113 = .ok (.iload_n 3, 1) := by decide +kernel
theorem dX9_go_114 : decode cX9_go 114 = .ok (.iand, 1) := by decide +kernel
theorem dX9_go_115 : decode cX9_go 115 = .ok (.istore 5, 2) := by decide +kernel
theorem dX9_go_117 : decode cX9_go 117 = .ok (.goto (-63), 3) := by decide +kernel
theorem dX9_go_120 : decode cX9_go 120 = .ok (.iload 6, 2) := by decide +kernel
theorem dX9_go_122 : decode cX9_go 122 = .ok (.ireturn, 1) := by decide +kernel
set_option maxRecDepth 20000 in
theorem ggX9_many_X9_canForesee : GoodIn wsX9_many wsX9_canForesee := goodIn_r _ [7, 8, 9, 10, 6, 11, 12, 13, 14, 15, 16, 17, 18, 19, 20, 21, 22, 23, 24, 25, 26, 27, 28, 29, 30, 31, 32, 33, 34, 35, 36, 37, 38, 39, 40, 41, 42, 43, 44, 65, 66, 67, 68, 69, 70, 71, 72, 73, 74, 75, 76, 77, 78, 79, 80, 81] rfl (by decide +kernel)
set_option maxRecDepth 20000 in
theorem gX9_many_X9_canForesee : GoodIn wsX9_many (wsV RX9 148 RX9 yX9_canForesee wsX9_canForesee) := goodIn_app (goodIn_of _ (by decide +kernel)) ggX9_many_X9_canForesee
set_option maxRecDepth 20000 in
theorem ggX9_many_X9_go : GoodIn wsX9_many wsX9_go := goodIn_r _ [48, 49, 21, 22, 23, 6, 24, 25, 26, 27, 28, 29, 30, 31, 32, 33, 20, 16, 17, 18, 19, 34, 35, 36, 37, 50, 51, 52, 53, 54, 55, 56, 57, 58, 59, 60, 61, 62, 63, 64, 65, 66, 67, 68, 69, 70, 71, 72, 73, 74, 75, 76, 77, 78, 79, 80, 81] rfl (by decide +kernel)
set_option maxRecDepth 20000 in
theorem gX9_many_X9_go : GoodIn wsX9_many (wsV RX9 152 RX9 yX9_go wsX9_go) := goodIn_app (goodIn_of _ (by decide +kernel)) ggX9_many_X9_go
theorem dX9_many_0 : decode cX9_many 0 = .ok (.aload_n 0, 1) := by decide +kernel
theorem dX9_many_1 : decode cX9_many 1 = .ok (.iconst 0, 1) := by decide +kernel
theorem dX9_many_2 : decode cX9_many 2 = .ok (.putfield 43, 3) := by decide +kernel
theorem dX9_many_5 : decode cX9_many 5 = .ok (.aload_n 0, 1) := by decide +kernel
theorem dX9_many_6 : decode cX9_many 6 = .ok (.iload_n 1, 1) := by decide +kernel
theorem dX9_many_7 : decode cX9_many 7 = .ok (.invokevirtual 148, 3) := by decide +kernel
theorem dX9_many_10 : decode cX9_many 10 = .ok (.ifCond .eq 13, 3) := by decide +kernel
theorem dX9_many_13 : decode cX9_many 13 = .ok (.aload_n 0, 1) := by decide +kernel
theorem dX9_many_14 : decode cX9_many 14 = .ok (.iload_n 1, 1) := by decide +kernel
theorem dX9_many_15 : decode cX9_many 15 = .ok (.ldc 151, 2) := by decide +kernel
theorem dX9_many_17 : decode cX9_many 17 = .ok (.invokevirtual 152, 3) := by decide +kernel
theorem dX9_many_20 : decode cX9_many 20 = .ok (.goto 4, 3) := by decide +kernel
theorem dX9_many_23 : decode cX9_many 23 = .ok (.iconst (-1), 1) := by decide +kernel
theorem dX9_many_24 : decode cX9_many 24 = .ok (.ireturn, 1) := by decide +kernel
set_option maxRecDepth 20000 in
theorem ggX9_foreseen_X9_canForesee : GoodIn wsX9_foreseen wsX9_canForesee := goodIn_r _ [8, 9, 10, 11, 7, 12, 13, 14, 15, 16, 17, 18, 19, 20, 21, 22, 23, 24, 25, 26, 27, 28, 29, 30, 31, 32, 33, 34, 35, 36, 37, 38, 39, 40, 41, 42, 43, 44, 45, 65, 66, 67, 68, 69, 70, 71, 72, 73, 74, 75, 76, 77, 78, 79, 80, 81] rfl (by decide +kernel)
set_option maxRecDepth 20000 in
theorem gX9_foreseen_X9_canForesee : GoodIn wsX9_foreseen (wsV RX9 148 RX9 yX9_canForesee wsX9_canForesee) := goodIn_app (goodIn_of _ (by decide +kernel)) ggX9_foreseen_X9_canForesee
set_option maxRecDepth 20000 in
theorem ggX9_foreseen_X9_go : GoodIn wsX9_foreseen wsX9_go := goodIn_r _ [49, 3, 22, 23, 24, 7, 25, 26, 27, 28, 29, 30, 31, 32, 33, 34, 21, 17, 18, 19, 20, 35, 36, 37, 38, 50, 51, 52, 53, 54, 55, 56, 57, 58, 59, 60, 61, 62, 63, 64, 65, 66, 67, 68, 69, 70, 71, 72, 73, 74, 75, 76, 77, 78, 79, 80, 81] rfl (by decide +kernel)
set_option maxRecDepth 20000 in
theorem gX9_foreseen_X9_go : GoodIn wsX9_foreseen (wsV RX9 152 RX9 yX9_go wsX9_go) := goodIn_app (goodIn_of _ (by decide +kernel)) ggX9_foreseen_X9_go
theorem dX9_foreseen_0 : decode cX9_foreseen 0 = .ok (.aload_n 0, 1) := by decide +kernel
theorem dX9_foreseen_1 : decode cX9_foreseen 1 = .ok (.iconst 0, 1) := by decide +kernel
theorem dX9_foreseen_2 : decode cX9_foreseen 2 = .ok (.putfield 43, 3) := by decide +kernel
theorem dX9_foreseen_5 : decode cX9_foreseen 5 = .ok (.aload_n 0, 1) := by decide +kernel
theorem dX9_foreseen_6 : decode cX9_foreseen 6 = .ok (.iload_n 1, 1) := by decide +kernel
theorem dX9_foreseen_7 : decode cX9_foreseen 7 = .ok (.invokevirtual 148, 3) := by decide +kernel
theorem dX9_foreseen_10 : decode cX9_foreseen 10 = .ok (.ifCond .eq 13, 3) := by decide +kernel
theorem dX9_foreseen_13 : decode cX9_foreseen 13 = .ok (.iload_n 2, 1) := by decide +kernel
theorem dX9_foreseen_14 : decode cX9_foreseen 14 = .ok (.ifCond .lt 9, 3) := by decide +kernel
theorem dX9_foreseen_17 : decode cX9_foreseen 17 = .ok (.iload_n 2, 1) := by decide +kernel
theorem dX9_foreseen_18 : decode cX9_foreseen 18 = .ok (.ldc 155, 2) := by decide +kernel
theorem dX9_foreseen_20 : decode cX9_foreseen 20 = .ok (.if_icmp .le 5, 3) := by decide +kernel
theorem dX9_foreseen_23 : decode cX9_foreseen 23 = .ok (.iconst (-1), 1) := by decide +kernel
theorem dX9_foreseen_24 : decode cX9_foreseen 24 = .ok (.ireturn, 1) := by decide +kernel
theorem dX9_foreseen_25 : decode cX9_foreseen 25 = .ok (.aload_n 0, 1) := by decide +kernel
theorem dX9_foreseen_26 : decode cX9_foreseen 26 = .ok (.iload_n 1, 1) := by decide +kernel
theorem dX9_foreseen_27 : decode cX9_foreseen 27 = .ok (.iload_n 2, 1) := by decide +kernel
theorem dX9_foreseen_28 : decode cX9_foreseen 28 = .ok (.invokevirtual 152, 3) := by decide +kernel
theorem dX9_foreseen_31 : decode cX9_foreseen 31 = .ok (.pop, 1) := by decide +kernel
theorem dX9_foreseen_32 : decode cX9_foreseen 32 = .ok (.aload_n 0, 1) := by decide +kernel
theorem dX9_foreseen_33 : decode cX9_foreseen 33 = .ok (.getfield 142, 3) := by decide +kernel
theorem dX9_foreseen_36 : decode cX9_foreseen 36 = .ok (.ireturn, 1) := by decide +kernel
set_option maxRecDepth 20000 in
theorem ggX9_both_X9_canForesee : GoodIn wsX9_both wsX9_canForesee := goodIn_r _ [6, 7, 8, 9, 5, 10, 11, 12, 13, 14, 15, 16, 17, 18, 19, 20, 21, 22, 23, 24, 25, 26, 27, 28, 29, 30, 31, 32, 33, 34, 35, 36, 37, 38, 39, 40, 41, 42, 43, 59, 60, 61, 62, 63, 64, 65, 66, 67, 68, 69, 70, 71, 72, 73, 74, 75] rfl (by decide +kernel)
set_option maxRecDepth 20000 in
theorem gX9_both_X9_canForesee : GoodIn wsX9_both (wsV RX9 148 RX9 yX9_canForesee wsX9_canForesee) := goodIn_app (goodIn_of _ (by decide +kernel)) ggX9_both_X9_canForesee
set_option maxRecDepth 20000 in
theorem ggX9_both_X9_get : GoodIn wsX9_both wsX9_get := goodIn_r _ [23, 24, 59, 60, 61, 62, 63, 64, 65, 66, 67, 68, 69, 70, 71, 72, 73, 74, 75] rfl (by decide +kernel)
set_option maxRecDepth 20000 in
theorem gX9_both_X9_get : GoodIn wsX9_both (wsV RX9 58 RX9 yX9_get wsX9_get) := goodIn_app (goodIn_of _ (by decide +kernel)) ggX9_both_X9_get
set_option maxRecDepth 20000 in
theorem ggX9_both_X9_flipOf : GoodIn wsX9_both wsX9_flipOf := goodIn_r _ [28, 20, 21, 22, 5, 23, 24, 59, 60, 61, 62, 63, 64, 65, 66, 67, 68, 69, 70, 71, 72, 73, 74, 75] rfl (by decide +kernel)
set_option maxRecDepth 20000 in
theorem gX9_both_X9_flipOf : GoodIn wsX9_both (wsV RX9 115 RX9 yX9_flipOf wsX9_flipOf) := goodIn_app (goodIn_of _ (by decide +kernel)) ggX9_both_X9_flipOf
set_option maxRecDepth 20000 in
theorem ggX9_both_X9_fixed : GoodIn wsX9_both wsX9_fixed := goodIn_r _ [32, 19, 15, 16, 17, 5, 18, 20, 21, 22, 23, 24, 25, 26, 27, 28, 33, 34, 35, 36, 59, 60, 61, 62, 63, 64, 65, 66, 67, 68, 69, 70, 71, 72, 73, 74, 75] rfl (by decide +kernel)
set_option maxRecDepth 20000 in
theorem gX9_both_X9_fixed : GoodIn wsX9_both (wsV RX9 124 RX9 yX9_fixed wsX9_fixed) := goodIn_app (goodIn_of _ (by decide +kernel)) ggX9_both_X9_fixed
set_option maxRecDepth 20000 in
theorem ggX9_both_X9_some : GoodIn wsX9_both wsX9_some := goodIn_r _ [36, 19, 59, 60, 61, 62, 63, 64, 65, 66, 67, 68, 69, 70, 71, 72, 73, 74, 75] rfl (by decide +kernel)
set_option maxRecDepth 20000 in
theorem gX9_both_X9_some : GoodIn wsX9_both (wsV RX9 121 RX9 yX9_some wsX9_some) := goodIn_app (goodIn_of _ (by decide +kernel)) ggX9_both_X9_some
set_option maxRecDepth 20000 in
theorem ggX9_both_X9_isForeseen : GoodIn wsX9_both wsX9_isForeseen := goodIn_r _ [47, 48, 49, 50, 5, 51, 19, 15, 16, 17, 18, 33, 34, 35, 36, 52, 53, 54, 55, 20, 21, 22, 23, 24, 56, 57, 58, 59, 60, 61, 62, 63, 64, 65, 66, 67, 68, 69, 70, 71, 72, 73, 74, 75] rfl (by decide +kernel)
set_option maxRecDepth 20000 in
theorem gX9_both_X9_isForeseen : GoodIn wsX9_both (wsV RX9 145 RX9 yX9_isForeseen wsX9_isForeseen) := goodIn_app (goodIn_of _ (by decide +kernel)) ggX9_both_X9_isForeseen
theorem dX9_both_0 : decode cX9_both 0 = .ok (.aload_n 0, 1) := by decide +kernel
theorem dX9_both_1 : decode cX9_both 1 = .ok (.iconst 0, 1) := by decide +kernel
theorem dX9_both_2 : decode cX9_both 2 = .ok (.putfield 43, 3) := by decide +kernel
theorem dX9_both_5 : decode cX9_both 5 = .ok (.aload_n 0, 1) := by decide +kernel
theorem dX9_both_6 : decode cX9_both 6 = .ok (.iload_n 1, 1) := by decide +kernel
theorem dX9_both_7 : decode cX9_both 7 = .ok (.invokevirtual 148, 3) := by decide +kernel
theorem dX9_both_10 : decode cX9_both 10 = .ok (.ifCond .eq 26, 3) := by decide +kernel
theorem dX9_both_13 : decode cX9_both 13 = .ok (.aload_n 0, 1) := by decide +kernel
theorem dX9_both_14 : decode cX9_both 14 = .ok (.iload_n 2, 1) := by decide +kernel
theorem dX9_both_15 : decode cX9_both 15 = .ok (.invokevirtual 148, 3) := by decide +kernel
theorem dX9_both_18 : decode cX9_both 18 = .ok (.ifCond .eq 18, 3) := by decide +kernel
theorem dX9_both_21 : decode cX9_both 21 = .ok (.aload_n 0, 1) := by decide +kernel
theorem dX9_both_22 : decode cX9_both 22 = .ok (.iload_n 1, 1) := by decide +kernel
theorem dX9_both_23 : decode cX9_both 23 = .ok (.iconst 1, 1) := by decide +kernel
theorem dX9_both_24 : decode cX9_both 24 = .ok (.invokevirtual 58, 3) := by decide +kernel
theorem dX9_both_27 : decode cX9_both 27 = .ok (.aload_n 0, 1) := by decide +kernel
theorem dX9_both_28 : decode cX9_both 28 = .ok (.iload_n 2, 1) := by decide +kernel
theorem dX9_both_29 : decode cX9_both 29 = .ok (.iconst 1, 1) := by decide +kernel
theorem dX9_both_30 : decode cX9_both 30 = .ok (.invokevirtual 58, 3) := by decide +kernel
theorem dX9_both_33 : decode cX9_both 33 = .ok (.if_icmp .eq 5, 3) := by decide +kernel
theorem dX9_both_36 : decode cX9_both 36 = .ok (.iconst (-1), 1) := by decide +kernel
theorem dX9_both_37 : decode cX9_both 37 = .ok (.ireturn, 1) := by decide +kernel
theorem dX9_both_38 : decode cX9_both 38 = .ok (.iconst 1, 1) := by decide +kernel
theorem dX9_both_39 : decode cX9_both 39 = .ok (.aload_n 0, 1) := by decide +kernel
theorem dX9_both_40 : decode cX9_both 40 = .ok (.iload_n 1, 1) := by decide +kernel
theorem dX9_both_41 : decode cX9_both 41 = .ok (.iconst 1, 1) := by decide +kernel
theorem dX9_both_42 : decode cX9_both 42 = .ok (.invokevirtual 58, 3) := by decide +kernel
theorem dX9_both_45 : decode cX9_both 45 = .ok (.ishl, 1) := by decide +kernel
theorem dX9_both_46 : decode cX9_both 46 = .ok (.iconst 1, 1) := by decide +kernel
theorem dX9_both_47 : decode cX9_both 47 = .ok (.isub, 1) := by decide +kernel
theorem dX9_both_48 : decode cX9_both 48 = .ok (.aload_n 0, 1) := by decide +kernel
theorem dX9_both_49 : decode cX9_both 49 = .ok (.iload_n 1, 1) := by decide +kernel
theorem dX9_both_50 : decode cX9_both 50 = .ok (.invokevirtual 115, 3) := by decide +kernel
theorem dX9_both_53 : decode cX9_both 53 = .ok (.iconst (-1), 1) := by decide +kernel
theorem dX9_both_54 : decode cX9_both 54 = .ok (.ixor, 1) := by decide +kernel
theorem dX9_both_55 : decode cX9_both 55 = .ok (.iand, 1) := by decide +kernel
theorem dX9_both_56 : decode cX9_both 56 = .ok (.aload_n 0, 1) := by decide +kernel
theorem dX9_both_57 : decode cX9_both 57 = .ok (.iload_n 1, 1) := by decide +kernel
theorem dX9_both_58 : decode cX9_both 58 = .ok (.invokevirtual 124, 3) := by decide +kernel
theorem dX9_both_61 : decode cX9_both 61 = .ok (.iconst (-1), 1) := by decide +kernel
theorem dX9_both_62 : decode cX9_both 62 = .ok (.ixor, 1) := by decide +kernel
theorem dX9_both_63 : decode cX9_both 63 = .ok (.iand, 1) := by decide +kernel
theorem dX9_both_64 : decode cX9_both 64 = .ok (.istore_n 3, 1) := by decide +kernel
theorem dX9_both_65 : decode cX9_both 65 = .ok (.aload_n 0, 1) := by decide +kernel
theorem dX9_both_66 : decode cX9_both 66 = .ok (.iload_n 1, 1) := by decide +kernel
theorem dX9_both_67 : decode cX9_both 67 = .ok (.invokevirtual 121, 3) := by decide +kernel
theorem dX9_both_70 : decode cX9_both 70 = .ok (.aload_n 0, 1) := by decide +kernel
theorem dX9_both_71 : decode cX9_both 71 = .ok (.iload_n 1, 1) := by decide +kernel
theorem dX9_both_72 : decode cX9_both 72 = .ok (.invokevirtual 124, 3) := by decide +kernel
theorem dX9_both_75 : decode cX9_both 75 = .ok (.iand, 1) := by decide +kernel
theorem dX9_both_76 : decode cX9_both 76 = .ok (.istore 4, 2) := by decide +kernel
theorem dX9_both_78 : decode cX9_both 78 = .ok (.iconst 0, 1) := by decide +kernel
theorem dX9_both_79 : decode cX9_both 79 = .ok (.istore 5, 2) := by decide +kernel
theorem dX9_both_81 : decode cX9_both 81 = .ok (.iconst 1, 1) := by decide +kernel
theorem dX9_both_82 : decode cX9_both 82 = .ok (.istore 6, 2) := by decide +kernel
theorem dX9_both_84 : decode cX9_both 84 = .ok (.iload 6, 2) := by decide +kernel
theorem dX9_both_86 : decode cX9_both 86 = .ok (.ifCond .eq 97, 3) := by decide +kernel
theorem dX9_both_89 : decode cX9_both 89 = .ok (.iload 4, 2) := by decide +kernel
theorem dX9_both_91 : decode cX9_both 91 = .ok (.iload 5, 2) := by decide +kernel
theorem dX9_both_93 : decode cX9_both 93 = .ok (.ior, 1) := by decide +kernel
theorem dX9_both_94 : decode cX9_both 94 = .ok (.istore 7, 2) := by decide +kernel
theorem dX9_both_96 : decode cX9_both 96 = .ok (.iload 7, 2) := by decide +kernel
theorem dX9_both_98 : decode cX9_both 98 = .ok (.aload_n 0, 1) := by decide +kernel
theorem dX9_both_99 : decode cX9_both 99 = .ok (.iload_n 2, 1) := by decide +kernel
theorem dX9_both_100 : decode cX9_both 100 = .ok (.invokevirtual 115, 3) := by decide +kernel
theorem dX9_both_103 : decode cX9_both 103 = .ok (.iand, 1) := by decide +kernel
theorem dX9_both_104 : decode cX9_both 104 = .ok (.ifCond .ne 24, 3) := by decide +kernel
theorem dX9_both_107 : decode cX9_both 107 = .ok (.iload 7, 2) := by decide +kernel
theorem dX9_both_109 : decode cX9_both 109 = .ok (.aload_n 0, 1) := by decide +kernel
theorem dX9_both_110 : decode cX9_both 110 = .ok (.iload_n 2, 1) := by decide +kernel
theorem dX9_both_111 : decode cX9_both 111 = .ok (.invokevirtual 121, 3) := by decide +kernel
theorem dX9_both_114 : decode cX9_both 114 = .ok (.ixor, 1) := by decide +kernel
theorem dX9_both_115 : decode cX9_both 115 = .ok (.aload_n 0, 1) := by decide +kernel
theorem dX9_both_116 : decode cX9_both 116 = .ok (.iload_n 2, 1) := by decide +kernel
theorem dX9_both_117 : decode cX9_both 117 = .ok (.invokevirtual 124, 3) := by decide +kernel
theorem dX9_both_120 : decode cX9_both 120 = .ok (.iand, 1) := by decide +kernel
theorem dX9_both_121 : decode cX9_both 121 = .ok (.ifCond .ne 7, 3) := by decide +kernel
theorem dX9_both_124 : decode cX9_both 124 = .ok (.iconst 1, 1) := by decide +kernel
theorem dX9_both_125 : decode cX9_both 125 = .ok (.goto 4, 3) := by decide +kernel
theorem dX9_both_128 : decode cX9_both 128 = .ok (.iconst 0, 1) := by decide +kernel
theorem dX9_both_129 : decode cX9_both 129 = .ok (.istore 8, 2) := by decide +kernel
theorem dX9_both_131 : decode cX9_both 131 = .ok (.iload 8, 2) := by decide +kernel
theorem dX9_both_133 : decode cX9_both 133 = .ok (.ifCond .eq 26, 3) := by decide +kernel
theorem dX9_both_136 : decode cX9_both 136 = .ok (.aload_n 0, 1) := by decide +kernel
theorem dX9_both_137 : decode cX9_both 137 = .ok (.iload_n 1, 1) := by decide +kernel
theorem dX9_both_138 : decode cX9_both 138 = .ok (.iload 7, 2) := by decide +kernel
theorem dX9_both_140 : decode cX9_both 140 = .ok (.invokevirtual 145, 3) := by decide +kernel
theorem dX9_both_143 : decode cX9_both 143 = .ok (.ifCond .eq 16, 3) := by decide +kernel
theorem dX9_both_146 : decode cX9_both 146 = .ok (.aload_n 0, 1) := by decide +kernel
theorem dX9_both_147 : decode cX9_both 147 = .ok (.iload_n 2, 1) := by decide +kernel
theorem dX9_both_148 : decode cX9_both 148 = .ok (.iload 7, 2) := by decide +kernel
theorem dX9_both_150 : decode cX9_both 150 = .ok (.invokevirtual 145, 3) := by decide +kernel
theorem dX9_both_153 : decode cX9_both 153 = .ok (.ifCond .eq 6, 3) := by decide +kernel
end
section
theorem dX9_both_156 : decode cX9_both 156 = .ok (.iload 7, 2) := by decide +kernel
theorem dX9_both_158 : decode cX9_both 158 = .ok (.ireturn, 1) := by decide +kernel
theorem dX9_both_159 : decode cX9_both 159 = .ok (.iload 5, 2) := by decide +kernel
theorem dX9_both_161 : decode cX9_both 161 = .ok (.iload_n 3, 1) := by decide +kernel
theorem dX9_both_162 : decode cX9_both 162 = .ok (.if_icmp .eq 7, 3) := by decide +kernel
theorem dX9_both_165 : decode cX9_both 165 = .ok (.iconst 1, 1) := by decide +kernel
theorem dX9_both_166 : decode cX9_both 166 = .ok (.goto 4, 3) := by decide +kernel
theorem dX9_both_169 : decode cX9_both 169 = .ok (.iconst 0, 1) := by decide +kernel
theorem dX9_both_170 : decode cX9_both 170 = .ok (.istore 6, 2) := by decide +kernel
theorem dX9_both_172 : decode cX9_both 172 = .ok (.iload 5, 2) := by decide +kernel
theorem dX9_both_174 : decode cX9_both 174 = .ok (.iload_n 3, 1) := by decide +kernel
theorem dX9_both_175 : decode cX9_both 175 = .ok (.isub, 1) := by decide +kernel
theorem dX9_both_176 : decode cX9_both 176 = .ok (.iload_n 3, 1) := by decide +kernel
theorem dX9_both_177 : decode cX9_both 177 = .ok (.iand, 1) := by decide +kernel
theorem dX9_both_178 : decode cX9_both 178 = .ok (.istore 5, 2) := by decide +kernel
theorem dX9_both_180 : decode cX9_both 180 = .ok (.goto (-96), 3) := by decide +kernel
theorem dX9_both_183 : decode cX9_both 183 = .ok (.bipush (-2), 2) := by decide +kernel
theorem dX9_both_185 : decode cX9_both 185 = .ok (.ireturn, 1) := by decide +kernel
set_option maxRecDepth 20000 in
theorem ggX9_isBox_X9_in : GoodIn wsX9_isBox wsX9_in := goodIn_r _ [4] rfl (by decide +kernel)
set_option maxRecDepth 20000 in
theorem gX9_isBox_X9_in : GoodIn wsX9_isBox (va_wsS RX9 50 yX9_in wsX9_in) := goodIn_app (goodIn_of _ (by decide +kernel)) ggX9_isBox_X9_in
theorem dX9_isBox_0 : decode cX9_isBox 0 = .ok (.iload_n 0, 1) := by decide +kernel
theorem dX9_isBox_1 : decode cX9_isBox 1 = .ok (.iconst 0, 1) := by decide +kernel
theorem dX9_isBox_2 : decode cX9_isBox 2 = .ok (.iconst 3, 1) := by decide +kernel
theorem dX9_isBox_3 : decode cX9_isBox 3 = .ok (.invokestatic 50, 3) := by decide +kernel
theorem dX9_isBox_6 : decode cX9_isBox 6 = .ok (.ireturn, 1) := by decide +kernel
set_option maxRecDepth 20000 in
theorem ggX9_box_X9_isBox : GoodIn wsX9_box wsX9_isBox := goodIn_r _ [9, 10, 11, 8, 12] rfl (by decide +kernel)
set_option maxRecDepth 20000 in
theorem gX9_box_X9_isBox : GoodIn wsX9_box (va_wsS RX9 156 yX9_isBox wsX9_isBox) := goodIn_app (goodIn_of _ (by decide +kernel)) ggX9_box_X9_isBox
set_option maxRecDepth 20000 in
theorem ggX9_box_X9_in : GoodIn wsX9_box wsX9_in := goodIn_r _ [12] rfl (by decide +kernel)
set_option maxRecDepth 20000 in
theorem gX9_box_X9_in : GoodIn wsX9_box (va_wsS RX9 50 yX9_in wsX9_in) := goodIn_app (goodIn_of _ (by decide +kernel)) ggX9_box_X9_in
theorem dX9_box_0 : decode cX9_box 0 = .ok (.aload_n 0, 1) := by decide +kernel
theorem dX9_box_1 : decode cX9_box 1 = .ok (.iconst 0, 1) := by decide +kernel
theorem dX9_box_2 : decode cX9_box 2 = .ok (.putfield 43, 3) := by decide +kernel
theorem dX9_box_5 : decode cX9_box 5 = .ok (.iload_n 1, 1) := by decide +kernel
theorem dX9_box_6 : decode cX9_box 6 = .ok (.invokestatic 156, 3) := by decide +kernel
theorem dX9_box_9 : decode cX9_box 9 = .ok (.ifCond .eq 22, 3) := by decide +kernel
theorem dX9_box_12 : decode cX9_box 12 = .ok (.iload_n 2, 1) := by decide +kernel
theorem dX9_box_13 : decode cX9_box 13 = .ok (.iconst 1, 1) := by decide +kernel
theorem dX9_box_14 : decode cX9_box 14 = .ok (.bipush 8, 2) := by decide +kernel
theorem dX9_box_16 : decode cX9_box 16 = .ok (.invokestatic 50, 3) := by decide +kernel
theorem dX9_box_19 : decode cX9_box 19 = .ok (.ifCond .eq 12, 3) := by decide +kernel
theorem dX9_box_22 : decode cX9_box 22 = .ok (.iload_n 3, 1) := by decide +kernel
theorem dX9_box_23 : decode cX9_box 23 = .ok (.iconst 1, 1) := by decide +kernel
theorem dX9_box_24 : decode cX9_box 24 = .ok (.iconst 4, 1) := by decide +kernel
theorem dX9_box_25 : decode cX9_box 25 = .ok (.invokestatic 50, 3) := by decide +kernel
theorem dX9_box_28 : decode cX9_box 28 = .ok (.ifCond .ne 5, 3) := by decide +kernel
theorem dX9_box_31 : decode cX9_box 31 = .ok (.iconst 0, 1) := by decide +kernel
theorem dX9_box_32 : decode cX9_box 32 = .ok (.ireturn, 1) := by decide +kernel
theorem dX9_box_33 : decode cX9_box 33 = .ok (.aload_n 0, 1) := by decide +kernel
theorem dX9_box_34 : decode cX9_box 34 = .ok (.getfield 19, 3) := by decide +kernel
theorem dX9_box_37 : decode cX9_box 37 = .ok (.iload_n 1, 1) := by decide +kernel
theorem dX9_box_38 : decode cX9_box 38 = .ok (.iload_n 2, 1) := by decide +kernel
theorem dX9_box_39 : decode cX9_box 39 = .ok (.iastore, 1) := by decide +kernel
theorem dX9_box_40 : decode cX9_box 40 = .ok (.aload_n 0, 1) := by decide +kernel
theorem dX9_box_41 : decode cX9_box 41 = .ok (.getfield 22, 3) := by decide +kernel
theorem dX9_box_44 : decode cX9_box 44 = .ok (.iload_n 1, 1) := by decide +kernel
theorem dX9_box_45 : decode cX9_box 45 = .ok (.iload_n 3, 1) := by decide +kernel
theorem dX9_box_46 : decode cX9_box 46 = .ok (.iastore, 1) := by decide +kernel
theorem dX9_box_47 : decode cX9_box 47 = .ok (.iconst 0, 1) := by decide +kernel
theorem dX9_box_48 : decode cX9_box 48 = .ok (.istore 4, 2) := by decide +kernel
theorem dX9_box_50 : decode cX9_box 50 = .ok (.iload 4, 2) := by decide +kernel
theorem dX9_box_52 : decode cX9_box 52 = .ok (.bipush 32, 2) := by decide +kernel
theorem dX9_box_54 : decode cX9_box 54 = .ok (.if_icmp .ge 22, 3) := by decide +kernel
theorem dX9_box_57 : decode cX9_box 57 = .ok (.aload_n 0, 1) := by decide +kernel
theorem dX9_box_58 : decode cX9_box 58 = .ok (.getfield 25, 3) := by decide +kernel
theorem dX9_box_61 : decode cX9_box 61 = .ok (.bipush 32, 2) := by decide +kernel
theorem dX9_box_63 : decode cX9_box 63 = .ok (.iload_n 1, 1) := by decide +kernel
theorem dX9_box_64 : decode cX9_box 64 = .ok (.imul, 1) := by decide +kernel
theorem dX9_box_65 : decode cX9_box 65 = .ok (.iload 4, 2) := by decide +kernel
theorem dX9_box_67 : decode cX9_box 67 = .ok (.iadd, 1) := by decide +kernel
theorem dX9_box_68 : decode cX9_box 68 = .ok (.iconst 0, 1) := by decide +kernel
theorem dX9_box_69 : decode cX9_box 69 = .ok (.iastore, 1) := by decide +kernel
theorem dX9_box_70 : decode cX9_box 70 = .ok (.iinc 4 1, 3) := by decide +kernel
theorem dX9_box_73 : decode cX9_box 73 = .ok (.goto (-23), 3) := by decide +kernel
theorem dX9_box_76 : decode cX9_box 76 = .ok (.aload_n 0, 1) := by decide +kernel
theorem dX9_box_77 : decode cX9_box 77 = .ok (.getfield 28, 3) := by decide +kernel
theorem dX9_box_80 : decode cX9_box 80 = .ok (.iload_n 1, 1) := by decide +kernel
theorem dX9_box_81 : decode cX9_box 81 = .ok (.iconst 1, 1) := by decide +kernel
theorem dX9_box_82 : decode cX9_box 82 = .ok (.iload_n 2, 1) := by decide +kernel
theorem dX9_box_83 : decode cX9_box 83 = .ok (.ishl, 1) := by decide +kernel
theorem dX9_box_84 : decode cX9_box 84 = .ok (.iconst 1, 1) := by decide +kernel
theorem dX9_box_85 : decode cX9_box 85 = .ok (.isub, 1) := by decide +kernel
theorem dX9_box_86 : decode cX9_box 86 = .ok (.iastore, 1) := by decide +kernel
theorem dX9_box_87 : decode cX9_box 87 = .ok (.iconst 1, 1) := by decide +kernel
theorem dX9_box_88 : decode cX9_box 88 = .ok (.ireturn, 1) := by decide +kernel
set_option maxRecDepth 20000 in
theorem ggX9_lead_X9_isBox : GoodIn wsX9_lead wsX9_isBox := goodIn_r _ [8, 9, 10, 7, 11] rfl (by decide +kernel)
set_option maxRecDepth 20000 in
theorem gX9_lead_X9_isBox : GoodIn wsX9_lead (va_wsS RX9 156 yX9_isBox wsX9_isBox) := goodIn_app (goodIn_of _ (by decide +kernel)) ggX9_lead_X9_isBox
set_option maxRecDepth 20000 in
theorem ggX9_lead_X9_in : GoodIn wsX9_lead wsX9_in := goodIn_r _ [11] rfl (by decide +kernel)
set_option maxRecDepth 20000 in
theorem gX9_lead_X9_in : GoodIn wsX9_lead (va_wsS RX9 50 yX9_in wsX9_in) := goodIn_app (goodIn_of _ (by decide +kernel)) ggX9_lead_X9_in
theorem dX9_lead_0 : decode cX9_lead 0 = .ok (.aload_n 0, 1) := by decide +kernel
theorem dX9_lead_1 : decode cX9_lead 1 = .ok (.iconst 0, 1) := by decide +kernel
theorem dX9_lead_2 : decode cX9_lead 2 = .ok (.putfield 43, 3) := by decide +kernel
theorem dX9_lead_5 : decode cX9_lead 5 = .ok (.iload_n 1, 1) := by decide +kernel
theorem dX9_lead_6 : decode cX9_lead 6 = .ok (.invokestatic 156, 3) := by decide +kernel
theorem dX9_lead_9 : decode cX9_lead 9 = .ok (.ifCond .eq 52, 3) := by decide +kernel
theorem dX9_lead_12 : decode cX9_lead 12 = .ok (.iload_n 2, 1) := by decide +kernel
theorem dX9_lead_13 : decode cX9_lead 13 = .ok (.iconst 0, 1) := by decide +kernel
theorem dX9_lead_14 : decode cX9_lead 14 = .ok (.aload_n 0, 1) := by decide +kernel
theorem dX9_lead_15 : decode cX9_lead 15 = .ok (.getfield 19, 3) := by decide +kernel
theorem dX9_lead_18 : decode cX9_lead 18 = .ok (.iload_n 1, 1) := by decide +kernel
theorem dX9_lead_19 : decode cX9_lead 19 = .ok (.iaload, 1) := by decide +kernel
theorem dX9_lead_20 : decode cX9_lead 20 = .ok (.iconst 1, 1) := by decide +kernel
theorem dX9_lead_21 : decode cX9_lead 21 = .ok (.isub, 1) := by decide +kernel
theorem dX9_lead_22 : decode cX9_lead 22 = .ok (.invokestatic 50, 3) := by decide +kernel
theorem dX9_lead_25 : decode cX9_lead 25 = .ok (.ifCond .eq 36, 3) := by decide +kernel
theorem dX9_lead_28 : decode cX9_lead 28 = .ok (.iload_n 3, 1) := by decide +kernel
theorem dX9_lead_29 : decode cX9_lead 29 = .ok (.iconst 0, 1) := by decide +kernel
theorem dX9_lead_30 : decode cX9_lead 30 = .ok (.aload_n 0, 1) := by decide +kernel
theorem dX9_lead_31 : decode cX9_lead 31 = .ok (.getfield 22, 3) := by decide +kernel
theorem dX9_lead_34 : decode cX9_lead 34 = .ok (.iload_n 1, 1) := by decide +kernel
theorem dX9_lead_35 : decode cX9_lead 35 = .ok (.iaload, 1) := by decide +kernel
theorem dX9_lead_36 : decode cX9_lead 36 = .ok (.iconst 1, 1) := by decide +kernel
theorem dX9_lead_37 : decode cX9_lead 37 = .ok (.isub, 1) := by decide +kernel
theorem dX9_lead_38 : decode cX9_lead 38 = .ok (.invokestatic 50, 3) := by decide +kernel
theorem dX9_lead_41 : decode cX9_lead 41 = .ok (.ifCond .eq 20, 3) := by decide +kernel
theorem dX9_lead_44 : decode cX9_lead 44 = .ok (.iload 4, 2) := by decide +kernel
theorem dX9_lead_46 : decode cX9_lead 46 = .ok (.iconst 0, 1) := by decide +kernel
theorem dX9_lead_47 : decode cX9_lead 47 = .ok (.aload_n 0, 1) := by decide +kernel
theorem dX9_lead_48 : decode cX9_lead 48 = .ok (.getfield 19, 3) := by decide +kernel
theorem dX9_lead_51 : decode cX9_lead 51 = .ok (.iload_n 1, 1) := by decide +kernel
theorem dX9_lead_52 : decode cX9_lead 52 = .ok (.iaload, 1) := by decide +kernel
theorem dX9_lead_53 : decode cX9_lead 53 = .ok (.iconst 1, 1) := by decide +kernel
theorem dX9_lead_54 : decode cX9_lead 54 = .ok (.isub, 1) := by decide +kernel
theorem dX9_lead_55 : decode cX9_lead 55 = .ok (.invokestatic 50, 3) := by decide +kernel
theorem dX9_lead_58 : decode cX9_lead 58 = .ok (.ifCond .ne 5, 3) := by decide +kernel
theorem dX9_lead_61 : decode cX9_lead 61 = .ok (.iconst 0, 1) := by decide +kernel
theorem dX9_lead_62 : decode cX9_lead 62 = .ok (.ireturn, 1) := by decide +kernel
theorem dX9_lead_63 : decode cX9_lead 63 = .ok (.aload_n 0, 1) := by decide +kernel
theorem dX9_lead_64 : decode cX9_lead 64 = .ok (.getfield 25, 3) := by decide +kernel
theorem dX9_lead_67 : decode cX9_lead 67 = .ok (.bipush 32, 2) := by decide +kernel
theorem dX9_lead_69 : decode cX9_lead 69 = .ok (.iload_n 1, 1) := by decide +kernel
theorem dX9_lead_70 : decode cX9_lead 70 = .ok (.imul, 1) := by decide +kernel
theorem dX9_lead_71 : decode cX9_lead 71 = .ok (.iconst 4, 1) := by decide +kernel
theorem dX9_lead_72 : decode cX9_lead 72 = .ok (.iload_n 2, 1) := by decide +kernel
theorem dX9_lead_73 : decode cX9_lead 73 = .ok (.imul, 1) := by decide +kernel
theorem dX9_lead_74 : decode cX9_lead 74 = .ok (.iadd, 1) := by decide +kernel
theorem dX9_lead_75 : decode cX9_lead 75 = .ok (.iload_n 3, 1) := by decide +kernel
theorem dX9_lead_76 : decode cX9_lead 76 = .ok (.iadd, 1) := by decide +kernel
theorem dX9_lead_77 : decode cX9_lead 77 = .ok (.iload 4, 2) := by decide +kernel
theorem dX9_lead_79 : decode cX9_lead 79 = .ok (.iastore, 1) := by decide +kernel
theorem dX9_lead_80 : decode cX9_lead 80 = .ok (.iconst 1, 1) := by decide +kernel
theorem dX9_lead_81 : decode cX9_lead 81 = .ok (.ireturn, 1) := by decide +kernel
set_option maxRecDepth 20000 in
theorem ggX9_isSet_X9_in : GoodIn wsX9_isSet wsX9_in := goodIn_r _ [5] rfl (by decide +kernel)
set_option maxRecDepth 20000 in
theorem gX9_isSet_X9_in : GoodIn wsX9_isSet (va_wsS RX9 50 yX9_in wsX9_in) := goodIn_app (goodIn_of _ (by decide +kernel)) ggX9_isSet_X9_in
theorem dX9_isSet_0 : decode cX9_isSet 0 = .ok (.iload_n 2, 1) := by decide +kernel
theorem dX9_isSet_1 : decode cX9_isSet 1 = .ok (.iconst 1, 1) := by decide +kernel
theorem dX9_isSet_2 : decode cX9_isSet 2 = .ok (.iconst 1, 1) := by decide +kernel
theorem dX9_isSet_3 : decode cX9_isSet 3 = .ok (.aload_n 0, 1) := by decide +kernel
theorem dX9_isSet_4 : decode cX9_isSet 4 = .ok (.getfield 19, 3) := by decide +kernel
theorem dX9_isSet_7 : decode cX9_isSet 7 = .ok (.iload_n 1, 1) := by decide +kernel
theorem dX9_isSet_8 : decode cX9_isSet 8 = .ok (.iaload, 1) := by decide +kernel
theorem dX9_isSet_9 : decode cX9_isSet 9 = .ok (.ishl, 1) := by decide +kernel
theorem dX9_isSet_10 : decode cX9_isSet 10 = .ok (.iconst 1, 1) := by decide +kernel
theorem dX9_isSet_11 : decode cX9_isSet 11 = .ok (.isub, 1) := by decide +kernel
theorem dX9_isSet_12 : decode cX9_isSet 12 = .ok (.invokestatic 50, 3) := by decide +kernel
theorem dX9_isSet_15 : decode cX9_isSet 15 = .ok (.ireturn, 1) := by decide +kernel
set_option maxRecDepth 20000 in
theorem ggX9_maybe_X9_isBox : GoodIn wsX9_maybe wsX9_isBox := goodIn_r _ [6, 7, 8, 5, 9] rfl (by decide +kernel)
set_option maxRecDepth 20000 in
theorem gX9_maybe_X9_isBox : GoodIn wsX9_maybe (va_wsS RX9 156 yX9_isBox wsX9_isBox) := goodIn_app (goodIn_of _ (by decide +kernel)) ggX9_maybe_X9_isBox
set_option maxRecDepth 20000 in
theorem ggX9_maybe_X9_isSet : GoodIn wsX9_maybe wsX9_isSet := goodIn_r _ [13, 14, 7, 8, 5, 9, 15, 16, 17, 18, 19, 20, 21, 22, 23, 24, 25, 26, 27, 28, 29, 30, 31] rfl (by decide +kernel)
set_option maxRecDepth 20000 in
theorem gX9_maybe_X9_isSet : GoodIn wsX9_maybe (wsV RX9 159 RX9 yX9_isSet wsX9_isSet) := goodIn_app (goodIn_of _ (by decide +kernel)) ggX9_maybe_X9_isSet
theorem dX9_maybe_0 : decode cX9_maybe 0 = .ok (.aload_n 0, 1) := by decide +kernel
theorem dX9_maybe_1 : decode cX9_maybe 1 = .ok (.iconst 0, 1) := by decide +kernel
theorem dX9_maybe_2 : decode cX9_maybe 2 = .ok (.putfield 43, 3) := by decide +kernel
theorem dX9_maybe_5 : decode cX9_maybe 5 = .ok (.iload_n 1, 1) := by decide +kernel
theorem dX9_maybe_6 : decode cX9_maybe 6 = .ok (.invokestatic 156, 3) := by decide +kernel
theorem dX9_maybe_9 : decode cX9_maybe 9 = .ok (.ifCond .eq 12, 3) := by decide +kernel
theorem dX9_maybe_12 : decode cX9_maybe 12 = .ok (.aload_n 0, 1) := by decide +kernel
theorem dX9_maybe_13 : decode cX9_maybe 13 = .ok (.iload_n 1, 1) := by decide +kernel
theorem dX9_maybe_14 : decode cX9_maybe 14 = .ok (.iload_n 2, 1) := by decide +kernel
theorem dX9_maybe_15 : decode cX9_maybe 15 = .ok (.invokevirtual 159, 3) := by decide +kernel
theorem dX9_maybe_18 : decode cX9_maybe 18 = .ok (.ifCond .ne 5, 3) := by decide +kernel
theorem dX9_maybe_21 : decode cX9_maybe 21 = .ok (.iconst 0, 1) := by decide +kernel
theorem dX9_maybe_22 : decode cX9_maybe 22 = .ok (.ireturn, 1) := by decide +kernel
theorem dX9_maybe_23 : decode cX9_maybe 23 = .ok (.aload_n 0, 1) := by decide +kernel
theorem dX9_maybe_24 : decode cX9_maybe 24 = .ok (.getfield 28, 3) := by decide +kernel
theorem dX9_maybe_27 : decode cX9_maybe 27 = .ok (.iload_n 1, 1) := by decide +kernel
theorem dX9_maybe_28 : decode cX9_maybe 28 = .ok (.iload_n 2, 1) := by decide +kernel
theorem dX9_maybe_29 : decode cX9_maybe 29 = .ok (.iastore, 1) := by decide +kernel
theorem dX9_maybe_30 : decode cX9_maybe 30 = .ok (.iconst 1, 1) := by decide +kernel
theorem dX9_maybe_31 : decode cX9_maybe 31 = .ok (.ireturn, 1) := by decide +kernel
theorem dX9_behind_0 : decode cX9_behind 0 = .ok (.iconst 0, 1) := by decide +kernel
theorem dX9_behind_1 : decode cX9_behind 1 = .ok (.istore 4, 2) := by decide +kernel
theorem dX9_behind_3 : decode cX9_behind 3 = .ok (.iconst 0, 1) := by decide +kernel
theorem dX9_behind_4 : decode cX9_behind 4 = .ok (.istore 5, 2) := by decide +kernel
theorem dX9_behind_6 : decode cX9_behind 6 = .ok (.iload 5, 2) := by decide +kernel
theorem dX9_behind_8 : decode cX9_behind 8 = .ok (.aload_n 0, 1) := by decide +kernel
theorem dX9_behind_9 : decode cX9_behind 9 = .ok (.getfield 19, 3) := by decide +kernel
theorem dX9_behind_12 : decode cX9_behind 12 = .ok (.iload_n 1, 1) := by decide +kernel
theorem dX9_behind_13 : decode cX9_behind 13 = .ok (.iaload, 1) := by decide +kernel
theorem dX9_behind_14 : decode cX9_behind 14 = .ok (.if_icmp .ge 42, 3) := by decide +kernel
theorem dX9_behind_17 : decode cX9_behind 17 = .ok (.iload_n 2, 1) := by decide +kernel
theorem dX9_behind_18 : decode cX9_behind 18 = .ok (.iload 5, 2) := by decide +kernel
theorem dX9_behind_20 : decode cX9_behind 20 = .ok (.ishr, 1) := by decide +kernel
theorem dX9_behind_21 : decode cX9_behind 21 = .ok (.iconst 1, 1) := by decide +kernel
theorem dX9_behind_22 : decode cX9_behind 22 = .ok (.iand, 1) := by decide +kernel
theorem dX9_behind_23 : decode cX9_behind 23 = .ok (.iconst 1, 1) := by decide +kernel
theorem dX9_behind_24 : decode cX9_behind 24 = .ok (.if_icmp .ne 26, 3) := by decide +kernel
theorem dX9_behind_27 : decode cX9_behind 27 = .ok (.iload 4, 2) := by decide +kernel
theorem dX9_behind_29 : decode cX9_behind 29 = .ok (.iconst 1, 1) := by decide +kernel
theorem dX9_behind_30 : decode cX9_behind 30 = .ok (.aload_n 0, 1) := by decide +kernel
theorem dX9_behind_31 : decode cX9_behind 31 = .ok (.getfield 25, 3) := by decide +kernel
theorem dX9_behind_34 : decode cX9_behind 34 = .ok (.bipush 32, 2) := by decide +kernel
theorem dX9_behind_36 : decode cX9_behind 36 = .ok (.iload_n 1, 1) := by decide +kernel
theorem dX9_behind_37 : decode cX9_behind 37 = .ok (.imul, 1) := by decide +kernel
theorem dX9_behind_38 : decode cX9_behind 38 = .ok (.iconst 4, 1) := by decide +kernel
theorem dX9_behind_39 : decode cX9_behind 39 = .ok (.iload 5, 2) := by decide +kernel
theorem dX9_behind_41 : decode cX9_behind 41 = .ok (.imul, 1) := by decide +kernel
theorem dX9_behind_42 : decode cX9_behind 42 = .ok (.iadd, 1) := by decide +kernel
theorem dX9_behind_43 : decode cX9_behind 43 = .ok (.iload_n 3, 1) := by decide +kernel
theorem dX9_behind_44 : decode cX9_behind 44 = .ok (.iadd, 1) := by decide +kernel
theorem dX9_behind_45 : decode cX9_behind 45 = .ok (.iaload, 1) := by decide +kernel
theorem dX9_behind_46 : decode cX9_behind 46 = .ok (.ishl, 1) := by decide +kernel
theorem dX9_behind_47 : decode cX9_behind 47 = .ok (.ior, 1) := by decide +kernel
theorem dX9_behind_48 : decode cX9_behind 48 = .ok (.istore 4, 2) := by decide +kernel
theorem dX9_behind_50 : decode cX9_behind 50 = .ok (.iinc 5 1, 3) := by decide +kernel
theorem dX9_behind_53 : decode cX9_behind 53 = .ok (.goto (-47), 3) := by decide +kernel
theorem dX9_behind_56 : decode cX9_behind 56 = .ok (.iload 4, 2) := by decide +kernel
theorem dX9_behind_58 : decode cX9_behind 58 = .ok (.ireturn, 1) := by decide +kernel
set_option maxRecDepth 20000 in
theorem ggX9_push_X9_isBox : GoodIn wsX9_push wsX9_isBox := goodIn_r _ [7, 8, 9, 6, 10] rfl (by decide +kernel)
set_option maxRecDepth 20000 in
theorem gX9_push_X9_isBox : GoodIn wsX9_push (va_wsS RX9 156 yX9_isBox wsX9_isBox) := goodIn_app (goodIn_of _ (by decide +kernel)) ggX9_push_X9_isBox
set_option maxRecDepth 20000 in
theorem ggX9_push_X9_in : GoodIn wsX9_push wsX9_in := goodIn_r _ [10] rfl (by decide +kernel)
set_option maxRecDepth 20000 in
theorem gX9_push_X9_in : GoodIn wsX9_push (va_wsS RX9 50 yX9_in wsX9_in) := goodIn_app (goodIn_of _ (by decide +kernel)) ggX9_push_X9_in
set_option maxRecDepth 20000 in
theorem ggX9_push_X9_behind : GoodIn wsX9_push wsX9_behind := goodIn_r _ [14, 15, 16, 17, 18, 19, 20, 21, 22, 23, 24, 25, 26, 27, 28, 29, 30, 31, 32, 33] rfl (by decide +kernel)
set_option maxRecDepth 20000 in
theorem gX9_push_X9_behind : GoodIn wsX9_push (wsV RX9 162 RX9 yX9_behind wsX9_behind) := goodIn_app (goodIn_of _ (by decide +kernel)) ggX9_push_X9_behind
theorem dX9_push_0 : decode cX9_push 0 = .ok (.aload_n 0, 1) := by decide +kernel
theorem dX9_push_1 : decode cX9_push 1 = .ok (.iconst 0, 1) := by decide +kernel
theorem dX9_push_2 : decode cX9_push 2 = .ok (.putfield 43, 3) := by decide +kernel
theorem dX9_push_5 : decode cX9_push 5 = .ok (.iload_n 1, 1) := by decide +kernel
theorem dX9_push_6 : decode cX9_push 6 = .ok (.invokestatic 156, 3) := by decide +kernel
theorem dX9_push_9 : decode cX9_push 9 = .ok (.ifCond .eq 19, 3) := by decide +kernel
theorem dX9_push_12 : decode cX9_push 12 = .ok (.iload_n 2, 1) := by decide +kernel
theorem dX9_push_13 : decode cX9_push 13 = .ok (.iconst 0, 1) := by decide +kernel
theorem dX9_push_14 : decode cX9_push 14 = .ok (.aload_n 0, 1) := by decide +kernel
theorem dX9_push_15 : decode cX9_push 15 = .ok (.getfield 22, 3) := by decide +kernel
theorem dX9_push_18 : decode cX9_push 18 = .ok (.iload_n 1, 1) := by decide +kernel
theorem dX9_push_19 : decode cX9_push 19 = .ok (.iaload, 1) := by decide +kernel
theorem dX9_push_20 : decode cX9_push 20 = .ok (.iconst 1, 1) := by decide +kernel
theorem dX9_push_21 : decode cX9_push 21 = .ok (.isub, 1) := by decide +kernel
theorem dX9_push_22 : decode cX9_push 22 = .ok (.invokestatic 50, 3) := by decide +kernel
theorem dX9_push_25 : decode cX9_push 25 = .ok (.ifCond .ne 5, 3) := by decide +kernel
theorem dX9_push_28 : decode cX9_push 28 = .ok (.iconst (-1), 1) := by decide +kernel
theorem dX9_push_29 : decode cX9_push 29 = .ok (.ireturn, 1) := by decide +kernel
theorem dX9_push_30 : decode cX9_push 30 = .ok (.aload_n 0, 1) := by decide +kernel
theorem dX9_push_31 : decode cX9_push 31 = .ok (.getfield 28, 3) := by decide +kernel
theorem dX9_push_34 : decode cX9_push 34 = .ok (.iload_n 1, 1) := by decide +kernel
theorem dX9_push_35 : decode cX9_push 35 = .ok (.aload_n 0, 1) := by decide +kernel
theorem dX9_push_36 : decode cX9_push 36 = .ok (.iload_n 1, 1) := by decide +kernel
theorem dX9_push_37 : decode cX9_push 37 = .ok (.aload_n 0, 1) := by decide +kernel
theorem dX9_push_38 : decode cX9_push 38 = .ok (.getfield 28, 3) := by decide +kernel
theorem dX9_push_41 : decode cX9_push 41 = .ok (.iload_n 1, 1) := by decide +kernel
theorem dX9_push_42 : decode cX9_push 42 = .ok (.iaload, 1) := by decide +kernel
theorem dX9_push_43 : decode cX9_push 43 = .ok (.iload_n 2, 1) := by decide +kernel
theorem dX9_push_44 : decode cX9_push 44 = .ok (.invokevirtual 162, 3) := by decide +kernel
theorem dX9_push_47 : decode cX9_push 47 = .ok (.iastore, 1) := by decide +kernel
theorem dX9_push_48 : decode cX9_push 48 = .ok (.aload_n 0, 1) := by decide +kernel
theorem dX9_push_49 : decode cX9_push 49 = .ok (.getfield 28, 3) := by decide +kernel
theorem dX9_push_52 : decode cX9_push 52 = .ok (.iload_n 1, 1) := by decide +kernel
theorem dX9_push_53 : decode cX9_push 53 = .ok (.iaload, 1) := by decide +kernel
theorem dX9_push_54 : decode cX9_push 54 = .ok (.ireturn, 1) := by decide +kernel
set_option maxRecDepth 20000 in
theorem ggX9_way_X9_isBox : GoodIn wsX9_way wsX9_isBox := goodIn_r _ [10, 11, 12, 9, 13] rfl (by decide +kernel)
set_option maxRecDepth 20000 in
theorem gX9_way_X9_isBox : GoodIn wsX9_way (va_wsS RX9 156 yX9_isBox wsX9_isBox) := goodIn_app (goodIn_of _ (by decide +kernel)) ggX9_way_X9_isBox
set_option maxRecDepth 20000 in
theorem ggX9_way_X9_isSet : GoodIn wsX9_way wsX9_isSet := goodIn_r _ [17, 18, 11, 12, 9, 13, 30, 31, 32, 33, 34, 35, 36, 37, 38, 39, 40, 41, 42, 43, 44, 45, 46] rfl (by decide +kernel)
set_option maxRecDepth 20000 in
theorem gX9_way_X9_isSet : GoodIn wsX9_way (wsV RX9 159 RX9 yX9_isSet wsX9_isSet) := goodIn_app (goodIn_of _ (by decide +kernel)) ggX9_way_X9_isSet
set_option maxRecDepth 20000 in
theorem ggX9_way_X9_tell : GoodIn wsX9_way wsX9_tell := goodIn_r _ [22, 4, 2, 23, 24, 6, 30, 31, 32, 33, 34, 35, 36, 37, 38, 39, 40, 41, 42, 43, 44, 45, 46] rfl (by decide +kernel)
set_option maxRecDepth 20000 in
theorem gX9_way_X9_tell : GoodIn wsX9_way (wsV RX9 165 RX9 yX9_tell wsX9_tell) := goodIn_app (goodIn_of _ (by decide +kernel)) ggX9_way_X9_tell
set_option maxRecDepth 20000 in
theorem ggX9_way_X9_behind : GoodIn wsX9_way wsX9_behind := goodIn_r _ [28, 18, 29, 30, 31, 32, 33, 34, 35, 36, 37, 38, 39, 40, 41, 42, 43, 44, 45, 46] rfl (by decide +kernel)
set_option maxRecDepth 20000 in
theorem gX9_way_X9_behind : GoodIn wsX9_way (wsV RX9 162 RX9 yX9_behind wsX9_behind) := goodIn_app (goodIn_of _ (by decide +kernel)) ggX9_way_X9_behind
theorem dX9_way_0 : decode cX9_way 0 = .ok (.aload_n 0, 1) := by decide +kernel
theorem dX9_way_1 : decode cX9_way 1 = .ok (.iconst 0, 1) := by decide +kernel
theorem dX9_way_2 : decode cX9_way 2 = .ok (.putfield 43, 3) := by decide +kernel
theorem dX9_way_5 : decode cX9_way 5 = .ok (.iload_n 1, 1) := by decide +kernel
theorem dX9_way_6 : decode cX9_way 6 = .ok (.invokestatic 156, 3) := by decide +kernel
theorem dX9_way_9 : decode cX9_way 9 = .ok (.ifCond .eq 12, 3) := by decide +kernel
theorem dX9_way_12 : decode cX9_way 12 = .ok (.aload_n 0, 1) := by decide +kernel
theorem dX9_way_13 : decode cX9_way 13 = .ok (.iload_n 1, 1) := by decide +kernel
theorem dX9_way_14 : decode cX9_way 14 = .ok (.iload_n 2, 1) := by decide +kernel
theorem dX9_way_15 : decode cX9_way 15 = .ok (.invokevirtual 159, 3) := by decide +kernel
theorem dX9_way_18 : decode cX9_way 18 = .ok (.ifCond .ne 5, 3) := by decide +kernel
theorem dX9_way_21 : decode cX9_way 21 = .ok (.iconst (-1), 1) := by decide +kernel
theorem dX9_way_22 : decode cX9_way 22 = .ok (.ireturn, 1) := by decide +kernel
theorem dX9_way_23 : decode cX9_way 23 = .ok (.iconst 0, 1) := by decide +kernel
theorem dX9_way_24 : decode cX9_way 24 = .ok (.istore_n 3, 1) := by decide +kernel
theorem dX9_way_25 : decode cX9_way 25 = .ok (.iload_n 3, 1) := by decide +kernel
theorem dX9_way_26 : decode cX9_way 26 = .ok (.sipush 256, 3) := by decide +kernel
theorem dX9_way_29 : decode cX9_way 29 = .ok (.if_icmp .ge 16, 3) := by decide +kernel
theorem dX9_way_32 : decode cX9_way 32 = .ok (.aload_n 0, 1) := by decide +kernel
theorem dX9_way_33 : decode cX9_way 33 = .ok (.getfield 37, 3) := by decide +kernel
theorem dX9_way_36 : decode cX9_way 36 = .ok (.iload_n 3, 1) := by decide +kernel
theorem dX9_way_37 : decode cX9_way 37 = .ok (.iconst (-1), 1) := by decide +kernel
theorem dX9_way_38 : decode cX9_way 38 = .ok (.iastore, 1) := by decide +kernel
theorem dX9_way_39 : decode cX9_way 39 = .ok (.iinc 3 1, 3) := by decide +kernel
theorem dX9_way_42 : decode cX9_way 42 = .ok (.goto (-17), 3) := by decide +kernel
theorem dX9_way_45 : decode cX9_way 45 = .ok (.aload_n 0, 1) := by decide +kernel
theorem dX9_way_46 : decode cX9_way 46 = .ok (.getfield 34, 3) := by decide +kernel
theorem dX9_way_49 : decode cX9_way 49 = .ok (.iconst 0, 1) := by decide +kernel
theorem dX9_way_50 : decode cX9_way 50 = .ok (.aload_n 0, 1) := by decide +kernel
theorem dX9_way_51 : decode cX9_way 51 = .ok (.getfield 28, 3) := by decide +kernel
theorem dX9_way_54 : decode cX9_way 54 = .ok (.iload_n 1, 1) := by decide +kernel
theorem dX9_way_55 : decode cX9_way 55 = .ok (.iaload, 1) := by decide +kernel
theorem dX9_way_56 : decode cX9_way 56 = .ok (.iastore, 1) := by decide +kernel
theorem dX9_way_57 : decode cX9_way 57 = .ok (.aload_n 0, 1) := by decide +kernel
theorem dX9_way_58 : decode cX9_way 58 = .ok (.getfield 37, 3) := by decide +kernel
theorem dX9_way_61 : decode cX9_way 61 = .ok (.aload_n 0, 1) := by decide +kernel
theorem dX9_way_62 : decode cX9_way 62 = .ok (.getfield 28, 3) := by decide +kernel
theorem dX9_way_65 : decode cX9_way 65 = .ok (.iload_n 1, 1) := by decide +kernel
theorem dX9_way_66 : decode cX9_way 66 = .ok (.iaload, 1) := by decide +kernel
theorem dX9_way_67 : decode cX9_way 67 = .ok (.aload_n 0, 1) := by decide +kernel
theorem dX9_way_68 : decode cX9_way 68 = .ok (.getfield 28, 3) := by decide +kernel
theorem dX9_way_71 : decode cX9_way 71 = .ok (.iload_n 1, 1) := by decide +kernel
theorem dX9_way_72 : decode cX9_way 72 = .ok (.iaload, 1) := by decide +kernel
theorem dX9_way_73 : decode cX9_way 73 = .ok (.iastore, 1) := by decide +kernel
theorem dX9_way_74 : decode cX9_way 74 = .ok (.iconst 1, 1) := by decide +kernel
theorem dX9_way_75 : decode cX9_way 75 = .ok (.istore_n 3, 1) := by decide +kernel
theorem dX9_way_76 : decode cX9_way 76 = .ok (.iconst 0, 1) := by decide +kernel
theorem dX9_way_77 : decode cX9_way 77 = .ok (.istore 4, 2) := by decide +kernel
theorem dX9_way_79 : decode cX9_way 79 = .ok (.iload 4, 2) := by decide +kernel
theorem dX9_way_81 : decode cX9_way 81 = .ok (.iload_n 3, 1) := by decide +kernel
theorem dX9_way_82 : decode cX9_way 82 = .ok (.if_icmp .ge 109, 3) := by decide +kernel
theorem dX9_way_85 : decode cX9_way 85 = .ok (.aload_n 0, 1) := by decide +kernel
theorem dX9_way_86 : decode cX9_way 86 = .ok (.getfield 34, 3) := by decide +kernel
theorem dX9_way_89 : decode cX9_way 89 = .ok (.iload 4, 2) := by decide +kernel
theorem dX9_way_91 : decode cX9_way 91 = .ok (.iaload, 1) := by decide +kernel
theorem dX9_way_92 : decode cX9_way 92 = .ok (.istore 5, 2) := by decide +kernel
theorem dX9_way_94 : decode cX9_way 94 = .ok (.iload 5, 2) := by decide +kernel
theorem dX9_way_96 : decode cX9_way 96 = .ok (.iload_n 2, 1) := by decide +kernel
theorem dX9_way_97 : decode cX9_way 97 = .ok (.iconst (-1), 1) := by decide +kernel
theorem dX9_way_98 : decode cX9_way 98 = .ok (.ixor, 1) := by decide +kernel
theorem dX9_way_99 : decode cX9_way 99 = .ok (.iand, 1) := by decide +kernel
theorem dX9_way_100 : decode cX9_way 100 = .ok (.ifCond .ne 11, 3) := by decide +kernel
theorem dX9_way_103 : decode cX9_way 103 = .ok (.aload_n 0, 1) := by decide +kernel
theorem dX9_way_104 : decode cX9_way 104 = .ok (.iload_n 1, 1) := by decide +kernel
theorem dX9_way_105 : decode cX9_way 105 = .ok (.iload 5, 2) := by decide +kernel
theorem dX9_way_107 : decode cX9_way 107 = .ok (.invokevirtual 165, 3) := by decide +kernel
theorem dX9_way_110 : decode cX9_way 110 = .ok (.ireturn, 1) := by decide +kernel
theorem dX9_way_111 : decode cX9_way 111 = .ok (.iconst 0, 1) := by decide +kernel
theorem dX9_way_112 : decode cX9_way 112 = .ok (.istore 6, 2) := by decide +kernel
theorem dX9_way_114 : decode cX9_way 114 = .ok (.iload 6, 2) := by decide +kernel
theorem dX9_way_116 : decode cX9_way 116 = .ok (.aload_n 0, 1) := by decide +kernel
theorem dX9_way_117 : decode cX9_way 117 = .ok (.getfield 22, 3) := by decide +kernel
theorem dX9_way_120 : decode cX9_way 120 = .ok (.iload_n 1, 1) := by decide +kernel
theorem dX9_way_121 : decode cX9_way 121 = .ok (.iaload, 1) := by decide +kernel
theorem dX9_way_122 : decode cX9_way 122 = .ok (.if_icmp .ge 63, 3) := by decide +kernel
theorem dX9_way_125 : decode cX9_way 125 = .ok (.aload_n 0, 1) := by decide +kernel
theorem dX9_way_126 : decode cX9_way 126 = .ok (.iload_n 1, 1) := by decide +kernel
theorem dX9_way_127 : decode cX9_way 127 = .ok (.iload 5, 2) := by decide +kernel
theorem dX9_way_129 : decode cX9_way 129 = .ok (.iload 6, 2) := by decide +kernel
theorem dX9_way_131 : decode cX9_way 131 = .ok (.invokevirtual 162, 3) := by decide +kernel
theorem dX9_way_134 : decode cX9_way 134 = .ok (.istore 7, 2) := by decide +kernel
theorem dX9_way_136 : decode cX9_way 136 = .ok (.aload_n 0, 1) := by decide +kernel
theorem dX9_way_137 : decode cX9_way 137 = .ok (.getfield 37, 3) := by decide +kernel
theorem dX9_way_140 : decode cX9_way 140 = .ok (.iload 7, 2) := by decide +kernel
theorem dX9_way_142 : decode cX9_way 142 = .ok (.iaload, 1) := by decide +kernel
theorem dX9_way_143 : decode cX9_way 143 = .ok (.iconst (-1), 1) := by decide +kernel
theorem dX9_way_144 : decode cX9_way 144 = .ok (.if_icmp .eq 6, 3) := by decide +kernel
theorem dX9_way_147 : decode cX9_way 147 = .ok (.goto 32, 3) := by decide +kernel
theorem dX9_way_150 : decode cX9_way 150 = .ok (.aload_n 0, 1) := by decide +kernel
theorem dX9_way_151 : decode cX9_way 151 = .ok (.getfield 37, 3) := by decide +kernel
theorem dX9_way_154 : decode cX9_way 154 = .ok (.iload 7, 2) := by decide +kernel
theorem dX9_way_156 : decode cX9_way 156 = .ok (.iload 5, 2) := by decide +kernel
theorem dX9_way_158 : decode cX9_way 158 = .ok (.iastore, 1) := by decide +kernel
theorem dX9_way_159 : decode cX9_way 159 = .ok (.aload_n 0, 1) := by decide +kernel
theorem dX9_way_160 : decode cX9_way 160 = .ok (.getfield 40, 3) := by decide +kernel
theorem dX9_way_163 : decode cX9_way 163 = .ok (.iload 7, 2) := by decide +kernel
theorem dX9_way_165 : decode cX9_way 165 = .ok (.iload 6, 2) := by decide +kernel
theorem dX9_way_167 : decode cX9_way 167 = .ok (.iastore, 1) := by decide +kernel
theorem dX9_way_168 : decode cX9_way 168 = .ok (.aload_n 0, 1) := by decide +kernel
theorem dX9_way_169 : decode cX9_way 169 = .ok (.getfield 34, 3) := by decide +kernel
theorem dX9_way_172 : decode cX9_way 172 = .ok (.iload_n 3, 1) := by decide +kernel
theorem dX9_way_173 : decode cX9_way 173 = .ok (.iload 7, 2) := by decide +kernel
theorem dX9_way_175 : decode cX9_way 175 = .ok (.iastore, 1) := by decide +kernel
theorem dX9_way_176 : decode cX9_way 176 = .ok (.iinc 3 1, 3) := by decide +kernel
theorem dX9_way_179 : decode cX9_way 179 = .ok (.iinc 6 1, 3) := by decide +kernel
theorem dX9_way_182 : decode cX9_way 182 = .ok (.goto (-68), 3) := by decide +kernel
theorem dX9_way_185 : decode cX9_way 185 = .ok (.iinc 4 1, 3) := by decide +kernel
theorem dX9_way_188 : decode cX9_way 188 = .ok (.goto (-109), 3) := by decide +kernel
theorem dX9_way_191 : decode cX9_way 191 = .ok (.bipush (-2), 2) := by decide +kernel
theorem dX9_way_193 : decode cX9_way 193 = .ok (.ireturn, 1) := by decide +kernel
theorem dX9_tell_0 : decode cX9_tell 0 = .ok (.iconst 0, 1) := by decide +kernel
theorem dX9_tell_1 : decode cX9_tell 1 = .ok (.istore_n 3, 1) := by decide +kernel
theorem dX9_tell_2 : decode cX9_tell 2 = .ok (.iload_n 2, 1) := by decide +kernel
theorem dX9_tell_3 : decode cX9_tell 3 = .ok (.istore 4, 2) := by decide +kernel
theorem dX9_tell_5 : decode cX9_tell 5 = .ok (.iload 4, 2) := by decide +kernel
theorem dX9_tell_7 : decode cX9_tell 7 = .ok (.aload_n 0, 1) := by decide +kernel
theorem dX9_tell_8 : decode cX9_tell 8 = .ok (.getfield 28, 3) := by decide +kernel
theorem dX9_tell_11 : decode cX9_tell 11 = .ok (.iload_n 1, 1) := by decide +kernel
theorem dX9_tell_12 : decode cX9_tell 12 = .ok (.iaload, 1) := by decide +kernel
theorem dX9_tell_13 : decode cX9_tell 13 = .ok (.if_icmp .eq 18, 3) := by decide +kernel
theorem dX9_tell_16 : decode cX9_tell 16 = .ok (.iinc 3 1, 3) := by decide +kernel
theorem dX9_tell_19 : decode cX9_tell 19 = .ok (.aload_n 0, 1) := by decide +kernel
theorem dX9_tell_20 : decode cX9_tell 20 = .ok (.getfield 37, 3) := by decide +kernel
theorem dX9_tell_23 : decode cX9_tell 23 = .ok (.iload 4, 2) := by decide +kernel
theorem dX9_tell_25 : decode cX9_tell 25 = .ok (.iaload, 1) := by decide +kernel
theorem dX9_tell_26 : decode cX9_tell 26 = .ok (.istore 4, 2) := by decide +kernel
theorem dX9_tell_28 : decode cX9_tell 28 = .ok (.goto (-23), 3) := by decide +kernel
theorem dX9_tell_31 : decode cX9_tell 31 = .ok (.aload_n 0, 1) := by decide +kernel
theorem dX9_tell_32 : decode cX9_tell 32 = .ok (.iload_n 3, 1) := by decide +kernel
theorem dX9_tell_33 : decode cX9_tell 33 = .ok (.putfield 168, 3) := by decide +kernel
theorem dX9_tell_36 : decode cX9_tell 36 = .ok (.iload_n 2, 1) := by decide +kernel
theorem dX9_tell_37 : decode cX9_tell 37 = .ok (.istore 4, 2) := by decide +kernel
theorem dX9_tell_39 : decode cX9_tell 39 = .ok (.iload 4, 2) := by decide +kernel
theorem dX9_tell_41 : decode cX9_tell 41 = .ok (.aload_n 0, 1) := by decide +kernel
theorem dX9_tell_42 : decode cX9_tell 42 = .ok (.getfield 28, 3) := by decide +kernel
theorem dX9_tell_45 : decode cX9_tell 45 = .ok (.iload_n 1, 1) := by decide +kernel
theorem dX9_tell_46 : decode cX9_tell 46 = .ok (.iaload, 1) := by decide +kernel
theorem dX9_tell_47 : decode cX9_tell 47 = .ok (.if_icmp .eq 31, 3) := by decide +kernel
theorem dX9_tell_50 : decode cX9_tell 50 = .ok (.iinc 3 (-1), 3) := by decide +kernel
theorem dX9_tell_53 : decode cX9_tell 53 = .ok (.aload_n 0, 1) := by decide +kernel
theorem dX9_tell_54 : decode cX9_tell 54 = .ok (.getfield 31, 3) := by decide +kernel
theorem dX9_tell_57 : decode cX9_tell 57 = .ok (.iload_n 3, 1) := by decide +kernel
theorem dX9_tell_58 : decode cX9_tell 58 = .ok (.aload_n 0, 1) := by decide +kernel
theorem dX9_tell_59 : decode cX9_tell 59 = .ok (.getfield 40, 3) := by decide +kernel
theorem dX9_tell_62 : decode cX9_tell 62 = .ok (.iload 4, 2) := by decide +kernel
theorem dX9_tell_64 : decode cX9_tell 64 = .ok (.iaload, 1) := by decide +kernel
theorem dX9_tell_65 : decode cX9_tell 65 = .ok (.iastore, 1) := by decide +kernel
theorem dX9_tell_66 : decode cX9_tell 66 = .ok (.aload_n 0, 1) := by decide +kernel
theorem dX9_tell_67 : decode cX9_tell 67 = .ok (.getfield 37, 3) := by decide +kernel
theorem dX9_tell_70 : decode cX9_tell 70 = .ok (.iload 4, 2) := by decide +kernel
theorem dX9_tell_72 : decode cX9_tell 72 = .ok (.iaload, 1) := by decide +kernel
theorem dX9_tell_73 : decode cX9_tell 73 = .ok (.istore 4, 2) := by decide +kernel
theorem dX9_tell_75 : decode cX9_tell 75 = .ok (.goto (-36), 3) := by decide +kernel
theorem dX9_tell_78 : decode cX9_tell 78 = .ok (.aload_n 0, 1) := by decide +kernel
theorem dX9_tell_79 : decode cX9_tell 79 = .ok (.getfield 168, 3) := by decide +kernel
theorem dX9_tell_82 : decode cX9_tell 82 = .ok (.ireturn, 1) := by decide +kernel
set_option maxRecDepth 20000 in
theorem ggX9_button_X9_in : GoodIn wsX9_button wsX9_in := goodIn_r _ [7] rfl (by decide +kernel)
set_option maxRecDepth 20000 in
theorem gX9_button_X9_in : GoodIn wsX9_button (va_wsS RX9 50 yX9_in wsX9_in) := goodIn_app (goodIn_of _ (by decide +kernel)) ggX9_button_X9_in
theorem dX9_button_0 : decode cX9_button 0 = .ok (.aload_n 0, 1) := by decide +kernel
theorem dX9_button_1 : decode cX9_button 1 = .ok (.iconst 0, 1) := by decide +kernel
theorem dX9_button_2 : decode cX9_button 2 = .ok (.putfield 43, 3) := by decide +kernel
theorem dX9_button_5 : decode cX9_button 5 = .ok (.iload_n 1, 1) := by decide +kernel
theorem dX9_button_6 : decode cX9_button 6 = .ok (.iconst 0, 1) := by decide +kernel
theorem dX9_button_7 : decode cX9_button 7 = .ok (.aload_n 0, 1) := by decide +kernel
theorem dX9_button_8 : decode cX9_button 8 = .ok (.getfield 168, 3) := by decide +kernel
theorem dX9_button_11 : decode cX9_button 11 = .ok (.iconst 1, 1) := by decide +kernel
theorem dX9_button_12 : decode cX9_button 12 = .ok (.isub, 1) := by decide +kernel
theorem dX9_button_13 : decode cX9_button 13 = .ok (.invokestatic 50, 3) := by decide +kernel
theorem dX9_button_16 : decode cX9_button 16 = .ok (.ifCond .eq 12, 3) := by decide +kernel
theorem dX9_button_19 : decode cX9_button 19 = .ok (.aload_n 0, 1) := by decide +kernel
theorem dX9_button_20 : decode cX9_button 20 = .ok (.getfield 31, 3) := by decide +kernel
theorem dX9_button_23 : decode cX9_button 23 = .ok (.iload_n 1, 1) := by decide +kernel
theorem dX9_button_24 : decode cX9_button 24 = .ok (.iaload, 1) := by decide +kernel
theorem dX9_button_25 : decode cX9_button 25 = .ok (.goto 4, 3) := by decide +kernel
theorem dX9_button_28 : decode cX9_button 28 = .ok (.iconst (-1), 1) := by decide +kernel
theorem dX9_button_29 : decode cX9_button 29 = .ok (.ireturn, 1) := by decide +kernel
set_option maxRecDepth 20000 in
theorem ggX9_told_X9_isBox : GoodIn wsX9_told wsX9_isBox := goodIn_r _ [8, 9, 10, 7, 11] rfl (by decide +kernel)
set_option maxRecDepth 20000 in
theorem gX9_told_X9_isBox : GoodIn wsX9_told (va_wsS RX9 156 yX9_isBox wsX9_isBox) := goodIn_app (goodIn_of _ (by decide +kernel)) ggX9_told_X9_isBox
theorem dX9_told_0 : decode cX9_told 0 = .ok (.aload_n 0, 1) := by decide +kernel
theorem dX9_told_1 : decode cX9_told 1 = .ok (.iconst 0, 1) := by decide +kernel
theorem dX9_told_2 : decode cX9_told 2 = .ok (.putfield 43, 3) := by decide +kernel
theorem dX9_told_5 : decode cX9_told 5 = .ok (.iload_n 1, 1) := by decide +kernel
theorem dX9_told_6 : decode cX9_told 6 = .ok (.invokestatic 156, 3) := by decide +kernel
theorem dX9_told_9 : decode cX9_told 9 = .ok (.ifCond .ne 5, 3) := by decide +kernel
theorem dX9_told_12 : decode cX9_told 12 = .ok (.iconst (-1), 1) := by decide +kernel
theorem dX9_told_13 : decode cX9_told 13 = .ok (.ireturn, 1) := by decide +kernel
theorem dX9_told_14 : decode cX9_told 14 = .ok (.iload_n 2, 1) := by decide +kernel
theorem dX9_told_15 : decode cX9_told 15 = .ok (.ifCond .ne 12, 3) := by decide +kernel
theorem dX9_told_18 : decode cX9_told 18 = .ok (.aload_n 0, 1) := by decide +kernel
theorem dX9_told_19 : decode cX9_told 19 = .ok (.getfield 19, 3) := by decide +kernel
theorem dX9_told_22 : decode cX9_told 22 = .ok (.iload_n 1, 1) := by decide +kernel
theorem dX9_told_23 : decode cX9_told 23 = .ok (.iaload, 1) := by decide +kernel
theorem dX9_told_24 : decode cX9_told 24 = .ok (.goto 32, 3) := by decide +kernel
theorem dX9_told_27 : decode cX9_told 27 = .ok (.iload_n 2, 1) := by decide +kernel
theorem dX9_told_28 : decode cX9_told 28 = .ok (.iconst 1, 1) := by decide +kernel
theorem dX9_told_29 : decode cX9_told 29 = .ok (.if_icmp .ne 12, 3) := by decide +kernel
theorem dX9_told_32 : decode cX9_told 32 = .ok (.aload_n 0, 1) := by decide +kernel
theorem dX9_told_33 : decode cX9_told 33 = .ok (.getfield 22, 3) := by decide +kernel
theorem dX9_told_36 : decode cX9_told 36 = .ok (.iload_n 1, 1) := by decide +kernel
theorem dX9_told_37 : decode cX9_told 37 = .ok (.iaload, 1) := by decide +kernel
theorem dX9_told_38 : decode cX9_told 38 = .ok (.goto 18, 3) := by decide +kernel
theorem dX9_told_41 : decode cX9_told 41 = .ok (.iload_n 2, 1) := by decide +kernel
theorem dX9_told_42 : decode cX9_told 42 = .ok (.iconst 2, 1) := by decide +kernel
theorem dX9_told_43 : decode cX9_told 43 = .ok (.if_icmp .ne 12, 3) := by decide +kernel
theorem dX9_told_46 : decode cX9_told 46 = .ok (.aload_n 0, 1) := by decide +kernel
theorem dX9_told_47 : decode cX9_told 47 = .ok (.getfield 28, 3) := by decide +kernel
theorem dX9_told_50 : decode cX9_told 50 = .ok (.iload_n 1, 1) := by decide +kernel
theorem dX9_told_51 : decode cX9_told 51 = .ok (.iaload, 1) := by decide +kernel
theorem dX9_told_52 : decode cX9_told 52 = .ok (.goto 4, 3) := by decide +kernel
theorem dX9_told_55 : decode cX9_told 55 = .ok (.iconst (-1), 1) := by decide +kernel
theorem dX9_told_56 : decode cX9_told 56 = .ok (.ireturn, 1) := by decide +kernel
theorem dX9_count_0 : decode cX9_count 0 = .ok (.aload_n 0, 1) := by decide +kernel
theorem dX9_count_1 : decode cX9_count 1 = .ok (.iconst 0, 1) := by decide +kernel
theorem dX9_count_2 : decode cX9_count 2 = .ok (.putfield 43, 3) := by decide +kernel
theorem dX9_count_5 : decode cX9_count 5 = .ok (.iload_n 1, 1) := by decide +kernel
theorem dX9_count_6 : decode cX9_count 6 = .ok (.ifCond .ne 10, 3) := by decide +kernel
theorem dX9_count_9 : decode cX9_count 9 = .ok (.aload_n 0, 1) := by decide +kernel
theorem dX9_count_10 : decode cX9_count 10 = .ok (.getfield 47, 3) := by decide +kernel
theorem dX9_count_13 : decode cX9_count 13 = .ok (.goto 28, 3) := by decide +kernel
theorem dX9_count_16 : decode cX9_count 16 = .ok (.iload_n 1, 1) := by decide +kernel
theorem dX9_count_17 : decode cX9_count 17 = .ok (.iconst 1, 1) := by decide +kernel
theorem dX9_count_18 : decode cX9_count 18 = .ok (.if_icmp .ne 10, 3) := by decide +kernel
theorem dX9_count_21 : decode cX9_count 21 = .ok (.aload_n 0, 1) := by decide +kernel
theorem dX9_count_22 : decode cX9_count 22 = .ok (.getfield 62, 3) := by decide +kernel
theorem dX9_count_25 : decode cX9_count 25 = .ok (.goto 16, 3) := by decide +kernel
theorem dX9_count_28 : decode cX9_count 28 = .ok (.iload_n 1, 1) := by decide +kernel
theorem dX9_count_29 : decode cX9_count 29 = .ok (.iconst 2, 1) := by decide +kernel
theorem dX9_count_30 : decode cX9_count 30 = .ok (.if_icmp .ne 10, 3) := by decide +kernel
theorem dX9_count_33 : decode cX9_count 33 = .ok (.aload_n 0, 1) := by decide +kernel
theorem dX9_count_34 : decode cX9_count 34 = .ok (.getfield 168, 3) := by decide +kernel
theorem dX9_count_37 : decode cX9_count 37 = .ok (.goto 4, 3) := by decide +kernel
theorem dX9_count_40 : decode cX9_count 40 = .ok (.iconst (-1), 1) := by decide +kernel
theorem dX9_count_41 : decode cX9_count 41 = .ok (.ireturn, 1) := by decide +kernel
theorem dJ6_bitCount_0f7a4_0 : decode cJ6_bitCount_0f7a4 0 = .ok (.iload_n 0, 1) := by decide +kernel
theorem dJ6_bitCount_0f7a4_1 : decode cJ6_bitCount_0f7a4 1 = .ok (.iload_n 0, 1) := by decide +kernel
theorem dJ6_bitCount_0f7a4_2 : decode cJ6_bitCount_0f7a4 2 = .ok (.iconst 1, 1) := by decide +kernel
theorem dJ6_bitCount_0f7a4_3 : decode cJ6_bitCount_0f7a4 3 = .ok (.iushr, 1) := by decide +kernel
theorem dJ6_bitCount_0f7a4_4 : decode cJ6_bitCount_0f7a4 4 = .ok (.ldc_w 265, 3) := by decide +kernel
theorem dJ6_bitCount_0f7a4_7 : decode cJ6_bitCount_0f7a4 7 = .ok (.iand, 1) := by decide +kernel
theorem dJ6_bitCount_0f7a4_8 : decode cJ6_bitCount_0f7a4 8 = .ok (.isub, 1) := by decide +kernel
theorem dJ6_bitCount_0f7a4_9 : decode cJ6_bitCount_0f7a4 9 = .ok (.istore_n 0, 1) := by decide +kernel
theorem dJ6_bitCount_0f7a4_10 : decode cJ6_bitCount_0f7a4 10 = .ok (.iload_n 0, 1) := by decide +kernel
theorem dJ6_bitCount_0f7a4_11 : decode cJ6_bitCount_0f7a4 11 = .ok (.ldc_w 266, 3) := by decide +kernel
theorem dJ6_bitCount_0f7a4_14 : decode cJ6_bitCount_0f7a4 14 = .ok (.iand, 1) := by decide +kernel
theorem dJ6_bitCount_0f7a4_15 : decode cJ6_bitCount_0f7a4 15 = .ok (.iload_n 0, 1) := by decide +kernel
theorem dJ6_bitCount_0f7a4_16 : decode cJ6_bitCount_0f7a4 16 = .ok (.iconst 2, 1) := by decide +kernel
theorem dJ6_bitCount_0f7a4_17 : decode cJ6_bitCount_0f7a4 17 = .ok (.iushr, 1) := by decide +kernel
theorem dJ6_bitCount_0f7a4_18 : decode cJ6_bitCount_0f7a4 18 = .ok (.ldc_w 266, 3) := by decide +kernel
theorem dJ6_bitCount_0f7a4_21 : decode cJ6_bitCount_0f7a4 21 = .ok (.iand, 1) := by decide +kernel
theorem dJ6_bitCount_0f7a4_22 : decode cJ6_bitCount_0f7a4 22 = .ok (.iadd, 1) := by decide +kernel
theorem dJ6_bitCount_0f7a4_23 : decode cJ6_bitCount_0f7a4 23 = .ok (.istore_n 0, 1) := by decide +kernel
theorem dJ6_bitCount_0f7a4_24 : decode cJ6_bitCount_0f7a4 24 = .ok (.iload_n 0, 1) := by decide +kernel
theorem dJ6_bitCount_0f7a4_25 : decode cJ6_bitCount_0f7a4 25 = .ok (.iload_n 0, 1) := by decide +kernel
theorem dJ6_bitCount_0f7a4_26 : decode cJ6_bitCount_0f7a4 26 = .ok (.iconst 4, 1) := by decide +kernel
theorem dJ6_bitCount_0f7a4_27 : decode cJ6_bitCount_0f7a4 27 = .ok (.iushr, 1) := by decide +kernel
theorem dJ6_bitCount_0f7a4_28 : decode cJ6_bitCount_0f7a4 28 = .ok (.iadd, 1) := by decide +kernel
theorem dJ6_bitCount_0f7a4_29 : decode cJ6_bitCount_0f7a4 29 = .ok (.ldc_w 267, 3) := by decide +kernel
theorem dJ6_bitCount_0f7a4_32 : decode cJ6_bitCount_0f7a4 32 = .ok (.iand, 1) := by decide +kernel
theorem dJ6_bitCount_0f7a4_33 : decode cJ6_bitCount_0f7a4 33 = .ok (.istore_n 0, 1) := by decide +kernel
theorem dJ6_bitCount_0f7a4_34 : decode cJ6_bitCount_0f7a4 34 = .ok (.iload_n 0, 1) := by decide +kernel
theorem dJ6_bitCount_0f7a4_35 : decode cJ6_bitCount_0f7a4 35 = .ok (.iload_n 0, 1) := by decide +kernel
theorem dJ6_bitCount_0f7a4_36 : decode cJ6_bitCount_0f7a4 36 = .ok (.bipush 8, 2) := by decide +kernel
theorem dJ6_bitCount_0f7a4_38 : decode cJ6_bitCount_0f7a4 38 = .ok (.iushr, 1) := by decide +kernel
theorem dJ6_bitCount_0f7a4_39 : decode cJ6_bitCount_0f7a4 39 = .ok (.iadd, 1) := by decide +kernel
theorem dJ6_bitCount_0f7a4_40 : decode cJ6_bitCount_0f7a4 40 = .ok (.istore_n 0, 1) := by decide +kernel
theorem dJ6_bitCount_0f7a4_41 : decode cJ6_bitCount_0f7a4 41 = .ok (.iload_n 0, 1) := by decide +kernel
theorem dJ6_bitCount_0f7a4_42 : decode cJ6_bitCount_0f7a4 42 = .ok (.iload_n 0, 1) := by decide +kernel
theorem dJ6_bitCount_0f7a4_43 : decode cJ6_bitCount_0f7a4 43 = .ok (.bipush 16, 2) := by decide +kernel
theorem dJ6_bitCount_0f7a4_45 : decode cJ6_bitCount_0f7a4 45 = .ok (.iushr, 1) := by decide +kernel
theorem dJ6_bitCount_0f7a4_46 : decode cJ6_bitCount_0f7a4 46 = .ok (.iadd, 1) := by decide +kernel
theorem dJ6_bitCount_0f7a4_47 : decode cJ6_bitCount_0f7a4 47 = .ok (.istore_n 0, 1) := by decide +kernel
theorem dJ6_bitCount_0f7a4_48 : decode cJ6_bitCount_0f7a4 48 = .ok (.iload_n 0, 1) := by decide +kernel
theorem dJ6_bitCount_0f7a4_49 : decode cJ6_bitCount_0f7a4 49 = .ok (.bipush 63, 2) := by decide +kernel
theorem dJ6_bitCount_0f7a4_51 : decode cJ6_bitCount_0f7a4 51 = .ok (.iand, 1) := by decide +kernel
theorem dJ6_bitCount_0f7a4_52 : decode cJ6_bitCount_0f7a4 52 = .ok (.ireturn, 1) := by decide +kernel
theorem dJ9_abs_0f7a4_0 : decode cJ9_abs_0f7a4 0 = .ok (.iload_n 0, 1) := by decide +kernel
theorem dJ9_abs_0f7a4_1 : decode cJ9_abs_0f7a4 1 = .ok (.ifCond .ge 8, 3) := by decide +kernel
theorem dJ9_abs_0f7a4_4 : decode cJ9_abs_0f7a4 4 = .ok (.iload_n 0, 1) := by decide +kernel
theorem dJ9_abs_0f7a4_5 : decode cJ9_abs_0f7a4 5 = .ok (.ineg, 1) := by decide +kernel
theorem dJ9_abs_0f7a4_6 : decode cJ9_abs_0f7a4 6 = .ok (.goto 4, 3) := by decide +kernel
theorem dJ9_abs_0f7a4_9 : decode cJ9_abs_0f7a4 9 = .ok (.iload_n 0, 1) := by decide +kernel
theorem dJ9_abs_0f7a4_10 : decode cJ9_abs_0f7a4 10 = .ok (.ireturn, 1) := by decide +kernel
theorem dJ9_max_7cf53_0 : decode cJ9_max_7cf53 0 = .ok (.iload_n 0, 1) := by decide +kernel
theorem dJ9_max_7cf53_1 : decode cJ9_max_7cf53 1 = .ok (.iload_n 1, 1) := by decide +kernel
theorem dJ9_max_7cf53_2 : decode cJ9_max_7cf53 2 = .ok (.if_icmp .lt 7, 3) := by decide +kernel
theorem dJ9_max_7cf53_5 : decode cJ9_max_7cf53 5 = .ok (.iload_n 0, 1) := by decide +kernel
theorem dJ9_max_7cf53_6 : decode cJ9_max_7cf53 6 = .ok (.goto 4, 3) := by decide +kernel
theorem dJ9_max_7cf53_9 : decode cJ9_max_7cf53 9 = .ok (.iload_n 1, 1) := by decide +kernel
theorem dJ9_max_7cf53_10 : decode cJ9_max_7cf53 10 = .ok (.ireturn, 1) := by decide +kernel
theorem dJ9_min_7cf53_0 : decode cJ9_min_7cf53 0 = .ok (.iload_n 0, 1) := by decide +kernel
theorem dJ9_min_7cf53_1 : decode cJ9_min_7cf53 1 = .ok (.iload_n 1, 1) := by decide +kernel
theorem dJ9_min_7cf53_2 : decode cJ9_min_7cf53 2 = .ok (.if_icmp .gt 7, 3) := by decide +kernel
theorem dJ9_min_7cf53_5 : decode cJ9_min_7cf53 5 = .ok (.iload_n 0, 1) := by decide +kernel
theorem dJ9_min_7cf53_6 : decode cJ9_min_7cf53 6 = .ok (.goto 4, 3) := by decide +kernel
theorem dJ9_min_7cf53_9 : decode cJ9_min_7cf53 9 = .ok (.iload_n 1, 1) := by decide +kernel
theorem dJ9_min_7cf53_10 : decode cJ9_min_7cf53 10 = .ok (.ireturn, 1) := by decide +kernel
theorem dJ7_fill_53178_0 : decode cJ7_fill_53178 0 = .ok (.iconst 0, 1) := by decide +kernel
theorem dJ7_fill_53178_1 : decode cJ7_fill_53178 1 = .ok (.istore_n 2, 1) := by decide +kernel
theorem dJ7_fill_53178_2 : decode cJ7_fill_53178 2 = .ok (.aload_n 0, 1) := by decide +kernel
theorem dJ7_fill_53178_3 : decode cJ7_fill_53178 3 = .ok (.arraylength, 1) := by decide +kernel
theorem dJ7_fill_53178_4 : decode cJ7_fill_53178 4 = .ok (.istore_n 3, 1) := by decide +kernel
theorem dJ7_fill_53178_5 : decode cJ7_fill_53178 5 = .ok (.iload_n 2, 1) := by decide +kernel
theorem dJ7_fill_53178_6 : decode cJ7_fill_53178 6 = .ok (.iload_n 3, 1) := by decide +kernel
theorem dJ7_fill_53178_7 : decode cJ7_fill_53178 7 = .ok (.if_icmp .ge 13, 3) := by decide +kernel
theorem dJ7_fill_53178_10 : decode cJ7_fill_53178 10 = .ok (.aload_n 0, 1) := by decide +kernel
theorem dJ7_fill_53178_11 : decode cJ7_fill_53178 11 = .ok (.iload_n 2, 1) := by decide +kernel
theorem dJ7_fill_53178_12 : decode cJ7_fill_53178 12 = .ok (.iload_n 1, 1) := by decide +kernel
theorem dJ7_fill_53178_13 : decode cJ7_fill_53178 13 = .ok (.iastore, 1) := by decide +kernel
theorem dJ7_fill_53178_14 : decode cJ7_fill_53178 14 = .ok (.iinc 2 1, 3) := by decide +kernel
theorem dJ7_fill_53178_17 : decode cJ7_fill_53178 17 = .ok (.goto (-12), 3) := by decide +kernel
theorem dJ7_fill_53178_20 : decode cJ7_fill_53178 20 = .ok (.return_, 1) := by decide +kernel
set_option maxRecDepth 20000 in
theorem ggL_time_X8_time : GoodIn wsL_time wsX8_time := goodIn_ca (goodIn_r _ [6, 7, 8, 9, 10, 11, 5, 12, 13, 14, 15, 16, 17, 18, 19, 20, 21, 22, 23, 24, 25, 26] (by decide +kernel) (by decide +kernel)) (goodIn_sub (fun _ h => List.mem_cons_of_mem _ (List.mem_append_right _ h)) (by decide +kernel))
set_option maxRecDepth 20000 in
theorem gL_time_X8_time : GoodIn wsL_time (wsV RL 7 RX8 yX8_time wsX8_time) := goodIn_app (goodIn_of _ (by decide +kernel)) ggL_time_X8_time
theorem dL_time_0 : decode cL_time 0 = .ok (.aload_n 2, 1) := by decide +kernel
theorem dL_time_1 : decode cL_time 1 = .ok (.iconst 0, 1) := by decide +kernel
theorem dL_time_2 : decode cL_time 2 = .ok (.aload_n 0, 1) := by decide +kernel
theorem dL_time_3 : decode cL_time 3 = .ok (.iload_n 1, 1) := by decide +kernel
theorem dL_time_4 : decode cL_time 4 = .ok (.invokevirtual 7, 3) := by decide +kernel
theorem dL_time_7 : decode cL_time 7 = .ok (.i2l, 1) := by decide +kernel
theorem dL_time_8 : decode cL_time 8 = .ok (.lastore, 1) := by decide +kernel
theorem dL_time_9 : decode cL_time 9 = .ok (.goto 6, 3) := by decide +kernel
theorem dL_time_12 : decode cL_time 12 = .ok (.astore_n 3, 1) := by decide +kernel
theorem dL_time_13 : decode cL_time 13 = .ok (.iconst 1, 1) := by decide +kernel
theorem dL_time_14 : decode cL_time 14 = .ok (.ireturn, 1) := by decide +kernel
theorem dL_time_15 : decode cL_time 15 = .ok (.iconst 0, 1) := by decide +kernel
theorem dL_time_16 : decode cL_time 16 = .ok (.ireturn, 1) := by decide +kernel
set_option maxRecDepth 20000 in
theorem ggL_law_X8_init : GoodIn wsL_law wsX8_init := goodIn_r _ [9, 10, 11, 12, 13, 14, 15, 16, 17, 18, 19, 20, 21, 22, 23, 24, 25, 26, 27, 28, 29, 30, 31, 32, 33, 34, 35, 36, 37, 38, 39, 40, 41, 42, 43, 44, 45, 46, 2, 47, 48, 49, 50, 51, 52, 53, 54, 55, 56, 57, 58, 59, 706, 707, 684, 685, 686, 687, 688, 708, 709, 710, 711, 712, 713, 714, 715, 716] rfl (by decide +kernel)
set_option maxRecDepth 20000 in
theorem gL_law_X8_init : GoodIn wsL_law (wsX8_init) := ggL_law_X8_init
set_option maxRecDepth 20000 in
theorem ggL_law_X9_init : GoodIn wsL_law wsX9_init := goodIn_r _ [62, 63, 11, 12, 31, 64, 65, 66, 67, 68, 69, 70, 71, 72, 73, 74, 689, 690, 691, 692, 693, 694, 695, 696, 697, 698, 699, 700, 701, 702, 703, 704, 705] rfl (by decide +kernel)
set_option maxRecDepth 20000 in
theorem gL_law_X9_init : GoodIn wsL_law (wsX9_init) := ggL_law_X9_init
set_option maxRecDepth 20000 in
theorem ggL_law_X8_make : GoodIn wsL_law wsX8_make := goodIn_r _ [78, 19, 79, 80, 81, 82, 83, 84, 18, 17, 85, 86, 87, 88, 2, 89, 90, 91, 92, 93, 94, 95, 96, 97, 98, 99, 100, 101, 11, 12, 102, 103, 104, 105, 106, 107, 108, 109, 110, 111, 112, 113, 114, 115, 116, 117, 118, 119, 120, 121, 122, 123, 124, 125, 126, 127, 128, 31, 129, 130, 131, 132, 133, 134, 135, 136, 137, 138, 49, 50, 51, 139, 140, 141, 142, 143, 144, 145, 46, 47, 146, 147, 148, 149, 150, 151, 152, 153, 154, 155, 156, 157, 158, 159, 160, 161, 162, 163, 164, 165, 684, 685, 686, 687, 688, 717, 718, 719, 720, 721, 722, 723, 724, 725, 726, 727, 728, 729, 730, 731, 732, 733, 734, 735, 736, 737, 738, 739] rfl (by decide +kernel)
set_option maxRecDepth 20000 in
theorem gL_law_X8_make : GoodIn wsL_law (wsV RL 19 RX8 yX8_make wsX8_make) := goodIn_app (goodIn_of _ (by decide +kernel)) ggL_law_X8_make
set_option maxRecDepth 20000 in
theorem ggL_law_X9_make : GoodIn wsL_law wsX9_make := goodIn_r _ [169, 170, 171, 31, 65, 66, 172, 173, 5, 174, 689, 690, 691, 692, 693, 694, 695, 696, 697, 698, 699, 700, 701, 702, 703, 704, 705] rfl (by decide +kernel)
set_option maxRecDepth 20000 in
theorem gL_law_X9_make : GoodIn wsL_law (wsV RL 23 RX9 yX9_make wsX9_make) := goodIn_app (goodIn_of _ (by decide +kernel)) ggL_law_X9_make
set_option maxRecDepth 20000 in
theorem ggL_law_X8_set : GoodIn wsL_law wsX8_set := goodIn_r _ [178, 179, 180, 181, 2, 182, 19, 18, 87, 88, 89, 133, 123, 134, 135, 136, 137, 129, 138, 49, 50, 51, 139, 140, 141, 142, 143, 131, 144, 145, 130, 46, 47, 146, 147, 148, 149, 150, 151, 152, 153, 154, 155, 156, 157, 158, 159, 160, 161, 162, 163, 164, 165, 727, 728, 729, 730, 731, 684, 685, 686, 687, 688, 732, 733, 734, 735, 736, 737, 738, 739] rfl (by decide +kernel)
set_option maxRecDepth 20000 in
theorem gL_law_X8_set : GoodIn wsL_law (wsV RL 24 RX8 yX8_set wsX8_set) := goodIn_app (goodIn_of _ (by decide +kernel)) ggL_law_X8_set
set_option maxRecDepth 20000 in
theorem ggL_law_X9_set : GoodIn wsL_law wsX9_set := goodIn_r _ [186, 170, 65, 66, 187, 188, 189, 5, 190, 171, 172, 173, 174, 191, 192, 193, 194, 689, 690, 691, 692, 693, 694, 695, 696, 697, 698, 699, 700, 701, 702, 703, 704, 705] rfl (by decide +kernel)
set_option maxRecDepth 20000 in
theorem gL_law_X9_set : GoodIn wsL_law (wsV RL 28 RX9 yX9_set wsX9_set) := goodIn_app (goodIn_of _ (by decide +kernel)) ggL_law_X9_set
set_option maxRecDepth 20000 in
theorem ggL_law_X8_feed : GoodIn wsL_law wsX8_feed := goodIn_r _ [198, 16, 199, 200, 201, 15, 202, 33, 32, 684, 685, 686, 687, 688, 706, 707] rfl (by decide +kernel)
set_option maxRecDepth 20000 in
theorem gL_law_X8_feed : GoodIn wsL_law (wsV RL 29 RX8 yX8_feed wsX8_feed) := goodIn_app (goodIn_of _ (by decide +kernel)) ggL_law_X8_feed
set_option maxRecDepth 20000 in
theorem ggL_law_X9_feed : GoodIn wsL_law wsX9_feed := goodIn_r _ [206, 170, 207, 64, 689, 690, 691, 692, 693, 694, 695, 696, 697, 698, 699, 700, 701, 702, 703, 704, 705] rfl (by decide +kernel)
set_option maxRecDepth 20000 in
theorem gL_law_X9_feed : GoodIn wsL_law (wsV RL 33 RX9 yX9_feed wsX9_feed) := goodIn_app (goodIn_of _ (by decide +kernel)) ggL_law_X9_feed
set_option maxRecDepth 20000 in
theorem ggL_law_X8_end : GoodIn wsL_law wsX8_end := goodIn_r _ [211, 16, 87, 88, 2, 89, 684, 685, 686, 687, 688, 706, 707] rfl (by decide +kernel)
set_option maxRecDepth 20000 in
theorem gL_law_X8_end : GoodIn wsL_law (wsV RL 34 RX8 yX8_end wsX8_end) := goodIn_app (goodIn_of _ (by decide +kernel)) ggL_law_X8_end
set_option maxRecDepth 20000 in
theorem ggL_law_X9_end : GoodIn wsL_law wsX9_end := goodIn_r _ [215, 170, 207, 689, 690, 691, 692, 693, 694, 695, 696, 697, 698, 699, 700, 701, 702, 703, 704, 705] rfl (by decide +kernel)
set_option maxRecDepth 20000 in
theorem gL_law_X9_end : GoodIn wsL_law (wsV RL 38 RX9 yX9_end wsX9_end) := goodIn_app (goodIn_of _ (by decide +kernel)) ggL_law_X9_end
set_option maxRecDepth 20000 in
theorem ggL_law_X8_send : GoodIn wsL_law wsX8_send := goodIn_r _ [219, 16, 179, 180, 181, 2, 182, 19, 18, 87, 88, 89, 220, 46, 47, 221, 222, 223, 86, 224, 120, 225, 226, 227, 228, 81, 229, 96, 97, 230, 231, 232, 233, 234, 200, 201, 15, 202, 33, 32, 235, 236, 237, 238, 239, 240, 84, 241, 106, 112, 110, 111, 242, 243, 244, 245, 105, 246, 247, 248, 249, 250, 107, 108, 109, 727, 728, 729, 730, 731, 684, 685, 686, 687, 688, 706, 707, 717, 718, 719, 720, 721, 722, 723, 724, 725, 726] rfl (by decide +kernel)
set_option maxRecDepth 20000 in
theorem gL_law_X8_send : GoodIn wsL_law (wsV RL 39 RX8 yX8_send wsX8_send) := goodIn_app (goodIn_of _ (by decide +kernel)) ggL_law_X8_send
set_option maxRecDepth 20000 in
theorem ggL_law_X9_send : GoodIn wsL_law wsX9_send := goodIn_r _ [254, 170, 207, 187, 188, 189, 5, 190, 171, 172, 173, 174, 191, 192, 193, 194, 65, 255, 256, 257, 258, 259, 260, 261, 262, 263, 264, 265, 266, 267, 268, 269, 64, 689, 690, 691, 692, 693, 694, 695, 696, 697, 698, 699, 700, 701, 702, 703, 704, 705] rfl (by decide +kernel)
set_option maxRecDepth 20000 in
theorem gL_law_X9_send : GoodIn wsL_law (wsV RL 43 RX9 yX9_send wsX9_send) := goodIn_app (goodIn_of _ (by decide +kernel)) ggL_law_X9_send
set_option maxRecDepth 20000 in
theorem ggL_law_L_time : GoodIn wsL_law wsL_time := goodIn_ca (goodIn_r _ [273, 274, 275, 276, 277, 2, 278, 279, 280, 16, 87, 88, 89, 281, 282, 283, 15, 284, 33, 32, 684, 685, 686, 687, 688, 706, 707] (by decide +kernel) (by decide +kernel)) (goodIn_sub (fun _ h => List.mem_append_right _ h) (by decide +kernel))
set_option maxRecDepth 20000 in
theorem gL_law_L_time : GoodIn wsL_law (va_wsS RL 44 yL_time wsL_time) := goodIn_app (goodIn_of _ (by decide +kernel)) ggL_law_L_time
set_option maxRecDepth 20000 in
theorem ggL_law_X9_time : GoodIn wsL_law wsX9_time := goodIn_r _ [288, 170, 207, 64, 172, 173, 5, 174, 689, 690, 691, 692, 693, 694, 695, 696, 697, 698, 699, 700, 701, 702, 703, 704, 705] rfl (by decide +kernel)
set_option maxRecDepth 20000 in
theorem gL_law_X9_time : GoodIn wsL_law (wsV RL 49 RX9 yX9_time wsX9_time) := goodIn_app (goodIn_of _ (by decide +kernel)) ggL_law_X9_time
set_option maxRecDepth 20000 in
theorem ggL_law_X8_read : GoodIn wsL_law wsX8_read := goodIn_r _ [292, 16, 179, 180, 181, 2, 182, 19, 18, 87, 88, 89, 293, 294, 295, 86, 296, 120, 117, 297, 298, 299, 300, 81, 301, 97, 96, 302, 282, 283, 15, 284, 33, 32, 303, 304, 305, 306, 307, 308, 309, 310, 311, 312, 313, 314, 315, 316, 317, 318, 84, 319, 112, 110, 111, 320, 242, 243, 244, 245, 105, 247, 248, 249, 250, 107, 108, 109, 684, 685, 686, 687, 688, 727, 728, 729, 730, 731, 706, 707, 717, 718, 719, 720, 721, 722, 723, 724, 725, 726] rfl (by decide +kernel)
set_option maxRecDepth 20000 in
theorem gL_law_X8_read : GoodIn wsL_law (wsV RL 50 RX8 yX8_read wsX8_read) := goodIn_app (goodIn_of _ (by decide +kernel)) ggL_law_X8_read
set_option maxRecDepth 20000 in
theorem ggL_law_X9_read : GoodIn wsL_law wsX9_read := goodIn_r _ [324, 170, 325, 187, 188, 189, 5, 190, 171, 172, 173, 174, 326, 327, 328, 329, 191, 192, 193, 194, 65, 330, 331, 332, 333, 207, 64, 334, 335, 336, 337, 338, 306, 307, 308, 339, 340, 341, 342, 343, 344, 345, 346, 347, 348, 349, 350, 351, 352, 353, 689, 690, 691, 692, 693, 694, 695, 696, 697, 698, 699, 700, 701, 702, 703, 704, 705] rfl (by decide +kernel)
set_option maxRecDepth 20000 in
theorem gL_law_X9_read : GoodIn wsL_law (wsV RL 53 RX9 yX9_read wsX9_read) := goodIn_app (goodIn_of _ (by decide +kernel)) ggL_law_X9_read
set_option maxRecDepth 20000 in
theorem ggL_law_X8_which : GoodIn wsL_law wsX8_which := goodIn_r _ [357, 19, 358, 290, 291, 2, 292, 16, 179, 180, 181, 182, 18, 87, 88, 89, 293, 294, 295, 86, 296, 120, 117, 297, 298, 299, 300, 81, 301, 97, 96, 302, 282, 283, 15, 284, 33, 32, 303, 304, 305, 306, 307, 308, 309, 310, 311, 312, 313, 314, 315, 316, 317, 318, 84, 319, 112, 110, 111, 320, 242, 243, 244, 245, 105, 247, 248, 249, 250, 107, 108, 109, 684, 685, 686, 687, 688, 727, 728, 729, 730, 731, 706, 707, 717, 718, 719, 720, 721, 722, 723, 724, 725, 726] rfl (by decide +kernel)
set_option maxRecDepth 20000 in
theorem gL_law_X8_which : GoodIn wsL_law (wsV RL 54 RX8 yX8_which wsX8_which) := goodIn_app (goodIn_of _ (by decide +kernel)) ggL_law_X8_which
set_option maxRecDepth 20000 in
theorem ggL_law_X9_which_ : GoodIn wsL_law wsX9_which_ := goodIn_r _ [362, 170, 171, 326, 327, 328, 5, 329, 191, 192, 193, 194, 65, 330, 331, 332, 333, 207, 64, 334, 335, 336, 337, 338, 306, 307, 308, 339, 340, 341, 342, 343, 344, 345, 172, 173, 174, 346, 347, 348, 349, 325, 350, 351, 352, 353, 689, 690, 691, 692, 693, 694, 695, 696, 697, 698, 699, 700, 701, 702, 703, 704, 705] rfl (by decide +kernel)
set_option maxRecDepth 20000 in
theorem gL_law_X9_which_ : GoodIn wsL_law (wsV RL 58 RX9 yX9_which_ wsX9_which_) := goodIn_app (goodIn_of _ (by decide +kernel)) ggL_law_X9_which_
set_option maxRecDepth 20000 in
theorem ggL_law_X8_stretch : GoodIn wsL_law wsX8_stretch := goodIn_r _ [366, 16, 87, 88, 2, 89, 367, 368, 369, 15, 370, 33, 32, 371, 372, 307, 373, 374, 375, 376, 313, 314, 684, 685, 686, 687, 688, 706, 707] rfl (by decide +kernel)
set_option maxRecDepth 20000 in
theorem gL_law_X8_stretch : GoodIn wsL_law (wsV RL 59 RX8 yX8_stretch wsX8_stretch) := goodIn_app (goodIn_of _ (by decide +kernel)) ggL_law_X8_stretch
set_option maxRecDepth 20000 in
theorem ggL_law_X9_stretch : GoodIn wsL_law wsX9_stretch := goodIn_r _ [380, 170, 207, 64, 172, 173, 5, 174, 343, 344, 345, 689, 690, 691, 692, 693, 694, 695, 696, 697, 698, 699, 700, 701, 702, 703, 704, 705] rfl (by decide +kernel)
set_option maxRecDepth 20000 in
theorem gL_law_X9_stretch : GoodIn wsL_law (wsV RL 62 RX9 yX9_stretch wsX9_stretch) := goodIn_app (goodIn_of _ (by decide +kernel)) ggL_law_X9_stretch
set_option maxRecDepth 20000 in
theorem ggL_law_X8_learn : GoodIn wsL_law wsX8_learn := goodIn_r _ [384, 16, 179, 180, 181, 2, 182, 19, 18, 87, 88, 89, 293, 294, 295, 86, 296, 120, 117, 297, 298, 299, 300, 81, 301, 97, 96, 302, 282, 283, 15, 284, 33, 32, 303, 304, 305, 306, 307, 308, 309, 310, 311, 312, 313, 314, 315, 316, 317, 318, 84, 319, 112, 110, 111, 320, 242, 243, 244, 245, 105, 247, 248, 249, 250, 107, 108, 109, 385, 386, 387, 123, 388, 129, 146, 147, 148, 149, 136, 389, 390, 391, 392, 139, 140, 141, 142, 143, 131, 144, 145, 130, 46, 47, 150, 151, 152, 153, 154, 155, 156, 157, 158, 159, 160, 161, 162, 163, 164, 165, 684, 685, 686, 687, 688, 727, 728, 729, 730, 731, 706, 707, 717, 718, 719, 720, 721, 722, 723, 724, 725, 726, 732, 733, 734, 735, 736, 737, 738, 739] rfl (by decide +kernel)
set_option maxRecDepth 20000 in
theorem gL_law_X8_learn : GoodIn wsL_law (wsV RL 63 RX8 yX8_learn wsX8_learn) := goodIn_app (goodIn_of _ (by decide +kernel)) ggL_law_X8_learn
set_option maxRecDepth 20000 in
theorem ggL_law_X9_learn : GoodIn wsL_law wsX9_learn := goodIn_r _ [396, 170, 66, 397, 398, 399, 5, 400, 187, 188, 189, 190, 171, 172, 173, 174, 326, 327, 328, 329, 191, 192, 193, 194, 65, 330, 331, 332, 333, 207, 64, 334, 335, 336, 337, 338, 306, 307, 308, 339, 340, 341, 342, 343, 344, 345, 346, 347, 348, 349, 325, 350, 351, 352, 353, 401, 402, 403, 404, 689, 690, 691, 692, 693, 694, 695, 696, 697, 698, 699, 700, 701, 702, 703, 704, 705] rfl (by decide +kernel)
set_option maxRecDepth 20000 in
theorem gL_law_X9_learn : GoodIn wsL_law (wsV RL 66 RX9 yX9_learn wsX9_learn) := goodIn_app (goodIn_of _ (by decide +kernel)) ggL_law_X9_learn
set_option maxRecDepth 20000 in
theorem ggL_law_X8_forget : GoodIn wsL_law wsX8_forget := goodIn_r _ [408, 179, 180, 181, 2, 182, 19, 18, 87, 88, 89, 409, 410, 411, 123, 412, 129, 413, 414, 415, 416, 389, 390, 391, 392, 139, 140, 141, 142, 143, 131, 144, 145, 130, 46, 47, 146, 147, 148, 149, 136, 150, 151, 152, 153, 154, 155, 156, 157, 158, 159, 160, 161, 162, 163, 164, 165, 727, 728, 729, 730, 731, 684, 685, 686, 687, 688, 732, 733, 734, 735, 736, 737, 738, 739] rfl (by decide +kernel)
set_option maxRecDepth 20000 in
theorem gL_law_X8_forget : GoodIn wsL_law (wsV RL 67 RX8 yX8_forget wsX8_forget) := goodIn_app (goodIn_of _ (by decide +kernel)) ggL_law_X8_forget
set_option maxRecDepth 20000 in
theorem ggL_law_X9_forget : GoodIn wsL_law wsX9_forget := goodIn_r _ [420, 170, 66, 397, 398, 399, 5, 400, 187, 188, 189, 190, 171, 172, 173, 174, 689, 690, 691, 692, 693, 694, 695, 696, 697, 698, 699, 700, 701, 702, 703, 704, 705] rfl (by decide +kernel)
set_option maxRecDepth 20000 in
theorem gL_law_X9_forget : GoodIn wsL_law (wsV RL 71 RX9 yX9_forget wsX9_forget) := goodIn_app (goodIn_of _ (by decide +kernel)) ggL_law_X9_forget
set_option maxRecDepth 20000 in
theorem ggL_law_X8_key : GoodIn wsL_law wsX8_key := goodIn_r _ [424, 179, 180, 181, 2, 182, 19, 18, 87, 88, 89, 425, 414, 415, 123, 416, 129, 389, 390, 391, 392, 727, 728, 729, 730, 731, 684, 685, 686, 687, 688, 732, 733, 734, 735, 736, 737, 738, 739] rfl (by decide +kernel)
set_option maxRecDepth 20000 in
theorem gL_law_X8_key : GoodIn wsL_law (wsV RL 72 RX8 yX8_key wsX8_key) := goodIn_app (goodIn_of _ (by decide +kernel)) ggL_law_X8_key
set_option maxRecDepth 20000 in
theorem ggL_law_X9_key : GoodIn wsL_law wsX9_key := goodIn_r _ [429, 170, 66, 397, 398, 399, 5, 400, 187, 188, 189, 190, 171, 172, 173, 174, 689, 690, 691, 692, 693, 694, 695, 696, 697, 698, 699, 700, 701, 702, 703, 704, 705] rfl (by decide +kernel)
set_option maxRecDepth 20000 in
theorem gL_law_X9_key : GoodIn wsL_law (wsV RL 75 RX9 yX9_key wsX9_key) := goodIn_app (goodIn_of _ (by decide +kernel)) ggL_law_X9_key
set_option maxRecDepth 20000 in
theorem ggL_law_X8_press : GoodIn wsL_law wsX8_press := goodIn_r _ [433, 16, 179, 180, 181, 2, 182, 19, 18, 87, 88, 89, 425, 414, 415, 123, 416, 129, 389, 390, 391, 392, 434, 435, 436, 437, 137, 136, 413, 146, 147, 148, 149, 221, 222, 223, 86, 224, 120, 225, 226, 227, 228, 81, 229, 96, 97, 230, 231, 232, 233, 234, 200, 201, 15, 202, 33, 32, 235, 236, 237, 238, 239, 240, 84, 241, 106, 112, 110, 111, 242, 243, 244, 245, 105, 246, 247, 248, 249, 250, 107, 108, 109, 727, 728, 729, 730, 731, 684, 685, 686, 687, 688, 732, 733, 734, 735, 736, 737, 738, 739, 706, 707, 717, 718, 719, 720, 721, 722, 723, 724, 725, 726] rfl (by decide +kernel)
set_option maxRecDepth 20000 in
theorem gL_law_X8_press : GoodIn wsL_law (wsV RL 76 RX8 yX8_press wsX8_press) := goodIn_app (goodIn_of _ (by decide +kernel)) ggL_law_X8_press
set_option maxRecDepth 20000 in
theorem ggL_law_X9_press : GoodIn wsL_law wsX9_press := goodIn_r _ [441, 170, 66, 65, 207, 397, 398, 399, 5, 400, 187, 188, 189, 190, 171, 172, 173, 174, 191, 192, 193, 194, 401, 402, 403, 404, 255, 256, 257, 258, 259, 260, 261, 262, 263, 264, 265, 266, 267, 268, 269, 64, 689, 690, 691, 692, 693, 694, 695, 696, 697, 698, 699, 700, 701, 702, 703, 704, 705] rfl (by decide +kernel)
set_option maxRecDepth 20000 in
theorem gL_law_X9_press : GoodIn wsL_law (wsV RL 79 RX9 yX9_press wsX9_press) := goodIn_app (goodIn_of _ (by decide +kernel)) ggL_law_X9_press
set_option maxRecDepth 20000 in
theorem ggL_law_X8_of : GoodIn wsL_law wsX8_of := goodIn_r _ [445, 179, 180, 181, 2, 182, 19, 18, 87, 88, 89, 727, 728, 729, 730, 731, 732, 733, 734, 735, 736, 737, 738, 739, 684, 685, 686, 687, 688] rfl (by decide +kernel)
set_option maxRecDepth 20000 in
theorem gL_law_X8_of : GoodIn wsL_law (wsV RL 80 RX8 yX8_of wsX8_of) := goodIn_app (goodIn_of _ (by decide +kernel)) ggL_law_X8_of
set_option maxRecDepth 20000 in
theorem ggL_law_X9_of : GoodIn wsL_law wsX9_of := goodIn_r _ [449, 170, 187, 188, 189, 5, 190, 171, 172, 173, 174, 191, 192, 193, 194, 65, 450, 451, 452, 453, 66, 454, 455, 456, 457, 401, 402, 403, 404, 458, 459, 460, 461, 689, 690, 691, 692, 693, 694, 695, 696, 697, 698, 699, 700, 701, 702, 703, 704, 705] rfl (by decide +kernel)
set_option maxRecDepth 20000 in
theorem gL_law_X9_of : GoodIn wsL_law (wsV RL 83 RX9 yX9_of wsX9_of) := goodIn_app (goodIn_of _ (by decide +kernel)) ggL_law_X9_of
set_option maxRecDepth 20000 in
theorem ggL_law_X8_check : GoodIn wsL_law wsX8_check := goodIn_r _ [465, 179, 180, 181, 2, 182, 19, 18, 87, 88, 89, 466, 467, 468, 123, 469, 130, 727, 728, 729, 730, 731, 684, 685, 686, 687, 688, 732, 733, 734, 735, 736, 737, 738, 739] rfl (by decide +kernel)
set_option maxRecDepth 20000 in
theorem gL_law_X8_check : GoodIn wsL_law (wsV RL 84 RX8 yX8_check wsX8_check) := goodIn_app (goodIn_of _ (by decide +kernel)) ggL_law_X8_check
set_option maxRecDepth 20000 in
theorem ggL_law_X9_check : GoodIn wsL_law wsX9_check := goodIn_r _ [473, 170, 187, 188, 189, 5, 190, 171, 172, 173, 174, 474, 475, 476, 477, 66, 450, 451, 452, 453, 458, 459, 460, 461, 478, 479, 480, 481, 191, 192, 193, 194, 65, 482, 483, 484, 689, 690, 691, 692, 693, 694, 695, 696, 697, 698, 699, 700, 701, 702, 703, 704, 705] rfl (by decide +kernel)
set_option maxRecDepth 20000 in
theorem gL_law_X9_check : GoodIn wsL_law (wsV RL 87 RX9 yX9_check wsX9_check) := goodIn_app (goodIn_of _ (by decide +kernel)) ggL_law_X9_check
set_option maxRecDepth 20000 in
theorem ggL_law_X8_many : GoodIn wsL_law wsX8_many := goodIn_r _ [488, 179, 180, 181, 2, 182, 19, 18, 87, 88, 89, 489, 490, 491, 123, 492, 143, 493, 494, 495, 496, 131, 144, 46, 47, 146, 147, 148, 149, 136, 497, 498, 499, 500, 501, 502, 503, 504, 505, 506, 507, 508, 509, 510, 511, 145, 512, 513, 514, 515, 130, 158, 159, 160, 161, 162, 163, 164, 165, 727, 728, 729, 730, 731, 684, 685, 686, 687, 688, 732, 733, 734, 735, 736, 737, 738, 739] rfl (by decide +kernel)
set_option maxRecDepth 20000 in
theorem gL_law_X8_many : GoodIn wsL_law (wsV RL 88 RX8 yX8_many wsX8_many) := goodIn_app (goodIn_of _ (by decide +kernel)) ggL_law_X8_many
set_option maxRecDepth 20000 in
theorem ggL_law_X9_many : GoodIn wsL_law wsX9_many := goodIn_r _ [519, 170, 520, 521, 522, 523, 5, 524, 187, 188, 189, 190, 171, 172, 173, 174, 450, 451, 452, 453, 66, 191, 192, 193, 194, 65, 401, 402, 403, 404, 454, 455, 456, 457, 458, 459, 460, 461, 525, 498, 499, 500, 501, 502, 503, 526, 527, 528, 529, 530, 531, 532, 533, 534, 474, 475, 476, 477, 478, 479, 480, 481, 482, 483, 484, 689, 690, 691, 692, 693, 694, 695, 696, 697, 698, 699, 700, 701, 702, 703, 704, 705] rfl (by decide +kernel)
set_option maxRecDepth 20000 in
theorem gL_law_X9_many : GoodIn wsL_law (wsV RL 91 RX9 yX9_many wsX9_many) := goodIn_app (goodIn_of _ (by decide +kernel)) ggL_law_X9_many
set_option maxRecDepth 20000 in
theorem ggL_law_X8_foreseen : GoodIn wsL_law wsX8_foreseen := goodIn_r _ [538, 179, 180, 181, 2, 182, 19, 18, 87, 88, 89, 489, 490, 491, 123, 492, 143, 493, 494, 495, 496, 131, 144, 46, 47, 146, 147, 148, 149, 136, 497, 498, 499, 500, 501, 502, 503, 539, 540, 541, 542, 508, 509, 510, 511, 145, 512, 513, 514, 515, 130, 158, 159, 160, 161, 162, 163, 164, 165, 727, 728, 729, 730, 731, 684, 685, 686, 687, 688, 732, 733, 734, 735, 736, 737, 738, 739] rfl (by decide +kernel)
set_option maxRecDepth 20000 in
theorem gL_law_X8_foreseen : GoodIn wsL_law (wsV RL 92 RX8 yX8_foreseen wsX8_foreseen) := goodIn_app (goodIn_of _ (by decide +kernel)) ggL_law_X8_foreseen
set_option maxRecDepth 20000 in
theorem ggL_law_X9_foreseen : GoodIn wsL_law wsX9_foreseen := goodIn_r _ [546, 170, 547, 530, 521, 522, 523, 5, 524, 187, 188, 189, 190, 171, 172, 173, 174, 450, 451, 452, 453, 66, 191, 192, 193, 194, 65, 401, 402, 403, 404, 454, 455, 456, 457, 458, 459, 460, 461, 525, 498, 499, 500, 501, 502, 503, 526, 527, 528, 529, 531, 532, 533, 534, 474, 475, 476, 477, 478, 479, 480, 481, 482, 483, 484, 689, 690, 691, 692, 693, 694, 695, 696, 697, 698, 699, 700, 701, 702, 703, 704, 705] rfl (by decide +kernel)
set_option maxRecDepth 20000 in
theorem gL_law_X9_foreseen : GoodIn wsL_law (wsV RL 95 RX9 yX9_foreseen wsX9_foreseen) := goodIn_app (goodIn_of _ (by decide +kernel)) ggL_law_X9_foreseen
set_option maxRecDepth 20000 in
theorem ggL_law_X8_both : GoodIn wsL_law wsX8_both := goodIn_r _ [551, 179, 180, 181, 2, 182, 19, 18, 87, 88, 89, 489, 490, 491, 123, 492, 143, 493, 494, 495, 496, 131, 144, 46, 47, 146, 147, 148, 149, 136, 497, 498, 499, 500, 501, 502, 503, 552, 553, 554, 555, 508, 509, 510, 511, 145, 512, 513, 514, 515, 130, 158, 159, 160, 161, 162, 163, 164, 165, 556, 557, 558, 559, 727, 728, 729, 730, 731, 684, 685, 686, 687, 688, 732, 733, 734, 735, 736, 737, 738, 739] rfl (by decide +kernel)
set_option maxRecDepth 20000 in
theorem gL_law_X8_both : GoodIn wsL_law (wsV RL 96 RX8 yX8_both wsX8_both) := goodIn_app (goodIn_of _ (by decide +kernel)) ggL_law_X8_both
set_option maxRecDepth 20000 in
theorem ggL_law_X9_both : GoodIn wsL_law wsX9_both := goodIn_r _ [563, 170, 521, 522, 523, 5, 524, 187, 188, 189, 190, 171, 172, 173, 174, 450, 451, 452, 453, 66, 191, 192, 193, 194, 65, 401, 402, 403, 404, 454, 455, 456, 457, 458, 459, 460, 461, 525, 498, 499, 500, 501, 502, 503, 531, 532, 533, 534, 474, 475, 476, 477, 478, 479, 480, 481, 482, 483, 484, 689, 690, 691, 692, 693, 694, 695, 696, 697, 698, 699, 700, 701, 702, 703, 704, 705] rfl (by decide +kernel)
set_option maxRecDepth 20000 in
theorem gL_law_X9_both : GoodIn wsL_law (wsV RL 99 RX9 yX9_both wsX9_both) := goodIn_app (goodIn_of _ (by decide +kernel)) ggL_law_X9_both
set_option maxRecDepth 20000 in
theorem ggL_law_X8_box : GoodIn wsL_law wsX8_box := goodIn_r _ [567, 568, 569, 570, 2, 571, 21, 87, 88, 89, 40, 23, 41, 42, 43, 44, 45, 38, 46, 47, 48, 49, 50, 51, 684, 685, 686, 687, 688, 708, 709, 710, 711] rfl (by decide +kernel)
set_option maxRecDepth 20000 in
theorem gL_law_X8_box : GoodIn wsL_law (wsV RL 100 RX8 yX8_box wsX8_box) := goodIn_app (goodIn_of _ (by decide +kernel)) ggL_law_X8_box
set_option maxRecDepth 20000 in
theorem ggL_law_X9_box : GoodIn wsL_law wsX9_box := goodIn_r _ [575, 170, 67, 68, 69, 70, 576, 577, 5, 578, 172, 173, 174, 689, 690, 691, 692, 693, 694, 695, 696, 697, 698, 699, 700, 701, 702, 703, 704, 705] rfl (by decide +kernel)
set_option maxRecDepth 20000 in
theorem gL_law_X9_box : GoodIn wsL_law (wsV RL 103 RX9 yX9_box wsX9_box) := goodIn_app (goodIn_of _ (by decide +kernel)) ggL_law_X9_box
set_option maxRecDepth 20000 in
theorem ggL_law_X8_lead : GoodIn wsL_law wsX8_lead := goodIn_r _ [582, 568, 569, 570, 2, 571, 21, 87, 88, 89, 583, 584, 585, 23, 586, 43, 587, 588, 589, 590, 44, 591, 592, 593, 594, 38, 595, 596, 684, 685, 686, 687, 688, 708, 709, 710, 711] rfl (by decide +kernel)
set_option maxRecDepth 20000 in
theorem gL_law_X8_lead : GoodIn wsL_law (wsV RL 104 RX8 yX8_lead wsX8_lead) := goodIn_app (goodIn_of _ (by decide +kernel)) ggL_law_X8_lead
set_option maxRecDepth 20000 in
theorem ggL_law_X9_lead : GoodIn wsL_law wsX9_lead := goodIn_r _ [600, 170, 67, 68, 69, 576, 577, 5, 578, 172, 173, 174, 689, 690, 691, 692, 693, 694, 695, 696, 697, 698, 699, 700, 701, 702, 703, 704, 705] rfl (by decide +kernel)
set_option maxRecDepth 20000 in
theorem gL_law_X9_lead : GoodIn wsL_law (wsV RL 108 RX9 yX9_lead wsX9_lead) := goodIn_app (goodIn_of _ (by decide +kernel)) ggL_law_X9_lead
set_option maxRecDepth 20000 in
theorem ggL_law_X8_maybe : GoodIn wsL_law wsX8_maybe := goodIn_r _ [604, 568, 569, 570, 2, 571, 21, 87, 88, 89, 605, 606, 607, 23, 608, 43, 46, 47, 708, 709, 710, 711, 684, 685, 686, 687, 688] rfl (by decide +kernel)
set_option maxRecDepth 20000 in
theorem gL_law_X8_maybe : GoodIn wsL_law (wsV RL 109 RX8 yX8_maybe wsX8_maybe) := goodIn_app (goodIn_of _ (by decide +kernel)) ggL_law_X8_maybe
set_option maxRecDepth 20000 in
theorem ggL_law_X9_maybe : GoodIn wsL_law wsX9_maybe := goodIn_r _ [612, 170, 70, 576, 577, 5, 578, 172, 173, 174, 613, 614, 615, 616, 67, 689, 690, 691, 692, 693, 694, 695, 696, 697, 698, 699, 700, 701, 702, 703, 704, 705] rfl (by decide +kernel)
set_option maxRecDepth 20000 in
theorem gL_law_X9_maybe : GoodIn wsL_law (wsV RL 112 RX9 yX9_maybe wsX9_maybe) := goodIn_app (goodIn_of _ (by decide +kernel)) ggL_law_X9_maybe
set_option maxRecDepth 20000 in
theorem ggL_law_X8_push : GoodIn wsL_law wsX8_push := goodIn_r _ [620, 568, 569, 570, 2, 571, 21, 87, 88, 89, 587, 588, 589, 23, 590, 44, 621, 622, 623, 624, 43, 38, 596, 708, 709, 710, 711, 684, 685, 686, 687, 688] rfl (by decide +kernel)
set_option maxRecDepth 20000 in
theorem gL_law_X8_push : GoodIn wsL_law (wsV RL 113 RX8 yX8_push wsX8_push) := goodIn_app (goodIn_of _ (by decide +kernel)) ggL_law_X8_push
set_option maxRecDepth 20000 in
theorem ggL_law_X9_push : GoodIn wsL_law wsX9_push := goodIn_r _ [628, 170, 68, 70, 576, 577, 5, 578, 172, 173, 174, 629, 630, 631, 632, 67, 69, 689, 690, 691, 692, 693, 694, 695, 696, 697, 698, 699, 700, 701, 702, 703, 704, 705] rfl (by decide +kernel)
set_option maxRecDepth 20000 in
theorem gL_law_X9_push : GoodIn wsL_law (wsV RL 116 RX9 yX9_push wsX9_push) := goodIn_app (goodIn_of _ (by decide +kernel)) ggL_law_X9_push
set_option maxRecDepth 20000 in
theorem ggL_law_X8_way : GoodIn wsL_law wsX8_way := goodIn_r _ [636, 27, 568, 569, 570, 2, 571, 21, 87, 88, 89, 605, 606, 607, 23, 608, 43, 46, 47, 637, 638, 639, 26, 640, 57, 56, 58, 641, 49, 50, 51, 642, 643, 644, 645, 59, 55, 646, 622, 623, 624, 38, 596, 588, 589, 590, 44, 684, 685, 686, 687, 688, 708, 709, 710, 711, 712, 713, 714, 715, 716] rfl (by decide +kernel)
set_option maxRecDepth 20000 in
theorem gL_law_X8_way : GoodIn wsL_law (wsV RL 117 RX8 yX8_way wsX8_way) := goodIn_app (goodIn_of _ (by decide +kernel)) ggL_law_X8_way
set_option maxRecDepth 20000 in
theorem ggL_law_X9_way : GoodIn wsL_law wsX9_way := goodIn_r _ [650, 170, 73, 72, 70, 68, 74, 576, 577, 5, 578, 172, 173, 174, 613, 614, 615, 616, 67, 651, 652, 653, 654, 655, 71, 629, 630, 631, 632, 69, 689, 690, 691, 692, 693, 694, 695, 696, 697, 698, 699, 700, 701, 702, 703, 704, 705] rfl (by decide +kernel)
set_option maxRecDepth 20000 in
theorem gL_law_X9_way : GoodIn wsL_law (wsV RL 120 RX9 yX9_way wsX9_way) := goodIn_app (goodIn_of _ (by decide +kernel)) ggL_law_X9_way
set_option maxRecDepth 20000 in
theorem ggL_law_X8_button : GoodIn wsL_law wsX8_button := goodIn_r _ [659, 27, 660, 661, 662, 26, 663, 59, 55, 88, 2, 89, 684, 685, 686, 687, 688, 712, 713, 714, 715, 716] rfl (by decide +kernel)
set_option maxRecDepth 20000 in
theorem gL_law_X8_button : GoodIn wsL_law (wsV RL 121 RX8 yX8_button wsX8_button) := goodIn_app (goodIn_of _ (by decide +kernel)) ggL_law_X8_button
set_option maxRecDepth 20000 in
theorem ggL_law_X9_button : GoodIn wsL_law wsX9_button := goodIn_r _ [667, 170, 655, 71, 172, 173, 5, 174, 689, 690, 691, 692, 693, 694, 695, 696, 697, 698, 699, 700, 701, 702, 703, 704, 705] rfl (by decide +kernel)
set_option maxRecDepth 20000 in
theorem gL_law_X9_button : GoodIn wsL_law (wsV RL 124 RX9 yX9_button wsX9_button) := goodIn_app (goodIn_of _ (by decide +kernel)) ggL_law_X9_button
set_option maxRecDepth 20000 in
theorem ggL_law_X8_told : GoodIn wsL_law wsX8_told := goodIn_r _ [671, 568, 569, 570, 2, 571, 21, 87, 88, 89, 708, 709, 710, 711, 684, 685, 686, 687, 688] rfl (by decide +kernel)
set_option maxRecDepth 20000 in
theorem gL_law_X8_told : GoodIn wsL_law (wsV RL 125 RX8 yX8_told wsX8_told) := goodIn_app (goodIn_of _ (by decide +kernel)) ggL_law_X8_told
set_option maxRecDepth 20000 in
theorem ggL_law_X9_told : GoodIn wsL_law wsX9_told := goodIn_r _ [675, 170, 67, 68, 70, 576, 577, 5, 578, 172, 173, 174, 689, 690, 691, 692, 693, 694, 695, 696, 697, 698, 699, 700, 701, 702, 703, 704, 705] rfl (by decide +kernel)
set_option maxRecDepth 20000 in
theorem gL_law_X9_told : GoodIn wsL_law (wsV RL 128 RX9 yX9_told wsX9_told) := goodIn_app (goodIn_of _ (by decide +kernel)) ggL_law_X9_told
set_option maxRecDepth 20000 in
theorem ggL_law_X8_count : GoodIn wsL_law wsX8_count := goodIn_r _ [679, 19, 16, 27, 684, 685, 686, 687, 688, 706, 707, 712, 713, 714, 715, 716] rfl (by decide +kernel)
set_option maxRecDepth 20000 in
theorem gL_law_X8_count : GoodIn wsL_law (wsV RL 129 RX8 yX8_count wsX8_count) := goodIn_app (goodIn_of _ (by decide +kernel)) ggL_law_X8_count
set_option maxRecDepth 20000 in
theorem ggL_law_X9_count : GoodIn wsL_law wsX9_count := goodIn_r _ [683, 170, 171, 207, 655, 689, 690, 691, 692, 693, 694, 695, 696, 697, 698, 699, 700, 701, 702, 703, 704, 705] rfl (by decide +kernel)
set_option maxRecDepth 20000 in
theorem gL_law_X9_count : GoodIn wsL_law (wsV RL 132 RX9 yX9_count wsX9_count) := goodIn_app (goodIn_of _ (by decide +kernel)) ggL_law_X9_count
theorem dL_law_0 : decode cL_law 0 = .ok (.new 8, 3) := by decide +kernel
theorem dL_law_3 : decode cL_law 3 = .ok (.dup, 1) := by decide +kernel
theorem dL_law_4 : decode cL_law 4 = .ok (.invokespecial 15, 3) := by decide +kernel
theorem dL_law_7 : decode cL_law 7 = .ok (.astore_n 1, 1) := by decide +kernel
theorem dL_law_8 : decode cL_law 8 = .ok (.new 16, 3) := by decide +kernel
theorem dL_law_11 : decode cL_law 11 = .ok (.dup, 1) := by decide +kernel
theorem dL_law_12 : decode cL_law 12 = .ok (.invokespecial 18, 3) := by decide +kernel
theorem dL_law_15 : decode cL_law 15 = .ok (.astore_n 2, 1) := by decide +kernel
theorem dL_law_16 : decode cL_law 16 = .ok (.iconst 1, 1) := by decide +kernel
theorem dL_law_17 : decode cL_law 17 = .ok (.newarray .long, 2) := by decide +kernel
theorem dL_law_19 : decode cL_law 19 = .ok (.astore_n 3, 1) := by decide +kernel
theorem dL_law_20 : decode cL_law 20 = .ok (.iconst 0, 1) := by decide +kernel
theorem dL_law_21 : decode cL_law 21 = .ok (.istore 4, 2) := by decide +kernel
theorem dL_law_23 : decode cL_law 23 = .ok (.iload 4, 2) := by decide +kernel
theorem dL_law_25 : decode cL_law 25 = .ok (.aload_n 0, 1) := by decide +kernel
theorem dL_law_26 : decode cL_law 26 = .ok (.arraylength, 1) := by decide +kernel
theorem dL_law_27 : decode cL_law 27 = .ok (.bipush 8, 2) := by decide +kernel
theorem dL_law_29 : decode cL_law 29 = .ok (.isub, 1) := by decide +kernel
theorem dL_law_30 : decode cL_law 30 = .ok (.if_icmp .gt 1141, 3) := by decide +kernel
theorem dL_law_33 : decode cL_law 33 = .ok (.aload_n 0, 1) := by decide +kernel
theorem dL_law_34 : decode cL_law 34 = .ok (.iload 4, 2) := by decide +kernel
theorem dL_law_36 : decode cL_law 36 = .ok (.iaload, 1) := by decide +kernel
theorem dL_law_37 : decode cL_law 37 = .ok (.bipush 31, 2) := by decide +kernel
theorem dL_law_39 : decode cL_law 39 = .ok (.iand, 1) := by decide +kernel
theorem dL_law_40 : decode cL_law 40 = .ok (.tableswitch 1125 0 25 #[120, 221, 270, 343, 368, 405, 433, 458, 471, 496, 533, 570, 607, 644, 681, 718, 743, 780, 817, 866, 927, 964, 1001, 1038, 1063, 1100], 120) := by decide +kernel
theorem dL_law_160 : decode cL_law 160 = .ok (.aload_n 1, 1) := by decide +kernel
theorem dL_law_161 : decode cL_law 161 = .ok (.aload_n 0, 1) := by decide +kernel
theorem dL_law_162 : decode cL_law 162 = .ok (.iload 4, 2) := by decide +kernel
theorem dL_law_164 : decode cL_law 164 = .ok (.iconst 1, 1) := by decide +kernel
theorem dL_law_165 : decode cL_law 165 = .ok (.iadd, 1) := by decide +kernel
theorem dL_law_166 : decode cL_law 166 = .ok (.iaload, 1) := by decide +kernel
theorem dL_law_167 : decode cL_law 167 = .ok (.aload_n 0, 1) := by decide +kernel
theorem dL_law_168 : decode cL_law 168 = .ok (.iload 4, 2) := by decide +kernel
theorem dL_law_170 : decode cL_law 170 = .ok (.iconst 2, 1) := by decide +kernel
theorem dL_law_171 : decode cL_law 171 = .ok (.iadd, 1) := by decide +kernel
theorem dL_law_172 : decode cL_law 172 = .ok (.iaload, 1) := by decide +kernel
theorem dL_law_173 : decode cL_law 173 = .ok (.aload_n 0, 1) := by decide +kernel
theorem dL_law_174 : decode cL_law 174 = .ok (.iload 4, 2) := by decide +kernel
theorem dL_law_176 : decode cL_law 176 = .ok (.iconst 3, 1) := by decide +kernel
theorem dL_law_177 : decode cL_law 177 = .ok (.iadd, 1) := by decide +kernel
theorem dL_law_178 : decode cL_law 178 = .ok (.iaload, 1) := by decide +kernel
theorem dL_law_179 : decode cL_law 179 = .ok (.aload_n 0, 1) := by decide +kernel
theorem dL_law_180 : decode cL_law 180 = .ok (.iload 4, 2) := by decide +kernel
theorem dL_law_182 : decode cL_law 182 = .ok (.iconst 4, 1) := by decide +kernel
theorem dL_law_183 : decode cL_law 183 = .ok (.iadd, 1) := by decide +kernel
theorem dL_law_184 : decode cL_law 184 = .ok (.iaload, 1) := by decide +kernel
theorem dL_law_185 : decode cL_law 185 = .ok (.aload_n 0, 1) := by decide +kernel
theorem dL_law_186 : decode cL_law 186 = .ok (.iload 4, 2) := by decide +kernel
theorem dL_law_188 : decode cL_law 188 = .ok (.iconst 5, 1) := by decide +kernel
theorem dL_law_189 : decode cL_law 189 = .ok (.iadd, 1) := by decide +kernel
theorem dL_law_190 : decode cL_law 190 = .ok (.iaload, 1) := by decide +kernel
theorem dL_law_191 : decode cL_law 191 = .ok (.aload_n 0, 1) := by decide +kernel
theorem dL_law_192 : decode cL_law 192 = .ok (.iload 4, 2) := by decide +kernel
theorem dL_law_194 : decode cL_law 194 = .ok (.bipush 6, 2) := by decide +kernel
theorem dL_law_196 : decode cL_law 196 = .ok (.iadd, 1) := by decide +kernel
theorem dL_law_197 : decode cL_law 197 = .ok (.iaload, 1) := by decide +kernel
theorem dL_law_198 : decode cL_law 198 = .ok (.aload_n 0, 1) := by decide +kernel
theorem dL_law_199 : decode cL_law 199 = .ok (.iload 4, 2) := by decide +kernel
theorem dL_law_201 : decode cL_law 201 = .ok (.bipush 7, 2) := by decide +kernel
theorem dL_law_203 : decode cL_law 203 = .ok (.iadd, 1) := by decide +kernel
theorem dL_law_204 : decode cL_law 204 = .ok (.iaload, 1) := by decide +kernel
theorem dL_law_205 : decode cL_law 205 = .ok (.invokevirtual 19, 3) := by decide +kernel
theorem dL_law_208 : decode cL_law 208 = .ok (.pop, 1) := by decide +kernel
theorem dL_law_209 : decode cL_law 209 = .ok (.aload_n 2, 1) := by decide +kernel
theorem dL_law_210 : decode cL_law 210 = .ok (.aload_n 0, 1) := by decide +kernel
theorem dL_law_211 : decode cL_law 211 = .ok (.iload 4, 2) := by decide +kernel
theorem dL_law_213 : decode cL_law 213 = .ok (.iconst 1, 1) := by decide +kernel
theorem dL_law_214 : decode cL_law 214 = .ok (.iadd, 1) := by decide +kernel
theorem dL_law_215 : decode cL_law 215 = .ok (.iaload, 1) := by decide +kernel
theorem dL_law_216 : decode cL_law 216 = .ok (.aload_n 0, 1) := by decide +kernel
theorem dL_law_217 : decode cL_law 217 = .ok (.iload 4, 2) := by decide +kernel
theorem dL_law_219 : decode cL_law 219 = .ok (.iconst 2, 1) := by decide +kernel
theorem dL_law_220 : decode cL_law 220 = .ok (.iadd, 1) := by decide +kernel
theorem dL_law_221 : decode cL_law 221 = .ok (.iaload, 1) := by decide +kernel
theorem dL_law_222 : decode cL_law 222 = .ok (.aload_n 0, 1) := by decide +kernel
theorem dL_law_223 : decode cL_law 223 = .ok (.iload 4, 2) := by decide +kernel
theorem dL_law_225 : decode cL_law 225 = .ok (.iconst 3, 1) := by decide +kernel
theorem dL_law_226 : decode cL_law 226 = .ok (.iadd, 1) := by decide +kernel
theorem dL_law_227 : decode cL_law 227 = .ok (.iaload, 1) := by decide +kernel
theorem dL_law_228 : decode cL_law 228 = .ok (.aload_n 0, 1) := by decide +kernel
theorem dL_law_229 : decode cL_law 229 = .ok (.iload 4, 2) := by decide +kernel
theorem dL_law_231 : decode cL_law 231 = .ok (.iconst 4, 1) := by decide +kernel
theorem dL_law_232 : decode cL_law 232 = .ok (.iadd, 1) := by decide +kernel
theorem dL_law_233 : decode cL_law 233 = .ok (.iaload, 1) := by decide +kernel
theorem dL_law_234 : decode cL_law 234 = .ok (.aload_n 0, 1) := by decide +kernel
theorem dL_law_235 : decode cL_law 235 = .ok (.iload 4, 2) := by decide +kernel
theorem dL_law_237 : decode cL_law 237 = .ok (.iconst 5, 1) := by decide +kernel
theorem dL_law_238 : decode cL_law 238 = .ok (.iadd, 1) := by decide +kernel
theorem dL_law_239 : decode cL_law 239 = .ok (.iaload, 1) := by decide +kernel
theorem dL_law_240 : decode cL_law 240 = .ok (.aload_n 0, 1) := by decide +kernel
theorem dL_law_241 : decode cL_law 241 = .ok (.iload 4, 2) := by decide +kernel
theorem dL_law_243 : decode cL_law 243 = .ok (.bipush 6, 2) := by decide +kernel
theorem dL_law_245 : decode cL_law 245 = .ok (.iadd, 1) := by decide +kernel
theorem dL_law_246 : decode cL_law 246 = .ok (.iaload, 1) := by decide +kernel
theorem dL_law_247 : decode cL_law 247 = .ok (.aload_n 0, 1) := by decide +kernel
theorem dL_law_248 : decode cL_law 248 = .ok (.iload 4, 2) := by decide +kernel
theorem dL_law_250 : decode cL_law 250 = .ok (.bipush 7, 2) := by decide +kernel
theorem dL_law_252 : decode cL_law 252 = .ok (.iadd, 1) := by decide +kernel
theorem dL_law_253 : decode cL_law 253 = .ok (.iaload, 1) := by decide +kernel
theorem dL_law_254 : decode cL_law 254 = .ok (.invokevirtual 23, 3) := by decide +kernel
theorem dL_law_257 : decode cL_law 257 = .ok (.pop, 1) := by decide +kernel
theorem dL_law_258 : decode cL_law 258 = .ok (.goto 907, 3) := by decide +kernel
theorem dL_law_261 : decode cL_law 261 = .ok (.aload_n 1, 1) := by decide +kernel
theorem dL_law_262 : decode cL_law 262 = .ok (.aload_n 0, 1) := by decide +kernel
theorem dL_law_263 : decode cL_law 263 = .ok (.iload 4, 2) := by decide +kernel
theorem dL_law_265 : decode cL_law 265 = .ok (.iconst 1, 1) := by decide +kernel
theorem dL_law_266 : decode cL_law 266 = .ok (.iadd, 1) := by decide +kernel
theorem dL_law_267 : decode cL_law 267 = .ok (.iaload, 1) := by decide +kernel
theorem dL_law_268 : decode cL_law 268 = .ok (.aload_n 0, 1) := by decide +kernel
theorem dL_law_269 : decode cL_law 269 = .ok (.iload 4, 2) := by decide +kernel
theorem dL_law_271 : decode cL_law 271 = .ok (.iconst 2, 1) := by decide +kernel
theorem dL_law_272 : decode cL_law 272 = .ok (.iadd, 1) := by decide +kernel
theorem dL_law_273 : decode cL_law 273 = .ok (.iaload, 1) := by decide +kernel
theorem dL_law_274 : decode cL_law 274 = .ok (.aload_n 0, 1) := by decide +kernel
theorem dL_law_275 : decode cL_law 275 = .ok (.iload 4, 2) := by decide +kernel
theorem dL_law_277 : decode cL_law 277 = .ok (.iconst 3, 1) := by decide +kernel
theorem dL_law_278 : decode cL_law 278 = .ok (.iadd, 1) := by decide +kernel
theorem dL_law_279 : decode cL_law 279 = .ok (.iaload, 1) := by decide +kernel
theorem dL_law_280 : decode cL_law 280 = .ok (.invokevirtual 24, 3) := by decide +kernel
theorem dL_law_283 : decode cL_law 283 = .ok (.pop, 1) := by decide +kernel
theorem dL_law_284 : decode cL_law 284 = .ok (.aload_n 2, 1) := by decide +kernel
theorem dL_law_285 : decode cL_law 285 = .ok (.aload_n 0, 1) := by decide +kernel
theorem dL_law_286 : decode cL_law 286 = .ok (.iload 4, 2) := by decide +kernel
theorem dL_law_288 : decode cL_law 288 = .ok (.iconst 1, 1) := by decide +kernel
theorem dL_law_289 : decode cL_law 289 = .ok (.iadd, 1) := by decide +kernel
theorem dL_law_290 : decode cL_law 290 = .ok (.iaload, 1) := by decide +kernel
theorem dL_law_291 : decode cL_law 291 = .ok (.aload_n 0, 1) := by decide +kernel
theorem dL_law_292 : decode cL_law 292 = .ok (.iload 4, 2) := by decide +kernel
theorem dL_law_294 : decode cL_law 294 = .ok (.iconst 2, 1) := by decide +kernel
theorem dL_law_295 : decode cL_law 295 = .ok (.iadd, 1) := by decide +kernel
theorem dL_law_296 : decode cL_law 296 = .ok (.iaload, 1) := by decide +kernel
theorem dL_law_297 : decode cL_law 297 = .ok (.aload_n 0, 1) := by decide +kernel
theorem dL_law_298 : decode cL_law 298 = .ok (.iload 4, 2) := by decide +kernel
theorem dL_law_300 : decode cL_law 300 = .ok (.iconst 3, 1) := by decide +kernel
theorem dL_law_301 : decode cL_law 301 = .ok (.iadd, 1) := by decide +kernel
theorem dL_law_302 : decode cL_law 302 = .ok (.iaload, 1) := by decide +kernel
theorem dL_law_303 : decode cL_law 303 = .ok (.invokevirtual 28, 3) := by decide +kernel
theorem dL_law_306 : decode cL_law 306 = .ok (.pop, 1) := by decide +kernel
theorem dL_law_307 : decode cL_law 307 = .ok (.goto 858, 3) := by decide +kernel
theorem dL_law_310 : decode cL_law 310 = .ok (.aload_n 1, 1) := by decide +kernel
theorem dL_law_311 : decode cL_law 311 = .ok (.aload_n 0, 1) := by decide +kernel
theorem dL_law_312 : decode cL_law 312 = .ok (.iload 4, 2) := by decide +kernel
theorem dL_law_314 : decode cL_law 314 = .ok (.iconst 1, 1) := by decide +kernel
theorem dL_law_315 : decode cL_law 315 = .ok (.iadd, 1) := by decide +kernel
theorem dL_law_316 : decode cL_law 316 = .ok (.iaload, 1) := by decide +kernel
theorem dL_law_317 : decode cL_law 317 = .ok (.aload_n 0, 1) := by decide +kernel
theorem dL_law_318 : decode cL_law 318 = .ok (.iload 4, 2) := by decide +kernel
theorem dL_law_320 : decode cL_law 320 = .ok (.iconst 2, 1) := by decide +kernel
theorem dL_law_321 : decode cL_law 321 = .ok (.iadd, 1) := by decide +kernel
theorem dL_law_322 : decode cL_law 322 = .ok (.iaload, 1) := by decide +kernel
theorem dL_law_323 : decode cL_law 323 = .ok (.aload_n 0, 1) := by decide +kernel
theorem dL_law_324 : decode cL_law 324 = .ok (.iload 4, 2) := by decide +kernel
theorem dL_law_326 : decode cL_law 326 = .ok (.iconst 3, 1) := by decide +kernel
theorem dL_law_327 : decode cL_law 327 = .ok (.iadd, 1) := by decide +kernel
theorem dL_law_328 : decode cL_law 328 = .ok (.iaload, 1) := by decide +kernel
theorem dL_law_329 : decode cL_law 329 = .ok (.aload_n 0, 1) := by decide +kernel
theorem dL_law_330 : decode cL_law 330 = .ok (.iload 4, 2) := by decide +kernel
theorem dL_law_332 : decode cL_law 332 = .ok (.iconst 4, 1) := by decide +kernel
theorem dL_law_333 : decode cL_law 333 = .ok (.iadd, 1) := by decide +kernel
theorem dL_law_334 : decode cL_law 334 = .ok (.iaload, 1) := by decide +kernel
theorem dL_law_335 : decode cL_law 335 = .ok (.aload_n 0, 1) := by decide +kernel
theorem dL_law_336 : decode cL_law 336 = .ok (.iload 4, 2) := by decide +kernel
theorem dL_law_338 : decode cL_law 338 = .ok (.iconst 5, 1) := by decide +kernel
theorem dL_law_339 : decode cL_law 339 = .ok (.iadd, 1) := by decide +kernel
theorem dL_law_340 : decode cL_law 340 = .ok (.iaload, 1) := by decide +kernel
theorem dL_law_341 : decode cL_law 341 = .ok (.invokevirtual 29, 3) := by decide +kernel
theorem dL_law_344 : decode cL_law 344 = .ok (.pop, 1) := by decide +kernel
theorem dL_law_345 : decode cL_law 345 = .ok (.aload_n 2, 1) := by decide +kernel
theorem dL_law_346 : decode cL_law 346 = .ok (.aload_n 0, 1) := by decide +kernel
theorem dL_law_347 : decode cL_law 347 = .ok (.iload 4, 2) := by decide +kernel
theorem dL_law_349 : decode cL_law 349 = .ok (.iconst 1, 1) := by decide +kernel
theorem dL_law_350 : decode cL_law 350 = .ok (.iadd, 1) := by decide +kernel
theorem dL_law_351 : decode cL_law 351 = .ok (.iaload, 1) := by decide +kernel
theorem dL_law_352 : decode cL_law 352 = .ok (.aload_n 0, 1) := by decide +kernel
theorem dL_law_353 : decode cL_law 353 = .ok (.iload 4, 2) := by decide +kernel
theorem dL_law_355 : decode cL_law 355 = .ok (.iconst 2, 1) := by decide +kernel
theorem dL_law_356 : decode cL_law 356 = .ok (.iadd, 1) := by decide +kernel
theorem dL_law_357 : decode cL_law 357 = .ok (.iaload, 1) := by decide +kernel
theorem dL_law_358 : decode cL_law 358 = .ok (.aload_n 0, 1) := by decide +kernel
theorem dL_law_359 : decode cL_law 359 = .ok (.iload 4, 2) := by decide +kernel
theorem dL_law_361 : decode cL_law 361 = .ok (.iconst 3, 1) := by decide +kernel
theorem dL_law_362 : decode cL_law 362 = .ok (.iadd, 1) := by decide +kernel
theorem dL_law_363 : decode cL_law 363 = .ok (.iaload, 1) := by decide +kernel
theorem dL_law_364 : decode cL_law 364 = .ok (.aload_n 0, 1) := by decide +kernel
theorem dL_law_365 : decode cL_law 365 = .ok (.iload 4, 2) := by decide +kernel
theorem dL_law_367 : decode cL_law 367 = .ok (.iconst 4, 1) := by decide +kernel
theorem dL_law_368 : decode cL_law 368 = .ok (.iadd, 1) := by decide +kernel
theorem dL_law_369 : decode cL_law 369 = .ok (.iaload, 1) := by decide +kernel
theorem dL_law_370 : decode cL_law 370 = .ok (.aload_n 0, 1) := by decide +kernel
theorem dL_law_371 : decode cL_law 371 = .ok (.iload 4, 2) := by decide +kernel
theorem dL_law_373 : decode cL_law 373 = .ok (.iconst 5, 1) := by decide +kernel
theorem dL_law_374 : decode cL_law 374 = .ok (.iadd, 1) := by decide +kernel
theorem dL_law_375 : decode cL_law 375 = .ok (.iaload, 1) := by decide +kernel
theorem dL_law_376 : decode cL_law 376 = .ok (.invokevirtual 33, 3) := by decide +kernel
theorem dL_law_379 : decode cL_law 379 = .ok (.pop, 1) := by decide +kernel
theorem dL_law_380 : decode cL_law 380 = .ok (.goto 785, 3) := by decide +kernel
theorem dL_law_383 : decode cL_law 383 = .ok (.aload_n 1, 1) := by decide +kernel
theorem dL_law_384 : decode cL_law 384 = .ok (.aload_n 0, 1) := by decide +kernel
theorem dL_law_385 : decode cL_law 385 = .ok (.iload 4, 2) := by decide +kernel
theorem dL_law_387 : decode cL_law 387 = .ok (.iconst 1, 1) := by decide +kernel
theorem dL_law_388 : decode cL_law 388 = .ok (.iadd, 1) := by decide +kernel
theorem dL_law_389 : decode cL_law 389 = .ok (.iaload, 1) := by decide +kernel
theorem dL_law_390 : decode cL_law 390 = .ok (.invokevirtual 34, 3) := by decide +kernel
theorem dL_law_393 : decode cL_law 393 = .ok (.pop, 1) := by decide +kernel
theorem dL_law_394 : decode cL_law 394 = .ok (.aload_n 2, 1) := by decide +kernel
theorem dL_law_395 : decode cL_law 395 = .ok (.aload_n 0, 1) := by decide +kernel
theorem dL_law_396 : decode cL_law 396 = .ok (.iload 4, 2) := by decide +kernel
theorem dL_law_398 : decode cL_law 398 = .ok (.iconst 1, 1) := by decide +kernel
theorem dL_law_399 : decode cL_law 399 = .ok (.iadd, 1) := by decide +kernel
theorem dL_law_400 : decode cL_law 400 = .ok (.iaload, 1) := by decide +kernel
theorem dL_law_401 : decode cL_law 401 = .ok (.invokevirtual 38, 3) := by decide +kernel
theorem dL_law_404 : decode cL_law 404 = .ok (.pop, 1) := by decide +kernel
theorem dL_law_405 : decode cL_law 405 = .ok (.goto 760, 3) := by decide +kernel
theorem dL_law_408 : decode cL_law 408 = .ok (.aload_n 1, 1) := by decide +kernel
theorem dL_law_409 : decode cL_law 409 = .ok (.aload_n 0, 1) := by decide +kernel
theorem dL_law_410 : decode cL_law 410 = .ok (.iload 4, 2) := by decide +kernel
theorem dL_law_412 : decode cL_law 412 = .ok (.iconst 1, 1) := by decide +kernel
theorem dL_law_413 : decode cL_law 413 = .ok (.iadd, 1) := by decide +kernel
theorem dL_law_414 : decode cL_law 414 = .ok (.iaload, 1) := by decide +kernel
theorem dL_law_415 : decode cL_law 415 = .ok (.aload_n 0, 1) := by decide +kernel
theorem dL_law_416 : decode cL_law 416 = .ok (.iload 4, 2) := by decide +kernel
theorem dL_law_418 : decode cL_law 418 = .ok (.iconst 2, 1) := by decide +kernel
theorem dL_law_419 : decode cL_law 419 = .ok (.iadd, 1) := by decide +kernel
theorem dL_law_420 : decode cL_law 420 = .ok (.iaload, 1) := by decide +kernel
theorem dL_law_421 : decode cL_law 421 = .ok (.invokevirtual 39, 3) := by decide +kernel
theorem dL_law_424 : decode cL_law 424 = .ok (.pop, 1) := by decide +kernel
theorem dL_law_425 : decode cL_law 425 = .ok (.aload_n 2, 1) := by decide +kernel
theorem dL_law_426 : decode cL_law 426 = .ok (.aload_n 0, 1) := by decide +kernel
theorem dL_law_427 : decode cL_law 427 = .ok (.iload 4, 2) := by decide +kernel
theorem dL_law_429 : decode cL_law 429 = .ok (.iconst 1, 1) := by decide +kernel
theorem dL_law_430 : decode cL_law 430 = .ok (.iadd, 1) := by decide +kernel
theorem dL_law_431 : decode cL_law 431 = .ok (.iaload, 1) := by decide +kernel
theorem dL_law_432 : decode cL_law 432 = .ok (.aload_n 0, 1) := by decide +kernel
theorem dL_law_433 : decode cL_law 433 = .ok (.iload 4, 2) := by decide +kernel
theorem dL_law_435 : decode cL_law 435 = .ok (.iconst 2, 1) := by decide +kernel
theorem dL_law_436 : decode cL_law 436 = .ok (.iadd, 1) := by decide +kernel
theorem dL_law_437 : decode cL_law 437 = .ok (.iaload, 1) := by decide +kernel
theorem dL_law_438 : decode cL_law 438 = .ok (.invokevirtual 43, 3) := by decide +kernel
theorem dL_law_441 : decode cL_law 441 = .ok (.pop, 1) := by decide +kernel
theorem dL_law_442 : decode cL_law 442 = .ok (.goto 723, 3) := by decide +kernel
theorem dL_law_445 : decode cL_law 445 = .ok (.aload_n 1, 1) := by decide +kernel
theorem dL_law_446 : decode cL_law 446 = .ok (.aload_n 0, 1) := by decide +kernel
theorem dL_law_447 : decode cL_law 447 = .ok (.iload 4, 2) := by decide +kernel
theorem dL_law_449 : decode cL_law 449 = .ok (.iconst 1, 1) := by decide +kernel
theorem dL_law_450 : decode cL_law 450 = .ok (.iadd, 1) := by decide +kernel
theorem dL_law_451 : decode cL_law 451 = .ok (.iaload, 1) := by decide +kernel
theorem dL_law_452 : decode cL_law 452 = .ok (.aload_n 3, 1) := by decide +kernel
theorem dL_law_453 : decode cL_law 453 = .ok (.invokestatic 44, 3) := by decide +kernel
theorem dL_law_456 : decode cL_law 456 = .ok (.istore 5, 2) := by decide +kernel
theorem dL_law_458 : decode cL_law 458 = .ok (.aload_n 2, 1) := by decide +kernel
theorem dL_law_459 : decode cL_law 459 = .ok (.aload_n 0, 1) := by decide +kernel
theorem dL_law_460 : decode cL_law 460 = .ok (.iload 4, 2) := by decide +kernel
theorem dL_law_462 : decode cL_law 462 = .ok (.iconst 1, 1) := by decide +kernel
theorem dL_law_463 : decode cL_law 463 = .ok (.iadd, 1) := by decide +kernel
theorem dL_law_464 : decode cL_law 464 = .ok (.iaload, 1) := by decide +kernel
theorem dL_law_465 : decode cL_law 465 = .ok (.invokevirtual 49, 3) := by decide +kernel
theorem dL_law_468 : decode cL_law 468 = .ok (.istore 6, 2) := by decide +kernel
theorem dL_law_470 : decode cL_law 470 = .ok (.goto 695, 3) := by decide +kernel
theorem dL_law_473 : decode cL_law 473 = .ok (.aload_n 1, 1) := by decide +kernel
theorem dL_law_474 : decode cL_law 474 = .ok (.aload_n 0, 1) := by decide +kernel
theorem dL_law_475 : decode cL_law 475 = .ok (.iload 4, 2) := by decide +kernel
theorem dL_law_477 : decode cL_law 477 = .ok (.iconst 1, 1) := by decide +kernel
theorem dL_law_478 : decode cL_law 478 = .ok (.iadd, 1) := by decide +kernel
theorem dL_law_479 : decode cL_law 479 = .ok (.iaload, 1) := by decide +kernel
theorem dL_law_480 : decode cL_law 480 = .ok (.invokevirtual 50, 3) := by decide +kernel
theorem dL_law_483 : decode cL_law 483 = .ok (.pop, 1) := by decide +kernel
theorem dL_law_484 : decode cL_law 484 = .ok (.aload_n 2, 1) := by decide +kernel
theorem dL_law_485 : decode cL_law 485 = .ok (.aload_n 0, 1) := by decide +kernel
theorem dL_law_486 : decode cL_law 486 = .ok (.iload 4, 2) := by decide +kernel
theorem dL_law_488 : decode cL_law 488 = .ok (.iconst 1, 1) := by decide +kernel
theorem dL_law_489 : decode cL_law 489 = .ok (.iadd, 1) := by decide +kernel
theorem dL_law_490 : decode cL_law 490 = .ok (.iaload, 1) := by decide +kernel
theorem dL_law_491 : decode cL_law 491 = .ok (.invokevirtual 53, 3) := by decide +kernel
theorem dL_law_494 : decode cL_law 494 = .ok (.pop, 1) := by decide +kernel
theorem dL_law_495 : decode cL_law 495 = .ok (.goto 670, 3) := by decide +kernel
theorem dL_law_498 : decode cL_law 498 = .ok (.aload_n 1, 1) := by decide +kernel
theorem dL_law_499 : decode cL_law 499 = .ok (.invokevirtual 54, 3) := by decide +kernel
theorem dL_law_502 : decode cL_law 502 = .ok (.pop, 1) := by decide +kernel
theorem dL_law_503 : decode cL_law 503 = .ok (.aload_n 2, 1) := by decide +kernel
theorem dL_law_504 : decode cL_law 504 = .ok (.invokevirtual 58, 3) := by decide +kernel
theorem dL_law_507 : decode cL_law 507 = .ok (.pop, 1) := by decide +kernel
theorem dL_law_508 : decode cL_law 508 = .ok (.goto 657, 3) := by decide +kernel
theorem dL_law_511 : decode cL_law 511 = .ok (.aload_n 1, 1) := by decide +kernel
theorem dL_law_512 : decode cL_law 512 = .ok (.aload_n 0, 1) := by decide +kernel
theorem dL_law_513 : decode cL_law 513 = .ok (.iload 4, 2) := by decide +kernel
theorem dL_law_515 : decode cL_law 515 = .ok (.iconst 1, 1) := by decide +kernel
theorem dL_law_516 : decode cL_law 516 = .ok (.iadd, 1) := by decide +kernel
theorem dL_law_517 : decode cL_law 517 = .ok (.iaload, 1) := by decide +kernel
theorem dL_law_518 : decode cL_law 518 = .ok (.invokevirtual 59, 3) := by decide +kernel
theorem dL_law_521 : decode cL_law 521 = .ok (.aload_n 2, 1) := by decide +kernel
theorem dL_law_522 : decode cL_law 522 = .ok (.aload_n 0, 1) := by decide +kernel
theorem dL_law_523 : decode cL_law 523 = .ok (.iload 4, 2) := by decide +kernel
theorem dL_law_525 : decode cL_law 525 = .ok (.iconst 1, 1) := by decide +kernel
theorem dL_law_526 : decode cL_law 526 = .ok (.iadd, 1) := by decide +kernel
theorem dL_law_527 : decode cL_law 527 = .ok (.iaload, 1) := by decide +kernel
theorem dL_law_528 : decode cL_law 528 = .ok (.invokevirtual 62, 3) := by decide +kernel
theorem dL_law_531 : decode cL_law 531 = .ok (.if_icmp .eq 634, 3) := by decide +kernel
theorem dL_law_534 : decode cL_law 534 = .ok (.iconst 0, 1) := by decide +kernel
theorem dL_law_535 : decode cL_law 535 = .ok (.ireturn, 1) := by decide +kernel
theorem dL_law_536 : decode cL_law 536 = .ok (.aload_n 1, 1) := by decide +kernel
theorem dL_law_537 : decode cL_law 537 = .ok (.aload_n 0, 1) := by decide +kernel
theorem dL_law_538 : decode cL_law 538 = .ok (.iload 4, 2) := by decide +kernel
theorem dL_law_540 : decode cL_law 540 = .ok (.iconst 1, 1) := by decide +kernel
theorem dL_law_541 : decode cL_law 541 = .ok (.iadd, 1) := by decide +kernel
theorem dL_law_542 : decode cL_law 542 = .ok (.iaload, 1) := by decide +kernel
theorem dL_law_543 : decode cL_law 543 = .ok (.aload_n 0, 1) := by decide +kernel
theorem dL_law_544 : decode cL_law 544 = .ok (.iload 4, 2) := by decide +kernel
theorem dL_law_546 : decode cL_law 546 = .ok (.iconst 2, 1) := by decide +kernel
theorem dL_law_547 : decode cL_law 547 = .ok (.iadd, 1) := by decide +kernel
theorem dL_law_548 : decode cL_law 548 = .ok (.iaload, 1) := by decide +kernel
theorem dL_law_549 : decode cL_law 549 = .ok (.invokevirtual 63, 3) := by decide +kernel
theorem dL_law_552 : decode cL_law 552 = .ok (.pop, 1) := by decide +kernel
theorem dL_law_553 : decode cL_law 553 = .ok (.aload_n 2, 1) := by decide +kernel
theorem dL_law_554 : decode cL_law 554 = .ok (.aload_n 0, 1) := by decide +kernel
theorem dL_law_555 : decode cL_law 555 = .ok (.iload 4, 2) := by decide +kernel
theorem dL_law_557 : decode cL_law 557 = .ok (.iconst 1, 1) := by decide +kernel
theorem dL_law_558 : decode cL_law 558 = .ok (.iadd, 1) := by decide +kernel
theorem dL_law_559 : decode cL_law 559 = .ok (.iaload, 1) := by decide +kernel
theorem dL_law_560 : decode cL_law 560 = .ok (.aload_n 0, 1) := by decide +kernel
theorem dL_law_561 : decode cL_law 561 = .ok (.iload 4, 2) := by decide +kernel
theorem dL_law_563 : decode cL_law 563 = .ok (.iconst 2, 1) := by decide +kernel
theorem dL_law_564 : decode cL_law 564 = .ok (.iadd, 1) := by decide +kernel
theorem dL_law_565 : decode cL_law 565 = .ok (.iaload, 1) := by decide +kernel
theorem dL_law_566 : decode cL_law 566 = .ok (.invokevirtual 66, 3) := by decide +kernel
theorem dL_law_569 : decode cL_law 569 = .ok (.pop, 1) := by decide +kernel
theorem dL_law_570 : decode cL_law 570 = .ok (.goto 595, 3) := by decide +kernel
theorem dL_law_573 : decode cL_law 573 = .ok (.aload_n 1, 1) := by decide +kernel
theorem dL_law_574 : decode cL_law 574 = .ok (.aload_n 0, 1) := by decide +kernel
theorem dL_law_575 : decode cL_law 575 = .ok (.iload 4, 2) := by decide +kernel
theorem dL_law_577 : decode cL_law 577 = .ok (.iconst 1, 1) := by decide +kernel
theorem dL_law_578 : decode cL_law 578 = .ok (.iadd, 1) := by decide +kernel
theorem dL_law_579 : decode cL_law 579 = .ok (.iaload, 1) := by decide +kernel
theorem dL_law_580 : decode cL_law 580 = .ok (.aload_n 0, 1) := by decide +kernel
theorem dL_law_581 : decode cL_law 581 = .ok (.iload 4, 2) := by decide +kernel
theorem dL_law_583 : decode cL_law 583 = .ok (.iconst 2, 1) := by decide +kernel
theorem dL_law_584 : decode cL_law 584 = .ok (.iadd, 1) := by decide +kernel
theorem dL_law_585 : decode cL_law 585 = .ok (.iaload, 1) := by decide +kernel
theorem dL_law_586 : decode cL_law 586 = .ok (.invokevirtual 67, 3) := by decide +kernel
theorem dL_law_589 : decode cL_law 589 = .ok (.pop, 1) := by decide +kernel
theorem dL_law_590 : decode cL_law 590 = .ok (.aload_n 2, 1) := by decide +kernel
theorem dL_law_591 : decode cL_law 591 = .ok (.aload_n 0, 1) := by decide +kernel
theorem dL_law_592 : decode cL_law 592 = .ok (.iload 4, 2) := by decide +kernel
theorem dL_law_594 : decode cL_law 594 = .ok (.iconst 1, 1) := by decide +kernel
theorem dL_law_595 : decode cL_law 595 = .ok (.iadd, 1) := by decide +kernel
theorem dL_law_596 : decode cL_law 596 = .ok (.iaload, 1) := by decide +kernel
theorem dL_law_597 : decode cL_law 597 = .ok (.aload_n 0, 1) := by decide +kernel
theorem dL_law_598 : decode cL_law 598 = .ok (.iload 4, 2) := by decide +kernel
theorem dL_law_600 : decode cL_law 600 = .ok (.iconst 2, 1) := by decide +kernel
theorem dL_law_601 : decode cL_law 601 = .ok (.iadd, 1) := by decide +kernel
theorem dL_law_602 : decode cL_law 602 = .ok (.iaload, 1) := by decide +kernel
theorem dL_law_603 : decode cL_law 603 = .ok (.invokevirtual 71, 3) := by decide +kernel
theorem dL_law_606 : decode cL_law 606 = .ok (.pop, 1) := by decide +kernel
theorem dL_law_607 : decode cL_law 607 = .ok (.goto 558, 3) := by decide +kernel
theorem dL_law_610 : decode cL_law 610 = .ok (.aload_n 1, 1) := by decide +kernel
theorem dL_law_611 : decode cL_law 611 = .ok (.aload_n 0, 1) := by decide +kernel
theorem dL_law_612 : decode cL_law 612 = .ok (.iload 4, 2) := by decide +kernel
theorem dL_law_614 : decode cL_law 614 = .ok (.iconst 1, 1) := by decide +kernel
theorem dL_law_615 : decode cL_law 615 = .ok (.iadd, 1) := by decide +kernel
theorem dL_law_616 : decode cL_law 616 = .ok (.iaload, 1) := by decide +kernel
theorem dL_law_617 : decode cL_law 617 = .ok (.aload_n 0, 1) := by decide +kernel
theorem dL_law_618 : decode cL_law 618 = .ok (.iload 4, 2) := by decide +kernel
theorem dL_law_620 : decode cL_law 620 = .ok (.iconst 2, 1) := by decide +kernel
theorem dL_law_621 : decode cL_law 621 = .ok (.iadd, 1) := by decide +kernel
theorem dL_law_622 : decode cL_law 622 = .ok (.iaload, 1) := by decide +kernel
theorem dL_law_623 : decode cL_law 623 = .ok (.invokevirtual 72, 3) := by decide +kernel
theorem dL_law_626 : decode cL_law 626 = .ok (.pop, 1) := by decide +kernel
theorem dL_law_627 : decode cL_law 627 = .ok (.aload_n 2, 1) := by decide +kernel
theorem dL_law_628 : decode cL_law 628 = .ok (.aload_n 0, 1) := by decide +kernel
theorem dL_law_629 : decode cL_law 629 = .ok (.iload 4, 2) := by decide +kernel
theorem dL_law_631 : decode cL_law 631 = .ok (.iconst 1, 1) := by decide +kernel
theorem dL_law_632 : decode cL_law 632 = .ok (.iadd, 1) := by decide +kernel
theorem dL_law_633 : decode cL_law 633 = .ok (.iaload, 1) := by decide +kernel
theorem dL_law_634 : decode cL_law 634 = .ok (.aload_n 0, 1) := by decide +kernel
theorem dL_law_635 : decode cL_law 635 = .ok (.iload 4, 2) := by decide +kernel
theorem dL_law_637 : decode cL_law 637 = .ok (.iconst 2, 1) := by decide +kernel
theorem dL_law_638 : decode cL_law 638 = .ok (.iadd, 1) := by decide +kernel
theorem dL_law_639 : decode cL_law 639 = .ok (.iaload, 1) := by decide +kernel
theorem dL_law_640 : decode cL_law 640 = .ok (.invokevirtual 75, 3) := by decide +kernel
theorem dL_law_643 : decode cL_law 643 = .ok (.pop, 1) := by decide +kernel
theorem dL_law_644 : decode cL_law 644 = .ok (.goto 521, 3) := by decide +kernel
theorem dL_law_647 : decode cL_law 647 = .ok (.aload_n 1, 1) := by decide +kernel
theorem dL_law_648 : decode cL_law 648 = .ok (.aload_n 0, 1) := by decide +kernel
theorem dL_law_649 : decode cL_law 649 = .ok (.iload 4, 2) := by decide +kernel
theorem dL_law_651 : decode cL_law 651 = .ok (.iconst 1, 1) := by decide +kernel
theorem dL_law_652 : decode cL_law 652 = .ok (.iadd, 1) := by decide +kernel
theorem dL_law_653 : decode cL_law 653 = .ok (.iaload, 1) := by decide +kernel
theorem dL_law_654 : decode cL_law 654 = .ok (.aload_n 0, 1) := by decide +kernel
theorem dL_law_655 : decode cL_law 655 = .ok (.iload 4, 2) := by decide +kernel
theorem dL_law_657 : decode cL_law 657 = .ok (.iconst 2, 1) := by decide +kernel
theorem dL_law_658 : decode cL_law 658 = .ok (.iadd, 1) := by decide +kernel
theorem dL_law_659 : decode cL_law 659 = .ok (.iaload, 1) := by decide +kernel
theorem dL_law_660 : decode cL_law 660 = .ok (.invokevirtual 76, 3) := by decide +kernel
theorem dL_law_663 : decode cL_law 663 = .ok (.pop, 1) := by decide +kernel
theorem dL_law_664 : decode cL_law 664 = .ok (.aload_n 2, 1) := by decide +kernel
theorem dL_law_665 : decode cL_law 665 = .ok (.aload_n 0, 1) := by decide +kernel
theorem dL_law_666 : decode cL_law 666 = .ok (.iload 4, 2) := by decide +kernel
theorem dL_law_668 : decode cL_law 668 = .ok (.iconst 1, 1) := by decide +kernel
theorem dL_law_669 : decode cL_law 669 = .ok (.iadd, 1) := by decide +kernel
theorem dL_law_670 : decode cL_law 670 = .ok (.iaload, 1) := by decide +kernel
theorem dL_law_671 : decode cL_law 671 = .ok (.aload_n 0, 1) := by decide +kernel
theorem dL_law_672 : decode cL_law 672 = .ok (.iload 4, 2) := by decide +kernel
theorem dL_law_674 : decode cL_law 674 = .ok (.iconst 2, 1) := by decide +kernel
theorem dL_law_675 : decode cL_law 675 = .ok (.iadd, 1) := by decide +kernel
theorem dL_law_676 : decode cL_law 676 = .ok (.iaload, 1) := by decide +kernel
theorem dL_law_677 : decode cL_law 677 = .ok (.invokevirtual 79, 3) := by decide +kernel
theorem dL_law_680 : decode cL_law 680 = .ok (.pop, 1) := by decide +kernel
theorem dL_law_681 : decode cL_law 681 = .ok (.goto 484, 3) := by decide +kernel
theorem dL_law_684 : decode cL_law 684 = .ok (.aload_n 1, 1) := by decide +kernel
theorem dL_law_685 : decode cL_law 685 = .ok (.aload_n 0, 1) := by decide +kernel
theorem dL_law_686 : decode cL_law 686 = .ok (.iload 4, 2) := by decide +kernel
theorem dL_law_688 : decode cL_law 688 = .ok (.iconst 1, 1) := by decide +kernel
theorem dL_law_689 : decode cL_law 689 = .ok (.iadd, 1) := by decide +kernel
theorem dL_law_690 : decode cL_law 690 = .ok (.iaload, 1) := by decide +kernel
theorem dL_law_691 : decode cL_law 691 = .ok (.aload_n 0, 1) := by decide +kernel
theorem dL_law_692 : decode cL_law 692 = .ok (.iload 4, 2) := by decide +kernel
theorem dL_law_694 : decode cL_law 694 = .ok (.iconst 2, 1) := by decide +kernel
theorem dL_law_695 : decode cL_law 695 = .ok (.iadd, 1) := by decide +kernel
theorem dL_law_696 : decode cL_law 696 = .ok (.iaload, 1) := by decide +kernel
theorem dL_law_697 : decode cL_law 697 = .ok (.invokevirtual 80, 3) := by decide +kernel
theorem dL_law_700 : decode cL_law 700 = .ok (.pop, 1) := by decide +kernel
theorem dL_law_701 : decode cL_law 701 = .ok (.aload_n 2, 1) := by decide +kernel
theorem dL_law_702 : decode cL_law 702 = .ok (.aload_n 0, 1) := by decide +kernel
theorem dL_law_703 : decode cL_law 703 = .ok (.iload 4, 2) := by decide +kernel
theorem dL_law_705 : decode cL_law 705 = .ok (.iconst 1, 1) := by decide +kernel
theorem dL_law_706 : decode cL_law 706 = .ok (.iadd, 1) := by decide +kernel
theorem dL_law_707 : decode cL_law 707 = .ok (.iaload, 1) := by decide +kernel
theorem dL_law_708 : decode cL_law 708 = .ok (.aload_n 0, 1) := by decide +kernel
theorem dL_law_709 : decode cL_law 709 = .ok (.iload 4, 2) := by decide +kernel
theorem dL_law_711 : decode cL_law 711 = .ok (.iconst 2, 1) := by decide +kernel
theorem dL_law_712 : decode cL_law 712 = .ok (.iadd, 1) := by decide +kernel
theorem dL_law_713 : decode cL_law 713 = .ok (.iaload, 1) := by decide +kernel
theorem dL_law_714 : decode cL_law 714 = .ok (.invokevirtual 83, 3) := by decide +kernel
theorem dL_law_717 : decode cL_law 717 = .ok (.pop, 1) := by decide +kernel
theorem dL_law_718 : decode cL_law 718 = .ok (.goto 447, 3) := by decide +kernel
theorem dL_law_721 : decode cL_law 721 = .ok (.aload_n 1, 1) := by decide +kernel
theorem dL_law_722 : decode cL_law 722 = .ok (.aload_n 0, 1) := by decide +kernel
theorem dL_law_723 : decode cL_law 723 = .ok (.iload 4, 2) := by decide +kernel
theorem dL_law_725 : decode cL_law 725 = .ok (.iconst 1, 1) := by decide +kernel
theorem dL_law_726 : decode cL_law 726 = .ok (.iadd, 1) := by decide +kernel
theorem dL_law_727 : decode cL_law 727 = .ok (.iaload, 1) := by decide +kernel
theorem dL_law_728 : decode cL_law 728 = .ok (.aload_n 0, 1) := by decide +kernel
theorem dL_law_729 : decode cL_law 729 = .ok (.iload 4, 2) := by decide +kernel
theorem dL_law_731 : decode cL_law 731 = .ok (.iconst 2, 1) := by decide +kernel
theorem dL_law_732 : decode cL_law 732 = .ok (.iadd, 1) := by decide +kernel
theorem dL_law_733 : decode cL_law 733 = .ok (.iaload, 1) := by decide +kernel
theorem dL_law_734 : decode cL_law 734 = .ok (.invokevirtual 84, 3) := by decide +kernel
theorem dL_law_737 : decode cL_law 737 = .ok (.pop, 1) := by decide +kernel
theorem dL_law_738 : decode cL_law 738 = .ok (.aload_n 2, 1) := by decide +kernel
theorem dL_law_739 : decode cL_law 739 = .ok (.aload_n 0, 1) := by decide +kernel
theorem dL_law_740 : decode cL_law 740 = .ok (.iload 4, 2) := by decide +kernel
theorem dL_law_742 : decode cL_law 742 = .ok (.iconst 1, 1) := by decide +kernel
theorem dL_law_743 : decode cL_law 743 = .ok (.iadd, 1) := by decide +kernel
theorem dL_law_744 : decode cL_law 744 = .ok (.iaload, 1) := by decide +kernel
theorem dL_law_745 : decode cL_law 745 = .ok (.aload_n 0, 1) := by decide +kernel
theorem dL_law_746 : decode cL_law 746 = .ok (.iload 4, 2) := by decide +kernel
theorem dL_law_748 : decode cL_law 748 = .ok (.iconst 2, 1) := by decide +kernel
theorem dL_law_749 : decode cL_law 749 = .ok (.iadd, 1) := by decide +kernel
theorem dL_law_750 : decode cL_law 750 = .ok (.iaload, 1) := by decide +kernel
theorem dL_law_751 : decode cL_law 751 = .ok (.invokevirtual 87, 3) := by decide +kernel
theorem dL_law_754 : decode cL_law 754 = .ok (.pop, 1) := by decide +kernel
theorem dL_law_755 : decode cL_law 755 = .ok (.goto 410, 3) := by decide +kernel
theorem dL_law_758 : decode cL_law 758 = .ok (.aload_n 1, 1) := by decide +kernel
theorem dL_law_759 : decode cL_law 759 = .ok (.aload_n 0, 1) := by decide +kernel
theorem dL_law_760 : decode cL_law 760 = .ok (.iload 4, 2) := by decide +kernel
theorem dL_law_762 : decode cL_law 762 = .ok (.iconst 1, 1) := by decide +kernel
theorem dL_law_763 : decode cL_law 763 = .ok (.iadd, 1) := by decide +kernel
theorem dL_law_764 : decode cL_law 764 = .ok (.iaload, 1) := by decide +kernel
theorem dL_law_765 : decode cL_law 765 = .ok (.invokevirtual 88, 3) := by decide +kernel
theorem dL_law_768 : decode cL_law 768 = .ok (.pop, 1) := by decide +kernel
theorem dL_law_769 : decode cL_law 769 = .ok (.aload_n 2, 1) := by decide +kernel
theorem dL_law_770 : decode cL_law 770 = .ok (.aload_n 0, 1) := by decide +kernel
theorem dL_law_771 : decode cL_law 771 = .ok (.iload 4, 2) := by decide +kernel
theorem dL_law_773 : decode cL_law 773 = .ok (.iconst 1, 1) := by decide +kernel
theorem dL_law_774 : decode cL_law 774 = .ok (.iadd, 1) := by decide +kernel
theorem dL_law_775 : decode cL_law 775 = .ok (.iaload, 1) := by decide +kernel
theorem dL_law_776 : decode cL_law 776 = .ok (.invokevirtual 91, 3) := by decide +kernel
theorem dL_law_779 : decode cL_law 779 = .ok (.pop, 1) := by decide +kernel
theorem dL_law_780 : decode cL_law 780 = .ok (.goto 385, 3) := by decide +kernel
theorem dL_law_783 : decode cL_law 783 = .ok (.aload_n 1, 1) := by decide +kernel
theorem dL_law_784 : decode cL_law 784 = .ok (.aload_n 0, 1) := by decide +kernel
theorem dL_law_785 : decode cL_law 785 = .ok (.iload 4, 2) := by decide +kernel
theorem dL_law_787 : decode cL_law 787 = .ok (.iconst 1, 1) := by decide +kernel
theorem dL_law_788 : decode cL_law 788 = .ok (.iadd, 1) := by decide +kernel
theorem dL_law_789 : decode cL_law 789 = .ok (.iaload, 1) := by decide +kernel
theorem dL_law_790 : decode cL_law 790 = .ok (.aload_n 0, 1) := by decide +kernel
theorem dL_law_791 : decode cL_law 791 = .ok (.iload 4, 2) := by decide +kernel
theorem dL_law_793 : decode cL_law 793 = .ok (.iconst 2, 1) := by decide +kernel
theorem dL_law_794 : decode cL_law 794 = .ok (.iadd, 1) := by decide +kernel
theorem dL_law_795 : decode cL_law 795 = .ok (.iaload, 1) := by decide +kernel
theorem dL_law_796 : decode cL_law 796 = .ok (.invokevirtual 92, 3) := by decide +kernel
theorem dL_law_799 : decode cL_law 799 = .ok (.pop, 1) := by decide +kernel
theorem dL_law_800 : decode cL_law 800 = .ok (.aload_n 2, 1) := by decide +kernel
theorem dL_law_801 : decode cL_law 801 = .ok (.aload_n 0, 1) := by decide +kernel
theorem dL_law_802 : decode cL_law 802 = .ok (.iload 4, 2) := by decide +kernel
theorem dL_law_804 : decode cL_law 804 = .ok (.iconst 1, 1) := by decide +kernel
theorem dL_law_805 : decode cL_law 805 = .ok (.iadd, 1) := by decide +kernel
theorem dL_law_806 : decode cL_law 806 = .ok (.iaload, 1) := by decide +kernel
theorem dL_law_807 : decode cL_law 807 = .ok (.aload_n 0, 1) := by decide +kernel
theorem dL_law_808 : decode cL_law 808 = .ok (.iload 4, 2) := by decide +kernel
theorem dL_law_810 : decode cL_law 810 = .ok (.iconst 2, 1) := by decide +kernel
theorem dL_law_811 : decode cL_law 811 = .ok (.iadd, 1) := by decide +kernel
theorem dL_law_812 : decode cL_law 812 = .ok (.iaload, 1) := by decide +kernel
theorem dL_law_813 : decode cL_law 813 = .ok (.invokevirtual 95, 3) := by decide +kernel
theorem dL_law_816 : decode cL_law 816 = .ok (.pop, 1) := by decide +kernel
theorem dL_law_817 : decode cL_law 817 = .ok (.goto 348, 3) := by decide +kernel
theorem dL_law_820 : decode cL_law 820 = .ok (.aload_n 1, 1) := by decide +kernel
theorem dL_law_821 : decode cL_law 821 = .ok (.aload_n 0, 1) := by decide +kernel
theorem dL_law_822 : decode cL_law 822 = .ok (.iload 4, 2) := by decide +kernel
theorem dL_law_824 : decode cL_law 824 = .ok (.iconst 1, 1) := by decide +kernel
theorem dL_law_825 : decode cL_law 825 = .ok (.iadd, 1) := by decide +kernel
theorem dL_law_826 : decode cL_law 826 = .ok (.iaload, 1) := by decide +kernel
theorem dL_law_827 : decode cL_law 827 = .ok (.aload_n 0, 1) := by decide +kernel
theorem dL_law_828 : decode cL_law 828 = .ok (.iload 4, 2) := by decide +kernel
theorem dL_law_830 : decode cL_law 830 = .ok (.iconst 2, 1) := by decide +kernel
theorem dL_law_831 : decode cL_law 831 = .ok (.iadd, 1) := by decide +kernel
theorem dL_law_832 : decode cL_law 832 = .ok (.iaload, 1) := by decide +kernel
theorem dL_law_833 : decode cL_law 833 = .ok (.invokevirtual 96, 3) := by decide +kernel
theorem dL_law_836 : decode cL_law 836 = .ok (.pop, 1) := by decide +kernel
theorem dL_law_837 : decode cL_law 837 = .ok (.aload_n 2, 1) := by decide +kernel
theorem dL_law_838 : decode cL_law 838 = .ok (.aload_n 0, 1) := by decide +kernel
theorem dL_law_839 : decode cL_law 839 = .ok (.iload 4, 2) := by decide +kernel
theorem dL_law_841 : decode cL_law 841 = .ok (.iconst 1, 1) := by decide +kernel
theorem dL_law_842 : decode cL_law 842 = .ok (.iadd, 1) := by decide +kernel
theorem dL_law_843 : decode cL_law 843 = .ok (.iaload, 1) := by decide +kernel
theorem dL_law_844 : decode cL_law 844 = .ok (.aload_n 0, 1) := by decide +kernel
theorem dL_law_845 : decode cL_law 845 = .ok (.iload 4, 2) := by decide +kernel
theorem dL_law_847 : decode cL_law 847 = .ok (.iconst 2, 1) := by decide +kernel
theorem dL_law_848 : decode cL_law 848 = .ok (.iadd, 1) := by decide +kernel
theorem dL_law_849 : decode cL_law 849 = .ok (.iaload, 1) := by decide +kernel
theorem dL_law_850 : decode cL_law 850 = .ok (.invokevirtual 99, 3) := by decide +kernel
theorem dL_law_853 : decode cL_law 853 = .ok (.pop, 1) := by decide +kernel
theorem dL_law_854 : decode cL_law 854 = .ok (.goto 311, 3) := by decide +kernel
theorem dL_law_857 : decode cL_law 857 = .ok (.aload_n 1, 1) := by decide +kernel
theorem dL_law_858 : decode cL_law 858 = .ok (.aload_n 0, 1) := by decide +kernel
theorem dL_law_859 : decode cL_law 859 = .ok (.iload 4, 2) := by decide +kernel
theorem dL_law_861 : decode cL_law 861 = .ok (.iconst 1, 1) := by decide +kernel
theorem dL_law_862 : decode cL_law 862 = .ok (.iadd, 1) := by decide +kernel
theorem dL_law_863 : decode cL_law 863 = .ok (.iaload, 1) := by decide +kernel
theorem dL_law_864 : decode cL_law 864 = .ok (.aload_n 0, 1) := by decide +kernel
theorem dL_law_865 : decode cL_law 865 = .ok (.iload 4, 2) := by decide +kernel
theorem dL_law_867 : decode cL_law 867 = .ok (.iconst 2, 1) := by decide +kernel
theorem dL_law_868 : decode cL_law 868 = .ok (.iadd, 1) := by decide +kernel
theorem dL_law_869 : decode cL_law 869 = .ok (.iaload, 1) := by decide +kernel
theorem dL_law_870 : decode cL_law 870 = .ok (.aload_n 0, 1) := by decide +kernel
theorem dL_law_871 : decode cL_law 871 = .ok (.iload 4, 2) := by decide +kernel
theorem dL_law_873 : decode cL_law 873 = .ok (.iconst 3, 1) := by decide +kernel
theorem dL_law_874 : decode cL_law 874 = .ok (.iadd, 1) := by decide +kernel
theorem dL_law_875 : decode cL_law 875 = .ok (.iaload, 1) := by decide +kernel
theorem dL_law_876 : decode cL_law 876 = .ok (.invokevirtual 100, 3) := by decide +kernel
theorem dL_law_879 : decode cL_law 879 = .ok (.pop, 1) := by decide +kernel
theorem dL_law_880 : decode cL_law 880 = .ok (.aload_n 2, 1) := by decide +kernel
theorem dL_law_881 : decode cL_law 881 = .ok (.aload_n 0, 1) := by decide +kernel
theorem dL_law_882 : decode cL_law 882 = .ok (.iload 4, 2) := by decide +kernel
theorem dL_law_884 : decode cL_law 884 = .ok (.iconst 1, 1) := by decide +kernel
theorem dL_law_885 : decode cL_law 885 = .ok (.iadd, 1) := by decide +kernel
theorem dL_law_886 : decode cL_law 886 = .ok (.iaload, 1) := by decide +kernel
theorem dL_law_887 : decode cL_law 887 = .ok (.aload_n 0, 1) := by decide +kernel
theorem dL_law_888 : decode cL_law 888 = .ok (.iload 4, 2) := by decide +kernel
theorem dL_law_890 : decode cL_law 890 = .ok (.iconst 2, 1) := by decide +kernel
theorem dL_law_891 : decode cL_law 891 = .ok (.iadd, 1) := by decide +kernel
theorem dL_law_892 : decode cL_law 892 = .ok (.iaload, 1) := by decide +kernel
theorem dL_law_893 : decode cL_law 893 = .ok (.aload_n 0, 1) := by decide +kernel
theorem dL_law_894 : decode cL_law 894 = .ok (.iload 4, 2) := by decide +kernel
theorem dL_law_896 : decode cL_law 896 = .ok (.iconst 3, 1) := by decide +kernel
theorem dL_law_897 : decode cL_law 897 = .ok (.iadd, 1) := by decide +kernel
theorem dL_law_898 : decode cL_law 898 = .ok (.iaload, 1) := by decide +kernel
theorem dL_law_899 : decode cL_law 899 = .ok (.invokevirtual 103, 3) := by decide +kernel
theorem dL_law_902 : decode cL_law 902 = .ok (.pop, 1) := by decide +kernel
theorem dL_law_903 : decode cL_law 903 = .ok (.goto 262, 3) := by decide +kernel
theorem dL_law_906 : decode cL_law 906 = .ok (.aload_n 1, 1) := by decide +kernel
theorem dL_law_907 : decode cL_law 907 = .ok (.aload_n 0, 1) := by decide +kernel
theorem dL_law_908 : decode cL_law 908 = .ok (.iload 4, 2) := by decide +kernel
theorem dL_law_910 : decode cL_law 910 = .ok (.iconst 1, 1) := by decide +kernel
theorem dL_law_911 : decode cL_law 911 = .ok (.iadd, 1) := by decide +kernel
theorem dL_law_912 : decode cL_law 912 = .ok (.iaload, 1) := by decide +kernel
theorem dL_law_913 : decode cL_law 913 = .ok (.aload_n 0, 1) := by decide +kernel
theorem dL_law_914 : decode cL_law 914 = .ok (.iload 4, 2) := by decide +kernel
theorem dL_law_916 : decode cL_law 916 = .ok (.iconst 2, 1) := by decide +kernel
theorem dL_law_917 : decode cL_law 917 = .ok (.iadd, 1) := by decide +kernel
theorem dL_law_918 : decode cL_law 918 = .ok (.iaload, 1) := by decide +kernel
theorem dL_law_919 : decode cL_law 919 = .ok (.aload_n 0, 1) := by decide +kernel
theorem dL_law_920 : decode cL_law 920 = .ok (.iload 4, 2) := by decide +kernel
theorem dL_law_922 : decode cL_law 922 = .ok (.iconst 3, 1) := by decide +kernel
theorem dL_law_923 : decode cL_law 923 = .ok (.iadd, 1) := by decide +kernel
theorem dL_law_924 : decode cL_law 924 = .ok (.iaload, 1) := by decide +kernel
theorem dL_law_925 : decode cL_law 925 = .ok (.aload_n 0, 1) := by decide +kernel
theorem dL_law_926 : decode cL_law 926 = .ok (.iload 4, 2) := by decide +kernel
theorem dL_law_928 : decode cL_law 928 = .ok (.iconst 4, 1) := by decide +kernel
theorem dL_law_929 : decode cL_law 929 = .ok (.iadd, 1) := by decide +kernel
theorem dL_law_930 : decode cL_law 930 = .ok (.iaload, 1) := by decide +kernel
theorem dL_law_931 : decode cL_law 931 = .ok (.invokevirtual 104, 3) := by decide +kernel
theorem dL_law_934 : decode cL_law 934 = .ok (.pop, 1) := by decide +kernel
theorem dL_law_935 : decode cL_law 935 = .ok (.aload_n 2, 1) := by decide +kernel
theorem dL_law_936 : decode cL_law 936 = .ok (.aload_n 0, 1) := by decide +kernel
theorem dL_law_937 : decode cL_law 937 = .ok (.iload 4, 2) := by decide +kernel
theorem dL_law_939 : decode cL_law 939 = .ok (.iconst 1, 1) := by decide +kernel
theorem dL_law_940 : decode cL_law 940 = .ok (.iadd, 1) := by decide +kernel
theorem dL_law_941 : decode cL_law 941 = .ok (.iaload, 1) := by decide +kernel
theorem dL_law_942 : decode cL_law 942 = .ok (.aload_n 0, 1) := by decide +kernel
theorem dL_law_943 : decode cL_law 943 = .ok (.iload 4, 2) := by decide +kernel
theorem dL_law_945 : decode cL_law 945 = .ok (.iconst 2, 1) := by decide +kernel
theorem dL_law_946 : decode cL_law 946 = .ok (.iadd, 1) := by decide +kernel
theorem dL_law_947 : decode cL_law 947 = .ok (.iaload, 1) := by decide +kernel
theorem dL_law_948 : decode cL_law 948 = .ok (.aload_n 0, 1) := by decide +kernel
theorem dL_law_949 : decode cL_law 949 = .ok (.iload 4, 2) := by decide +kernel
theorem dL_law_951 : decode cL_law 951 = .ok (.iconst 3, 1) := by decide +kernel
theorem dL_law_952 : decode cL_law 952 = .ok (.iadd, 1) := by decide +kernel
theorem dL_law_953 : decode cL_law 953 = .ok (.iaload, 1) := by decide +kernel
theorem dL_law_954 : decode cL_law 954 = .ok (.aload_n 0, 1) := by decide +kernel
theorem dL_law_955 : decode cL_law 955 = .ok (.iload 4, 2) := by decide +kernel
theorem dL_law_957 : decode cL_law 957 = .ok (.iconst 4, 1) := by decide +kernel
theorem dL_law_958 : decode cL_law 958 = .ok (.iadd, 1) := by decide +kernel
theorem dL_law_959 : decode cL_law 959 = .ok (.iaload, 1) := by decide +kernel
theorem dL_law_960 : decode cL_law 960 = .ok (.invokevirtual 108, 3) := by decide +kernel
theorem dL_law_963 : decode cL_law 963 = .ok (.pop, 1) := by decide +kernel
theorem dL_law_964 : decode cL_law 964 = .ok (.goto 201, 3) := by decide +kernel
theorem dL_law_967 : decode cL_law 967 = .ok (.aload_n 1, 1) := by decide +kernel
theorem dL_law_968 : decode cL_law 968 = .ok (.aload_n 0, 1) := by decide +kernel
theorem dL_law_969 : decode cL_law 969 = .ok (.iload 4, 2) := by decide +kernel
theorem dL_law_971 : decode cL_law 971 = .ok (.iconst 1, 1) := by decide +kernel
theorem dL_law_972 : decode cL_law 972 = .ok (.iadd, 1) := by decide +kernel
theorem dL_law_973 : decode cL_law 973 = .ok (.iaload, 1) := by decide +kernel
theorem dL_law_974 : decode cL_law 974 = .ok (.aload_n 0, 1) := by decide +kernel
theorem dL_law_975 : decode cL_law 975 = .ok (.iload 4, 2) := by decide +kernel
theorem dL_law_977 : decode cL_law 977 = .ok (.iconst 2, 1) := by decide +kernel
theorem dL_law_978 : decode cL_law 978 = .ok (.iadd, 1) := by decide +kernel
theorem dL_law_979 : decode cL_law 979 = .ok (.iaload, 1) := by decide +kernel
theorem dL_law_980 : decode cL_law 980 = .ok (.invokevirtual 109, 3) := by decide +kernel
theorem dL_law_983 : decode cL_law 983 = .ok (.pop, 1) := by decide +kernel
theorem dL_law_984 : decode cL_law 984 = .ok (.aload_n 2, 1) := by decide +kernel
theorem dL_law_985 : decode cL_law 985 = .ok (.aload_n 0, 1) := by decide +kernel
theorem dL_law_986 : decode cL_law 986 = .ok (.iload 4, 2) := by decide +kernel
theorem dL_law_988 : decode cL_law 988 = .ok (.iconst 1, 1) := by decide +kernel
theorem dL_law_989 : decode cL_law 989 = .ok (.iadd, 1) := by decide +kernel
theorem dL_law_990 : decode cL_law 990 = .ok (.iaload, 1) := by decide +kernel
theorem dL_law_991 : decode cL_law 991 = .ok (.aload_n 0, 1) := by decide +kernel
theorem dL_law_992 : decode cL_law 992 = .ok (.iload 4, 2) := by decide +kernel
theorem dL_law_994 : decode cL_law 994 = .ok (.iconst 2, 1) := by decide +kernel
theorem dL_law_995 : decode cL_law 995 = .ok (.iadd, 1) := by decide +kernel
theorem dL_law_996 : decode cL_law 996 = .ok (.iaload, 1) := by decide +kernel
theorem dL_law_997 : decode cL_law 997 = .ok (.invokevirtual 112, 3) := by decide +kernel
theorem dL_law_1000 : decode cL_law 1000 = .ok (.pop, 1) := by decide +kernel
theorem dL_law_1001 : decode cL_law 1001 = .ok (.goto 164, 3) := by decide +kernel
theorem dL_law_1004 : decode cL_law 1004 = .ok (.aload_n 1, 1) := by decide +kernel
theorem dL_law_1005 : decode cL_law 1005 = .ok (.aload_n 0, 1) := by decide +kernel
theorem dL_law_1006 : decode cL_law 1006 = .ok (.iload 4, 2) := by decide +kernel
theorem dL_law_1008 : decode cL_law 1008 = .ok (.iconst 1, 1) := by decide +kernel
theorem dL_law_1009 : decode cL_law 1009 = .ok (.iadd, 1) := by decide +kernel
theorem dL_law_1010 : decode cL_law 1010 = .ok (.iaload, 1) := by decide +kernel
theorem dL_law_1011 : decode cL_law 1011 = .ok (.aload_n 0, 1) := by decide +kernel
theorem dL_law_1012 : decode cL_law 1012 = .ok (.iload 4, 2) := by decide +kernel
theorem dL_law_1014 : decode cL_law 1014 = .ok (.iconst 2, 1) := by decide +kernel
theorem dL_law_1015 : decode cL_law 1015 = .ok (.iadd, 1) := by decide +kernel
theorem dL_law_1016 : decode cL_law 1016 = .ok (.iaload, 1) := by decide +kernel
theorem dL_law_1017 : decode cL_law 1017 = .ok (.invokevirtual 113, 3) := by decide +kernel
theorem dL_law_1020 : decode cL_law 1020 = .ok (.pop, 1) := by decide +kernel
theorem dL_law_1021 : decode cL_law 1021 = .ok (.aload_n 2, 1) := by decide +kernel
theorem dL_law_1022 : decode cL_law 1022 = .ok (.aload_n 0, 1) := by decide +kernel
theorem dL_law_1023 : decode cL_law 1023 = .ok (.iload 4, 2) := by decide +kernel
theorem dL_law_1025 : decode cL_law 1025 = .ok (.iconst 1, 1) := by decide +kernel
theorem dL_law_1026 : decode cL_law 1026 = .ok (.iadd, 1) := by decide +kernel
theorem dL_law_1027 : decode cL_law 1027 = .ok (.iaload, 1) := by decide +kernel
theorem dL_law_1028 : decode cL_law 1028 = .ok (.aload_n 0, 1) := by decide +kernel
theorem dL_law_1029 : decode cL_law 1029 = .ok (.iload 4, 2) := by decide +kernel
theorem dL_law_1031 : decode cL_law 1031 = .ok (.iconst 2, 1) := by decide +kernel
theorem dL_law_1032 : decode cL_law 1032 = .ok (.iadd, 1) := by decide +kernel
theorem dL_law_1033 : decode cL_law 1033 = .ok (.iaload, 1) := by decide +kernel
theorem dL_law_1034 : decode cL_law 1034 = .ok (.invokevirtual 116, 3) := by decide +kernel
theorem dL_law_1037 : decode cL_law 1037 = .ok (.pop, 1) := by decide +kernel
theorem dL_law_1038 : decode cL_law 1038 = .ok (.goto 127, 3) := by decide +kernel
theorem dL_law_1041 : decode cL_law 1041 = .ok (.aload_n 1, 1) := by decide +kernel
theorem dL_law_1042 : decode cL_law 1042 = .ok (.aload_n 0, 1) := by decide +kernel
theorem dL_law_1043 : decode cL_law 1043 = .ok (.iload 4, 2) := by decide +kernel
theorem dL_law_1045 : decode cL_law 1045 = .ok (.iconst 1, 1) := by decide +kernel
theorem dL_law_1046 : decode cL_law 1046 = .ok (.iadd, 1) := by decide +kernel
theorem dL_law_1047 : decode cL_law 1047 = .ok (.iaload, 1) := by decide +kernel
theorem dL_law_1048 : decode cL_law 1048 = .ok (.aload_n 0, 1) := by decide +kernel
theorem dL_law_1049 : decode cL_law 1049 = .ok (.iload 4, 2) := by decide +kernel
theorem dL_law_1051 : decode cL_law 1051 = .ok (.iconst 2, 1) := by decide +kernel
theorem dL_law_1052 : decode cL_law 1052 = .ok (.iadd, 1) := by decide +kernel
theorem dL_law_1053 : decode cL_law 1053 = .ok (.iaload, 1) := by decide +kernel
theorem dL_law_1054 : decode cL_law 1054 = .ok (.invokevirtual 117, 3) := by decide +kernel
theorem dL_law_1057 : decode cL_law 1057 = .ok (.pop, 1) := by decide +kernel
theorem dL_law_1058 : decode cL_law 1058 = .ok (.aload_n 2, 1) := by decide +kernel
theorem dL_law_1059 : decode cL_law 1059 = .ok (.aload_n 0, 1) := by decide +kernel
theorem dL_law_1060 : decode cL_law 1060 = .ok (.iload 4, 2) := by decide +kernel
theorem dL_law_1062 : decode cL_law 1062 = .ok (.iconst 1, 1) := by decide +kernel
theorem dL_law_1063 : decode cL_law 1063 = .ok (.iadd, 1) := by decide +kernel
theorem dL_law_1064 : decode cL_law 1064 = .ok (.iaload, 1) := by decide +kernel
theorem dL_law_1065 : decode cL_law 1065 = .ok (.aload_n 0, 1) := by decide +kernel
theorem dL_law_1066 : decode cL_law 1066 = .ok (.iload 4, 2) := by decide +kernel
theorem dL_law_1068 : decode cL_law 1068 = .ok (.iconst 2, 1) := by decide +kernel
theorem dL_law_1069 : decode cL_law 1069 = .ok (.iadd, 1) := by decide +kernel
theorem dL_law_1070 : decode cL_law 1070 = .ok (.iaload, 1) := by decide +kernel
theorem dL_law_1071 : decode cL_law 1071 = .ok (.invokevirtual 120, 3) := by decide +kernel
theorem dL_law_1074 : decode cL_law 1074 = .ok (.pop, 1) := by decide +kernel
theorem dL_law_1075 : decode cL_law 1075 = .ok (.goto 90, 3) := by decide +kernel
theorem dL_law_1078 : decode cL_law 1078 = .ok (.aload_n 1, 1) := by decide +kernel
theorem dL_law_1079 : decode cL_law 1079 = .ok (.aload_n 0, 1) := by decide +kernel
theorem dL_law_1080 : decode cL_law 1080 = .ok (.iload 4, 2) := by decide +kernel
theorem dL_law_1082 : decode cL_law 1082 = .ok (.iconst 1, 1) := by decide +kernel
theorem dL_law_1083 : decode cL_law 1083 = .ok (.iadd, 1) := by decide +kernel
theorem dL_law_1084 : decode cL_law 1084 = .ok (.iaload, 1) := by decide +kernel
theorem dL_law_1085 : decode cL_law 1085 = .ok (.invokevirtual 121, 3) := by decide +kernel
theorem dL_law_1088 : decode cL_law 1088 = .ok (.pop, 1) := by decide +kernel
theorem dL_law_1089 : decode cL_law 1089 = .ok (.aload_n 2, 1) := by decide +kernel
theorem dL_law_1090 : decode cL_law 1090 = .ok (.aload_n 0, 1) := by decide +kernel
theorem dL_law_1091 : decode cL_law 1091 = .ok (.iload 4, 2) := by decide +kernel
theorem dL_law_1093 : decode cL_law 1093 = .ok (.iconst 1, 1) := by decide +kernel
theorem dL_law_1094 : decode cL_law 1094 = .ok (.iadd, 1) := by decide +kernel
theorem dL_law_1095 : decode cL_law 1095 = .ok (.iaload, 1) := by decide +kernel
theorem dL_law_1096 : decode cL_law 1096 = .ok (.invokevirtual 124, 3) := by decide +kernel
theorem dL_law_1099 : decode cL_law 1099 = .ok (.pop, 1) := by decide +kernel
theorem dL_law_1100 : decode cL_law 1100 = .ok (.goto 65, 3) := by decide +kernel
theorem dL_law_1103 : decode cL_law 1103 = .ok (.aload_n 1, 1) := by decide +kernel
theorem dL_law_1104 : decode cL_law 1104 = .ok (.aload_n 0, 1) := by decide +kernel
theorem dL_law_1105 : decode cL_law 1105 = .ok (.iload 4, 2) := by decide +kernel
theorem dL_law_1107 : decode cL_law 1107 = .ok (.iconst 1, 1) := by decide +kernel
theorem dL_law_1108 : decode cL_law 1108 = .ok (.iadd, 1) := by decide +kernel
theorem dL_law_1109 : decode cL_law 1109 = .ok (.iaload, 1) := by decide +kernel
theorem dL_law_1110 : decode cL_law 1110 = .ok (.aload_n 0, 1) := by decide +kernel
theorem dL_law_1111 : decode cL_law 1111 = .ok (.iload 4, 2) := by decide +kernel
theorem dL_law_1113 : decode cL_law 1113 = .ok (.iconst 2, 1) := by decide +kernel
theorem dL_law_1114 : decode cL_law 1114 = .ok (.iadd, 1) := by decide +kernel
theorem dL_law_1115 : decode cL_law 1115 = .ok (.iaload, 1) := by decide +kernel
theorem dL_law_1116 : decode cL_law 1116 = .ok (.invokevirtual 125, 3) := by decide +kernel
theorem dL_law_1119 : decode cL_law 1119 = .ok (.pop, 1) := by decide +kernel
theorem dL_law_1120 : decode cL_law 1120 = .ok (.aload_n 2, 1) := by decide +kernel
theorem dL_law_1121 : decode cL_law 1121 = .ok (.aload_n 0, 1) := by decide +kernel
theorem dL_law_1122 : decode cL_law 1122 = .ok (.iload 4, 2) := by decide +kernel
theorem dL_law_1124 : decode cL_law 1124 = .ok (.iconst 1, 1) := by decide +kernel
theorem dL_law_1125 : decode cL_law 1125 = .ok (.iadd, 1) := by decide +kernel
theorem dL_law_1126 : decode cL_law 1126 = .ok (.iaload, 1) := by decide +kernel
theorem dL_law_1127 : decode cL_law 1127 = .ok (.aload_n 0, 1) := by decide +kernel
theorem dL_law_1128 : decode cL_law 1128 = .ok (.iload 4, 2) := by decide +kernel
theorem dL_law_1130 : decode cL_law 1130 = .ok (.iconst 2, 1) := by decide +kernel
theorem dL_law_1131 : decode cL_law 1131 = .ok (.iadd, 1) := by decide +kernel
theorem dL_law_1132 : decode cL_law 1132 = .ok (.iaload, 1) := by decide +kernel
theorem dL_law_1133 : decode cL_law 1133 = .ok (.invokevirtual 128, 3) := by decide +kernel
theorem dL_law_1136 : decode cL_law 1136 = .ok (.pop, 1) := by decide +kernel
theorem dL_law_1137 : decode cL_law 1137 = .ok (.goto 28, 3) := by decide +kernel
theorem dL_law_1140 : decode cL_law 1140 = .ok (.aload_n 1, 1) := by decide +kernel
theorem dL_law_1141 : decode cL_law 1141 = .ok (.aload_n 0, 1) := by decide +kernel
theorem dL_law_1142 : decode cL_law 1142 = .ok (.iload 4, 2) := by decide +kernel
theorem dL_law_1144 : decode cL_law 1144 = .ok (.iconst 1, 1) := by decide +kernel
theorem dL_law_1145 : decode cL_law 1145 = .ok (.iadd, 1) := by decide +kernel
theorem dL_law_1146 : decode cL_law 1146 = .ok (.iaload, 1) := by decide +kernel
theorem dL_law_1147 : decode cL_law 1147 = .ok (.invokevirtual 129, 3) := by decide +kernel
theorem dL_law_1150 : decode cL_law 1150 = .ok (.pop, 1) := by decide +kernel
theorem dL_law_1151 : decode cL_law 1151 = .ok (.aload_n 2, 1) := by decide +kernel
theorem dL_law_1152 : decode cL_law 1152 = .ok (.aload_n 0, 1) := by decide +kernel
theorem dL_law_1153 : decode cL_law 1153 = .ok (.iload 4, 2) := by decide +kernel
theorem dL_law_1155 : decode cL_law 1155 = .ok (.iconst 1, 1) := by decide +kernel
theorem dL_law_1156 : decode cL_law 1156 = .ok (.iadd, 1) := by decide +kernel
theorem dL_law_1157 : decode cL_law 1157 = .ok (.iaload, 1) := by decide +kernel
theorem dL_law_1158 : decode cL_law 1158 = .ok (.invokevirtual 132, 3) := by decide +kernel
theorem dL_law_1161 : decode cL_law 1161 = .ok (.pop, 1) := by decide +kernel
theorem dL_law_1162 : decode cL_law 1162 = .ok (.goto 3, 3) := by decide +kernel
theorem dL_law_1165 : decode cL_law 1165 = .ok (.iinc 4 8, 3) := by decide +kernel
theorem dL_law_1168 : decode cL_law 1168 = .ok (.goto (-1145), 3) := by decide +kernel
theorem dL_law_1171 : decode cL_law 1171 = .ok (.iconst 1, 1) := by decide +kernel
theorem dL_law_1172 : decode cL_law 1172 = .ok (.ireturn, 1) := by decide +kernel
end
section
theorem mem_pl {big ws : List Cond} (ps : List Nat) (hp : ws.map some = ps.map (fun i => big[i]?)) : ∀ w ∈ ws, w ∈ big := by
  intro w hw
  have h1 : some w ∈ ps.map (fun i => big[i]?) := hp ▸ List.mem_map.mpr ⟨w, hw, rfl⟩
  obtain ⟨i, -, hi⟩ := List.mem_map.mp h1
  first | exact List.mem_of_getElem? hi | exact List.getElem?_mem hi
set_option maxRecDepth 100000 in
set_option maxHeartbeats 4000000 in
theorem i_wsL_law0_r1 : ∀ w ∈ wsL_law0_r1, w ∈ lw_tbl := mem_pl [62, 63, 45, 674, 675, 50, 951, 64, 65, 66, 67, 68, 69, 70, 71, 46, 148, 88, 149, 150, 90, 151, 92, 47] rfl
set_option maxRecDepth 100000 in
set_option maxHeartbeats 4000000 in
theorem i_wsL_law0_r2 : ∀ w ∈ wsL_law0_r2, w ∈ lw_tbl := mem_pl [125, 126, 49, 152, 73, 74, 75, 87, 76, 77, 93, 94, 95, 96, 107, 97, 99, 0, 100, 108, 110, 114, 102, 103] rfl
set_option maxRecDepth 100000 in
set_option maxHeartbeats 4000000 in
theorem i_wsL_law0_r3 : ∀ w ∈ wsL_law0_r3, w ∈ lw_tbl := mem_pl [104, 105, 48, 106, 128, 129, 130, 131, 132, 133, 134, 135, 676, 677, 678, 679, 680, 682, 684, 685, 686, 687, 688, 689] rfl
set_option maxRecDepth 100000 in
set_option maxHeartbeats 4000000 in
theorem i_wsL_law0_r4 : ∀ w ∈ wsL_law0_r4, w ∈ lw_tbl := mem_pl [694, 695, 696, 164, 165, 166, 167, 174, 175, 52, 190, 191, 53, 221, 54, 168, 169, 170, 171, 172, 173, 176, 177, 178] rfl
set_option maxRecDepth 100000 in
set_option maxHeartbeats 4000000 in
theorem i_wsL_law0_r5 : ∀ w ∈ wsL_law0_r5, w ∈ lw_tbl := mem_pl [183, 184, 180, 51, 181, 182, 192, 193, 194, 196, 197, 198, 199, 200, 201, 202, 203, 222, 223, 224, 225, 298, 291, 293] rfl
set_option maxRecDepth 100000 in
set_option maxHeartbeats 4000000 in
theorem i_wsL_law0_r6 : ∀ w ∈ wsL_law0_r6, w ∈ lw_tbl := mem_pl [295, 226, 227, 55, 296, 228, 229, 230, 231, 263, 264, 262, 232, 234, 1, 235, 265, 267, 236, 237, 239, 2, 240, 269] rfl
set_option maxRecDepth 100000 in
set_option maxHeartbeats 4000000 in
theorem i_wsL_law0_r7 : ∀ w ∈ wsL_law0_r7, w ∈ lw_tbl := mem_pl [271, 273, 242, 244, 3, 245, 246, 248, 4, 249, 250, 252, 5, 253, 254, 256, 6, 257, 258, 260, 7, 261, 732, 733] rfl
set_option maxRecDepth 100000 in
set_option maxHeartbeats 4000000 in
theorem i_wsL_law0_r8 : ∀ w ∈ wsL_law0_r8, w ∈ lw_tbl := mem_pl [734, 735, 692, 683, 736, 737, 738, 311, 312, 313, 314, 315, 317, 8, 318, 739, 740, 741, 742, 743, 745, 20, 746, 747] rfl
set_option maxRecDepth 100000 in
set_option maxHeartbeats 4000000 in
theorem i_wsL_law0_r9 : ∀ w ∈ wsL_law0_r9, w ∈ lw_tbl := mem_pl [749, 21, 750, 320, 321, 322, 323, 324, 325, 326, 327, 751, 752, 753, 754, 681, 328, 329, 330, 331, 755, 756, 757, 758] rfl
set_option maxRecDepth 100000 in
set_option maxHeartbeats 4000000 in
theorem i_wsL_law0_r10 : ∀ w ∈ wsL_law0_r10, w ∈ lw_tbl := mem_pl [332, 333, 334, 335, 336, 337, 338, 339, 340, 341, 343, 344, 345, 346, 347, 349, 9, 350, 351, 352, 353, 354, 355, 356] rfl
set_option maxRecDepth 100000 in
set_option maxHeartbeats 4000000 in
theorem i_wsL_law0_r11 : ∀ w ∈ wsL_law0_r11, w ∈ lw_tbl := mem_pl [357, 358, 359, 361, 10, 362, 363, 364, 366, 11, 367, 759, 760, 761, 762, 763, 765, 22, 766, 767, 769, 23, 770, 771] rfl
set_option maxRecDepth 100000 in
set_option maxHeartbeats 4000000 in
theorem i_wsL_law0_r12 : ∀ w ∈ wsL_law0_r12, w ∈ lw_tbl := mem_pl [772, 773, 774, 776, 24, 777, 604, 605, 44, 606, 607, 608, 609, 610, 611, 612, 59, 673, 383, 384, 385, 778, 779, 780] rfl
set_option maxRecDepth 100000 in
set_option maxHeartbeats 4000000 in
theorem i_wsL_law0_r13 : ∀ w ∈ wsL_law0_r13, w ∈ lw_tbl := mem_pl [781, 368, 369, 370, 371, 372, 373, 374, 375, 376, 378, 379, 380, 381, 382, 388, 389, 396, 397, 60, 398, 390, 391, 392] rfl
set_option maxRecDepth 100000 in
set_option maxHeartbeats 4000000 in
theorem i_wsL_law0_r14 : ∀ w ∈ wsL_law0_r14, w ∈ lw_tbl := mem_pl [393, 394, 395, 400, 401, 402, 403, 404, 406, 782, 783, 784, 785, 691, 786, 788, 25, 789, 790, 792, 26, 793, 794, 796] rfl
set_option maxRecDepth 100000 in
set_option maxHeartbeats 4000000 in
theorem i_wsL_law0_r15 : ∀ w ∈ wsL_law0_r15, w ∈ lw_tbl := mem_pl [27, 797, 805, 798, 800, 28, 801, 802, 803, 804, 806, 808, 29, 809, 810, 812, 30, 813, 409, 410, 411, 412, 413, 814] rfl
set_option maxRecDepth 100000 in
set_option maxHeartbeats 4000000 in
theorem i_wsL_law0_r16 : ∀ w ∈ wsL_law0_r16, w ∈ lw_tbl := mem_pl [815, 816, 817, 414, 415, 416, 417, 418, 419, 420, 421, 423, 424, 425, 426, 427, 428, 818, 819, 820, 821, 429, 430, 431] rfl
set_option maxRecDepth 100000 in
set_option maxHeartbeats 4000000 in
theorem i_wsL_law0_r17 : ∀ w ∈ wsL_law0_r17, w ∈ lw_tbl := mem_pl [432, 433, 434, 435, 436, 437, 439, 12, 440, 822, 823, 824, 825, 826, 828, 31, 829, 830, 832, 32, 833, 442, 443, 444] rfl
set_option maxRecDepth 100000 in
set_option maxHeartbeats 4000000 in
theorem i_wsL_law0_r18 : ∀ w ∈ wsL_law0_r18, w ∈ lw_tbl := mem_pl [445, 446, 447, 448, 449, 450, 451, 452, 453, 834, 835, 836, 837, 454, 455, 456, 457, 458, 838, 839, 840, 841, 459, 460] rfl
set_option maxRecDepth 100000 in
set_option maxHeartbeats 4000000 in
theorem i_wsL_law0_r19 : ∀ w ∈ wsL_law0_r19, w ∈ lw_tbl := mem_pl [461, 462, 463, 464, 465, 466, 842, 843, 844, 845, 467, 468, 469, 470, 846, 847, 848, 849, 850, 852, 33, 853, 854, 856] rfl
set_option maxRecDepth 100000 in
set_option maxHeartbeats 4000000 in
theorem i_wsL_law0_r20 : ∀ w ∈ wsL_law0_r20, w ∈ lw_tbl := mem_pl [34, 857, 858, 860, 35, 861, 471, 472, 473, 474, 475, 476, 477, 478, 862, 863, 864, 865, 866, 868, 36, 869, 870, 872] rfl
set_option maxRecDepth 100000 in
set_option maxHeartbeats 4000000 in
theorem i_wsL_law0_r21 : ∀ w ∈ wsL_law0_r21, w ∈ lw_tbl := mem_pl [37, 873, 874, 875, 876, 479, 480, 481, 482, 483, 484, 485, 486, 487, 489, 13, 490, 491, 492, 61, 493, 494, 495, 496] rfl
set_option maxRecDepth 100000 in
set_option maxHeartbeats 4000000 in
theorem i_wsL_law0_r22 : ∀ w ∈ wsL_law0_r22, w ∈ lw_tbl := mem_pl [497, 498, 499, 500, 501, 503, 14, 504, 505, 507, 15, 508, 877, 878, 879, 880, 886, 881, 883, 38, 884, 885, 887, 889] rfl
set_option maxRecDepth 100000 in
set_option maxHeartbeats 4000000 in
theorem i_wsL_law0_r23 : ∀ w ∈ wsL_law0_r23, w ∈ lw_tbl := mem_pl [39, 890, 693, 891, 893, 40, 894, 509, 510, 511, 512, 513, 514, 515, 516, 895, 896, 897, 898, 899, 517, 518, 519, 520] rfl
set_option maxRecDepth 100000 in
set_option maxHeartbeats 4000000 in
theorem i_wsL_law0_r24 : ∀ w ∈ wsL_law0_r24, w ∈ lw_tbl := mem_pl [521, 522, 523, 524, 525, 527, 16, 528, 900, 901, 902, 903, 529, 530, 531, 532, 533, 535, 17, 536, 904, 905, 906, 907] rfl
set_option maxRecDepth 100000 in
set_option maxHeartbeats 4000000 in
theorem i_wsL_law0_r25 : ∀ w ∈ wsL_law0_r25, w ∈ lw_tbl := mem_pl [908, 909, 910, 538, 539, 540, 541, 542, 543, 544, 545, 547, 548, 549, 550, 551, 552, 553, 554, 555, 556, 911, 912, 913] rfl
set_option maxRecDepth 100000 in
set_option maxHeartbeats 4000000 in
theorem i_wsL_law0_r26 : ∀ w ∈ wsL_law0_r26, w ∈ lw_tbl := mem_pl [914, 557, 558, 559, 560, 561, 562, 563, 564, 915, 916, 917, 918, 919, 921, 41, 922, 565, 566, 567, 568, 569, 570, 571] rfl
set_option maxRecDepth 100000 in
set_option maxHeartbeats 4000000 in
theorem i_wsL_law0_r27 : ∀ w ∈ wsL_law0_r27, w ∈ lw_tbl := mem_pl [572, 923, 924, 925, 926, 927, 929, 42, 930, 573, 574, 575, 576, 577, 578, 579, 580, 581, 582, 584, 18, 585, 586, 931] rfl
set_option maxRecDepth 100000 in
set_option maxHeartbeats 4000000 in
theorem i_wsL_law0_r28 : ∀ w ∈ wsL_law0_r28, w ∈ lw_tbl := mem_pl [932, 933, 934, 935, 937, 43, 938, 690, 587, 588, 589, 590, 591, 592, 593, 594, 939, 940, 941, 942, 596, 597, 598, 599] rfl
set_option maxRecDepth 100000 in
set_option maxHeartbeats 4000000 in
theorem i_wsL_law0_r29 : ∀ w ∈ wsL_law0_r29, w ∈ lw_tbl := mem_pl [943, 944, 945, 946, 600, 601, 602, 603, 947, 948, 949, 950] rfl
set_option maxRecDepth 100000 in
set_option maxHeartbeats 4000000 in
theorem inX8 : ∀ w ∈ wsX80, w ∈ lw_tbl := mem_pl [153, 155, 157, 159, 161] rfl
set_option maxRecDepth 100000 in
set_option maxHeartbeats 4000000 in
theorem inX9 : ∀ w ∈ wsX90, w ∈ lw_tbl := mem_pl [697, 699, 701, 703, 705, 707, 709, 711, 713, 715, 717, 719, 721, 723, 725, 727, 729] rfl
set_option maxRecDepth 100000 in
set_option maxHeartbeats 4000000 in
theorem inX7 : ∀ w ∈ wsX70, w ∈ lw_tbl := mem_pl [82, 84] rfl
set_option maxRecDepth 100000 in
set_option maxHeartbeats 4000000 in
theorem inX0 : ∀ w ∈ wsX00, w ∈ lw_tbl := mem_pl [116, 118, 120, 122] rfl
set_option maxRecDepth 100000 in
set_option maxHeartbeats 4000000 in
theorem inX6 : ∀ w ∈ wsX60, w ∈ lw_tbl := mem_pl [137, 139, 141, 143, 145] rfl
set_option maxRecDepth 100000 in
set_option maxHeartbeats 4000000 in
theorem inX2 : ∀ w ∈ wsX20, w ∈ lw_tbl := mem_pl [185, 187] rfl
set_option maxRecDepth 100000 in
set_option maxHeartbeats 4000000 in
theorem inX5 : ∀ w ∈ wsX50, w ∈ lw_tbl := mem_pl [204, 206, 208, 210, 212, 214, 216, 218] rfl
set_option maxRecDepth 100000 in
set_option maxHeartbeats 4000000 in
theorem inX4 : ∀ w ∈ wsX40, w ∈ lw_tbl := mem_pl [300, 302, 304, 306, 308] rfl
set_option maxRecDepth 100000 in
set_option maxHeartbeats 4000000 in
theorem inX3 : ∀ w ∈ wsX30, w ∈ lw_tbl := mem_pl [274, 276, 278, 280, 282, 284, 286, 288] rfl
theorem mem_ap {a b big : List Cond} (ha : ∀ w ∈ a, w ∈ big) (hb : ∀ w ∈ b, w ∈ big) : ∀ w ∈ a ++ b, w ∈ big := fun w h => (List.mem_append.mp h).elim (ha w) (hb w)
theorem wsL_law_in0 : ∀ w ∈ wsL_law0, w ∈ lw_tbl := mem_ap (mem_ap (mem_ap (mem_ap (mem_ap (mem_ap (mem_ap (mem_ap (mem_ap (mem_ap (mem_ap i_wsL_law0_r1 (mem_ap i_wsL_law0_r2 (mem_ap i_wsL_law0_r3 (mem_ap i_wsL_law0_r4 (mem_ap i_wsL_law0_r5 (mem_ap i_wsL_law0_r6 (mem_ap i_wsL_law0_r7 (mem_ap i_wsL_law0_r8 (mem_ap i_wsL_law0_r9 (mem_ap i_wsL_law0_r10 (mem_ap i_wsL_law0_r11 (mem_ap i_wsL_law0_r12 (mem_ap i_wsL_law0_r13 (mem_ap i_wsL_law0_r14 (mem_ap i_wsL_law0_r15 (mem_ap i_wsL_law0_r16 (mem_ap i_wsL_law0_r17 (mem_ap i_wsL_law0_r18 (mem_ap i_wsL_law0_r19 (mem_ap i_wsL_law0_r20 (mem_ap i_wsL_law0_r21 (mem_ap i_wsL_law0_r22 (mem_ap i_wsL_law0_r23 (mem_ap i_wsL_law0_r24 (mem_ap i_wsL_law0_r25 (mem_ap i_wsL_law0_r26 (mem_ap i_wsL_law0_r27 (mem_ap i_wsL_law0_r28 (i_wsL_law0_r29))))))))))))))))))))))))))))) inX8) inX9) inX7) inX0) inX6) inX2) inX5) inX4) inX3) (fun _ h => absurd h List.not_mem_nil)
theorem wsL_law_x0 : ∀ w ∈ (vx_at0 RX8 97 "java/util/NoSuchElementException" ["java/lang/RuntimeException", "java/lang/Exception"]).filter goodWord, w ∈ lw_tbl := by decide +kernel
theorem wsL_law_in : ∀ w ∈ wsL_law, w ∈ lw_tbl := fun w h => (List.mem_append.mp h).elim (fun h => wsL_law_in0 w h) (fun h => wsL_law_x0 w h)
theorem inlX0 : ∀ w ∈ wsX00, w ∈ wsL_law := fun _ h => List.mem_append_left _ (List.mem_append_left _ (List.mem_append_left _ (List.mem_append_left _ (List.mem_append_left _ (List.mem_append_left _ (List.mem_append_left _ (List.mem_append_right _ h)))))))
theorem inX1 : ∀ w ∈ wsX10, w ∈ lw_tbl := by decide +kernel
theorem inlX2 : ∀ w ∈ wsX20, w ∈ wsL_law := fun _ h => List.mem_append_left _ (List.mem_append_left _ (List.mem_append_left _ (List.mem_append_left _ (List.mem_append_left _ (List.mem_append_right _ h)))))
theorem inlX3 : ∀ w ∈ wsX30, w ∈ wsL_law := fun _ h => List.mem_append_left _ (List.mem_append_left _ (List.mem_append_right _ h))
theorem inlX4 : ∀ w ∈ wsX40, w ∈ wsL_law := fun _ h => List.mem_append_left _ (List.mem_append_left _ (List.mem_append_left _ (List.mem_append_right _ h)))
theorem inlX5 : ∀ w ∈ wsX50, w ∈ wsL_law := fun _ h => List.mem_append_left _ (List.mem_append_left _ (List.mem_append_left _ (List.mem_append_left _ (List.mem_append_right _ h))))
theorem inlX6 : ∀ w ∈ wsX60, w ∈ wsL_law := fun _ h => List.mem_append_left _ (List.mem_append_left _ (List.mem_append_left _ (List.mem_append_left _ (List.mem_append_left _ (List.mem_append_left _ (List.mem_append_right _ h))))))
theorem inlX7 : ∀ w ∈ wsX70, w ∈ wsL_law := fun _ h => List.mem_append_left _ (List.mem_append_left _ (List.mem_append_left _ (List.mem_append_left _ (List.mem_append_left _ (List.mem_append_left _ (List.mem_append_left _ (List.mem_append_left _ (List.mem_append_right _ h))))))))
theorem inlX8 : ∀ w ∈ wsX80, w ∈ wsL_law := fun _ h => List.mem_append_left _ (List.mem_append_left _ (List.mem_append_left _ (List.mem_append_left _ (List.mem_append_left _ (List.mem_append_left _ (List.mem_append_left _ (List.mem_append_left _ (List.mem_append_left _ (List.mem_append_left _ (List.mem_append_right _ h))))))))))
theorem inlX9 : ∀ w ∈ wsX90, w ∈ wsL_law := fun _ h => List.mem_append_left _ (List.mem_append_left _ (List.mem_append_left _ (List.mem_append_left _ (List.mem_append_left _ (List.mem_append_left _ (List.mem_append_left _ (List.mem_append_left _ (List.mem_append_left _ (List.mem_append_right _ h)))))))))
theorem inJ6 : ∀ w ∈ wsJ60, w ∈ lw_tbl := by decide +kernel
theorem inJ9 : ∀ w ∈ wsJ90, w ∈ lw_tbl := by decide +kernel
theorem inJ7 : ∀ w ∈ wsJ70, w ∈ lw_tbl := by decide +kernel
end
section
/-- the nest's words of fields, of methods, and the classes that arrays are made over -/
def nw_F : List (String × Nat × String × String × String × String) := [("OneHandset$Make", 34, "OneHandset$Tape", "size", "I", "OneHandset"), ("OneHandset", 81, "OneHandset$Tape", "size", "I", "OneHandset"), ("OneHandset$HalvesForm", 31, "OneHandset$Tape", "size", "I", "OneHandset"), ("OneHandset$PairsForm", 51, "OneHandset$Tape", "size", "I", "OneHandset"), ("OneHandset", 190, "OneHandset$Box", "states", "I", "OneHandset"), ("OneHandset$Route", 43, "OneHandset$Box", "buttons", "I", "OneHandset"), ("OneHandset", 193, "OneHandset$Box", "buttons", "I", "OneHandset"), ("OneHandset$Route", 34, "OneHandset$Box", "maybe", "I", "OneHandset"), ("OneHandset", 177, "OneHandset$Box", "maybe", "I", "OneHandset"), ("OneHandset", 196, "OneHandset$Route", "length", "I", "OneHandset"), ("OneHandset", 127, "OneHandset$Keys", "flip", "I", "OneHandset"), ("OneHandset", 136, "OneHandset$Keys", "flipBit", "I", "OneHandset"), ("OneHandset", 130, "OneHandset$Keys", "learnt", "I", "OneHandset"), ("OneHandset", 133, "OneHandset$Keys", "fixed", "I", "OneHandset"), ("OneHandset", 124, "OneHandset$Make", "kind", "I", "OneHandset"), ("OneHandset", 68, "OneHandset$Make", "bits", "I", "OneHandset"), ("OneHandset", 71, "OneHandset$Make", "keys", "LOneHandset$Keys;", "OneHandset"), ("OneHandset", 65, "OneHandset$Make", "miss", "I", "OneHandset")]
def nw_M : List (String × Nat × MethodName × String) := [(RX8, 11, yX7_init, RX8), (RX0, 26, yX8_lowBits, RX8), (RX8, 35, yX6_init, RX8), (RX2, 3, yX1_init, RX8), (RX5, 3, yX1_init, RX8), (RX3, 60, yX8_lowBits, RX8), (RX8, 75, yX3_startWithFlip, RX8), (RX7, 19, yX8_within, RX8), (RX2, 38, yX8_nearerOf, RX8), (RX2, 42, yX8_fault, RX8), (RX5, 54, yX8_fault, RX8), (RX5, 60, yX8_nearerOf, RX8), (RX5, 64, yX8_fits, RX8), (RX7, 23, yX8_isTime, RX8), (RX3, 41, yX8_within, RX8), (RX8, 161, yX0_startAnew, RX8), (RX0, 39, yX8_within, RX8), (RX6, 49, yX8_within, RX8)]
def nw_A : List String := ["OneHandset$Box", "OneHandset$Make"]
def nw_D : List MethodName := [⟨"OneHandset$Form", "write", "(ILOneHandset$Tape;)V"⟩, ⟨"OneHandset$Form", "decode", "(LOneHandset$Tape;I)I"⟩]
def NW (U : State) : Prop := (∀ q ∈ nw_F, va_Nw (.fieldLinkNest q.1 q.2.1 q.2.2.1 q.2.2.2.1 q.2.2.2.2.1 q.2.2.2.2.2) U) ∧ (∀ q ∈ nw_M, va_Nw (.methodLinkNest q.1 q.2.1 q.2.2.1 q.2.2.2) U) ∧ (∀ C ∈ nw_A, va_AO C U) ∧ ∀ x ∈ nw_D, va_Nw (.declares x) U
theorem NW.warm {s U : State} (h : NW s) (hW : s.WarmedH U.vm) : NW U := ⟨fun q hq => va_Nw.warmF hW (h.1 q hq), fun q hq => va_Nw.warmM hW (h.2.1 q hq), fun C hC => va_AO.moved hW.alike (h.2.2.1 C hC), fun x hx => va_Nw.warmD hW (h.2.2.2 x hx)⟩
theorem NW.call {U : State} (g : JFrame) (mk : MethodId) (a : Array Value) (h : NW U) : NW (U.calling g mk a) := ⟨fun q hq => va_tabs rfl (u := U) rfl (h.1 q hq), fun q hq => va_tabs rfl (u := U) rfl (h.2.1 q hq), fun C hC => va_AO.moved (u := U) (Vm.Alike.refl U.vm) (h.2.2.1 C hC), fun x hx => va_tabs rfl (u := U) rfl (h.2.2.2 x hx)⟩
/-- a contract's start and end: a world before, a world behind, the answer's word -/
def st_Pc (D : va_G) (av : List Value) (ws : va_W) (tys : List (ClassId × FieldType)) (sz : Nat) : Array Value → State → Prop := va_Pc av (fun U => U.heap.size = sz ∧ va_P D vwCl ws U.heap ∧ va_K D vwCl tys U ∧ va_D (fun _ => True) ws ∧ NW U)
theorem st_blind {D : va_G} {av : List Value} {ws : va_W} {tys : List (ClassId × FieldType)} {sz : Nat} : FrameBlind (st_Pc D av ws tys sz) := fun a U g mk q => by
  obtain ⟨q0, q1, qP, qK, qD, qN⟩ := q
  exact ⟨q0, q1, qP, va_K.moved (u := U) (U := U.calling g mk a) (Vm.Alike.refl U.vm) qK, qD, NW.call g mk a qN⟩
def st_B (D : va_G) (A : Nat → Prop) {S : Type} (ws' : S → va_W) (tys' : S → List (ClassId × FieldType)) (u : S) (t : State) : Prop := va_P D vwCl (ws' u) t.heap ∧ va_K D vwCl (tys' u) t ∧ va_D A (ws' u)
def Ci (l : Launch) (y : MethodName) (wl : List Cond) (rm : Room) (D : va_G) (av : List Value) (ws : va_W) (tys : List (ClassId × FieldType)) (sz : Nat) {S : Type} (post : Int32 → S → Prop) (ws' : S → va_W) (tys' : S → List (ClassId × FieldType)) : Prop :=
  Met l y wl rm (st_Pc D av ws tys sz) (va_Qi post (st_B D (va_A ws sz) ws' tys') (va_A ws sz)) rm.cells rm.slots (va_A ws sz)
def Cv (l : Launch) (y : MethodName) (wl : List Cond) (rm : Room) (D : va_G) (av : List Value) (ws : va_W) (tys : List (ClassId × FieldType)) (sz : Nat) {S : Type} (post : S → Prop) (ws' : S → va_W) (tys' : S → List (ClassId × FieldType)) : Prop :=
  Met l y wl rm (st_Pc D av ws tys sz) (va_Qv post (st_B D (va_A ws sz) ws' tys') (va_A ws sz)) rm.cells rm.slots (va_A ws sz)
def Cq (l : Launch) (y : MethodName) (wl : List Cond) (rm : Room) (D : va_G) (av : List Value) (ws : va_W) (tys : List (ClassId × FieldType)) (sz : Nat) {S : Type} (post : Option Nat → S → Prop) (ws' : S → va_W) (tys' : S → List (ClassId × FieldType)) : Prop :=
  Met l y wl rm (st_Pc D av ws tys sz) (va_Qq post (st_B D (va_A ws sz) ws' tys') (va_A ws sz)) rm.cells rm.slots (va_A ws sz)
/-- a contract's proof begins -/
theorem ct_of {l : Launch} {y : MethodName} {wl wl' : List Cond} {rm : Room} {D : va_G} {av : List Value} {ws : va_W} {tys : List (ClassId × FieldType)} {sz : Nat} {Qc : (Nat → Prop) → Array Value → State → Outcome → State → Prop} {mc ms : Nat} {cc : ByteArray} {maxL : Nat} {ret : Option FieldType}
    (hy : plainName y.cls = true) (hw : wl = Cond.code y cc maxL ret :: wl') (hn : (lg_sl av).length ≤ maxL)
    (body : ∀ (p : Program) (e : Env) (s : State) (m : MethodId) (below : List Frame) (meth : Method) (c : Code) (A : Nat → Prop) (ls : Array Slot) (H : Heap), p.tables.exec = Jvm.exec → c.code = cc → meth.sig.returnType = ret → (∀ w ∈ wl, w.before av.toArray s = true) → s.vm.findClass y.cls = some m.cls → c.maxLocals = maxL → meth.locks = false → meth.name = y.name → (∀ q, s.heap.size ≤ q → A q) → va_S A s.heap H [] → va_P D vwCl ws H → va_K D vwCl tys s → va_D A ws → NW s → lv_has ls maxL (lv_args 0 av) → A = va_A ws sz → s.heap.size = sz →
      W p l e rm s m av.toArray below meth c H [] 0 0 (MQ below (Qc A) av.toArray s mc ms A) (F0 m 0 ls [])) : Met l y wl rm (st_Pc D av ws tys sz) (Qc (va_A ws sz)) mc ms (va_A ws sz) := by
  refine Met.ofW (cc := cc) (maxL := maxL) (ret := ret) hy hw ?_
  intro p e s m args below meth c s₁ B hml hv
  obtain ⟨rfl, hsz, hP, hK, hD0, hN⟩ := hv
  have hD : va_D (va_A ws sz) ws := by subst hsz; exact hD0.self (sz := s.heap.size)
  have hl := lv_entry av (n := maxL) hn
  rw [lg_entry_eq]
  exact body p e s m below meth c (va_A ws sz) _ s.heap B.exec B.bytes B.returns (atoms_spec (ws := wl) B.pre) (findClass_of_methodNamed B.named) hml B.notSynchronized (name_of_methodNamed B.named B.method).1 (fun q h => Or.inr (hsz ▸ h)) va_S.rf hP hK hD hN hl rfl hsz
theorem ct_i {l : Launch} {y : MethodName} {wl wl' : List Cond} {rm : Room} {D : va_G} {av : List Value} {ws : va_W} {tys : List (ClassId × FieldType)} {sz : Nat} {S : Type} {post : Int32 → S → Prop} {ws' : S → va_W} {tys' : S → List (ClassId × FieldType)} {cc : ByteArray} {maxL : Nat} {ret : Option FieldType}
    (hy : plainName y.cls = true) (hw : wl = Cond.code y cc maxL ret :: wl') (hn : (lg_sl av).length ≤ maxL)
    (body : ∀ (p : Program) (e : Env) (s : State) (m : MethodId) (below : List Frame) (meth : Method) (c : Code) (A : Nat → Prop) (ls : Array Slot) (H : Heap), p.tables.exec = Jvm.exec → c.code = cc → meth.sig.returnType = ret → (∀ w ∈ wl, w.before av.toArray s = true) → s.vm.findClass y.cls = some m.cls → c.maxLocals = maxL → meth.locks = false → meth.name = y.name → (∀ q, s.heap.size ≤ q → A q) → va_S A s.heap H [] → va_P D vwCl ws H → va_K D vwCl tys s → va_D A ws → NW s → lv_has ls maxL (lv_args 0 av) → A = va_A ws sz → s.heap.size = sz →
      W p l e rm s m av.toArray below meth c H [] 0 0 (MQ below (va_Qi post (st_B D A ws' tys') A) av.toArray s rm.cells rm.slots A) (F0 m 0 ls [])) : Ci l y wl rm D av ws tys sz post ws' tys' :=
  ct_of (Qc := fun A => va_Qi post (st_B D A ws' tys') A) hy hw hn body
theorem ct_v {l : Launch} {y : MethodName} {wl wl' : List Cond} {rm : Room} {D : va_G} {av : List Value} {ws : va_W} {tys : List (ClassId × FieldType)} {sz : Nat} {S : Type} {post : S → Prop} {ws' : S → va_W} {tys' : S → List (ClassId × FieldType)} {cc : ByteArray} {maxL : Nat} {ret : Option FieldType}
    (hy : plainName y.cls = true) (hw : wl = Cond.code y cc maxL ret :: wl') (hn : (lg_sl av).length ≤ maxL)
    (body : ∀ (p : Program) (e : Env) (s : State) (m : MethodId) (below : List Frame) (meth : Method) (c : Code) (A : Nat → Prop) (ls : Array Slot) (H : Heap), p.tables.exec = Jvm.exec → c.code = cc → meth.sig.returnType = ret → (∀ w ∈ wl, w.before av.toArray s = true) → s.vm.findClass y.cls = some m.cls → c.maxLocals = maxL → meth.locks = false → meth.name = y.name → (∀ q, s.heap.size ≤ q → A q) → va_S A s.heap H [] → va_P D vwCl ws H → va_K D vwCl tys s → va_D A ws → NW s → lv_has ls maxL (lv_args 0 av) → A = va_A ws sz → s.heap.size = sz →
      W p l e rm s m av.toArray below meth c H [] 0 0 (MQ below (va_Qv post (st_B D A ws' tys') A) av.toArray s rm.cells rm.slots A) (F0 m 0 ls [])) : Cv l y wl rm D av ws tys sz post ws' tys' :=
  ct_of (Qc := fun A => va_Qv post (st_B D A ws' tys') A) hy hw hn body
theorem ct_q {l : Launch} {y : MethodName} {wl wl' : List Cond} {rm : Room} {D : va_G} {av : List Value} {ws : va_W} {tys : List (ClassId × FieldType)} {sz : Nat} {S : Type} {post : Option Nat → S → Prop} {ws' : S → va_W} {tys' : S → List (ClassId × FieldType)} {cc : ByteArray} {maxL : Nat} {ret : Option FieldType}
    (hy : plainName y.cls = true) (hw : wl = Cond.code y cc maxL ret :: wl') (hn : (lg_sl av).length ≤ maxL)
    (body : ∀ (p : Program) (e : Env) (s : State) (m : MethodId) (below : List Frame) (meth : Method) (c : Code) (A : Nat → Prop) (ls : Array Slot) (H : Heap), p.tables.exec = Jvm.exec → c.code = cc → meth.sig.returnType = ret → (∀ w ∈ wl, w.before av.toArray s = true) → s.vm.findClass y.cls = some m.cls → c.maxLocals = maxL → meth.locks = false → meth.name = y.name → (∀ q, s.heap.size ≤ q → A q) → va_S A s.heap H [] → va_P D vwCl ws H → va_K D vwCl tys s → va_D A ws → NW s → lv_has ls maxL (lv_args 0 av) → A = va_A ws sz → s.heap.size = sz →
      W p l e rm s m av.toArray below meth c H [] 0 0 (MQ below (va_Qq post (st_B D A ws' tys') A) av.toArray s rm.cells rm.slots A) (F0 m 0 ls [])) : Cq l y wl rm D av ws tys sz post ws' tys' :=
  ct_of (Qc := fun A => va_Qq post (st_B D A ws' tys') A) hy hw hn body
section KC
variable {p : Program} {l : Launch} {e : Env} {R : Room} {s : State} {m : MethodId} {args : Array Value} {below : List Frame} {meth : Method} {c : Code} {H : Heap} {locs : List Loc} {cells slots : Nat} {Q : State → Prop}
variable {D : va_G} {ws wc wr : va_W} {tys tysc tysr : List (ClassId × FieldType)} {A : Nat → Prop} {H0 : Heap} {pc : Nat} {ls : Array Slot} {rest st0 : List Value} {cc : ByteArray} {mc ms : Nat}
/-- a method's end -/
theorem ret_i {S : Type} {post : Int32 → S → Prop} {ws' : S → va_W} {tys' : S → List (ClassId × FieldType)} {ty : FieldType} {v : Int32} (hx : p.tables.exec = Jvm.exec) (hb : c.code = cc) (hr : meth.sig.returnType = some ty) (hlocks : meth.locks = false) (hn : narrow ty (.int v) = .int v) (u : S) (hp : post v u) (hP : va_P D vwCl (ws' u) H) (hK : va_K D vwCl (tys' u) s) (hD : va_D A (ws' u)) (hS : va_S A s.heap H locs) (hc : cells ≤ mc) (hs : slots ≤ ms) (hdg : decode cc pc = .ok (.ireturn, 1)) :
    W p l e R s m args below meth c H locs cells slots (MQ below (va_Qi post (st_B D A ws' tys') A) args s mc ms A) (F0 m pc ls [.int v]) :=
  W.widen hc hs (W.zret hx hb hr hn (fun t ht hW => ⟨⟨v, u, rfl, hp, by rw [ht]; exact hP, va_K.moved hW.alike hK, hD⟩, hS.F ht⟩) hS.2.2 hdg hlocks)
theorem ret_v {S : Type} {post : S → Prop} {ws' : S → va_W} {tys' : S → List (ClassId × FieldType)} (hx : p.tables.exec = Jvm.exec) (hb : c.code = cc) (hr : meth.sig.returnType = none) (hlocks : meth.locks = false) (u : S) (hp : post u) (hP : va_P D vwCl (ws' u) H) (hK : va_K D vwCl (tys' u) s) (hD : va_D A (ws' u)) (hS : va_S A s.heap H locs) (hc : cells ≤ mc) (hs : slots ≤ ms) (hdg : decode cc pc = .ok (.return_, 1)) :
    W p l e R s m args below meth c H locs cells slots (MQ below (va_Qv post (st_B D A ws' tys') A) args s mc ms A) (F0 m pc ls []) :=
  W.widen hc hs (W.vret hx hb hr (fun t ht hW => ⟨⟨u, rfl, hp, by rw [ht]; exact hP, va_K.moved hW.alike hK, hD⟩, hS.F ht⟩) hS.2.2 hdg hlocks)
theorem ret_q {S : Type} {post : Option Nat → S → Prop} {ws' : S → va_W} {tys' : S → List (ClassId × FieldType)} {rt : FieldType} (r : Option Nat) {v : Value} (hv : v = va_rf r) (hx : p.tables.exec = Jvm.exec) (hb : c.code = cc) (hr : meth.sig.returnType = some rt) (hlocks : meth.locks = false) (hrt : (∃ n, rt = .object n) ∨ ∃ t, rt = .array t) (u : S) (hp : post r u) (hP : va_P D vwCl (ws' u) H) (hK : va_K D vwCl (tys' u) s) (hD : va_D A (ws' u)) (hS : va_S A s.heap H locs) (hc : cells ≤ mc) (hs : slots ≤ ms) (hdg : decode cc pc = .ok (.areturn, 1)) :
    W p l e R s m args below meth c H locs cells slots (MQ below (va_Qq post (st_B D A ws' tys') A) args s mc ms A) (F0 m pc ls [v]) := by
  subst hv
  exact W.widen hc hs (W.aret hx hb hr hrt (va_rf_or r) (fun t ht hW => ⟨⟨r, u, rfl, hp, by rw [ht]; exact hP, va_K.moved hW.alike hK, hD⟩, hS.F ht⟩) hS.2.2 hdg hlocks)
/-- a callee's start out of the caller's world -/
theorem st_preS {av : List Value} (hP : va_P D vwCl ws H) (hD : va_D A ws) (hK : va_K D vwCl tys s) (hN : NW s) (isC isT : List Nat) (hC : isC.map (fun i => ws[i]?) = wc.map some) (hC2 : isC.filterMap (fun i => ws[i]?) = wc) (hnd : va_nd isC = true) (hT : isT.filterMap (fun i => tys[i]?) = tysc) : PreS s H (st_Pc D av wc tysc H.size) av :=
  ⟨st_blind, fun U hU hW => ⟨rfl, by rw [hU], by rw [hU]; exact hP.sub isC hC2, va_K.moved hW.alike (hK.sub isT hT), (hD.sub isC hnd hC).weaken (fun _ _ _ _ => trivial), hN.warm hW⟩⟩
theorem st_preV {C : String} {b : Nat} {As : List Value} {ci q0 : Nat} {fs : List Value} {q : vw_C} (hP : va_P D vwCl ws H) (hD : va_D A ws) (hK : va_K D vwCl tys s) (hN : NW s) (isC isT : List Nat) (hC : isC.map (fun i => ws[i]?) = wc.map some) (hC2 : isC.filterMap (fun i => ws[i]?) = wc) (hnd : va_nd isC = true) (hT : isT.filterMap (fun i => tys[i]?) = tysc) (hc : vwCl[ci]? = some q) (hq : q.1 = C) (he : ws[q0]? = some (b, .inr (ci, fs))) : PreV s H C b (st_Pc D (Value.ref b :: As) wc tysc H.size) As := by
  subst hq
  exact ⟨st_blind, va_recv hK hP hc he, (st_preS hP hD hK hN isC isT hC hC2 hnd hT).2⟩
/-- behind a call -/
theorem go_i {S : Type} {post : Int32 → S → Prop} {ws' : S → va_W} {tys' : S → List (ClassId × FieldType)} {a : Array Value} (hP : va_P D vwCl ws H) (hD : va_D A ws) (hS : va_S A H0 H locs) (hA : ∀ q, H0.size ≤ q → A q) (hK : va_K D vwCl tys s) (isC isR isT : List Nat) (hC : isC.map (fun i => ws[i]?) = wc.map some) (hR : isR.map (fun i => ws[i]?) = wr.map some) (hn : va_nd isR = true) (hdis : ∀ i ∈ isR, i ∉ isC) (hT : isT.filterMap (fun i => tys[i]?) = tysr)
    (hr : va_Run p l e R s m args below meth c H locs cells slots mc ms (F0 m pc ls st0) rest (va_Qi post (st_B D (va_A wc H.size) ws' tys') (va_A wc H.size) a) (va_A wc H.size))
    (kk : ∀ (r : Int32) (u : S) (H1 : Heap) (locs1 : List Loc), post r u → va_P D vwCl (wr ++ ws' u) H1 → va_D A (wr ++ ws' u) → va_K D vwCl (tysr ++ tys' u) s → va_S A H0 H1 locs1 → W p l e R s m args below meth c H1 locs1 (cells + mc) (slots + ms) Q (F0 m (pc + 3) ls (.int r :: rest))) : W p l e R s m args below meth c H locs cells slots Q (F0 m pc ls st0) := by
  have hF := va_free (wc := wc) hD hS hA isC hC
  refine va_calli hr hS (fun q _ h => hF q h) hF (fun r u t H1 locs1 ht hvm hw hB hz1 hk1 hS => ?_)
  obtain ⟨hP1, hK1, hD1⟩ := hB
  rw [ht] at hP1
  obtain ⟨hP, hD⟩ := va_join (wr := wr) (w1 := ws' u) hP hD isC isR hC hR hn hdis hk1 hF hP1 hD1
  exact kk r u H1 locs1 hw hP hD ((hK.sub isT hT).app (va_K.moved hvm.symm hK1)) hS
theorem go_v {S : Type} {post : S → Prop} {ws' : S → va_W} {tys' : S → List (ClassId × FieldType)} {a : Array Value} (hP : va_P D vwCl ws H) (hD : va_D A ws) (hS : va_S A H0 H locs) (hA : ∀ q, H0.size ≤ q → A q) (hK : va_K D vwCl tys s) (isC isR isT : List Nat) (hC : isC.map (fun i => ws[i]?) = wc.map some) (hR : isR.map (fun i => ws[i]?) = wr.map some) (hn : va_nd isR = true) (hdis : ∀ i ∈ isR, i ∉ isC) (hT : isT.filterMap (fun i => tys[i]?) = tysr)
    (hr : va_Run p l e R s m args below meth c H locs cells slots mc ms (F0 m pc ls st0) rest (va_Qv post (st_B D (va_A wc H.size) ws' tys') (va_A wc H.size) a) (va_A wc H.size))
    (kk : ∀ (u : S) (H1 : Heap) (locs1 : List Loc), post u → va_P D vwCl (wr ++ ws' u) H1 → va_D A (wr ++ ws' u) → va_K D vwCl (tysr ++ tys' u) s → va_S A H0 H1 locs1 → W p l e R s m args below meth c H1 locs1 (cells + mc) (slots + ms) Q (F0 m (pc + 3) ls rest)) : W p l e R s m args below meth c H locs cells slots Q (F0 m pc ls st0) := by
  have hF := va_free (wc := wc) hD hS hA isC hC
  refine va_callv hr hS (fun q _ h => hF q h) hF (fun u t H1 locs1 ht hvm hw hB hz1 hk1 hS => ?_)
  obtain ⟨hP1, hK1, hD1⟩ := hB
  rw [ht] at hP1
  obtain ⟨hP, hD⟩ := va_join (wr := wr) (w1 := ws' u) hP hD isC isR hC hR hn hdis hk1 hF hP1 hD1
  exact kk u H1 locs1 hw hP hD ((hK.sub isT hT).app (va_K.moved hvm.symm hK1)) hS
theorem go_q {S : Type} {post : Option Nat → S → Prop} {ws' : S → va_W} {tys' : S → List (ClassId × FieldType)} {a : Array Value} (hP : va_P D vwCl ws H) (hD : va_D A ws) (hS : va_S A H0 H locs) (hA : ∀ q, H0.size ≤ q → A q) (hK : va_K D vwCl tys s) (isC isR isT : List Nat) (hC : isC.map (fun i => ws[i]?) = wc.map some) (hR : isR.map (fun i => ws[i]?) = wr.map some) (hn : va_nd isR = true) (hdis : ∀ i ∈ isR, i ∉ isC) (hT : isT.filterMap (fun i => tys[i]?) = tysr)
    (hr : va_Run p l e R s m args below meth c H locs cells slots mc ms (F0 m pc ls st0) rest (va_Qq post (st_B D (va_A wc H.size) ws' tys') (va_A wc H.size) a) (va_A wc H.size))
    (kk : ∀ (r : Option Nat) (u : S) (H1 : Heap) (locs1 : List Loc), post r u → va_P D vwCl (wr ++ ws' u) H1 → va_D A (wr ++ ws' u) → va_K D vwCl (tysr ++ tys' u) s → va_S A H0 H1 locs1 → W p l e R s m args below meth c H1 locs1 (cells + mc) (slots + ms) Q (F0 m (pc + 3) ls (va_rf r :: rest))) : W p l e R s m args below meth c H locs cells slots Q (F0 m pc ls st0) := by
  have hF := va_free (wc := wc) hD hS hA isC hC
  refine va_callq hr hS (fun q _ h => hF q h) hF (fun r u t H1 locs1 ht hvm hw hB hz1 hk1 hS => ?_)
  obtain ⟨hP1, hK1, hD1⟩ := hB
  rw [ht] at hP1
  obtain ⟨hP, hD⟩ := va_join (wr := wr) (w1 := ws' u) hP hD isC isR hC hR hn hdis hk1 hF hP1 hD1
  exact kk r u H1 locs1 hw hP hD ((hK.sub isT hT).app (va_K.moved hvm.symm hK1)) hS
end KC
end
section
/-- 1 if v is at least lo and at most hi, else 0 -/
def wi (v lo hi : Int32) : Int32 := if v < lo then 0 else if hi < v then 0 else 1
theorem wi_nar (v lo hi : Int32) : narrow .boolean (.int (wi v lo hi)) = .int (wi v lo hi) := by
  unfold wi; split
  · rfl
  · split <;> rfl
/-- the lowest n bits -/
def lb (n : Int32) : Int32 := (1 <<< (n &&& 31)) - 1
theorem vin {i : Int32} {n : Nat} (h : ¬ (i < 0 ∨ n ≤ i.toNatClampNeg)) : vp_in i n := h
/-- the first i places hold v -/
def fl (f : Nat → Int32) (v : Int32) (i : Nat) : Nat → Int32 := fun j => if j < i then v else f j
theorem fl_0 (f : Nat → Int32) (v : Int32) : fl f v 0 = f := by funext j; simp [fl]
theorem fl_up (f : Nat → Int32) (v : Int32) (i : Nat) : upd (fl f v i) i v = fl f v (i + 1) := by
  funext j
  unfold upd fl
  by_cases h : j = i
  · subst h; simp
  · by_cases h2 : j < i
    · simp [h, h2, Nat.lt_succ_of_lt h2]
    · have h3 : ¬ j < i + 1 := by omega
      simp [h, h2, h3]
theorem fl_in {f : Nat → Int32} {v : Int32} {i j : Nat} (h : j < i) : fl f v i j = v := by simp [fl, h]
theorem tsw {n : Nat} (h0 : 0 < n) (hn : n < 2 ^ 31) (x : Int32) : (∃ k : Nat, k < n ∧ x = nI k) ∨ (x.toInt < (0 : Int) ∨ (n - 1 : Nat) < x.toInt) := by
  by_cases h : vp_in x n
  · exact Or.inl (vp_in_of h hn)
  · right
    rw [vp_in_iff] at h
    omega
theorem tsw_ne {n k : Nat} {x : Int32} (hk : k < n) (hn : n < 2 ^ 31) (h : x.toInt < (0 : Int) ∨ (n - 1 : Nat) < x.toInt) : ¬ x = nI k := by
  intro e
  subst e
  rw [nI_toInt (by omega)] at h
  omega
theorem wi_bx {v : Int32} (h : ¬ wi v 0 3 = 0) : v = 0 ∨ v = 1 ∨ v = 2 ∨ v = 3 := by
  unfold wi at h
  by_cases h1 : v < 0
  · exact absurd (if_pos h1) h
  · by_cases h2 : 3 < v
    · exact absurd (by rw [if_neg h1, if_pos h2]) h
    · rw [Int32.lt_iff_toInt_lt] at h1 h2
      have a : (0 : Int32).toInt = 0 := by decide
      have b : (3 : Int32).toInt = 3 := by decide
      rw [a] at h1; rw [b] at h2
      rcases (show v.toInt = 0 ∨ v.toInt = 1 ∨ v.toInt = 2 ∨ v.toInt = 3 by omega) with e | e | e | e
      · exact Or.inl (Int32.toInt_inj.mp (e.trans (by decide)))
      · exact Or.inr (Or.inl (Int32.toInt_inj.mp (e.trans (by decide))))
      · exact Or.inr (Or.inr (Or.inl (Int32.toInt_inj.mp (e.trans (by decide)))))
      · exact Or.inr (Or.inr (Or.inr (Int32.toInt_inj.mp (e.trans (by decide)))))
theorem wi_00 {v : Int32} (h : ¬ wi v 0 0 = 0) : v = 0 := by
  unfold wi at h
  by_cases h1 : v < 0
  · exact absurd (if_pos h1) h
  · by_cases h2 : 0 < v
    · exact absurd (by rw [if_neg h1, if_pos h2]) h
    · rw [Int32.lt_iff_toInt_lt] at h1 h2
      have a : (0 : Int32).toInt = 0 := by decide
      rw [a] at h1 h2
      exact Int32.toInt_inj.mp (show v.toInt = (0 : Int32).toInt by rw [a]; omega)
theorem wi_11 {v : Int32} (h : ¬ wi v 1 1 = 0) : v = 1 := by
  unfold wi at h
  by_cases h1 : v < 1
  · exact absurd (if_pos h1) h
  · by_cases h2 : 1 < v
    · exact absurd (by rw [if_neg h1, if_pos h2]) h
    · rw [Int32.lt_iff_toInt_lt] at h1 h2
      have a : (1 : Int32).toInt = 1 := by decide
      rw [a] at h1 h2
      exact Int32.toInt_inj.mp (show v.toInt = (1 : Int32).toInt by rw [a]; omega)
theorem wi_0m (v : Int32) : wi v 0 (-1) = 0 := by
  unfold wi
  by_cases h1 : v < 0
  · exact if_pos h1
  · have h2 : (-1 : Int32) < v := by
      rw [Int32.lt_iff_toInt_lt] at h1 ⊢
      have a : (0 : Int32).toInt = 0 := by decide
      have b : (-1 : Int32).toInt = -1 := by decide
      rw [a] at h1; rw [b]; omega
    rw [if_neg h1, if_pos h2]
theorem na_i (N : Nat) (cA : ClassId) : vp_cell cA (N, .inl (fun _ => 0)) = arrV cA N (fun _ => defaultValue .int) := rfl
theorem na_l (N : Nat) (cA : ClassId) : vp_cell cA (N, .inr (.inl (fun _ => 0))) = arrV cA N (fun _ => defaultValue .long) := rfl
/-- what a first call answers -/
def mkS (k n a b p z o : Int32) : Int32 := if wi k 0 2 = 0 then -1 else if wi n 1 24 = 0 then -1 else if wi a 1 9999 = 0 then -1 else if wi b 1 9999 = 0 then -1 else if wi p 1 9999 = 0 then -1 else if wi z 1 9999 = 0 then -1 else if wi o 1 9999 = 0 then -1 else if z = o then -1 else 0
def bxS (b k m : Int32) : Int32 := if wi b 0 3 = 0 then 0 else if wi k 1 8 = 0 then 0 else if wi m 1 4 = 0 then 0 else 1
def ldS (b x y z : Int32) : Int32 := if wi b 0 3 = 0 then 0 else if wi x 0 0 = 0 then 0 else if wi y 0 0 = 0 then 0 else if wi z 0 0 = 0 then 0 else 1
def myS (b t : Int32) : Int32 := if wi b 0 3 = 0 then 0 else if wi t 1 1 = 0 then 0 else 1
def puS (b y : Int32) : Int32 := if wi b 0 3 = 0 then -1 else if wi y 0 0 = 0 then -1 else 1
def waS (b t : Int32) : Int32 := if wi b 0 3 = 0 then -1 else if wi t 1 1 = 0 then -1 else 0
def toS (b w : Int32) : Int32 := if wi b 0 3 = 0 then -1 else if w = 0 then 1 else if w = 1 then 1 else if w = 2 then 1 else -1
def coS (w : Int32) : Int32 := if w = 0 then 0 else if w = 1 then 0 else if w = 2 then 0 else -1
theorem wi_in {v : Int32} (h : ¬ wi v 0 3 = 0) : vp_in v 4 := by rcases wi_bx h with rfl | rfl | rfl | rfl <;> exact vin (by decide)
theorem wi_lt {v : Int32} (h : ¬ wi v 0 3 = 0) : Int32.toNatClampNeg v < 4 := by rcases wi_bx h with rfl | rfl | rfl | rfl <;> decide
theorem lp_up {N : Nat} {P : Nat → Heap → List Loc → Array Slot → Prop} {G : Heap → List Loc → Array Slot → Prop} (hstep : ∀ i, i ≤ N → (∀ H locs ls, i < N → P (i + 1) H locs ls → G H locs ls) → ∀ H locs ls, P i H locs ls → G H locs ls) : ∀ H locs ls, P 0 H locs ls → G H locs ls := by
  have key : ∀ n i, i ≤ N → N < i + n → ∀ H locs ls, P i H locs ls → G H locs ls := by
    intro n
    induction n with
    | zero => intro i h1 h2; exact absurd h2 (by omega)
    | succ n ih => intro i h1 h2; exact hstep i h1 (fun H locs ls hl hp => ih (i + 1) hl (by omega) H locs ls hp)
  exact key (N + 1) 0 (Nat.zero_le _) (by omega)
theorem lp_W {p : Program} {l : Launch} {e : Env} {R : Room} {s : State} {m : MethodId} {args : Array Value} {below : List Frame} {meth : Method} {c : Code} {cells slots : Nat} {Q : State → Prop} {pc : Nat} {st : List Value} {N : Nat} {P : Nat → Heap → List Loc → Array Slot → Prop} (hstep : ∀ i, i ≤ N → (∀ H locs ls, i < N → P (i + 1) H locs ls → W p l e R s m args below meth c H locs cells slots Q (F0 m pc ls st)) → ∀ H locs ls, P i H locs ls → W p l e R s m args below meth c H locs cells slots Q (F0 m pc ls st)) {H : Heap} {locs : List Loc} {ls : Array Slot} (h0 : P 0 H locs ls) : W p l e R s m args below meth c H locs cells slots Q (F0 m pc ls st) := lp_up (G := fun H locs ls => W p l e R s m args below meth c H locs cells slots Q (F0 m pc ls st)) hstep H locs ls h0
theorem len8 {L : Nat} (h : L ≤ 8) (hn : ¬ L = 8) : Int32.ofNat L - 8 < 0 := by
  rcases (show L = 0 ∨ L = 1 ∨ L = 2 ∨ L = 3 ∨ L = 4 ∨ L = 5 ∨ L = 6 ∨ L = 7 by omega) with rfl | rfl | rfl | rfl | rfl | rfl | rfl | rfl <;> decide
end
section
/-- Int32 facts as facts of Int -/
abbrev bi (x : Int32) (lo hi : Int) : Prop := lo ≤ x.toInt ∧ x.toInt ≤ hi
theorem ti_lt {x y : Int32} (h : x < y) : x.toInt < y.toInt := Int32.lt_iff_toInt_lt.mp h
theorem ti_nlt {x y : Int32} (h : ¬ x < y) : y.toInt ≤ x.toInt := by
  have := mt Int32.lt_iff_toInt_lt.mpr h
  omega
theorem ti_le {x y : Int32} (h : x ≤ y) : x.toInt ≤ y.toInt := Int32.le_iff_toInt_le.mp h
theorem ti_nle {x y : Int32} (h : ¬ x ≤ y) : y.toInt < x.toInt := by
  have := mt Int32.le_iff_toInt_le.mpr h
  omega
theorem ti_eq {x y : Int32} (h : x = y) : x.toInt = y.toInt := congrArg Int32.toInt h
theorem ti_ne {x y : Int32} (h : ¬ x = y) : x.toInt ≠ y.toInt := fun q => h (Int32.toInt_inj.mp q)
theorem ti_wi1 {v lo hi : Int32} (h : ¬ wi v lo hi = 0) : lo.toInt ≤ v.toInt ∧ v.toInt ≤ hi.toInt := by
  unfold wi at h
  by_cases h1 : v < lo
  · exact absurd (if_pos h1) h
  · by_cases h2 : hi < v
    · exact absurd (by rw [if_neg h1, if_pos h2]) h
    · exact ⟨ti_nlt h1, ti_nlt h2⟩
theorem ti_wi0 {v lo hi : Int32} (h : wi v lo hi = 0) : v.toInt < lo.toInt ∨ hi.toInt < v.toInt := by
  unfold wi at h
  by_cases h1 : v < lo
  · exact Or.inl (ti_lt h1)
  · by_cases h2 : hi < v
    · exact Or.inr (ti_lt h2)
    · rw [if_neg h1, if_neg h2] at h; exact absurd h (by decide)
theorem ti_rg (x : Int32) : bi x (-2147483648) 2147483647 := by
  have h1 := Int32.le_toInt x
  have h2 := Int32.toInt_lt x
  constructor <;> omega
theorem ti_ad {x y : Int32} (h : -2147483648 ≤ x.toInt + y.toInt ∧ x.toInt + y.toInt ≤ 2147483647) : (x + y).toInt = x.toInt + y.toInt := by
  rw [Int32.toInt_add]
  exact Int.bmod_eq_of_le (by omega) (by omega)
theorem ti_su {x y : Int32} (h : -2147483648 ≤ x.toInt - y.toInt ∧ x.toInt - y.toInt ≤ 2147483647) : (x - y).toInt = x.toInt - y.toInt := by
  rw [Int32.toInt_sub]
  exact Int.bmod_eq_of_le (by omega) (by omega)
theorem ti_mu {x y : Int32} (h : -2147483648 ≤ x.toInt * y.toInt ∧ x.toInt * y.toInt ≤ 2147483647) : (x * y).toInt = x.toInt * y.toInt := by
  rw [Int32.toInt_mul]
  exact Int.bmod_eq_of_le (by omega) (by omega)
theorem ti_up {i n : Int32} (h : i.toInt < n.toInt) : (i + 1).toInt = i.toInt + 1 := by
  have h1 := ti_rg n
  have h2 := ti_rg i
  exact ti_ad (x := i) (y := 1) (by have h3 : (1 : Int32).toInt = 1 := (by decide); rw [h3]; omega)
theorem ti_m1 {i : Int32} (h : -2147483648 < i.toInt) : (i - 1).toInt = i.toInt - 1 := by
  have h2 := ti_rg i
  exact ti_su (x := i) (y := 1) (by have h3 : (1 : Int32).toInt = 1 := (by decide); rw [h3]; omega)
theorem ti_am1 {i : Int32} (h : -2147483648 < i.toInt) : (i + (-1)).toInt = i.toInt - 1 := by
  have h2 := ti_rg i
  have h3 : (-1 : Int32).toInt = -1 := by decide
  have := ti_ad (x := i) (y := -1) (by rw [h3]; omega)
  rw [h3] at this
  exact this
theorem ti_nI {n : Nat} (h : n < 2 ^ 31) : (nI n).toInt = n := nI_toInt h
theorem ti_cl {i : Int32} (h : 0 ≤ i.toInt) : (Int32.toNatClampNeg i : Int) = i.toInt := by
  show ((i.toInt.toNat : Nat) : Int) = i.toInt
  omega
section GL
variable {p : Program} {l : Launch} {e : Env} {R : Room} {s : State} {m : MethodId} {args : Array Value} {below : List Frame} {meth : Method} {c : Code} {cells slots : Nat} {Q : State → Prop}
/-- a place where roads meet -/
theorem jn_S {H0 : Heap} {locs0 : List Loc} {g : JFrame} (pcJ : Nat) (Inv : List Value → Heap → List Loc → Array Slot → Prop) (h1 : ∀ (st : List Value) (H : Heap) (locs : List Loc) (ls : Array Slot), Inv st H locs ls → W p l e R s m args below meth c H locs cells slots Q (F0 m pcJ ls st)) (h2 : (∀ (st : List Value) (H : Heap) (locs : List Loc) (ls : Array Slot), Inv st H locs ls → W p l e R s m args below meth c H locs cells slots Q (F0 m pcJ ls st)) → W p l e R s m args below meth c H0 locs0 cells slots Q g) : W p l e R s m args below meth c H0 locs0 cells slots Q g := h2 h1
/-- a loop whose measure falls -/
theorem lp_N {pc : Nat} {st : List Value} (Inv : Nat → Heap → List Loc → Array Slot → Prop) (step : ∀ (n : Nat), (∀ (k : Nat) (H : Heap) (locs : List Loc) (ls : Array Slot), k < n → Inv k H locs ls → W p l e R s m args below meth c H locs cells slots Q (F0 m pc ls st)) → ∀ (H : Heap) (locs : List Loc) (ls : Array Slot), Inv n H locs ls → W p l e R s m args below meth c H locs cells slots Q (F0 m pc ls st)) {n0 : Nat} {H : Heap} {locs : List Loc} {ls : Array Slot} (h0 : Inv n0 H locs ls) : W p l e R s m args below meth c H locs cells slots Q (F0 m pc ls st) := by
  have key : ∀ (n : Nat) (k : Nat), k < n → ∀ (H : Heap) (locs : List Loc) (ls : Array Slot), Inv k H locs ls → W p l e R s m args below meth c H locs cells slots Q (F0 m pc ls st) := by
    intro n
    induction n with
    | zero => intro k h; exact absurd h (Nat.not_lt_zero _)
    | succ n ih => intro k h; exact step k (fun k' H locs ls h1 h2 => ih k' (by omega) H locs ls h2)
  exact key (n0 + 1) n0 (Nat.lt_succ_self _) H locs ls h0
end GL
/-- all rows of ints are of one class -/
theorem ra_int {D : va_G} {t1 t2 : List (ClassId × FieldType)} {U : State} {a b : ClassId} (i j : Nat) (h1 : va_K D vwCl t1 U) (h2 : va_K D vwCl t2 U) (e1 : t1[i]? = some (a, .int)) (e2 : t2[j]? = some (b, .int)) : a = b :=
  Option.some.inj ((va_nm_int (h1.2 i _ e1).2).symm.trans (va_nm_int (h2.2 j _ e2).2))
/-- the order of the cells is free -/
theorem va_P.perm {D : va_G} {w1 w2 : va_W} {H : Heap} (hp : w1.Perm w2) (h : va_P D vwCl w1 H) : va_P D vwCl w2 H := fun k q hk => by
  obtain ⟨i, hi⟩ := List.getElem?_of_mem (hp.mem_iff.mpr (List.mem_of_getElem? hk))
  exact h i q hi
theorem va_D_iff {A : Nat → Prop} {w : va_W} : va_D A w ↔ (w.map (fun q => q.1)).Nodup ∧ ∀ q ∈ w, A q.1 := by
  constructor
  · intro h
    refine ⟨?_, fun q hq => ?_⟩
    · show List.Pairwise _ _
      rw [List.pairwise_iff_getElem]
      intro i j hi hj hij he
      rw [List.length_map] at hi hj
      rw [List.getElem_map, List.getElem_map] at he
      have := h.1 i j w[i] w[j] (List.getElem?_eq_getElem hi) (List.getElem?_eq_getElem hj) he
      omega
    · obtain ⟨i, hi⟩ := List.getElem?_of_mem hq
      exact h.2 i q hi
  · intro h
    refine ⟨fun i j x y hx hy hxy => ?_, fun k q hk => h.2 q (List.mem_of_getElem? hk)⟩
    have h1 : List.Pairwise (fun a b => a ≠ b) (w.map (fun q => q.1)) := h.1
    rw [List.pairwise_iff_getElem] at h1
    obtain ⟨hi, rfl⟩ := List.getElem?_eq_some_iff.mp hx
    obtain ⟨hj, rfl⟩ := List.getElem?_eq_some_iff.mp hy
    have hi2 : i < (w.map (fun q => q.1)).length := by rw [List.length_map]; exact hi
    have hj2 : j < (w.map (fun q => q.1)).length := by rw [List.length_map]; exact hj
    rcases Nat.lt_trichotomy i j with q | q | q
    · exact absurd (by rw [List.getElem_map, List.getElem_map]; exact hxy) (h1 i j hi2 hj2 q)
    · exact q
    · exact absurd (by rw [List.getElem_map, List.getElem_map]; exact hxy.symm) (h1 j i hj2 hi2 q)
theorem va_D.perm {A : Nat → Prop} {w1 w2 : va_W} (hp : w1.Perm w2) (h : va_D A w1) : va_D A w2 := by
  rw [va_D_iff] at h ⊢
  exact ⟨(hp.map _).nodup_iff.mp h.1, fun q hq => h.2 q (hp.mem_iff.mpr hq)⟩
theorem va_D.left {A : Nat → Prop} {w1 w2 : va_W} (h : va_D A (w1 ++ w2)) : va_D A w1 := by
  rw [va_D_iff] at h ⊢
  rw [List.map_append, List.nodup_append] at h
  exact ⟨h.1.1, fun q hq => h.2 q (List.mem_append_left _ hq)⟩
theorem va_P.left {D : va_G} {w1 w2 : va_W} {H : Heap} (h : va_P D vwCl (w1 ++ w2) H) : va_P D vwCl w1 H := fun k q hk => by
  obtain ⟨i, hi⟩ := List.getElem?_of_mem (List.mem_append_left w2 (List.mem_of_getElem? hk))
  exact h i q hi
theorem va_A_perm {w1 w2 wr : va_W} {sz : Nat} (hp : w1.Perm (w2 ++ wr)) {q : Nat} (h : va_A w2 sz q) : va_A w1 sz q := by
  rcases h with ⟨k, e, h⟩ | h
  · obtain ⟨i, hi⟩ := List.getElem?_of_mem (hp.mem_iff.mpr (List.mem_append_left wr (List.mem_of_getElem? h)))
    exact Or.inl ⟨i, e, hi⟩
  · exact Or.inr h
/-- what is not a callee's stays: the heart of the frame rule -/
theorem fr_join {D : va_G} {wc wr w1 w w' : va_W} {A : Nat → Prop} {H H1 : Heap} (hp : w.Perm (wc ++ wr)) (hP : va_P D vwCl w H) (hD : va_D A w) (hz : H.size ≤ H1.size) (hk : ∀ q : Nat, q < H.size → ¬ va_A wc H.size q → H1[q]? = H[q]?) (hP1 : va_P D vwCl w1 H1) (hD1 : va_D (va_A wc H.size) w1) (hq : w'.Perm (wr ++ w1)) : va_P D vwCl w' H1 ∧ va_D (va_A w H.size) w' := by
  have hP2 := hP.perm hp
  have hD2 := (va_D_iff.mp (hD.perm hp))
  have out : ∀ x ∈ wr, x.1 < H.size ∧ ¬ va_A wc H.size x.1 := by
    intro x hx
    obtain ⟨i, hi⟩ := List.getElem?_of_mem (List.mem_append_right wc hx)
    have hl := (hP2 i x hi).lt
    refine ⟨hl, fun h => ?_⟩
    rcases h with ⟨k, e, h⟩ | h
    · have h3 := hD2.1
      rw [List.map_append, List.nodup_append] at h3
      exact h3.2.2 x.1 (List.mem_map.mpr ⟨_, List.mem_of_getElem? h, rfl⟩) x.1 (List.mem_map.mpr ⟨x, hx, rfl⟩) rfl
    · omega
  have hPr : va_P D vwCl wr H1 := fun k q hk2 => by
    have hm := List.mem_of_getElem? hk2
    obtain ⟨i, hi⟩ := List.getElem?_of_mem (List.mem_append_right wc hm)
    exact (hP2 i q hi).kept (hk q.1 (out q hm).1 (out q hm).2)
  refine ⟨(va_P.app hPr hP1).perm hq.symm, va_D.perm hq.symm ?_⟩
  refine va_D.app ?_ (hD1.weaken (fun k q _ h => va_A_perm hp h)) (fun i j x y hx hy hxy => ?_)
  · rw [va_D_iff]
    have h3 := hD2.1
    rw [List.map_append, List.nodup_append] at h3
    refine ⟨h3.2.1, fun q hq2 => ?_⟩
    obtain ⟨i, hi⟩ := List.getElem?_of_mem (hp.mem_iff.mpr (List.mem_append_right wc hq2))
    exact Or.inl ⟨i, q.2, hi⟩
  · exact (out x (List.mem_of_getElem? hx)).2 (by rw [hxy]; exact hD1.2 j y hy)
section FR
variable {l : Launch} {y : MethodName} {wl : List Cond} {rm : Room} {D : va_G} {av : List Value} {w wc wr : va_W} {tys tysc : List (ClassId × FieldType)} {sz : Nat} {S S2 : Type}
theorem st_Pc.up (hp : w.Perm (wc ++ wr)) (isT : List Nat) (hT : isT.filterMap (fun i => tys[i]?) = tysc) {a : Array Value} {U : State} (h : st_Pc D av w tys sz a U) : st_Pc D av wc tysc sz a U := by
  obtain ⟨h0, h1, hP, hK, hD, hN⟩ := h
  exact ⟨h0, h1, (hP.perm hp).left, hK.sub isT hT, (hD.perm hp).left, hN⟩
/-- the frame rule of a contract -/
theorem Ci.up {post : Int32 → S → Prop} {ws' : S → va_W} {tys' : S → List (ClassId × FieldType)} (h : Ci l y wl rm D av wc tysc sz post ws' tys') (hp : w.Perm (wc ++ wr)) (isT : List Nat) (hT : isT.filterMap (fun i => tys[i]?) = tysc) {G : Int32 → S2 → Prop} {wG : S2 → va_W} (hG : ∀ r u, post r u → ∃ z, G r z ∧ (wG z).Perm (wr ++ ws' u)) : Ci l y wl rm D av w tys sz G wG (fun _ => []) := by
  unfold Ci Met at h ⊢
  refine MetFree.mono h (fun a U hU => st_Pc.up hp isT hT hU) (fun _ _ _ _ _ _ => trivial) ?_
  rintro a st o t hU ⟨⟨⟨r, u, ho, hpost, hP1, hK1, hD1⟩, hz, hk⟩, L, hF, hL⟩
  obtain ⟨h0, h1, hP, hK, hD, hN⟩ := hU
  obtain ⟨z, hz1, hz2⟩ := hG r u hpost
  subst h1
  obtain ⟨hP2, hD2⟩ := fr_join hp hP hD hz hk hP1 hD1 hz2
  exact ⟨⟨⟨r, z, ho, hz1, hP2, ⟨hK1.1, fun k q hk => by simp at hk⟩, hD2⟩, hz, fun q h2 h3 => hk q h2 (fun h4 => h3 (va_A_perm hp h4))⟩, L, hF, fun q hq => va_A_perm hp (hL q hq)⟩
theorem Cv.up {post : S → Prop} {ws' : S → va_W} {tys' : S → List (ClassId × FieldType)} (h : Cv l y wl rm D av wc tysc sz post ws' tys') (hp : w.Perm (wc ++ wr)) (isT : List Nat) (hT : isT.filterMap (fun i => tys[i]?) = tysc) {G : S2 → Prop} {wG : S2 → va_W} (hG : ∀ u, post u → ∃ z, G z ∧ (wG z).Perm (wr ++ ws' u)) : Cv l y wl rm D av w tys sz G wG (fun _ => []) := by
  unfold Cv Met at h ⊢
  refine MetFree.mono h (fun a U hU => st_Pc.up hp isT hT hU) (fun _ _ _ _ _ _ => trivial) ?_
  rintro a st o t hU ⟨⟨⟨u, ho, hpost, hP1, hK1, hD1⟩, hz, hk⟩, L, hF, hL⟩
  obtain ⟨h0, h1, hP, hK, hD, hN⟩ := hU
  obtain ⟨z, hz1, hz2⟩ := hG u hpost
  subst h1
  obtain ⟨hP2, hD2⟩ := fr_join hp hP hD hz hk hP1 hD1 hz2
  exact ⟨⟨⟨z, ho, hz1, hP2, ⟨hK1.1, fun k q hk => by simp at hk⟩, hD2⟩, hz, fun q h2 h3 => hk q h2 (fun h4 => h3 (va_A_perm hp h4))⟩, L, hF, fun q hq => va_A_perm hp (hL q hq)⟩
end FR
end
section
theorem nr_le {r : Int32} (h : r = 0 ∨ r = 1 ∨ r = -1) : bi r (-1) 1 := by
  rcases h with rfl | rfl | rfl <;> decide
theorem of_bi {x : Int32} {k : Nat} (h : bi x 0 k) (hk : k < 2147483647) : ∃ n : Nat, n ≤ k ∧ x = nI n := by
  obtain ⟨n, h1, h2⟩ := vp_in_of (x := x) (n := k + 1) (vp_in_iff.mpr (by omega)) (by omega)
  exact ⟨n, by omega, h2⟩
theorem bi_nI {n : Nat} (h : n < 2 ^ 31) : bi (nI n) n n := by rw [bi, nI_toInt h]; omega
theorem or_nI {a b : Nat} (k : Nat) (hk : k ≤ 31) (ha : a < 2 ^ k) (hb : b < 2 ^ k) : bi (nI a ||| nI b) 0 (2 ^ k - 1 : Nat) := by
  have hk2 : 2 ^ k ≤ 2 ^ 31 := Nat.pow_le_pow_right (by decide) hk
  have h1 : (nI a ||| nI b).toBitVec.toNat = a ||| b := by
    rw [Int32.toBitVec_or, BitVec.toNat_or, pk_tn (by omega), pk_tn (by omega)]
  have h2 := Nat.or_lt_two_pow ha hb
  have h3 : (nI a ||| nI b).toInt = ((a ||| b : Nat) : Int) := by
    rw [← h1]
    show (nI a ||| nI b).toBitVec.toInt = _
    exact BitVec.toInt_eq_toNat_of_lt (by rw [h1]; omega)
  rw [bi, h3]; omega
theorem or_bi {q x : Int32} (h1 : bi q 0 255) (h2 : bi x 0 7) : bi (q ||| (1 <<< (x &&& 31))) 0 255 := by
  obtain ⟨a, ha, rfl⟩ := of_bi (k := 255) h1 (by decide)
  obtain ⟨j, hj, rfl⟩ := of_bi (k := 7) h2 (by decide)
  have e : ∃ t : Nat, t < 256 ∧ (1 : Int32) <<< (nI j &&& 31) = nI t := by
    rcases (show j = 0 ∨ j = 1 ∨ j = 2 ∨ j = 3 ∨ j = 4 ∨ j = 5 ∨ j = 6 ∨ j = 7 by omega) with rfl | rfl | rfl | rfl | rfl | rfl | rfl | rfl
    · exact ⟨1, by decide, by decide⟩
    · exact ⟨2, by decide, by decide⟩
    · exact ⟨4, by decide, by decide⟩
    · exact ⟨8, by decide, by decide⟩
    · exact ⟨16, by decide, by decide⟩
    · exact ⟨32, by decide, by decide⟩
    · exact ⟨64, by decide, by decide⟩
    · exact ⟨128, by decide, by decide⟩
  obtain ⟨t, ht, e⟩ := e
  rw [e]
  exact or_nI 8 (by decide) (by omega) (by omega)
theorem ix4 {x y : Int32} (h1 : bi x 0 7) (h2 : bi y 0 3) : (x * 4 + y).toInt = x.toInt * 4 + y.toInt := by
  have k4 : (4 : Int32).toInt = 4 := by decide
  have u := ti_mu (x := x) (y := 4) (by rw [k4]; omega)
  have v := ti_ad (x := x * 4) (y := y) (by rw [u, k4]; omega)
  rw [v, u, k4]
theorem lb_bi {x : Int32} (h : bi x 1 8) : bi (lb x) 1 255 := by
  obtain ⟨j, hj, rfl⟩ := of_bi (k := 8) (x := x) (by omega) (by decide)
  have h1 := h.1
  rw [nI_toInt (by omega)] at h1
  rcases (show j = 1 ∨ j = 2 ∨ j = 3 ∨ j = 4 ∨ j = 5 ∨ j = 6 ∨ j = 7 ∨ j = 8 by omega) with rfl | rfl | rfl | rfl | rfl | rfl | rfl | rfl <;> decide
/-- a row of sets that were reached: who is in it leads to one that is in it -/
def IS (f : Nat → Int32) (x : Int32) : Prop := ∃ j : Nat, j < 256 ∧ x = nI j ∧ ¬ f j = -1
def CLO (f : Nat → Int32) : Prop := ∀ j : Nat, j < 256 → f j = -1 ∨ IS f (f j)
def QI (g f : Nat → Int32) (t : Int32) : Prop := ∀ i : Nat, (i : Int) < t.toInt → IS f (g i)
theorem nI_m1 {j : Nat} (h : j < 256) : ¬ nI j = -1 := fun q => by
  have := ti_eq q
  rw [nI_toInt (by omega), show (-1 : Int32).toInt = -1 by decide] at this
  omega
theorem IS.rg {f : Nat → Int32} {x : Int32} (h : IS f x) : bi x 0 255 := by
  obtain ⟨j, h1, rfl, -⟩ := h
  show _ ∧ _
  rw [nI_toInt (by omega)]; omega
theorem IS.vin {f : Nat → Int32} {x : Int32} (h : IS f x) : vp_in x 256 := by
  have := h.rg
  exact vp_in_iff.mpr (by omega)
theorem IS.nx {f : Nat → Int32} {x : Int32} (h : IS f x) (hc : CLO f) : IS f (f (Int32.toNatClampNeg x)) := by
  obtain ⟨j, h1, rfl, h2⟩ := h
  rw [nI_clamp (by omega)]
  exact (hc j h1).resolve_left h2
theorem IS.put {f : Nat → Int32} {x v : Int32} {k : Nat} (h : IS f x) (hv : ¬ v = -1) : IS (upd f k v) x := by
  obtain ⟨j, h1, rfl, h2⟩ := h
  refine ⟨j, h1, rfl, ?_⟩
  by_cases e : j = k
  · subst e; rw [pk_us]; exact hv
  · rw [pk_un e]; exact h2
theorem IS.ne {f : Nat → Int32} {x : Int32} (h : IS f x) : ¬ x = -1 := by
  obtain ⟨j, h1, rfl, -⟩ := h
  exact nI_m1 h1
theorem IS.me {f : Nat → Int32} {x v : Int32} (h : bi x 0 255) (hv : ¬ v = -1) : IS (upd f (Int32.toNatClampNeg x) v) x := by
  obtain ⟨j, hj, rfl⟩ := of_bi (k := 255) h (by decide)
  rw [nI_clamp (by omega)]
  exact ⟨j, by omega, rfl, by rw [pk_us]; exact hv⟩
theorem CLO.put {f : Nat → Int32} {x : Int32} {k : Nat} (hc : CLO f) (h : IS f x) : CLO (upd f k x) := by
  intro j hj
  by_cases e : j = k
  · subst e; rw [pk_us]; exact Or.inr (h.put h.ne)
  · rw [pk_un e]
    rcases hc j hj with q | q
    · exact Or.inl q
    · exact Or.inr (q.put h.ne)
theorem bi_ne {x : Int32} {k : Int} (h : bi x 0 k) : ¬ x = -1 := fun q => by
  have := ti_eq q
  rw [show (-1 : Int32).toInt = -1 by decide] at this
  omega
theorem CLO.start {f : Nat → Int32} {x : Int32} (h : bi x 0 255) : CLO (upd (fl f (-1) 256) (Int32.toNatClampNeg x) x) := by
  intro j hj
  by_cases e : j = Int32.toNatClampNeg x
  · subst e; rw [pk_us]; exact Or.inr (IS.me h (bi_ne h))
  · rw [pk_un e]; exact Or.inl (fl_in hj)
theorem QI.start {g f : Nat → Int32} {x : Int32} (h : bi x 0 255) : QI (upd g 0 x) (upd (fl f (-1) 256) (Int32.toNatClampNeg x) x) 1 := by
  intro i hi
  rw [show (1 : Int32).toInt = 1 by decide] at hi
  rw [show i = 0 by omega, pk_us]
  exact IS.me h (bi_ne h)
theorem QI.at {g f : Nat → Int32} {t i : Int32} (h : QI g f t) (h0 : 0 ≤ i.toInt) (h1 : i.toInt < t.toInt) : IS f (g (Int32.toNatClampNeg i)) := h _ (by rw [ti_cl h0]; exact h1)
theorem QI.push {g f : Nat → Int32} {t x v : Int32} (h : QI g f t) (ht : bi t 0 255) (hx : bi x 0 255) (hv : ¬ v = -1) : QI (upd g (Int32.toNatClampNeg t) x) (upd f (Int32.toNatClampNeg x) v) (t + 1) := by
  intro i hi
  have k256 : (256 : Int32).toInt = 256 := by decide
  rw [ti_up (n := 256) (by omega)] at hi
  by_cases e : i = Int32.toNatClampNeg t
  · subst e; rw [pk_us]; exact IS.me hx hv
  · rw [pk_un e]
    have := ti_cl ht.1
    exact (h i (by omega)).put hv
theorem all_upd {f : Nat → Int32} {k : Nat} {v : Int32} {lo hi : Int} (h : ∀ j, bi (f j) lo hi) (hv : bi v lo hi) : ∀ j, bi (upd f k v j) lo hi := by
  intro j
  by_cases e : j = k
  · subst e; rw [pk_us]; exact hv
  · rw [pk_un e]; exact h j
theorem all_fl {f : Nat → Int32} {v : Int32} {n : Nat} {lo hi : Int} (h : ∀ j, bi (f j) lo hi) (hv : bi v lo hi) : ∀ j, bi (fl f v n j) lo hi := by
  intro j
  unfold fl
  split
  · exact hv
  · exact h j
end
section
theorem ixk {m w : Int32} (c : Int32) (k lim : Int) (hc : c.toInt = k) (hk : 0 ≤ k ∧ k ≤ 100) (hm : bi m 0 7) (hw : bi w 0 lim) (hl : lim ≤ 1000) : (c * m + w).toInt = k * m.toInt + w.toInt := by
  have h0 : 0 ≤ k * m.toInt := Int.mul_nonneg hk.1 hm.1
  have h1 : k * m.toInt ≤ 100 * 7 := Int.mul_le_mul hk.2 hm.2 hm.1 (by decide)
  have u := ti_mu (x := c) (y := m) (by rw [hc]; omega)
  have v := ti_ad (x := c * m) (y := w) (by rw [u, hc]; omega)
  rw [v, u, hc]
theorem ix10 {m w : Int32} (hm : bi m 0 7) (hw : bi w 0 9) : (10 * m + w).toInt = 10 * m.toInt + w.toInt := ixk 10 10 9 (by decide) (by decide) hm hw (by decide)
theorem ix16 {m w : Int32} (hm : bi m 0 7) (hw : bi w 0 15) : (16 * m + w).toInt = 16 * m.toInt + w.toInt := ixk 16 16 15 (by decide) (by decide) hm hw (by decide)
theorem ix32 {m w : Int32} (hm : bi m 0 3) (hw : bi w 0 31) : (32 * m + w).toInt = 32 * m.toInt + w.toInt := ixk 32 32 31 (by decide) (by decide) (by omega) hw (by decide)
theorem ix324 {m x y : Int32} (hm : bi m 0 3) (hx : bi x 0 7) (hy : bi y 0 3) : (32 * m + 4 * x + y).toInt = 32 * m.toInt + 4 * x.toInt + y.toInt := by
  have k4 : (4 : Int32).toInt = 4 := by decide
  have u := ti_mu (x := 4) (y := x) (by rw [k4]; omega)
  rw [k4] at u
  have v := ix32 (w := 4 * x) hm (by rw [bi, u]; omega)
  have z := ti_ad (x := 32 * m + 4 * x) (y := y) (by rw [v, u]; omega)
  rw [z, v, u]
theorem and1 (x : Int32) : bi (x &&& 1) 0 1 := by
  obtain ⟨j, h1, h2⟩ := pk_andE x 1 (m := 1) (by decide)
  rw [bi, h2, nI_toInt (by omega)]; omega
theorem shr4 {x : Int32} (h : 0 < x.toInt) : bi (x >>> (4 &&& 31)) 0 (x.toInt - 1) := by
  have e := pk_shr x (4 &&& 31) 4 (by decide)
  rw [bi, e, Int.shiftRight_eq_div_pow]
  have : ((2 ^ 4 : Nat) : Int) = 16 := by decide
  rw [this]; omega
theorem sub_dec {F x : Int32} (h : ¬ x = F) : (F - ((x - F) &&& F)).toBitVec.toNat < (F - x).toBitVec.toNat := by
  have e : (F - ((x - F) &&& F)).toBitVec = F.toBitVec &&& ~~~ (x.toBitVec - F.toBitVec) := by
    have h1 : ((x.toBitVec - F.toBitVec) &&& F.toBitVec) + (F.toBitVec &&& ~~~ (x.toBitVec - F.toBitVec)) = F.toBitVec := by
      rw [BitVec.add_eq_or_of_and_eq_zero]
      · ext i; simp; cases (x.toBitVec - F.toBitVec)[i] <;> simp
      · ext i; simp; intro h1 h2; simp [h1]
    rw [Int32.toBitVec_sub, Int32.toBitVec_and, Int32.toBitVec_sub]
    exact BitVec.sub_eq_iff_eq_add.mpr (by rw [BitVec.add_comm]; exact h1.symm)
  have e2 : ~~~ (x.toBitVec - F.toBitVec) = (F.toBitVec - x.toBitVec) - 1#32 := by
    rw [BitVec.not_eq_neg_add, BitVec.neg_sub, BitVec.add_comm, ← BitVec.sub_eq_add_neg]
  rw [e, e2, BitVec.toNat_and, Int32.toBitVec_sub]
  have hne : ¬ (F.toBitVec - x.toBitVec).toNat = 0 := fun q => h (by
    have q2 : F.toBitVec - x.toBitVec = 0#32 := BitVec.eq_of_toNat_eq (by rw [q]; rfl)
    have q3 := BitVec.sub_eq_iff_eq_add.mp q2
    rw [BitVec.zero_add] at q3
    exact Int32.toBitVec_inj.mp q3.symm)
  have h2 : (F.toBitVec - x.toBitVec - 1#32).toNat = (F.toBitVec - x.toBitVec).toNat - 1 := by
    have hb := (F.toBitVec - x.toBitVec).isLt
    rw [BitVec.toNat_sub]
    show (2 ^ 32 - 1 + (F.toBitVec - x.toBitVec).toNat) % 2 ^ 32 = _
    omega
  rw [h2]
  exact Nat.lt_of_le_of_lt Nat.and_le_right (by omega)
theorem go_dec {F x w q : Int32} (hw : ¬ w = 0) (hq : q = 0 ∨ ¬ x = F) : (if q = 0 then 0 else (F - ((x - F) &&& F)).toBitVec.toNat + 1) < (if w = 0 then 0 else (F - x).toBitVec.toNat + 1) := by
  rw [if_neg hw]
  rcases hq with rfl | h
  · rw [if_pos rfl]; omega
  · have := sub_dec h
    split <;> omega
/-- the reference's makes -/
def MKG (g : Nat → Int32) (mm : Int32) : Prop := ∀ k : Nat, (k : Int) < mm.toInt → bi (g (10 * k + 1)) 1 24
theorem MKG.at {g : Nat → Int32} {mm v : Int32} (h : MKG g mm) (h0 : bi v 0 7) (h1 : v.toInt < mm.toInt) : bi (g (Int32.toNatClampNeg (10 * v + 1))) 1 24 := by
  have k1 : (1 : Int32).toInt = 1 := by decide
  have e := ix10 (m := v) (w := 1) h0 (by rw [bi, k1]; omega)
  have c1 := ti_cl (i := v) h0.1
  have c2 := ti_cl (i := 10 * v + 1) (by rw [e, k1]; omega)
  rw [show Int32.toNatClampNeg (10 * v + 1) = 10 * Int32.toNatClampNeg v + 1 by omega]
  exact h _ (by omega)
theorem MKG.put {g : Nat → Int32} {mm x : Int32} {k : Nat} (h : MKG g mm) (hk : k % 10 ≠ 1) : MKG (upd g k x) mm := fun j hj => by
  rw [pk_un (by omega)]
  exact h j hj
theorem MKG.putI {g : Nat → Int32} {mm x i : Int32} (h : MKG g mm) (h0 : 0 ≤ i.toInt) (hk : i.toInt % 10 ≠ 1) : MKG (upd g (Int32.toNatClampNeg i) x) mm := h.put (by have := ti_cl h0; omega)
theorem MKG.up {g : Nat → Int32} {mm : Int32} (h : MKG g mm) (hm : bi mm 0 7) (h1 : bi (g (10 * Int32.toNatClampNeg mm + 1)) 1 24) : MKG g (mm + 1) := fun j hj => by
  have k8 : (8 : Int32).toInt = 8 := by decide
  rw [ti_up (n := 8) (by omega)] at hj
  have c := ti_cl hm.1
  by_cases e : j = Int32.toNatClampNeg mm
  · subst e; exact h1
  · exact h j (by omega)
theorem MKG.row {g a : Nat → Int32} {mm i : Int32} (h : MKG g mm ∧ (2 ≤ i.toInt → bi (g (10 * Int32.toNatClampNeg mm + 1)) 1 24)) (hm : bi mm 0 7) (hi : bi i 0 9) (ha : bi (a 1) 1 24) : MKG (upd g (Int32.toNatClampNeg (10 * mm + i)) (a (Int32.toNatClampNeg i))) mm ∧ (2 ≤ (i + 1).toInt → bi (upd g (Int32.toNatClampNeg (10 * mm + i)) (a (Int32.toNatClampNeg i)) (10 * Int32.toNatClampNeg mm + 1)) 1 24) := by
  have e := ix10 (m := mm) (w := i) hm hi
  have c1 := ti_cl (i := mm) hm.1
  have c2 := ti_cl (i := i) hi.1
  have c3 := ti_cl (i := 10 * mm + i) (by omega)
  have k10 : (10 : Int32).toInt = 10 := by decide
  have u := ti_up (i := i) (n := 10) (by omega)
  refine ⟨fun j hj => ?_, fun h2 => ?_⟩
  · rw [pk_un (by omega)]
    exact h.1 j hj
  · by_cases q : Int32.toNatClampNeg (10 * mm + i) = 10 * Int32.toNatClampNeg mm + 1
    · rw [q, pk_us, show Int32.toNatClampNeg i = 1 by omega]; exact ha
    · rw [pk_un (fun z => q z.symm)]
      exact h.2 (by omega)
/-- how many sets were reached -/
def cnt (f : Nat → Int32) : Nat → Nat
  | 0 => 0
  | n + 1 => cnt f n + (if f n = -1 then 0 else 1)
theorem cnt_le (f : Nat → Int32) (n : Nat) : cnt f n ≤ n := by
  induction n with
  | zero => exact Nat.le_refl _
  | succ n ih => unfold cnt; split <;> omega
theorem cnt_lt {f : Nat → Int32} {n j : Nat} (hj : j < n) (h : f j = -1) : cnt f n < n := by
  induction n with
  | zero => omega
  | succ n ih =>
    unfold cnt
    by_cases e : j = n
    · subst e; rw [if_pos h]; have := cnt_le f j; omega
    · have := ih (by omega); split <;> omega
theorem cnt_out {f : Nat → Int32} {n j : Nat} {v : Int32} (hj : n ≤ j) : cnt (upd f j v) n = cnt f n := by
  induction n with
  | zero => rfl
  | succ n ih => unfold cnt; rw [ih (by omega), pk_un (by omega)]
theorem cnt_up {f : Nat → Int32} {n j : Nat} {v : Int32} (hj : j < n) (h : f j = -1) (hv : ¬ v = -1) : cnt (upd f j v) n = cnt f n + 1 := by
  induction n with
  | zero => omega
  | succ n ih =>
    unfold cnt
    by_cases e : j = n
    · subst e; rw [cnt_out (Nat.le_refl _), pk_us, if_neg hv, if_pos h]
    · rw [ih (by omega), pk_un (by omega)]; omega
theorem cnt_0 {f : Nat → Int32} {n : Nat} (h : ∀ j, j < n → f j = -1) : cnt f n = 0 := by
  induction n with
  | zero => rfl
  | succ n ih => unfold cnt; rw [ih (fun j hj => h j (by omega)), if_pos (h n (by omega))]
def upn (d : Nat → Nat) (k v : Nat) : Nat → Nat := fun j => if j = k then v else d j
theorem upn_s {d : Nat → Nat} {k v : Nat} : upn d k v k = v := by simp [upn]
theorem upn_n {d : Nat → Nat} {k v j : Nat} (h : j ≠ k) : upn d k v j = d j := by simp [upn, h]
/-- how far a set is from the start -/
def DK (f : Nat → Int32) (x : Int32) (d : Nat → Nat) : Prop := IS f x ∧ d (Int32.toNatClampNeg x) = 0 ∧ ∀ j : Nat, j < 256 → ¬ f j = -1 → nI j = x ∨ (IS f (f j) ∧ d (Int32.toNatClampNeg (f j)) + 1 = d j)
def WI (q f : Nat → Int32) (d : Nat → Nat) (x t : Int32) : Prop := DK f x d ∧ t.toInt = cnt f 256 ∧ ∀ i : Nat, (i : Int) < t.toInt → IS f (q i) ∧ d (Int32.toNatClampNeg (q i)) ≤ i
theorem IS.cl {f : Nat → Int32} {x : Int32} (h : IS f x) : Int32.toNatClampNeg x < 256 ∧ x = nI (Int32.toNatClampNeg x) ∧ ¬ f (Int32.toNatClampNeg x) = -1 := by
  obtain ⟨j, h1, rfl, h2⟩ := h
  rw [nI_clamp (by omega)]
  exact ⟨h1, rfl, h2⟩
theorem DK.nx {f : Nat → Int32} {x y : Int32} {d : Nat → Nat} (h : DK f x d) (hy : IS f y) (hne : ¬ y = x) : IS f (f (Int32.toNatClampNeg y)) ∧ d (Int32.toNatClampNeg (f (Int32.toNatClampNeg y))) + 1 = d (Int32.toNatClampNeg y) := by
  obtain ⟨h1, h2, h3⟩ := hy.cl
  exact (h.2.2 _ h1 h3).resolve_left (fun q => hne (h2.trans q))
theorem WI.start {q f : Nat → Int32} {x : Int32} (hx : bi x 0 255) (hf : ∀ j, j < 256 → f j = -1) : WI (upd q 0 x) (upd f (Int32.toNatClampNeg x) x) (fun _ => 0) x 1 := by
  have hn : ¬ x = -1 := bi_ne hx
  have c := ti_cl hx.1
  have hI : IS (upd f (Int32.toNatClampNeg x) x) x := IS.me hx hn
  have k1 : (1 : Int32).toInt = 1 := by decide
  refine ⟨⟨hI, rfl, fun j hj h => ?_⟩, ?_, fun i hi => ?_⟩
  · by_cases e : j = Int32.toNatClampNeg x
    · subst e; exact Or.inl hI.cl.2.1.symm
    · rw [pk_un e] at h; exact absurd (hf j hj) h
  · rw [cnt_up (by omega) (hf _ (by omega)) hn, cnt_0 hf, k1]; rfl
  · rw [k1] at hi
    rw [show i = 0 by omega, pk_us]
    exact ⟨hI, Nat.le_refl _⟩
theorem WI.at {q f : Nat → Int32} {d : Nat → Nat} {x t i : Int32} (h : WI q f d x t) (h0 : 0 ≤ i.toInt) (h1 : i.toInt < t.toInt) : IS f (q (Int32.toNatClampNeg i)) ∧ (d (Int32.toNatClampNeg (q (Int32.toNatClampNeg i))) : Int) ≤ i.toInt := by
  have c := ti_cl h0
  have := h.2.2 (Int32.toNatClampNeg i) (by omega)
  exact ⟨this.1, by omega⟩
theorem WI.le {q f : Nat → Int32} {d : Nat → Nat} {x t : Int32} (h : WI q f d x t) : bi t 0 256 := by
  have := cnt_le f 256
  have := h.2.1
  show _ ∧ _
  omega
theorem WI.lt {q f : Nat → Int32} {d : Nat → Nat} {x t y : Int32} (h : WI q f d x t) (hy : bi y 0 255) (hz : f (Int32.toNatClampNeg y) = -1) : bi t 0 255 := by
  have c := ti_cl hy.1
  have := cnt_lt (n := 256) (by omega) hz
  have := h.2.1
  show _ ∧ _
  omega
theorem WI.push {q f : Nat → Int32} {d : Nat → Nat} {x t y w i : Int32} (h : WI q f d x t) (hy : bi y 0 255) (hz : f (Int32.toNatClampNeg y) = -1) (hw : IS f w) (hd : (d (Int32.toNatClampNeg w) : Int) ≤ i.toInt) (hi : i.toInt < t.toInt) : WI (upd q (Int32.toNatClampNeg t) y) (upd f (Int32.toNatClampNeg y) w) (upn d (Int32.toNatClampNeg y) (d (Int32.toNatClampNeg w) + 1)) x (t + 1) := by
  have ht := h.lt hy hz
  have k256 : (256 : Int32).toInt = 256 := by decide
  have ut := ti_up (i := t) (n := 256) (by omega)
  have c := ti_cl hy.1
  have ct := ti_cl ht.1
  have hne : ¬ w = -1 := hw.ne
  have out : ∀ {z : Int32}, IS f z → Int32.toNatClampNeg z ≠ Int32.toNatClampNeg y := fun hz2 q2 => hz2.cl.2.2 (by rw [q2]; exact hz)
  obtain ⟨⟨d1, d2, d3⟩, h2, h3⟩ := h
  refine ⟨⟨d1.put hne, ?_, fun j hj hn => ?_⟩, ?_, fun k hk => ?_⟩
  · rw [upn_n (out d1)]; exact d2
  · by_cases e : j = Int32.toNatClampNeg y
    · subst e
      rw [pk_us, upn_s, upn_n (out hw)]
      exact Or.inr ⟨hw.put hne, rfl⟩
    · rw [pk_un e] at hn ⊢
      rcases d3 j hj hn with q1 | ⟨q1, q2⟩
      · exact Or.inl q1
      · rw [upn_n (out q1), upn_n e]; exact Or.inr ⟨q1.put hne, q2⟩
  · rw [cnt_up (by omega) hz hne, ut]; omega
  · by_cases e : k = Int32.toNatClampNeg t
    · subst e
      rw [pk_us, upn_s]
      exact ⟨IS.me hy hne, by omega⟩
    · rw [pk_un e]
      have := h3 k (by omega)
      rw [upn_n (out this.1)]
      exact ⟨this.1.put hne, this.2⟩
theorem all_upn {f : Nat → Int32} {k n : Nat} {v : Int32} {lo hi : Int} (h : ∀ j, j < n → bi (f j) lo hi) (hv : bi v lo hi) : ∀ j, j < n → bi (upd f k v j) lo hi := by
  intro j hj
  by_cases e : j = k
  · subst e; rw [pk_us]; exact hv
  · rw [pk_un e]; exact h j hj
theorem fr_up {g : Nat → Int32} {i : Int32} (h : ∀ j : Nat, (j : Int) < i.toInt → g j = -1) (h0 : bi i 0 255) : ∀ j : Nat, (j : Int) < (i + 1).toInt → upd g (Int32.toNatClampNeg i) (-1) j = -1 := by
  intro j hj
  have k256 : (256 : Int32).toInt = 256 := by decide
  rw [ti_up (n := 256) (by omega)] at hj
  have c := ti_cl h0.1
  by_cases e : j = Int32.toNatClampNeg i
  · subst e; rw [pk_us]
  · rw [pk_un e]; exact h j (by omega)
end
