section
-- ===== PART A: goes FIRST, ahead of the names: the tables' words, and 'selects' of the private methods out of them =====
/-- a private method of a class that the tables say can be made, by its rows of tables_1 -/
def lw_okq (q : MethodName × Nat) : Prop := (q.1.cls ≠ "java/lang/invoke/MethodHandle" ∧ q.1.cls ≠ "java/lang/invoke/VarHandle") ∧ Cond.instantiable q.1.cls q.2 ∈ tables_1 ∧ Cond.privateMethod q.1 ∈ tables_1 ∧ Cond.instanceMethod q.1 ∈ tables_1
theorem lw_p0 : lw_okq (⟨"SwingUnits$Orders", "write", "(IIII)V"⟩, 4) := ⟨⟨by decide +kernel, by decide +kernel⟩, List.mem_of_getElem? (i := 70) (by decide +kernel), List.mem_of_getElem? (i := 321) (by decide +kernel), List.mem_of_getElem? (i := 322) (by decide +kernel)⟩
theorem lw_p1 : lw_okq (⟨"SwingUnits$Trust", "dayOf", "(I)I"⟩, 11) := ⟨⟨by decide +kernel, by decide +kernel⟩, List.mem_of_getElem? (i := 20) (by decide +kernel), List.mem_of_getElem? (i := 358) (by decide +kernel), List.mem_of_getElem? (i := 359) (by decide +kernel)⟩
theorem lw_p2 : lw_okq (⟨"SwingUnits$Trust", "freeUnits", "(I)J"⟩, 11) := ⟨⟨by decide +kernel, by decide +kernel⟩, List.mem_of_getElem? (i := 20) (by decide +kernel), List.mem_of_getElem? (i := 375) (by decide +kernel), List.mem_of_getElem? (i := 376) (by decide +kernel)⟩
theorem lw_p3 : lw_okq (⟨"SwingUnits$DayEnd", "takePrice", "(LSwingUnits$Trust;)V"⟩, 7) := ⟨⟨by decide +kernel, by decide +kernel⟩, List.mem_of_getElem? (i := 192) (by decide +kernel), List.mem_of_getElem? (i := 426) (by decide +kernel), List.mem_of_getElem? (i := 427) (by decide +kernel)⟩
theorem lw_p4 : lw_okq (⟨"SwingUnits$DayEnd", "shareOut", "(LSwingUnits$Orders;I)V"⟩, 7) := ⟨⟨by decide +kernel, by decide +kernel⟩, List.mem_of_getElem? (i := 192) (by decide +kernel), List.mem_of_getElem? (i := 459) (by decide +kernel), List.mem_of_getElem? (i := 460) (by decide +kernel)⟩
theorem lw_p5 : lw_okq (⟨"SwingUnits$DayEnd", "shareOutDay", "(LSwingUnits$Orders;IIJJ)V"⟩, 7) := ⟨⟨by decide +kernel, by decide +kernel⟩, List.mem_of_getElem? (i := 192) (by decide +kernel), List.mem_of_getElem? (i := 463) (by decide +kernel), List.mem_of_getElem? (i := 464) (by decide +kernel)⟩
theorem lw_p6 : lw_okq (⟨"SwingUnits$DayEnd", "payLeavers", "(LSwingUnits$Trust;I)V"⟩, 7) := ⟨⟨by decide +kernel, by decide +kernel⟩, List.mem_of_getElem? (i := 192) (by decide +kernel), List.mem_of_getElem? (i := 467) (by decide +kernel), List.mem_of_getElem? (i := 468) (by decide +kernel)⟩
theorem lw_p7 : lw_okq (⟨"SwingUnits$DayEnd", "payLeaver", "(LSwingUnits$Trust;I)Z"⟩, 7) := ⟨⟨by decide +kernel, by decide +kernel⟩, List.mem_of_getElem? (i := 192) (by decide +kernel), List.mem_of_getElem? (i := 471) (by decide +kernel), List.mem_of_getElem? (i := 472) (by decide +kernel)⟩
theorem lw_p8 : lw_okq (⟨"SwingUnits$DayEnd", "doBuyers", "(LSwingUnits$Trust;I)V"⟩, 7) := ⟨⟨by decide +kernel, by decide +kernel⟩, List.mem_of_getElem? (i := 192) (by decide +kernel), List.mem_of_getElem? (i := 489) (by decide +kernel), List.mem_of_getElem? (i := 490) (by decide +kernel)⟩
theorem lw_p9 : lw_okq (⟨"SwingUnits$Pad", "readDeal", "()Z"⟩, 7) := ⟨⟨by decide +kernel, by decide +kernel⟩, List.mem_of_getElem? (i := 224) (by decide +kernel), List.mem_of_getElem? (i := 616) (by decide +kernel), List.mem_of_getElem? (i := 617) (by decide +kernel)⟩
theorem lw_p10 : lw_okq (⟨"SwingUnits$Pad", "digitAt", "()I"⟩, 7) := ⟨⟨by decide +kernel, by decide +kernel⟩, List.mem_of_getElem? (i := 224) (by decide +kernel), List.mem_of_getElem? (i := 620) (by decide +kernel), List.mem_of_getElem? (i := 621) (by decide +kernel)⟩
theorem lw_p11 : lw_okq (⟨"SwingUnits$Pad", "readNumber", "(I)I"⟩, 7) := ⟨⟨by decide +kernel, by decide +kernel⟩, List.mem_of_getElem? (i := 224) (by decide +kernel), List.mem_of_getElem? (i := 630) (by decide +kernel), List.mem_of_getElem? (i := 631) (by decide +kernel)⟩
theorem lw_p12 : lw_okq (⟨"SwingUnits", "carryOutOrders", "()I"⟩, 7) := ⟨⟨by decide +kernel, by decide +kernel⟩, List.mem_of_getElem? (i := 12) (by decide +kernel), List.mem_of_getElem? (i := 638) (by decide +kernel), List.mem_of_getElem? (i := 639) (by decide +kernel)⟩
theorem lw_p13 : lw_okq (⟨"SwingUnits", "carryOutOrder", "()I"⟩, 7) := ⟨⟨by decide +kernel, by decide +kernel⟩, List.mem_of_getElem? (i := 12) (by decide +kernel), List.mem_of_getElem? (i := 644) (by decide +kernel), List.mem_of_getElem? (i := 645) (by decide +kernel)⟩
theorem lw_p14 : lw_okq (⟨"SwingUnitsModel", "keep", "()V"⟩, 15) := ⟨⟨by decide +kernel, by decide +kernel⟩, List.mem_of_getElem? (i := 665) (by decide +kernel), List.mem_of_getElem? (i := 732) (by decide +kernel), List.mem_of_getElem? (i := 733) (by decide +kernel)⟩
theorem lw_p15 : lw_okq (⟨"SwingUnitsModel", "tryBuy", "(IIIZ)I"⟩, 15) := ⟨⟨by decide +kernel, by decide +kernel⟩, List.mem_of_getElem? (i := 665) (by decide +kernel), List.mem_of_getElem? (i := 740) (by decide +kernel), List.mem_of_getElem? (i := 741) (by decide +kernel)⟩
def lw_privs_1 : List (MethodName × Nat) := [(⟨"SwingUnits$Orders", "write", "(IIII)V"⟩, 4), (⟨"SwingUnits$Trust", "dayOf", "(I)I"⟩, 11), (⟨"SwingUnits$Trust", "freeUnits", "(I)J"⟩, 11), (⟨"SwingUnits$DayEnd", "takePrice", "(LSwingUnits$Trust;)V"⟩, 7), (⟨"SwingUnits$DayEnd", "shareOut", "(LSwingUnits$Orders;I)V"⟩, 7), (⟨"SwingUnits$DayEnd", "shareOutDay", "(LSwingUnits$Orders;IIJJ)V"⟩, 7), (⟨"SwingUnits$DayEnd", "payLeavers", "(LSwingUnits$Trust;I)V"⟩, 7), (⟨"SwingUnits$DayEnd", "payLeaver", "(LSwingUnits$Trust;I)Z"⟩, 7), (⟨"SwingUnits$DayEnd", "doBuyers", "(LSwingUnits$Trust;I)V"⟩, 7), (⟨"SwingUnits$Pad", "readDeal", "()Z"⟩, 7), (⟨"SwingUnits$Pad", "digitAt", "()I"⟩, 7), (⟨"SwingUnits$Pad", "readNumber", "(I)I"⟩, 7), (⟨"SwingUnits", "carryOutOrders", "()I"⟩, 7), (⟨"SwingUnits", "carryOutOrder", "()I"⟩, 7), (⟨"SwingUnitsModel", "keep", "()V"⟩, 15), (⟨"SwingUnitsModel", "tryBuy", "(IIIZ)I"⟩, 15)]
theorem lw_r1 : ∀ q ∈ lw_privs_1, lw_okq q := List.forall_mem_cons.mpr ⟨lw_p0, List.forall_mem_cons.mpr ⟨lw_p1, List.forall_mem_cons.mpr ⟨lw_p2, List.forall_mem_cons.mpr ⟨lw_p3, List.forall_mem_cons.mpr ⟨lw_p4, List.forall_mem_cons.mpr ⟨lw_p5, List.forall_mem_cons.mpr ⟨lw_p6, List.forall_mem_cons.mpr ⟨lw_p7, List.forall_mem_cons.mpr ⟨lw_p8, List.forall_mem_cons.mpr ⟨lw_p9, List.forall_mem_cons.mpr ⟨lw_p10, List.forall_mem_cons.mpr ⟨lw_p11, List.forall_mem_cons.mpr ⟨lw_p12, List.forall_mem_cons.mpr ⟨lw_p13, List.forall_mem_cons.mpr ⟨lw_p14, List.forall_mem_cons.mpr ⟨lw_p15, fun _ h => absurd h List.not_mem_nil⟩⟩⟩⟩⟩⟩⟩⟩⟩⟩⟩⟩⟩⟩⟩⟩
theorem lw_p16 : lw_okq (⟨"SwingUnitsModel", "keepIf", "(Z)V"⟩, 15) := ⟨⟨by decide +kernel, by decide +kernel⟩, List.mem_of_getElem? (i := 665) (by decide +kernel), List.mem_of_getElem? (i := 750) (by decide +kernel), List.mem_of_getElem? (i := 751) (by decide +kernel)⟩
theorem lw_p17 : lw_okq (⟨"SwingUnitsModel", "putIn", "(IIJI)J"⟩, 15) := ⟨⟨by decide +kernel, by decide +kernel⟩, List.mem_of_getElem? (i := 665) (by decide +kernel), List.mem_of_getElem? (i := 754) (by decide +kernel), List.mem_of_getElem? (i := 755) (by decide +kernel)⟩
theorem lw_p18 : lw_okq (⟨"SwingUnitsModel", "ofOrder", "(III)J"⟩, 15) := ⟨⟨by decide +kernel, by decide +kernel⟩, List.mem_of_getElem? (i := 665) (by decide +kernel), List.mem_of_getElem? (i := 758) (by decide +kernel), List.mem_of_getElem? (i := 759) (by decide +kernel)⟩
theorem lw_p19 : lw_okq (⟨"SwingUnitsModel", "tryLeave", "(IIIZ)I"⟩, 15) := ⟨⟨by decide +kernel, by decide +kernel⟩, List.mem_of_getElem? (i := 665) (by decide +kernel), List.mem_of_getElem? (i := 766) (by decide +kernel), List.mem_of_getElem? (i := 767) (by decide +kernel)⟩
theorem lw_p20 : lw_okq (⟨"SwingUnitsModel", "units", "(I)J"⟩, 15) := ⟨⟨by decide +kernel, by decide +kernel⟩, List.mem_of_getElem? (i := 665) (by decide +kernel), List.mem_of_getElem? (i := 770) (by decide +kernel), List.mem_of_getElem? (i := 771) (by decide +kernel)⟩
theorem lw_p21 : lw_okq (⟨"SwingUnitsModel", "of", "(II)J"⟩, 15) := ⟨⟨by decide +kernel, by decide +kernel⟩, List.mem_of_getElem? (i := 665) (by decide +kernel), List.mem_of_getElem? (i := 774) (by decide +kernel), List.mem_of_getElem? (i := 775) (by decide +kernel)⟩
theorem lw_p22 : lw_okq (⟨"SwingUnitsModel", "bound", "(I)J"⟩, 15) := ⟨⟨by decide +kernel, by decide +kernel⟩, List.mem_of_getElem? (i := 665) (by decide +kernel), List.mem_of_getElem? (i := 778) (by decide +kernel), List.mem_of_getElem? (i := 779) (by decide +kernel)⟩
theorem lw_p23 : lw_okq (⟨"SwingUnitsModel", "issue", "()J"⟩, 15) := ⟨⟨by decide +kernel, by decide +kernel⟩, List.mem_of_getElem? (i := 665) (by decide +kernel), List.mem_of_getElem? (i := 786) (by decide +kernel), List.mem_of_getElem? (i := 787) (by decide +kernel)⟩
theorem lw_p24 : lw_okq (⟨"SwingUnitsModel", "incomeOfUnit", "()J"⟩, 15) := ⟨⟨by decide +kernel, by decide +kernel⟩, List.mem_of_getElem? (i := 665) (by decide +kernel), List.mem_of_getElem? (i := 790) (by decide +kernel), List.mem_of_getElem? (i := 791) (by decide +kernel)⟩
theorem lw_p25 : lw_okq (⟨"SwingUnitsModel", "goUnits", "(IJJ)V"⟩, 15) := ⟨⟨by decide +kernel, by decide +kernel⟩, List.mem_of_getElem? (i := 665) (by decide +kernel), List.mem_of_getElem? (i := 794) (by decide +kernel), List.mem_of_getElem? (i := 795) (by decide +kernel)⟩
theorem lw_p26 : lw_okq (⟨"SwingUnitsModel", "allNew", "()J"⟩, 15) := ⟨⟨by decide +kernel, by decide +kernel⟩, List.mem_of_getElem? (i := 665) (by decide +kernel), List.mem_of_getElem? (i := 798) (by decide +kernel), List.mem_of_getElem? (i := 799) (by decide +kernel)⟩
theorem lw_p27 : lw_okq (⟨"SwingUnitsModel", "add", "(IIJ)V"⟩, 15) := ⟨⟨by decide +kernel, by decide +kernel⟩, List.mem_of_getElem? (i := 665) (by decide +kernel), List.mem_of_getElem? (i := 802) (by decide +kernel), List.mem_of_getElem? (i := 803) (by decide +kernel)⟩
theorem lw_p28 : lw_okq (⟨"SwingUnitsModel", "holdPool", "()V"⟩, 15) := ⟨⟨by decide +kernel, by decide +kernel⟩, List.mem_of_getElem? (i := 665) (by decide +kernel), List.mem_of_getElem? (i := 806) (by decide +kernel), List.mem_of_getElem? (i := 807) (by decide +kernel)⟩
theorem lw_p29 : lw_okq (⟨"SwingUnitsModel", "tryEndDay", "(Z)I"⟩, 15) := ⟨⟨by decide +kernel, by decide +kernel⟩, List.mem_of_getElem? (i := 665) (by decide +kernel), List.mem_of_getElem? (i := 814) (by decide +kernel), List.mem_of_getElem? (i := 815) (by decide +kernel)⟩
theorem lw_p30 : lw_okq (⟨"SwingUnitsModel", "endIt", "()V"⟩, 15) := ⟨⟨by decide +kernel, by decide +kernel⟩, List.mem_of_getElem? (i := 665) (by decide +kernel), List.mem_of_getElem? (i := 818) (by decide +kernel), List.mem_of_getElem? (i := 819) (by decide +kernel)⟩
theorem lw_p31 : lw_okq (⟨"SwingUnitsModel", "priceNow", "()J"⟩, 15) := ⟨⟨by decide +kernel, by decide +kernel⟩, List.mem_of_getElem? (i := 665) (by decide +kernel), List.mem_of_getElem? (i := 822) (by decide +kernel), List.mem_of_getElem? (i := 823) (by decide +kernel)⟩
def lw_privs_2 : List (MethodName × Nat) := [(⟨"SwingUnitsModel", "keepIf", "(Z)V"⟩, 15), (⟨"SwingUnitsModel", "putIn", "(IIJI)J"⟩, 15), (⟨"SwingUnitsModel", "ofOrder", "(III)J"⟩, 15), (⟨"SwingUnitsModel", "tryLeave", "(IIIZ)I"⟩, 15), (⟨"SwingUnitsModel", "units", "(I)J"⟩, 15), (⟨"SwingUnitsModel", "of", "(II)J"⟩, 15), (⟨"SwingUnitsModel", "bound", "(I)J"⟩, 15), (⟨"SwingUnitsModel", "issue", "()J"⟩, 15), (⟨"SwingUnitsModel", "incomeOfUnit", "()J"⟩, 15), (⟨"SwingUnitsModel", "goUnits", "(IJJ)V"⟩, 15), (⟨"SwingUnitsModel", "allNew", "()J"⟩, 15), (⟨"SwingUnitsModel", "add", "(IIJ)V"⟩, 15), (⟨"SwingUnitsModel", "holdPool", "()V"⟩, 15), (⟨"SwingUnitsModel", "tryEndDay", "(Z)I"⟩, 15), (⟨"SwingUnitsModel", "endIt", "()V"⟩, 15), (⟨"SwingUnitsModel", "priceNow", "()J"⟩, 15)]
theorem lw_r2 : ∀ q ∈ lw_privs_2, lw_okq q := List.forall_mem_cons.mpr ⟨lw_p16, List.forall_mem_cons.mpr ⟨lw_p17, List.forall_mem_cons.mpr ⟨lw_p18, List.forall_mem_cons.mpr ⟨lw_p19, List.forall_mem_cons.mpr ⟨lw_p20, List.forall_mem_cons.mpr ⟨lw_p21, List.forall_mem_cons.mpr ⟨lw_p22, List.forall_mem_cons.mpr ⟨lw_p23, List.forall_mem_cons.mpr ⟨lw_p24, List.forall_mem_cons.mpr ⟨lw_p25, List.forall_mem_cons.mpr ⟨lw_p26, List.forall_mem_cons.mpr ⟨lw_p27, List.forall_mem_cons.mpr ⟨lw_p28, List.forall_mem_cons.mpr ⟨lw_p29, List.forall_mem_cons.mpr ⟨lw_p30, List.forall_mem_cons.mpr ⟨lw_p31, fun _ h => absurd h List.not_mem_nil⟩⟩⟩⟩⟩⟩⟩⟩⟩⟩⟩⟩⟩⟩⟩⟩
theorem lw_p32 : lw_okq (⟨"SwingUnitsModel", "middle", "()J"⟩, 15) := ⟨⟨by decide +kernel, by decide +kernel⟩, List.mem_of_getElem? (i := 665) (by decide +kernel), List.mem_of_getElem? (i := 826) (by decide +kernel), List.mem_of_getElem? (i := 827) (by decide +kernel)⟩
theorem lw_p33 : lw_okq (⟨"SwingUnitsModel", "value", "()J"⟩, 15) := ⟨⟨by decide +kernel, by decide +kernel⟩, List.mem_of_getElem? (i := 665) (by decide +kernel), List.mem_of_getElem? (i := 831) (by decide +kernel), List.mem_of_getElem? (i := 832) (by decide +kernel)⟩
theorem lw_p34 : lw_okq (⟨"SwingUnitsModel", "swing", "()I"⟩, 15) := ⟨⟨by decide +kernel, by decide +kernel⟩, List.mem_of_getElem? (i := 665) (by decide +kernel), List.mem_of_getElem? (i := 835) (by decide +kernel), List.mem_of_getElem? (i := 836) (by decide +kernel)⟩
theorem lw_p35 : lw_okq (⟨"SwingUnitsModel", "sumOf", "(IJ)J"⟩, 15) := ⟨⟨by decide +kernel, by decide +kernel⟩, List.mem_of_getElem? (i := 665) (by decide +kernel), List.mem_of_getElem? (i := 839) (by decide +kernel), List.mem_of_getElem? (i := 840) (by decide +kernel)⟩
theorem lw_p36 : lw_okq (⟨"SwingUnitsModel", "mayLeave", "()J"⟩, 15) := ⟨⟨by decide +kernel, by decide +kernel⟩, List.mem_of_getElem? (i := 665) (by decide +kernel), List.mem_of_getElem? (i := 843) (by decide +kernel), List.mem_of_getElem? (i := 844) (by decide +kernel)⟩
theorem lw_p37 : lw_okq (⟨"SwingUnitsModel", "shareOut", "(J)V"⟩, 15) := ⟨⟨by decide +kernel, by decide +kernel⟩, List.mem_of_getElem? (i := 665) (by decide +kernel), List.mem_of_getElem? (i := 847) (by decide +kernel), List.mem_of_getElem? (i := 848) (by decide +kernel)⟩
theorem lw_p38 : lw_okq (⟨"SwingUnitsModel", "shareDay", "(IIJ)J"⟩, 15) := ⟨⟨by decide +kernel, by decide +kernel⟩, List.mem_of_getElem? (i := 665) (by decide +kernel), List.mem_of_getElem? (i := 851) (by decide +kernel), List.mem_of_getElem? (i := 852) (by decide +kernel)⟩
theorem lw_p39 : lw_okq (⟨"SwingUnitsModel", "payThem", "(JJ)V"⟩, 15) := ⟨⟨by decide +kernel, by decide +kernel⟩, List.mem_of_getElem? (i := 665) (by decide +kernel), List.mem_of_getElem? (i := 855) (by decide +kernel), List.mem_of_getElem? (i := 856) (by decide +kernel)⟩
theorem lw_p40 : lw_okq (⟨"SwingUnitsModel", "sellFor", "(J)V"⟩, 15) := ⟨⟨by decide +kernel, by decide +kernel⟩, List.mem_of_getElem? (i := 665) (by decide +kernel), List.mem_of_getElem? (i := 859) (by decide +kernel), List.mem_of_getElem? (i := 860) (by decide +kernel)⟩
theorem lw_p41 : lw_okq (⟨"SwingUnitsModel", "cost", "()J"⟩, 15) := ⟨⟨by decide +kernel, by decide +kernel⟩, List.mem_of_getElem? (i := 665) (by decide +kernel), List.mem_of_getElem? (i := 863) (by decide +kernel), List.mem_of_getElem? (i := 864) (by decide +kernel)⟩
theorem lw_p42 : lw_okq (⟨"SwingUnitsModel", "takeOut", "(II)V"⟩, 15) := ⟨⟨by decide +kernel, by decide +kernel⟩, List.mem_of_getElem? (i := 665) (by decide +kernel), List.mem_of_getElem? (i := 868) (by decide +kernel), List.mem_of_getElem? (i := 869) (by decide +kernel)⟩
theorem lw_p43 : lw_okq (⟨"SwingUnitsModel", "buyFor", "(IJJJ)V"⟩, 15) := ⟨⟨by decide +kernel, by decide +kernel⟩, List.mem_of_getElem? (i := 665) (by decide +kernel), List.mem_of_getElem? (i := 873) (by decide +kernel), List.mem_of_getElem? (i := 874) (by decide +kernel)⟩
theorem lw_p44 : lw_okq (⟨"SwingUnitsModel", "makeUnits", "(IJJ)V"⟩, 15) := ⟨⟨by decide +kernel, by decide +kernel⟩, List.mem_of_getElem? (i := 665) (by decide +kernel), List.mem_of_getElem? (i := 878) (by decide +kernel), List.mem_of_getElem? (i := 879) (by decide +kernel)⟩
theorem lw_p45 : lw_okq (⟨"SwingUnitsModel", "tryQuote", "(IZ)I"⟩, 15) := ⟨⟨by decide +kernel, by decide +kernel⟩, List.mem_of_getElem? (i := 665) (by decide +kernel), List.mem_of_getElem? (i := 886) (by decide +kernel), List.mem_of_getElem? (i := 887) (by decide +kernel)⟩
theorem lw_p46 : lw_okq (⟨"SwingUnitsModel", "tryIncome", "(IZ)I"⟩, 15) := ⟨⟨by decide +kernel, by decide +kernel⟩, List.mem_of_getElem? (i := 665) (by decide +kernel), List.mem_of_getElem? (i := 900) (by decide +kernel), List.mem_of_getElem? (i := 901) (by decide +kernel)⟩
theorem lw_p47 : lw_okq (⟨"SwingUnitsModel", "tryPay", "(Z)I"⟩, 15) := ⟨⟨by decide +kernel, by decide +kernel⟩, List.mem_of_getElem? (i := 665) (by decide +kernel), List.mem_of_getElem? (i := 908) (by decide +kernel), List.mem_of_getElem? (i := 909) (by decide +kernel)⟩
def lw_privs_3 : List (MethodName × Nat) := [(⟨"SwingUnitsModel", "middle", "()J"⟩, 15), (⟨"SwingUnitsModel", "value", "()J"⟩, 15), (⟨"SwingUnitsModel", "swing", "()I"⟩, 15), (⟨"SwingUnitsModel", "sumOf", "(IJ)J"⟩, 15), (⟨"SwingUnitsModel", "mayLeave", "()J"⟩, 15), (⟨"SwingUnitsModel", "shareOut", "(J)V"⟩, 15), (⟨"SwingUnitsModel", "shareDay", "(IIJ)J"⟩, 15), (⟨"SwingUnitsModel", "payThem", "(JJ)V"⟩, 15), (⟨"SwingUnitsModel", "sellFor", "(J)V"⟩, 15), (⟨"SwingUnitsModel", "cost", "()J"⟩, 15), (⟨"SwingUnitsModel", "takeOut", "(II)V"⟩, 15), (⟨"SwingUnitsModel", "buyFor", "(IJJJ)V"⟩, 15), (⟨"SwingUnitsModel", "makeUnits", "(IJJ)V"⟩, 15), (⟨"SwingUnitsModel", "tryQuote", "(IZ)I"⟩, 15), (⟨"SwingUnitsModel", "tryIncome", "(IZ)I"⟩, 15), (⟨"SwingUnitsModel", "tryPay", "(Z)I"⟩, 15)]
theorem lw_r3 : ∀ q ∈ lw_privs_3, lw_okq q := List.forall_mem_cons.mpr ⟨lw_p32, List.forall_mem_cons.mpr ⟨lw_p33, List.forall_mem_cons.mpr ⟨lw_p34, List.forall_mem_cons.mpr ⟨lw_p35, List.forall_mem_cons.mpr ⟨lw_p36, List.forall_mem_cons.mpr ⟨lw_p37, List.forall_mem_cons.mpr ⟨lw_p38, List.forall_mem_cons.mpr ⟨lw_p39, List.forall_mem_cons.mpr ⟨lw_p40, List.forall_mem_cons.mpr ⟨lw_p41, List.forall_mem_cons.mpr ⟨lw_p42, List.forall_mem_cons.mpr ⟨lw_p43, List.forall_mem_cons.mpr ⟨lw_p44, List.forall_mem_cons.mpr ⟨lw_p45, List.forall_mem_cons.mpr ⟨lw_p46, List.forall_mem_cons.mpr ⟨lw_p47, fun _ h => absurd h List.not_mem_nil⟩⟩⟩⟩⟩⟩⟩⟩⟩⟩⟩⟩⟩⟩⟩⟩
theorem lw_p48 : lw_okq (⟨"SwingUnitsModel", "layAside", "()V"⟩, 15) := ⟨⟨by decide +kernel, by decide +kernel⟩, List.mem_of_getElem? (i := 665) (by decide +kernel), List.mem_of_getElem? (i := 938) (by decide +kernel), List.mem_of_getElem? (i := 939) (by decide +kernel)⟩
theorem lw_p49 : lw_okq (⟨"SwingUnitsModel", "layBack", "()V"⟩, 15) := ⟨⟨by decide +kernel, by decide +kernel⟩, List.mem_of_getElem? (i := 665) (by decide +kernel), List.mem_of_getElem? (i := 942) (by decide +kernel), List.mem_of_getElem? (i := 943) (by decide +kernel)⟩
theorem lw_p50 : lw_okq (⟨"SwingUnitsModel", "takeOrder", "()V"⟩, 15) := ⟨⟨by decide +kernel, by decide +kernel⟩, List.mem_of_getElem? (i := 665) (by decide +kernel), List.mem_of_getElem? (i := 965) (by decide +kernel), List.mem_of_getElem? (i := 966) (by decide +kernel)⟩
theorem lw_p51 : lw_okq (⟨"SwingUnitsModel", "next", "()I"⟩, 15) := ⟨⟨by decide +kernel, by decide +kernel⟩, List.mem_of_getElem? (i := 665) (by decide +kernel), List.mem_of_getElem? (i := 969) (by decide +kernel), List.mem_of_getElem? (i := 970) (by decide +kernel)⟩
theorem lw_p52 : lw_okq (⟨"SwingUnitsModel", "takeOrdering", "()V"⟩, 15) := ⟨⟨by decide +kernel, by decide +kernel⟩, List.mem_of_getElem? (i := 665) (by decide +kernel), List.mem_of_getElem? (i := 973) (by decide +kernel), List.mem_of_getElem? (i := 974) (by decide +kernel)⟩
theorem lw_p53 : lw_okq (⟨"SwingUnitsModel", "takeHolder", "()V"⟩, 15) := ⟨⟨by decide +kernel, by decide +kernel⟩, List.mem_of_getElem? (i := 665) (by decide +kernel), List.mem_of_getElem? (i := 977) (by decide +kernel), List.mem_of_getElem? (i := 978) (by decide +kernel)⟩
theorem lw_p54 : lw_okq (⟨"SwingUnitsModel", "takeSign", "(I)V"⟩, 15) := ⟨⟨by decide +kernel, by decide +kernel⟩, List.mem_of_getElem? (i := 665) (by decide +kernel), List.mem_of_getElem? (i := 983) (by decide +kernel), List.mem_of_getElem? (i := 984) (by decide +kernel)⟩
theorem lw_p55 : lw_okq (⟨"SwingUnitsModel", "takeNumber", "(II)V"⟩, 15) := ⟨⟨by decide +kernel, by decide +kernel⟩, List.mem_of_getElem? (i := 665) (by decide +kernel), List.mem_of_getElem? (i := 988) (by decide +kernel), List.mem_of_getElem? (i := 989) (by decide +kernel)⟩
theorem lw_p56 : lw_okq (⟨"SwingUnitsModel", "carry", "(I)I"⟩, 15) := ⟨⟨by decide +kernel, by decide +kernel⟩, List.mem_of_getElem? (i := 665) (by decide +kernel), List.mem_of_getElem? (i := 998) (by decide +kernel), List.mem_of_getElem? (i := 999) (by decide +kernel)⟩
def lw_privs_4 : List (MethodName × Nat) := [(⟨"SwingUnitsModel", "layAside", "()V"⟩, 15), (⟨"SwingUnitsModel", "layBack", "()V"⟩, 15), (⟨"SwingUnitsModel", "takeOrder", "()V"⟩, 15), (⟨"SwingUnitsModel", "next", "()I"⟩, 15), (⟨"SwingUnitsModel", "takeOrdering", "()V"⟩, 15), (⟨"SwingUnitsModel", "takeHolder", "()V"⟩, 15), (⟨"SwingUnitsModel", "takeSign", "(I)V"⟩, 15), (⟨"SwingUnitsModel", "takeNumber", "(II)V"⟩, 15), (⟨"SwingUnitsModel", "carry", "(I)I"⟩, 15)]
theorem lw_r4 : ∀ q ∈ lw_privs_4, lw_okq q := List.forall_mem_cons.mpr ⟨lw_p48, List.forall_mem_cons.mpr ⟨lw_p49, List.forall_mem_cons.mpr ⟨lw_p50, List.forall_mem_cons.mpr ⟨lw_p51, List.forall_mem_cons.mpr ⟨lw_p52, List.forall_mem_cons.mpr ⟨lw_p53, List.forall_mem_cons.mpr ⟨lw_p54, List.forall_mem_cons.mpr ⟨lw_p55, List.forall_mem_cons.mpr ⟨lw_p56, fun _ h => absurd h List.not_mem_nil⟩⟩⟩⟩⟩⟩⟩⟩⟩
def lw_privs : List (MethodName × Nat) := lw_privs_1 ++ (lw_privs_2 ++ (lw_privs_3 ++ (lw_privs_4)))
def lw_tbl : List Cond := k2_sels lw_privs ++ tables_1
theorem lw_privs_ok : ∀ q ∈ lw_privs, lw_okq q := by
  show ∀ q ∈ lw_privs_1 ++ (lw_privs_2 ++ (lw_privs_3 ++ (lw_privs_4))), lw_okq q
  exact List.forall_mem_append.mpr ⟨lw_r1, List.forall_mem_append.mpr ⟨lw_r2, List.forall_mem_append.mpr ⟨lw_r3, lw_r4⟩⟩⟩
-- ===== end of PART A; then your names; then what follows =====
end
section
def RX0 : String := "SwingUnits$DayEnd"
def TX0 : u_T := fun k => match k with
  | 0 => ("SwingUnits$DayEnd", "middle", "J", false)
  | 1 => ("SwingUnits$DayEnd", "unitIncome", "J", false)
  | 2 => ("SwingUnits$DayEnd", "price", "J", false)
  | 3 => ("SwingUnits$DayEnd", "wanted", "J", false)
  | 4 => ("SwingUnits$DayEnd", "allowed", "J", false)
  | 5 => ("SwingUnits$DayEnd", "swung", "I", false)
  | _ => ("SwingUnits$DayEnd", "shares", "[J", true)
def tyX0 : Nat → FieldType := fun k => match k with
  | 0 => .long
  | 1 => .long
  | 2 => .long
  | 3 => .long
  | 4 => .long
  | 5 => .int
  | _ => .array .long
abbrev wsX00 : List Cond := u_ws RX0 TX0 7
theorem nmX0 : ∀ a, a < 7 → ∀ b, b < 7 → a ≠ b → (TX0 a).2.1 ≠ (TX0 b).2.1 := by decide +kernel
theorem tyX0_ok : ∀ k, k < 7 → parseFieldDescriptor (TX0 k).2.2.1 = some (tyX0 k) := by decide +kernel
abbrev cX0_init : ByteArray := prog_2_method_1_code
def yX0_init : MethodName := ⟨RX0, "<init>", "()V"⟩
abbrev cX0_priceOf : ByteArray := prog_2_method_2_code
def yX0_priceOf : MethodName := ⟨RX0, "priceOf", "(LSwingUnits$Trust;)J"⟩
abbrev cX0_run : ByteArray := prog_2_method_3_code
def yX0_run : MethodName := ⟨RX0, "run", "(LSwingUnits$Trust;)I"⟩
abbrev cX0_takePrice : ByteArray := prog_2_method_4_code
def yX0_takePrice : MethodName := ⟨RX0, "takePrice", "(LSwingUnits$Trust;)V"⟩
abbrev cX0_direction : ByteArray := prog_2_method_5_code
def yX0_direction : MethodName := ⟨RX0, "direction", "(JJ)I"⟩
abbrev cX0_shareOut : ByteArray := prog_2_method_6_code
def yX0_shareOut : MethodName := ⟨RX0, "shareOut", "(LSwingUnits$Orders;I)V"⟩
abbrev cX0_shareOutDay : ByteArray := prog_2_method_7_code
def yX0_shareOutDay : MethodName := ⟨RX0, "shareOutDay", "(LSwingUnits$Orders;IIJJ)V"⟩
abbrev cX0_payLeavers : ByteArray := prog_2_method_8_code
def yX0_payLeavers : MethodName := ⟨RX0, "payLeavers", "(LSwingUnits$Trust;I)V"⟩
abbrev cX0_payLeaver : ByteArray := prog_2_method_9_code
def yX0_payLeaver : MethodName := ⟨RX0, "payLeaver", "(LSwingUnits$Trust;I)Z"⟩
abbrev cX0_doBuyers : ByteArray := prog_2_method_10_code
def yX0_doBuyers : MethodName := ⟨RX0, "doBuyers", "(LSwingUnits$Trust;I)V"⟩
def RX1 : String := "SwingUnits$History"
def TX1 : u_T := fun k => match k with
  | 0 => ("SwingUnits$History", "states", "[LSwingUnits$Trust;", true)
  | 1 => ("SwingUnits$History", "first", "I", false)
  | _ => ("SwingUnits$History", "count", "I", false)
def tyX1 : Nat → FieldType := fun k => match k with
  | 0 => .array (.object "SwingUnits$Trust")
  | 1 => .int
  | _ => .int
abbrev wsX10 : List Cond := u_ws RX1 TX1 3
theorem nmX1 : ∀ a, a < 3 → ∀ b, b < 3 → a ≠ b → (TX1 a).2.1 ≠ (TX1 b).2.1 := by decide +kernel
theorem tyX1_ok : ∀ k, k < 3 → parseFieldDescriptor (TX1 k).2.2.1 = some (tyX1 k) := by decide +kernel
abbrev cX1_init : ByteArray := prog_3_method_1_code
def yX1_init : MethodName := ⟨RX1, "<init>", "()V"⟩
abbrev cX1_hold : ByteArray := prog_3_method_2_code
def yX1_hold : MethodName := ⟨RX1, "hold", "(LSwingUnits$Trust;)V"⟩
abbrev cX1_keep : ByteArray := prog_3_method_3_code
def yX1_keep : MethodName := ⟨RX1, "keep", "(I)I"⟩
abbrev cX1_takeBack : ByteArray := prog_3_method_4_code
def yX1_takeBack : MethodName := ⟨RX1, "takeBack", "(LSwingUnits$Trust;)V"⟩
def RX2 : String := "SwingUnits$Holder"
def TX2 : u_T := fun k => match k with
  | 0 => ("SwingUnits$Holder", "oldUnits", "J", false)
  | 1 => ("SwingUnits$Holder", "newUnits", "J", false)
  | 2 => ("SwingUnits$Holder", "bought", "J", false)
  | 3 => ("SwingUnits$Holder", "paid", "J", false)
  | 4 => ("SwingUnits$Holder", "income", "J", false)
  | 5 => ("SwingUnits$Holder", "evening", "J", false)
  | _ => ("SwingUnits$Holder", "lots", "J", false)
def tyX2 : Nat → FieldType := fun k => match k with
  | 0 => .long
  | 1 => .long
  | 2 => .long
  | 3 => .long
  | 4 => .long
  | 5 => .long
  | _ => .long
abbrev wsX20 : List Cond := u_ws RX2 TX2 7
theorem nmX2 : ∀ a, a < 7 → ∀ b, b < 7 → a ≠ b → (TX2 a).2.1 ≠ (TX2 b).2.1 := by decide +kernel
theorem tyX2_ok : ∀ k, k < 7 → parseFieldDescriptor (TX2 k).2.2.1 = some (tyX2 k) := by decide +kernel
abbrev cX2_init : ByteArray := prog_4_method_1_code
def yX2_init : MethodName := ⟨RX2, "<init>", "()V"⟩
abbrev cX2_become : ByteArray := prog_4_method_2_code
def yX2_become : MethodName := ⟨RX2, "become", "(LSwingUnits$Holder;)V"⟩
abbrev cX2_units : ByteArray := prog_4_method_3_code
def yX2_units : MethodName := ⟨RX2, "units", "()J"⟩
def RX3 : String := "SwingUnits$LastDay"
def TX3 : u_T := fun k => match k with
  | 0 => ("SwingUnits$LastDay", "ended", "Z", false)
  | 1 => ("SwingUnits$LastDay", "price", "J", false)
  | 2 => ("SwingUnits$LastDay", "made", "J", false)
  | 3 => ("SwingUnits$LastDay", "left", "J", false)
  | 4 => ("SwingUnits$LastDay", "stillWaiting", "J", false)
  | 5 => ("SwingUnits$LastDay", "givenBack", "J", false)
  | 6 => ("SwingUnits$LastDay", "lotsSold", "I", false)
  | _ => ("SwingUnits$LastDay", "swung", "I", false)
def tyX3 : Nat → FieldType := fun k => match k with
  | 0 => .boolean
  | 1 => .long
  | 2 => .long
  | 3 => .long
  | 4 => .long
  | 5 => .long
  | 6 => .int
  | _ => .int
abbrev wsX30 : List Cond := u_ws RX3 TX3 8
theorem nmX3 : ∀ a, a < 8 → ∀ b, b < 8 → a ≠ b → (TX3 a).2.1 ≠ (TX3 b).2.1 := by decide +kernel
theorem tyX3_ok : ∀ k, k < 8 → parseFieldDescriptor (TX3 k).2.2.1 = some (tyX3 k) := by decide +kernel
abbrev cX3_init : ByteArray := prog_5_method_1_code
def yX3_init : MethodName := ⟨RX3, "<init>", "()V"⟩
abbrev cX3_become : ByteArray := prog_5_method_2_code
def yX3_become : MethodName := ⟨RX3, "become", "(LSwingUnits$LastDay;)V"⟩
abbrev cX3_start : ByteArray := prog_5_method_3_code
def yX3_start : MethodName := ⟨RX3, "start", "(LSwingUnits$DayEnd;)V"⟩
def RX4 : String := "SwingUnits$Orders"
def TX4 : u_T := fun k => match k with
  | 0 => ("SwingUnits$Orders", "count", "I", false)
  | 1 => ("SwingUnits$Orders", "holders", "[I", true)
  | 2 => ("SwingUnits$Orders", "sizes", "[I", true)
  | _ => ("SwingUnits$Orders", "days", "[I", true)
def tyX4 : Nat → FieldType := fun k => match k with
  | 0 => .int
  | 1 => .array .int
  | 2 => .array .int
  | _ => .array .int
abbrev wsX40 : List Cond := u_ws RX4 TX4 4
theorem nmX4 : ∀ a, a < 4 → ∀ b, b < 4 → a ≠ b → (TX4 a).2.1 ≠ (TX4 b).2.1 := by decide +kernel
theorem tyX4_ok : ∀ k, k < 4 → parseFieldDescriptor (TX4 k).2.2.1 = some (tyX4 k) := by decide +kernel
abbrev cX4_init : ByteArray := prog_6_method_1_code
def yX4_init : MethodName := ⟨RX4, "<init>", "()V"⟩
abbrev cX4_become : ByteArray := prog_6_method_2_code
def yX4_become : MethodName := ⟨RX4, "become", "(LSwingUnits$Orders;)V"⟩
abbrev cX4_isFull : ByteArray := prog_6_method_3_code
def yX4_isFull : MethodName := ⟨RX4, "isFull", "()Z"⟩
abbrev cX4_add : ByteArray := prog_6_method_4_code
def yX4_add : MethodName := ⟨RX4, "add", "(III)V"⟩
abbrev cX4_write : ByteArray := prog_6_method_5_code
def yX4_write : MethodName := ⟨RX4, "write", "(IIII)V"⟩
abbrev cX4_dueOn : ByteArray := prog_6_method_6_code
def yX4_dueOn : MethodName := ⟨RX4, "dueOn", "(I)I"⟩
abbrev cX4_sum : ByteArray := prog_6_method_7_code
def yX4_sum : MethodName := ⟨RX4, "sum", "(II)J"⟩
abbrev cX4_sumOf : ByteArray := prog_6_method_8_code
def yX4_sumOf : MethodName := ⟨RX4, "sumOf", "(I)J"⟩
abbrev cX4_dropEmpty : ByteArray := prog_6_method_9_code
def yX4_dropEmpty : MethodName := ⟨RX4, "dropEmpty", "()V"⟩
def RX5 : String := "SwingUnits$Pad"
def TX5 : u_T := fun k => match k with
  | 0 => ("SwingUnits$Pad", "length", "I", false)
  | 1 => ("SwingUnits$Pad", "signs", "[C", true)
  | 2 => ("SwingUnits$Pad", "at", "I", false)
  | 3 => ("SwingUnits$Pad", "holder", "I", false)
  | 4 => ("SwingUnits$Pad", "number", "I", false)
  | 5 => ("SwingUnits$Pad", "hour", "I", false)
  | _ => ("SwingUnits$Pad", "kind", "C", false)
def tyX5 : Nat → FieldType := fun k => match k with
  | 0 => .int
  | 1 => .array .char
  | 2 => .int
  | 3 => .int
  | 4 => .int
  | 5 => .int
  | _ => .char
abbrev wsX50 : List Cond := u_ws RX5 TX5 7
theorem nmX5 : ∀ a, a < 7 → ∀ b, b < 7 → a ≠ b → (TX5 a).2.1 ≠ (TX5 b).2.1 := by decide +kernel
theorem tyX5_ok : ∀ k, k < 7 → parseFieldDescriptor (TX5 k).2.2.1 = some (tyX5 k) := by decide +kernel
abbrev cX5_init : ByteArray := prog_7_method_1_code
def yX5_init : MethodName := ⟨RX5, "<init>", "()V"⟩
abbrev cX5_countCharacters : ByteArray := prog_7_method_2_code
def yX5_countCharacters : MethodName := ⟨RX5, "countCharacters", "(J)I"⟩
abbrev cX5_append : ByteArray := prog_7_method_3_code
def yX5_append : MethodName := ⟨RX5, "append", "(JI)V"⟩
abbrev cX5_signAt : ByteArray := prog_7_method_4_code
def yX5_signAt : MethodName := ⟨RX5, "signAt", "(I)C"⟩
abbrev cX5_empty : ByteArray := prog_7_method_5_code
def yX5_empty : MethodName := ⟨RX5, "empty", "()I"⟩
abbrev cX5_start : ByteArray := prog_7_method_6_code
def yX5_start : MethodName := ⟨RX5, "start", "()V"⟩
abbrev cX5_findFault : ByteArray := prog_7_method_7_code
def yX5_findFault : MethodName := ⟨RX5, "findFault", "()I"⟩
abbrev cX5_readOrder : ByteArray := prog_7_method_8_code
def yX5_readOrder : MethodName := ⟨RX5, "readOrder", "()Z"⟩
abbrev cX5_skip : ByteArray := prog_7_method_9_code
def yX5_skip : MethodName := ⟨RX5, "skip", "(C)Z"⟩
abbrev cX5_readDeal : ByteArray := prog_7_method_10_code
def yX5_readDeal : MethodName := ⟨RX5, "readDeal", "()Z"⟩
abbrev cX5_readNumber : ByteArray := prog_7_method_11_code
def yX5_readNumber : MethodName := ⟨RX5, "readNumber", "(I)I"⟩
abbrev cX5_digitAt : ByteArray := prog_7_method_12_code
def yX5_digitAt : MethodName := ⟨RX5, "digitAt", "()I"⟩
def RX6 : String := "SwingUnits$Trust"
def TX6 : u_T := fun k => match k with
  | 0 => ("SwingUnits$Trust", "cash", "J", false)
  | 1 => ("SwingUnits$Trust", "incomePool", "J", false)
  | 2 => ("SwingUnits$Trust", "eveningPool", "J", false)
  | 3 => ("SwingUnits$Trust", "lots", "I", false)
  | 4 => ("SwingUnits$Trust", "quote", "I", false)
  | 5 => ("SwingUnits$Trust", "day", "I", false)
  | 6 => ("SwingUnits$Trust", "settings", "[I", true)
  | 7 => ("SwingUnits$Trust", "holders", "[LSwingUnits$Holder;", true)
  | 8 => ("SwingUnits$Trust", "buying", "LSwingUnits$Orders;", true)
  | 9 => ("SwingUnits$Trust", "leaving", "LSwingUnits$Orders;", true)
  | _ => ("SwingUnits$Trust", "last", "LSwingUnits$LastDay;", true)
def tyX6 : Nat → FieldType := fun k => match k with
  | 0 => .long
  | 1 => .long
  | 2 => .long
  | 3 => .int
  | 4 => .int
  | 5 => .int
  | 6 => .array .int
  | 7 => .array (.object "SwingUnits$Holder")
  | 8 => .object "SwingUnits$Orders"
  | 9 => .object "SwingUnits$Orders"
  | _ => .object "SwingUnits$LastDay"
abbrev wsX60 : List Cond := u_ws RX6 TX6 11
theorem nmX6 : ∀ a, a < 11 → ∀ b, b < 11 → a ≠ b → (TX6 a).2.1 ≠ (TX6 b).2.1 := by decide +kernel
theorem tyX6_ok : ∀ k, k < 11 → parseFieldDescriptor (TX6 k).2.2.1 = some (tyX6 k) := by decide +kernel
abbrev cX6_init : ByteArray := prog_8_method_1_code
def yX6_init : MethodName := ⟨RX6, "<init>", "()V"⟩
abbrev cX6_become : ByteArray := prog_8_method_2_code
def yX6_become : MethodName := ⟨RX6, "become", "(LSwingUnits$Trust;)V"⟩
abbrev cX6_value : ByteArray := prog_8_method_3_code
def yX6_value : MethodName := ⟨RX6, "value", "()J"⟩
abbrev cX6_units : ByteArray := prog_8_method_4_code
def yX6_units : MethodName := ⟨RX6, "units", "()J"⟩
abbrev cX6_newUnits : ByteArray := prog_8_method_5_code
def yX6_newUnits : MethodName := ⟨RX6, "newUnits", "()J"⟩
abbrev cX6_middle : ByteArray := prog_8_method_6_code
def yX6_middle : MethodName := ⟨RX6, "middle", "()J"⟩
abbrev cX6_unitIncome : ByteArray := prog_8_method_7_code
def yX6_unitIncome : MethodName := ⟨RX6, "unitIncome", "()J"⟩
abbrev cX6_fee : ByteArray := prog_8_method_8_code
def yX6_fee : MethodName := ⟨RX6, "fee", "()J"⟩
abbrev cX6_changeSetting : ByteArray := prog_8_method_9_code
def yX6_changeSetting : MethodName := ⟨RX6, "changeSetting", "(II)I"⟩
abbrev cX6_orderToBuy : ByteArray := prog_8_method_10_code
def yX6_orderToBuy : MethodName := ⟨RX6, "orderToBuy", "(III)I"⟩
abbrev cX6_orderToLeave : ByteArray := prog_8_method_11_code
def yX6_orderToLeave : MethodName := ⟨RX6, "orderToLeave", "(III)I"⟩
abbrev cX6_exitInKind : ByteArray := prog_8_method_12_code
def yX6_exitInKind : MethodName := ⟨RX6, "exitInKind", "(II)I"⟩
abbrev cX6_changeQuote : ByteArray := prog_8_method_13_code
def yX6_changeQuote : MethodName := ⟨RX6, "changeQuote", "(I)I"⟩
abbrev cX6_tradeLots : ByteArray := prog_8_method_14_code
def yX6_tradeLots : MethodName := ⟨RX6, "tradeLots", "(I)I"⟩
abbrev cX6_takeIncome : ByteArray := prog_8_method_15_code
def yX6_takeIncome : MethodName := ⟨RX6, "takeIncome", "(I)I"⟩
abbrev cX6_payIncome : ByteArray := prog_8_method_16_code
def yX6_payIncome : MethodName := ⟨RX6, "payIncome", "()I"⟩
abbrev cX6_makeUnits : ByteArray := prog_8_method_17_code
def yX6_makeUnits : MethodName := ⟨RX6, "makeUnits", "(LSwingUnits$Holder;JJJ)V"⟩
abbrev cX6_takeUnits : ByteArray := prog_8_method_18_code
def yX6_takeUnits : MethodName := ⟨RX6, "takeUnits", "(LSwingUnits$Holder;JJJ)V"⟩
abbrev cX6_sellFor : ByteArray := prog_8_method_19_code
def yX6_sellFor : MethodName := ⟨RX6, "sellFor", "(J)I"⟩
abbrev cX6_freeUnits : ByteArray := prog_8_method_20_code
def yX6_freeUnits : MethodName := ⟨RX6, "freeUnits", "(I)J"⟩
abbrev cX6_dayOf : ByteArray := prog_8_method_21_code
def yX6_dayOf : MethodName := ⟨RX6, "dayOf", "(I)I"⟩
abbrev cX6_isHour : ByteArray := prog_8_method_22_code
def yX6_isHour : MethodName := ⟨RX6, "isHour", "(I)Z"⟩
def RX7 : String := "SwingUnits"
def TX7 : u_T := fun k => match k with
  | 0 => ("SwingUnits", "trust", "LSwingUnits$Trust;", true)
  | 1 => ("SwingUnits", "trial", "LSwingUnits$Trust;", true)
  | 2 => ("SwingUnits", "dayEnd", "LSwingUnits$DayEnd;", true)
  | 3 => ("SwingUnits", "pad", "LSwingUnits$Pad;", true)
  | 4 => ("SwingUnits", "history", "LSwingUnits$History;", true)
  | 5 => ("SwingUnits", "slots", "[LSwingUnits$Trust;", true)
  | _ => ("SwingUnits", "saved", "[Z", true)
def tyX7 : Nat → FieldType := fun k => match k with
  | 0 => .object "SwingUnits$Trust"
  | 1 => .object "SwingUnits$Trust"
  | 2 => .object "SwingUnits$DayEnd"
  | 3 => .object "SwingUnits$Pad"
  | 4 => .object "SwingUnits$History"
  | 5 => .array (.object "SwingUnits$Trust")
  | _ => .array .boolean
abbrev wsX70 : List Cond := u_ws RX7 TX7 7
theorem nmX7 : ∀ a, a < 7 → ∀ b, b < 7 → a ≠ b → (TX7 a).2.1 ≠ (TX7 b).2.1 := by decide +kernel
theorem tyX7_ok : ∀ k, k < 7 → parseFieldDescriptor (TX7 k).2.2.1 = some (tyX7 k) := by decide +kernel
abbrev cX7_init : ByteArray := prog_1_method_1_code
def yX7_init : MethodName := ⟨RX7, "<init>", "()V"⟩
abbrev cX7_set : ByteArray := prog_1_method_2_code
def yX7_set : MethodName := ⟨RX7, "set", "(II)I"⟩
abbrev cX7_buy : ByteArray := prog_1_method_3_code
def yX7_buy : MethodName := ⟨RX7, "buy", "(III)I"⟩
abbrev cX7_leave : ByteArray := prog_1_method_4_code
def yX7_leave : MethodName := ⟨RX7, "leave", "(III)I"⟩
abbrev cX7_inKind : ByteArray := prog_1_method_5_code
def yX7_inKind : MethodName := ⟨RX7, "inKind", "(II)I"⟩
abbrev cX7_endDay : ByteArray := prog_1_method_6_code
def yX7_endDay : MethodName := ⟨RX7, "endDay", "()I"⟩
abbrev cX7_quote : ByteArray := prog_1_method_7_code
def yX7_quote : MethodName := ⟨RX7, "quote", "(I)I"⟩
abbrev cX7_trade : ByteArray := prog_1_method_8_code
def yX7_trade : MethodName := ⟨RX7, "trade", "(I)I"⟩
abbrev cX7_income : ByteArray := prog_1_method_9_code
def yX7_income : MethodName := ⟨RX7, "income", "(I)I"⟩
abbrev cX7_pay : ByteArray := prog_1_method_10_code
def yX7_pay : MethodName := ⟨RX7, "pay", "()I"⟩
abbrev cX7_ofHolder : ByteArray := prog_1_method_11_code
def yX7_ofHolder : MethodName := ⟨RX7, "ofHolder", "(II)I"⟩
abbrev cX7_count : ByteArray := prog_1_method_12_code
def yX7_count : MethodName := ⟨RX7, "count", "(I)I"⟩
abbrev cX7_order : ByteArray := prog_1_method_13_code
def yX7_order : MethodName := ⟨RX7, "order", "(III)I"⟩
abbrev cX7_lastDay : ByteArray := prog_1_method_14_code
def yX7_lastDay : MethodName := ⟨RX7, "lastDay", "(I)I"⟩
abbrev cX7_price : ByteArray := prog_1_method_15_code
def yX7_price : MethodName := ⟨RX7, "price", "(I)J"⟩
abbrev cX7_exitIn : ByteArray := prog_1_method_16_code
def yX7_exitIn : MethodName := ⟨RX7, "exitIn", "(I)I"⟩
abbrev cX7_fairSwing : ByteArray := prog_1_method_17_code
def yX7_fairSwing : MethodName := ⟨RX7, "fairSwing", "()I"⟩
abbrev cX7_put : ByteArray := prog_1_method_18_code
def yX7_put : MethodName := ⟨RX7, "put", "(J)I"⟩
abbrev cX7_wipe : ByteArray := prog_1_method_19_code
def yX7_wipe : MethodName := ⟨RX7, "wipe", "()I"⟩
abbrev cX7_fault : ByteArray := prog_1_method_20_code
def yX7_fault : MethodName := ⟨RX7, "fault", "()I"⟩
abbrev cX7_carryOut : ByteArray := prog_1_method_21_code
def yX7_carryOut : MethodName := ⟨RX7, "carryOut", "()I"⟩
abbrev cX7_undo : ByteArray := prog_1_method_22_code
def yX7_undo : MethodName := ⟨RX7, "undo", "()I"⟩
abbrev cX7_save : ByteArray := prog_1_method_23_code
def yX7_save : MethodName := ⟨RX7, "save", "(I)I"⟩
abbrev cX7_restore : ByteArray := prog_1_method_24_code
def yX7_restore : MethodName := ⟨RX7, "restore", "(I)I"⟩
abbrev cX7_carryOutOrders : ByteArray := prog_1_method_25_code
def yX7_carryOutOrders : MethodName := ⟨RX7, "carryOutOrders", "()I"⟩
abbrev cX7_carryOutOrder : ByteArray := prog_1_method_26_code
def yX7_carryOutOrder : MethodName := ⟨RX7, "carryOutOrder", "()I"⟩
abbrev cX7_isHolder : ByteArray := prog_1_method_27_code
def yX7_isHolder : MethodName := ⟨RX7, "isHolder", "(I)Z"⟩
def RX8 : String := "SwingUnitsModel"
def TX8 : u_T := fun k => match k with
  | 0 => ("SwingUnitsModel", "at", "[J", true)
  | 1 => ("SwingUnitsModel", "past", "[J", true)
  | 2 => ("SwingUnitsModel", "pastFirst", "I", false)
  | 3 => ("SwingUnitsModel", "pastMany", "I", false)
  | 4 => ("SwingUnitsModel", "slots", "[J", true)
  | 5 => ("SwingUnitsModel", "isSaved", "[Z", true)
  | 6 => ("SwingUnitsModel", "aside", "[J", true)
  | 7 => ("SwingUnitsModel", "share", "[J", true)
  | 8 => ("SwingUnitsModel", "pad", "[I", true)
  | 9 => ("SwingUnitsModel", "padMany", "I", false)
  | 10 => ("SwingUnitsModel", "spot", "I", false)
  | 11 => ("SwingUnitsModel", "isWrong", "Z", false)
  | 12 => ("SwingUnitsModel", "orders", "I", false)
  | 13 => ("SwingUnitsModel", "sort", "[I", true)
  | _ => ("SwingUnitsModel", "numbers", "[I", true)
def tyX8 : Nat → FieldType := fun k => match k with
  | 0 => .array .long
  | 1 => .array .long
  | 2 => .int
  | 3 => .int
  | 4 => .array .long
  | 5 => .array .boolean
  | 6 => .array .long
  | 7 => .array .long
  | 8 => .array .int
  | 9 => .int
  | 10 => .int
  | 11 => .boolean
  | 12 => .int
  | 13 => .array .int
  | _ => .array .int
abbrev wsX80 : List Cond := u_ws RX8 TX8 15
theorem nmX8 : ∀ a, a < 15 → ∀ b, b < 15 → a ≠ b → (TX8 a).2.1 ≠ (TX8 b).2.1 := by decide +kernel
theorem tyX8_ok : ∀ k, k < 15 → parseFieldDescriptor (TX8 k).2.2.1 = some (tyX8 k) := by decide +kernel
abbrev cX8_init : ByteArray := prog_10_method_1_code
def yX8_init : MethodName := ⟨RX8, "<init>", "()V"⟩
abbrev cX8_in : ByteArray := prog_10_method_3_code
def yX8_in : MethodName := ⟨RX8, "in", "(JJJ)Z"⟩
abbrev cX8_isHolder : ByteArray := prog_10_method_4_code
def yX8_isHolder : MethodName := ⟨RX8, "isHolder", "(I)Z"⟩
abbrev cX8_of : ByteArray := prog_10_method_5_code
def yX8_of : MethodName := ⟨RX8, "of", "(II)J"⟩
abbrev cX8_add : ByteArray := prog_10_method_6_code
def yX8_add : MethodName := ⟨RX8, "add", "(IIJ)V"⟩
abbrev cX8_units : ByteArray := prog_10_method_7_code
def yX8_units : MethodName := ⟨RX8, "units", "(I)J"⟩
abbrev cX8_keep : ByteArray := prog_10_method_8_code
def yX8_keep : MethodName := ⟨RX8, "keep", "()V"⟩
abbrev cX8_keepIf : ByteArray := prog_10_method_9_code
def yX8_keepIf : MethodName := ⟨RX8, "keepIf", "(Z)V"⟩
abbrev cX8_layAside : ByteArray := prog_10_method_10_code
def yX8_layAside : MethodName := ⟨RX8, "layAside", "()V"⟩
abbrev cX8_layBack : ByteArray := prog_10_method_11_code
def yX8_layBack : MethodName := ⟨RX8, "layBack", "()V"⟩
abbrev cX8_issue : ByteArray := prog_10_method_12_code
def yX8_issue : MethodName := ⟨RX8, "issue", "()J"⟩
abbrev cX8_allNew : ByteArray := prog_10_method_13_code
def yX8_allNew : MethodName := ⟨RX8, "allNew", "()J"⟩
abbrev cX8_value : ByteArray := prog_10_method_14_code
def yX8_value : MethodName := ⟨RX8, "value", "()J"⟩
abbrev cX8_middle : ByteArray := prog_10_method_15_code
def yX8_middle : MethodName := ⟨RX8, "middle", "()J"⟩
abbrev cX8_incomeOfUnit : ByteArray := prog_10_method_16_code
def yX8_incomeOfUnit : MethodName := ⟨RX8, "incomeOfUnit", "()J"⟩
abbrev cX8_cost : ByteArray := prog_10_method_17_code
def yX8_cost : MethodName := ⟨RX8, "cost", "()J"⟩
abbrev cX8_ofOrder : ByteArray := prog_10_method_18_code
def yX8_ofOrder : MethodName := ⟨RX8, "ofOrder", "(III)J"⟩
abbrev cX8_sumOf : ByteArray := prog_10_method_19_code
def yX8_sumOf : MethodName := ⟨RX8, "sumOf", "(IJ)J"⟩
abbrev cX8_bound : ByteArray := prog_10_method_20_code
def yX8_bound : MethodName := ⟨RX8, "bound", "(I)J"⟩
abbrev cX8_holdPool : ByteArray := prog_10_method_21_code
def yX8_holdPool : MethodName := ⟨RX8, "holdPool", "()V"⟩
abbrev cX8_makeUnits : ByteArray := prog_10_method_22_code
def yX8_makeUnits : MethodName := ⟨RX8, "makeUnits", "(IJJ)V"⟩
abbrev cX8_goUnits : ByteArray := prog_10_method_23_code
def yX8_goUnits : MethodName := ⟨RX8, "goUnits", "(IJJ)V"⟩
abbrev cX8_takeOut : ByteArray := prog_10_method_24_code
def yX8_takeOut : MethodName := ⟨RX8, "takeOut", "(II)V"⟩
abbrev cX8_putIn : ByteArray := prog_10_method_25_code
def yX8_putIn : MethodName := ⟨RX8, "putIn", "(IIJI)J"⟩
abbrev cX8_set : ByteArray := prog_10_method_26_code
def yX8_set : MethodName := ⟨RX8, "set", "(II)I"⟩
abbrev cX8_tryBuy : ByteArray := prog_10_method_27_code
def yX8_tryBuy : MethodName := ⟨RX8, "tryBuy", "(IIIZ)I"⟩
abbrev cX8_buy : ByteArray := prog_10_method_28_code
def yX8_buy : MethodName := ⟨RX8, "buy", "(III)I"⟩
abbrev cX8_tryLeave : ByteArray := prog_10_method_29_code
def yX8_tryLeave : MethodName := ⟨RX8, "tryLeave", "(IIIZ)I"⟩
abbrev cX8_leave : ByteArray := prog_10_method_30_code
def yX8_leave : MethodName := ⟨RX8, "leave", "(III)I"⟩
abbrev cX8_inKind : ByteArray := prog_10_method_31_code
def yX8_inKind : MethodName := ⟨RX8, "inKind", "(II)I"⟩
abbrev cX8_mayLeave : ByteArray := prog_10_method_32_code
def yX8_mayLeave : MethodName := ⟨RX8, "mayLeave", "()J"⟩
abbrev cX8_swing : ByteArray := prog_10_method_33_code
def yX8_swing : MethodName := ⟨RX8, "swing", "()I"⟩
abbrev cX8_priceNow : ByteArray := prog_10_method_34_code
def yX8_priceNow : MethodName := ⟨RX8, "priceNow", "()J"⟩
abbrev cX8_shareDay : ByteArray := prog_10_method_35_code
def yX8_shareDay : MethodName := ⟨RX8, "shareDay", "(IIJ)J"⟩
abbrev cX8_shareOut : ByteArray := prog_10_method_36_code
def yX8_shareOut : MethodName := ⟨RX8, "shareOut", "(J)V"⟩
abbrev cX8_sellFor : ByteArray := prog_10_method_37_code
def yX8_sellFor : MethodName := ⟨RX8, "sellFor", "(J)V"⟩
abbrev cX8_payThem : ByteArray := prog_10_method_38_code
def yX8_payThem : MethodName := ⟨RX8, "payThem", "(JJ)V"⟩
abbrev cX8_buyFor : ByteArray := prog_10_method_39_code
def yX8_buyFor : MethodName := ⟨RX8, "buyFor", "(IJJJ)V"⟩
abbrev cX8_endIt : ByteArray := prog_10_method_40_code
def yX8_endIt : MethodName := ⟨RX8, "endIt", "()V"⟩
abbrev cX8_tryEndDay : ByteArray := prog_10_method_41_code
def yX8_tryEndDay : MethodName := ⟨RX8, "tryEndDay", "(Z)I"⟩
abbrev cX8_endDay : ByteArray := prog_10_method_42_code
def yX8_endDay : MethodName := ⟨RX8, "endDay", "()I"⟩
abbrev cX8_tryQuote : ByteArray := prog_10_method_43_code
def yX8_tryQuote : MethodName := ⟨RX8, "tryQuote", "(IZ)I"⟩
abbrev cX8_quote : ByteArray := prog_10_method_44_code
def yX8_quote : MethodName := ⟨RX8, "quote", "(I)I"⟩
abbrev cX8_trade : ByteArray := prog_10_method_45_code
def yX8_trade : MethodName := ⟨RX8, "trade", "(I)I"⟩
abbrev cX8_tryIncome : ByteArray := prog_10_method_46_code
def yX8_tryIncome : MethodName := ⟨RX8, "tryIncome", "(IZ)I"⟩
abbrev cX8_income : ByteArray := prog_10_method_47_code
def yX8_income : MethodName := ⟨RX8, "income", "(I)I"⟩
abbrev cX8_tryPay : ByteArray := prog_10_method_48_code
def yX8_tryPay : MethodName := ⟨RX8, "tryPay", "(Z)I"⟩
abbrev cX8_pay : ByteArray := prog_10_method_49_code
def yX8_pay : MethodName := ⟨RX8, "pay", "()I"⟩
abbrev cX8_ofHolder : ByteArray := prog_10_method_50_code
def yX8_ofHolder : MethodName := ⟨RX8, "ofHolder", "(II)I"⟩
abbrev cX8_count : ByteArray := prog_10_method_51_code
def yX8_count : MethodName := ⟨RX8, "count", "(I)I"⟩
abbrev cX8_order : ByteArray := prog_10_method_52_code
def yX8_order : MethodName := ⟨RX8, "order", "(III)I"⟩
abbrev cX8_lastDay : ByteArray := prog_10_method_53_code
def yX8_lastDay : MethodName := ⟨RX8, "lastDay", "(I)I"⟩
abbrev cX8_price : ByteArray := prog_10_method_54_code
def yX8_price : MethodName := ⟨RX8, "price", "(I)J"⟩
abbrev cX8_exitIn : ByteArray := prog_10_method_55_code
def yX8_exitIn : MethodName := ⟨RX8, "exitIn", "(I)I"⟩
abbrev cX8_fairSwing : ByteArray := prog_10_method_56_code
def yX8_fairSwing : MethodName := ⟨RX8, "fairSwing", "()I"⟩
abbrev cX8_put : ByteArray := prog_10_method_57_code
def yX8_put : MethodName := ⟨RX8, "put", "(J)I"⟩
abbrev cX8_wipe : ByteArray := prog_10_method_58_code
def yX8_wipe : MethodName := ⟨RX8, "wipe", "()I"⟩
abbrev cX8_next : ByteArray := prog_10_method_59_code
def yX8_next : MethodName := ⟨RX8, "next", "()I"⟩
abbrev cX8_takeSign : ByteArray := prog_10_method_60_code
def yX8_takeSign : MethodName := ⟨RX8, "takeSign", "(I)V"⟩
abbrev cX8_takeNumber : ByteArray := prog_10_method_61_code
def yX8_takeNumber : MethodName := ⟨RX8, "takeNumber", "(II)V"⟩
abbrev cX8_takeHolder : ByteArray := prog_10_method_62_code
def yX8_takeHolder : MethodName := ⟨RX8, "takeHolder", "()V"⟩
abbrev cX8_takeOrdering : ByteArray := prog_10_method_63_code
def yX8_takeOrdering : MethodName := ⟨RX8, "takeOrdering", "()V"⟩
abbrev cX8_takeOrder : ByteArray := prog_10_method_64_code
def yX8_takeOrder : MethodName := ⟨RX8, "takeOrder", "()V"⟩
abbrev cX8_fault : ByteArray := prog_10_method_65_code
def yX8_fault : MethodName := ⟨RX8, "fault", "()I"⟩
abbrev cX8_carry : ByteArray := prog_10_method_66_code
def yX8_carry : MethodName := ⟨RX8, "carry", "(I)I"⟩
abbrev cX8_carryOut : ByteArray := prog_10_method_67_code
def yX8_carryOut : MethodName := ⟨RX8, "carryOut", "()I"⟩
abbrev cX8_undo : ByteArray := prog_10_method_68_code
def yX8_undo : MethodName := ⟨RX8, "undo", "()I"⟩
abbrev cX8_save : ByteArray := prog_10_method_69_code
def yX8_save : MethodName := ⟨RX8, "save", "(I)I"⟩
abbrev cX8_restore : ByteArray := prog_10_method_70_code
def yX8_restore : MethodName := ⟨RX8, "restore", "(I)I"⟩
def RL : String := "SwingUnitsLaw"
abbrev cL_law : ByteArray := code
def yL_law : MethodName := ⟨RL, "law", "([I)Z"⟩
abbrev vwCl : List vw_C := [(RX0, TX0, 7), (RX1, TX1, 3), (RX2, TX2, 7), (RX3, TX3, 8), (RX4, TX4, 4), (RX5, TX5, 7), (RX6, TX6, 11), (RX7, TX7, 7), (RX8, TX8, 15)]
end
section
theorem tw_0 : (Jvm.Cond.initialized "SwingUnitsLaw") ∈ lw_tbl := List.mem_append_right _ (List.mem_append_left _ (List.mem_of_getElem? (l := tables_1_1) (i := 0) rfl))
theorem tw_1 : (Jvm.Cond.initialized "SwingUnits") ∈ lw_tbl := List.mem_append_right _ (List.mem_append_left _ (List.mem_of_getElem? (l := tables_1_1) (i := 1) rfl))
theorem tw_2 : (Jvm.Cond.initialized "SwingUnits$Trust") ∈ lw_tbl := List.mem_append_right _ (List.mem_append_left _ (List.mem_of_getElem? (l := tables_1_1) (i := 2) rfl))
theorem tw_3 : (Jvm.Cond.initialized "SwingUnits$Holder") ∈ lw_tbl := List.mem_append_right _ (List.mem_append_left _ (List.mem_of_getElem? (l := tables_1_1) (i := 3) rfl))
theorem tw_4 : (Jvm.Cond.initialized "SwingUnits$Orders") ∈ lw_tbl := List.mem_append_right _ (List.mem_append_left _ (List.mem_of_getElem? (l := tables_1_1) (i := 4) rfl))
theorem tw_5 : (Jvm.Cond.initialized "SwingUnits$LastDay") ∈ lw_tbl := List.mem_append_right _ (List.mem_append_left _ (List.mem_of_getElem? (l := tables_1_1) (i := 5) rfl))
theorem tw_6 : (Jvm.Cond.initialized "SwingUnits$DayEnd") ∈ lw_tbl := List.mem_append_right _ (List.mem_append_left _ (List.mem_of_getElem? (l := tables_1_1) (i := 6) rfl))
theorem tw_7 : (Jvm.Cond.initialized "SwingUnits$Pad") ∈ lw_tbl := List.mem_append_right _ (List.mem_append_left _ (List.mem_of_getElem? (l := tables_1_1) (i := 7) rfl))
theorem tw_8 : (Jvm.Cond.initialized "SwingUnits$History") ∈ lw_tbl := List.mem_append_right _ (List.mem_append_left _ (List.mem_of_getElem? (l := tables_1_1) (i := 8) rfl))
theorem tw_9 : (Jvm.Cond.initialized "SwingUnitsModel") ∈ lw_tbl := List.mem_append_right _ (List.mem_append_left _ (List.mem_of_getElem? (l := tables_1_1) (i := 9) rfl))
theorem tw_10 : (Jvm.Cond.initialized "java/lang/Math") ∈ lw_tbl := List.mem_append_right _ (List.mem_append_left _ (List.mem_of_getElem? (l := tables_1_1) (i := 10) rfl))
theorem tw_11 : (Jvm.Cond.classLink "SwingUnitsLaw" (7 : Nat) "SwingUnits") ∈ lw_tbl := List.mem_append_right _ (List.mem_append_left _ (List.mem_of_getElem? (l := tables_1_1) (i := 11) rfl))
theorem tw_12 : (Jvm.Cond.instantiable "SwingUnits" (7 : Nat)) ∈ lw_tbl := List.mem_append_right _ (List.mem_append_left _ (List.mem_of_getElem? (l := tables_1_1) (i := 12) rfl))
theorem tw_13 : (Jvm.Cond.methodLink "SwingUnitsLaw" (9 : Nat) ({ cls := "SwingUnits", name := "<init>", desc := "()V" } : Jvm.MethodName)) ∈ lw_tbl := List.mem_append_right _ (List.mem_append_left _ (List.mem_of_getElem? (l := tables_1_1) (i := 13) rfl))
theorem tw_14 : (Jvm.Cond.instanceMethod ({ cls := "SwingUnits", name := "<init>", desc := "()V" } : Jvm.MethodName)) ∈ lw_tbl := List.mem_append_right _ (List.mem_append_left _ (List.mem_of_getElem? (l := tables_1_1) (i := 14) rfl))
theorem tw_15 : (Jvm.Cond.code ({ cls := "SwingUnits", name := "<init>", desc := "()V" } : Jvm.MethodName) prog_1_method_1_code (2 : Nat) (Option.none : Option Jvm.ClassFile.FieldType)) ∈ lw_tbl := List.mem_append_right _ (List.mem_append_left _ (List.mem_of_getElem? (l := tables_1_1) (i := 15) rfl))
theorem tw_16 : (Jvm.Cond.methodLink "SwingUnits" (1 : Nat) ({ cls := "java/lang/Object", name := "<init>", desc := "()V" } : Jvm.MethodName)) ∈ lw_tbl := List.mem_append_right _ (List.mem_append_left _ (List.mem_of_getElem? (l := tables_1_1) (i := 16) rfl))
theorem tw_17 : (Jvm.Cond.instanceMethod ({ cls := "java/lang/Object", name := "<init>", desc := "()V" } : Jvm.MethodName)) ∈ lw_tbl := List.mem_append_right _ (List.mem_append_left _ (List.mem_of_getElem? (l := tables_1_1) (i := 17) rfl))
theorem tw_18 : (Jvm.Cond.code ({ cls := "java/lang/Object", name := "<init>", desc := "()V" } : Jvm.MethodName) object_method_1_code (1 : Nat) (Option.none : Option Jvm.ClassFile.FieldType)) ∈ lw_tbl := List.mem_append_right _ (List.mem_append_left _ (List.mem_of_getElem? (l := tables_1_1) (i := 18) rfl))
theorem tw_19 : (Jvm.Cond.classLink "SwingUnits" (7 : Nat) "SwingUnits$Trust") ∈ lw_tbl := List.mem_append_right _ (List.mem_append_left _ (List.mem_of_getElem? (l := tables_1_1) (i := 19) rfl))
theorem tw_20 : (Jvm.Cond.instantiable "SwingUnits$Trust" (11 : Nat)) ∈ lw_tbl := List.mem_append_right _ (List.mem_append_left _ (List.mem_of_getElem? (l := tables_1_1) (i := 20) rfl))
theorem tw_21 : (Jvm.Cond.methodLink "SwingUnits" (9 : Nat) ({ cls := "SwingUnits$Trust", name := "<init>", desc := "()V" } : Jvm.MethodName)) ∈ lw_tbl := List.mem_append_right _ (List.mem_append_left _ (List.mem_of_getElem? (l := tables_1_1) (i := 21) rfl))
theorem tw_22 : (Jvm.Cond.instanceMethod ({ cls := "SwingUnits$Trust", name := "<init>", desc := "()V" } : Jvm.MethodName)) ∈ lw_tbl := List.mem_append_right _ (List.mem_append_left _ (List.mem_of_getElem? (l := tables_1_1) (i := 22) rfl))
theorem tw_23 : (Jvm.Cond.code ({ cls := "SwingUnits$Trust", name := "<init>", desc := "()V" } : Jvm.MethodName) prog_8_method_1_code (2 : Nat) (Option.none : Option Jvm.ClassFile.FieldType)) ∈ lw_tbl := List.mem_append_right _ (List.mem_append_left _ (List.mem_of_getElem? (l := tables_1_1) (i := 23) rfl))
theorem tw_24 : (Jvm.Cond.methodLink "SwingUnits$Trust" (3 : Nat) ({ cls := "java/lang/Object", name := "<init>", desc := "()V" } : Jvm.MethodName)) ∈ lw_tbl := List.mem_append_right _ (List.mem_append_left _ (List.mem_of_getElem? (l := tables_1_1) (i := 24) rfl))
theorem tw_25 : (Jvm.Cond.classLink "SwingUnits$Trust" (19 : Nat) "SwingUnits$Holder") ∈ lw_tbl := List.mem_append_right _ (List.mem_append_left _ (List.mem_of_getElem? (l := tables_1_1) (i := 25) rfl))
theorem tw_26 : (Jvm.Cond.arrayOver (Jvm.ClassFile.FieldType.object "SwingUnits$Holder")) ∈ lw_tbl := List.mem_append_right _ (List.mem_append_left _ (List.mem_of_getElem? (l := tables_1_1) (i := 26) rfl))
theorem tw_27 : (Jvm.Cond.instantiable "SwingUnits$Holder" (7 : Nat)) ∈ lw_tbl := List.mem_append_right _ (List.mem_append_left _ (List.mem_of_getElem? (l := tables_1_1) (i := 27) rfl))
theorem tw_28 : (Jvm.Cond.methodLink "SwingUnits$Trust" (25 : Nat) ({ cls := "SwingUnits$Holder", name := "<init>", desc := "()V" } : Jvm.MethodName)) ∈ lw_tbl := List.mem_append_right _ (List.mem_append_left _ (List.mem_of_getElem? (l := tables_1_1) (i := 28) rfl))
theorem tw_29 : (Jvm.Cond.instanceMethod ({ cls := "SwingUnits$Holder", name := "<init>", desc := "()V" } : Jvm.MethodName)) ∈ lw_tbl := List.mem_append_right _ (List.mem_append_left _ (List.mem_of_getElem? (l := tables_1_1) (i := 29) rfl))
theorem tw_30 : (Jvm.Cond.code ({ cls := "SwingUnits$Holder", name := "<init>", desc := "()V" } : Jvm.MethodName) prog_4_method_1_code (1 : Nat) (Option.none : Option Jvm.ClassFile.FieldType)) ∈ lw_tbl := List.mem_append_right _ (List.mem_append_left _ (List.mem_of_getElem? (l := tables_1_1) (i := 30) rfl))
theorem tw_31 : (Jvm.Cond.methodLink "SwingUnits$Holder" (1 : Nat) ({ cls := "java/lang/Object", name := "<init>", desc := "()V" } : Jvm.MethodName)) ∈ lw_tbl := List.mem_append_right _ (List.mem_append_left _ (List.mem_of_getElem? (l := tables_1_1) (i := 31) rfl))
theorem tw_32 : (Jvm.Cond.fieldLink "SwingUnits$Holder" (7 : Nat) "SwingUnits$Holder" "oldUnits" "J") ∈ lw_tbl := List.mem_append_right _ (List.mem_append_left _ (List.mem_of_getElem? (l := tables_1_1) (i := 32) rfl))
theorem tw_33 : (Jvm.Cond.fieldLink "SwingUnits" (101 : Nat) "SwingUnits$Holder" "oldUnits" "J") ∈ lw_tbl := List.mem_append_right _ (List.mem_append_left _ (List.mem_of_getElem? (l := tables_1_1) (i := 33) rfl))
theorem tw_34 : (Jvm.Cond.fieldLink "SwingUnits$Trust" (139 : Nat) "SwingUnits$Holder" "oldUnits" "J") ∈ lw_tbl := List.mem_append_right _ (List.mem_append_left _ (List.mem_of_getElem? (l := tables_1_1) (i := 34) rfl))
theorem tw_35 : (Jvm.Cond.fieldLink "SwingUnits$Holder" (13 : Nat) "SwingUnits$Holder" "newUnits" "J") ∈ lw_tbl := List.mem_append_right _ (List.mem_append_left _ (List.mem_of_getElem? (l := tables_1_1) (i := 35) rfl))
theorem tw_36 : (Jvm.Cond.fieldLink "SwingUnits$Trust" (73 : Nat) "SwingUnits$Holder" "newUnits" "J") ∈ lw_tbl := List.mem_append_right _ (List.mem_append_left _ (List.mem_of_getElem? (l := tables_1_1) (i := 36) rfl))
theorem tw_37 : (Jvm.Cond.fieldLink "SwingUnits" (105 : Nat) "SwingUnits$Holder" "newUnits" "J") ∈ lw_tbl := List.mem_append_right _ (List.mem_append_left _ (List.mem_of_getElem? (l := tables_1_1) (i := 37) rfl))
theorem tw_38 : (Jvm.Cond.fieldLink "SwingUnits$Holder" (16 : Nat) "SwingUnits$Holder" "bought" "J") ∈ lw_tbl := List.mem_append_right _ (List.mem_append_left _ (List.mem_of_getElem? (l := tables_1_1) (i := 38) rfl))
theorem tw_39 : (Jvm.Cond.fieldLink "SwingUnits" (118 : Nat) "SwingUnits$Holder" "bought" "J") ∈ lw_tbl := List.mem_append_right _ (List.mem_append_left _ (List.mem_of_getElem? (l := tables_1_1) (i := 39) rfl))
theorem tw_40 : (Jvm.Cond.fieldLink "SwingUnits$Trust" (142 : Nat) "SwingUnits$Holder" "bought" "J") ∈ lw_tbl := List.mem_append_right _ (List.mem_append_left _ (List.mem_of_getElem? (l := tables_1_1) (i := 40) rfl))
theorem tw_41 : (Jvm.Cond.fieldLink "SwingUnits$Holder" (19 : Nat) "SwingUnits$Holder" "paid" "J") ∈ lw_tbl := List.mem_append_right _ (List.mem_append_left _ (List.mem_of_getElem? (l := tables_1_1) (i := 41) rfl))
theorem tw_42 : (Jvm.Cond.fieldLink "SwingUnits" (121 : Nat) "SwingUnits$Holder" "paid" "J") ∈ lw_tbl := List.mem_append_right _ (List.mem_append_left _ (List.mem_of_getElem? (l := tables_1_1) (i := 42) rfl))
theorem tw_43 : (Jvm.Cond.fieldLink "SwingUnits$Trust" (145 : Nat) "SwingUnits$Holder" "paid" "J") ∈ lw_tbl := List.mem_append_right _ (List.mem_append_left _ (List.mem_of_getElem? (l := tables_1_1) (i := 43) rfl))
theorem tw_44 : (Jvm.Cond.fieldLink "SwingUnits$Holder" (22 : Nat) "SwingUnits$Holder" "income" "J") ∈ lw_tbl := List.mem_append_right _ (List.mem_append_left _ (List.mem_of_getElem? (l := tables_1_1) (i := 44) rfl))
theorem tw_45 : (Jvm.Cond.fieldLink "SwingUnits" (124 : Nat) "SwingUnits$Holder" "income" "J") ∈ lw_tbl := List.mem_append_right _ (List.mem_append_left _ (List.mem_of_getElem? (l := tables_1_1) (i := 45) rfl))
theorem tw_46 : (Jvm.Cond.fieldLink "SwingUnits$Trust" (127 : Nat) "SwingUnits$Holder" "income" "J") ∈ lw_tbl := List.mem_append_right _ (List.mem_append_left _ (List.mem_of_getElem? (l := tables_1_1) (i := 46) rfl))
theorem tw_47 : (Jvm.Cond.fieldLink "SwingUnits$Holder" (25 : Nat) "SwingUnits$Holder" "evening" "J") ∈ lw_tbl := List.mem_append_right _ (List.mem_append_left _ (List.mem_of_getElem? (l := tables_1_1) (i := 47) rfl))
theorem tw_48 : (Jvm.Cond.fieldLink "SwingUnits" (127 : Nat) "SwingUnits$Holder" "evening" "J") ∈ lw_tbl := List.mem_append_right _ (List.mem_append_left _ (List.mem_of_getElem? (l := tables_1_1) (i := 48) rfl))
theorem tw_49 : (Jvm.Cond.fieldLink "SwingUnits$Trust" (130 : Nat) "SwingUnits$Holder" "evening" "J") ∈ lw_tbl := List.mem_append_right _ (List.mem_append_left _ (List.mem_of_getElem? (l := tables_1_1) (i := 49) rfl))
theorem tw_50 : (Jvm.Cond.fieldLink "SwingUnits$Holder" (28 : Nat) "SwingUnits$Holder" "lots" "J") ∈ lw_tbl := List.mem_append_right _ (List.mem_append_left _ (List.mem_of_getElem? (l := tables_1_1) (i := 50) rfl))
theorem tw_51 : (Jvm.Cond.fieldLink "SwingUnits" (130 : Nat) "SwingUnits$Holder" "lots" "J") ∈ lw_tbl := List.mem_append_right _ (List.mem_append_left _ (List.mem_of_getElem? (l := tables_1_1) (i := 51) rfl))
theorem tw_52 : (Jvm.Cond.fieldLink "SwingUnits$Trust" (113 : Nat) "SwingUnits$Holder" "lots" "J") ∈ lw_tbl := List.mem_append_right _ (List.mem_append_left _ (List.mem_of_getElem? (l := tables_1_1) (i := 52) rfl))
theorem tw_53 : (Jvm.Cond.lays "SwingUnits$Holder" "SwingUnits$Holder" "oldUnits" "J") ∈ lw_tbl := List.mem_append_right _ (List.mem_append_left _ (List.mem_of_getElem? (l := tables_1_1) (i := 53) rfl))
theorem tw_54 : (Jvm.Cond.soleField "SwingUnits$Holder" "oldUnits") ∈ lw_tbl := List.mem_append_right _ (List.mem_append_left _ (List.mem_of_getElem? (l := tables_1_1) (i := 54) rfl))
theorem tw_55 : (Jvm.Cond.lays "SwingUnits$Holder" "SwingUnits$Holder" "newUnits" "J") ∈ lw_tbl := List.mem_append_right _ (List.mem_append_left _ (List.mem_of_getElem? (l := tables_1_1) (i := 55) rfl))
theorem tw_56 : (Jvm.Cond.soleField "SwingUnits$Holder" "newUnits") ∈ lw_tbl := List.mem_append_right _ (List.mem_append_left _ (List.mem_of_getElem? (l := tables_1_1) (i := 56) rfl))
theorem tw_57 : (Jvm.Cond.lays "SwingUnits$Holder" "SwingUnits$Holder" "bought" "J") ∈ lw_tbl := List.mem_append_right _ (List.mem_append_left _ (List.mem_of_getElem? (l := tables_1_1) (i := 57) rfl))
theorem tw_58 : (Jvm.Cond.soleField "SwingUnits$Holder" "bought") ∈ lw_tbl := List.mem_append_right _ (List.mem_append_left _ (List.mem_of_getElem? (l := tables_1_1) (i := 58) rfl))
theorem tw_59 : (Jvm.Cond.lays "SwingUnits$Holder" "SwingUnits$Holder" "paid" "J") ∈ lw_tbl := List.mem_append_right _ (List.mem_append_left _ (List.mem_of_getElem? (l := tables_1_1) (i := 59) rfl))
theorem tw_60 : (Jvm.Cond.soleField "SwingUnits$Holder" "paid") ∈ lw_tbl := List.mem_append_right _ (List.mem_append_left _ (List.mem_of_getElem? (l := tables_1_1) (i := 60) rfl))
theorem tw_61 : (Jvm.Cond.lays "SwingUnits$Holder" "SwingUnits$Holder" "income" "J") ∈ lw_tbl := List.mem_append_right _ (List.mem_append_left _ (List.mem_of_getElem? (l := tables_1_1) (i := 61) rfl))
theorem tw_62 : (Jvm.Cond.soleField "SwingUnits$Holder" "income") ∈ lw_tbl := List.mem_append_right _ (List.mem_append_left _ (List.mem_of_getElem? (l := tables_1_1) (i := 62) rfl))
theorem tw_63 : (Jvm.Cond.lays "SwingUnits$Holder" "SwingUnits$Holder" "evening" "J") ∈ lw_tbl := List.mem_append_right _ (List.mem_append_left _ (List.mem_of_getElem? (l := tables_1_1) (i := 63) rfl))
theorem tw_64 : (Jvm.Cond.soleField "SwingUnits$Holder" "evening") ∈ lw_tbl := List.mem_append_right _ (List.mem_append_left _ (List.mem_of_getElem? (l := tables_1_1) (i := 64) rfl))
theorem tw_65 : (Jvm.Cond.lays "SwingUnits$Holder" "SwingUnits$Holder" "lots" "J") ∈ lw_tbl := List.mem_append_right _ (List.mem_append_left _ (List.mem_of_getElem? (l := tables_1_1) (i := 65) rfl))
theorem tw_66 : (Jvm.Cond.soleField "SwingUnits$Holder" "lots") ∈ lw_tbl := List.mem_append_right _ (List.mem_append_left _ (List.mem_of_getElem? (l := tables_1_1) (i := 66) rfl))
theorem tw_67 : (Jvm.Cond.superclass "SwingUnits$Holder" "java/lang/Object") ∈ lw_tbl := List.mem_append_right _ (List.mem_append_left _ (List.mem_of_getElem? (l := tables_1_1) (i := 67) rfl))
theorem tw_68 : (Jvm.Cond.arrayClass Jvm.ClassFile.FieldType.int) ∈ lw_tbl := List.mem_append_right _ (List.mem_append_left _ (List.mem_of_getElem? (l := tables_1_1) (i := 68) rfl))
theorem tw_69 : (Jvm.Cond.classLink "SwingUnits$Trust" (26 : Nat) "SwingUnits$Orders") ∈ lw_tbl := List.mem_append_right _ (List.mem_append_left _ (List.mem_of_getElem? (l := tables_1_1) (i := 69) rfl))
theorem tw_70 : (Jvm.Cond.instantiable "SwingUnits$Orders" (4 : Nat)) ∈ lw_tbl := List.mem_append_right _ (List.mem_append_left _ (List.mem_of_getElem? (l := tables_1_1) (i := 70) rfl))
theorem tw_71 : (Jvm.Cond.methodLink "SwingUnits$Trust" (28 : Nat) ({ cls := "SwingUnits$Orders", name := "<init>", desc := "()V" } : Jvm.MethodName)) ∈ lw_tbl := List.mem_append_right _ (List.mem_append_left _ (List.mem_of_getElem? (l := tables_1_1) (i := 71) rfl))
theorem tw_72 : (Jvm.Cond.instanceMethod ({ cls := "SwingUnits$Orders", name := "<init>", desc := "()V" } : Jvm.MethodName)) ∈ lw_tbl := List.mem_append_right _ (List.mem_append_left _ (List.mem_of_getElem? (l := tables_1_1) (i := 72) rfl))
theorem tw_73 : (Jvm.Cond.code ({ cls := "SwingUnits$Orders", name := "<init>", desc := "()V" } : Jvm.MethodName) prog_6_method_1_code (1 : Nat) (Option.none : Option Jvm.ClassFile.FieldType)) ∈ lw_tbl := List.mem_append_right _ (List.mem_append_left _ (List.mem_of_getElem? (l := tables_1_1) (i := 73) rfl))
theorem tw_74 : (Jvm.Cond.methodLink "SwingUnits$Orders" (3 : Nat) ({ cls := "java/lang/Object", name := "<init>", desc := "()V" } : Jvm.MethodName)) ∈ lw_tbl := List.mem_append_right _ (List.mem_append_left _ (List.mem_of_getElem? (l := tables_1_1) (i := 74) rfl))
theorem tw_75 : (Jvm.Cond.fieldLink "SwingUnits$Orders" (21 : Nat) "SwingUnits$Orders" "count" "I") ∈ lw_tbl := List.mem_append_right _ (List.mem_append_left _ (List.mem_of_getElem? (l := tables_1_1) (i := 75) rfl))
theorem tw_76 : (Jvm.Cond.fieldLink "SwingUnits" (160 : Nat) "SwingUnits$Orders" "count" "I") ∈ lw_tbl := List.mem_append_right _ (List.mem_append_left _ (List.mem_of_getElem? (l := tables_1_1) (i := 76) rfl))
theorem tw_77 : (Jvm.Cond.fieldLink "SwingUnits$Orders" (9 : Nat) "SwingUnits$Orders" "holders" "[I") ∈ lw_tbl := List.mem_append_right _ (List.mem_append_left _ (List.mem_of_getElem? (l := tables_1_1) (i := 77) rfl))
theorem tw_78 : (Jvm.Cond.fieldLink "SwingUnits$DayEnd" (140 : Nat) "SwingUnits$Orders" "holders" "[I") ∈ lw_tbl := List.mem_append_right _ (List.mem_append_left _ (List.mem_of_getElem? (l := tables_1_1) (i := 78) rfl))
theorem tw_79 : (Jvm.Cond.fieldLink "SwingUnits" (175 : Nat) "SwingUnits$Orders" "holders" "[I") ∈ lw_tbl := List.mem_append_right _ (List.mem_append_left _ (List.mem_of_getElem? (l := tables_1_1) (i := 79) rfl))
theorem tw_80 : (Jvm.Cond.fieldLink "SwingUnits$Orders" (15 : Nat) "SwingUnits$Orders" "sizes" "[I") ∈ lw_tbl := List.mem_append_right _ (List.mem_append_left _ (List.mem_of_getElem? (l := tables_1_1) (i := 80) rfl))
theorem tw_81 : (Jvm.Cond.fieldLink "SwingUnits$DayEnd" (116 : Nat) "SwingUnits$Orders" "sizes" "[I") ∈ lw_tbl := List.mem_append_right _ (List.mem_append_left _ (List.mem_of_getElem? (l := tables_1_1) (i := 81) rfl))
theorem tw_82 : (Jvm.Cond.fieldLink "SwingUnits" (177 : Nat) "SwingUnits$Orders" "sizes" "[I") ∈ lw_tbl := List.mem_append_right _ (List.mem_append_left _ (List.mem_of_getElem? (l := tables_1_1) (i := 82) rfl))
theorem tw_83 : (Jvm.Cond.fieldLink "SwingUnits$Orders" (18 : Nat) "SwingUnits$Orders" "days" "[I") ∈ lw_tbl := List.mem_append_right _ (List.mem_append_left _ (List.mem_of_getElem? (l := tables_1_1) (i := 83) rfl))
theorem tw_84 : (Jvm.Cond.fieldLink "SwingUnits$DayEnd" (109 : Nat) "SwingUnits$Orders" "days" "[I") ∈ lw_tbl := List.mem_append_right _ (List.mem_append_left _ (List.mem_of_getElem? (l := tables_1_1) (i := 84) rfl))
theorem tw_85 : (Jvm.Cond.fieldLink "SwingUnits" (180 : Nat) "SwingUnits$Orders" "days" "[I") ∈ lw_tbl := List.mem_append_right _ (List.mem_append_left _ (List.mem_of_getElem? (l := tables_1_1) (i := 85) rfl))
theorem tw_86 : (Jvm.Cond.lays "SwingUnits$Orders" "SwingUnits$Orders" "count" "I") ∈ lw_tbl := List.mem_append_right _ (List.mem_append_left _ (List.mem_of_getElem? (l := tables_1_1) (i := 86) rfl))
theorem tw_87 : (Jvm.Cond.soleField "SwingUnits$Orders" "count") ∈ lw_tbl := List.mem_append_right _ (List.mem_append_left _ (List.mem_of_getElem? (l := tables_1_1) (i := 87) rfl))
theorem tw_88 : (Jvm.Cond.laysFinal "SwingUnits$Orders" "SwingUnits$Orders" "holders" "[I") ∈ lw_tbl := List.mem_append_right _ (List.mem_append_left _ (List.mem_of_getElem? (l := tables_1_1) (i := 88) rfl))
theorem tw_89 : (Jvm.Cond.soleField "SwingUnits$Orders" "holders") ∈ lw_tbl := List.mem_append_right _ (List.mem_append_left _ (List.mem_of_getElem? (l := tables_1_1) (i := 89) rfl))
theorem tw_90 : (Jvm.Cond.laysFinal "SwingUnits$Orders" "SwingUnits$Orders" "sizes" "[I") ∈ lw_tbl := List.mem_append_right _ (List.mem_append_left _ (List.mem_of_getElem? (l := tables_1_1) (i := 90) rfl))
theorem tw_91 : (Jvm.Cond.soleField "SwingUnits$Orders" "sizes") ∈ lw_tbl := List.mem_append_right _ (List.mem_append_left _ (List.mem_of_getElem? (l := tables_1_1) (i := 91) rfl))
theorem tw_92 : (Jvm.Cond.laysFinal "SwingUnits$Orders" "SwingUnits$Orders" "days" "[I") ∈ lw_tbl := List.mem_append_right _ (List.mem_append_left _ (List.mem_of_getElem? (l := tables_1_1) (i := 92) rfl))
theorem tw_93 : (Jvm.Cond.soleField "SwingUnits$Orders" "days") ∈ lw_tbl := List.mem_append_right _ (List.mem_append_left _ (List.mem_of_getElem? (l := tables_1_1) (i := 93) rfl))
theorem tw_94 : (Jvm.Cond.superclass "SwingUnits$Orders" "java/lang/Object") ∈ lw_tbl := List.mem_append_right _ (List.mem_append_left _ (List.mem_of_getElem? (l := tables_1_1) (i := 94) rfl))
theorem tw_95 : (Jvm.Cond.classLink "SwingUnits$Trust" (36 : Nat) "SwingUnits$LastDay") ∈ lw_tbl := List.mem_append_right _ (List.mem_append_left _ (List.mem_of_getElem? (l := tables_1_1) (i := 95) rfl))
theorem tw_96 : (Jvm.Cond.instantiable "SwingUnits$LastDay" (8 : Nat)) ∈ lw_tbl := List.mem_append_right _ (List.mem_append_left _ (List.mem_of_getElem? (l := tables_1_1) (i := 96) rfl))
theorem tw_97 : (Jvm.Cond.methodLink "SwingUnits$Trust" (38 : Nat) ({ cls := "SwingUnits$LastDay", name := "<init>", desc := "()V" } : Jvm.MethodName)) ∈ lw_tbl := List.mem_append_right _ (List.mem_append_left _ (List.mem_of_getElem? (l := tables_1_1) (i := 97) rfl))
theorem tw_98 : (Jvm.Cond.instanceMethod ({ cls := "SwingUnits$LastDay", name := "<init>", desc := "()V" } : Jvm.MethodName)) ∈ lw_tbl := List.mem_append_right _ (List.mem_append_left _ (List.mem_of_getElem? (l := tables_1_1) (i := 98) rfl))
theorem tw_99 : (Jvm.Cond.code ({ cls := "SwingUnits$LastDay", name := "<init>", desc := "()V" } : Jvm.MethodName) prog_5_method_1_code (1 : Nat) (Option.none : Option Jvm.ClassFile.FieldType)) ∈ lw_tbl := List.mem_append_right _ (List.mem_append_left _ (List.mem_of_getElem? (l := tables_1_1) (i := 99) rfl))
theorem tw_100 : (Jvm.Cond.methodLink "SwingUnits$LastDay" (1 : Nat) ({ cls := "java/lang/Object", name := "<init>", desc := "()V" } : Jvm.MethodName)) ∈ lw_tbl := List.mem_append_right _ (List.mem_append_left _ (List.mem_of_getElem? (l := tables_1_1) (i := 100) rfl))
theorem tw_101 : (Jvm.Cond.fieldLink "SwingUnits$LastDay" (7 : Nat) "SwingUnits$LastDay" "ended" "Z") ∈ lw_tbl := List.mem_append_right _ (List.mem_append_left _ (List.mem_of_getElem? (l := tables_1_1) (i := 101) rfl))
theorem tw_102 : (Jvm.Cond.fieldLink "SwingUnits" (187 : Nat) "SwingUnits$LastDay" "ended" "Z") ∈ lw_tbl := List.mem_append_right _ (List.mem_append_left _ (List.mem_of_getElem? (l := tables_1_1) (i := 102) rfl))
theorem tw_103 : (Jvm.Cond.fieldLink "SwingUnits$LastDay" (13 : Nat) "SwingUnits$LastDay" "price" "J") ∈ lw_tbl := List.mem_append_right _ (List.mem_append_left _ (List.mem_of_getElem? (l := tables_1_1) (i := 103) rfl))
theorem tw_104 : (Jvm.Cond.fieldLink "SwingUnits" (220 : Nat) "SwingUnits$LastDay" "price" "J") ∈ lw_tbl := List.mem_append_right _ (List.mem_append_left _ (List.mem_of_getElem? (l := tables_1_1) (i := 104) rfl))
theorem tw_105 : (Jvm.Cond.fieldLink "SwingUnits$LastDay" (17 : Nat) "SwingUnits$LastDay" "made" "J") ∈ lw_tbl := List.mem_append_right _ (List.mem_append_left _ (List.mem_of_getElem? (l := tables_1_1) (i := 105) rfl))
theorem tw_106 : (Jvm.Cond.fieldLink "SwingUnits$DayEnd" (160 : Nat) "SwingUnits$LastDay" "made" "J") ∈ lw_tbl := List.mem_append_right _ (List.mem_append_left _ (List.mem_of_getElem? (l := tables_1_1) (i := 106) rfl))
theorem tw_107 : (Jvm.Cond.fieldLink "SwingUnits" (193 : Nat) "SwingUnits$LastDay" "made" "J") ∈ lw_tbl := List.mem_append_right _ (List.mem_append_left _ (List.mem_of_getElem? (l := tables_1_1) (i := 107) rfl))
theorem tw_108 : (Jvm.Cond.fieldLink "SwingUnits$LastDay" (20 : Nat) "SwingUnits$LastDay" "left" "J") ∈ lw_tbl := List.mem_append_right _ (List.mem_append_left _ (List.mem_of_getElem? (l := tables_1_1) (i := 108) rfl))
theorem tw_109 : (Jvm.Cond.fieldLink "SwingUnits$DayEnd" (146 : Nat) "SwingUnits$LastDay" "left" "J") ∈ lw_tbl := List.mem_append_right _ (List.mem_append_left _ (List.mem_of_getElem? (l := tables_1_1) (i := 109) rfl))
theorem tw_110 : (Jvm.Cond.fieldLink "SwingUnits" (196 : Nat) "SwingUnits$LastDay" "left" "J") ∈ lw_tbl := List.mem_append_right _ (List.mem_append_left _ (List.mem_of_getElem? (l := tables_1_1) (i := 110) rfl))
theorem tw_111 : (Jvm.Cond.fieldLink "SwingUnits$LastDay" (23 : Nat) "SwingUnits$LastDay" "stillWaiting" "J") ∈ lw_tbl := List.mem_append_right _ (List.mem_append_left _ (List.mem_of_getElem? (l := tables_1_1) (i := 111) rfl))
theorem tw_112 : (Jvm.Cond.fieldLink "SwingUnits$DayEnd" (149 : Nat) "SwingUnits$LastDay" "stillWaiting" "J") ∈ lw_tbl := List.mem_append_right _ (List.mem_append_left _ (List.mem_of_getElem? (l := tables_1_1) (i := 112) rfl))
theorem tw_113 : (Jvm.Cond.fieldLink "SwingUnits" (205 : Nat) "SwingUnits$LastDay" "stillWaiting" "J") ∈ lw_tbl := List.mem_append_right _ (List.mem_append_left _ (List.mem_of_getElem? (l := tables_1_1) (i := 113) rfl))
theorem tw_114 : (Jvm.Cond.fieldLink "SwingUnits$LastDay" (26 : Nat) "SwingUnits$LastDay" "givenBack" "J") ∈ lw_tbl := List.mem_append_right _ (List.mem_append_left _ (List.mem_of_getElem? (l := tables_1_1) (i := 114) rfl))
theorem tw_115 : (Jvm.Cond.fieldLink "SwingUnits$DayEnd" (154 : Nat) "SwingUnits$LastDay" "givenBack" "J") ∈ lw_tbl := List.mem_append_right _ (List.mem_append_left _ (List.mem_of_getElem? (l := tables_1_1) (i := 115) rfl))
theorem tw_116 : (Jvm.Cond.fieldLink "SwingUnits" (208 : Nat) "SwingUnits$LastDay" "givenBack" "J") ∈ lw_tbl := List.mem_append_right _ (List.mem_append_left _ (List.mem_of_getElem? (l := tables_1_1) (i := 116) rfl))
theorem tw_117 : (Jvm.Cond.fieldLink "SwingUnits$LastDay" (29 : Nat) "SwingUnits$LastDay" "lotsSold" "I") ∈ lw_tbl := List.mem_append_right _ (List.mem_append_left _ (List.mem_of_getElem? (l := tables_1_1) (i := 117) rfl))
theorem tw_118 : (Jvm.Cond.fieldLink "SwingUnits$DayEnd" (126 : Nat) "SwingUnits$LastDay" "lotsSold" "I") ∈ lw_tbl := List.mem_append_right _ (List.mem_append_left _ (List.mem_of_getElem? (l := tables_1_1) (i := 118) rfl))
theorem tw_119 : (Jvm.Cond.fieldLink "SwingUnits" (199 : Nat) "SwingUnits$LastDay" "lotsSold" "I") ∈ lw_tbl := List.mem_append_right _ (List.mem_append_left _ (List.mem_of_getElem? (l := tables_1_1) (i := 119) rfl))
theorem tw_120 : (Jvm.Cond.fieldLink "SwingUnits$LastDay" (33 : Nat) "SwingUnits$LastDay" "swung" "I") ∈ lw_tbl := List.mem_append_right _ (List.mem_append_left _ (List.mem_of_getElem? (l := tables_1_1) (i := 120) rfl))
theorem tw_121 : (Jvm.Cond.fieldLink "SwingUnits" (202 : Nat) "SwingUnits$LastDay" "swung" "I") ∈ lw_tbl := List.mem_append_right _ (List.mem_append_left _ (List.mem_of_getElem? (l := tables_1_1) (i := 121) rfl))
theorem tw_122 : (Jvm.Cond.lays "SwingUnits$LastDay" "SwingUnits$LastDay" "ended" "Z") ∈ lw_tbl := List.mem_append_right _ (List.mem_append_left _ (List.mem_of_getElem? (l := tables_1_1) (i := 122) rfl))
theorem tw_123 : (Jvm.Cond.soleField "SwingUnits$LastDay" "ended") ∈ lw_tbl := List.mem_append_right _ (List.mem_append_left _ (List.mem_of_getElem? (l := tables_1_1) (i := 123) rfl))
theorem tw_124 : (Jvm.Cond.lays "SwingUnits$LastDay" "SwingUnits$LastDay" "price" "J") ∈ lw_tbl := List.mem_append_right _ (List.mem_append_left _ (List.mem_of_getElem? (l := tables_1_1) (i := 124) rfl))
theorem tw_125 : (Jvm.Cond.soleField "SwingUnits$LastDay" "price") ∈ lw_tbl := List.mem_append_right _ (List.mem_append_left _ (List.mem_of_getElem? (l := tables_1_1) (i := 125) rfl))
theorem tw_126 : (Jvm.Cond.lays "SwingUnits$LastDay" "SwingUnits$LastDay" "made" "J") ∈ lw_tbl := List.mem_append_right _ (List.mem_append_left _ (List.mem_of_getElem? (l := tables_1_1) (i := 126) rfl))
theorem tw_127 : (Jvm.Cond.soleField "SwingUnits$LastDay" "made") ∈ lw_tbl := List.mem_append_right _ (List.mem_append_left _ (List.mem_of_getElem? (l := tables_1_1) (i := 127) rfl))
theorem tw_128 : (Jvm.Cond.lays "SwingUnits$LastDay" "SwingUnits$LastDay" "left" "J") ∈ lw_tbl := List.mem_append_right _ (List.mem_append_left _ (List.mem_of_getElem? (l := tables_1_1) (i := 128) rfl))
theorem tw_129 : (Jvm.Cond.soleField "SwingUnits$LastDay" "left") ∈ lw_tbl := List.mem_append_right _ (List.mem_append_left _ (List.mem_of_getElem? (l := tables_1_1) (i := 129) rfl))
theorem tw_130 : (Jvm.Cond.lays "SwingUnits$LastDay" "SwingUnits$LastDay" "stillWaiting" "J") ∈ lw_tbl := List.mem_append_right _ (List.mem_append_left _ (List.mem_of_getElem? (l := tables_1_1) (i := 130) rfl))
theorem tw_131 : (Jvm.Cond.soleField "SwingUnits$LastDay" "stillWaiting") ∈ lw_tbl := List.mem_append_right _ (List.mem_append_left _ (List.mem_of_getElem? (l := tables_1_1) (i := 131) rfl))
theorem tw_132 : (Jvm.Cond.lays "SwingUnits$LastDay" "SwingUnits$LastDay" "givenBack" "J") ∈ lw_tbl := List.mem_append_right _ (List.mem_append_left _ (List.mem_of_getElem? (l := tables_1_1) (i := 132) rfl))
theorem tw_133 : (Jvm.Cond.soleField "SwingUnits$LastDay" "givenBack") ∈ lw_tbl := List.mem_append_right _ (List.mem_append_left _ (List.mem_of_getElem? (l := tables_1_1) (i := 133) rfl))
theorem tw_134 : (Jvm.Cond.lays "SwingUnits$LastDay" "SwingUnits$LastDay" "lotsSold" "I") ∈ lw_tbl := List.mem_append_right _ (List.mem_append_left _ (List.mem_of_getElem? (l := tables_1_1) (i := 134) rfl))
theorem tw_135 : (Jvm.Cond.soleField "SwingUnits$LastDay" "lotsSold") ∈ lw_tbl := List.mem_append_right _ (List.mem_append_left _ (List.mem_of_getElem? (l := tables_1_1) (i := 135) rfl))
theorem tw_136 : (Jvm.Cond.lays "SwingUnits$LastDay" "SwingUnits$LastDay" "swung" "I") ∈ lw_tbl := List.mem_append_right _ (List.mem_append_left _ (List.mem_of_getElem? (l := tables_1_1) (i := 136) rfl))
theorem tw_137 : (Jvm.Cond.soleField "SwingUnits$LastDay" "swung") ∈ lw_tbl := List.mem_append_right _ (List.mem_append_left _ (List.mem_of_getElem? (l := tables_1_1) (i := 137) rfl))
theorem tw_138 : (Jvm.Cond.superclass "SwingUnits$LastDay" "java/lang/Object") ∈ lw_tbl := List.mem_append_right _ (List.mem_append_left _ (List.mem_of_getElem? (l := tables_1_1) (i := 138) rfl))
theorem tw_139 : (Jvm.Cond.fieldLink "SwingUnits$Trust" (43 : Nat) "SwingUnits$Trust" "cash" "J") ∈ lw_tbl := List.mem_append_right _ (List.mem_append_left _ (List.mem_of_getElem? (l := tables_1_1) (i := 139) rfl))
theorem tw_140 : (Jvm.Cond.fieldLink "SwingUnits$DayEnd" (133 : Nat) "SwingUnits$Trust" "cash" "J") ∈ lw_tbl := List.mem_append_right _ (List.mem_append_left _ (List.mem_of_getElem? (l := tables_1_1) (i := 140) rfl))
theorem tw_141 : (Jvm.Cond.fieldLink "SwingUnits" (133 : Nat) "SwingUnits$Trust" "cash" "J") ∈ lw_tbl := List.mem_append_right _ (List.mem_append_left _ (List.mem_of_getElem? (l := tables_1_1) (i := 141) rfl))
theorem tw_142 : (Jvm.Cond.fieldLink "SwingUnits$Trust" (47 : Nat) "SwingUnits$Trust" "incomePool" "J") ∈ lw_tbl := List.mem_append_right _ (List.mem_append_left _ (List.mem_of_getElem? (l := tables_1_1) (i := 142) rfl))
theorem tw_143 : (Jvm.Cond.fieldLink "SwingUnits" (148 : Nat) "SwingUnits$Trust" "incomePool" "J") ∈ lw_tbl := List.mem_append_right _ (List.mem_append_left _ (List.mem_of_getElem? (l := tables_1_1) (i := 143) rfl))
theorem tw_144 : (Jvm.Cond.fieldLink "SwingUnits$Trust" (50 : Nat) "SwingUnits$Trust" "eveningPool" "J") ∈ lw_tbl := List.mem_append_right _ (List.mem_append_left _ (List.mem_of_getElem? (l := tables_1_1) (i := 144) rfl))
theorem tw_145 : (Jvm.Cond.fieldLink "SwingUnits" (151 : Nat) "SwingUnits$Trust" "eveningPool" "J") ∈ lw_tbl := List.mem_append_right _ (List.mem_append_left _ (List.mem_of_getElem? (l := tables_1_1) (i := 145) rfl))
theorem tw_146 : (Jvm.Cond.fieldLink "SwingUnits$Trust" (53 : Nat) "SwingUnits$Trust" "lots" "I") ∈ lw_tbl := List.mem_append_right _ (List.mem_append_left _ (List.mem_of_getElem? (l := tables_1_1) (i := 146) rfl))
theorem tw_147 : (Jvm.Cond.fieldLink "SwingUnits" (136 : Nat) "SwingUnits$Trust" "lots" "I") ∈ lw_tbl := List.mem_append_right _ (List.mem_append_left _ (List.mem_of_getElem? (l := tables_1_1) (i := 147) rfl))
theorem tw_148 : (Jvm.Cond.fieldLink "SwingUnits$Trust" (9 : Nat) "SwingUnits$Trust" "quote" "I") ∈ lw_tbl := List.mem_append_right _ (List.mem_append_left _ (List.mem_of_getElem? (l := tables_1_1) (i := 148) rfl))
theorem tw_149 : (Jvm.Cond.fieldLink "SwingUnits" (139 : Nat) "SwingUnits$Trust" "quote" "I") ∈ lw_tbl := List.mem_append_right _ (List.mem_append_left _ (List.mem_of_getElem? (l := tables_1_1) (i := 149) rfl))
theorem tw_150 : (Jvm.Cond.fieldLink "SwingUnits$Trust" (56 : Nat) "SwingUnits$Trust" "day" "I") ∈ lw_tbl := List.mem_append_right _ (List.mem_append_left _ (List.mem_of_getElem? (l := tables_1_1) (i := 150) rfl))
theorem tw_151 : (Jvm.Cond.fieldLink "SwingUnits$DayEnd" (39 : Nat) "SwingUnits$Trust" "day" "I") ∈ lw_tbl := List.mem_append_right _ (List.mem_append_left _ (List.mem_of_getElem? (l := tables_1_1) (i := 151) rfl))
theorem tw_152 : (Jvm.Cond.fieldLink "SwingUnits" (154 : Nat) "SwingUnits$Trust" "day" "I") ∈ lw_tbl := List.mem_append_right _ (List.mem_append_left _ (List.mem_of_getElem? (l := tables_1_1) (i := 152) rfl))
theorem tw_153 : (Jvm.Cond.fieldLink "SwingUnits$Trust" (15 : Nat) "SwingUnits$Trust" "settings" "[I") ∈ lw_tbl := List.mem_append_right _ (List.mem_append_left _ (List.mem_of_getElem? (l := tables_1_1) (i := 153) rfl))
theorem tw_154 : (Jvm.Cond.fieldLink "SwingUnits$DayEnd" (84 : Nat) "SwingUnits$Trust" "settings" "[I") ∈ lw_tbl := List.mem_append_right _ (List.mem_append_left _ (List.mem_of_getElem? (l := tables_1_1) (i := 154) rfl))
theorem tw_155 : (Jvm.Cond.fieldLink "SwingUnits" (171 : Nat) "SwingUnits$Trust" "settings" "[I") ∈ lw_tbl := List.mem_append_right _ (List.mem_append_left _ (List.mem_of_getElem? (l := tables_1_1) (i := 155) rfl))
theorem tw_156 : (Jvm.Cond.fieldLink "SwingUnits$Trust" (21 : Nat) "SwingUnits$Trust" "holders" "[LSwingUnits$Holder;") ∈ lw_tbl := List.mem_append_right _ (List.mem_append_left _ (List.mem_of_getElem? (l := tables_1_1) (i := 156) rfl))
theorem tw_157 : (Jvm.Cond.fieldLink "SwingUnits$DayEnd" (136 : Nat) "SwingUnits$Trust" "holders" "[LSwingUnits$Holder;") ∈ lw_tbl := List.mem_append_right _ (List.mem_append_left _ (List.mem_of_getElem? (l := tables_1_1) (i := 157) rfl))
theorem tw_158 : (Jvm.Cond.fieldLink "SwingUnits" (91 : Nat) "SwingUnits$Trust" "holders" "[LSwingUnits$Holder;") ∈ lw_tbl := List.mem_append_right _ (List.mem_append_left _ (List.mem_of_getElem? (l := tables_1_1) (i := 158) rfl))
theorem tw_159 : (Jvm.Cond.fieldLink "SwingUnits$Trust" (29 : Nat) "SwingUnits$Trust" "buying" "LSwingUnits$Orders;") ∈ lw_tbl := List.mem_append_right _ (List.mem_append_left _ (List.mem_of_getElem? (l := tables_1_1) (i := 159) rfl))
theorem tw_160 : (Jvm.Cond.fieldLink "SwingUnits$DayEnd" (57 : Nat) "SwingUnits$Trust" "buying" "LSwingUnits$Orders;") ∈ lw_tbl := List.mem_append_right _ (List.mem_append_left _ (List.mem_of_getElem? (l := tables_1_1) (i := 160) rfl))
theorem tw_161 : (Jvm.Cond.fieldLink "SwingUnits" (157 : Nat) "SwingUnits$Trust" "buying" "LSwingUnits$Orders;") ∈ lw_tbl := List.mem_append_right _ (List.mem_append_left _ (List.mem_of_getElem? (l := tables_1_1) (i := 161) rfl))
theorem tw_162 : (Jvm.Cond.fieldLink "SwingUnits$Trust" (33 : Nat) "SwingUnits$Trust" "leaving" "LSwingUnits$Orders;") ∈ lw_tbl := List.mem_append_right _ (List.mem_append_left _ (List.mem_of_getElem? (l := tables_1_1) (i := 162) rfl))
theorem tw_163 : (Jvm.Cond.fieldLink "SwingUnits$DayEnd" (35 : Nat) "SwingUnits$Trust" "leaving" "LSwingUnits$Orders;") ∈ lw_tbl := List.mem_append_right _ (List.mem_append_left _ (List.mem_of_getElem? (l := tables_1_1) (i := 163) rfl))
theorem tw_164 : (Jvm.Cond.fieldLink "SwingUnits" (108 : Nat) "SwingUnits$Trust" "leaving" "LSwingUnits$Orders;") ∈ lw_tbl := List.mem_append_right _ (List.mem_append_left _ (List.mem_of_getElem? (l := tables_1_1) (i := 164) rfl))
theorem tw_165 : (Jvm.Cond.fieldLink "SwingUnits$Trust" (39 : Nat) "SwingUnits$Trust" "last" "LSwingUnits$LastDay;") ∈ lw_tbl := List.mem_append_right _ (List.mem_append_left _ (List.mem_of_getElem? (l := tables_1_1) (i := 165) rfl))
theorem tw_166 : (Jvm.Cond.fieldLink "SwingUnits$DayEnd" (23 : Nat) "SwingUnits$Trust" "last" "LSwingUnits$LastDay;") ∈ lw_tbl := List.mem_append_right _ (List.mem_append_left _ (List.mem_of_getElem? (l := tables_1_1) (i := 166) rfl))
theorem tw_167 : (Jvm.Cond.fieldLink "SwingUnits" (183 : Nat) "SwingUnits$Trust" "last" "LSwingUnits$LastDay;") ∈ lw_tbl := List.mem_append_right _ (List.mem_append_left _ (List.mem_of_getElem? (l := tables_1_1) (i := 167) rfl))
theorem tw_168 : (Jvm.Cond.lays "SwingUnits$Trust" "SwingUnits$Trust" "cash" "J") ∈ lw_tbl := List.mem_append_right _ (List.mem_append_left _ (List.mem_of_getElem? (l := tables_1_1) (i := 168) rfl))
theorem tw_169 : (Jvm.Cond.soleField "SwingUnits$Trust" "cash") ∈ lw_tbl := List.mem_append_right _ (List.mem_append_left _ (List.mem_of_getElem? (l := tables_1_1) (i := 169) rfl))
theorem tw_170 : (Jvm.Cond.lays "SwingUnits$Trust" "SwingUnits$Trust" "incomePool" "J") ∈ lw_tbl := List.mem_append_right _ (List.mem_append_left _ (List.mem_of_getElem? (l := tables_1_1) (i := 170) rfl))
theorem tw_171 : (Jvm.Cond.soleField "SwingUnits$Trust" "incomePool") ∈ lw_tbl := List.mem_append_right _ (List.mem_append_left _ (List.mem_of_getElem? (l := tables_1_1) (i := 171) rfl))
theorem tw_172 : (Jvm.Cond.lays "SwingUnits$Trust" "SwingUnits$Trust" "eveningPool" "J") ∈ lw_tbl := List.mem_append_right _ (List.mem_append_left _ (List.mem_of_getElem? (l := tables_1_1) (i := 172) rfl))
theorem tw_173 : (Jvm.Cond.soleField "SwingUnits$Trust" "eveningPool") ∈ lw_tbl := List.mem_append_right _ (List.mem_append_left _ (List.mem_of_getElem? (l := tables_1_1) (i := 173) rfl))
theorem tw_174 : (Jvm.Cond.lays "SwingUnits$Trust" "SwingUnits$Trust" "lots" "I") ∈ lw_tbl := List.mem_append_right _ (List.mem_append_left _ (List.mem_of_getElem? (l := tables_1_1) (i := 174) rfl))
theorem tw_175 : (Jvm.Cond.soleField "SwingUnits$Trust" "lots") ∈ lw_tbl := List.mem_append_right _ (List.mem_append_left _ (List.mem_of_getElem? (l := tables_1_1) (i := 175) rfl))
theorem tw_176 : (Jvm.Cond.lays "SwingUnits$Trust" "SwingUnits$Trust" "quote" "I") ∈ lw_tbl := List.mem_append_right _ (List.mem_append_left _ (List.mem_of_getElem? (l := tables_1_1) (i := 176) rfl))
theorem tw_177 : (Jvm.Cond.soleField "SwingUnits$Trust" "quote") ∈ lw_tbl := List.mem_append_right _ (List.mem_append_left _ (List.mem_of_getElem? (l := tables_1_1) (i := 177) rfl))
theorem tw_178 : (Jvm.Cond.lays "SwingUnits$Trust" "SwingUnits$Trust" "day" "I") ∈ lw_tbl := List.mem_append_right _ (List.mem_append_left _ (List.mem_of_getElem? (l := tables_1_1) (i := 178) rfl))
theorem tw_179 : (Jvm.Cond.soleField "SwingUnits$Trust" "day") ∈ lw_tbl := List.mem_append_right _ (List.mem_append_left _ (List.mem_of_getElem? (l := tables_1_1) (i := 179) rfl))
theorem tw_180 : (Jvm.Cond.laysFinal "SwingUnits$Trust" "SwingUnits$Trust" "settings" "[I") ∈ lw_tbl := List.mem_append_right _ (List.mem_append_left _ (List.mem_of_getElem? (l := tables_1_1) (i := 180) rfl))
theorem tw_181 : (Jvm.Cond.soleField "SwingUnits$Trust" "settings") ∈ lw_tbl := List.mem_append_right _ (List.mem_append_left _ (List.mem_of_getElem? (l := tables_1_1) (i := 181) rfl))
theorem tw_182 : (Jvm.Cond.laysFinal "SwingUnits$Trust" "SwingUnits$Trust" "holders" "[LSwingUnits$Holder;") ∈ lw_tbl := List.mem_append_right _ (List.mem_append_left _ (List.mem_of_getElem? (l := tables_1_1) (i := 182) rfl))
theorem tw_183 : (Jvm.Cond.soleField "SwingUnits$Trust" "holders") ∈ lw_tbl := List.mem_append_right _ (List.mem_append_left _ (List.mem_of_getElem? (l := tables_1_1) (i := 183) rfl))
theorem tw_184 : (Jvm.Cond.laysFinal "SwingUnits$Trust" "SwingUnits$Trust" "buying" "LSwingUnits$Orders;") ∈ lw_tbl := List.mem_append_right _ (List.mem_append_left _ (List.mem_of_getElem? (l := tables_1_1) (i := 184) rfl))
theorem tw_185 : (Jvm.Cond.soleField "SwingUnits$Trust" "buying") ∈ lw_tbl := List.mem_append_right _ (List.mem_append_left _ (List.mem_of_getElem? (l := tables_1_1) (i := 185) rfl))
theorem tw_186 : (Jvm.Cond.laysFinal "SwingUnits$Trust" "SwingUnits$Trust" "leaving" "LSwingUnits$Orders;") ∈ lw_tbl := List.mem_append_right _ (List.mem_append_left _ (List.mem_of_getElem? (l := tables_1_1) (i := 186) rfl))
theorem tw_187 : (Jvm.Cond.soleField "SwingUnits$Trust" "leaving") ∈ lw_tbl := List.mem_append_right _ (List.mem_append_left _ (List.mem_of_getElem? (l := tables_1_1) (i := 187) rfl))
theorem tw_188 : (Jvm.Cond.laysFinal "SwingUnits$Trust" "SwingUnits$Trust" "last" "LSwingUnits$LastDay;") ∈ lw_tbl := List.mem_append_right _ (List.mem_append_left _ (List.mem_of_getElem? (l := tables_1_1) (i := 188) rfl))
theorem tw_189 : (Jvm.Cond.soleField "SwingUnits$Trust" "last") ∈ lw_tbl := List.mem_append_right _ (List.mem_append_left _ (List.mem_of_getElem? (l := tables_1_1) (i := 189) rfl))
theorem tw_190 : (Jvm.Cond.superclass "SwingUnits$Trust" "java/lang/Object") ∈ lw_tbl := List.mem_append_right _ (List.mem_append_left _ (List.mem_of_getElem? (l := tables_1_1) (i := 190) rfl))
theorem tw_191 : (Jvm.Cond.classLink "SwingUnits" (19 : Nat) "SwingUnits$DayEnd") ∈ lw_tbl := List.mem_append_right _ (List.mem_append_left _ (List.mem_of_getElem? (l := tables_1_1) (i := 191) rfl))
theorem tw_192 : (Jvm.Cond.instantiable "SwingUnits$DayEnd" (7 : Nat)) ∈ lw_tbl := List.mem_append_right _ (List.mem_append_left _ (List.mem_of_getElem? (l := tables_1_1) (i := 192) rfl))
theorem tw_193 : (Jvm.Cond.methodLink "SwingUnits" (21 : Nat) ({ cls := "SwingUnits$DayEnd", name := "<init>", desc := "()V" } : Jvm.MethodName)) ∈ lw_tbl := List.mem_append_right _ (List.mem_append_left _ (List.mem_of_getElem? (l := tables_1_1) (i := 193) rfl))
theorem tw_194 : (Jvm.Cond.instanceMethod ({ cls := "SwingUnits$DayEnd", name := "<init>", desc := "()V" } : Jvm.MethodName)) ∈ lw_tbl := List.mem_append_right _ (List.mem_append_left _ (List.mem_of_getElem? (l := tables_1_1) (i := 194) rfl))
theorem tw_195 : (Jvm.Cond.code ({ cls := "SwingUnits$DayEnd", name := "<init>", desc := "()V" } : Jvm.MethodName) prog_2_method_1_code (1 : Nat) (Option.none : Option Jvm.ClassFile.FieldType)) ∈ lw_tbl := List.mem_append_right _ (List.mem_append_left _ (List.mem_of_getElem? (l := tables_1_1) (i := 195) rfl))
theorem tw_196 : (Jvm.Cond.methodLink "SwingUnits$DayEnd" (3 : Nat) ({ cls := "java/lang/Object", name := "<init>", desc := "()V" } : Jvm.MethodName)) ∈ lw_tbl := List.mem_append_right _ (List.mem_append_left _ (List.mem_of_getElem? (l := tables_1_1) (i := 196) rfl))
theorem tw_197 : (Jvm.Cond.fieldLink "SwingUnits$DayEnd" (67 : Nat) "SwingUnits$DayEnd" "middle" "J") ∈ lw_tbl := List.mem_append_right _ (List.mem_append_left _ (List.mem_of_getElem? (l := tables_1_1) (i := 197) rfl))
theorem tw_198 : (Jvm.Cond.fieldLink "SwingUnits$DayEnd" (72 : Nat) "SwingUnits$DayEnd" "unitIncome" "J") ∈ lw_tbl := List.mem_append_right _ (List.mem_append_left _ (List.mem_of_getElem? (l := tables_1_1) (i := 198) rfl))
theorem tw_199 : (Jvm.Cond.fieldLink "SwingUnits$DayEnd" (19 : Nat) "SwingUnits$DayEnd" "price" "J") ∈ lw_tbl := List.mem_append_right _ (List.mem_append_left _ (List.mem_of_getElem? (l := tables_1_1) (i := 199) rfl))
theorem tw_200 : (Jvm.Cond.fieldLink "SwingUnits$LastDay" (36 : Nat) "SwingUnits$DayEnd" "price" "J") ∈ lw_tbl := List.mem_append_right _ (List.mem_append_left _ (List.mem_of_getElem? (l := tables_1_1) (i := 200) rfl))
theorem tw_201 : (Jvm.Cond.fieldLink "SwingUnits$LastDay" (40 : Nat) "SwingUnits$DayEnd" "wanted" "J") ∈ lw_tbl := List.mem_append_right _ (List.mem_append_left _ (List.mem_of_getElem? (l := tables_1_1) (i := 201) rfl))
theorem tw_202 : (Jvm.Cond.fieldLink "SwingUnits$DayEnd" (81 : Nat) "SwingUnits$DayEnd" "wanted" "J") ∈ lw_tbl := List.mem_append_right _ (List.mem_append_left _ (List.mem_of_getElem? (l := tables_1_1) (i := 202) rfl))
theorem tw_203 : (Jvm.Cond.fieldLink "SwingUnits$DayEnd" (96 : Nat) "SwingUnits$DayEnd" "allowed" "J") ∈ lw_tbl := List.mem_append_right _ (List.mem_append_left _ (List.mem_of_getElem? (l := tables_1_1) (i := 203) rfl))
theorem tw_204 : (Jvm.Cond.fieldLink "SwingUnits$LastDay" (39 : Nat) "SwingUnits$DayEnd" "swung" "I") ∈ lw_tbl := List.mem_append_right _ (List.mem_append_left _ (List.mem_of_getElem? (l := tables_1_1) (i := 204) rfl))
theorem tw_205 : (Jvm.Cond.fieldLink "SwingUnits$DayEnd" (106 : Nat) "SwingUnits$DayEnd" "swung" "I") ∈ lw_tbl := List.mem_append_right _ (List.mem_append_left _ (List.mem_of_getElem? (l := tables_1_1) (i := 205) rfl))
theorem tw_206 : (Jvm.Cond.fieldLink "SwingUnits$DayEnd" (9 : Nat) "SwingUnits$DayEnd" "shares" "[J") ∈ lw_tbl := List.mem_append_right _ (List.mem_append_left _ (List.mem_of_getElem? (l := tables_1_1) (i := 206) rfl))
theorem tw_207 : (Jvm.Cond.lays "SwingUnits$DayEnd" "SwingUnits$DayEnd" "middle" "J") ∈ lw_tbl := List.mem_append_right _ (List.mem_append_left _ (List.mem_of_getElem? (l := tables_1_1) (i := 207) rfl))
theorem tw_208 : (Jvm.Cond.soleField "SwingUnits$DayEnd" "middle") ∈ lw_tbl := List.mem_append_right _ (List.mem_append_left _ (List.mem_of_getElem? (l := tables_1_1) (i := 208) rfl))
theorem tw_209 : (Jvm.Cond.lays "SwingUnits$DayEnd" "SwingUnits$DayEnd" "unitIncome" "J") ∈ lw_tbl := List.mem_append_right _ (List.mem_append_left _ (List.mem_of_getElem? (l := tables_1_1) (i := 209) rfl))
theorem tw_210 : (Jvm.Cond.soleField "SwingUnits$DayEnd" "unitIncome") ∈ lw_tbl := List.mem_append_right _ (List.mem_append_left _ (List.mem_of_getElem? (l := tables_1_1) (i := 210) rfl))
theorem tw_211 : (Jvm.Cond.lays "SwingUnits$DayEnd" "SwingUnits$DayEnd" "price" "J") ∈ lw_tbl := List.mem_append_right _ (List.mem_append_left _ (List.mem_of_getElem? (l := tables_1_1) (i := 211) rfl))
theorem tw_212 : (Jvm.Cond.soleField "SwingUnits$DayEnd" "price") ∈ lw_tbl := List.mem_append_right _ (List.mem_append_left _ (List.mem_of_getElem? (l := tables_1_1) (i := 212) rfl))
theorem tw_213 : (Jvm.Cond.lays "SwingUnits$DayEnd" "SwingUnits$DayEnd" "wanted" "J") ∈ lw_tbl := List.mem_append_right _ (List.mem_append_left _ (List.mem_of_getElem? (l := tables_1_1) (i := 213) rfl))
theorem tw_214 : (Jvm.Cond.soleField "SwingUnits$DayEnd" "wanted") ∈ lw_tbl := List.mem_append_right _ (List.mem_append_left _ (List.mem_of_getElem? (l := tables_1_1) (i := 214) rfl))
theorem tw_215 : (Jvm.Cond.lays "SwingUnits$DayEnd" "SwingUnits$DayEnd" "allowed" "J") ∈ lw_tbl := List.mem_append_right _ (List.mem_append_left _ (List.mem_of_getElem? (l := tables_1_1) (i := 215) rfl))
theorem tw_216 : (Jvm.Cond.soleField "SwingUnits$DayEnd" "allowed") ∈ lw_tbl := List.mem_append_right _ (List.mem_append_left _ (List.mem_of_getElem? (l := tables_1_1) (i := 216) rfl))
theorem tw_217 : (Jvm.Cond.lays "SwingUnits$DayEnd" "SwingUnits$DayEnd" "swung" "I") ∈ lw_tbl := List.mem_append_right _ (List.mem_append_left _ (List.mem_of_getElem? (l := tables_1_1) (i := 217) rfl))
theorem tw_218 : (Jvm.Cond.soleField "SwingUnits$DayEnd" "swung") ∈ lw_tbl := List.mem_append_right _ (List.mem_append_left _ (List.mem_of_getElem? (l := tables_1_1) (i := 218) rfl))
theorem tw_219 : (Jvm.Cond.laysFinal "SwingUnits$DayEnd" "SwingUnits$DayEnd" "shares" "[J") ∈ lw_tbl := List.mem_append_right _ (List.mem_append_left _ (List.mem_of_getElem? (l := tables_1_1) (i := 219) rfl))
theorem tw_220 : (Jvm.Cond.soleField "SwingUnits$DayEnd" "shares") ∈ lw_tbl := List.mem_append_right _ (List.mem_append_left _ (List.mem_of_getElem? (l := tables_1_1) (i := 220) rfl))
theorem tw_221 : (Jvm.Cond.superclass "SwingUnits$DayEnd" "java/lang/Object") ∈ lw_tbl := List.mem_append_right _ (List.mem_append_left _ (List.mem_of_getElem? (l := tables_1_1) (i := 221) rfl))
theorem tw_222 : (Jvm.Cond.arrayClass Jvm.ClassFile.FieldType.long) ∈ lw_tbl := List.mem_append_right _ (List.mem_append_left _ (List.mem_of_getElem? (l := tables_1_1) (i := 222) rfl))
theorem tw_223 : (Jvm.Cond.classLink "SwingUnits" (26 : Nat) "SwingUnits$Pad") ∈ lw_tbl := List.mem_append_right _ (List.mem_append_left _ (List.mem_of_getElem? (l := tables_1_1) (i := 223) rfl))
theorem tw_224 : (Jvm.Cond.instantiable "SwingUnits$Pad" (7 : Nat)) ∈ lw_tbl := List.mem_append_right _ (List.mem_append_left _ (List.mem_of_getElem? (l := tables_1_1) (i := 224) rfl))
theorem tw_225 : (Jvm.Cond.methodLink "SwingUnits" (28 : Nat) ({ cls := "SwingUnits$Pad", name := "<init>", desc := "()V" } : Jvm.MethodName)) ∈ lw_tbl := List.mem_append_right _ (List.mem_append_left _ (List.mem_of_getElem? (l := tables_1_1) (i := 225) rfl))
theorem tw_226 : (Jvm.Cond.instanceMethod ({ cls := "SwingUnits$Pad", name := "<init>", desc := "()V" } : Jvm.MethodName)) ∈ lw_tbl := List.mem_append_right _ (List.mem_append_left _ (List.mem_of_getElem? (l := tables_1_1) (i := 226) rfl))
theorem tw_227 : (Jvm.Cond.code ({ cls := "SwingUnits$Pad", name := "<init>", desc := "()V" } : Jvm.MethodName) prog_7_method_1_code (1 : Nat) (Option.none : Option Jvm.ClassFile.FieldType)) ∈ lw_tbl := List.mem_append_right _ (List.mem_append_left _ (List.mem_of_getElem? (l := tables_1_1) (i := 227) rfl))
theorem tw_228 : (Jvm.Cond.methodLink "SwingUnits$Pad" (3 : Nat) ({ cls := "java/lang/Object", name := "<init>", desc := "()V" } : Jvm.MethodName)) ∈ lw_tbl := List.mem_append_right _ (List.mem_append_left _ (List.mem_of_getElem? (l := tables_1_1) (i := 228) rfl))
theorem tw_229 : (Jvm.Cond.fieldLink "SwingUnits$Pad" (21 : Nat) "SwingUnits$Pad" "length" "I") ∈ lw_tbl := List.mem_append_right _ (List.mem_append_left _ (List.mem_of_getElem? (l := tables_1_1) (i := 229) rfl))
theorem tw_230 : (Jvm.Cond.fieldLink "SwingUnits" (167 : Nat) "SwingUnits$Pad" "length" "I") ∈ lw_tbl := List.mem_append_right _ (List.mem_append_left _ (List.mem_of_getElem? (l := tables_1_1) (i := 230) rfl))
theorem tw_231 : (Jvm.Cond.fieldLink "SwingUnits$Pad" (9 : Nat) "SwingUnits$Pad" "signs" "[C") ∈ lw_tbl := List.mem_append_right _ (List.mem_append_left _ (List.mem_of_getElem? (l := tables_1_1) (i := 231) rfl))
theorem tw_232 : (Jvm.Cond.fieldLink "SwingUnits$Pad" (25 : Nat) "SwingUnits$Pad" "at" "I") ∈ lw_tbl := List.mem_append_right _ (List.mem_append_left _ (List.mem_of_getElem? (l := tables_1_1) (i := 232) rfl))
theorem tw_233 : (Jvm.Cond.fieldLink "SwingUnits$Pad" (62 : Nat) "SwingUnits$Pad" "holder" "I") ∈ lw_tbl := List.mem_append_right _ (List.mem_append_left _ (List.mem_of_getElem? (l := tables_1_1) (i := 233) rfl))
theorem tw_234 : (Jvm.Cond.fieldLink "SwingUnits" (269 : Nat) "SwingUnits$Pad" "holder" "I") ∈ lw_tbl := List.mem_append_right _ (List.mem_append_left _ (List.mem_of_getElem? (l := tables_1_1) (i := 234) rfl))
theorem tw_235 : (Jvm.Cond.fieldLink "SwingUnits$Pad" (55 : Nat) "SwingUnits$Pad" "number" "I") ∈ lw_tbl := List.mem_append_right _ (List.mem_append_left _ (List.mem_of_getElem? (l := tables_1_1) (i := 235) rfl))
theorem tw_236 : (Jvm.Cond.fieldLink "SwingUnits" (272 : Nat) "SwingUnits$Pad" "number" "I") ∈ lw_tbl := List.mem_append_right _ (List.mem_append_left _ (List.mem_of_getElem? (l := tables_1_1) (i := 236) rfl))
theorem tw_237 : (Jvm.Cond.fieldLink "SwingUnits$Pad" (69 : Nat) "SwingUnits$Pad" "hour" "I") ∈ lw_tbl := List.mem_append_right _ (List.mem_append_left _ (List.mem_of_getElem? (l := tables_1_1) (i := 237) rfl))
theorem tw_238 : (Jvm.Cond.fieldLink "SwingUnits" (275 : Nat) "SwingUnits$Pad" "hour" "I") ∈ lw_tbl := List.mem_append_right _ (List.mem_append_left _ (List.mem_of_getElem? (l := tables_1_1) (i := 238) rfl))
theorem tw_239 : (Jvm.Cond.fieldLink "SwingUnits$Pad" (43 : Nat) "SwingUnits$Pad" "kind" "C") ∈ lw_tbl := List.mem_append_right _ (List.mem_append_left _ (List.mem_of_getElem? (l := tables_1_1) (i := 239) rfl))
theorem tw_240 : (Jvm.Cond.fieldLink "SwingUnits" (265 : Nat) "SwingUnits$Pad" "kind" "C") ∈ lw_tbl := List.mem_append_right _ (List.mem_append_right _ (List.mem_append_left _ (List.mem_of_getElem? (l := tables_1_2) (i := 0) rfl)))
theorem tw_241 : (Jvm.Cond.lays "SwingUnits$Pad" "SwingUnits$Pad" "length" "I") ∈ lw_tbl := List.mem_append_right _ (List.mem_append_right _ (List.mem_append_left _ (List.mem_of_getElem? (l := tables_1_2) (i := 1) rfl)))
theorem tw_242 : (Jvm.Cond.soleField "SwingUnits$Pad" "length") ∈ lw_tbl := List.mem_append_right _ (List.mem_append_right _ (List.mem_append_left _ (List.mem_of_getElem? (l := tables_1_2) (i := 2) rfl)))
theorem tw_243 : (Jvm.Cond.laysFinal "SwingUnits$Pad" "SwingUnits$Pad" "signs" "[C") ∈ lw_tbl := List.mem_append_right _ (List.mem_append_right _ (List.mem_append_left _ (List.mem_of_getElem? (l := tables_1_2) (i := 3) rfl)))
theorem tw_244 : (Jvm.Cond.soleField "SwingUnits$Pad" "signs") ∈ lw_tbl := List.mem_append_right _ (List.mem_append_right _ (List.mem_append_left _ (List.mem_of_getElem? (l := tables_1_2) (i := 4) rfl)))
theorem tw_245 : (Jvm.Cond.lays "SwingUnits$Pad" "SwingUnits$Pad" "at" "I") ∈ lw_tbl := List.mem_append_right _ (List.mem_append_right _ (List.mem_append_left _ (List.mem_of_getElem? (l := tables_1_2) (i := 5) rfl)))
theorem tw_246 : (Jvm.Cond.soleField "SwingUnits$Pad" "at") ∈ lw_tbl := List.mem_append_right _ (List.mem_append_right _ (List.mem_append_left _ (List.mem_of_getElem? (l := tables_1_2) (i := 6) rfl)))
theorem tw_247 : (Jvm.Cond.lays "SwingUnits$Pad" "SwingUnits$Pad" "holder" "I") ∈ lw_tbl := List.mem_append_right _ (List.mem_append_right _ (List.mem_append_left _ (List.mem_of_getElem? (l := tables_1_2) (i := 7) rfl)))
theorem tw_248 : (Jvm.Cond.soleField "SwingUnits$Pad" "holder") ∈ lw_tbl := List.mem_append_right _ (List.mem_append_right _ (List.mem_append_left _ (List.mem_of_getElem? (l := tables_1_2) (i := 8) rfl)))
theorem tw_249 : (Jvm.Cond.lays "SwingUnits$Pad" "SwingUnits$Pad" "number" "I") ∈ lw_tbl := List.mem_append_right _ (List.mem_append_right _ (List.mem_append_left _ (List.mem_of_getElem? (l := tables_1_2) (i := 9) rfl)))
theorem tw_250 : (Jvm.Cond.soleField "SwingUnits$Pad" "number") ∈ lw_tbl := List.mem_append_right _ (List.mem_append_right _ (List.mem_append_left _ (List.mem_of_getElem? (l := tables_1_2) (i := 10) rfl)))
theorem tw_251 : (Jvm.Cond.lays "SwingUnits$Pad" "SwingUnits$Pad" "hour" "I") ∈ lw_tbl := List.mem_append_right _ (List.mem_append_right _ (List.mem_append_left _ (List.mem_of_getElem? (l := tables_1_2) (i := 11) rfl)))
theorem tw_252 : (Jvm.Cond.soleField "SwingUnits$Pad" "hour") ∈ lw_tbl := List.mem_append_right _ (List.mem_append_right _ (List.mem_append_left _ (List.mem_of_getElem? (l := tables_1_2) (i := 12) rfl)))
theorem tw_253 : (Jvm.Cond.lays "SwingUnits$Pad" "SwingUnits$Pad" "kind" "C") ∈ lw_tbl := List.mem_append_right _ (List.mem_append_right _ (List.mem_append_left _ (List.mem_of_getElem? (l := tables_1_2) (i := 13) rfl)))
theorem tw_254 : (Jvm.Cond.soleField "SwingUnits$Pad" "kind") ∈ lw_tbl := List.mem_append_right _ (List.mem_append_right _ (List.mem_append_left _ (List.mem_of_getElem? (l := tables_1_2) (i := 14) rfl)))
theorem tw_255 : (Jvm.Cond.superclass "SwingUnits$Pad" "java/lang/Object") ∈ lw_tbl := List.mem_append_right _ (List.mem_append_right _ (List.mem_append_left _ (List.mem_of_getElem? (l := tables_1_2) (i := 15) rfl)))
theorem tw_256 : (Jvm.Cond.arrayClass Jvm.ClassFile.FieldType.char) ∈ lw_tbl := List.mem_append_right _ (List.mem_append_right _ (List.mem_append_left _ (List.mem_of_getElem? (l := tables_1_2) (i := 16) rfl)))
theorem tw_257 : (Jvm.Cond.classLink "SwingUnits" (33 : Nat) "SwingUnits$History") ∈ lw_tbl := List.mem_append_right _ (List.mem_append_right _ (List.mem_append_left _ (List.mem_of_getElem? (l := tables_1_2) (i := 17) rfl)))
theorem tw_258 : (Jvm.Cond.instantiable "SwingUnits$History" (3 : Nat)) ∈ lw_tbl := List.mem_append_right _ (List.mem_append_right _ (List.mem_append_left _ (List.mem_of_getElem? (l := tables_1_2) (i := 18) rfl)))
theorem tw_259 : (Jvm.Cond.methodLink "SwingUnits" (35 : Nat) ({ cls := "SwingUnits$History", name := "<init>", desc := "()V" } : Jvm.MethodName)) ∈ lw_tbl := List.mem_append_right _ (List.mem_append_right _ (List.mem_append_left _ (List.mem_of_getElem? (l := tables_1_2) (i := 19) rfl)))
theorem tw_260 : (Jvm.Cond.instanceMethod ({ cls := "SwingUnits$History", name := "<init>", desc := "()V" } : Jvm.MethodName)) ∈ lw_tbl := List.mem_append_right _ (List.mem_append_right _ (List.mem_append_left _ (List.mem_of_getElem? (l := tables_1_2) (i := 20) rfl)))
theorem tw_261 : (Jvm.Cond.code ({ cls := "SwingUnits$History", name := "<init>", desc := "()V" } : Jvm.MethodName) prog_3_method_1_code (2 : Nat) (Option.none : Option Jvm.ClassFile.FieldType)) ∈ lw_tbl := List.mem_append_right _ (List.mem_append_right _ (List.mem_append_left _ (List.mem_of_getElem? (l := tables_1_2) (i := 21) rfl)))
theorem tw_262 : (Jvm.Cond.methodLink "SwingUnits$History" (3 : Nat) ({ cls := "java/lang/Object", name := "<init>", desc := "()V" } : Jvm.MethodName)) ∈ lw_tbl := List.mem_append_right _ (List.mem_append_right _ (List.mem_append_left _ (List.mem_of_getElem? (l := tables_1_2) (i := 22) rfl)))
theorem tw_263 : (Jvm.Cond.classLink "SwingUnits$History" (9 : Nat) "SwingUnits$Trust") ∈ lw_tbl := List.mem_append_right _ (List.mem_append_right _ (List.mem_append_left _ (List.mem_of_getElem? (l := tables_1_2) (i := 23) rfl)))
theorem tw_264 : (Jvm.Cond.arrayOver (Jvm.ClassFile.FieldType.object "SwingUnits$Trust")) ∈ lw_tbl := List.mem_append_right _ (List.mem_append_right _ (List.mem_append_left _ (List.mem_of_getElem? (l := tables_1_2) (i := 24) rfl)))
theorem tw_265 : (Jvm.Cond.methodLink "SwingUnits$History" (17 : Nat) ({ cls := "SwingUnits$Trust", name := "<init>", desc := "()V" } : Jvm.MethodName)) ∈ lw_tbl := List.mem_append_right _ (List.mem_append_right _ (List.mem_append_left _ (List.mem_of_getElem? (l := tables_1_2) (i := 25) rfl)))
theorem tw_266 : (Jvm.Cond.fieldLink "SwingUnits$History" (11 : Nat) "SwingUnits$History" "states" "[LSwingUnits$Trust;") ∈ lw_tbl := List.mem_append_right _ (List.mem_append_right _ (List.mem_append_left _ (List.mem_of_getElem? (l := tables_1_2) (i := 26) rfl)))
theorem tw_267 : (Jvm.Cond.fieldLink "SwingUnits$History" (18 : Nat) "SwingUnits$History" "first" "I") ∈ lw_tbl := List.mem_append_right _ (List.mem_append_right _ (List.mem_append_left _ (List.mem_of_getElem? (l := tables_1_2) (i := 27) rfl)))
theorem tw_268 : (Jvm.Cond.fieldLink "SwingUnits$History" (22 : Nat) "SwingUnits$History" "count" "I") ∈ lw_tbl := List.mem_append_right _ (List.mem_append_right _ (List.mem_append_left _ (List.mem_of_getElem? (l := tables_1_2) (i := 28) rfl)))
theorem tw_269 : (Jvm.Cond.fieldLink "SwingUnits" (170 : Nat) "SwingUnits$History" "count" "I") ∈ lw_tbl := List.mem_append_right _ (List.mem_append_right _ (List.mem_append_left _ (List.mem_of_getElem? (l := tables_1_2) (i := 29) rfl)))
theorem tw_270 : (Jvm.Cond.laysFinal "SwingUnits$History" "SwingUnits$History" "states" "[LSwingUnits$Trust;") ∈ lw_tbl := List.mem_append_right _ (List.mem_append_right _ (List.mem_append_left _ (List.mem_of_getElem? (l := tables_1_2) (i := 30) rfl)))
theorem tw_271 : (Jvm.Cond.soleField "SwingUnits$History" "states") ∈ lw_tbl := List.mem_append_right _ (List.mem_append_right _ (List.mem_append_left _ (List.mem_of_getElem? (l := tables_1_2) (i := 31) rfl)))
theorem tw_272 : (Jvm.Cond.lays "SwingUnits$History" "SwingUnits$History" "first" "I") ∈ lw_tbl := List.mem_append_right _ (List.mem_append_right _ (List.mem_append_left _ (List.mem_of_getElem? (l := tables_1_2) (i := 32) rfl)))
theorem tw_273 : (Jvm.Cond.soleField "SwingUnits$History" "first") ∈ lw_tbl := List.mem_append_right _ (List.mem_append_right _ (List.mem_append_left _ (List.mem_of_getElem? (l := tables_1_2) (i := 33) rfl)))
theorem tw_274 : (Jvm.Cond.lays "SwingUnits$History" "SwingUnits$History" "count" "I") ∈ lw_tbl := List.mem_append_right _ (List.mem_append_right _ (List.mem_append_left _ (List.mem_of_getElem? (l := tables_1_2) (i := 34) rfl)))
theorem tw_275 : (Jvm.Cond.soleField "SwingUnits$History" "count") ∈ lw_tbl := List.mem_append_right _ (List.mem_append_right _ (List.mem_append_left _ (List.mem_of_getElem? (l := tables_1_2) (i := 35) rfl)))
theorem tw_276 : (Jvm.Cond.superclass "SwingUnits$History" "java/lang/Object") ∈ lw_tbl := List.mem_append_right _ (List.mem_append_right _ (List.mem_append_left _ (List.mem_of_getElem? (l := tables_1_2) (i := 36) rfl)))
theorem tw_277 : (Jvm.Cond.fieldLink "SwingUnits" (10 : Nat) "SwingUnits" "trust" "LSwingUnits$Trust;") ∈ lw_tbl := List.mem_append_right _ (List.mem_append_right _ (List.mem_append_left _ (List.mem_of_getElem? (l := tables_1_2) (i := 37) rfl)))
theorem tw_278 : (Jvm.Cond.fieldLink "SwingUnits" (16 : Nat) "SwingUnits" "trial" "LSwingUnits$Trust;") ∈ lw_tbl := List.mem_append_right _ (List.mem_append_right _ (List.mem_append_left _ (List.mem_of_getElem? (l := tables_1_2) (i := 38) rfl)))
theorem tw_279 : (Jvm.Cond.fieldLink "SwingUnits" (22 : Nat) "SwingUnits" "dayEnd" "LSwingUnits$DayEnd;") ∈ lw_tbl := List.mem_append_right _ (List.mem_append_right _ (List.mem_append_left _ (List.mem_of_getElem? (l := tables_1_2) (i := 39) rfl)))
theorem tw_280 : (Jvm.Cond.fieldLink "SwingUnits" (29 : Nat) "SwingUnits" "pad" "LSwingUnits$Pad;") ∈ lw_tbl := List.mem_append_right _ (List.mem_append_right _ (List.mem_append_left _ (List.mem_of_getElem? (l := tables_1_2) (i := 40) rfl)))
theorem tw_281 : (Jvm.Cond.fieldLink "SwingUnits" (36 : Nat) "SwingUnits" "history" "LSwingUnits$History;") ∈ lw_tbl := List.mem_append_right _ (List.mem_append_right _ (List.mem_append_left _ (List.mem_of_getElem? (l := tables_1_2) (i := 41) rfl)))
theorem tw_282 : (Jvm.Cond.fieldLink "SwingUnits" (40 : Nat) "SwingUnits" "slots" "[LSwingUnits$Trust;") ∈ lw_tbl := List.mem_append_right _ (List.mem_append_right _ (List.mem_append_left _ (List.mem_of_getElem? (l := tables_1_2) (i := 42) rfl)))
theorem tw_283 : (Jvm.Cond.fieldLink "SwingUnits" (44 : Nat) "SwingUnits" "saved" "[Z") ∈ lw_tbl := List.mem_append_right _ (List.mem_append_right _ (List.mem_append_left _ (List.mem_of_getElem? (l := tables_1_2) (i := 43) rfl)))
theorem tw_284 : (Jvm.Cond.laysFinal "SwingUnits" "SwingUnits" "trust" "LSwingUnits$Trust;") ∈ lw_tbl := List.mem_append_right _ (List.mem_append_right _ (List.mem_append_left _ (List.mem_of_getElem? (l := tables_1_2) (i := 44) rfl)))
theorem tw_285 : (Jvm.Cond.soleField "SwingUnits" "trust") ∈ lw_tbl := List.mem_append_right _ (List.mem_append_right _ (List.mem_append_left _ (List.mem_of_getElem? (l := tables_1_2) (i := 45) rfl)))
theorem tw_286 : (Jvm.Cond.laysFinal "SwingUnits" "SwingUnits" "trial" "LSwingUnits$Trust;") ∈ lw_tbl := List.mem_append_right _ (List.mem_append_right _ (List.mem_append_left _ (List.mem_of_getElem? (l := tables_1_2) (i := 46) rfl)))
theorem tw_287 : (Jvm.Cond.soleField "SwingUnits" "trial") ∈ lw_tbl := List.mem_append_right _ (List.mem_append_right _ (List.mem_append_left _ (List.mem_of_getElem? (l := tables_1_2) (i := 47) rfl)))
theorem tw_288 : (Jvm.Cond.laysFinal "SwingUnits" "SwingUnits" "dayEnd" "LSwingUnits$DayEnd;") ∈ lw_tbl := List.mem_append_right _ (List.mem_append_right _ (List.mem_append_left _ (List.mem_of_getElem? (l := tables_1_2) (i := 48) rfl)))
theorem tw_289 : (Jvm.Cond.soleField "SwingUnits" "dayEnd") ∈ lw_tbl := List.mem_append_right _ (List.mem_append_right _ (List.mem_append_left _ (List.mem_of_getElem? (l := tables_1_2) (i := 49) rfl)))
theorem tw_290 : (Jvm.Cond.laysFinal "SwingUnits" "SwingUnits" "pad" "LSwingUnits$Pad;") ∈ lw_tbl := List.mem_append_right _ (List.mem_append_right _ (List.mem_append_left _ (List.mem_of_getElem? (l := tables_1_2) (i := 50) rfl)))
theorem tw_291 : (Jvm.Cond.soleField "SwingUnits" "pad") ∈ lw_tbl := List.mem_append_right _ (List.mem_append_right _ (List.mem_append_left _ (List.mem_of_getElem? (l := tables_1_2) (i := 51) rfl)))
theorem tw_292 : (Jvm.Cond.laysFinal "SwingUnits" "SwingUnits" "history" "LSwingUnits$History;") ∈ lw_tbl := List.mem_append_right _ (List.mem_append_right _ (List.mem_append_left _ (List.mem_of_getElem? (l := tables_1_2) (i := 52) rfl)))
theorem tw_293 : (Jvm.Cond.soleField "SwingUnits" "history") ∈ lw_tbl := List.mem_append_right _ (List.mem_append_right _ (List.mem_append_left _ (List.mem_of_getElem? (l := tables_1_2) (i := 53) rfl)))
theorem tw_294 : (Jvm.Cond.laysFinal "SwingUnits" "SwingUnits" "slots" "[LSwingUnits$Trust;") ∈ lw_tbl := List.mem_append_right _ (List.mem_append_right _ (List.mem_append_left _ (List.mem_of_getElem? (l := tables_1_2) (i := 54) rfl)))
theorem tw_295 : (Jvm.Cond.soleField "SwingUnits" "slots") ∈ lw_tbl := List.mem_append_right _ (List.mem_append_right _ (List.mem_append_left _ (List.mem_of_getElem? (l := tables_1_2) (i := 55) rfl)))
theorem tw_296 : (Jvm.Cond.laysFinal "SwingUnits" "SwingUnits" "saved" "[Z") ∈ lw_tbl := List.mem_append_right _ (List.mem_append_right _ (List.mem_append_left _ (List.mem_of_getElem? (l := tables_1_2) (i := 56) rfl)))
theorem tw_297 : (Jvm.Cond.soleField "SwingUnits" "saved") ∈ lw_tbl := List.mem_append_right _ (List.mem_append_right _ (List.mem_append_left _ (List.mem_of_getElem? (l := tables_1_2) (i := 57) rfl)))
theorem tw_298 : (Jvm.Cond.superclass "SwingUnits" "java/lang/Object") ∈ lw_tbl := List.mem_append_right _ (List.mem_append_right _ (List.mem_append_left _ (List.mem_of_getElem? (l := tables_1_2) (i := 58) rfl)))
theorem tw_299 : (Jvm.Cond.arrayClass Jvm.ClassFile.FieldType.boolean) ∈ lw_tbl := List.mem_append_right _ (List.mem_append_right _ (List.mem_append_left _ (List.mem_of_getElem? (l := tables_1_2) (i := 59) rfl)))
theorem tw_300 : (Jvm.Cond.methodLink "SwingUnitsLaw" (13 : Nat) ({ cls := "SwingUnits", name := "set", desc := "(II)I" } : Jvm.MethodName)) ∈ lw_tbl := List.mem_append_right _ (List.mem_append_right _ (List.mem_append_left _ (List.mem_of_getElem? (l := tables_1_2) (i := 60) rfl)))
theorem tw_301 : (Jvm.Cond.instanceMethod ({ cls := "SwingUnits", name := "set", desc := "(II)I" } : Jvm.MethodName)) ∈ lw_tbl := List.mem_append_right _ (List.mem_append_right _ (List.mem_append_left _ (List.mem_of_getElem? (l := tables_1_2) (i := 61) rfl)))
theorem tw_302 : (Jvm.Cond.selects "SwingUnits" ({ cls := "SwingUnits", name := "set", desc := "(II)I" } : Jvm.MethodName) ({ cls := "SwingUnits", name := "set", desc := "(II)I" } : Jvm.MethodName)) ∈ lw_tbl := List.mem_append_right _ (List.mem_append_right _ (List.mem_append_left _ (List.mem_of_getElem? (l := tables_1_2) (i := 62) rfl)))
theorem tw_303 : (Jvm.Cond.code ({ cls := "SwingUnits", name := "set", desc := "(II)I" } : Jvm.MethodName) prog_1_method_2_code (3 : Nat) (Option.some Jvm.ClassFile.FieldType.int)) ∈ lw_tbl := List.mem_append_right _ (List.mem_append_right _ (List.mem_append_left _ (List.mem_of_getElem? (l := tables_1_2) (i := 63) rfl)))
theorem tw_304 : (Jvm.Cond.methodLink "SwingUnits" (48 : Nat) ({ cls := "SwingUnits$History", name := "hold", desc := "(LSwingUnits$Trust;)V" } : Jvm.MethodName)) ∈ lw_tbl := List.mem_append_right _ (List.mem_append_right _ (List.mem_append_left _ (List.mem_of_getElem? (l := tables_1_2) (i := 64) rfl)))
theorem tw_305 : (Jvm.Cond.instanceMethod ({ cls := "SwingUnits$History", name := "hold", desc := "(LSwingUnits$Trust;)V" } : Jvm.MethodName)) ∈ lw_tbl := List.mem_append_right _ (List.mem_append_right _ (List.mem_append_left _ (List.mem_of_getElem? (l := tables_1_2) (i := 65) rfl)))
theorem tw_306 : (Jvm.Cond.selects "SwingUnits$History" ({ cls := "SwingUnits$History", name := "hold", desc := "(LSwingUnits$Trust;)V" } : Jvm.MethodName) ({ cls := "SwingUnits$History", name := "hold", desc := "(LSwingUnits$Trust;)V" } : Jvm.MethodName)) ∈ lw_tbl := List.mem_append_right _ (List.mem_append_right _ (List.mem_append_left _ (List.mem_of_getElem? (l := tables_1_2) (i := 66) rfl)))
theorem tw_307 : (Jvm.Cond.code ({ cls := "SwingUnits$History", name := "hold", desc := "(LSwingUnits$Trust;)V" } : Jvm.MethodName) prog_3_method_2_code (2 : Nat) (Option.none : Option Jvm.ClassFile.FieldType)) ∈ lw_tbl := List.mem_append_right _ (List.mem_append_right _ (List.mem_append_left _ (List.mem_of_getElem? (l := tables_1_2) (i := 67) rfl)))
theorem tw_308 : (Jvm.Cond.methodLink "SwingUnits$History" (25 : Nat) ({ cls := "SwingUnits$Trust", name := "become", desc := "(LSwingUnits$Trust;)V" } : Jvm.MethodName)) ∈ lw_tbl := List.mem_append_right _ (List.mem_append_right _ (List.mem_append_left _ (List.mem_of_getElem? (l := tables_1_2) (i := 68) rfl)))
theorem tw_309 : (Jvm.Cond.instanceMethod ({ cls := "SwingUnits$Trust", name := "become", desc := "(LSwingUnits$Trust;)V" } : Jvm.MethodName)) ∈ lw_tbl := List.mem_append_right _ (List.mem_append_right _ (List.mem_append_left _ (List.mem_of_getElem? (l := tables_1_2) (i := 69) rfl)))
theorem tw_310 : (Jvm.Cond.selects "SwingUnits$Trust" ({ cls := "SwingUnits$Trust", name := "become", desc := "(LSwingUnits$Trust;)V" } : Jvm.MethodName) ({ cls := "SwingUnits$Trust", name := "become", desc := "(LSwingUnits$Trust;)V" } : Jvm.MethodName)) ∈ lw_tbl := List.mem_append_right _ (List.mem_append_right _ (List.mem_append_left _ (List.mem_of_getElem? (l := tables_1_2) (i := 70) rfl)))
theorem tw_311 : (Jvm.Cond.code ({ cls := "SwingUnits$Trust", name := "become", desc := "(LSwingUnits$Trust;)V" } : Jvm.MethodName) prog_8_method_2_code (3 : Nat) (Option.none : Option Jvm.ClassFile.FieldType)) ∈ lw_tbl := List.mem_append_right _ (List.mem_append_right _ (List.mem_append_left _ (List.mem_of_getElem? (l := tables_1_2) (i := 71) rfl)))
theorem tw_312 : (Jvm.Cond.methodLink "SwingUnits$Trust" (59 : Nat) ({ cls := "SwingUnits$Holder", name := "become", desc := "(LSwingUnits$Holder;)V" } : Jvm.MethodName)) ∈ lw_tbl := List.mem_append_right _ (List.mem_append_right _ (List.mem_append_left _ (List.mem_of_getElem? (l := tables_1_2) (i := 72) rfl)))
theorem tw_313 : (Jvm.Cond.instanceMethod ({ cls := "SwingUnits$Holder", name := "become", desc := "(LSwingUnits$Holder;)V" } : Jvm.MethodName)) ∈ lw_tbl := List.mem_append_right _ (List.mem_append_right _ (List.mem_append_left _ (List.mem_of_getElem? (l := tables_1_2) (i := 73) rfl)))
theorem tw_314 : (Jvm.Cond.selects "SwingUnits$Holder" ({ cls := "SwingUnits$Holder", name := "become", desc := "(LSwingUnits$Holder;)V" } : Jvm.MethodName) ({ cls := "SwingUnits$Holder", name := "become", desc := "(LSwingUnits$Holder;)V" } : Jvm.MethodName)) ∈ lw_tbl := List.mem_append_right _ (List.mem_append_right _ (List.mem_append_left _ (List.mem_of_getElem? (l := tables_1_2) (i := 74) rfl)))
theorem tw_315 : (Jvm.Cond.code ({ cls := "SwingUnits$Holder", name := "become", desc := "(LSwingUnits$Holder;)V" } : Jvm.MethodName) prog_4_method_2_code (2 : Nat) (Option.none : Option Jvm.ClassFile.FieldType)) ∈ lw_tbl := List.mem_append_right _ (List.mem_append_right _ (List.mem_append_left _ (List.mem_of_getElem? (l := tables_1_2) (i := 75) rfl)))
theorem tw_316 : (Jvm.Cond.methodLink "SwingUnits$Trust" (63 : Nat) ({ cls := "SwingUnits$Orders", name := "become", desc := "(LSwingUnits$Orders;)V" } : Jvm.MethodName)) ∈ lw_tbl := List.mem_append_right _ (List.mem_append_right _ (List.mem_append_left _ (List.mem_of_getElem? (l := tables_1_2) (i := 76) rfl)))
theorem tw_317 : (Jvm.Cond.instanceMethod ({ cls := "SwingUnits$Orders", name := "become", desc := "(LSwingUnits$Orders;)V" } : Jvm.MethodName)) ∈ lw_tbl := List.mem_append_right _ (List.mem_append_right _ (List.mem_append_left _ (List.mem_of_getElem? (l := tables_1_2) (i := 77) rfl)))
theorem tw_318 : (Jvm.Cond.selects "SwingUnits$Orders" ({ cls := "SwingUnits$Orders", name := "become", desc := "(LSwingUnits$Orders;)V" } : Jvm.MethodName) ({ cls := "SwingUnits$Orders", name := "become", desc := "(LSwingUnits$Orders;)V" } : Jvm.MethodName)) ∈ lw_tbl := List.mem_append_right _ (List.mem_append_right _ (List.mem_append_left _ (List.mem_of_getElem? (l := tables_1_2) (i := 78) rfl)))
theorem tw_319 : (Jvm.Cond.code ({ cls := "SwingUnits$Orders", name := "become", desc := "(LSwingUnits$Orders;)V" } : Jvm.MethodName) prog_6_method_2_code (3 : Nat) (Option.none : Option Jvm.ClassFile.FieldType)) ∈ lw_tbl := List.mem_append_right _ (List.mem_append_right _ (List.mem_append_left _ (List.mem_of_getElem? (l := tables_1_2) (i := 79) rfl)))
theorem tw_320 : (Jvm.Cond.methodLink "SwingUnits$Orders" (25 : Nat) ({ cls := "SwingUnits$Orders", name := "write", desc := "(IIII)V" } : Jvm.MethodName)) ∈ lw_tbl := List.mem_append_right _ (List.mem_append_right _ (List.mem_append_left _ (List.mem_of_getElem? (l := tables_1_2) (i := 80) rfl)))
theorem tw_321 : (Jvm.Cond.privateMethod ({ cls := "SwingUnits$Orders", name := "write", desc := "(IIII)V" } : Jvm.MethodName)) ∈ lw_tbl := List.mem_append_right _ (List.mem_append_right _ (List.mem_append_left _ (List.mem_of_getElem? (l := tables_1_2) (i := 81) rfl)))
theorem tw_322 : (Jvm.Cond.instanceMethod ({ cls := "SwingUnits$Orders", name := "write", desc := "(IIII)V" } : Jvm.MethodName)) ∈ lw_tbl := List.mem_append_right _ (List.mem_append_right _ (List.mem_append_left _ (List.mem_of_getElem? (l := tables_1_2) (i := 82) rfl)))
theorem tw_323 : (Jvm.Cond.code ({ cls := "SwingUnits$Orders", name := "write", desc := "(IIII)V" } : Jvm.MethodName) prog_6_method_5_code (5 : Nat) (Option.none : Option Jvm.ClassFile.FieldType)) ∈ lw_tbl := List.mem_append_right _ (List.mem_append_right _ (List.mem_append_left _ (List.mem_of_getElem? (l := tables_1_2) (i := 83) rfl)))
theorem tw_324 : (Jvm.Cond.methodLink "SwingUnits$Trust" (66 : Nat) ({ cls := "SwingUnits$LastDay", name := "become", desc := "(LSwingUnits$LastDay;)V" } : Jvm.MethodName)) ∈ lw_tbl := List.mem_append_right _ (List.mem_append_right _ (List.mem_append_left _ (List.mem_of_getElem? (l := tables_1_2) (i := 84) rfl)))
theorem tw_325 : (Jvm.Cond.instanceMethod ({ cls := "SwingUnits$LastDay", name := "become", desc := "(LSwingUnits$LastDay;)V" } : Jvm.MethodName)) ∈ lw_tbl := List.mem_append_right _ (List.mem_append_right _ (List.mem_append_left _ (List.mem_of_getElem? (l := tables_1_2) (i := 85) rfl)))
theorem tw_326 : (Jvm.Cond.selects "SwingUnits$LastDay" ({ cls := "SwingUnits$LastDay", name := "become", desc := "(LSwingUnits$LastDay;)V" } : Jvm.MethodName) ({ cls := "SwingUnits$LastDay", name := "become", desc := "(LSwingUnits$LastDay;)V" } : Jvm.MethodName)) ∈ lw_tbl := List.mem_append_right _ (List.mem_append_right _ (List.mem_append_left _ (List.mem_of_getElem? (l := tables_1_2) (i := 86) rfl)))
theorem tw_327 : (Jvm.Cond.code ({ cls := "SwingUnits$LastDay", name := "become", desc := "(LSwingUnits$LastDay;)V" } : Jvm.MethodName) prog_5_method_2_code (2 : Nat) (Option.none : Option Jvm.ClassFile.FieldType)) ∈ lw_tbl := List.mem_append_right _ (List.mem_append_right _ (List.mem_append_left _ (List.mem_of_getElem? (l := tables_1_2) (i := 87) rfl)))
theorem tw_328 : (Jvm.Cond.methodLink "SwingUnits" (52 : Nat) ({ cls := "SwingUnits$Trust", name := "changeSetting", desc := "(II)I" } : Jvm.MethodName)) ∈ lw_tbl := List.mem_append_right _ (List.mem_append_right _ (List.mem_append_left _ (List.mem_of_getElem? (l := tables_1_2) (i := 88) rfl)))
theorem tw_329 : (Jvm.Cond.instanceMethod ({ cls := "SwingUnits$Trust", name := "changeSetting", desc := "(II)I" } : Jvm.MethodName)) ∈ lw_tbl := List.mem_append_right _ (List.mem_append_right _ (List.mem_append_left _ (List.mem_of_getElem? (l := tables_1_2) (i := 89) rfl)))
theorem tw_330 : (Jvm.Cond.selects "SwingUnits$Trust" ({ cls := "SwingUnits$Trust", name := "changeSetting", desc := "(II)I" } : Jvm.MethodName) ({ cls := "SwingUnits$Trust", name := "changeSetting", desc := "(II)I" } : Jvm.MethodName)) ∈ lw_tbl := List.mem_append_right _ (List.mem_append_right _ (List.mem_append_left _ (List.mem_of_getElem? (l := tables_1_2) (i := 90) rfl)))
theorem tw_331 : (Jvm.Cond.code ({ cls := "SwingUnits$Trust", name := "changeSetting", desc := "(II)I" } : Jvm.MethodName) prog_8_method_9_code (4 : Nat) (Option.some Jvm.ClassFile.FieldType.int)) ∈ lw_tbl := List.mem_append_right _ (List.mem_append_right _ (List.mem_append_left _ (List.mem_of_getElem? (l := tables_1_2) (i := 91) rfl)))
theorem tw_332 : (Jvm.Cond.fieldLinkNest "SwingUnits$Trust" (86 : Nat) "SwingUnits" "GREATEST" "[I" "SwingUnits") ∈ lw_tbl := List.mem_append_right _ (List.mem_append_right _ (List.mem_append_left _ (List.mem_of_getElem? (l := tables_1_2) (i := 92) rfl)))
theorem tw_333 : (Jvm.Cond.laysStatic "SwingUnits" "GREATEST" "[I") ∈ lw_tbl := List.mem_append_right _ (List.mem_append_right _ (List.mem_append_left _ (List.mem_of_getElem? (l := tables_1_2) (i := 93) rfl)))
theorem tw_334 : (Jvm.Cond.methodLink "SwingUnits" (56 : Nat) ({ cls := "SwingUnits$History", name := "keep", desc := "(I)I" } : Jvm.MethodName)) ∈ lw_tbl := List.mem_append_right _ (List.mem_append_right _ (List.mem_append_left _ (List.mem_of_getElem? (l := tables_1_2) (i := 94) rfl)))
theorem tw_335 : (Jvm.Cond.instanceMethod ({ cls := "SwingUnits$History", name := "keep", desc := "(I)I" } : Jvm.MethodName)) ∈ lw_tbl := List.mem_append_right _ (List.mem_append_right _ (List.mem_append_left _ (List.mem_of_getElem? (l := tables_1_2) (i := 95) rfl)))
theorem tw_336 : (Jvm.Cond.selects "SwingUnits$History" ({ cls := "SwingUnits$History", name := "keep", desc := "(I)I" } : Jvm.MethodName) ({ cls := "SwingUnits$History", name := "keep", desc := "(I)I" } : Jvm.MethodName)) ∈ lw_tbl := List.mem_append_right _ (List.mem_append_right _ (List.mem_append_left _ (List.mem_of_getElem? (l := tables_1_2) (i := 96) rfl)))
theorem tw_337 : (Jvm.Cond.code ({ cls := "SwingUnits$History", name := "keep", desc := "(I)I" } : Jvm.MethodName) prog_3_method_3_code (2 : Nat) (Option.some Jvm.ClassFile.FieldType.int)) ∈ lw_tbl := List.mem_append_right _ (List.mem_append_right _ (List.mem_append_left _ (List.mem_of_getElem? (l := tables_1_2) (i := 97) rfl)))
theorem tw_338 : (Jvm.Cond.methodLink "SwingUnitsLaw" (18 : Nat) ({ cls := "SwingUnits", name := "buy", desc := "(III)I" } : Jvm.MethodName)) ∈ lw_tbl := List.mem_append_right _ (List.mem_append_right _ (List.mem_append_left _ (List.mem_of_getElem? (l := tables_1_2) (i := 98) rfl)))
theorem tw_339 : (Jvm.Cond.instanceMethod ({ cls := "SwingUnits", name := "buy", desc := "(III)I" } : Jvm.MethodName)) ∈ lw_tbl := List.mem_append_right _ (List.mem_append_right _ (List.mem_append_left _ (List.mem_of_getElem? (l := tables_1_2) (i := 99) rfl)))
theorem tw_340 : (Jvm.Cond.selects "SwingUnits" ({ cls := "SwingUnits", name := "buy", desc := "(III)I" } : Jvm.MethodName) ({ cls := "SwingUnits", name := "buy", desc := "(III)I" } : Jvm.MethodName)) ∈ lw_tbl := List.mem_append_right _ (List.mem_append_right _ (List.mem_append_left _ (List.mem_of_getElem? (l := tables_1_2) (i := 100) rfl)))
theorem tw_341 : (Jvm.Cond.code ({ cls := "SwingUnits", name := "buy", desc := "(III)I" } : Jvm.MethodName) prog_1_method_3_code (4 : Nat) (Option.some Jvm.ClassFile.FieldType.int)) ∈ lw_tbl := List.mem_append_right _ (List.mem_append_right _ (List.mem_append_left _ (List.mem_of_getElem? (l := tables_1_2) (i := 101) rfl)))
theorem tw_342 : (Jvm.Cond.methodLink "SwingUnits" (60 : Nat) ({ cls := "SwingUnits$Trust", name := "orderToBuy", desc := "(III)I" } : Jvm.MethodName)) ∈ lw_tbl := List.mem_append_right _ (List.mem_append_right _ (List.mem_append_left _ (List.mem_of_getElem? (l := tables_1_2) (i := 102) rfl)))
theorem tw_343 : (Jvm.Cond.instanceMethod ({ cls := "SwingUnits$Trust", name := "orderToBuy", desc := "(III)I" } : Jvm.MethodName)) ∈ lw_tbl := List.mem_append_right _ (List.mem_append_right _ (List.mem_append_left _ (List.mem_of_getElem? (l := tables_1_2) (i := 103) rfl)))
theorem tw_344 : (Jvm.Cond.selects "SwingUnits$Trust" ({ cls := "SwingUnits$Trust", name := "orderToBuy", desc := "(III)I" } : Jvm.MethodName) ({ cls := "SwingUnits$Trust", name := "orderToBuy", desc := "(III)I" } : Jvm.MethodName)) ∈ lw_tbl := List.mem_append_right _ (List.mem_append_right _ (List.mem_append_left _ (List.mem_of_getElem? (l := tables_1_2) (i := 104) rfl)))
theorem tw_345 : (Jvm.Cond.code ({ cls := "SwingUnits$Trust", name := "orderToBuy", desc := "(III)I" } : Jvm.MethodName) prog_8_method_10_code (4 : Nat) (Option.some Jvm.ClassFile.FieldType.int)) ∈ lw_tbl := List.mem_append_right _ (List.mem_append_right _ (List.mem_append_left _ (List.mem_of_getElem? (l := tables_1_2) (i := 105) rfl)))
theorem tw_346 : (Jvm.Cond.methodLinkNest "SwingUnits$Trust" (89 : Nat) ({ cls := "SwingUnits", name := "isHolder", desc := "(I)Z" } : Jvm.MethodName) "SwingUnits") ∈ lw_tbl := List.mem_append_right _ (List.mem_append_right _ (List.mem_append_left _ (List.mem_of_getElem? (l := tables_1_2) (i := 106) rfl)))
theorem tw_347 : (Jvm.Cond.static ({ cls := "SwingUnits", name := "isHolder", desc := "(I)Z" } : Jvm.MethodName)) ∈ lw_tbl := List.mem_append_right _ (List.mem_append_right _ (List.mem_append_left _ (List.mem_of_getElem? (l := tables_1_2) (i := 107) rfl)))
theorem tw_348 : (Jvm.Cond.code ({ cls := "SwingUnits", name := "isHolder", desc := "(I)Z" } : Jvm.MethodName) prog_1_method_27_code (1 : Nat) (Option.some Jvm.ClassFile.FieldType.boolean)) ∈ lw_tbl := List.mem_append_right _ (List.mem_append_right _ (List.mem_append_left _ (List.mem_of_getElem? (l := tables_1_2) (i := 108) rfl)))
theorem tw_349 : (Jvm.Cond.constant "SwingUnits$Trust" (93 : Nat) (1000000 : Int32)) ∈ lw_tbl := List.mem_append_right _ (List.mem_append_right _ (List.mem_append_left _ (List.mem_of_getElem? (l := tables_1_2) (i := 109) rfl)))
theorem tw_350 : (Jvm.Cond.methodLink "SwingUnits$Trust" (94 : Nat) ({ cls := "SwingUnits$Trust", name := "isHour", desc := "(I)Z" } : Jvm.MethodName)) ∈ lw_tbl := List.mem_append_right _ (List.mem_append_right _ (List.mem_append_left _ (List.mem_of_getElem? (l := tables_1_2) (i := 110) rfl)))
theorem tw_351 : (Jvm.Cond.static ({ cls := "SwingUnits$Trust", name := "isHour", desc := "(I)Z" } : Jvm.MethodName)) ∈ lw_tbl := List.mem_append_right _ (List.mem_append_right _ (List.mem_append_left _ (List.mem_of_getElem? (l := tables_1_2) (i := 111) rfl)))
theorem tw_352 : (Jvm.Cond.code ({ cls := "SwingUnits$Trust", name := "isHour", desc := "(I)Z" } : Jvm.MethodName) prog_8_method_22_code (1 : Nat) (Option.some Jvm.ClassFile.FieldType.boolean)) ∈ lw_tbl := List.mem_append_right _ (List.mem_append_right _ (List.mem_append_left _ (List.mem_of_getElem? (l := tables_1_2) (i := 112) rfl)))
theorem tw_353 : (Jvm.Cond.methodLink "SwingUnits$Trust" (97 : Nat) ({ cls := "SwingUnits$Orders", name := "isFull", desc := "()Z" } : Jvm.MethodName)) ∈ lw_tbl := List.mem_append_right _ (List.mem_append_right _ (List.mem_append_left _ (List.mem_of_getElem? (l := tables_1_2) (i := 113) rfl)))
theorem tw_354 : (Jvm.Cond.instanceMethod ({ cls := "SwingUnits$Orders", name := "isFull", desc := "()Z" } : Jvm.MethodName)) ∈ lw_tbl := List.mem_append_right _ (List.mem_append_right _ (List.mem_append_left _ (List.mem_of_getElem? (l := tables_1_2) (i := 114) rfl)))
theorem tw_355 : (Jvm.Cond.selects "SwingUnits$Orders" ({ cls := "SwingUnits$Orders", name := "isFull", desc := "()Z" } : Jvm.MethodName) ({ cls := "SwingUnits$Orders", name := "isFull", desc := "()Z" } : Jvm.MethodName)) ∈ lw_tbl := List.mem_append_right _ (List.mem_append_right _ (List.mem_append_left _ (List.mem_of_getElem? (l := tables_1_2) (i := 115) rfl)))
theorem tw_356 : (Jvm.Cond.code ({ cls := "SwingUnits$Orders", name := "isFull", desc := "()Z" } : Jvm.MethodName) prog_6_method_3_code (1 : Nat) (Option.some Jvm.ClassFile.FieldType.boolean)) ∈ lw_tbl := List.mem_append_right _ (List.mem_append_right _ (List.mem_append_left _ (List.mem_of_getElem? (l := tables_1_2) (i := 116) rfl)))
theorem tw_357 : (Jvm.Cond.methodLink "SwingUnits$Trust" (101 : Nat) ({ cls := "SwingUnits$Trust", name := "dayOf", desc := "(I)I" } : Jvm.MethodName)) ∈ lw_tbl := List.mem_append_right _ (List.mem_append_right _ (List.mem_append_left _ (List.mem_of_getElem? (l := tables_1_2) (i := 117) rfl)))
theorem tw_358 : (Jvm.Cond.privateMethod ({ cls := "SwingUnits$Trust", name := "dayOf", desc := "(I)I" } : Jvm.MethodName)) ∈ lw_tbl := List.mem_append_right _ (List.mem_append_right _ (List.mem_append_left _ (List.mem_of_getElem? (l := tables_1_2) (i := 118) rfl)))
theorem tw_359 : (Jvm.Cond.instanceMethod ({ cls := "SwingUnits$Trust", name := "dayOf", desc := "(I)I" } : Jvm.MethodName)) ∈ lw_tbl := List.mem_append_right _ (List.mem_append_right _ (List.mem_append_left _ (List.mem_of_getElem? (l := tables_1_2) (i := 119) rfl)))
theorem tw_360 : (Jvm.Cond.code ({ cls := "SwingUnits$Trust", name := "dayOf", desc := "(I)I" } : Jvm.MethodName) prog_8_method_21_code (2 : Nat) (Option.some Jvm.ClassFile.FieldType.int)) ∈ lw_tbl := List.mem_append_right _ (List.mem_append_right _ (List.mem_append_left _ (List.mem_of_getElem? (l := tables_1_2) (i := 120) rfl)))
theorem tw_361 : (Jvm.Cond.methodLink "SwingUnits$Trust" (105 : Nat) ({ cls := "SwingUnits$Orders", name := "add", desc := "(III)V" } : Jvm.MethodName)) ∈ lw_tbl := List.mem_append_right _ (List.mem_append_right _ (List.mem_append_left _ (List.mem_of_getElem? (l := tables_1_2) (i := 121) rfl)))
theorem tw_362 : (Jvm.Cond.instanceMethod ({ cls := "SwingUnits$Orders", name := "add", desc := "(III)V" } : Jvm.MethodName)) ∈ lw_tbl := List.mem_append_right _ (List.mem_append_right _ (List.mem_append_left _ (List.mem_of_getElem? (l := tables_1_2) (i := 122) rfl)))
theorem tw_363 : (Jvm.Cond.selects "SwingUnits$Orders" ({ cls := "SwingUnits$Orders", name := "add", desc := "(III)V" } : Jvm.MethodName) ({ cls := "SwingUnits$Orders", name := "add", desc := "(III)V" } : Jvm.MethodName)) ∈ lw_tbl := List.mem_append_right _ (List.mem_append_right _ (List.mem_append_left _ (List.mem_of_getElem? (l := tables_1_2) (i := 123) rfl)))
theorem tw_364 : (Jvm.Cond.code ({ cls := "SwingUnits$Orders", name := "add", desc := "(III)V" } : Jvm.MethodName) prog_6_method_4_code (5 : Nat) (Option.none : Option Jvm.ClassFile.FieldType)) ∈ lw_tbl := List.mem_append_right _ (List.mem_append_right _ (List.mem_append_left _ (List.mem_of_getElem? (l := tables_1_2) (i := 124) rfl)))
theorem tw_365 : (Jvm.Cond.methodLink "SwingUnits$Orders" (29 : Nat) ({ cls := "SwingUnits$Orders", name := "isFull", desc := "()Z" } : Jvm.MethodName)) ∈ lw_tbl := List.mem_append_right _ (List.mem_append_right _ (List.mem_append_left _ (List.mem_of_getElem? (l := tables_1_2) (i := 125) rfl)))
theorem tw_366 : (Jvm.Cond.methodLink "SwingUnitsLaw" (23 : Nat) ({ cls := "SwingUnits", name := "leave", desc := "(III)I" } : Jvm.MethodName)) ∈ lw_tbl := List.mem_append_right _ (List.mem_append_right _ (List.mem_append_left _ (List.mem_of_getElem? (l := tables_1_2) (i := 126) rfl)))
theorem tw_367 : (Jvm.Cond.instanceMethod ({ cls := "SwingUnits", name := "leave", desc := "(III)I" } : Jvm.MethodName)) ∈ lw_tbl := List.mem_append_right _ (List.mem_append_right _ (List.mem_append_left _ (List.mem_of_getElem? (l := tables_1_2) (i := 127) rfl)))
theorem tw_368 : (Jvm.Cond.selects "SwingUnits" ({ cls := "SwingUnits", name := "leave", desc := "(III)I" } : Jvm.MethodName) ({ cls := "SwingUnits", name := "leave", desc := "(III)I" } : Jvm.MethodName)) ∈ lw_tbl := List.mem_append_right _ (List.mem_append_right _ (List.mem_append_left _ (List.mem_of_getElem? (l := tables_1_2) (i := 128) rfl)))
theorem tw_369 : (Jvm.Cond.code ({ cls := "SwingUnits", name := "leave", desc := "(III)I" } : Jvm.MethodName) prog_1_method_4_code (4 : Nat) (Option.some Jvm.ClassFile.FieldType.int)) ∈ lw_tbl := List.mem_append_right _ (List.mem_append_right _ (List.mem_append_left _ (List.mem_of_getElem? (l := tables_1_2) (i := 129) rfl)))
theorem tw_370 : (Jvm.Cond.methodLink "SwingUnits" (64 : Nat) ({ cls := "SwingUnits$Trust", name := "orderToLeave", desc := "(III)I" } : Jvm.MethodName)) ∈ lw_tbl := List.mem_append_right _ (List.mem_append_right _ (List.mem_append_left _ (List.mem_of_getElem? (l := tables_1_2) (i := 130) rfl)))
theorem tw_371 : (Jvm.Cond.instanceMethod ({ cls := "SwingUnits$Trust", name := "orderToLeave", desc := "(III)I" } : Jvm.MethodName)) ∈ lw_tbl := List.mem_append_right _ (List.mem_append_right _ (List.mem_append_left _ (List.mem_of_getElem? (l := tables_1_2) (i := 131) rfl)))
theorem tw_372 : (Jvm.Cond.selects "SwingUnits$Trust" ({ cls := "SwingUnits$Trust", name := "orderToLeave", desc := "(III)I" } : Jvm.MethodName) ({ cls := "SwingUnits$Trust", name := "orderToLeave", desc := "(III)I" } : Jvm.MethodName)) ∈ lw_tbl := List.mem_append_right _ (List.mem_append_right _ (List.mem_append_left _ (List.mem_of_getElem? (l := tables_1_2) (i := 132) rfl)))
theorem tw_373 : (Jvm.Cond.code ({ cls := "SwingUnits$Trust", name := "orderToLeave", desc := "(III)I" } : Jvm.MethodName) prog_8_method_11_code (4 : Nat) (Option.some Jvm.ClassFile.FieldType.int)) ∈ lw_tbl := List.mem_append_right _ (List.mem_append_right _ (List.mem_append_left _ (List.mem_of_getElem? (l := tables_1_2) (i := 133) rfl)))
theorem tw_374 : (Jvm.Cond.methodLink "SwingUnits$Trust" (109 : Nat) ({ cls := "SwingUnits$Trust", name := "freeUnits", desc := "(I)J" } : Jvm.MethodName)) ∈ lw_tbl := List.mem_append_right _ (List.mem_append_right _ (List.mem_append_left _ (List.mem_of_getElem? (l := tables_1_2) (i := 134) rfl)))
theorem tw_375 : (Jvm.Cond.privateMethod ({ cls := "SwingUnits$Trust", name := "freeUnits", desc := "(I)J" } : Jvm.MethodName)) ∈ lw_tbl := List.mem_append_right _ (List.mem_append_right _ (List.mem_append_left _ (List.mem_of_getElem? (l := tables_1_2) (i := 135) rfl)))
theorem tw_376 : (Jvm.Cond.instanceMethod ({ cls := "SwingUnits$Trust", name := "freeUnits", desc := "(I)J" } : Jvm.MethodName)) ∈ lw_tbl := List.mem_append_right _ (List.mem_append_right _ (List.mem_append_left _ (List.mem_of_getElem? (l := tables_1_2) (i := 136) rfl)))
theorem tw_377 : (Jvm.Cond.code ({ cls := "SwingUnits$Trust", name := "freeUnits", desc := "(I)J" } : Jvm.MethodName) prog_8_method_20_code (2 : Nat) (Option.some Jvm.ClassFile.FieldType.long)) ∈ lw_tbl := List.mem_append_right _ (List.mem_append_right _ (List.mem_append_left _ (List.mem_of_getElem? (l := tables_1_2) (i := 137) rfl)))
theorem tw_378 : (Jvm.Cond.methodLink "SwingUnits$Trust" (69 : Nat) ({ cls := "SwingUnits$Holder", name := "units", desc := "()J" } : Jvm.MethodName)) ∈ lw_tbl := List.mem_append_right _ (List.mem_append_right _ (List.mem_append_left _ (List.mem_of_getElem? (l := tables_1_2) (i := 138) rfl)))
theorem tw_379 : (Jvm.Cond.instanceMethod ({ cls := "SwingUnits$Holder", name := "units", desc := "()J" } : Jvm.MethodName)) ∈ lw_tbl := List.mem_append_right _ (List.mem_append_right _ (List.mem_append_left _ (List.mem_of_getElem? (l := tables_1_2) (i := 139) rfl)))
theorem tw_380 : (Jvm.Cond.selects "SwingUnits$Holder" ({ cls := "SwingUnits$Holder", name := "units", desc := "()J" } : Jvm.MethodName) ({ cls := "SwingUnits$Holder", name := "units", desc := "()J" } : Jvm.MethodName)) ∈ lw_tbl := List.mem_append_right _ (List.mem_append_right _ (List.mem_append_left _ (List.mem_of_getElem? (l := tables_1_2) (i := 140) rfl)))
theorem tw_381 : (Jvm.Cond.code ({ cls := "SwingUnits$Holder", name := "units", desc := "()J" } : Jvm.MethodName) prog_4_method_3_code (1 : Nat) (Option.some Jvm.ClassFile.FieldType.long)) ∈ lw_tbl := List.mem_append_right _ (List.mem_append_right _ (List.mem_append_left _ (List.mem_of_getElem? (l := tables_1_2) (i := 141) rfl)))
theorem tw_382 : (Jvm.Cond.methodLink "SwingUnits$Trust" (151 : Nat) ({ cls := "SwingUnits$Orders", name := "sumOf", desc := "(I)J" } : Jvm.MethodName)) ∈ lw_tbl := List.mem_append_right _ (List.mem_append_right _ (List.mem_append_left _ (List.mem_of_getElem? (l := tables_1_2) (i := 142) rfl)))
theorem tw_383 : (Jvm.Cond.instanceMethod ({ cls := "SwingUnits$Orders", name := "sumOf", desc := "(I)J" } : Jvm.MethodName)) ∈ lw_tbl := List.mem_append_right _ (List.mem_append_right _ (List.mem_append_left _ (List.mem_of_getElem? (l := tables_1_2) (i := 143) rfl)))
theorem tw_384 : (Jvm.Cond.selects "SwingUnits$Orders" ({ cls := "SwingUnits$Orders", name := "sumOf", desc := "(I)J" } : Jvm.MethodName) ({ cls := "SwingUnits$Orders", name := "sumOf", desc := "(I)J" } : Jvm.MethodName)) ∈ lw_tbl := List.mem_append_right _ (List.mem_append_right _ (List.mem_append_left _ (List.mem_of_getElem? (l := tables_1_2) (i := 144) rfl)))
theorem tw_385 : (Jvm.Cond.code ({ cls := "SwingUnits$Orders", name := "sumOf", desc := "(I)J" } : Jvm.MethodName) prog_6_method_8_code (5 : Nat) (Option.some Jvm.ClassFile.FieldType.long)) ∈ lw_tbl := List.mem_append_right _ (List.mem_append_right _ (List.mem_append_left _ (List.mem_of_getElem? (l := tables_1_2) (i := 145) rfl)))
theorem tw_386 : (Jvm.Cond.methodLink "SwingUnitsLaw" (27 : Nat) ({ cls := "SwingUnits", name := "inKind", desc := "(II)I" } : Jvm.MethodName)) ∈ lw_tbl := List.mem_append_right _ (List.mem_append_right _ (List.mem_append_left _ (List.mem_of_getElem? (l := tables_1_2) (i := 146) rfl)))
theorem tw_387 : (Jvm.Cond.instanceMethod ({ cls := "SwingUnits", name := "inKind", desc := "(II)I" } : Jvm.MethodName)) ∈ lw_tbl := List.mem_append_right _ (List.mem_append_right _ (List.mem_append_left _ (List.mem_of_getElem? (l := tables_1_2) (i := 147) rfl)))
theorem tw_388 : (Jvm.Cond.selects "SwingUnits" ({ cls := "SwingUnits", name := "inKind", desc := "(II)I" } : Jvm.MethodName) ({ cls := "SwingUnits", name := "inKind", desc := "(II)I" } : Jvm.MethodName)) ∈ lw_tbl := List.mem_append_right _ (List.mem_append_right _ (List.mem_append_left _ (List.mem_of_getElem? (l := tables_1_2) (i := 148) rfl)))
theorem tw_389 : (Jvm.Cond.code ({ cls := "SwingUnits", name := "inKind", desc := "(II)I" } : Jvm.MethodName) prog_1_method_5_code (3 : Nat) (Option.some Jvm.ClassFile.FieldType.int)) ∈ lw_tbl := List.mem_append_right _ (List.mem_append_right _ (List.mem_append_left _ (List.mem_of_getElem? (l := tables_1_2) (i := 149) rfl)))
theorem tw_390 : (Jvm.Cond.methodLink "SwingUnits" (67 : Nat) ({ cls := "SwingUnits$Trust", name := "exitInKind", desc := "(II)I" } : Jvm.MethodName)) ∈ lw_tbl := List.mem_append_right _ (List.mem_append_right _ (List.mem_append_left _ (List.mem_of_getElem? (l := tables_1_2) (i := 150) rfl)))
theorem tw_391 : (Jvm.Cond.instanceMethod ({ cls := "SwingUnits$Trust", name := "exitInKind", desc := "(II)I" } : Jvm.MethodName)) ∈ lw_tbl := List.mem_append_right _ (List.mem_append_right _ (List.mem_append_left _ (List.mem_of_getElem? (l := tables_1_2) (i := 151) rfl)))
theorem tw_392 : (Jvm.Cond.selects "SwingUnits$Trust" ({ cls := "SwingUnits$Trust", name := "exitInKind", desc := "(II)I" } : Jvm.MethodName) ({ cls := "SwingUnits$Trust", name := "exitInKind", desc := "(II)I" } : Jvm.MethodName)) ∈ lw_tbl := List.mem_append_right _ (List.mem_append_right _ (List.mem_append_left _ (List.mem_of_getElem? (l := tables_1_2) (i := 152) rfl)))
theorem tw_393 : (Jvm.Cond.code ({ cls := "SwingUnits$Trust", name := "exitInKind", desc := "(II)I" } : Jvm.MethodName) prog_8_method_12_code (8 : Nat) (Option.some Jvm.ClassFile.FieldType.int)) ∈ lw_tbl := List.mem_append_right _ (List.mem_append_right _ (List.mem_append_left _ (List.mem_of_getElem? (l := tables_1_2) (i := 153) rfl)))
theorem tw_394 : (Jvm.Cond.methodLink "SwingUnits$Trust" (76 : Nat) ({ cls := "SwingUnits$Trust", name := "units", desc := "()J" } : Jvm.MethodName)) ∈ lw_tbl := List.mem_append_right _ (List.mem_append_right _ (List.mem_append_left _ (List.mem_of_getElem? (l := tables_1_2) (i := 154) rfl)))
theorem tw_395 : (Jvm.Cond.instanceMethod ({ cls := "SwingUnits$Trust", name := "units", desc := "()J" } : Jvm.MethodName)) ∈ lw_tbl := List.mem_append_right _ (List.mem_append_right _ (List.mem_append_left _ (List.mem_of_getElem? (l := tables_1_2) (i := 155) rfl)))
theorem tw_396 : (Jvm.Cond.selects "SwingUnits$Trust" ({ cls := "SwingUnits$Trust", name := "units", desc := "()J" } : Jvm.MethodName) ({ cls := "SwingUnits$Trust", name := "units", desc := "()J" } : Jvm.MethodName)) ∈ lw_tbl := List.mem_append_right _ (List.mem_append_right _ (List.mem_append_left _ (List.mem_of_getElem? (l := tables_1_2) (i := 156) rfl)))
theorem tw_397 : (Jvm.Cond.code ({ cls := "SwingUnits$Trust", name := "units", desc := "()J" } : Jvm.MethodName) prog_8_method_4_code (4 : Nat) (Option.some Jvm.ClassFile.FieldType.long)) ∈ lw_tbl := List.mem_append_right _ (List.mem_append_right _ (List.mem_append_left _ (List.mem_of_getElem? (l := tables_1_2) (i := 157) rfl)))
theorem tw_398 : (Jvm.Cond.methodLink "SwingUnits$Trust" (115 : Nat) ({ cls := "SwingUnits$Trust", name := "unitIncome", desc := "()J" } : Jvm.MethodName)) ∈ lw_tbl := List.mem_append_right _ (List.mem_append_right _ (List.mem_append_left _ (List.mem_of_getElem? (l := tables_1_2) (i := 158) rfl)))
theorem tw_399 : (Jvm.Cond.instanceMethod ({ cls := "SwingUnits$Trust", name := "unitIncome", desc := "()J" } : Jvm.MethodName)) ∈ lw_tbl := List.mem_append_right _ (List.mem_append_right _ (List.mem_append_left _ (List.mem_of_getElem? (l := tables_1_2) (i := 159) rfl)))
theorem tw_400 : (Jvm.Cond.selects "SwingUnits$Trust" ({ cls := "SwingUnits$Trust", name := "unitIncome", desc := "()J" } : Jvm.MethodName) ({ cls := "SwingUnits$Trust", name := "unitIncome", desc := "()J" } : Jvm.MethodName)) ∈ lw_tbl := List.mem_append_right _ (List.mem_append_right _ (List.mem_append_left _ (List.mem_of_getElem? (l := tables_1_2) (i := 160) rfl)))
theorem tw_401 : (Jvm.Cond.code ({ cls := "SwingUnits$Trust", name := "unitIncome", desc := "()J" } : Jvm.MethodName) prog_8_method_7_code (3 : Nat) (Option.some Jvm.ClassFile.FieldType.long)) ∈ lw_tbl := List.mem_append_right _ (List.mem_append_right _ (List.mem_append_left _ (List.mem_of_getElem? (l := tables_1_2) (i := 161) rfl)))
theorem tw_402 : (Jvm.Cond.constantLong "SwingUnits$Trust" (77 : Nat) (1000 : Int64)) ∈ lw_tbl := List.mem_append_right _ (List.mem_append_right _ (List.mem_append_left _ (List.mem_of_getElem? (l := tables_1_2) (i := 162) rfl)))
theorem tw_403 : (Jvm.Cond.methodLink "SwingUnits$Trust" (118 : Nat) ({ cls := "SwingUnits$Trust", name := "takeUnits", desc := "(LSwingUnits$Holder;JJJ)V" } : Jvm.MethodName)) ∈ lw_tbl := List.mem_append_right _ (List.mem_append_right _ (List.mem_append_left _ (List.mem_of_getElem? (l := tables_1_2) (i := 163) rfl)))
theorem tw_404 : (Jvm.Cond.instanceMethod ({ cls := "SwingUnits$Trust", name := "takeUnits", desc := "(LSwingUnits$Holder;JJJ)V" } : Jvm.MethodName)) ∈ lw_tbl := List.mem_append_right _ (List.mem_append_right _ (List.mem_append_left _ (List.mem_of_getElem? (l := tables_1_2) (i := 164) rfl)))
theorem tw_405 : (Jvm.Cond.selects "SwingUnits$Trust" ({ cls := "SwingUnits$Trust", name := "takeUnits", desc := "(LSwingUnits$Holder;JJJ)V" } : Jvm.MethodName) ({ cls := "SwingUnits$Trust", name := "takeUnits", desc := "(LSwingUnits$Holder;JJJ)V" } : Jvm.MethodName)) ∈ lw_tbl := List.mem_append_right _ (List.mem_append_right _ (List.mem_append_left _ (List.mem_of_getElem? (l := tables_1_2) (i := 165) rfl)))
theorem tw_406 : (Jvm.Cond.code ({ cls := "SwingUnits$Trust", name := "takeUnits", desc := "(LSwingUnits$Holder;JJJ)V" } : Jvm.MethodName) prog_8_method_18_code (14 : Nat) (Option.none : Option Jvm.ClassFile.FieldType)) ∈ lw_tbl := List.mem_append_right _ (List.mem_append_right _ (List.mem_append_left _ (List.mem_of_getElem? (l := tables_1_2) (i := 166) rfl)))
theorem tw_407 : (Jvm.Cond.methodLink "SwingUnits$Trust" (125 : Nat) ({ cls := "SwingUnits$Trust", name := "newUnits", desc := "()J" } : Jvm.MethodName)) ∈ lw_tbl := List.mem_append_right _ (List.mem_append_right _ (List.mem_append_left _ (List.mem_of_getElem? (l := tables_1_2) (i := 167) rfl)))
theorem tw_408 : (Jvm.Cond.instanceMethod ({ cls := "SwingUnits$Trust", name := "newUnits", desc := "()J" } : Jvm.MethodName)) ∈ lw_tbl := List.mem_append_right _ (List.mem_append_right _ (List.mem_append_left _ (List.mem_of_getElem? (l := tables_1_2) (i := 168) rfl)))
theorem tw_409 : (Jvm.Cond.selects "SwingUnits$Trust" ({ cls := "SwingUnits$Trust", name := "newUnits", desc := "()J" } : Jvm.MethodName) ({ cls := "SwingUnits$Trust", name := "newUnits", desc := "()J" } : Jvm.MethodName)) ∈ lw_tbl := List.mem_append_right _ (List.mem_append_right _ (List.mem_append_left _ (List.mem_of_getElem? (l := tables_1_2) (i := 169) rfl)))
theorem tw_410 : (Jvm.Cond.code ({ cls := "SwingUnits$Trust", name := "newUnits", desc := "()J" } : Jvm.MethodName) prog_8_method_5_code (4 : Nat) (Option.some Jvm.ClassFile.FieldType.long)) ∈ lw_tbl := List.mem_append_right _ (List.mem_append_right _ (List.mem_append_left _ (List.mem_of_getElem? (l := tables_1_2) (i := 170) rfl)))
theorem tw_411 : (Jvm.Cond.methodLink "SwingUnits$Trust" (133 : Nat) ({ cls := "java/lang/Math", name := "min", desc := "(JJ)J" } : Jvm.MethodName)) ∈ lw_tbl := List.mem_append_right _ (List.mem_append_right _ (List.mem_append_left _ (List.mem_of_getElem? (l := tables_1_2) (i := 171) rfl)))
theorem tw_412 : (Jvm.Cond.static ({ cls := "java/lang/Math", name := "min", desc := "(JJ)J" } : Jvm.MethodName)) ∈ lw_tbl := List.mem_append_right _ (List.mem_append_right _ (List.mem_append_left _ (List.mem_of_getElem? (l := tables_1_2) (i := 172) rfl)))
theorem tw_413 : (Jvm.Cond.code ({ cls := "java/lang/Math", name := "min", desc := "(JJ)J" } : Jvm.MethodName) prog_11_method_70_code (4 : Nat) (Option.some Jvm.ClassFile.FieldType.long)) ∈ lw_tbl := List.mem_append_right _ (List.mem_append_right _ (List.mem_append_left _ (List.mem_of_getElem? (l := tables_1_2) (i := 173) rfl)))
theorem tw_414 : (Jvm.Cond.methodLink "SwingUnits$Trust" (148 : Nat) ({ cls := "java/lang/Math", name := "max", desc := "(JJ)J" } : Jvm.MethodName)) ∈ lw_tbl := List.mem_append_right _ (List.mem_append_right _ (List.mem_append_left _ (List.mem_of_getElem? (l := tables_1_2) (i := 174) rfl)))
theorem tw_415 : (Jvm.Cond.static ({ cls := "java/lang/Math", name := "max", desc := "(JJ)J" } : Jvm.MethodName)) ∈ lw_tbl := List.mem_append_right _ (List.mem_append_right _ (List.mem_append_left _ (List.mem_of_getElem? (l := tables_1_2) (i := 175) rfl)))
theorem tw_416 : (Jvm.Cond.code ({ cls := "java/lang/Math", name := "max", desc := "(JJ)J" } : Jvm.MethodName) prog_11_method_66_code (4 : Nat) (Option.some Jvm.ClassFile.FieldType.long)) ∈ lw_tbl := List.mem_append_right _ (List.mem_append_right _ (List.mem_append_left _ (List.mem_of_getElem? (l := tables_1_2) (i := 176) rfl)))
theorem tw_417 : (Jvm.Cond.methodLink "SwingUnitsLaw" (31 : Nat) ({ cls := "SwingUnits", name := "endDay", desc := "()I" } : Jvm.MethodName)) ∈ lw_tbl := List.mem_append_right _ (List.mem_append_right _ (List.mem_append_left _ (List.mem_of_getElem? (l := tables_1_2) (i := 177) rfl)))
theorem tw_418 : (Jvm.Cond.instanceMethod ({ cls := "SwingUnits", name := "endDay", desc := "()I" } : Jvm.MethodName)) ∈ lw_tbl := List.mem_append_right _ (List.mem_append_right _ (List.mem_append_left _ (List.mem_of_getElem? (l := tables_1_2) (i := 178) rfl)))
theorem tw_419 : (Jvm.Cond.selects "SwingUnits" ({ cls := "SwingUnits", name := "endDay", desc := "()I" } : Jvm.MethodName) ({ cls := "SwingUnits", name := "endDay", desc := "()I" } : Jvm.MethodName)) ∈ lw_tbl := List.mem_append_right _ (List.mem_append_right _ (List.mem_append_left _ (List.mem_of_getElem? (l := tables_1_2) (i := 179) rfl)))
theorem tw_420 : (Jvm.Cond.code ({ cls := "SwingUnits", name := "endDay", desc := "()I" } : Jvm.MethodName) prog_1_method_6_code (1 : Nat) (Option.some Jvm.ClassFile.FieldType.int)) ∈ lw_tbl := List.mem_append_right _ (List.mem_append_right _ (List.mem_append_left _ (List.mem_of_getElem? (l := tables_1_2) (i := 180) rfl)))
theorem tw_421 : (Jvm.Cond.methodLink "SwingUnits" (70 : Nat) ({ cls := "SwingUnits$DayEnd", name := "run", desc := "(LSwingUnits$Trust;)I" } : Jvm.MethodName)) ∈ lw_tbl := List.mem_append_right _ (List.mem_append_right _ (List.mem_append_left _ (List.mem_of_getElem? (l := tables_1_2) (i := 181) rfl)))
theorem tw_422 : (Jvm.Cond.instanceMethod ({ cls := "SwingUnits$DayEnd", name := "run", desc := "(LSwingUnits$Trust;)I" } : Jvm.MethodName)) ∈ lw_tbl := List.mem_append_right _ (List.mem_append_right _ (List.mem_append_left _ (List.mem_of_getElem? (l := tables_1_2) (i := 182) rfl)))
theorem tw_423 : (Jvm.Cond.selects "SwingUnits$DayEnd" ({ cls := "SwingUnits$DayEnd", name := "run", desc := "(LSwingUnits$Trust;)I" } : Jvm.MethodName) ({ cls := "SwingUnits$DayEnd", name := "run", desc := "(LSwingUnits$Trust;)I" } : Jvm.MethodName)) ∈ lw_tbl := List.mem_append_right _ (List.mem_append_right _ (List.mem_append_left _ (List.mem_of_getElem? (l := tables_1_2) (i := 183) rfl)))
theorem tw_424 : (Jvm.Cond.code ({ cls := "SwingUnits$DayEnd", name := "run", desc := "(LSwingUnits$Trust;)I" } : Jvm.MethodName) prog_2_method_3_code (2 : Nat) (Option.some Jvm.ClassFile.FieldType.int)) ∈ lw_tbl := List.mem_append_right _ (List.mem_append_right _ (List.mem_append_left _ (List.mem_of_getElem? (l := tables_1_2) (i := 184) rfl)))
theorem tw_425 : (Jvm.Cond.methodLink "SwingUnits$DayEnd" (15 : Nat) ({ cls := "SwingUnits$DayEnd", name := "takePrice", desc := "(LSwingUnits$Trust;)V" } : Jvm.MethodName)) ∈ lw_tbl := List.mem_append_right _ (List.mem_append_right _ (List.mem_append_left _ (List.mem_of_getElem? (l := tables_1_2) (i := 185) rfl)))
theorem tw_426 : (Jvm.Cond.privateMethod ({ cls := "SwingUnits$DayEnd", name := "takePrice", desc := "(LSwingUnits$Trust;)V" } : Jvm.MethodName)) ∈ lw_tbl := List.mem_append_right _ (List.mem_append_right _ (List.mem_append_left _ (List.mem_of_getElem? (l := tables_1_2) (i := 186) rfl)))
theorem tw_427 : (Jvm.Cond.instanceMethod ({ cls := "SwingUnits$DayEnd", name := "takePrice", desc := "(LSwingUnits$Trust;)V" } : Jvm.MethodName)) ∈ lw_tbl := List.mem_append_right _ (List.mem_append_right _ (List.mem_append_left _ (List.mem_of_getElem? (l := tables_1_2) (i := 187) rfl)))
theorem tw_428 : (Jvm.Cond.code ({ cls := "SwingUnits$DayEnd", name := "takePrice", desc := "(LSwingUnits$Trust;)V" } : Jvm.MethodName) prog_2_method_4_code (8 : Nat) (Option.none : Option Jvm.ClassFile.FieldType)) ∈ lw_tbl := List.mem_append_right _ (List.mem_append_right _ (List.mem_append_left _ (List.mem_of_getElem? (l := tables_1_2) (i := 188) rfl)))
theorem tw_429 : (Jvm.Cond.methodLink "SwingUnits$DayEnd" (63 : Nat) ({ cls := "SwingUnits$Trust", name := "middle", desc := "()J" } : Jvm.MethodName)) ∈ lw_tbl := List.mem_append_right _ (List.mem_append_right _ (List.mem_append_left _ (List.mem_of_getElem? (l := tables_1_2) (i := 189) rfl)))
theorem tw_430 : (Jvm.Cond.instanceMethod ({ cls := "SwingUnits$Trust", name := "middle", desc := "()J" } : Jvm.MethodName)) ∈ lw_tbl := List.mem_append_right _ (List.mem_append_right _ (List.mem_append_left _ (List.mem_of_getElem? (l := tables_1_2) (i := 190) rfl)))
theorem tw_431 : (Jvm.Cond.selects "SwingUnits$Trust" ({ cls := "SwingUnits$Trust", name := "middle", desc := "()J" } : Jvm.MethodName) ({ cls := "SwingUnits$Trust", name := "middle", desc := "()J" } : Jvm.MethodName)) ∈ lw_tbl := List.mem_append_right _ (List.mem_append_right _ (List.mem_append_left _ (List.mem_of_getElem? (l := tables_1_2) (i := 191) rfl)))
theorem tw_432 : (Jvm.Cond.code ({ cls := "SwingUnits$Trust", name := "middle", desc := "()J" } : Jvm.MethodName) prog_8_method_6_code (3 : Nat) (Option.some Jvm.ClassFile.FieldType.long)) ∈ lw_tbl := List.mem_append_right _ (List.mem_append_right _ (List.mem_append_left _ (List.mem_of_getElem? (l := tables_1_2) (i := 192) rfl)))
theorem tw_433 : (Jvm.Cond.methodLink "SwingUnits$Trust" (79 : Nat) ({ cls := "SwingUnits$Trust", name := "value", desc := "()J" } : Jvm.MethodName)) ∈ lw_tbl := List.mem_append_right _ (List.mem_append_right _ (List.mem_append_left _ (List.mem_of_getElem? (l := tables_1_2) (i := 193) rfl)))
theorem tw_434 : (Jvm.Cond.instanceMethod ({ cls := "SwingUnits$Trust", name := "value", desc := "()J" } : Jvm.MethodName)) ∈ lw_tbl := List.mem_append_right _ (List.mem_append_right _ (List.mem_append_left _ (List.mem_of_getElem? (l := tables_1_2) (i := 194) rfl)))
theorem tw_435 : (Jvm.Cond.selects "SwingUnits$Trust" ({ cls := "SwingUnits$Trust", name := "value", desc := "()J" } : Jvm.MethodName) ({ cls := "SwingUnits$Trust", name := "value", desc := "()J" } : Jvm.MethodName)) ∈ lw_tbl := List.mem_append_right _ (List.mem_append_right _ (List.mem_append_left _ (List.mem_of_getElem? (l := tables_1_2) (i := 195) rfl)))
theorem tw_436 : (Jvm.Cond.code ({ cls := "SwingUnits$Trust", name := "value", desc := "()J" } : Jvm.MethodName) prog_8_method_3_code (1 : Nat) (Option.some Jvm.ClassFile.FieldType.long)) ∈ lw_tbl := List.mem_append_right _ (List.mem_append_right _ (List.mem_append_left _ (List.mem_of_getElem? (l := tables_1_2) (i := 196) rfl)))
theorem tw_437 : (Jvm.Cond.constantLong "SwingUnits$Trust" (82 : Nat) (100000 : Int64)) ∈ lw_tbl := List.mem_append_right _ (List.mem_append_right _ (List.mem_append_left _ (List.mem_of_getElem? (l := tables_1_2) (i := 197) rfl)))
theorem tw_438 : (Jvm.Cond.methodLink "SwingUnits$DayEnd" (69 : Nat) ({ cls := "SwingUnits$Trust", name := "unitIncome", desc := "()J" } : Jvm.MethodName)) ∈ lw_tbl := List.mem_append_right _ (List.mem_append_right _ (List.mem_append_left _ (List.mem_of_getElem? (l := tables_1_2) (i := 198) rfl)))
theorem tw_439 : (Jvm.Cond.methodLink "SwingUnits$DayEnd" (74 : Nat) ({ cls := "SwingUnits$Trust", name := "units", desc := "()J" } : Jvm.MethodName)) ∈ lw_tbl := List.mem_append_right _ (List.mem_append_right _ (List.mem_append_left _ (List.mem_of_getElem? (l := tables_1_2) (i := 199) rfl)))
theorem tw_440 : (Jvm.Cond.methodLink "SwingUnits$DayEnd" (43 : Nat) ({ cls := "SwingUnits$Orders", name := "dueOn", desc := "(I)I" } : Jvm.MethodName)) ∈ lw_tbl := List.mem_append_right _ (List.mem_append_right _ (List.mem_append_left _ (List.mem_of_getElem? (l := tables_1_2) (i := 200) rfl)))
theorem tw_441 : (Jvm.Cond.instanceMethod ({ cls := "SwingUnits$Orders", name := "dueOn", desc := "(I)I" } : Jvm.MethodName)) ∈ lw_tbl := List.mem_append_right _ (List.mem_append_right _ (List.mem_append_left _ (List.mem_of_getElem? (l := tables_1_2) (i := 201) rfl)))
theorem tw_442 : (Jvm.Cond.selects "SwingUnits$Orders" ({ cls := "SwingUnits$Orders", name := "dueOn", desc := "(I)I" } : Jvm.MethodName) ({ cls := "SwingUnits$Orders", name := "dueOn", desc := "(I)I" } : Jvm.MethodName)) ∈ lw_tbl := List.mem_append_right _ (List.mem_append_right _ (List.mem_append_left _ (List.mem_of_getElem? (l := tables_1_2) (i := 202) rfl)))
theorem tw_443 : (Jvm.Cond.code ({ cls := "SwingUnits$Orders", name := "dueOn", desc := "(I)I" } : Jvm.MethodName) prog_6_method_6_code (3 : Nat) (Option.some Jvm.ClassFile.FieldType.int)) ∈ lw_tbl := List.mem_append_right _ (List.mem_append_right _ (List.mem_append_left _ (List.mem_of_getElem? (l := tables_1_2) (i := 203) rfl)))
theorem tw_444 : (Jvm.Cond.methodLink "SwingUnits$DayEnd" (77 : Nat) ({ cls := "SwingUnits$Orders", name := "sum", desc := "(II)J" } : Jvm.MethodName)) ∈ lw_tbl := List.mem_append_right _ (List.mem_append_right _ (List.mem_append_left _ (List.mem_of_getElem? (l := tables_1_2) (i := 204) rfl)))
theorem tw_445 : (Jvm.Cond.instanceMethod ({ cls := "SwingUnits$Orders", name := "sum", desc := "(II)J" } : Jvm.MethodName)) ∈ lw_tbl := List.mem_append_right _ (List.mem_append_right _ (List.mem_append_left _ (List.mem_of_getElem? (l := tables_1_2) (i := 205) rfl)))
theorem tw_446 : (Jvm.Cond.selects "SwingUnits$Orders" ({ cls := "SwingUnits$Orders", name := "sum", desc := "(II)J" } : Jvm.MethodName) ({ cls := "SwingUnits$Orders", name := "sum", desc := "(II)J" } : Jvm.MethodName)) ∈ lw_tbl := List.mem_append_right _ (List.mem_append_right _ (List.mem_append_left _ (List.mem_of_getElem? (l := tables_1_2) (i := 206) rfl)))
theorem tw_447 : (Jvm.Cond.code ({ cls := "SwingUnits$Orders", name := "sum", desc := "(II)J" } : Jvm.MethodName) prog_6_method_7_code (6 : Nat) (Option.some Jvm.ClassFile.FieldType.long)) ∈ lw_tbl := List.mem_append_right _ (List.mem_append_right _ (List.mem_append_left _ (List.mem_of_getElem? (l := tables_1_2) (i := 207) rfl)))
theorem tw_448 : (Jvm.Cond.constantLong "SwingUnits$DayEnd" (88 : Nat) (1000 : Int64)) ∈ lw_tbl := List.mem_append_right _ (List.mem_append_right _ (List.mem_append_left _ (List.mem_of_getElem? (l := tables_1_2) (i := 208) rfl)))
theorem tw_449 : (Jvm.Cond.methodLink "SwingUnits$DayEnd" (90 : Nat) ({ cls := "java/lang/Math", name := "min", desc := "(JJ)J" } : Jvm.MethodName)) ∈ lw_tbl := List.mem_append_right _ (List.mem_append_right _ (List.mem_append_left _ (List.mem_of_getElem? (l := tables_1_2) (i := 209) rfl)))
theorem tw_450 : (Jvm.Cond.methodLink "SwingUnits$DayEnd" (99 : Nat) ({ cls := "SwingUnits$Trust", name := "value", desc := "()J" } : Jvm.MethodName)) ∈ lw_tbl := List.mem_append_right _ (List.mem_append_right _ (List.mem_append_left _ (List.mem_of_getElem? (l := tables_1_2) (i := 210) rfl)))
theorem tw_451 : (Jvm.Cond.methodLink "SwingUnits$DayEnd" (102 : Nat) ({ cls := "SwingUnits$DayEnd", name := "direction", desc := "(JJ)I" } : Jvm.MethodName)) ∈ lw_tbl := List.mem_append_right _ (List.mem_append_right _ (List.mem_append_left _ (List.mem_of_getElem? (l := tables_1_2) (i := 211) rfl)))
theorem tw_452 : (Jvm.Cond.static ({ cls := "SwingUnits$DayEnd", name := "direction", desc := "(JJ)I" } : Jvm.MethodName)) ∈ lw_tbl := List.mem_append_right _ (List.mem_append_right _ (List.mem_append_left _ (List.mem_of_getElem? (l := tables_1_2) (i := 212) rfl)))
theorem tw_453 : (Jvm.Cond.code ({ cls := "SwingUnits$DayEnd", name := "direction", desc := "(JJ)I" } : Jvm.MethodName) prog_2_method_5_code (4 : Nat) (Option.some Jvm.ClassFile.FieldType.int)) ∈ lw_tbl := List.mem_append_right _ (List.mem_append_right _ (List.mem_append_left _ (List.mem_of_getElem? (l := tables_1_2) (i := 213) rfl)))
theorem tw_454 : (Jvm.Cond.methodLink "SwingUnits$DayEnd" (29 : Nat) ({ cls := "SwingUnits$LastDay", name := "start", desc := "(LSwingUnits$DayEnd;)V" } : Jvm.MethodName)) ∈ lw_tbl := List.mem_append_right _ (List.mem_append_right _ (List.mem_append_left _ (List.mem_of_getElem? (l := tables_1_2) (i := 214) rfl)))
theorem tw_455 : (Jvm.Cond.instanceMethod ({ cls := "SwingUnits$LastDay", name := "start", desc := "(LSwingUnits$DayEnd;)V" } : Jvm.MethodName)) ∈ lw_tbl := List.mem_append_right _ (List.mem_append_right _ (List.mem_append_left _ (List.mem_of_getElem? (l := tables_1_2) (i := 215) rfl)))
theorem tw_456 : (Jvm.Cond.selects "SwingUnits$LastDay" ({ cls := "SwingUnits$LastDay", name := "start", desc := "(LSwingUnits$DayEnd;)V" } : Jvm.MethodName) ({ cls := "SwingUnits$LastDay", name := "start", desc := "(LSwingUnits$DayEnd;)V" } : Jvm.MethodName)) ∈ lw_tbl := List.mem_append_right _ (List.mem_append_right _ (List.mem_append_left _ (List.mem_of_getElem? (l := tables_1_2) (i := 216) rfl)))
theorem tw_457 : (Jvm.Cond.code ({ cls := "SwingUnits$LastDay", name := "start", desc := "(LSwingUnits$DayEnd;)V" } : Jvm.MethodName) prog_5_method_3_code (2 : Nat) (Option.none : Option Jvm.ClassFile.FieldType)) ∈ lw_tbl := List.mem_append_right _ (List.mem_append_right _ (List.mem_append_left _ (List.mem_of_getElem? (l := tables_1_2) (i := 217) rfl)))
theorem tw_458 : (Jvm.Cond.methodLink "SwingUnits$DayEnd" (49 : Nat) ({ cls := "SwingUnits$DayEnd", name := "shareOut", desc := "(LSwingUnits$Orders;I)V" } : Jvm.MethodName)) ∈ lw_tbl := List.mem_append_right _ (List.mem_append_right _ (List.mem_append_left _ (List.mem_of_getElem? (l := tables_1_2) (i := 218) rfl)))
theorem tw_459 : (Jvm.Cond.privateMethod ({ cls := "SwingUnits$DayEnd", name := "shareOut", desc := "(LSwingUnits$Orders;I)V" } : Jvm.MethodName)) ∈ lw_tbl := List.mem_append_right _ (List.mem_append_right _ (List.mem_append_left _ (List.mem_of_getElem? (l := tables_1_2) (i := 219) rfl)))
theorem tw_460 : (Jvm.Cond.instanceMethod ({ cls := "SwingUnits$DayEnd", name := "shareOut", desc := "(LSwingUnits$Orders;I)V" } : Jvm.MethodName)) ∈ lw_tbl := List.mem_append_right _ (List.mem_append_right _ (List.mem_append_left _ (List.mem_of_getElem? (l := tables_1_2) (i := 220) rfl)))
theorem tw_461 : (Jvm.Cond.code ({ cls := "SwingUnits$DayEnd", name := "shareOut", desc := "(LSwingUnits$Orders;I)V" } : Jvm.MethodName) prog_2_method_6_code (11 : Nat) (Option.none : Option Jvm.ClassFile.FieldType)) ∈ lw_tbl := List.mem_append_right _ (List.mem_append_right _ (List.mem_append_left _ (List.mem_of_getElem? (l := tables_1_2) (i := 221) rfl)))
theorem tw_462 : (Jvm.Cond.methodLink "SwingUnits$DayEnd" (112 : Nat) ({ cls := "SwingUnits$DayEnd", name := "shareOutDay", desc := "(LSwingUnits$Orders;IIJJ)V" } : Jvm.MethodName)) ∈ lw_tbl := List.mem_append_right _ (List.mem_append_right _ (List.mem_append_left _ (List.mem_of_getElem? (l := tables_1_2) (i := 222) rfl)))
theorem tw_463 : (Jvm.Cond.privateMethod ({ cls := "SwingUnits$DayEnd", name := "shareOutDay", desc := "(LSwingUnits$Orders;IIJJ)V" } : Jvm.MethodName)) ∈ lw_tbl := List.mem_append_right _ (List.mem_append_right _ (List.mem_append_left _ (List.mem_of_getElem? (l := tables_1_2) (i := 223) rfl)))
theorem tw_464 : (Jvm.Cond.instanceMethod ({ cls := "SwingUnits$DayEnd", name := "shareOutDay", desc := "(LSwingUnits$Orders;IIJJ)V" } : Jvm.MethodName)) ∈ lw_tbl := List.mem_append_right _ (List.mem_append_right _ (List.mem_append_left _ (List.mem_of_getElem? (l := tables_1_2) (i := 224) rfl)))
theorem tw_465 : (Jvm.Cond.code ({ cls := "SwingUnits$DayEnd", name := "shareOutDay", desc := "(LSwingUnits$Orders;IIJJ)V" } : Jvm.MethodName) prog_2_method_7_code (11 : Nat) (Option.none : Option Jvm.ClassFile.FieldType)) ∈ lw_tbl := List.mem_append_right _ (List.mem_append_right _ (List.mem_append_left _ (List.mem_of_getElem? (l := tables_1_2) (i := 225) rfl)))
theorem tw_466 : (Jvm.Cond.methodLink "SwingUnits$DayEnd" (53 : Nat) ({ cls := "SwingUnits$DayEnd", name := "payLeavers", desc := "(LSwingUnits$Trust;I)V" } : Jvm.MethodName)) ∈ lw_tbl := List.mem_append_right _ (List.mem_append_right _ (List.mem_append_left _ (List.mem_of_getElem? (l := tables_1_2) (i := 226) rfl)))
theorem tw_467 : (Jvm.Cond.privateMethod ({ cls := "SwingUnits$DayEnd", name := "payLeavers", desc := "(LSwingUnits$Trust;I)V" } : Jvm.MethodName)) ∈ lw_tbl := List.mem_append_right _ (List.mem_append_right _ (List.mem_append_left _ (List.mem_of_getElem? (l := tables_1_2) (i := 227) rfl)))
theorem tw_468 : (Jvm.Cond.instanceMethod ({ cls := "SwingUnits$DayEnd", name := "payLeavers", desc := "(LSwingUnits$Trust;I)V" } : Jvm.MethodName)) ∈ lw_tbl := List.mem_append_right _ (List.mem_append_right _ (List.mem_append_left _ (List.mem_of_getElem? (l := tables_1_2) (i := 228) rfl)))
theorem tw_469 : (Jvm.Cond.code ({ cls := "SwingUnits$DayEnd", name := "payLeavers", desc := "(LSwingUnits$Trust;I)V" } : Jvm.MethodName) prog_2_method_8_code (5 : Nat) (Option.none : Option Jvm.ClassFile.FieldType)) ∈ lw_tbl := List.mem_append_right _ (List.mem_append_right _ (List.mem_append_left _ (List.mem_of_getElem? (l := tables_1_2) (i := 229) rfl)))
theorem tw_470 : (Jvm.Cond.methodLink "SwingUnits$DayEnd" (119 : Nat) ({ cls := "SwingUnits$DayEnd", name := "payLeaver", desc := "(LSwingUnits$Trust;I)Z" } : Jvm.MethodName)) ∈ lw_tbl := List.mem_append_right _ (List.mem_append_right _ (List.mem_append_left _ (List.mem_of_getElem? (l := tables_1_2) (i := 230) rfl)))
theorem tw_471 : (Jvm.Cond.privateMethod ({ cls := "SwingUnits$DayEnd", name := "payLeaver", desc := "(LSwingUnits$Trust;I)Z" } : Jvm.MethodName)) ∈ lw_tbl := List.mem_append_right _ (List.mem_append_right _ (List.mem_append_left _ (List.mem_of_getElem? (l := tables_1_2) (i := 231) rfl)))
theorem tw_472 : (Jvm.Cond.instanceMethod ({ cls := "SwingUnits$DayEnd", name := "payLeaver", desc := "(LSwingUnits$Trust;I)Z" } : Jvm.MethodName)) ∈ lw_tbl := List.mem_append_right _ (List.mem_append_right _ (List.mem_append_left _ (List.mem_of_getElem? (l := tables_1_2) (i := 232) rfl)))
theorem tw_473 : (Jvm.Cond.code ({ cls := "SwingUnits$DayEnd", name := "payLeaver", desc := "(LSwingUnits$Trust;I)Z" } : Jvm.MethodName) prog_2_method_9_code (7 : Nat) (Option.some Jvm.ClassFile.FieldType.boolean)) ∈ lw_tbl := List.mem_append_right _ (List.mem_append_right _ (List.mem_append_left _ (List.mem_of_getElem? (l := tables_1_2) (i := 233) rfl)))
theorem tw_474 : (Jvm.Cond.methodLink "SwingUnits$DayEnd" (129 : Nat) ({ cls := "SwingUnits$Trust", name := "sellFor", desc := "(J)I" } : Jvm.MethodName)) ∈ lw_tbl := List.mem_append_right _ (List.mem_append_right _ (List.mem_append_left _ (List.mem_of_getElem? (l := tables_1_2) (i := 234) rfl)))
theorem tw_475 : (Jvm.Cond.instanceMethod ({ cls := "SwingUnits$Trust", name := "sellFor", desc := "(J)I" } : Jvm.MethodName)) ∈ lw_tbl := List.mem_append_right _ (List.mem_append_right _ (List.mem_append_left _ (List.mem_of_getElem? (l := tables_1_2) (i := 235) rfl)))
theorem tw_476 : (Jvm.Cond.selects "SwingUnits$Trust" ({ cls := "SwingUnits$Trust", name := "sellFor", desc := "(J)I" } : Jvm.MethodName) ({ cls := "SwingUnits$Trust", name := "sellFor", desc := "(J)I" } : Jvm.MethodName)) ∈ lw_tbl := List.mem_append_right _ (List.mem_append_right _ (List.mem_append_left _ (List.mem_of_getElem? (l := tables_1_2) (i := 236) rfl)))
theorem tw_477 : (Jvm.Cond.code ({ cls := "SwingUnits$Trust", name := "sellFor", desc := "(J)I" } : Jvm.MethodName) prog_8_method_19_code (7 : Nat) (Option.some Jvm.ClassFile.FieldType.int)) ∈ lw_tbl := List.mem_append_right _ (List.mem_append_right _ (List.mem_append_left _ (List.mem_of_getElem? (l := tables_1_2) (i := 237) rfl)))
theorem tw_478 : (Jvm.Cond.methodLink "SwingUnits$Trust" (122 : Nat) ({ cls := "SwingUnits$Trust", name := "fee", desc := "()J" } : Jvm.MethodName)) ∈ lw_tbl := List.mem_append_right _ (List.mem_append_right _ (List.mem_append_left _ (List.mem_of_getElem? (l := tables_1_2) (i := 238) rfl)))
theorem tw_479 : (Jvm.Cond.instanceMethod ({ cls := "SwingUnits$Trust", name := "fee", desc := "()J" } : Jvm.MethodName)) ∈ lw_tbl := List.mem_append_right _ (List.mem_append_right _ (List.mem_append_left _ (List.mem_of_getElem? (l := tables_1_2) (i := 239) rfl)))
theorem tw_480 : (Jvm.Cond.selects "SwingUnits$Trust" ({ cls := "SwingUnits$Trust", name := "fee", desc := "()J" } : Jvm.MethodName) ({ cls := "SwingUnits$Trust", name := "fee", desc := "()J" } : Jvm.MethodName)) ∈ lw_tbl := List.mem_append_right _ (List.mem_append_right _ (List.mem_append_right _ (List.mem_append_left _ (List.mem_of_getElem? (l := tables_1_3) (i := 0) rfl))))
theorem tw_481 : (Jvm.Cond.code ({ cls := "SwingUnits$Trust", name := "fee", desc := "()J" } : Jvm.MethodName) prog_8_method_8_code (1 : Nat) (Option.some Jvm.ClassFile.FieldType.long)) ∈ lw_tbl := List.mem_append_right _ (List.mem_append_right _ (List.mem_append_right _ (List.mem_append_left _ (List.mem_of_getElem? (l := tables_1_3) (i := 1) rfl))))
theorem tw_482 : (Jvm.Cond.constantLong "SwingUnits$Trust" (84 : Nat) (999 : Int64)) ∈ lw_tbl := List.mem_append_right _ (List.mem_append_right _ (List.mem_append_right _ (List.mem_append_left _ (List.mem_of_getElem? (l := tables_1_3) (i := 2) rfl))))
theorem tw_483 : (Jvm.Cond.methodLink "SwingUnits$DayEnd" (142 : Nat) ({ cls := "SwingUnits$Trust", name := "takeUnits", desc := "(LSwingUnits$Holder;JJJ)V" } : Jvm.MethodName)) ∈ lw_tbl := List.mem_append_right _ (List.mem_append_right _ (List.mem_append_right _ (List.mem_append_left _ (List.mem_of_getElem? (l := tables_1_3) (i := 3) rfl))))
theorem tw_484 : (Jvm.Cond.methodLink "SwingUnits$DayEnd" (123 : Nat) ({ cls := "SwingUnits$Orders", name := "dropEmpty", desc := "()V" } : Jvm.MethodName)) ∈ lw_tbl := List.mem_append_right _ (List.mem_append_right _ (List.mem_append_right _ (List.mem_append_left _ (List.mem_of_getElem? (l := tables_1_3) (i := 4) rfl))))
theorem tw_485 : (Jvm.Cond.instanceMethod ({ cls := "SwingUnits$Orders", name := "dropEmpty", desc := "()V" } : Jvm.MethodName)) ∈ lw_tbl := List.mem_append_right _ (List.mem_append_right _ (List.mem_append_right _ (List.mem_append_left _ (List.mem_of_getElem? (l := tables_1_3) (i := 5) rfl))))
theorem tw_486 : (Jvm.Cond.selects "SwingUnits$Orders" ({ cls := "SwingUnits$Orders", name := "dropEmpty", desc := "()V" } : Jvm.MethodName) ({ cls := "SwingUnits$Orders", name := "dropEmpty", desc := "()V" } : Jvm.MethodName)) ∈ lw_tbl := List.mem_append_right _ (List.mem_append_right _ (List.mem_append_right _ (List.mem_append_left _ (List.mem_of_getElem? (l := tables_1_3) (i := 6) rfl))))
theorem tw_487 : (Jvm.Cond.code ({ cls := "SwingUnits$Orders", name := "dropEmpty", desc := "()V" } : Jvm.MethodName) prog_6_method_9_code (3 : Nat) (Option.none : Option Jvm.ClassFile.FieldType)) ∈ lw_tbl := List.mem_append_right _ (List.mem_append_right _ (List.mem_append_right _ (List.mem_append_left _ (List.mem_of_getElem? (l := tables_1_3) (i := 7) rfl))))
theorem tw_488 : (Jvm.Cond.methodLink "SwingUnits$DayEnd" (60 : Nat) ({ cls := "SwingUnits$DayEnd", name := "doBuyers", desc := "(LSwingUnits$Trust;I)V" } : Jvm.MethodName)) ∈ lw_tbl := List.mem_append_right _ (List.mem_append_right _ (List.mem_append_right _ (List.mem_append_left _ (List.mem_of_getElem? (l := tables_1_3) (i := 8) rfl))))
theorem tw_489 : (Jvm.Cond.privateMethod ({ cls := "SwingUnits$DayEnd", name := "doBuyers", desc := "(LSwingUnits$Trust;I)V" } : Jvm.MethodName)) ∈ lw_tbl := List.mem_append_right _ (List.mem_append_right _ (List.mem_append_right _ (List.mem_append_left _ (List.mem_of_getElem? (l := tables_1_3) (i := 9) rfl))))
theorem tw_490 : (Jvm.Cond.instanceMethod ({ cls := "SwingUnits$DayEnd", name := "doBuyers", desc := "(LSwingUnits$Trust;I)V" } : Jvm.MethodName)) ∈ lw_tbl := List.mem_append_right _ (List.mem_append_right _ (List.mem_append_right _ (List.mem_append_left _ (List.mem_of_getElem? (l := tables_1_3) (i := 10) rfl))))
theorem tw_491 : (Jvm.Cond.code ({ cls := "SwingUnits$DayEnd", name := "doBuyers", desc := "(LSwingUnits$Trust;I)V" } : Jvm.MethodName) prog_2_method_10_code (8 : Nat) (Option.none : Option Jvm.ClassFile.FieldType)) ∈ lw_tbl := List.mem_append_right _ (List.mem_append_right _ (List.mem_append_right _ (List.mem_append_left _ (List.mem_of_getElem? (l := tables_1_3) (i := 11) rfl))))
theorem tw_492 : (Jvm.Cond.constantLong "SwingUnits$DayEnd" (152 : Nat) (1000000000 : Int64)) ∈ lw_tbl := List.mem_append_right _ (List.mem_append_right _ (List.mem_append_right _ (List.mem_append_left _ (List.mem_of_getElem? (l := tables_1_3) (i := 12) rfl))))
theorem tw_493 : (Jvm.Cond.methodLink "SwingUnits$DayEnd" (157 : Nat) ({ cls := "SwingUnits$Trust", name := "makeUnits", desc := "(LSwingUnits$Holder;JJJ)V" } : Jvm.MethodName)) ∈ lw_tbl := List.mem_append_right _ (List.mem_append_right _ (List.mem_append_right _ (List.mem_append_left _ (List.mem_of_getElem? (l := tables_1_3) (i := 13) rfl))))
theorem tw_494 : (Jvm.Cond.instanceMethod ({ cls := "SwingUnits$Trust", name := "makeUnits", desc := "(LSwingUnits$Holder;JJJ)V" } : Jvm.MethodName)) ∈ lw_tbl := List.mem_append_right _ (List.mem_append_right _ (List.mem_append_right _ (List.mem_append_left _ (List.mem_of_getElem? (l := tables_1_3) (i := 14) rfl))))
theorem tw_495 : (Jvm.Cond.selects "SwingUnits$Trust" ({ cls := "SwingUnits$Trust", name := "makeUnits", desc := "(LSwingUnits$Holder;JJJ)V" } : Jvm.MethodName) ({ cls := "SwingUnits$Trust", name := "makeUnits", desc := "(LSwingUnits$Holder;JJJ)V" } : Jvm.MethodName)) ∈ lw_tbl := List.mem_append_right _ (List.mem_append_right _ (List.mem_append_right _ (List.mem_append_left _ (List.mem_of_getElem? (l := tables_1_3) (i := 15) rfl))))
theorem tw_496 : (Jvm.Cond.code ({ cls := "SwingUnits$Trust", name := "makeUnits", desc := "(LSwingUnits$Holder;JJJ)V" } : Jvm.MethodName) prog_8_method_17_code (10 : Nat) (Option.none : Option Jvm.ClassFile.FieldType)) ∈ lw_tbl := List.mem_append_right _ (List.mem_append_right _ (List.mem_append_right _ (List.mem_append_left _ (List.mem_of_getElem? (l := tables_1_3) (i := 16) rfl))))
theorem tw_497 : (Jvm.Cond.methodLink "SwingUnitsLaw" (36 : Nat) ({ cls := "SwingUnits", name := "quote", desc := "(I)I" } : Jvm.MethodName)) ∈ lw_tbl := List.mem_append_right _ (List.mem_append_right _ (List.mem_append_right _ (List.mem_append_left _ (List.mem_of_getElem? (l := tables_1_3) (i := 17) rfl))))
theorem tw_498 : (Jvm.Cond.instanceMethod ({ cls := "SwingUnits", name := "quote", desc := "(I)I" } : Jvm.MethodName)) ∈ lw_tbl := List.mem_append_right _ (List.mem_append_right _ (List.mem_append_right _ (List.mem_append_left _ (List.mem_of_getElem? (l := tables_1_3) (i := 18) rfl))))
theorem tw_499 : (Jvm.Cond.selects "SwingUnits" ({ cls := "SwingUnits", name := "quote", desc := "(I)I" } : Jvm.MethodName) ({ cls := "SwingUnits", name := "quote", desc := "(I)I" } : Jvm.MethodName)) ∈ lw_tbl := List.mem_append_right _ (List.mem_append_right _ (List.mem_append_right _ (List.mem_append_left _ (List.mem_of_getElem? (l := tables_1_3) (i := 19) rfl))))
theorem tw_500 : (Jvm.Cond.code ({ cls := "SwingUnits", name := "quote", desc := "(I)I" } : Jvm.MethodName) prog_1_method_7_code (2 : Nat) (Option.some Jvm.ClassFile.FieldType.int)) ∈ lw_tbl := List.mem_append_right _ (List.mem_append_right _ (List.mem_append_right _ (List.mem_append_left _ (List.mem_of_getElem? (l := tables_1_3) (i := 20) rfl))))
theorem tw_501 : (Jvm.Cond.methodLink "SwingUnits" (74 : Nat) ({ cls := "SwingUnits$Trust", name := "changeQuote", desc := "(I)I" } : Jvm.MethodName)) ∈ lw_tbl := List.mem_append_right _ (List.mem_append_right _ (List.mem_append_right _ (List.mem_append_left _ (List.mem_of_getElem? (l := tables_1_3) (i := 21) rfl))))
theorem tw_502 : (Jvm.Cond.instanceMethod ({ cls := "SwingUnits$Trust", name := "changeQuote", desc := "(I)I" } : Jvm.MethodName)) ∈ lw_tbl := List.mem_append_right _ (List.mem_append_right _ (List.mem_append_right _ (List.mem_append_left _ (List.mem_of_getElem? (l := tables_1_3) (i := 22) rfl))))
theorem tw_503 : (Jvm.Cond.selects "SwingUnits$Trust" ({ cls := "SwingUnits$Trust", name := "changeQuote", desc := "(I)I" } : Jvm.MethodName) ({ cls := "SwingUnits$Trust", name := "changeQuote", desc := "(I)I" } : Jvm.MethodName)) ∈ lw_tbl := List.mem_append_right _ (List.mem_append_right _ (List.mem_append_right _ (List.mem_append_left _ (List.mem_of_getElem? (l := tables_1_3) (i := 23) rfl))))
theorem tw_504 : (Jvm.Cond.code ({ cls := "SwingUnits$Trust", name := "changeQuote", desc := "(I)I" } : Jvm.MethodName) prog_8_method_13_code (3 : Nat) (Option.some Jvm.ClassFile.FieldType.int)) ∈ lw_tbl := List.mem_append_right _ (List.mem_append_right _ (List.mem_append_right _ (List.mem_append_left _ (List.mem_of_getElem? (l := tables_1_3) (i := 24) rfl))))
theorem tw_505 : (Jvm.Cond.methodLink "SwingUnitsLaw" (41 : Nat) ({ cls := "SwingUnits", name := "trade", desc := "(I)I" } : Jvm.MethodName)) ∈ lw_tbl := List.mem_append_right _ (List.mem_append_right _ (List.mem_append_right _ (List.mem_append_left _ (List.mem_of_getElem? (l := tables_1_3) (i := 25) rfl))))
theorem tw_506 : (Jvm.Cond.instanceMethod ({ cls := "SwingUnits", name := "trade", desc := "(I)I" } : Jvm.MethodName)) ∈ lw_tbl := List.mem_append_right _ (List.mem_append_right _ (List.mem_append_right _ (List.mem_append_left _ (List.mem_of_getElem? (l := tables_1_3) (i := 26) rfl))))
theorem tw_507 : (Jvm.Cond.selects "SwingUnits" ({ cls := "SwingUnits", name := "trade", desc := "(I)I" } : Jvm.MethodName) ({ cls := "SwingUnits", name := "trade", desc := "(I)I" } : Jvm.MethodName)) ∈ lw_tbl := List.mem_append_right _ (List.mem_append_right _ (List.mem_append_right _ (List.mem_append_left _ (List.mem_of_getElem? (l := tables_1_3) (i := 27) rfl))))
theorem tw_508 : (Jvm.Cond.code ({ cls := "SwingUnits", name := "trade", desc := "(I)I" } : Jvm.MethodName) prog_1_method_8_code (2 : Nat) (Option.some Jvm.ClassFile.FieldType.int)) ∈ lw_tbl := List.mem_append_right _ (List.mem_append_right _ (List.mem_append_right _ (List.mem_append_left _ (List.mem_of_getElem? (l := tables_1_3) (i := 28) rfl))))
theorem tw_509 : (Jvm.Cond.methodLink "SwingUnits" (77 : Nat) ({ cls := "SwingUnits$Trust", name := "tradeLots", desc := "(I)I" } : Jvm.MethodName)) ∈ lw_tbl := List.mem_append_right _ (List.mem_append_right _ (List.mem_append_right _ (List.mem_append_left _ (List.mem_of_getElem? (l := tables_1_3) (i := 29) rfl))))
theorem tw_510 : (Jvm.Cond.instanceMethod ({ cls := "SwingUnits$Trust", name := "tradeLots", desc := "(I)I" } : Jvm.MethodName)) ∈ lw_tbl := List.mem_append_right _ (List.mem_append_right _ (List.mem_append_right _ (List.mem_append_left _ (List.mem_of_getElem? (l := tables_1_3) (i := 30) rfl))))
theorem tw_511 : (Jvm.Cond.selects "SwingUnits$Trust" ({ cls := "SwingUnits$Trust", name := "tradeLots", desc := "(I)I" } : Jvm.MethodName) ({ cls := "SwingUnits$Trust", name := "tradeLots", desc := "(I)I" } : Jvm.MethodName)) ∈ lw_tbl := List.mem_append_right _ (List.mem_append_right _ (List.mem_append_right _ (List.mem_append_left _ (List.mem_of_getElem? (l := tables_1_3) (i := 31) rfl))))
theorem tw_512 : (Jvm.Cond.code ({ cls := "SwingUnits$Trust", name := "tradeLots", desc := "(I)I" } : Jvm.MethodName) prog_8_method_14_code (4 : Nat) (Option.some Jvm.ClassFile.FieldType.int)) ∈ lw_tbl := List.mem_append_right _ (List.mem_append_right _ (List.mem_append_right _ (List.mem_append_left _ (List.mem_of_getElem? (l := tables_1_3) (i := 32) rfl))))
theorem tw_513 : (Jvm.Cond.methodLink "SwingUnitsLaw" (45 : Nat) ({ cls := "SwingUnits", name := "income", desc := "(I)I" } : Jvm.MethodName)) ∈ lw_tbl := List.mem_append_right _ (List.mem_append_right _ (List.mem_append_right _ (List.mem_append_left _ (List.mem_of_getElem? (l := tables_1_3) (i := 33) rfl))))
theorem tw_514 : (Jvm.Cond.instanceMethod ({ cls := "SwingUnits", name := "income", desc := "(I)I" } : Jvm.MethodName)) ∈ lw_tbl := List.mem_append_right _ (List.mem_append_right _ (List.mem_append_right _ (List.mem_append_left _ (List.mem_of_getElem? (l := tables_1_3) (i := 34) rfl))))
theorem tw_515 : (Jvm.Cond.selects "SwingUnits" ({ cls := "SwingUnits", name := "income", desc := "(I)I" } : Jvm.MethodName) ({ cls := "SwingUnits", name := "income", desc := "(I)I" } : Jvm.MethodName)) ∈ lw_tbl := List.mem_append_right _ (List.mem_append_right _ (List.mem_append_right _ (List.mem_append_left _ (List.mem_of_getElem? (l := tables_1_3) (i := 35) rfl))))
theorem tw_516 : (Jvm.Cond.code ({ cls := "SwingUnits", name := "income", desc := "(I)I" } : Jvm.MethodName) prog_1_method_9_code (2 : Nat) (Option.some Jvm.ClassFile.FieldType.int)) ∈ lw_tbl := List.mem_append_right _ (List.mem_append_right _ (List.mem_append_right _ (List.mem_append_left _ (List.mem_of_getElem? (l := tables_1_3) (i := 36) rfl))))
theorem tw_517 : (Jvm.Cond.methodLink "SwingUnits" (80 : Nat) ({ cls := "SwingUnits$Trust", name := "takeIncome", desc := "(I)I" } : Jvm.MethodName)) ∈ lw_tbl := List.mem_append_right _ (List.mem_append_right _ (List.mem_append_right _ (List.mem_append_left _ (List.mem_of_getElem? (l := tables_1_3) (i := 37) rfl))))
theorem tw_518 : (Jvm.Cond.instanceMethod ({ cls := "SwingUnits$Trust", name := "takeIncome", desc := "(I)I" } : Jvm.MethodName)) ∈ lw_tbl := List.mem_append_right _ (List.mem_append_right _ (List.mem_append_right _ (List.mem_append_left _ (List.mem_of_getElem? (l := tables_1_3) (i := 38) rfl))))
theorem tw_519 : (Jvm.Cond.selects "SwingUnits$Trust" ({ cls := "SwingUnits$Trust", name := "takeIncome", desc := "(I)I" } : Jvm.MethodName) ({ cls := "SwingUnits$Trust", name := "takeIncome", desc := "(I)I" } : Jvm.MethodName)) ∈ lw_tbl := List.mem_append_right _ (List.mem_append_right _ (List.mem_append_right _ (List.mem_append_left _ (List.mem_of_getElem? (l := tables_1_3) (i := 39) rfl))))
theorem tw_520 : (Jvm.Cond.code ({ cls := "SwingUnits$Trust", name := "takeIncome", desc := "(I)I" } : Jvm.MethodName) prog_8_method_15_code (2 : Nat) (Option.some Jvm.ClassFile.FieldType.int)) ∈ lw_tbl := List.mem_append_right _ (List.mem_append_right _ (List.mem_append_right _ (List.mem_append_left _ (List.mem_of_getElem? (l := tables_1_3) (i := 40) rfl))))
theorem tw_521 : (Jvm.Cond.methodLink "SwingUnitsLaw" (49 : Nat) ({ cls := "SwingUnits", name := "pay", desc := "()I" } : Jvm.MethodName)) ∈ lw_tbl := List.mem_append_right _ (List.mem_append_right _ (List.mem_append_right _ (List.mem_append_left _ (List.mem_of_getElem? (l := tables_1_3) (i := 41) rfl))))
theorem tw_522 : (Jvm.Cond.instanceMethod ({ cls := "SwingUnits", name := "pay", desc := "()I" } : Jvm.MethodName)) ∈ lw_tbl := List.mem_append_right _ (List.mem_append_right _ (List.mem_append_right _ (List.mem_append_left _ (List.mem_of_getElem? (l := tables_1_3) (i := 42) rfl))))
theorem tw_523 : (Jvm.Cond.selects "SwingUnits" ({ cls := "SwingUnits", name := "pay", desc := "()I" } : Jvm.MethodName) ({ cls := "SwingUnits", name := "pay", desc := "()I" } : Jvm.MethodName)) ∈ lw_tbl := List.mem_append_right _ (List.mem_append_right _ (List.mem_append_right _ (List.mem_append_left _ (List.mem_of_getElem? (l := tables_1_3) (i := 43) rfl))))
theorem tw_524 : (Jvm.Cond.code ({ cls := "SwingUnits", name := "pay", desc := "()I" } : Jvm.MethodName) prog_1_method_10_code (1 : Nat) (Option.some Jvm.ClassFile.FieldType.int)) ∈ lw_tbl := List.mem_append_right _ (List.mem_append_right _ (List.mem_append_right _ (List.mem_append_left _ (List.mem_of_getElem? (l := tables_1_3) (i := 44) rfl))))
theorem tw_525 : (Jvm.Cond.methodLink "SwingUnits" (83 : Nat) ({ cls := "SwingUnits$Trust", name := "payIncome", desc := "()I" } : Jvm.MethodName)) ∈ lw_tbl := List.mem_append_right _ (List.mem_append_right _ (List.mem_append_right _ (List.mem_append_left _ (List.mem_of_getElem? (l := tables_1_3) (i := 45) rfl))))
theorem tw_526 : (Jvm.Cond.instanceMethod ({ cls := "SwingUnits$Trust", name := "payIncome", desc := "()I" } : Jvm.MethodName)) ∈ lw_tbl := List.mem_append_right _ (List.mem_append_right _ (List.mem_append_right _ (List.mem_append_left _ (List.mem_of_getElem? (l := tables_1_3) (i := 46) rfl))))
theorem tw_527 : (Jvm.Cond.selects "SwingUnits$Trust" ({ cls := "SwingUnits$Trust", name := "payIncome", desc := "()I" } : Jvm.MethodName) ({ cls := "SwingUnits$Trust", name := "payIncome", desc := "()I" } : Jvm.MethodName)) ∈ lw_tbl := List.mem_append_right _ (List.mem_append_right _ (List.mem_append_right _ (List.mem_append_left _ (List.mem_of_getElem? (l := tables_1_3) (i := 47) rfl))))
theorem tw_528 : (Jvm.Cond.code ({ cls := "SwingUnits$Trust", name := "payIncome", desc := "()I" } : Jvm.MethodName) prog_8_method_16_code (13 : Nat) (Option.some Jvm.ClassFile.FieldType.int)) ∈ lw_tbl := List.mem_append_right _ (List.mem_append_right _ (List.mem_append_right _ (List.mem_append_left _ (List.mem_of_getElem? (l := tables_1_3) (i := 48) rfl))))
theorem tw_529 : (Jvm.Cond.methodLink "SwingUnitsLaw" (53 : Nat) ({ cls := "SwingUnits", name := "ofHolder", desc := "(II)I" } : Jvm.MethodName)) ∈ lw_tbl := List.mem_append_right _ (List.mem_append_right _ (List.mem_append_right _ (List.mem_append_left _ (List.mem_of_getElem? (l := tables_1_3) (i := 49) rfl))))
theorem tw_530 : (Jvm.Cond.instanceMethod ({ cls := "SwingUnits", name := "ofHolder", desc := "(II)I" } : Jvm.MethodName)) ∈ lw_tbl := List.mem_append_right _ (List.mem_append_right _ (List.mem_append_right _ (List.mem_append_left _ (List.mem_of_getElem? (l := tables_1_3) (i := 50) rfl))))
theorem tw_531 : (Jvm.Cond.selects "SwingUnits" ({ cls := "SwingUnits", name := "ofHolder", desc := "(II)I" } : Jvm.MethodName) ({ cls := "SwingUnits", name := "ofHolder", desc := "(II)I" } : Jvm.MethodName)) ∈ lw_tbl := List.mem_append_right _ (List.mem_append_right _ (List.mem_append_right _ (List.mem_append_left _ (List.mem_of_getElem? (l := tables_1_3) (i := 51) rfl))))
theorem tw_532 : (Jvm.Cond.code ({ cls := "SwingUnits", name := "ofHolder", desc := "(II)I" } : Jvm.MethodName) prog_1_method_11_code (4 : Nat) (Option.some Jvm.ClassFile.FieldType.int)) ∈ lw_tbl := List.mem_append_right _ (List.mem_append_right _ (List.mem_append_right _ (List.mem_append_left _ (List.mem_of_getElem? (l := tables_1_3) (i := 52) rfl))))
theorem tw_533 : (Jvm.Cond.methodLink "SwingUnits" (87 : Nat) ({ cls := "SwingUnits", name := "isHolder", desc := "(I)Z" } : Jvm.MethodName)) ∈ lw_tbl := List.mem_append_right _ (List.mem_append_right _ (List.mem_append_right _ (List.mem_append_left _ (List.mem_of_getElem? (l := tables_1_3) (i := 53) rfl))))
theorem tw_534 : (Jvm.Cond.methodLink "SwingUnits" (95 : Nat) ({ cls := "SwingUnits$Holder", name := "units", desc := "()J" } : Jvm.MethodName)) ∈ lw_tbl := List.mem_append_right _ (List.mem_append_right _ (List.mem_append_right _ (List.mem_append_left _ (List.mem_of_getElem? (l := tables_1_3) (i := 54) rfl))))
theorem tw_535 : (Jvm.Cond.methodLink "SwingUnits" (112 : Nat) ({ cls := "SwingUnits$Orders", name := "sumOf", desc := "(I)J" } : Jvm.MethodName)) ∈ lw_tbl := List.mem_append_right _ (List.mem_append_right _ (List.mem_append_right _ (List.mem_append_left _ (List.mem_of_getElem? (l := tables_1_3) (i := 55) rfl))))
theorem tw_536 : (Jvm.Cond.methodLink "SwingUnitsLaw" (57 : Nat) ({ cls := "SwingUnits", name := "count", desc := "(I)I" } : Jvm.MethodName)) ∈ lw_tbl := List.mem_append_right _ (List.mem_append_right _ (List.mem_append_right _ (List.mem_append_left _ (List.mem_of_getElem? (l := tables_1_3) (i := 56) rfl))))
theorem tw_537 : (Jvm.Cond.instanceMethod ({ cls := "SwingUnits", name := "count", desc := "(I)I" } : Jvm.MethodName)) ∈ lw_tbl := List.mem_append_right _ (List.mem_append_right _ (List.mem_append_right _ (List.mem_append_left _ (List.mem_of_getElem? (l := tables_1_3) (i := 57) rfl))))
theorem tw_538 : (Jvm.Cond.selects "SwingUnits" ({ cls := "SwingUnits", name := "count", desc := "(I)I" } : Jvm.MethodName) ({ cls := "SwingUnits", name := "count", desc := "(I)I" } : Jvm.MethodName)) ∈ lw_tbl := List.mem_append_right _ (List.mem_append_right _ (List.mem_append_right _ (List.mem_append_left _ (List.mem_of_getElem? (l := tables_1_3) (i := 58) rfl))))
theorem tw_539 : (Jvm.Cond.code ({ cls := "SwingUnits", name := "count", desc := "(I)I" } : Jvm.MethodName) prog_1_method_12_code (2 : Nat) (Option.some Jvm.ClassFile.FieldType.int)) ∈ lw_tbl := List.mem_append_right _ (List.mem_append_right _ (List.mem_append_right _ (List.mem_append_left _ (List.mem_of_getElem? (l := tables_1_3) (i := 59) rfl))))
theorem tw_540 : (Jvm.Cond.methodLink "SwingUnits" (142 : Nat) ({ cls := "SwingUnits$Trust", name := "value", desc := "()J" } : Jvm.MethodName)) ∈ lw_tbl := List.mem_append_right _ (List.mem_append_right _ (List.mem_append_right _ (List.mem_append_left _ (List.mem_of_getElem? (l := tables_1_3) (i := 60) rfl))))
theorem tw_541 : (Jvm.Cond.methodLink "SwingUnits" (145 : Nat) ({ cls := "SwingUnits$Trust", name := "units", desc := "()J" } : Jvm.MethodName)) ∈ lw_tbl := List.mem_append_right _ (List.mem_append_right _ (List.mem_append_right _ (List.mem_append_left _ (List.mem_of_getElem? (l := tables_1_3) (i := 61) rfl))))
theorem tw_542 : (Jvm.Cond.methodLink "SwingUnits" (146 : Nat) ({ cls := "SwingUnits$Trust", name := "newUnits", desc := "()J" } : Jvm.MethodName)) ∈ lw_tbl := List.mem_append_right _ (List.mem_append_right _ (List.mem_append_right _ (List.mem_append_left _ (List.mem_of_getElem? (l := tables_1_3) (i := 62) rfl))))
theorem tw_543 : (Jvm.Cond.methodLink "SwingUnits" (163 : Nat) ({ cls := "SwingUnits$Orders", name := "sum", desc := "(II)J" } : Jvm.MethodName)) ∈ lw_tbl := List.mem_append_right _ (List.mem_append_right _ (List.mem_append_right _ (List.mem_append_left _ (List.mem_of_getElem? (l := tables_1_3) (i := 63) rfl))))
theorem tw_544 : (Jvm.Cond.methodLink "SwingUnitsLaw" (61 : Nat) ({ cls := "SwingUnits", name := "order", desc := "(III)I" } : Jvm.MethodName)) ∈ lw_tbl := List.mem_append_right _ (List.mem_append_right _ (List.mem_append_right _ (List.mem_append_left _ (List.mem_of_getElem? (l := tables_1_3) (i := 64) rfl))))
theorem tw_545 : (Jvm.Cond.instanceMethod ({ cls := "SwingUnits", name := "order", desc := "(III)I" } : Jvm.MethodName)) ∈ lw_tbl := List.mem_append_right _ (List.mem_append_right _ (List.mem_append_right _ (List.mem_append_left _ (List.mem_of_getElem? (l := tables_1_3) (i := 65) rfl))))
theorem tw_546 : (Jvm.Cond.selects "SwingUnits" ({ cls := "SwingUnits", name := "order", desc := "(III)I" } : Jvm.MethodName) ({ cls := "SwingUnits", name := "order", desc := "(III)I" } : Jvm.MethodName)) ∈ lw_tbl := List.mem_append_right _ (List.mem_append_right _ (List.mem_append_right _ (List.mem_append_left _ (List.mem_of_getElem? (l := tables_1_3) (i := 66) rfl))))
theorem tw_547 : (Jvm.Cond.code ({ cls := "SwingUnits", name := "order", desc := "(III)I" } : Jvm.MethodName) prog_1_method_13_code (5 : Nat) (Option.some Jvm.ClassFile.FieldType.int)) ∈ lw_tbl := List.mem_append_right _ (List.mem_append_right _ (List.mem_append_right _ (List.mem_append_left _ (List.mem_of_getElem? (l := tables_1_3) (i := 67) rfl))))
theorem tw_548 : (Jvm.Cond.methodLink "SwingUnitsLaw" (65 : Nat) ({ cls := "SwingUnits", name := "lastDay", desc := "(I)I" } : Jvm.MethodName)) ∈ lw_tbl := List.mem_append_right _ (List.mem_append_right _ (List.mem_append_right _ (List.mem_append_left _ (List.mem_of_getElem? (l := tables_1_3) (i := 68) rfl))))
theorem tw_549 : (Jvm.Cond.instanceMethod ({ cls := "SwingUnits", name := "lastDay", desc := "(I)I" } : Jvm.MethodName)) ∈ lw_tbl := List.mem_append_right _ (List.mem_append_right _ (List.mem_append_right _ (List.mem_append_left _ (List.mem_of_getElem? (l := tables_1_3) (i := 69) rfl))))
theorem tw_550 : (Jvm.Cond.selects "SwingUnits" ({ cls := "SwingUnits", name := "lastDay", desc := "(I)I" } : Jvm.MethodName) ({ cls := "SwingUnits", name := "lastDay", desc := "(I)I" } : Jvm.MethodName)) ∈ lw_tbl := List.mem_append_right _ (List.mem_append_right _ (List.mem_append_right _ (List.mem_append_left _ (List.mem_of_getElem? (l := tables_1_3) (i := 70) rfl))))
theorem tw_551 : (Jvm.Cond.code ({ cls := "SwingUnits", name := "lastDay", desc := "(I)I" } : Jvm.MethodName) prog_1_method_14_code (3 : Nat) (Option.some Jvm.ClassFile.FieldType.int)) ∈ lw_tbl := List.mem_append_right _ (List.mem_append_right _ (List.mem_append_right _ (List.mem_append_left _ (List.mem_of_getElem? (l := tables_1_3) (i := 71) rfl))))
theorem tw_552 : (Jvm.Cond.methodLink "SwingUnitsLaw" (69 : Nat) ({ cls := "SwingUnits", name := "price", desc := "(I)J" } : Jvm.MethodName)) ∈ lw_tbl := List.mem_append_right _ (List.mem_append_right _ (List.mem_append_right _ (List.mem_append_left _ (List.mem_of_getElem? (l := tables_1_3) (i := 72) rfl))))
theorem tw_553 : (Jvm.Cond.instanceMethod ({ cls := "SwingUnits", name := "price", desc := "(I)J" } : Jvm.MethodName)) ∈ lw_tbl := List.mem_append_right _ (List.mem_append_right _ (List.mem_append_right _ (List.mem_append_left _ (List.mem_of_getElem? (l := tables_1_3) (i := 73) rfl))))
theorem tw_554 : (Jvm.Cond.selects "SwingUnits" ({ cls := "SwingUnits", name := "price", desc := "(I)J" } : Jvm.MethodName) ({ cls := "SwingUnits", name := "price", desc := "(I)J" } : Jvm.MethodName)) ∈ lw_tbl := List.mem_append_right _ (List.mem_append_right _ (List.mem_append_right _ (List.mem_append_left _ (List.mem_of_getElem? (l := tables_1_3) (i := 74) rfl))))
theorem tw_555 : (Jvm.Cond.code ({ cls := "SwingUnits", name := "price", desc := "(I)J" } : Jvm.MethodName) prog_1_method_15_code (2 : Nat) (Option.some Jvm.ClassFile.FieldType.long)) ∈ lw_tbl := List.mem_append_right _ (List.mem_append_right _ (List.mem_append_right _ (List.mem_append_left _ (List.mem_of_getElem? (l := tables_1_3) (i := 75) rfl))))
theorem tw_556 : (Jvm.Cond.constantLong "SwingUnits" (211 : Nat) (-2 : Int64)) ∈ lw_tbl := List.mem_append_right _ (List.mem_append_right _ (List.mem_append_right _ (List.mem_append_left _ (List.mem_of_getElem? (l := tables_1_3) (i := 76) rfl))))
theorem tw_557 : (Jvm.Cond.methodLink "SwingUnits" (213 : Nat) ({ cls := "SwingUnits$Trust", name := "middle", desc := "()J" } : Jvm.MethodName)) ∈ lw_tbl := List.mem_append_right _ (List.mem_append_right _ (List.mem_append_right _ (List.mem_append_left _ (List.mem_of_getElem? (l := tables_1_3) (i := 77) rfl))))
theorem tw_558 : (Jvm.Cond.methodLink "SwingUnits" (216 : Nat) ({ cls := "SwingUnits$DayEnd", name := "priceOf", desc := "(LSwingUnits$Trust;)J" } : Jvm.MethodName)) ∈ lw_tbl := List.mem_append_right _ (List.mem_append_right _ (List.mem_append_right _ (List.mem_append_left _ (List.mem_of_getElem? (l := tables_1_3) (i := 78) rfl))))
theorem tw_559 : (Jvm.Cond.instanceMethod ({ cls := "SwingUnits$DayEnd", name := "priceOf", desc := "(LSwingUnits$Trust;)J" } : Jvm.MethodName)) ∈ lw_tbl := List.mem_append_right _ (List.mem_append_right _ (List.mem_append_right _ (List.mem_append_left _ (List.mem_of_getElem? (l := tables_1_3) (i := 79) rfl))))
theorem tw_560 : (Jvm.Cond.selects "SwingUnits$DayEnd" ({ cls := "SwingUnits$DayEnd", name := "priceOf", desc := "(LSwingUnits$Trust;)J" } : Jvm.MethodName) ({ cls := "SwingUnits$DayEnd", name := "priceOf", desc := "(LSwingUnits$Trust;)J" } : Jvm.MethodName)) ∈ lw_tbl := List.mem_append_right _ (List.mem_append_right _ (List.mem_append_right _ (List.mem_append_left _ (List.mem_of_getElem? (l := tables_1_3) (i := 80) rfl))))
theorem tw_561 : (Jvm.Cond.code ({ cls := "SwingUnits$DayEnd", name := "priceOf", desc := "(LSwingUnits$Trust;)J" } : Jvm.MethodName) prog_2_method_2_code (2 : Nat) (Option.some Jvm.ClassFile.FieldType.long)) ∈ lw_tbl := List.mem_append_right _ (List.mem_append_right _ (List.mem_append_right _ (List.mem_append_left _ (List.mem_of_getElem? (l := tables_1_3) (i := 81) rfl))))
theorem tw_562 : (Jvm.Cond.constantLong "SwingUnits" (223 : Nat) (-6 : Int64)) ∈ lw_tbl := List.mem_append_right _ (List.mem_append_right _ (List.mem_append_right _ (List.mem_append_left _ (List.mem_of_getElem? (l := tables_1_3) (i := 82) rfl))))
theorem tw_563 : (Jvm.Cond.methodLink "SwingUnits" (225 : Nat) ({ cls := "SwingUnits$Trust", name := "unitIncome", desc := "()J" } : Jvm.MethodName)) ∈ lw_tbl := List.mem_append_right _ (List.mem_append_right _ (List.mem_append_right _ (List.mem_append_left _ (List.mem_of_getElem? (l := tables_1_3) (i := 83) rfl))))
theorem tw_564 : (Jvm.Cond.methodLink "SwingUnitsLaw" (74 : Nat) ({ cls := "SwingUnits", name := "exitIn", desc := "(I)I" } : Jvm.MethodName)) ∈ lw_tbl := List.mem_append_right _ (List.mem_append_right _ (List.mem_append_right _ (List.mem_append_left _ (List.mem_of_getElem? (l := tables_1_3) (i := 84) rfl))))
theorem tw_565 : (Jvm.Cond.instanceMethod ({ cls := "SwingUnits", name := "exitIn", desc := "(I)I" } : Jvm.MethodName)) ∈ lw_tbl := List.mem_append_right _ (List.mem_append_right _ (List.mem_append_right _ (List.mem_append_left _ (List.mem_of_getElem? (l := tables_1_3) (i := 85) rfl))))
theorem tw_566 : (Jvm.Cond.selects "SwingUnits" ({ cls := "SwingUnits", name := "exitIn", desc := "(I)I" } : Jvm.MethodName) ({ cls := "SwingUnits", name := "exitIn", desc := "(I)I" } : Jvm.MethodName)) ∈ lw_tbl := List.mem_append_right _ (List.mem_append_right _ (List.mem_append_right _ (List.mem_append_left _ (List.mem_of_getElem? (l := tables_1_3) (i := 86) rfl))))
theorem tw_567 : (Jvm.Cond.code ({ cls := "SwingUnits", name := "exitIn", desc := "(I)I" } : Jvm.MethodName) prog_1_method_16_code (3 : Nat) (Option.some Jvm.ClassFile.FieldType.int)) ∈ lw_tbl := List.mem_append_right _ (List.mem_append_right _ (List.mem_append_right _ (List.mem_append_left _ (List.mem_of_getElem? (l := tables_1_3) (i := 87) rfl))))
theorem tw_568 : (Jvm.Cond.methodLink "SwingUnits" (228 : Nat) ({ cls := "SwingUnits$Trust", name := "become", desc := "(LSwingUnits$Trust;)V" } : Jvm.MethodName)) ∈ lw_tbl := List.mem_append_right _ (List.mem_append_right _ (List.mem_append_right _ (List.mem_append_left _ (List.mem_of_getElem? (l := tables_1_3) (i := 88) rfl))))
theorem tw_569 : (Jvm.Cond.methodLink "SwingUnitsLaw" (78 : Nat) ({ cls := "SwingUnits", name := "fairSwing", desc := "()I" } : Jvm.MethodName)) ∈ lw_tbl := List.mem_append_right _ (List.mem_append_right _ (List.mem_append_right _ (List.mem_append_left _ (List.mem_of_getElem? (l := tables_1_3) (i := 89) rfl))))
theorem tw_570 : (Jvm.Cond.instanceMethod ({ cls := "SwingUnits", name := "fairSwing", desc := "()I" } : Jvm.MethodName)) ∈ lw_tbl := List.mem_append_right _ (List.mem_append_right _ (List.mem_append_right _ (List.mem_append_left _ (List.mem_of_getElem? (l := tables_1_3) (i := 90) rfl))))
theorem tw_571 : (Jvm.Cond.selects "SwingUnits" ({ cls := "SwingUnits", name := "fairSwing", desc := "()I" } : Jvm.MethodName) ({ cls := "SwingUnits", name := "fairSwing", desc := "()I" } : Jvm.MethodName)) ∈ lw_tbl := List.mem_append_right _ (List.mem_append_right _ (List.mem_append_right _ (List.mem_append_left _ (List.mem_of_getElem? (l := tables_1_3) (i := 91) rfl))))
theorem tw_572 : (Jvm.Cond.code ({ cls := "SwingUnits", name := "fairSwing", desc := "()I" } : Jvm.MethodName) prog_1_method_17_code (4 : Nat) (Option.some Jvm.ClassFile.FieldType.int)) ∈ lw_tbl := List.mem_append_right _ (List.mem_append_right _ (List.mem_append_right _ (List.mem_append_left _ (List.mem_of_getElem? (l := tables_1_3) (i := 92) rfl))))
theorem tw_573 : (Jvm.Cond.methodLink "SwingUnitsLaw" (84 : Nat) ({ cls := "SwingUnits", name := "put", desc := "(J)I" } : Jvm.MethodName)) ∈ lw_tbl := List.mem_append_right _ (List.mem_append_right _ (List.mem_append_right _ (List.mem_append_left _ (List.mem_of_getElem? (l := tables_1_3) (i := 93) rfl))))
theorem tw_574 : (Jvm.Cond.instanceMethod ({ cls := "SwingUnits", name := "put", desc := "(J)I" } : Jvm.MethodName)) ∈ lw_tbl := List.mem_append_right _ (List.mem_append_right _ (List.mem_append_right _ (List.mem_append_left _ (List.mem_of_getElem? (l := tables_1_3) (i := 94) rfl))))
theorem tw_575 : (Jvm.Cond.selects "SwingUnits" ({ cls := "SwingUnits", name := "put", desc := "(J)I" } : Jvm.MethodName) ({ cls := "SwingUnits", name := "put", desc := "(J)I" } : Jvm.MethodName)) ∈ lw_tbl := List.mem_append_right _ (List.mem_append_right _ (List.mem_append_right _ (List.mem_append_left _ (List.mem_of_getElem? (l := tables_1_3) (i := 95) rfl))))
theorem tw_576 : (Jvm.Cond.code ({ cls := "SwingUnits", name := "put", desc := "(J)I" } : Jvm.MethodName) prog_1_method_18_code (4 : Nat) (Option.some Jvm.ClassFile.FieldType.int)) ∈ lw_tbl := List.mem_append_right _ (List.mem_append_right _ (List.mem_append_right _ (List.mem_append_left _ (List.mem_of_getElem? (l := tables_1_3) (i := 96) rfl))))
theorem tw_577 : (Jvm.Cond.methodLink "SwingUnits" (231 : Nat) ({ cls := "SwingUnits$Pad", name := "countCharacters", desc := "(J)I" } : Jvm.MethodName)) ∈ lw_tbl := List.mem_append_right _ (List.mem_append_right _ (List.mem_append_right _ (List.mem_append_left _ (List.mem_of_getElem? (l := tables_1_3) (i := 97) rfl))))
theorem tw_578 : (Jvm.Cond.static ({ cls := "SwingUnits$Pad", name := "countCharacters", desc := "(J)I" } : Jvm.MethodName)) ∈ lw_tbl := List.mem_append_right _ (List.mem_append_right _ (List.mem_append_right _ (List.mem_append_left _ (List.mem_of_getElem? (l := tables_1_3) (i := 98) rfl))))
theorem tw_579 : (Jvm.Cond.code ({ cls := "SwingUnits$Pad", name := "countCharacters", desc := "(J)I" } : Jvm.MethodName) prog_7_method_2_code (7 : Nat) (Option.some Jvm.ClassFile.FieldType.int)) ∈ lw_tbl := List.mem_append_right _ (List.mem_append_right _ (List.mem_append_right _ (List.mem_append_left _ (List.mem_of_getElem? (l := tables_1_3) (i := 99) rfl))))
theorem tw_580 : (Jvm.Cond.constantLong "SwingUnits$Pad" (15 : Nat) (255 : Int64)) ∈ lw_tbl := List.mem_append_right _ (List.mem_append_right _ (List.mem_append_right _ (List.mem_append_left _ (List.mem_of_getElem? (l := tables_1_3) (i := 100) rfl))))
theorem tw_581 : (Jvm.Cond.constantLong "SwingUnits$Pad" (17 : Nat) (33 : Int64)) ∈ lw_tbl := List.mem_append_right _ (List.mem_append_right _ (List.mem_append_right _ (List.mem_append_left _ (List.mem_of_getElem? (l := tables_1_3) (i := 101) rfl))))
theorem tw_582 : (Jvm.Cond.constantLong "SwingUnits$Pad" (19 : Nat) (126 : Int64)) ∈ lw_tbl := List.mem_append_right _ (List.mem_append_right _ (List.mem_append_right _ (List.mem_append_left _ (List.mem_of_getElem? (l := tables_1_3) (i := 102) rfl))))
theorem tw_583 : (Jvm.Cond.methodLink "SwingUnits" (235 : Nat) ({ cls := "SwingUnits$Pad", name := "append", desc := "(JI)V" } : Jvm.MethodName)) ∈ lw_tbl := List.mem_append_right _ (List.mem_append_right _ (List.mem_append_right _ (List.mem_append_left _ (List.mem_of_getElem? (l := tables_1_3) (i := 103) rfl))))
theorem tw_584 : (Jvm.Cond.instanceMethod ({ cls := "SwingUnits$Pad", name := "append", desc := "(JI)V" } : Jvm.MethodName)) ∈ lw_tbl := List.mem_append_right _ (List.mem_append_right _ (List.mem_append_right _ (List.mem_append_left _ (List.mem_of_getElem? (l := tables_1_3) (i := 104) rfl))))
theorem tw_585 : (Jvm.Cond.selects "SwingUnits$Pad" ({ cls := "SwingUnits$Pad", name := "append", desc := "(JI)V" } : Jvm.MethodName) ({ cls := "SwingUnits$Pad", name := "append", desc := "(JI)V" } : Jvm.MethodName)) ∈ lw_tbl := List.mem_append_right _ (List.mem_append_right _ (List.mem_append_right _ (List.mem_append_left _ (List.mem_of_getElem? (l := tables_1_3) (i := 105) rfl))))
theorem tw_586 : (Jvm.Cond.code ({ cls := "SwingUnits$Pad", name := "append", desc := "(JI)V" } : Jvm.MethodName) prog_7_method_3_code (5 : Nat) (Option.none : Option Jvm.ClassFile.FieldType)) ∈ lw_tbl := List.mem_append_right _ (List.mem_append_right _ (List.mem_append_right _ (List.mem_append_left _ (List.mem_of_getElem? (l := tables_1_3) (i := 106) rfl))))
theorem tw_587 : (Jvm.Cond.methodLink "SwingUnitsLaw" (89 : Nat) ({ cls := "SwingUnits", name := "wipe", desc := "()I" } : Jvm.MethodName)) ∈ lw_tbl := List.mem_append_right _ (List.mem_append_right _ (List.mem_append_right _ (List.mem_append_left _ (List.mem_of_getElem? (l := tables_1_3) (i := 107) rfl))))
theorem tw_588 : (Jvm.Cond.instanceMethod ({ cls := "SwingUnits", name := "wipe", desc := "()I" } : Jvm.MethodName)) ∈ lw_tbl := List.mem_append_right _ (List.mem_append_right _ (List.mem_append_right _ (List.mem_append_left _ (List.mem_of_getElem? (l := tables_1_3) (i := 108) rfl))))
theorem tw_589 : (Jvm.Cond.selects "SwingUnits" ({ cls := "SwingUnits", name := "wipe", desc := "()I" } : Jvm.MethodName) ({ cls := "SwingUnits", name := "wipe", desc := "()I" } : Jvm.MethodName)) ∈ lw_tbl := List.mem_append_right _ (List.mem_append_right _ (List.mem_append_right _ (List.mem_append_left _ (List.mem_of_getElem? (l := tables_1_3) (i := 109) rfl))))
theorem tw_590 : (Jvm.Cond.code ({ cls := "SwingUnits", name := "wipe", desc := "()I" } : Jvm.MethodName) prog_1_method_19_code (1 : Nat) (Option.some Jvm.ClassFile.FieldType.int)) ∈ lw_tbl := List.mem_append_right _ (List.mem_append_right _ (List.mem_append_right _ (List.mem_append_left _ (List.mem_of_getElem? (l := tables_1_3) (i := 110) rfl))))
theorem tw_591 : (Jvm.Cond.methodLink "SwingUnits" (239 : Nat) ({ cls := "SwingUnits$Pad", name := "empty", desc := "()I" } : Jvm.MethodName)) ∈ lw_tbl := List.mem_append_right _ (List.mem_append_right _ (List.mem_append_right _ (List.mem_append_left _ (List.mem_of_getElem? (l := tables_1_3) (i := 111) rfl))))
theorem tw_592 : (Jvm.Cond.instanceMethod ({ cls := "SwingUnits$Pad", name := "empty", desc := "()I" } : Jvm.MethodName)) ∈ lw_tbl := List.mem_append_right _ (List.mem_append_right _ (List.mem_append_right _ (List.mem_append_left _ (List.mem_of_getElem? (l := tables_1_3) (i := 112) rfl))))
theorem tw_593 : (Jvm.Cond.selects "SwingUnits$Pad" ({ cls := "SwingUnits$Pad", name := "empty", desc := "()I" } : Jvm.MethodName) ({ cls := "SwingUnits$Pad", name := "empty", desc := "()I" } : Jvm.MethodName)) ∈ lw_tbl := List.mem_append_right _ (List.mem_append_right _ (List.mem_append_right _ (List.mem_append_left _ (List.mem_of_getElem? (l := tables_1_3) (i := 113) rfl))))
theorem tw_594 : (Jvm.Cond.code ({ cls := "SwingUnits$Pad", name := "empty", desc := "()I" } : Jvm.MethodName) prog_7_method_5_code (2 : Nat) (Option.some Jvm.ClassFile.FieldType.int)) ∈ lw_tbl := List.mem_append_right _ (List.mem_append_right _ (List.mem_append_right _ (List.mem_append_left _ (List.mem_of_getElem? (l := tables_1_3) (i := 114) rfl))))
theorem tw_595 : (Jvm.Cond.methodLink "SwingUnitsLaw" (93 : Nat) ({ cls := "SwingUnits", name := "fault", desc := "()I" } : Jvm.MethodName)) ∈ lw_tbl := List.mem_append_right _ (List.mem_append_right _ (List.mem_append_right _ (List.mem_append_left _ (List.mem_of_getElem? (l := tables_1_3) (i := 115) rfl))))
theorem tw_596 : (Jvm.Cond.instanceMethod ({ cls := "SwingUnits", name := "fault", desc := "()I" } : Jvm.MethodName)) ∈ lw_tbl := List.mem_append_right _ (List.mem_append_right _ (List.mem_append_right _ (List.mem_append_left _ (List.mem_of_getElem? (l := tables_1_3) (i := 116) rfl))))
theorem tw_597 : (Jvm.Cond.selects "SwingUnits" ({ cls := "SwingUnits", name := "fault", desc := "()I" } : Jvm.MethodName) ({ cls := "SwingUnits", name := "fault", desc := "()I" } : Jvm.MethodName)) ∈ lw_tbl := List.mem_append_right _ (List.mem_append_right _ (List.mem_append_right _ (List.mem_append_left _ (List.mem_of_getElem? (l := tables_1_3) (i := 117) rfl))))
theorem tw_598 : (Jvm.Cond.code ({ cls := "SwingUnits", name := "fault", desc := "()I" } : Jvm.MethodName) prog_1_method_20_code (1 : Nat) (Option.some Jvm.ClassFile.FieldType.int)) ∈ lw_tbl := List.mem_append_right _ (List.mem_append_right _ (List.mem_append_right _ (List.mem_append_left _ (List.mem_of_getElem? (l := tables_1_3) (i := 118) rfl))))
theorem tw_599 : (Jvm.Cond.methodLink "SwingUnits" (242 : Nat) ({ cls := "SwingUnits$Pad", name := "findFault", desc := "()I" } : Jvm.MethodName)) ∈ lw_tbl := List.mem_append_right _ (List.mem_append_right _ (List.mem_append_right _ (List.mem_append_left _ (List.mem_of_getElem? (l := tables_1_3) (i := 119) rfl))))
theorem tw_600 : (Jvm.Cond.instanceMethod ({ cls := "SwingUnits$Pad", name := "findFault", desc := "()I" } : Jvm.MethodName)) ∈ lw_tbl := List.mem_append_right _ (List.mem_append_right _ (List.mem_append_right _ (List.mem_append_left _ (List.mem_of_getElem? (l := tables_1_3) (i := 120) rfl))))
theorem tw_601 : (Jvm.Cond.selects "SwingUnits$Pad" ({ cls := "SwingUnits$Pad", name := "findFault", desc := "()I" } : Jvm.MethodName) ({ cls := "SwingUnits$Pad", name := "findFault", desc := "()I" } : Jvm.MethodName)) ∈ lw_tbl := List.mem_append_right _ (List.mem_append_right _ (List.mem_append_right _ (List.mem_append_left _ (List.mem_of_getElem? (l := tables_1_3) (i := 121) rfl))))
theorem tw_602 : (Jvm.Cond.code ({ cls := "SwingUnits$Pad", name := "findFault", desc := "()I" } : Jvm.MethodName) prog_7_method_7_code (2 : Nat) (Option.some Jvm.ClassFile.FieldType.int)) ∈ lw_tbl := List.mem_append_right _ (List.mem_append_right _ (List.mem_append_right _ (List.mem_append_left _ (List.mem_of_getElem? (l := tables_1_3) (i := 122) rfl))))
theorem tw_603 : (Jvm.Cond.methodLink "SwingUnits$Pad" (28 : Nat) ({ cls := "SwingUnits$Pad", name := "start", desc := "()V" } : Jvm.MethodName)) ∈ lw_tbl := List.mem_append_right _ (List.mem_append_right _ (List.mem_append_right _ (List.mem_append_left _ (List.mem_of_getElem? (l := tables_1_3) (i := 123) rfl))))
theorem tw_604 : (Jvm.Cond.instanceMethod ({ cls := "SwingUnits$Pad", name := "start", desc := "()V" } : Jvm.MethodName)) ∈ lw_tbl := List.mem_append_right _ (List.mem_append_right _ (List.mem_append_right _ (List.mem_append_left _ (List.mem_of_getElem? (l := tables_1_3) (i := 124) rfl))))
theorem tw_605 : (Jvm.Cond.selects "SwingUnits$Pad" ({ cls := "SwingUnits$Pad", name := "start", desc := "()V" } : Jvm.MethodName) ({ cls := "SwingUnits$Pad", name := "start", desc := "()V" } : Jvm.MethodName)) ∈ lw_tbl := List.mem_append_right _ (List.mem_append_right _ (List.mem_append_right _ (List.mem_append_left _ (List.mem_of_getElem? (l := tables_1_3) (i := 125) rfl))))
theorem tw_606 : (Jvm.Cond.code ({ cls := "SwingUnits$Pad", name := "start", desc := "()V" } : Jvm.MethodName) prog_7_method_6_code (1 : Nat) (Option.none : Option Jvm.ClassFile.FieldType)) ∈ lw_tbl := List.mem_append_right _ (List.mem_append_right _ (List.mem_append_right _ (List.mem_append_left _ (List.mem_of_getElem? (l := tables_1_3) (i := 126) rfl))))
theorem tw_607 : (Jvm.Cond.methodLink "SwingUnits$Pad" (31 : Nat) ({ cls := "SwingUnits$Pad", name := "readOrder", desc := "()Z" } : Jvm.MethodName)) ∈ lw_tbl := List.mem_append_right _ (List.mem_append_right _ (List.mem_append_right _ (List.mem_append_left _ (List.mem_of_getElem? (l := tables_1_3) (i := 127) rfl))))
theorem tw_608 : (Jvm.Cond.instanceMethod ({ cls := "SwingUnits$Pad", name := "readOrder", desc := "()Z" } : Jvm.MethodName)) ∈ lw_tbl := List.mem_append_right _ (List.mem_append_right _ (List.mem_append_right _ (List.mem_append_left _ (List.mem_of_getElem? (l := tables_1_3) (i := 128) rfl))))
theorem tw_609 : (Jvm.Cond.selects "SwingUnits$Pad" ({ cls := "SwingUnits$Pad", name := "readOrder", desc := "()Z" } : Jvm.MethodName) ({ cls := "SwingUnits$Pad", name := "readOrder", desc := "()Z" } : Jvm.MethodName)) ∈ lw_tbl := List.mem_append_right _ (List.mem_append_right _ (List.mem_append_right _ (List.mem_append_left _ (List.mem_of_getElem? (l := tables_1_3) (i := 129) rfl))))
theorem tw_610 : (Jvm.Cond.code ({ cls := "SwingUnits$Pad", name := "readOrder", desc := "()Z" } : Jvm.MethodName) prog_7_method_8_code (1 : Nat) (Option.some Jvm.ClassFile.FieldType.boolean)) ∈ lw_tbl := List.mem_append_right _ (List.mem_append_right _ (List.mem_append_right _ (List.mem_append_left _ (List.mem_of_getElem? (l := tables_1_3) (i := 130) rfl))))
theorem tw_611 : (Jvm.Cond.methodLink "SwingUnits$Pad" (39 : Nat) ({ cls := "SwingUnits$Pad", name := "signAt", desc := "(I)C" } : Jvm.MethodName)) ∈ lw_tbl := List.mem_append_right _ (List.mem_append_right _ (List.mem_append_right _ (List.mem_append_left _ (List.mem_of_getElem? (l := tables_1_3) (i := 131) rfl))))
theorem tw_612 : (Jvm.Cond.instanceMethod ({ cls := "SwingUnits$Pad", name := "signAt", desc := "(I)C" } : Jvm.MethodName)) ∈ lw_tbl := List.mem_append_right _ (List.mem_append_right _ (List.mem_append_right _ (List.mem_append_left _ (List.mem_of_getElem? (l := tables_1_3) (i := 132) rfl))))
theorem tw_613 : (Jvm.Cond.selects "SwingUnits$Pad" ({ cls := "SwingUnits$Pad", name := "signAt", desc := "(I)C" } : Jvm.MethodName) ({ cls := "SwingUnits$Pad", name := "signAt", desc := "(I)C" } : Jvm.MethodName)) ∈ lw_tbl := List.mem_append_right _ (List.mem_append_right _ (List.mem_append_right _ (List.mem_append_left _ (List.mem_of_getElem? (l := tables_1_3) (i := 133) rfl))))
theorem tw_614 : (Jvm.Cond.code ({ cls := "SwingUnits$Pad", name := "signAt", desc := "(I)C" } : Jvm.MethodName) prog_7_method_4_code (2 : Nat) (Option.some Jvm.ClassFile.FieldType.char)) ∈ lw_tbl := List.mem_append_right _ (List.mem_append_right _ (List.mem_append_right _ (List.mem_append_left _ (List.mem_of_getElem? (l := tables_1_3) (i := 134) rfl))))
theorem tw_615 : (Jvm.Cond.methodLink "SwingUnits$Pad" (47 : Nat) ({ cls := "SwingUnits$Pad", name := "readDeal", desc := "()Z" } : Jvm.MethodName)) ∈ lw_tbl := List.mem_append_right _ (List.mem_append_right _ (List.mem_append_right _ (List.mem_append_left _ (List.mem_of_getElem? (l := tables_1_3) (i := 135) rfl))))
theorem tw_616 : (Jvm.Cond.privateMethod ({ cls := "SwingUnits$Pad", name := "readDeal", desc := "()Z" } : Jvm.MethodName)) ∈ lw_tbl := List.mem_append_right _ (List.mem_append_right _ (List.mem_append_right _ (List.mem_append_left _ (List.mem_of_getElem? (l := tables_1_3) (i := 136) rfl))))
theorem tw_617 : (Jvm.Cond.instanceMethod ({ cls := "SwingUnits$Pad", name := "readDeal", desc := "()Z" } : Jvm.MethodName)) ∈ lw_tbl := List.mem_append_right _ (List.mem_append_right _ (List.mem_append_right _ (List.mem_append_left _ (List.mem_of_getElem? (l := tables_1_3) (i := 137) rfl))))
theorem tw_618 : (Jvm.Cond.code ({ cls := "SwingUnits$Pad", name := "readDeal", desc := "()Z" } : Jvm.MethodName) prog_7_method_10_code (1 : Nat) (Option.some Jvm.ClassFile.FieldType.boolean)) ∈ lw_tbl := List.mem_append_right _ (List.mem_append_right _ (List.mem_append_right _ (List.mem_append_left _ (List.mem_of_getElem? (l := tables_1_3) (i := 138) rfl))))
theorem tw_619 : (Jvm.Cond.methodLink "SwingUnits$Pad" (58 : Nat) ({ cls := "SwingUnits$Pad", name := "digitAt", desc := "()I" } : Jvm.MethodName)) ∈ lw_tbl := List.mem_append_right _ (List.mem_append_right _ (List.mem_append_right _ (List.mem_append_left _ (List.mem_of_getElem? (l := tables_1_3) (i := 139) rfl))))
theorem tw_620 : (Jvm.Cond.privateMethod ({ cls := "SwingUnits$Pad", name := "digitAt", desc := "()I" } : Jvm.MethodName)) ∈ lw_tbl := List.mem_append_right _ (List.mem_append_right _ (List.mem_append_right _ (List.mem_append_left _ (List.mem_of_getElem? (l := tables_1_3) (i := 140) rfl))))
theorem tw_621 : (Jvm.Cond.instanceMethod ({ cls := "SwingUnits$Pad", name := "digitAt", desc := "()I" } : Jvm.MethodName)) ∈ lw_tbl := List.mem_append_right _ (List.mem_append_right _ (List.mem_append_right _ (List.mem_append_left _ (List.mem_of_getElem? (l := tables_1_3) (i := 141) rfl))))
theorem tw_622 : (Jvm.Cond.code ({ cls := "SwingUnits$Pad", name := "digitAt", desc := "()I" } : Jvm.MethodName) prog_7_method_12_code (2 : Nat) (Option.some Jvm.ClassFile.FieldType.int)) ∈ lw_tbl := List.mem_append_right _ (List.mem_append_right _ (List.mem_append_right _ (List.mem_append_left _ (List.mem_of_getElem? (l := tables_1_3) (i := 142) rfl))))
theorem tw_623 : (Jvm.Cond.methodLinkNest "SwingUnits$Pad" (65 : Nat) ({ cls := "SwingUnits", name := "isHolder", desc := "(I)Z" } : Jvm.MethodName) "SwingUnits") ∈ lw_tbl := List.mem_append_right _ (List.mem_append_right _ (List.mem_append_right _ (List.mem_append_left _ (List.mem_of_getElem? (l := tables_1_3) (i := 143) rfl))))
theorem tw_624 : (Jvm.Cond.methodLink "SwingUnits$Pad" (35 : Nat) ({ cls := "SwingUnits$Pad", name := "skip", desc := "(C)Z" } : Jvm.MethodName)) ∈ lw_tbl := List.mem_append_right _ (List.mem_append_right _ (List.mem_append_right _ (List.mem_append_left _ (List.mem_of_getElem? (l := tables_1_3) (i := 144) rfl))))
theorem tw_625 : (Jvm.Cond.instanceMethod ({ cls := "SwingUnits$Pad", name := "skip", desc := "(C)Z" } : Jvm.MethodName)) ∈ lw_tbl := List.mem_append_right _ (List.mem_append_right _ (List.mem_append_right _ (List.mem_append_left _ (List.mem_of_getElem? (l := tables_1_3) (i := 145) rfl))))
theorem tw_626 : (Jvm.Cond.selects "SwingUnits$Pad" ({ cls := "SwingUnits$Pad", name := "skip", desc := "(C)Z" } : Jvm.MethodName) ({ cls := "SwingUnits$Pad", name := "skip", desc := "(C)Z" } : Jvm.MethodName)) ∈ lw_tbl := List.mem_append_right _ (List.mem_append_right _ (List.mem_append_right _ (List.mem_append_left _ (List.mem_of_getElem? (l := tables_1_3) (i := 146) rfl))))
theorem tw_627 : (Jvm.Cond.code ({ cls := "SwingUnits$Pad", name := "skip", desc := "(C)Z" } : Jvm.MethodName) prog_7_method_9_code (2 : Nat) (Option.some Jvm.ClassFile.FieldType.boolean)) ∈ lw_tbl := List.mem_append_right _ (List.mem_append_right _ (List.mem_append_right _ (List.mem_append_left _ (List.mem_of_getElem? (l := tables_1_3) (i := 147) rfl))))
theorem tw_628 : (Jvm.Cond.constant "SwingUnits$Pad" (50 : Nat) (1000000 : Int32)) ∈ lw_tbl := List.mem_append_right _ (List.mem_append_right _ (List.mem_append_right _ (List.mem_append_left _ (List.mem_of_getElem? (l := tables_1_3) (i := 148) rfl))))
theorem tw_629 : (Jvm.Cond.methodLink "SwingUnits$Pad" (51 : Nat) ({ cls := "SwingUnits$Pad", name := "readNumber", desc := "(I)I" } : Jvm.MethodName)) ∈ lw_tbl := List.mem_append_right _ (List.mem_append_right _ (List.mem_append_right _ (List.mem_append_left _ (List.mem_of_getElem? (l := tables_1_3) (i := 149) rfl))))
theorem tw_630 : (Jvm.Cond.privateMethod ({ cls := "SwingUnits$Pad", name := "readNumber", desc := "(I)I" } : Jvm.MethodName)) ∈ lw_tbl := List.mem_append_right _ (List.mem_append_right _ (List.mem_append_right _ (List.mem_append_left _ (List.mem_of_getElem? (l := tables_1_3) (i := 150) rfl))))
theorem tw_631 : (Jvm.Cond.instanceMethod ({ cls := "SwingUnits$Pad", name := "readNumber", desc := "(I)I" } : Jvm.MethodName)) ∈ lw_tbl := List.mem_append_right _ (List.mem_append_right _ (List.mem_append_right _ (List.mem_append_left _ (List.mem_of_getElem? (l := tables_1_3) (i := 151) rfl))))
theorem tw_632 : (Jvm.Cond.code ({ cls := "SwingUnits$Pad", name := "readNumber", desc := "(I)I" } : Jvm.MethodName) prog_7_method_11_code (4 : Nat) (Option.some Jvm.ClassFile.FieldType.int)) ∈ lw_tbl := List.mem_append_right _ (List.mem_append_right _ (List.mem_append_right _ (List.mem_append_left _ (List.mem_of_getElem? (l := tables_1_3) (i := 152) rfl))))
theorem tw_633 : (Jvm.Cond.methodLink "SwingUnitsLaw" (97 : Nat) ({ cls := "SwingUnits", name := "carryOut", desc := "()I" } : Jvm.MethodName)) ∈ lw_tbl := List.mem_append_right _ (List.mem_append_right _ (List.mem_append_right _ (List.mem_append_left _ (List.mem_of_getElem? (l := tables_1_3) (i := 153) rfl))))
theorem tw_634 : (Jvm.Cond.instanceMethod ({ cls := "SwingUnits", name := "carryOut", desc := "()I" } : Jvm.MethodName)) ∈ lw_tbl := List.mem_append_right _ (List.mem_append_right _ (List.mem_append_right _ (List.mem_append_left _ (List.mem_of_getElem? (l := tables_1_3) (i := 154) rfl))))
theorem tw_635 : (Jvm.Cond.selects "SwingUnits" ({ cls := "SwingUnits", name := "carryOut", desc := "()I" } : Jvm.MethodName) ({ cls := "SwingUnits", name := "carryOut", desc := "()I" } : Jvm.MethodName)) ∈ lw_tbl := List.mem_append_right _ (List.mem_append_right _ (List.mem_append_right _ (List.mem_append_left _ (List.mem_of_getElem? (l := tables_1_3) (i := 155) rfl))))
theorem tw_636 : (Jvm.Cond.code ({ cls := "SwingUnits", name := "carryOut", desc := "()I" } : Jvm.MethodName) prog_1_method_21_code (2 : Nat) (Option.some Jvm.ClassFile.FieldType.int)) ∈ lw_tbl := List.mem_append_right _ (List.mem_append_right _ (List.mem_append_right _ (List.mem_append_left _ (List.mem_of_getElem? (l := tables_1_3) (i := 156) rfl))))
theorem tw_637 : (Jvm.Cond.methodLink "SwingUnits" (245 : Nat) ({ cls := "SwingUnits", name := "carryOutOrders", desc := "()I" } : Jvm.MethodName)) ∈ lw_tbl := List.mem_append_right _ (List.mem_append_right _ (List.mem_append_right _ (List.mem_append_left _ (List.mem_of_getElem? (l := tables_1_3) (i := 157) rfl))))
theorem tw_638 : (Jvm.Cond.privateMethod ({ cls := "SwingUnits", name := "carryOutOrders", desc := "()I" } : Jvm.MethodName)) ∈ lw_tbl := List.mem_append_right _ (List.mem_append_right _ (List.mem_append_right _ (List.mem_append_left _ (List.mem_of_getElem? (l := tables_1_3) (i := 158) rfl))))
theorem tw_639 : (Jvm.Cond.instanceMethod ({ cls := "SwingUnits", name := "carryOutOrders", desc := "()I" } : Jvm.MethodName)) ∈ lw_tbl := List.mem_append_right _ (List.mem_append_right _ (List.mem_append_right _ (List.mem_append_left _ (List.mem_of_getElem? (l := tables_1_3) (i := 159) rfl))))
theorem tw_640 : (Jvm.Cond.code ({ cls := "SwingUnits", name := "carryOutOrders", desc := "()I" } : Jvm.MethodName) prog_1_method_25_code (2 : Nat) (Option.some Jvm.ClassFile.FieldType.int)) ∈ lw_tbl := List.mem_append_right _ (List.mem_append_right _ (List.mem_append_right _ (List.mem_append_left _ (List.mem_of_getElem? (l := tables_1_3) (i := 160) rfl))))
theorem tw_641 : (Jvm.Cond.methodLink "SwingUnits" (251 : Nat) ({ cls := "SwingUnits$Pad", name := "start", desc := "()V" } : Jvm.MethodName)) ∈ lw_tbl := List.mem_append_right _ (List.mem_append_right _ (List.mem_append_right _ (List.mem_append_left _ (List.mem_of_getElem? (l := tables_1_3) (i := 161) rfl))))
theorem tw_642 : (Jvm.Cond.methodLink "SwingUnits" (254 : Nat) ({ cls := "SwingUnits$Pad", name := "readOrder", desc := "()Z" } : Jvm.MethodName)) ∈ lw_tbl := List.mem_append_right _ (List.mem_append_right _ (List.mem_append_right _ (List.mem_append_left _ (List.mem_of_getElem? (l := tables_1_3) (i := 162) rfl))))
theorem tw_643 : (Jvm.Cond.methodLink "SwingUnits" (258 : Nat) ({ cls := "SwingUnits", name := "carryOutOrder", desc := "()I" } : Jvm.MethodName)) ∈ lw_tbl := List.mem_append_right _ (List.mem_append_right _ (List.mem_append_right _ (List.mem_append_left _ (List.mem_of_getElem? (l := tables_1_3) (i := 163) rfl))))
theorem tw_644 : (Jvm.Cond.privateMethod ({ cls := "SwingUnits", name := "carryOutOrder", desc := "()I" } : Jvm.MethodName)) ∈ lw_tbl := List.mem_append_right _ (List.mem_append_right _ (List.mem_append_right _ (List.mem_append_left _ (List.mem_of_getElem? (l := tables_1_3) (i := 164) rfl))))
theorem tw_645 : (Jvm.Cond.instanceMethod ({ cls := "SwingUnits", name := "carryOutOrder", desc := "()I" } : Jvm.MethodName)) ∈ lw_tbl := List.mem_append_right _ (List.mem_append_right _ (List.mem_append_right _ (List.mem_append_left _ (List.mem_of_getElem? (l := tables_1_3) (i := 165) rfl))))
theorem tw_646 : (Jvm.Cond.code ({ cls := "SwingUnits", name := "carryOutOrder", desc := "()I" } : Jvm.MethodName) prog_1_method_26_code (1 : Nat) (Option.some Jvm.ClassFile.FieldType.int)) ∈ lw_tbl := List.mem_append_right _ (List.mem_append_right _ (List.mem_append_right _ (List.mem_append_left _ (List.mem_of_getElem? (l := tables_1_3) (i := 166) rfl))))
theorem tw_647 : (Jvm.Cond.methodLink "SwingUnits" (261 : Nat) ({ cls := "SwingUnits$Pad", name := "skip", desc := "(C)Z" } : Jvm.MethodName)) ∈ lw_tbl := List.mem_append_right _ (List.mem_append_right _ (List.mem_append_right _ (List.mem_append_left _ (List.mem_of_getElem? (l := tables_1_3) (i := 167) rfl))))
theorem tw_648 : (Jvm.Cond.methodLink "SwingUnitsLaw" (101 : Nat) ({ cls := "SwingUnits", name := "undo", desc := "()I" } : Jvm.MethodName)) ∈ lw_tbl := List.mem_append_right _ (List.mem_append_right _ (List.mem_append_right _ (List.mem_append_left _ (List.mem_of_getElem? (l := tables_1_3) (i := 168) rfl))))
theorem tw_649 : (Jvm.Cond.instanceMethod ({ cls := "SwingUnits", name := "undo", desc := "()I" } : Jvm.MethodName)) ∈ lw_tbl := List.mem_append_right _ (List.mem_append_right _ (List.mem_append_right _ (List.mem_append_left _ (List.mem_of_getElem? (l := tables_1_3) (i := 169) rfl))))
theorem tw_650 : (Jvm.Cond.selects "SwingUnits" ({ cls := "SwingUnits", name := "undo", desc := "()I" } : Jvm.MethodName) ({ cls := "SwingUnits", name := "undo", desc := "()I" } : Jvm.MethodName)) ∈ lw_tbl := List.mem_append_right _ (List.mem_append_right _ (List.mem_append_right _ (List.mem_append_left _ (List.mem_of_getElem? (l := tables_1_3) (i := 170) rfl))))
theorem tw_651 : (Jvm.Cond.code ({ cls := "SwingUnits", name := "undo", desc := "()I" } : Jvm.MethodName) prog_1_method_22_code (1 : Nat) (Option.some Jvm.ClassFile.FieldType.int)) ∈ lw_tbl := List.mem_append_right _ (List.mem_append_right _ (List.mem_append_right _ (List.mem_append_left _ (List.mem_of_getElem? (l := tables_1_3) (i := 171) rfl))))
theorem tw_652 : (Jvm.Cond.methodLink "SwingUnits" (248 : Nat) ({ cls := "SwingUnits$History", name := "takeBack", desc := "(LSwingUnits$Trust;)V" } : Jvm.MethodName)) ∈ lw_tbl := List.mem_append_right _ (List.mem_append_right _ (List.mem_append_right _ (List.mem_append_left _ (List.mem_of_getElem? (l := tables_1_3) (i := 172) rfl))))
theorem tw_653 : (Jvm.Cond.instanceMethod ({ cls := "SwingUnits$History", name := "takeBack", desc := "(LSwingUnits$Trust;)V" } : Jvm.MethodName)) ∈ lw_tbl := List.mem_append_right _ (List.mem_append_right _ (List.mem_append_right _ (List.mem_append_left _ (List.mem_of_getElem? (l := tables_1_3) (i := 173) rfl))))
theorem tw_654 : (Jvm.Cond.selects "SwingUnits$History" ({ cls := "SwingUnits$History", name := "takeBack", desc := "(LSwingUnits$Trust;)V" } : Jvm.MethodName) ({ cls := "SwingUnits$History", name := "takeBack", desc := "(LSwingUnits$Trust;)V" } : Jvm.MethodName)) ∈ lw_tbl := List.mem_append_right _ (List.mem_append_right _ (List.mem_append_right _ (List.mem_append_left _ (List.mem_of_getElem? (l := tables_1_3) (i := 174) rfl))))
theorem tw_655 : (Jvm.Cond.code ({ cls := "SwingUnits$History", name := "takeBack", desc := "(LSwingUnits$Trust;)V" } : Jvm.MethodName) prog_3_method_4_code (2 : Nat) (Option.none : Option Jvm.ClassFile.FieldType)) ∈ lw_tbl := List.mem_append_right _ (List.mem_append_right _ (List.mem_append_right _ (List.mem_append_left _ (List.mem_of_getElem? (l := tables_1_3) (i := 175) rfl))))
theorem tw_656 : (Jvm.Cond.methodLink "SwingUnitsLaw" (105 : Nat) ({ cls := "SwingUnits", name := "save", desc := "(I)I" } : Jvm.MethodName)) ∈ lw_tbl := List.mem_append_right _ (List.mem_append_right _ (List.mem_append_right _ (List.mem_append_left _ (List.mem_of_getElem? (l := tables_1_3) (i := 176) rfl))))
theorem tw_657 : (Jvm.Cond.instanceMethod ({ cls := "SwingUnits", name := "save", desc := "(I)I" } : Jvm.MethodName)) ∈ lw_tbl := List.mem_append_right _ (List.mem_append_right _ (List.mem_append_right _ (List.mem_append_left _ (List.mem_of_getElem? (l := tables_1_3) (i := 177) rfl))))
theorem tw_658 : (Jvm.Cond.selects "SwingUnits" ({ cls := "SwingUnits", name := "save", desc := "(I)I" } : Jvm.MethodName) ({ cls := "SwingUnits", name := "save", desc := "(I)I" } : Jvm.MethodName)) ∈ lw_tbl := List.mem_append_right _ (List.mem_append_right _ (List.mem_append_right _ (List.mem_append_left _ (List.mem_of_getElem? (l := tables_1_3) (i := 178) rfl))))
theorem tw_659 : (Jvm.Cond.code ({ cls := "SwingUnits", name := "save", desc := "(I)I" } : Jvm.MethodName) prog_1_method_23_code (2 : Nat) (Option.some Jvm.ClassFile.FieldType.int)) ∈ lw_tbl := List.mem_append_right _ (List.mem_append_right _ (List.mem_append_right _ (List.mem_append_left _ (List.mem_of_getElem? (l := tables_1_3) (i := 179) rfl))))
theorem tw_660 : (Jvm.Cond.methodLink "SwingUnitsLaw" (109 : Nat) ({ cls := "SwingUnits", name := "restore", desc := "(I)I" } : Jvm.MethodName)) ∈ lw_tbl := List.mem_append_right _ (List.mem_append_right _ (List.mem_append_right _ (List.mem_append_left _ (List.mem_of_getElem? (l := tables_1_3) (i := 180) rfl))))
theorem tw_661 : (Jvm.Cond.instanceMethod ({ cls := "SwingUnits", name := "restore", desc := "(I)I" } : Jvm.MethodName)) ∈ lw_tbl := List.mem_append_right _ (List.mem_append_right _ (List.mem_append_right _ (List.mem_append_left _ (List.mem_of_getElem? (l := tables_1_3) (i := 181) rfl))))
theorem tw_662 : (Jvm.Cond.selects "SwingUnits" ({ cls := "SwingUnits", name := "restore", desc := "(I)I" } : Jvm.MethodName) ({ cls := "SwingUnits", name := "restore", desc := "(I)I" } : Jvm.MethodName)) ∈ lw_tbl := List.mem_append_right _ (List.mem_append_right _ (List.mem_append_right _ (List.mem_append_left _ (List.mem_of_getElem? (l := tables_1_3) (i := 182) rfl))))
theorem tw_663 : (Jvm.Cond.code ({ cls := "SwingUnits", name := "restore", desc := "(I)I" } : Jvm.MethodName) prog_1_method_24_code (2 : Nat) (Option.some Jvm.ClassFile.FieldType.int)) ∈ lw_tbl := List.mem_append_right _ (List.mem_append_right _ (List.mem_append_right _ (List.mem_append_left _ (List.mem_of_getElem? (l := tables_1_3) (i := 183) rfl))))
theorem tw_664 : (Jvm.Cond.classLink "SwingUnitsLaw" (10 : Nat) "SwingUnitsModel") ∈ lw_tbl := List.mem_append_right _ (List.mem_append_right _ (List.mem_append_right _ (List.mem_append_left _ (List.mem_of_getElem? (l := tables_1_3) (i := 184) rfl))))
theorem tw_665 : (Jvm.Cond.instantiable "SwingUnitsModel" (15 : Nat)) ∈ lw_tbl := List.mem_append_right _ (List.mem_append_right _ (List.mem_append_right _ (List.mem_append_left _ (List.mem_of_getElem? (l := tables_1_3) (i := 185) rfl))))
theorem tw_666 : (Jvm.Cond.methodLink "SwingUnitsLaw" (12 : Nat) ({ cls := "SwingUnitsModel", name := "<init>", desc := "()V" } : Jvm.MethodName)) ∈ lw_tbl := List.mem_append_right _ (List.mem_append_right _ (List.mem_append_right _ (List.mem_append_left _ (List.mem_of_getElem? (l := tables_1_3) (i := 186) rfl))))
theorem tw_667 : (Jvm.Cond.instanceMethod ({ cls := "SwingUnitsModel", name := "<init>", desc := "()V" } : Jvm.MethodName)) ∈ lw_tbl := List.mem_append_right _ (List.mem_append_right _ (List.mem_append_right _ (List.mem_append_left _ (List.mem_of_getElem? (l := tables_1_3) (i := 187) rfl))))
theorem tw_668 : (Jvm.Cond.code ({ cls := "SwingUnitsModel", name := "<init>", desc := "()V" } : Jvm.MethodName) prog_10_method_1_code (1 : Nat) (Option.none : Option Jvm.ClassFile.FieldType)) ∈ lw_tbl := List.mem_append_right _ (List.mem_append_right _ (List.mem_append_right _ (List.mem_append_left _ (List.mem_of_getElem? (l := tables_1_3) (i := 188) rfl))))
theorem tw_669 : (Jvm.Cond.methodLink "SwingUnitsModel" (1 : Nat) ({ cls := "java/lang/Object", name := "<init>", desc := "()V" } : Jvm.MethodName)) ∈ lw_tbl := List.mem_append_right _ (List.mem_append_right _ (List.mem_append_right _ (List.mem_append_left _ (List.mem_of_getElem? (l := tables_1_3) (i := 189) rfl))))
theorem tw_670 : (Jvm.Cond.constantLong "SwingUnitsModel" (39 : Nat) (12 : Int64)) ∈ lw_tbl := List.mem_append_right _ (List.mem_append_right _ (List.mem_append_right _ (List.mem_append_left _ (List.mem_of_getElem? (l := tables_1_3) (i := 190) rfl))))
theorem tw_671 : (Jvm.Cond.constantLong "SwingUnitsModel" (41 : Nat) (50 : Int64)) ∈ lw_tbl := List.mem_append_right _ (List.mem_append_right _ (List.mem_append_right _ (List.mem_append_left _ (List.mem_of_getElem? (l := tables_1_3) (i := 191) rfl))))
theorem tw_672 : (Jvm.Cond.constantLong "SwingUnitsModel" (43 : Nat) (10 : Int64)) ∈ lw_tbl := List.mem_append_right _ (List.mem_append_right _ (List.mem_append_right _ (List.mem_append_left _ (List.mem_of_getElem? (l := tables_1_3) (i := 192) rfl))))
theorem tw_673 : (Jvm.Cond.constantLong "SwingUnitsModel" (45 : Nat) (100 : Int64)) ∈ lw_tbl := List.mem_append_right _ (List.mem_append_right _ (List.mem_append_right _ (List.mem_append_left _ (List.mem_of_getElem? (l := tables_1_3) (i := 193) rfl))))
theorem tw_674 : (Jvm.Cond.constantLong "SwingUnitsModel" (47 : Nat) (5 : Int64)) ∈ lw_tbl := List.mem_append_right _ (List.mem_append_right _ (List.mem_append_right _ (List.mem_append_left _ (List.mem_of_getElem? (l := tables_1_3) (i := 194) rfl))))
theorem tw_675 : (Jvm.Cond.constantLong "SwingUnitsModel" (49 : Nat) (1000 : Int64)) ∈ lw_tbl := List.mem_append_right _ (List.mem_append_right _ (List.mem_append_right _ (List.mem_append_left _ (List.mem_of_getElem? (l := tables_1_3) (i := 195) rfl))))
theorem tw_676 : (Jvm.Cond.constantLong "SwingUnitsModel" (51 : Nat) (-6 : Int64)) ∈ lw_tbl := List.mem_append_right _ (List.mem_append_right _ (List.mem_append_right _ (List.mem_append_left _ (List.mem_of_getElem? (l := tables_1_3) (i := 196) rfl))))
theorem tw_677 : (Jvm.Cond.fieldLink "SwingUnitsModel" (7 : Nat) "SwingUnitsModel" "at" "[J") ∈ lw_tbl := List.mem_append_right _ (List.mem_append_right _ (List.mem_append_right _ (List.mem_append_left _ (List.mem_of_getElem? (l := tables_1_3) (i := 197) rfl))))
theorem tw_678 : (Jvm.Cond.fieldLink "SwingUnitsModel" (13 : Nat) "SwingUnitsModel" "past" "[J") ∈ lw_tbl := List.mem_append_right _ (List.mem_append_right _ (List.mem_append_right _ (List.mem_append_left _ (List.mem_of_getElem? (l := tables_1_3) (i := 198) rfl))))
theorem tw_679 : (Jvm.Cond.fieldLink "SwingUnitsModel" (65 : Nat) "SwingUnitsModel" "pastFirst" "I") ∈ lw_tbl := List.mem_append_right _ (List.mem_append_right _ (List.mem_append_right _ (List.mem_append_left _ (List.mem_of_getElem? (l := tables_1_3) (i := 199) rfl))))
theorem tw_680 : (Jvm.Cond.fieldLink "SwingUnitsModel" (61 : Nat) "SwingUnitsModel" "pastMany" "I") ∈ lw_tbl := List.mem_append_right _ (List.mem_append_right _ (List.mem_append_right _ (List.mem_append_left _ (List.mem_of_getElem? (l := tables_1_3) (i := 200) rfl))))
theorem tw_681 : (Jvm.Cond.fieldLink "SwingUnitsModel" (16 : Nat) "SwingUnitsModel" "slots" "[J") ∈ lw_tbl := List.mem_append_right _ (List.mem_append_right _ (List.mem_append_right _ (List.mem_append_left _ (List.mem_of_getElem? (l := tables_1_3) (i := 201) rfl))))
theorem tw_682 : (Jvm.Cond.fieldLink "SwingUnitsModel" (19 : Nat) "SwingUnitsModel" "isSaved" "[Z") ∈ lw_tbl := List.mem_append_right _ (List.mem_append_right _ (List.mem_append_right _ (List.mem_append_left _ (List.mem_of_getElem? (l := tables_1_3) (i := 202) rfl))))
theorem tw_683 : (Jvm.Cond.fieldLink "SwingUnitsModel" (23 : Nat) "SwingUnitsModel" "aside" "[J") ∈ lw_tbl := List.mem_append_right _ (List.mem_append_right _ (List.mem_append_right _ (List.mem_append_left _ (List.mem_of_getElem? (l := tables_1_3) (i := 203) rfl))))
theorem tw_684 : (Jvm.Cond.fieldLink "SwingUnitsModel" (26 : Nat) "SwingUnitsModel" "share" "[J") ∈ lw_tbl := List.mem_append_right _ (List.mem_append_right _ (List.mem_append_right _ (List.mem_append_left _ (List.mem_of_getElem? (l := tables_1_3) (i := 204) rfl))))
theorem tw_685 : (Jvm.Cond.fieldLink "SwingUnitsModel" (29 : Nat) "SwingUnitsModel" "pad" "[I") ∈ lw_tbl := List.mem_append_right _ (List.mem_append_right _ (List.mem_append_right _ (List.mem_append_left _ (List.mem_of_getElem? (l := tables_1_3) (i := 205) rfl))))
theorem tw_686 : (Jvm.Cond.fieldLink "SwingUnitsModel" (208 : Nat) "SwingUnitsModel" "padMany" "I") ∈ lw_tbl := List.mem_append_right _ (List.mem_append_right _ (List.mem_append_right _ (List.mem_append_left _ (List.mem_of_getElem? (l := tables_1_3) (i := 206) rfl))))
theorem tw_687 : (Jvm.Cond.fieldLink "SwingUnitsModel" (227 : Nat) "SwingUnitsModel" "spot" "I") ∈ lw_tbl := List.mem_append_right _ (List.mem_append_right _ (List.mem_append_right _ (List.mem_append_left _ (List.mem_of_getElem? (l := tables_1_3) (i := 207) rfl))))
theorem tw_688 : (Jvm.Cond.fieldLink "SwingUnitsModel" (230 : Nat) "SwingUnitsModel" "isWrong" "Z") ∈ lw_tbl := List.mem_append_right _ (List.mem_append_right _ (List.mem_append_right _ (List.mem_append_left _ (List.mem_of_getElem? (l := tables_1_3) (i := 208) rfl))))
theorem tw_689 : (Jvm.Cond.fieldLink "SwingUnitsModel" (241 : Nat) "SwingUnitsModel" "orders" "I") ∈ lw_tbl := List.mem_append_right _ (List.mem_append_right _ (List.mem_append_right _ (List.mem_append_left _ (List.mem_of_getElem? (l := tables_1_3) (i := 209) rfl))))
theorem tw_690 : (Jvm.Cond.fieldLink "SwingUnitsModel" (33 : Nat) "SwingUnitsModel" "sort" "[I") ∈ lw_tbl := List.mem_append_right _ (List.mem_append_right _ (List.mem_append_right _ (List.mem_append_left _ (List.mem_of_getElem? (l := tables_1_3) (i := 210) rfl))))
theorem tw_691 : (Jvm.Cond.fieldLink "SwingUnitsModel" (36 : Nat) "SwingUnitsModel" "numbers" "[I") ∈ lw_tbl := List.mem_append_right _ (List.mem_append_right _ (List.mem_append_right _ (List.mem_append_left _ (List.mem_of_getElem? (l := tables_1_3) (i := 211) rfl))))
theorem tw_692 : (Jvm.Cond.laysFinal "SwingUnitsModel" "SwingUnitsModel" "at" "[J") ∈ lw_tbl := List.mem_append_right _ (List.mem_append_right _ (List.mem_append_right _ (List.mem_append_left _ (List.mem_of_getElem? (l := tables_1_3) (i := 212) rfl))))
theorem tw_693 : (Jvm.Cond.soleField "SwingUnitsModel" "at") ∈ lw_tbl := List.mem_append_right _ (List.mem_append_right _ (List.mem_append_right _ (List.mem_append_left _ (List.mem_of_getElem? (l := tables_1_3) (i := 213) rfl))))
theorem tw_694 : (Jvm.Cond.laysFinal "SwingUnitsModel" "SwingUnitsModel" "past" "[J") ∈ lw_tbl := List.mem_append_right _ (List.mem_append_right _ (List.mem_append_right _ (List.mem_append_left _ (List.mem_of_getElem? (l := tables_1_3) (i := 214) rfl))))
theorem tw_695 : (Jvm.Cond.soleField "SwingUnitsModel" "past") ∈ lw_tbl := List.mem_append_right _ (List.mem_append_right _ (List.mem_append_right _ (List.mem_append_left _ (List.mem_of_getElem? (l := tables_1_3) (i := 215) rfl))))
theorem tw_696 : (Jvm.Cond.lays "SwingUnitsModel" "SwingUnitsModel" "pastFirst" "I") ∈ lw_tbl := List.mem_append_right _ (List.mem_append_right _ (List.mem_append_right _ (List.mem_append_left _ (List.mem_of_getElem? (l := tables_1_3) (i := 216) rfl))))
theorem tw_697 : (Jvm.Cond.soleField "SwingUnitsModel" "pastFirst") ∈ lw_tbl := List.mem_append_right _ (List.mem_append_right _ (List.mem_append_right _ (List.mem_append_left _ (List.mem_of_getElem? (l := tables_1_3) (i := 217) rfl))))
theorem tw_698 : (Jvm.Cond.lays "SwingUnitsModel" "SwingUnitsModel" "pastMany" "I") ∈ lw_tbl := List.mem_append_right _ (List.mem_append_right _ (List.mem_append_right _ (List.mem_append_left _ (List.mem_of_getElem? (l := tables_1_3) (i := 218) rfl))))
theorem tw_699 : (Jvm.Cond.soleField "SwingUnitsModel" "pastMany") ∈ lw_tbl := List.mem_append_right _ (List.mem_append_right _ (List.mem_append_right _ (List.mem_append_left _ (List.mem_of_getElem? (l := tables_1_3) (i := 219) rfl))))
theorem tw_700 : (Jvm.Cond.laysFinal "SwingUnitsModel" "SwingUnitsModel" "slots" "[J") ∈ lw_tbl := List.mem_append_right _ (List.mem_append_right _ (List.mem_append_right _ (List.mem_append_left _ (List.mem_of_getElem? (l := tables_1_3) (i := 220) rfl))))
theorem tw_701 : (Jvm.Cond.soleField "SwingUnitsModel" "slots") ∈ lw_tbl := List.mem_append_right _ (List.mem_append_right _ (List.mem_append_right _ (List.mem_append_left _ (List.mem_of_getElem? (l := tables_1_3) (i := 221) rfl))))
theorem tw_702 : (Jvm.Cond.laysFinal "SwingUnitsModel" "SwingUnitsModel" "isSaved" "[Z") ∈ lw_tbl := List.mem_append_right _ (List.mem_append_right _ (List.mem_append_right _ (List.mem_append_left _ (List.mem_of_getElem? (l := tables_1_3) (i := 222) rfl))))
theorem tw_703 : (Jvm.Cond.soleField "SwingUnitsModel" "isSaved") ∈ lw_tbl := List.mem_append_right _ (List.mem_append_right _ (List.mem_append_right _ (List.mem_append_left _ (List.mem_of_getElem? (l := tables_1_3) (i := 223) rfl))))
theorem tw_704 : (Jvm.Cond.laysFinal "SwingUnitsModel" "SwingUnitsModel" "aside" "[J") ∈ lw_tbl := List.mem_append_right _ (List.mem_append_right _ (List.mem_append_right _ (List.mem_append_left _ (List.mem_of_getElem? (l := tables_1_3) (i := 224) rfl))))
theorem tw_705 : (Jvm.Cond.soleField "SwingUnitsModel" "aside") ∈ lw_tbl := List.mem_append_right _ (List.mem_append_right _ (List.mem_append_right _ (List.mem_append_left _ (List.mem_of_getElem? (l := tables_1_3) (i := 225) rfl))))
theorem tw_706 : (Jvm.Cond.laysFinal "SwingUnitsModel" "SwingUnitsModel" "share" "[J") ∈ lw_tbl := List.mem_append_right _ (List.mem_append_right _ (List.mem_append_right _ (List.mem_append_left _ (List.mem_of_getElem? (l := tables_1_3) (i := 226) rfl))))
theorem tw_707 : (Jvm.Cond.soleField "SwingUnitsModel" "share") ∈ lw_tbl := List.mem_append_right _ (List.mem_append_right _ (List.mem_append_right _ (List.mem_append_left _ (List.mem_of_getElem? (l := tables_1_3) (i := 227) rfl))))
theorem tw_708 : (Jvm.Cond.laysFinal "SwingUnitsModel" "SwingUnitsModel" "pad" "[I") ∈ lw_tbl := List.mem_append_right _ (List.mem_append_right _ (List.mem_append_right _ (List.mem_append_left _ (List.mem_of_getElem? (l := tables_1_3) (i := 228) rfl))))
theorem tw_709 : (Jvm.Cond.soleField "SwingUnitsModel" "pad") ∈ lw_tbl := List.mem_append_right _ (List.mem_append_right _ (List.mem_append_right _ (List.mem_append_left _ (List.mem_of_getElem? (l := tables_1_3) (i := 229) rfl))))
theorem tw_710 : (Jvm.Cond.lays "SwingUnitsModel" "SwingUnitsModel" "padMany" "I") ∈ lw_tbl := List.mem_append_right _ (List.mem_append_right _ (List.mem_append_right _ (List.mem_append_left _ (List.mem_of_getElem? (l := tables_1_3) (i := 230) rfl))))
theorem tw_711 : (Jvm.Cond.soleField "SwingUnitsModel" "padMany") ∈ lw_tbl := List.mem_append_right _ (List.mem_append_right _ (List.mem_append_right _ (List.mem_append_left _ (List.mem_of_getElem? (l := tables_1_3) (i := 231) rfl))))
theorem tw_712 : (Jvm.Cond.lays "SwingUnitsModel" "SwingUnitsModel" "spot" "I") ∈ lw_tbl := List.mem_append_right _ (List.mem_append_right _ (List.mem_append_right _ (List.mem_append_left _ (List.mem_of_getElem? (l := tables_1_3) (i := 232) rfl))))
theorem tw_713 : (Jvm.Cond.soleField "SwingUnitsModel" "spot") ∈ lw_tbl := List.mem_append_right _ (List.mem_append_right _ (List.mem_append_right _ (List.mem_append_left _ (List.mem_of_getElem? (l := tables_1_3) (i := 233) rfl))))
theorem tw_714 : (Jvm.Cond.lays "SwingUnitsModel" "SwingUnitsModel" "isWrong" "Z") ∈ lw_tbl := List.mem_append_right _ (List.mem_append_right _ (List.mem_append_right _ (List.mem_append_left _ (List.mem_of_getElem? (l := tables_1_3) (i := 234) rfl))))
theorem tw_715 : (Jvm.Cond.soleField "SwingUnitsModel" "isWrong") ∈ lw_tbl := List.mem_append_right _ (List.mem_append_right _ (List.mem_append_right _ (List.mem_append_left _ (List.mem_of_getElem? (l := tables_1_3) (i := 235) rfl))))
theorem tw_716 : (Jvm.Cond.lays "SwingUnitsModel" "SwingUnitsModel" "orders" "I") ∈ lw_tbl := List.mem_append_right _ (List.mem_append_right _ (List.mem_append_right _ (List.mem_append_left _ (List.mem_of_getElem? (l := tables_1_3) (i := 236) rfl))))
theorem tw_717 : (Jvm.Cond.soleField "SwingUnitsModel" "orders") ∈ lw_tbl := List.mem_append_right _ (List.mem_append_right _ (List.mem_append_right _ (List.mem_append_left _ (List.mem_of_getElem? (l := tables_1_3) (i := 237) rfl))))
theorem tw_718 : (Jvm.Cond.laysFinal "SwingUnitsModel" "SwingUnitsModel" "sort" "[I") ∈ lw_tbl := List.mem_append_right _ (List.mem_append_right _ (List.mem_append_right _ (List.mem_append_left _ (List.mem_of_getElem? (l := tables_1_3) (i := 238) rfl))))
theorem tw_719 : (Jvm.Cond.soleField "SwingUnitsModel" "sort") ∈ lw_tbl := List.mem_append_right _ (List.mem_append_right _ (List.mem_append_right _ (List.mem_append_left _ (List.mem_of_getElem? (l := tables_1_3) (i := 239) rfl))))
theorem tw_720 : (Jvm.Cond.laysFinal "SwingUnitsModel" "SwingUnitsModel" "numbers" "[I") ∈ lw_tbl := List.mem_append_right _ (List.mem_append_right _ (List.mem_append_right _ (List.mem_append_right _ (List.mem_append_left _ (List.mem_of_getElem? (l := tables_1_4) (i := 0) rfl)))))
theorem tw_721 : (Jvm.Cond.soleField "SwingUnitsModel" "numbers") ∈ lw_tbl := List.mem_append_right _ (List.mem_append_right _ (List.mem_append_right _ (List.mem_append_right _ (List.mem_append_left _ (List.mem_of_getElem? (l := tables_1_4) (i := 1) rfl)))))
theorem tw_722 : (Jvm.Cond.superclass "SwingUnitsModel" "java/lang/Object") ∈ lw_tbl := List.mem_append_right _ (List.mem_append_right _ (List.mem_append_right _ (List.mem_append_right _ (List.mem_append_left _ (List.mem_of_getElem? (l := tables_1_4) (i := 2) rfl)))))
theorem tw_723 : (Jvm.Cond.methodLink "SwingUnitsLaw" (17 : Nat) ({ cls := "SwingUnitsModel", name := "set", desc := "(II)I" } : Jvm.MethodName)) ∈ lw_tbl := List.mem_append_right _ (List.mem_append_right _ (List.mem_append_right _ (List.mem_append_right _ (List.mem_append_left _ (List.mem_of_getElem? (l := tables_1_4) (i := 3) rfl)))))
theorem tw_724 : (Jvm.Cond.instanceMethod ({ cls := "SwingUnitsModel", name := "set", desc := "(II)I" } : Jvm.MethodName)) ∈ lw_tbl := List.mem_append_right _ (List.mem_append_right _ (List.mem_append_right _ (List.mem_append_right _ (List.mem_append_left _ (List.mem_of_getElem? (l := tables_1_4) (i := 4) rfl)))))
theorem tw_725 : (Jvm.Cond.selects "SwingUnitsModel" ({ cls := "SwingUnitsModel", name := "set", desc := "(II)I" } : Jvm.MethodName) ({ cls := "SwingUnitsModel", name := "set", desc := "(II)I" } : Jvm.MethodName)) ∈ lw_tbl := List.mem_append_right _ (List.mem_append_right _ (List.mem_append_right _ (List.mem_append_right _ (List.mem_append_left _ (List.mem_of_getElem? (l := tables_1_4) (i := 5) rfl)))))
theorem tw_726 : (Jvm.Cond.code ({ cls := "SwingUnitsModel", name := "set", desc := "(II)I" } : Jvm.MethodName) prog_10_method_26_code (5 : Nat) (Option.some Jvm.ClassFile.FieldType.int)) ∈ lw_tbl := List.mem_append_right _ (List.mem_append_right _ (List.mem_append_right _ (List.mem_append_right _ (List.mem_append_left _ (List.mem_of_getElem? (l := tables_1_4) (i := 6) rfl)))))
theorem tw_727 : (Jvm.Cond.constantLong "SwingUnitsModel" (102 : Nat) (4 : Int64)) ∈ lw_tbl := List.mem_append_right _ (List.mem_append_right _ (List.mem_append_right _ (List.mem_append_right _ (List.mem_append_left _ (List.mem_of_getElem? (l := tables_1_4) (i := 7) rfl)))))
theorem tw_728 : (Jvm.Cond.methodLink "SwingUnitsModel" (53 : Nat) ({ cls := "SwingUnitsModel", name := "in", desc := "(JJJ)Z" } : Jvm.MethodName)) ∈ lw_tbl := List.mem_append_right _ (List.mem_append_right _ (List.mem_append_right _ (List.mem_append_right _ (List.mem_append_left _ (List.mem_of_getElem? (l := tables_1_4) (i := 8) rfl)))))
theorem tw_729 : (Jvm.Cond.static ({ cls := "SwingUnitsModel", name := "in", desc := "(JJJ)Z" } : Jvm.MethodName)) ∈ lw_tbl := List.mem_append_right _ (List.mem_append_right _ (List.mem_append_right _ (List.mem_append_right _ (List.mem_append_left _ (List.mem_of_getElem? (l := tables_1_4) (i := 9) rfl)))))
theorem tw_730 : (Jvm.Cond.code ({ cls := "SwingUnitsModel", name := "in", desc := "(JJJ)Z" } : Jvm.MethodName) prog_10_method_3_code (6 : Nat) (Option.some Jvm.ClassFile.FieldType.boolean)) ∈ lw_tbl := List.mem_append_right _ (List.mem_append_right _ (List.mem_append_right _ (List.mem_append_right _ (List.mem_append_left _ (List.mem_of_getElem? (l := tables_1_4) (i := 10) rfl)))))
theorem tw_731 : (Jvm.Cond.methodLink "SwingUnitsModel" (68 : Nat) ({ cls := "SwingUnitsModel", name := "keep", desc := "()V" } : Jvm.MethodName)) ∈ lw_tbl := List.mem_append_right _ (List.mem_append_right _ (List.mem_append_right _ (List.mem_append_right _ (List.mem_append_left _ (List.mem_of_getElem? (l := tables_1_4) (i := 11) rfl)))))
theorem tw_732 : (Jvm.Cond.privateMethod ({ cls := "SwingUnitsModel", name := "keep", desc := "()V" } : Jvm.MethodName)) ∈ lw_tbl := List.mem_append_right _ (List.mem_append_right _ (List.mem_append_right _ (List.mem_append_right _ (List.mem_append_left _ (List.mem_of_getElem? (l := tables_1_4) (i := 12) rfl)))))
theorem tw_733 : (Jvm.Cond.instanceMethod ({ cls := "SwingUnitsModel", name := "keep", desc := "()V" } : Jvm.MethodName)) ∈ lw_tbl := List.mem_append_right _ (List.mem_append_right _ (List.mem_append_right _ (List.mem_append_right _ (List.mem_append_left _ (List.mem_of_getElem? (l := tables_1_4) (i := 13) rfl)))))
theorem tw_734 : (Jvm.Cond.code ({ cls := "SwingUnitsModel", name := "keep", desc := "()V" } : Jvm.MethodName) prog_10_method_8_code (3 : Nat) (Option.none : Option Jvm.ClassFile.FieldType)) ∈ lw_tbl := List.mem_append_right _ (List.mem_append_right _ (List.mem_append_right _ (List.mem_append_right _ (List.mem_append_left _ (List.mem_of_getElem? (l := tables_1_4) (i := 14) rfl)))))
theorem tw_735 : (Jvm.Cond.methodLink "SwingUnitsLaw" (22 : Nat) ({ cls := "SwingUnitsModel", name := "buy", desc := "(III)I" } : Jvm.MethodName)) ∈ lw_tbl := List.mem_append_right _ (List.mem_append_right _ (List.mem_append_right _ (List.mem_append_right _ (List.mem_append_left _ (List.mem_of_getElem? (l := tables_1_4) (i := 15) rfl)))))
theorem tw_736 : (Jvm.Cond.instanceMethod ({ cls := "SwingUnitsModel", name := "buy", desc := "(III)I" } : Jvm.MethodName)) ∈ lw_tbl := List.mem_append_right _ (List.mem_append_right _ (List.mem_append_right _ (List.mem_append_right _ (List.mem_append_left _ (List.mem_of_getElem? (l := tables_1_4) (i := 16) rfl)))))
theorem tw_737 : (Jvm.Cond.selects "SwingUnitsModel" ({ cls := "SwingUnitsModel", name := "buy", desc := "(III)I" } : Jvm.MethodName) ({ cls := "SwingUnitsModel", name := "buy", desc := "(III)I" } : Jvm.MethodName)) ∈ lw_tbl := List.mem_append_right _ (List.mem_append_right _ (List.mem_append_right _ (List.mem_append_right _ (List.mem_append_left _ (List.mem_of_getElem? (l := tables_1_4) (i := 17) rfl)))))
theorem tw_738 : (Jvm.Cond.code ({ cls := "SwingUnitsModel", name := "buy", desc := "(III)I" } : Jvm.MethodName) prog_10_method_28_code (4 : Nat) (Option.some Jvm.ClassFile.FieldType.int)) ∈ lw_tbl := List.mem_append_right _ (List.mem_append_right _ (List.mem_append_right _ (List.mem_append_right _ (List.mem_append_left _ (List.mem_of_getElem? (l := tables_1_4) (i := 18) rfl)))))
theorem tw_739 : (Jvm.Cond.methodLink "SwingUnitsModel" (122 : Nat) ({ cls := "SwingUnitsModel", name := "tryBuy", desc := "(IIIZ)I" } : Jvm.MethodName)) ∈ lw_tbl := List.mem_append_right _ (List.mem_append_right _ (List.mem_append_right _ (List.mem_append_right _ (List.mem_append_left _ (List.mem_of_getElem? (l := tables_1_4) (i := 19) rfl)))))
theorem tw_740 : (Jvm.Cond.privateMethod ({ cls := "SwingUnitsModel", name := "tryBuy", desc := "(IIIZ)I" } : Jvm.MethodName)) ∈ lw_tbl := List.mem_append_right _ (List.mem_append_right _ (List.mem_append_right _ (List.mem_append_right _ (List.mem_append_left _ (List.mem_of_getElem? (l := tables_1_4) (i := 20) rfl)))))
theorem tw_741 : (Jvm.Cond.instanceMethod ({ cls := "SwingUnitsModel", name := "tryBuy", desc := "(IIIZ)I" } : Jvm.MethodName)) ∈ lw_tbl := List.mem_append_right _ (List.mem_append_right _ (List.mem_append_right _ (List.mem_append_right _ (List.mem_append_left _ (List.mem_of_getElem? (l := tables_1_4) (i := 21) rfl)))))
theorem tw_742 : (Jvm.Cond.code ({ cls := "SwingUnitsModel", name := "tryBuy", desc := "(IIIZ)I" } : Jvm.MethodName) prog_10_method_27_code (5 : Nat) (Option.some Jvm.ClassFile.FieldType.int)) ∈ lw_tbl := List.mem_append_right _ (List.mem_append_right _ (List.mem_append_right _ (List.mem_append_right _ (List.mem_append_left _ (List.mem_of_getElem? (l := tables_1_4) (i := 22) rfl)))))
theorem tw_743 : (Jvm.Cond.methodLink "SwingUnitsModel" (104 : Nat) ({ cls := "SwingUnitsModel", name := "isHolder", desc := "(I)Z" } : Jvm.MethodName)) ∈ lw_tbl := List.mem_append_right _ (List.mem_append_right _ (List.mem_append_right _ (List.mem_append_right _ (List.mem_append_left _ (List.mem_of_getElem? (l := tables_1_4) (i := 23) rfl)))))
theorem tw_744 : (Jvm.Cond.static ({ cls := "SwingUnitsModel", name := "isHolder", desc := "(I)Z" } : Jvm.MethodName)) ∈ lw_tbl := List.mem_append_right _ (List.mem_append_right _ (List.mem_append_right _ (List.mem_append_right _ (List.mem_append_left _ (List.mem_of_getElem? (l := tables_1_4) (i := 24) rfl)))))
theorem tw_745 : (Jvm.Cond.code ({ cls := "SwingUnitsModel", name := "isHolder", desc := "(I)Z" } : Jvm.MethodName) prog_10_method_4_code (1 : Nat) (Option.some Jvm.ClassFile.FieldType.boolean)) ∈ lw_tbl := List.mem_append_right _ (List.mem_append_right _ (List.mem_append_right _ (List.mem_append_right _ (List.mem_append_left _ (List.mem_of_getElem? (l := tables_1_4) (i := 25) rfl)))))
theorem tw_746 : (Jvm.Cond.constantLong "SwingUnitsModel" (108 : Nat) (1000000 : Int64)) ∈ lw_tbl := List.mem_append_right _ (List.mem_append_right _ (List.mem_append_right _ (List.mem_append_right _ (List.mem_append_left _ (List.mem_of_getElem? (l := tables_1_4) (i := 26) rfl)))))
theorem tw_747 : (Jvm.Cond.constantLong "SwingUnitsModel" (110 : Nat) (23 : Int64)) ∈ lw_tbl := List.mem_append_right _ (List.mem_append_right _ (List.mem_append_right _ (List.mem_append_right _ (List.mem_append_left _ (List.mem_of_getElem? (l := tables_1_4) (i := 27) rfl)))))
theorem tw_748 : (Jvm.Cond.constantLong "SwingUnitsModel" (112 : Nat) (20 : Int64)) ∈ lw_tbl := List.mem_append_right _ (List.mem_append_right _ (List.mem_append_right _ (List.mem_append_right _ (List.mem_append_left _ (List.mem_of_getElem? (l := tables_1_4) (i := 28) rfl)))))
theorem tw_749 : (Jvm.Cond.methodLink "SwingUnitsModel" (114 : Nat) ({ cls := "SwingUnitsModel", name := "keepIf", desc := "(Z)V" } : Jvm.MethodName)) ∈ lw_tbl := List.mem_append_right _ (List.mem_append_right _ (List.mem_append_right _ (List.mem_append_right _ (List.mem_append_left _ (List.mem_of_getElem? (l := tables_1_4) (i := 29) rfl)))))
theorem tw_750 : (Jvm.Cond.privateMethod ({ cls := "SwingUnitsModel", name := "keepIf", desc := "(Z)V" } : Jvm.MethodName)) ∈ lw_tbl := List.mem_append_right _ (List.mem_append_right _ (List.mem_append_right _ (List.mem_append_right _ (List.mem_append_left _ (List.mem_of_getElem? (l := tables_1_4) (i := 30) rfl)))))
theorem tw_751 : (Jvm.Cond.instanceMethod ({ cls := "SwingUnitsModel", name := "keepIf", desc := "(Z)V" } : Jvm.MethodName)) ∈ lw_tbl := List.mem_append_right _ (List.mem_append_right _ (List.mem_append_right _ (List.mem_append_right _ (List.mem_append_left _ (List.mem_of_getElem? (l := tables_1_4) (i := 31) rfl)))))
theorem tw_752 : (Jvm.Cond.code ({ cls := "SwingUnitsModel", name := "keepIf", desc := "(Z)V" } : Jvm.MethodName) prog_10_method_9_code (2 : Nat) (Option.none : Option Jvm.ClassFile.FieldType)) ∈ lw_tbl := List.mem_append_right _ (List.mem_append_right _ (List.mem_append_right _ (List.mem_append_right _ (List.mem_append_left _ (List.mem_of_getElem? (l := tables_1_4) (i := 32) rfl)))))
theorem tw_753 : (Jvm.Cond.methodLink "SwingUnitsModel" (118 : Nat) ({ cls := "SwingUnitsModel", name := "putIn", desc := "(IIJI)J" } : Jvm.MethodName)) ∈ lw_tbl := List.mem_append_right _ (List.mem_append_right _ (List.mem_append_right _ (List.mem_append_right _ (List.mem_append_left _ (List.mem_of_getElem? (l := tables_1_4) (i := 33) rfl)))))
theorem tw_754 : (Jvm.Cond.privateMethod ({ cls := "SwingUnitsModel", name := "putIn", desc := "(IIJI)J" } : Jvm.MethodName)) ∈ lw_tbl := List.mem_append_right _ (List.mem_append_right _ (List.mem_append_right _ (List.mem_append_right _ (List.mem_append_left _ (List.mem_of_getElem? (l := tables_1_4) (i := 34) rfl)))))
theorem tw_755 : (Jvm.Cond.instanceMethod ({ cls := "SwingUnitsModel", name := "putIn", desc := "(IIJI)J" } : Jvm.MethodName)) ∈ lw_tbl := List.mem_append_right _ (List.mem_append_right _ (List.mem_append_right _ (List.mem_append_right _ (List.mem_append_left _ (List.mem_of_getElem? (l := tables_1_4) (i := 35) rfl)))))
theorem tw_756 : (Jvm.Cond.code ({ cls := "SwingUnitsModel", name := "putIn", desc := "(IIJI)J" } : Jvm.MethodName) prog_10_method_25_code (10 : Nat) (Option.some Jvm.ClassFile.FieldType.long)) ∈ lw_tbl := List.mem_append_right _ (List.mem_append_right _ (List.mem_append_right _ (List.mem_append_right _ (List.mem_append_left _ (List.mem_of_getElem? (l := tables_1_4) (i := 36) rfl)))))
theorem tw_757 : (Jvm.Cond.methodLink "SwingUnitsModel" (86 : Nat) ({ cls := "SwingUnitsModel", name := "ofOrder", desc := "(III)J" } : Jvm.MethodName)) ∈ lw_tbl := List.mem_append_right _ (List.mem_append_right _ (List.mem_append_right _ (List.mem_append_right _ (List.mem_append_left _ (List.mem_of_getElem? (l := tables_1_4) (i := 37) rfl)))))
theorem tw_758 : (Jvm.Cond.privateMethod ({ cls := "SwingUnitsModel", name := "ofOrder", desc := "(III)J" } : Jvm.MethodName)) ∈ lw_tbl := List.mem_append_right _ (List.mem_append_right _ (List.mem_append_right _ (List.mem_append_right _ (List.mem_append_left _ (List.mem_of_getElem? (l := tables_1_4) (i := 38) rfl)))))
theorem tw_759 : (Jvm.Cond.instanceMethod ({ cls := "SwingUnitsModel", name := "ofOrder", desc := "(III)J" } : Jvm.MethodName)) ∈ lw_tbl := List.mem_append_right _ (List.mem_append_right _ (List.mem_append_right _ (List.mem_append_right _ (List.mem_append_left _ (List.mem_of_getElem? (l := tables_1_4) (i := 39) rfl)))))
theorem tw_760 : (Jvm.Cond.code ({ cls := "SwingUnitsModel", name := "ofOrder", desc := "(III)J" } : Jvm.MethodName) prog_10_method_18_code (4 : Nat) (Option.some Jvm.ClassFile.FieldType.long)) ∈ lw_tbl := List.mem_append_right _ (List.mem_append_right _ (List.mem_append_right _ (List.mem_append_right _ (List.mem_append_left _ (List.mem_of_getElem? (l := tables_1_4) (i := 40) rfl)))))
theorem tw_761 : (Jvm.Cond.methodLink "SwingUnitsLaw" (26 : Nat) ({ cls := "SwingUnitsModel", name := "leave", desc := "(III)I" } : Jvm.MethodName)) ∈ lw_tbl := List.mem_append_right _ (List.mem_append_right _ (List.mem_append_right _ (List.mem_append_right _ (List.mem_append_left _ (List.mem_of_getElem? (l := tables_1_4) (i := 41) rfl)))))
theorem tw_762 : (Jvm.Cond.instanceMethod ({ cls := "SwingUnitsModel", name := "leave", desc := "(III)I" } : Jvm.MethodName)) ∈ lw_tbl := List.mem_append_right _ (List.mem_append_right _ (List.mem_append_right _ (List.mem_append_right _ (List.mem_append_left _ (List.mem_of_getElem? (l := tables_1_4) (i := 42) rfl)))))
theorem tw_763 : (Jvm.Cond.selects "SwingUnitsModel" ({ cls := "SwingUnitsModel", name := "leave", desc := "(III)I" } : Jvm.MethodName) ({ cls := "SwingUnitsModel", name := "leave", desc := "(III)I" } : Jvm.MethodName)) ∈ lw_tbl := List.mem_append_right _ (List.mem_append_right _ (List.mem_append_right _ (List.mem_append_right _ (List.mem_append_left _ (List.mem_of_getElem? (l := tables_1_4) (i := 43) rfl)))))
theorem tw_764 : (Jvm.Cond.code ({ cls := "SwingUnitsModel", name := "leave", desc := "(III)I" } : Jvm.MethodName) prog_10_method_30_code (4 : Nat) (Option.some Jvm.ClassFile.FieldType.int)) ∈ lw_tbl := List.mem_append_right _ (List.mem_append_right _ (List.mem_append_right _ (List.mem_append_right _ (List.mem_append_left _ (List.mem_of_getElem? (l := tables_1_4) (i := 44) rfl)))))
theorem tw_765 : (Jvm.Cond.methodLink "SwingUnitsModel" (129 : Nat) ({ cls := "SwingUnitsModel", name := "tryLeave", desc := "(IIIZ)I" } : Jvm.MethodName)) ∈ lw_tbl := List.mem_append_right _ (List.mem_append_right _ (List.mem_append_right _ (List.mem_append_right _ (List.mem_append_left _ (List.mem_of_getElem? (l := tables_1_4) (i := 45) rfl)))))
theorem tw_766 : (Jvm.Cond.privateMethod ({ cls := "SwingUnitsModel", name := "tryLeave", desc := "(IIIZ)I" } : Jvm.MethodName)) ∈ lw_tbl := List.mem_append_right _ (List.mem_append_right _ (List.mem_append_right _ (List.mem_append_right _ (List.mem_append_left _ (List.mem_of_getElem? (l := tables_1_4) (i := 46) rfl)))))
theorem tw_767 : (Jvm.Cond.instanceMethod ({ cls := "SwingUnitsModel", name := "tryLeave", desc := "(IIIZ)I" } : Jvm.MethodName)) ∈ lw_tbl := List.mem_append_right _ (List.mem_append_right _ (List.mem_append_right _ (List.mem_append_right _ (List.mem_append_left _ (List.mem_of_getElem? (l := tables_1_4) (i := 47) rfl)))))
theorem tw_768 : (Jvm.Cond.code ({ cls := "SwingUnitsModel", name := "tryLeave", desc := "(IIIZ)I" } : Jvm.MethodName) prog_10_method_29_code (5 : Nat) (Option.some Jvm.ClassFile.FieldType.int)) ∈ lw_tbl := List.mem_append_right _ (List.mem_append_right _ (List.mem_append_right _ (List.mem_append_right _ (List.mem_append_left _ (List.mem_of_getElem? (l := tables_1_4) (i := 48) rfl)))))
theorem tw_769 : (Jvm.Cond.methodLink "SwingUnitsModel" (71 : Nat) ({ cls := "SwingUnitsModel", name := "units", desc := "(I)J" } : Jvm.MethodName)) ∈ lw_tbl := List.mem_append_right _ (List.mem_append_right _ (List.mem_append_right _ (List.mem_append_right _ (List.mem_append_left _ (List.mem_of_getElem? (l := tables_1_4) (i := 49) rfl)))))
theorem tw_770 : (Jvm.Cond.privateMethod ({ cls := "SwingUnitsModel", name := "units", desc := "(I)J" } : Jvm.MethodName)) ∈ lw_tbl := List.mem_append_right _ (List.mem_append_right _ (List.mem_append_right _ (List.mem_append_right _ (List.mem_append_left _ (List.mem_of_getElem? (l := tables_1_4) (i := 50) rfl)))))
theorem tw_771 : (Jvm.Cond.instanceMethod ({ cls := "SwingUnitsModel", name := "units", desc := "(I)J" } : Jvm.MethodName)) ∈ lw_tbl := List.mem_append_right _ (List.mem_append_right _ (List.mem_append_right _ (List.mem_append_right _ (List.mem_append_left _ (List.mem_of_getElem? (l := tables_1_4) (i := 51) rfl)))))
theorem tw_772 : (Jvm.Cond.code ({ cls := "SwingUnitsModel", name := "units", desc := "(I)J" } : Jvm.MethodName) prog_10_method_7_code (2 : Nat) (Option.some Jvm.ClassFile.FieldType.long)) ∈ lw_tbl := List.mem_append_right _ (List.mem_append_right _ (List.mem_append_right _ (List.mem_append_right _ (List.mem_append_left _ (List.mem_of_getElem? (l := tables_1_4) (i := 52) rfl)))))
theorem tw_773 : (Jvm.Cond.methodLink "SwingUnitsModel" (57 : Nat) ({ cls := "SwingUnitsModel", name := "of", desc := "(II)J" } : Jvm.MethodName)) ∈ lw_tbl := List.mem_append_right _ (List.mem_append_right _ (List.mem_append_right _ (List.mem_append_right _ (List.mem_append_left _ (List.mem_of_getElem? (l := tables_1_4) (i := 53) rfl)))))
theorem tw_774 : (Jvm.Cond.privateMethod ({ cls := "SwingUnitsModel", name := "of", desc := "(II)J" } : Jvm.MethodName)) ∈ lw_tbl := List.mem_append_right _ (List.mem_append_right _ (List.mem_append_right _ (List.mem_append_right _ (List.mem_append_left _ (List.mem_of_getElem? (l := tables_1_4) (i := 54) rfl)))))
theorem tw_775 : (Jvm.Cond.instanceMethod ({ cls := "SwingUnitsModel", name := "of", desc := "(II)J" } : Jvm.MethodName)) ∈ lw_tbl := List.mem_append_right _ (List.mem_append_right _ (List.mem_append_right _ (List.mem_append_right _ (List.mem_append_left _ (List.mem_of_getElem? (l := tables_1_4) (i := 55) rfl)))))
theorem tw_776 : (Jvm.Cond.code ({ cls := "SwingUnitsModel", name := "of", desc := "(II)J" } : Jvm.MethodName) prog_10_method_5_code (3 : Nat) (Option.some Jvm.ClassFile.FieldType.long)) ∈ lw_tbl := List.mem_append_right _ (List.mem_append_right _ (List.mem_append_right _ (List.mem_append_right _ (List.mem_append_left _ (List.mem_of_getElem? (l := tables_1_4) (i := 56) rfl)))))
theorem tw_777 : (Jvm.Cond.methodLink "SwingUnitsModel" (126 : Nat) ({ cls := "SwingUnitsModel", name := "bound", desc := "(I)J" } : Jvm.MethodName)) ∈ lw_tbl := List.mem_append_right _ (List.mem_append_right _ (List.mem_append_right _ (List.mem_append_right _ (List.mem_append_left _ (List.mem_of_getElem? (l := tables_1_4) (i := 57) rfl)))))
theorem tw_778 : (Jvm.Cond.privateMethod ({ cls := "SwingUnitsModel", name := "bound", desc := "(I)J" } : Jvm.MethodName)) ∈ lw_tbl := List.mem_append_right _ (List.mem_append_right _ (List.mem_append_right _ (List.mem_append_right _ (List.mem_append_left _ (List.mem_of_getElem? (l := tables_1_4) (i := 58) rfl)))))
theorem tw_779 : (Jvm.Cond.instanceMethod ({ cls := "SwingUnitsModel", name := "bound", desc := "(I)J" } : Jvm.MethodName)) ∈ lw_tbl := List.mem_append_right _ (List.mem_append_right _ (List.mem_append_right _ (List.mem_append_right _ (List.mem_append_left _ (List.mem_of_getElem? (l := tables_1_4) (i := 59) rfl)))))
theorem tw_780 : (Jvm.Cond.code ({ cls := "SwingUnitsModel", name := "bound", desc := "(I)J" } : Jvm.MethodName) prog_10_method_20_code (5 : Nat) (Option.some Jvm.ClassFile.FieldType.long)) ∈ lw_tbl := List.mem_append_right _ (List.mem_append_right _ (List.mem_append_right _ (List.mem_append_right _ (List.mem_append_left _ (List.mem_of_getElem? (l := tables_1_4) (i := 60) rfl)))))
theorem tw_781 : (Jvm.Cond.methodLink "SwingUnitsLaw" (30 : Nat) ({ cls := "SwingUnitsModel", name := "inKind", desc := "(II)I" } : Jvm.MethodName)) ∈ lw_tbl := List.mem_append_right _ (List.mem_append_right _ (List.mem_append_right _ (List.mem_append_right _ (List.mem_append_left _ (List.mem_of_getElem? (l := tables_1_4) (i := 61) rfl)))))
theorem tw_782 : (Jvm.Cond.instanceMethod ({ cls := "SwingUnitsModel", name := "inKind", desc := "(II)I" } : Jvm.MethodName)) ∈ lw_tbl := List.mem_append_right _ (List.mem_append_right _ (List.mem_append_right _ (List.mem_append_right _ (List.mem_append_left _ (List.mem_of_getElem? (l := tables_1_4) (i := 62) rfl)))))
theorem tw_783 : (Jvm.Cond.selects "SwingUnitsModel" ({ cls := "SwingUnitsModel", name := "inKind", desc := "(II)I" } : Jvm.MethodName) ({ cls := "SwingUnitsModel", name := "inKind", desc := "(II)I" } : Jvm.MethodName)) ∈ lw_tbl := List.mem_append_right _ (List.mem_append_right _ (List.mem_append_right _ (List.mem_append_right _ (List.mem_append_left _ (List.mem_of_getElem? (l := tables_1_4) (i := 63) rfl)))))
theorem tw_784 : (Jvm.Cond.code ({ cls := "SwingUnitsModel", name := "inKind", desc := "(II)I" } : Jvm.MethodName) prog_10_method_31_code (7 : Nat) (Option.some Jvm.ClassFile.FieldType.int)) ∈ lw_tbl := List.mem_append_right _ (List.mem_append_right _ (List.mem_append_right _ (List.mem_append_right _ (List.mem_append_left _ (List.mem_of_getElem? (l := tables_1_4) (i := 64) rfl)))))
theorem tw_785 : (Jvm.Cond.methodLink "SwingUnitsModel" (75 : Nat) ({ cls := "SwingUnitsModel", name := "issue", desc := "()J" } : Jvm.MethodName)) ∈ lw_tbl := List.mem_append_right _ (List.mem_append_right _ (List.mem_append_right _ (List.mem_append_right _ (List.mem_append_left _ (List.mem_of_getElem? (l := tables_1_4) (i := 65) rfl)))))
theorem tw_786 : (Jvm.Cond.privateMethod ({ cls := "SwingUnitsModel", name := "issue", desc := "()J" } : Jvm.MethodName)) ∈ lw_tbl := List.mem_append_right _ (List.mem_append_right _ (List.mem_append_right _ (List.mem_append_right _ (List.mem_append_left _ (List.mem_of_getElem? (l := tables_1_4) (i := 66) rfl)))))
theorem tw_787 : (Jvm.Cond.instanceMethod ({ cls := "SwingUnitsModel", name := "issue", desc := "()J" } : Jvm.MethodName)) ∈ lw_tbl := List.mem_append_right _ (List.mem_append_right _ (List.mem_append_right _ (List.mem_append_right _ (List.mem_append_left _ (List.mem_of_getElem? (l := tables_1_4) (i := 67) rfl)))))
theorem tw_788 : (Jvm.Cond.code ({ cls := "SwingUnitsModel", name := "issue", desc := "()J" } : Jvm.MethodName) prog_10_method_12_code (4 : Nat) (Option.some Jvm.ClassFile.FieldType.long)) ∈ lw_tbl := List.mem_append_right _ (List.mem_append_right _ (List.mem_append_right _ (List.mem_append_right _ (List.mem_append_left _ (List.mem_of_getElem? (l := tables_1_4) (i := 68) rfl)))))
theorem tw_789 : (Jvm.Cond.methodLink "SwingUnitsModel" (132 : Nat) ({ cls := "SwingUnitsModel", name := "incomeOfUnit", desc := "()J" } : Jvm.MethodName)) ∈ lw_tbl := List.mem_append_right _ (List.mem_append_right _ (List.mem_append_right _ (List.mem_append_right _ (List.mem_append_left _ (List.mem_of_getElem? (l := tables_1_4) (i := 69) rfl)))))
theorem tw_790 : (Jvm.Cond.privateMethod ({ cls := "SwingUnitsModel", name := "incomeOfUnit", desc := "()J" } : Jvm.MethodName)) ∈ lw_tbl := List.mem_append_right _ (List.mem_append_right _ (List.mem_append_right _ (List.mem_append_right _ (List.mem_append_left _ (List.mem_of_getElem? (l := tables_1_4) (i := 70) rfl)))))
theorem tw_791 : (Jvm.Cond.instanceMethod ({ cls := "SwingUnitsModel", name := "incomeOfUnit", desc := "()J" } : Jvm.MethodName)) ∈ lw_tbl := List.mem_append_right _ (List.mem_append_right _ (List.mem_append_right _ (List.mem_append_right _ (List.mem_append_left _ (List.mem_of_getElem? (l := tables_1_4) (i := 71) rfl)))))
theorem tw_792 : (Jvm.Cond.code ({ cls := "SwingUnitsModel", name := "incomeOfUnit", desc := "()J" } : Jvm.MethodName) prog_10_method_16_code (1 : Nat) (Option.some Jvm.ClassFile.FieldType.long)) ∈ lw_tbl := List.mem_append_right _ (List.mem_append_right _ (List.mem_append_right _ (List.mem_append_right _ (List.mem_append_left _ (List.mem_of_getElem? (l := tables_1_4) (i := 72) rfl)))))
theorem tw_793 : (Jvm.Cond.methodLink "SwingUnitsModel" (135 : Nat) ({ cls := "SwingUnitsModel", name := "goUnits", desc := "(IJJ)V" } : Jvm.MethodName)) ∈ lw_tbl := List.mem_append_right _ (List.mem_append_right _ (List.mem_append_right _ (List.mem_append_right _ (List.mem_append_left _ (List.mem_of_getElem? (l := tables_1_4) (i := 73) rfl)))))
theorem tw_794 : (Jvm.Cond.privateMethod ({ cls := "SwingUnitsModel", name := "goUnits", desc := "(IJJ)V" } : Jvm.MethodName)) ∈ lw_tbl := List.mem_append_right _ (List.mem_append_right _ (List.mem_append_right _ (List.mem_append_right _ (List.mem_append_left _ (List.mem_of_getElem? (l := tables_1_4) (i := 74) rfl)))))
theorem tw_795 : (Jvm.Cond.instanceMethod ({ cls := "SwingUnitsModel", name := "goUnits", desc := "(IJJ)V" } : Jvm.MethodName)) ∈ lw_tbl := List.mem_append_right _ (List.mem_append_right _ (List.mem_append_right _ (List.mem_append_right _ (List.mem_append_left _ (List.mem_of_getElem? (l := tables_1_4) (i := 75) rfl)))))
theorem tw_796 : (Jvm.Cond.code ({ cls := "SwingUnitsModel", name := "goUnits", desc := "(IJJ)V" } : Jvm.MethodName) prog_10_method_23_code (12 : Nat) (Option.none : Option Jvm.ClassFile.FieldType)) ∈ lw_tbl := List.mem_append_right _ (List.mem_append_right _ (List.mem_append_right _ (List.mem_append_right _ (List.mem_append_left _ (List.mem_of_getElem? (l := tables_1_4) (i := 76) rfl)))))
theorem tw_797 : (Jvm.Cond.methodLink "SwingUnitsModel" (97 : Nat) ({ cls := "SwingUnitsModel", name := "allNew", desc := "()J" } : Jvm.MethodName)) ∈ lw_tbl := List.mem_append_right _ (List.mem_append_right _ (List.mem_append_right _ (List.mem_append_right _ (List.mem_append_left _ (List.mem_of_getElem? (l := tables_1_4) (i := 77) rfl)))))
theorem tw_798 : (Jvm.Cond.privateMethod ({ cls := "SwingUnitsModel", name := "allNew", desc := "()J" } : Jvm.MethodName)) ∈ lw_tbl := List.mem_append_right _ (List.mem_append_right _ (List.mem_append_right _ (List.mem_append_right _ (List.mem_append_left _ (List.mem_of_getElem? (l := tables_1_4) (i := 78) rfl)))))
theorem tw_799 : (Jvm.Cond.instanceMethod ({ cls := "SwingUnitsModel", name := "allNew", desc := "()J" } : Jvm.MethodName)) ∈ lw_tbl := List.mem_append_right _ (List.mem_append_right _ (List.mem_append_right _ (List.mem_append_right _ (List.mem_append_left _ (List.mem_of_getElem? (l := tables_1_4) (i := 79) rfl)))))
theorem tw_800 : (Jvm.Cond.code ({ cls := "SwingUnitsModel", name := "allNew", desc := "()J" } : Jvm.MethodName) prog_10_method_13_code (4 : Nat) (Option.some Jvm.ClassFile.FieldType.long)) ∈ lw_tbl := List.mem_append_right _ (List.mem_append_right _ (List.mem_append_right _ (List.mem_append_right _ (List.mem_append_left _ (List.mem_of_getElem? (l := tables_1_4) (i := 80) rfl)))))
theorem tw_801 : (Jvm.Cond.methodLink "SwingUnitsModel" (90 : Nat) ({ cls := "SwingUnitsModel", name := "add", desc := "(IIJ)V" } : Jvm.MethodName)) ∈ lw_tbl := List.mem_append_right _ (List.mem_append_right _ (List.mem_append_right _ (List.mem_append_right _ (List.mem_append_left _ (List.mem_of_getElem? (l := tables_1_4) (i := 81) rfl)))))
theorem tw_802 : (Jvm.Cond.privateMethod ({ cls := "SwingUnitsModel", name := "add", desc := "(IIJ)V" } : Jvm.MethodName)) ∈ lw_tbl := List.mem_append_right _ (List.mem_append_right _ (List.mem_append_right _ (List.mem_append_right _ (List.mem_append_left _ (List.mem_of_getElem? (l := tables_1_4) (i := 82) rfl)))))
theorem tw_803 : (Jvm.Cond.instanceMethod ({ cls := "SwingUnitsModel", name := "add", desc := "(IIJ)V" } : Jvm.MethodName)) ∈ lw_tbl := List.mem_append_right _ (List.mem_append_right _ (List.mem_append_right _ (List.mem_append_right _ (List.mem_append_left _ (List.mem_of_getElem? (l := tables_1_4) (i := 83) rfl)))))
theorem tw_804 : (Jvm.Cond.code ({ cls := "SwingUnitsModel", name := "add", desc := "(IIJ)V" } : Jvm.MethodName) prog_10_method_6_code (5 : Nat) (Option.none : Option Jvm.ClassFile.FieldType)) ∈ lw_tbl := List.mem_append_right _ (List.mem_append_right _ (List.mem_append_right _ (List.mem_append_right _ (List.mem_append_left _ (List.mem_of_getElem? (l := tables_1_4) (i := 84) rfl)))))
theorem tw_805 : (Jvm.Cond.methodLink "SwingUnitsModel" (94 : Nat) ({ cls := "SwingUnitsModel", name := "holdPool", desc := "()V" } : Jvm.MethodName)) ∈ lw_tbl := List.mem_append_right _ (List.mem_append_right _ (List.mem_append_right _ (List.mem_append_right _ (List.mem_append_left _ (List.mem_of_getElem? (l := tables_1_4) (i := 85) rfl)))))
theorem tw_806 : (Jvm.Cond.privateMethod ({ cls := "SwingUnitsModel", name := "holdPool", desc := "()V" } : Jvm.MethodName)) ∈ lw_tbl := List.mem_append_right _ (List.mem_append_right _ (List.mem_append_right _ (List.mem_append_right _ (List.mem_append_left _ (List.mem_of_getElem? (l := tables_1_4) (i := 86) rfl)))))
theorem tw_807 : (Jvm.Cond.instanceMethod ({ cls := "SwingUnitsModel", name := "holdPool", desc := "()V" } : Jvm.MethodName)) ∈ lw_tbl := List.mem_append_right _ (List.mem_append_right _ (List.mem_append_right _ (List.mem_append_right _ (List.mem_append_left _ (List.mem_of_getElem? (l := tables_1_4) (i := 87) rfl)))))
theorem tw_808 : (Jvm.Cond.code ({ cls := "SwingUnitsModel", name := "holdPool", desc := "()V" } : Jvm.MethodName) prog_10_method_21_code (1 : Nat) (Option.none : Option Jvm.ClassFile.FieldType)) ∈ lw_tbl := List.mem_append_right _ (List.mem_append_right _ (List.mem_append_right _ (List.mem_append_right _ (List.mem_append_left _ (List.mem_of_getElem? (l := tables_1_4) (i := 88) rfl)))))
theorem tw_809 : (Jvm.Cond.methodLink "SwingUnitsLaw" (35 : Nat) ({ cls := "SwingUnitsModel", name := "endDay", desc := "()I" } : Jvm.MethodName)) ∈ lw_tbl := List.mem_append_right _ (List.mem_append_right _ (List.mem_append_right _ (List.mem_append_right _ (List.mem_append_left _ (List.mem_of_getElem? (l := tables_1_4) (i := 89) rfl)))))
theorem tw_810 : (Jvm.Cond.instanceMethod ({ cls := "SwingUnitsModel", name := "endDay", desc := "()I" } : Jvm.MethodName)) ∈ lw_tbl := List.mem_append_right _ (List.mem_append_right _ (List.mem_append_right _ (List.mem_append_right _ (List.mem_append_left _ (List.mem_of_getElem? (l := tables_1_4) (i := 90) rfl)))))
theorem tw_811 : (Jvm.Cond.selects "SwingUnitsModel" ({ cls := "SwingUnitsModel", name := "endDay", desc := "()I" } : Jvm.MethodName) ({ cls := "SwingUnitsModel", name := "endDay", desc := "()I" } : Jvm.MethodName)) ∈ lw_tbl := List.mem_append_right _ (List.mem_append_right _ (List.mem_append_right _ (List.mem_append_right _ (List.mem_append_left _ (List.mem_of_getElem? (l := tables_1_4) (i := 91) rfl)))))
theorem tw_812 : (Jvm.Cond.code ({ cls := "SwingUnitsModel", name := "endDay", desc := "()I" } : Jvm.MethodName) prog_10_method_42_code (1 : Nat) (Option.some Jvm.ClassFile.FieldType.int)) ∈ lw_tbl := List.mem_append_right _ (List.mem_append_right _ (List.mem_append_right _ (List.mem_append_right _ (List.mem_append_left _ (List.mem_of_getElem? (l := tables_1_4) (i := 92) rfl)))))
theorem tw_813 : (Jvm.Cond.methodLink "SwingUnitsModel" (190 : Nat) ({ cls := "SwingUnitsModel", name := "tryEndDay", desc := "(Z)I" } : Jvm.MethodName)) ∈ lw_tbl := List.mem_append_right _ (List.mem_append_right _ (List.mem_append_right _ (List.mem_append_right _ (List.mem_append_left _ (List.mem_of_getElem? (l := tables_1_4) (i := 93) rfl)))))
theorem tw_814 : (Jvm.Cond.privateMethod ({ cls := "SwingUnitsModel", name := "tryEndDay", desc := "(Z)I" } : Jvm.MethodName)) ∈ lw_tbl := List.mem_append_right _ (List.mem_append_right _ (List.mem_append_right _ (List.mem_append_right _ (List.mem_append_left _ (List.mem_of_getElem? (l := tables_1_4) (i := 94) rfl)))))
theorem tw_815 : (Jvm.Cond.instanceMethod ({ cls := "SwingUnitsModel", name := "tryEndDay", desc := "(Z)I" } : Jvm.MethodName)) ∈ lw_tbl := List.mem_append_right _ (List.mem_append_right _ (List.mem_append_right _ (List.mem_append_right _ (List.mem_append_left _ (List.mem_of_getElem? (l := tables_1_4) (i := 95) rfl)))))
theorem tw_816 : (Jvm.Cond.code ({ cls := "SwingUnitsModel", name := "tryEndDay", desc := "(Z)I" } : Jvm.MethodName) prog_10_method_41_code (2 : Nat) (Option.some Jvm.ClassFile.FieldType.int)) ∈ lw_tbl := List.mem_append_right _ (List.mem_append_right _ (List.mem_append_right _ (List.mem_append_right _ (List.mem_append_left _ (List.mem_of_getElem? (l := tables_1_4) (i := 96) rfl)))))
theorem tw_817 : (Jvm.Cond.methodLink "SwingUnitsModel" (187 : Nat) ({ cls := "SwingUnitsModel", name := "endIt", desc := "()V" } : Jvm.MethodName)) ∈ lw_tbl := List.mem_append_right _ (List.mem_append_right _ (List.mem_append_right _ (List.mem_append_right _ (List.mem_append_left _ (List.mem_of_getElem? (l := tables_1_4) (i := 97) rfl)))))
theorem tw_818 : (Jvm.Cond.privateMethod ({ cls := "SwingUnitsModel", name := "endIt", desc := "()V" } : Jvm.MethodName)) ∈ lw_tbl := List.mem_append_right _ (List.mem_append_right _ (List.mem_append_right _ (List.mem_append_right _ (List.mem_append_left _ (List.mem_of_getElem? (l := tables_1_4) (i := 98) rfl)))))
theorem tw_819 : (Jvm.Cond.instanceMethod ({ cls := "SwingUnitsModel", name := "endIt", desc := "()V" } : Jvm.MethodName)) ∈ lw_tbl := List.mem_append_right _ (List.mem_append_right _ (List.mem_append_right _ (List.mem_append_right _ (List.mem_append_left _ (List.mem_of_getElem? (l := tables_1_4) (i := 99) rfl)))))
theorem tw_820 : (Jvm.Cond.code ({ cls := "SwingUnitsModel", name := "endIt", desc := "()V" } : Jvm.MethodName) prog_10_method_40_code (9 : Nat) (Option.none : Option Jvm.ClassFile.FieldType)) ∈ lw_tbl := List.mem_append_right _ (List.mem_append_right _ (List.mem_append_right _ (List.mem_append_right _ (List.mem_append_left _ (List.mem_of_getElem? (l := tables_1_4) (i := 100) rfl)))))
theorem tw_821 : (Jvm.Cond.methodLink "SwingUnitsModel" (173 : Nat) ({ cls := "SwingUnitsModel", name := "priceNow", desc := "()J" } : Jvm.MethodName)) ∈ lw_tbl := List.mem_append_right _ (List.mem_append_right _ (List.mem_append_right _ (List.mem_append_right _ (List.mem_append_left _ (List.mem_of_getElem? (l := tables_1_4) (i := 101) rfl)))))
theorem tw_822 : (Jvm.Cond.privateMethod ({ cls := "SwingUnitsModel", name := "priceNow", desc := "()J" } : Jvm.MethodName)) ∈ lw_tbl := List.mem_append_right _ (List.mem_append_right _ (List.mem_append_right _ (List.mem_append_right _ (List.mem_append_left _ (List.mem_of_getElem? (l := tables_1_4) (i := 102) rfl)))))
theorem tw_823 : (Jvm.Cond.instanceMethod ({ cls := "SwingUnitsModel", name := "priceNow", desc := "()J" } : Jvm.MethodName)) ∈ lw_tbl := List.mem_append_right _ (List.mem_append_right _ (List.mem_append_right _ (List.mem_append_right _ (List.mem_append_left _ (List.mem_of_getElem? (l := tables_1_4) (i := 103) rfl)))))
theorem tw_824 : (Jvm.Cond.code ({ cls := "SwingUnitsModel", name := "priceNow", desc := "()J" } : Jvm.MethodName) prog_10_method_34_code (1 : Nat) (Option.some Jvm.ClassFile.FieldType.long)) ∈ lw_tbl := List.mem_append_right _ (List.mem_append_right _ (List.mem_append_right _ (List.mem_append_right _ (List.mem_append_left _ (List.mem_of_getElem? (l := tables_1_4) (i := 104) rfl)))))
theorem tw_825 : (Jvm.Cond.methodLink "SwingUnitsModel" (146 : Nat) ({ cls := "SwingUnitsModel", name := "middle", desc := "()J" } : Jvm.MethodName)) ∈ lw_tbl := List.mem_append_right _ (List.mem_append_right _ (List.mem_append_right _ (List.mem_append_right _ (List.mem_append_left _ (List.mem_of_getElem? (l := tables_1_4) (i := 105) rfl)))))
theorem tw_826 : (Jvm.Cond.privateMethod ({ cls := "SwingUnitsModel", name := "middle", desc := "()J" } : Jvm.MethodName)) ∈ lw_tbl := List.mem_append_right _ (List.mem_append_right _ (List.mem_append_right _ (List.mem_append_right _ (List.mem_append_left _ (List.mem_of_getElem? (l := tables_1_4) (i := 106) rfl)))))
theorem tw_827 : (Jvm.Cond.instanceMethod ({ cls := "SwingUnitsModel", name := "middle", desc := "()J" } : Jvm.MethodName)) ∈ lw_tbl := List.mem_append_right _ (List.mem_append_right _ (List.mem_append_right _ (List.mem_append_right _ (List.mem_append_left _ (List.mem_of_getElem? (l := tables_1_4) (i := 107) rfl)))))
theorem tw_828 : (Jvm.Cond.code ({ cls := "SwingUnitsModel", name := "middle", desc := "()J" } : Jvm.MethodName) prog_10_method_15_code (1 : Nat) (Option.some Jvm.ClassFile.FieldType.long)) ∈ lw_tbl := List.mem_append_right _ (List.mem_append_right _ (List.mem_append_right _ (List.mem_append_right _ (List.mem_append_left _ (List.mem_of_getElem? (l := tables_1_4) (i := 108) rfl)))))
theorem tw_829 : (Jvm.Cond.constantLong "SwingUnitsModel" (79 : Nat) (100000 : Int64)) ∈ lw_tbl := List.mem_append_right _ (List.mem_append_right _ (List.mem_append_right _ (List.mem_append_right _ (List.mem_append_left _ (List.mem_of_getElem? (l := tables_1_4) (i := 109) rfl)))))
theorem tw_830 : (Jvm.Cond.methodLink "SwingUnitsModel" (81 : Nat) ({ cls := "SwingUnitsModel", name := "value", desc := "()J" } : Jvm.MethodName)) ∈ lw_tbl := List.mem_append_right _ (List.mem_append_right _ (List.mem_append_right _ (List.mem_append_right _ (List.mem_append_left _ (List.mem_of_getElem? (l := tables_1_4) (i := 110) rfl)))))
theorem tw_831 : (Jvm.Cond.privateMethod ({ cls := "SwingUnitsModel", name := "value", desc := "()J" } : Jvm.MethodName)) ∈ lw_tbl := List.mem_append_right _ (List.mem_append_right _ (List.mem_append_right _ (List.mem_append_right _ (List.mem_append_left _ (List.mem_of_getElem? (l := tables_1_4) (i := 111) rfl)))))
theorem tw_832 : (Jvm.Cond.instanceMethod ({ cls := "SwingUnitsModel", name := "value", desc := "()J" } : Jvm.MethodName)) ∈ lw_tbl := List.mem_append_right _ (List.mem_append_right _ (List.mem_append_right _ (List.mem_append_right _ (List.mem_append_left _ (List.mem_of_getElem? (l := tables_1_4) (i := 112) rfl)))))
theorem tw_833 : (Jvm.Cond.code ({ cls := "SwingUnitsModel", name := "value", desc := "()J" } : Jvm.MethodName) prog_10_method_14_code (1 : Nat) (Option.some Jvm.ClassFile.FieldType.long)) ∈ lw_tbl := List.mem_append_right _ (List.mem_append_right _ (List.mem_append_right _ (List.mem_append_right _ (List.mem_append_left _ (List.mem_of_getElem? (l := tables_1_4) (i := 113) rfl)))))
theorem tw_834 : (Jvm.Cond.methodLink "SwingUnitsModel" (149 : Nat) ({ cls := "SwingUnitsModel", name := "swing", desc := "()I" } : Jvm.MethodName)) ∈ lw_tbl := List.mem_append_right _ (List.mem_append_right _ (List.mem_append_right _ (List.mem_append_right _ (List.mem_append_left _ (List.mem_of_getElem? (l := tables_1_4) (i := 114) rfl)))))
theorem tw_835 : (Jvm.Cond.privateMethod ({ cls := "SwingUnitsModel", name := "swing", desc := "()I" } : Jvm.MethodName)) ∈ lw_tbl := List.mem_append_right _ (List.mem_append_right _ (List.mem_append_right _ (List.mem_append_right _ (List.mem_append_left _ (List.mem_of_getElem? (l := tables_1_4) (i := 115) rfl)))))
theorem tw_836 : (Jvm.Cond.instanceMethod ({ cls := "SwingUnitsModel", name := "swing", desc := "()I" } : Jvm.MethodName)) ∈ lw_tbl := List.mem_append_right _ (List.mem_append_right _ (List.mem_append_right _ (List.mem_append_right _ (List.mem_append_left _ (List.mem_of_getElem? (l := tables_1_4) (i := 116) rfl)))))
theorem tw_837 : (Jvm.Cond.code ({ cls := "SwingUnitsModel", name := "swing", desc := "()I" } : Jvm.MethodName) prog_10_method_33_code (5 : Nat) (Option.some Jvm.ClassFile.FieldType.int)) ∈ lw_tbl := List.mem_append_right _ (List.mem_append_right _ (List.mem_append_right _ (List.mem_append_right _ (List.mem_append_left _ (List.mem_of_getElem? (l := tables_1_4) (i := 117) rfl)))))
theorem tw_838 : (Jvm.Cond.methodLink "SwingUnitsModel" (139 : Nat) ({ cls := "SwingUnitsModel", name := "sumOf", desc := "(IJ)J" } : Jvm.MethodName)) ∈ lw_tbl := List.mem_append_right _ (List.mem_append_right _ (List.mem_append_right _ (List.mem_append_right _ (List.mem_append_left _ (List.mem_of_getElem? (l := tables_1_4) (i := 118) rfl)))))
theorem tw_839 : (Jvm.Cond.privateMethod ({ cls := "SwingUnitsModel", name := "sumOf", desc := "(IJ)J" } : Jvm.MethodName)) ∈ lw_tbl := List.mem_append_right _ (List.mem_append_right _ (List.mem_append_right _ (List.mem_append_right _ (List.mem_append_left _ (List.mem_of_getElem? (l := tables_1_4) (i := 119) rfl)))))
theorem tw_840 : (Jvm.Cond.instanceMethod ({ cls := "SwingUnitsModel", name := "sumOf", desc := "(IJ)J" } : Jvm.MethodName)) ∈ lw_tbl := List.mem_append_right _ (List.mem_append_right _ (List.mem_append_right _ (List.mem_append_right _ (List.mem_append_left _ (List.mem_of_getElem? (l := tables_1_4) (i := 120) rfl)))))
theorem tw_841 : (Jvm.Cond.code ({ cls := "SwingUnitsModel", name := "sumOf", desc := "(IJ)J" } : Jvm.MethodName) prog_10_method_19_code (7 : Nat) (Option.some Jvm.ClassFile.FieldType.long)) ∈ lw_tbl := List.mem_append_right _ (List.mem_append_right _ (List.mem_append_right _ (List.mem_append_right _ (List.mem_append_left _ (List.mem_of_getElem? (l := tables_1_4) (i := 121) rfl)))))
theorem tw_842 : (Jvm.Cond.methodLink "SwingUnitsModel" (143 : Nat) ({ cls := "SwingUnitsModel", name := "mayLeave", desc := "()J" } : Jvm.MethodName)) ∈ lw_tbl := List.mem_append_right _ (List.mem_append_right _ (List.mem_append_right _ (List.mem_append_right _ (List.mem_append_left _ (List.mem_of_getElem? (l := tables_1_4) (i := 122) rfl)))))
theorem tw_843 : (Jvm.Cond.privateMethod ({ cls := "SwingUnitsModel", name := "mayLeave", desc := "()J" } : Jvm.MethodName)) ∈ lw_tbl := List.mem_append_right _ (List.mem_append_right _ (List.mem_append_right _ (List.mem_append_right _ (List.mem_append_left _ (List.mem_of_getElem? (l := tables_1_4) (i := 123) rfl)))))
theorem tw_844 : (Jvm.Cond.instanceMethod ({ cls := "SwingUnitsModel", name := "mayLeave", desc := "()J" } : Jvm.MethodName)) ∈ lw_tbl := List.mem_append_right _ (List.mem_append_right _ (List.mem_append_right _ (List.mem_append_right _ (List.mem_append_left _ (List.mem_of_getElem? (l := tables_1_4) (i := 124) rfl)))))
theorem tw_845 : (Jvm.Cond.code ({ cls := "SwingUnitsModel", name := "mayLeave", desc := "()J" } : Jvm.MethodName) prog_10_method_32_code (5 : Nat) (Option.some Jvm.ClassFile.FieldType.long)) ∈ lw_tbl := List.mem_append_right _ (List.mem_append_right _ (List.mem_append_right _ (List.mem_append_right _ (List.mem_append_left _ (List.mem_of_getElem? (l := tables_1_4) (i := 125) rfl)))))
theorem tw_846 : (Jvm.Cond.methodLink "SwingUnitsModel" (176 : Nat) ({ cls := "SwingUnitsModel", name := "shareOut", desc := "(J)V" } : Jvm.MethodName)) ∈ lw_tbl := List.mem_append_right _ (List.mem_append_right _ (List.mem_append_right _ (List.mem_append_right _ (List.mem_append_left _ (List.mem_of_getElem? (l := tables_1_4) (i := 126) rfl)))))
theorem tw_847 : (Jvm.Cond.privateMethod ({ cls := "SwingUnitsModel", name := "shareOut", desc := "(J)V" } : Jvm.MethodName)) ∈ lw_tbl := List.mem_append_right _ (List.mem_append_right _ (List.mem_append_right _ (List.mem_append_right _ (List.mem_append_left _ (List.mem_of_getElem? (l := tables_1_4) (i := 127) rfl)))))
theorem tw_848 : (Jvm.Cond.instanceMethod ({ cls := "SwingUnitsModel", name := "shareOut", desc := "(J)V" } : Jvm.MethodName)) ∈ lw_tbl := List.mem_append_right _ (List.mem_append_right _ (List.mem_append_right _ (List.mem_append_right _ (List.mem_append_left _ (List.mem_of_getElem? (l := tables_1_4) (i := 128) rfl)))))
theorem tw_849 : (Jvm.Cond.code ({ cls := "SwingUnitsModel", name := "shareOut", desc := "(J)V" } : Jvm.MethodName) prog_10_method_36_code (7 : Nat) (Option.none : Option Jvm.ClassFile.FieldType)) ∈ lw_tbl := List.mem_append_right _ (List.mem_append_right _ (List.mem_append_right _ (List.mem_append_right _ (List.mem_append_left _ (List.mem_of_getElem? (l := tables_1_4) (i := 129) rfl)))))
theorem tw_850 : (Jvm.Cond.methodLink "SwingUnitsModel" (153 : Nat) ({ cls := "SwingUnitsModel", name := "shareDay", desc := "(IIJ)J" } : Jvm.MethodName)) ∈ lw_tbl := List.mem_append_right _ (List.mem_append_right _ (List.mem_append_right _ (List.mem_append_right _ (List.mem_append_left _ (List.mem_of_getElem? (l := tables_1_4) (i := 130) rfl)))))
theorem tw_851 : (Jvm.Cond.privateMethod ({ cls := "SwingUnitsModel", name := "shareDay", desc := "(IIJ)J" } : Jvm.MethodName)) ∈ lw_tbl := List.mem_append_right _ (List.mem_append_right _ (List.mem_append_right _ (List.mem_append_right _ (List.mem_append_left _ (List.mem_of_getElem? (l := tables_1_4) (i := 131) rfl)))))
theorem tw_852 : (Jvm.Cond.instanceMethod ({ cls := "SwingUnitsModel", name := "shareDay", desc := "(IIJ)J" } : Jvm.MethodName)) ∈ lw_tbl := List.mem_append_right _ (List.mem_append_right _ (List.mem_append_right _ (List.mem_append_right _ (List.mem_append_left _ (List.mem_of_getElem? (l := tables_1_4) (i := 132) rfl)))))
theorem tw_853 : (Jvm.Cond.code ({ cls := "SwingUnitsModel", name := "shareDay", desc := "(IIJ)J" } : Jvm.MethodName) prog_10_method_35_code (12 : Nat) (Option.some Jvm.ClassFile.FieldType.long)) ∈ lw_tbl := List.mem_append_right _ (List.mem_append_right _ (List.mem_append_right _ (List.mem_append_right _ (List.mem_append_left _ (List.mem_of_getElem? (l := tables_1_4) (i := 133) rfl)))))
theorem tw_854 : (Jvm.Cond.methodLink "SwingUnitsModel" (179 : Nat) ({ cls := "SwingUnitsModel", name := "payThem", desc := "(JJ)V" } : Jvm.MethodName)) ∈ lw_tbl := List.mem_append_right _ (List.mem_append_right _ (List.mem_append_right _ (List.mem_append_right _ (List.mem_append_left _ (List.mem_of_getElem? (l := tables_1_4) (i := 134) rfl)))))
theorem tw_855 : (Jvm.Cond.privateMethod ({ cls := "SwingUnitsModel", name := "payThem", desc := "(JJ)V" } : Jvm.MethodName)) ∈ lw_tbl := List.mem_append_right _ (List.mem_append_right _ (List.mem_append_right _ (List.mem_append_right _ (List.mem_append_left _ (List.mem_of_getElem? (l := tables_1_4) (i := 135) rfl)))))
theorem tw_856 : (Jvm.Cond.instanceMethod ({ cls := "SwingUnitsModel", name := "payThem", desc := "(JJ)V" } : Jvm.MethodName)) ∈ lw_tbl := List.mem_append_right _ (List.mem_append_right _ (List.mem_append_right _ (List.mem_append_right _ (List.mem_append_left _ (List.mem_of_getElem? (l := tables_1_4) (i := 136) rfl)))))
theorem tw_857 : (Jvm.Cond.code ({ cls := "SwingUnitsModel", name := "payThem", desc := "(JJ)V" } : Jvm.MethodName) prog_10_method_38_code (10 : Nat) (Option.none : Option Jvm.ClassFile.FieldType)) ∈ lw_tbl := List.mem_append_right _ (List.mem_append_right _ (List.mem_append_right _ (List.mem_append_right _ (List.mem_append_left _ (List.mem_of_getElem? (l := tables_1_4) (i := 137) rfl)))))
theorem tw_858 : (Jvm.Cond.methodLink "SwingUnitsModel" (160 : Nat) ({ cls := "SwingUnitsModel", name := "sellFor", desc := "(J)V" } : Jvm.MethodName)) ∈ lw_tbl := List.mem_append_right _ (List.mem_append_right _ (List.mem_append_right _ (List.mem_append_right _ (List.mem_append_left _ (List.mem_of_getElem? (l := tables_1_4) (i := 138) rfl)))))
theorem tw_859 : (Jvm.Cond.privateMethod ({ cls := "SwingUnitsModel", name := "sellFor", desc := "(J)V" } : Jvm.MethodName)) ∈ lw_tbl := List.mem_append_right _ (List.mem_append_right _ (List.mem_append_right _ (List.mem_append_right _ (List.mem_append_left _ (List.mem_of_getElem? (l := tables_1_4) (i := 139) rfl)))))
theorem tw_860 : (Jvm.Cond.instanceMethod ({ cls := "SwingUnitsModel", name := "sellFor", desc := "(J)V" } : Jvm.MethodName)) ∈ lw_tbl := List.mem_append_right _ (List.mem_append_right _ (List.mem_append_right _ (List.mem_append_right _ (List.mem_append_left _ (List.mem_of_getElem? (l := tables_1_4) (i := 140) rfl)))))
theorem tw_861 : (Jvm.Cond.code ({ cls := "SwingUnitsModel", name := "sellFor", desc := "(J)V" } : Jvm.MethodName) prog_10_method_37_code (3 : Nat) (Option.none : Option Jvm.ClassFile.FieldType)) ∈ lw_tbl := List.mem_append_right _ (List.mem_append_right _ (List.mem_append_right _ (List.mem_append_right _ (List.mem_append_left _ (List.mem_of_getElem? (l := tables_1_4) (i := 141) rfl)))))
theorem tw_862 : (Jvm.Cond.methodLink "SwingUnitsModel" (157 : Nat) ({ cls := "SwingUnitsModel", name := "cost", desc := "()J" } : Jvm.MethodName)) ∈ lw_tbl := List.mem_append_right _ (List.mem_append_right _ (List.mem_append_right _ (List.mem_append_right _ (List.mem_append_left _ (List.mem_of_getElem? (l := tables_1_4) (i := 142) rfl)))))
theorem tw_863 : (Jvm.Cond.privateMethod ({ cls := "SwingUnitsModel", name := "cost", desc := "()J" } : Jvm.MethodName)) ∈ lw_tbl := List.mem_append_right _ (List.mem_append_right _ (List.mem_append_right _ (List.mem_append_right _ (List.mem_append_left _ (List.mem_of_getElem? (l := tables_1_4) (i := 143) rfl)))))
theorem tw_864 : (Jvm.Cond.instanceMethod ({ cls := "SwingUnitsModel", name := "cost", desc := "()J" } : Jvm.MethodName)) ∈ lw_tbl := List.mem_append_right _ (List.mem_append_right _ (List.mem_append_right _ (List.mem_append_right _ (List.mem_append_left _ (List.mem_of_getElem? (l := tables_1_4) (i := 144) rfl)))))
theorem tw_865 : (Jvm.Cond.code ({ cls := "SwingUnitsModel", name := "cost", desc := "()J" } : Jvm.MethodName) prog_10_method_17_code (1 : Nat) (Option.some Jvm.ClassFile.FieldType.long)) ∈ lw_tbl := List.mem_append_right _ (List.mem_append_right _ (List.mem_append_right _ (List.mem_append_right _ (List.mem_append_left _ (List.mem_of_getElem? (l := tables_1_4) (i := 145) rfl)))))
theorem tw_866 : (Jvm.Cond.constantLong "SwingUnitsModel" (84 : Nat) (999 : Int64)) ∈ lw_tbl := List.mem_append_right _ (List.mem_append_right _ (List.mem_append_right _ (List.mem_append_right _ (List.mem_append_left _ (List.mem_of_getElem? (l := tables_1_4) (i := 146) rfl)))))
theorem tw_867 : (Jvm.Cond.methodLink "SwingUnitsModel" (164 : Nat) ({ cls := "SwingUnitsModel", name := "takeOut", desc := "(II)V" } : Jvm.MethodName)) ∈ lw_tbl := List.mem_append_right _ (List.mem_append_right _ (List.mem_append_right _ (List.mem_append_right _ (List.mem_append_left _ (List.mem_of_getElem? (l := tables_1_4) (i := 147) rfl)))))
theorem tw_868 : (Jvm.Cond.privateMethod ({ cls := "SwingUnitsModel", name := "takeOut", desc := "(II)V" } : Jvm.MethodName)) ∈ lw_tbl := List.mem_append_right _ (List.mem_append_right _ (List.mem_append_right _ (List.mem_append_right _ (List.mem_append_left _ (List.mem_of_getElem? (l := tables_1_4) (i := 148) rfl)))))
theorem tw_869 : (Jvm.Cond.instanceMethod ({ cls := "SwingUnitsModel", name := "takeOut", desc := "(II)V" } : Jvm.MethodName)) ∈ lw_tbl := List.mem_append_right _ (List.mem_append_right _ (List.mem_append_right _ (List.mem_append_right _ (List.mem_append_left _ (List.mem_of_getElem? (l := tables_1_4) (i := 149) rfl)))))
theorem tw_870 : (Jvm.Cond.code ({ cls := "SwingUnitsModel", name := "takeOut", desc := "(II)V" } : Jvm.MethodName) prog_10_method_24_code (4 : Nat) (Option.none : Option Jvm.ClassFile.FieldType)) ∈ lw_tbl := List.mem_append_right _ (List.mem_append_right _ (List.mem_append_right _ (List.mem_append_right _ (List.mem_append_left _ (List.mem_of_getElem? (l := tables_1_4) (i := 150) rfl)))))
theorem tw_871 : (Jvm.Cond.constantLong "SwingUnitsModel" (100 : Nat) (3 : Int64)) ∈ lw_tbl := List.mem_append_right _ (List.mem_append_right _ (List.mem_append_right _ (List.mem_append_right _ (List.mem_append_left _ (List.mem_of_getElem? (l := tables_1_4) (i := 151) rfl)))))
theorem tw_872 : (Jvm.Cond.methodLink "SwingUnitsModel" (183 : Nat) ({ cls := "SwingUnitsModel", name := "buyFor", desc := "(IJJJ)V" } : Jvm.MethodName)) ∈ lw_tbl := List.mem_append_right _ (List.mem_append_right _ (List.mem_append_right _ (List.mem_append_right _ (List.mem_append_left _ (List.mem_of_getElem? (l := tables_1_4) (i := 152) rfl)))))
theorem tw_873 : (Jvm.Cond.privateMethod ({ cls := "SwingUnitsModel", name := "buyFor", desc := "(IJJJ)V" } : Jvm.MethodName)) ∈ lw_tbl := List.mem_append_right _ (List.mem_append_right _ (List.mem_append_right _ (List.mem_append_right _ (List.mem_append_left _ (List.mem_of_getElem? (l := tables_1_4) (i := 153) rfl)))))
theorem tw_874 : (Jvm.Cond.instanceMethod ({ cls := "SwingUnitsModel", name := "buyFor", desc := "(IJJJ)V" } : Jvm.MethodName)) ∈ lw_tbl := List.mem_append_right _ (List.mem_append_right _ (List.mem_append_right _ (List.mem_append_right _ (List.mem_append_left _ (List.mem_of_getElem? (l := tables_1_4) (i := 154) rfl)))))
theorem tw_875 : (Jvm.Cond.code ({ cls := "SwingUnitsModel", name := "buyFor", desc := "(IJJJ)V" } : Jvm.MethodName) prog_10_method_39_code (10 : Nat) (Option.none : Option Jvm.ClassFile.FieldType)) ∈ lw_tbl := List.mem_append_right _ (List.mem_append_right _ (List.mem_append_right _ (List.mem_append_right _ (List.mem_append_left _ (List.mem_of_getElem? (l := tables_1_4) (i := 155) rfl)))))
theorem tw_876 : (Jvm.Cond.constantLong "SwingUnitsModel" (168 : Nat) (1000000000 : Int64)) ∈ lw_tbl := List.mem_append_right _ (List.mem_append_right _ (List.mem_append_right _ (List.mem_append_right _ (List.mem_append_left _ (List.mem_of_getElem? (l := tables_1_4) (i := 156) rfl)))))
theorem tw_877 : (Jvm.Cond.methodLink "SwingUnitsModel" (170 : Nat) ({ cls := "SwingUnitsModel", name := "makeUnits", desc := "(IJJ)V" } : Jvm.MethodName)) ∈ lw_tbl := List.mem_append_right _ (List.mem_append_right _ (List.mem_append_right _ (List.mem_append_right _ (List.mem_append_left _ (List.mem_of_getElem? (l := tables_1_4) (i := 157) rfl)))))
theorem tw_878 : (Jvm.Cond.privateMethod ({ cls := "SwingUnitsModel", name := "makeUnits", desc := "(IJJ)V" } : Jvm.MethodName)) ∈ lw_tbl := List.mem_append_right _ (List.mem_append_right _ (List.mem_append_right _ (List.mem_append_right _ (List.mem_append_left _ (List.mem_of_getElem? (l := tables_1_4) (i := 158) rfl)))))
theorem tw_879 : (Jvm.Cond.instanceMethod ({ cls := "SwingUnitsModel", name := "makeUnits", desc := "(IJJ)V" } : Jvm.MethodName)) ∈ lw_tbl := List.mem_append_right _ (List.mem_append_right _ (List.mem_append_right _ (List.mem_append_right _ (List.mem_append_left _ (List.mem_of_getElem? (l := tables_1_4) (i := 159) rfl)))))
theorem tw_880 : (Jvm.Cond.code ({ cls := "SwingUnitsModel", name := "makeUnits", desc := "(IJJ)V" } : Jvm.MethodName) prog_10_method_22_code (8 : Nat) (Option.none : Option Jvm.ClassFile.FieldType)) ∈ lw_tbl := List.mem_append_right _ (List.mem_append_right _ (List.mem_append_right _ (List.mem_append_right _ (List.mem_append_left _ (List.mem_of_getElem? (l := tables_1_4) (i := 160) rfl)))))
theorem tw_881 : (Jvm.Cond.methodLink "SwingUnitsLaw" (40 : Nat) ({ cls := "SwingUnitsModel", name := "quote", desc := "(I)I" } : Jvm.MethodName)) ∈ lw_tbl := List.mem_append_right _ (List.mem_append_right _ (List.mem_append_right _ (List.mem_append_right _ (List.mem_append_left _ (List.mem_of_getElem? (l := tables_1_4) (i := 161) rfl)))))
theorem tw_882 : (Jvm.Cond.instanceMethod ({ cls := "SwingUnitsModel", name := "quote", desc := "(I)I" } : Jvm.MethodName)) ∈ lw_tbl := List.mem_append_right _ (List.mem_append_right _ (List.mem_append_right _ (List.mem_append_right _ (List.mem_append_left _ (List.mem_of_getElem? (l := tables_1_4) (i := 162) rfl)))))
theorem tw_883 : (Jvm.Cond.selects "SwingUnitsModel" ({ cls := "SwingUnitsModel", name := "quote", desc := "(I)I" } : Jvm.MethodName) ({ cls := "SwingUnitsModel", name := "quote", desc := "(I)I" } : Jvm.MethodName)) ∈ lw_tbl := List.mem_append_right _ (List.mem_append_right _ (List.mem_append_right _ (List.mem_append_right _ (List.mem_append_left _ (List.mem_of_getElem? (l := tables_1_4) (i := 163) rfl)))))
theorem tw_884 : (Jvm.Cond.code ({ cls := "SwingUnitsModel", name := "quote", desc := "(I)I" } : Jvm.MethodName) prog_10_method_44_code (2 : Nat) (Option.some Jvm.ClassFile.FieldType.int)) ∈ lw_tbl := List.mem_append_right _ (List.mem_append_right _ (List.mem_append_right _ (List.mem_append_right _ (List.mem_append_left _ (List.mem_of_getElem? (l := tables_1_4) (i := 164) rfl)))))
theorem tw_885 : (Jvm.Cond.methodLink "SwingUnitsModel" (196 : Nat) ({ cls := "SwingUnitsModel", name := "tryQuote", desc := "(IZ)I" } : Jvm.MethodName)) ∈ lw_tbl := List.mem_append_right _ (List.mem_append_right _ (List.mem_append_right _ (List.mem_append_right _ (List.mem_append_left _ (List.mem_of_getElem? (l := tables_1_4) (i := 165) rfl)))))
theorem tw_886 : (Jvm.Cond.privateMethod ({ cls := "SwingUnitsModel", name := "tryQuote", desc := "(IZ)I" } : Jvm.MethodName)) ∈ lw_tbl := List.mem_append_right _ (List.mem_append_right _ (List.mem_append_right _ (List.mem_append_right _ (List.mem_append_left _ (List.mem_of_getElem? (l := tables_1_4) (i := 166) rfl)))))
theorem tw_887 : (Jvm.Cond.instanceMethod ({ cls := "SwingUnitsModel", name := "tryQuote", desc := "(IZ)I" } : Jvm.MethodName)) ∈ lw_tbl := List.mem_append_right _ (List.mem_append_right _ (List.mem_append_right _ (List.mem_append_right _ (List.mem_append_left _ (List.mem_of_getElem? (l := tables_1_4) (i := 167) rfl)))))
theorem tw_888 : (Jvm.Cond.code ({ cls := "SwingUnitsModel", name := "tryQuote", desc := "(IZ)I" } : Jvm.MethodName) prog_10_method_43_code (4 : Nat) (Option.some Jvm.ClassFile.FieldType.int)) ∈ lw_tbl := List.mem_append_right _ (List.mem_append_right _ (List.mem_append_right _ (List.mem_append_right _ (List.mem_append_left _ (List.mem_of_getElem? (l := tables_1_4) (i := 168) rfl)))))
theorem tw_889 : (Jvm.Cond.constantLong "SwingUnitsModel" (194 : Nat) (10000 : Int64)) ∈ lw_tbl := List.mem_append_right _ (List.mem_append_right _ (List.mem_append_right _ (List.mem_append_right _ (List.mem_append_left _ (List.mem_of_getElem? (l := tables_1_4) (i := 169) rfl)))))
theorem tw_890 : (Jvm.Cond.methodLink "SwingUnitsLaw" (44 : Nat) ({ cls := "SwingUnitsModel", name := "trade", desc := "(I)I" } : Jvm.MethodName)) ∈ lw_tbl := List.mem_append_right _ (List.mem_append_right _ (List.mem_append_right _ (List.mem_append_right _ (List.mem_append_left _ (List.mem_of_getElem? (l := tables_1_4) (i := 170) rfl)))))
theorem tw_891 : (Jvm.Cond.instanceMethod ({ cls := "SwingUnitsModel", name := "trade", desc := "(I)I" } : Jvm.MethodName)) ∈ lw_tbl := List.mem_append_right _ (List.mem_append_right _ (List.mem_append_right _ (List.mem_append_right _ (List.mem_append_left _ (List.mem_of_getElem? (l := tables_1_4) (i := 171) rfl)))))
theorem tw_892 : (Jvm.Cond.selects "SwingUnitsModel" ({ cls := "SwingUnitsModel", name := "trade", desc := "(I)I" } : Jvm.MethodName) ({ cls := "SwingUnitsModel", name := "trade", desc := "(I)I" } : Jvm.MethodName)) ∈ lw_tbl := List.mem_append_right _ (List.mem_append_right _ (List.mem_append_right _ (List.mem_append_right _ (List.mem_append_left _ (List.mem_of_getElem? (l := tables_1_4) (i := 172) rfl)))))
theorem tw_893 : (Jvm.Cond.code ({ cls := "SwingUnitsModel", name := "trade", desc := "(I)I" } : Jvm.MethodName) prog_10_method_45_code (4 : Nat) (Option.some Jvm.ClassFile.FieldType.int)) ∈ lw_tbl := List.mem_append_right _ (List.mem_append_right _ (List.mem_append_right _ (List.mem_append_right _ (List.mem_append_left _ (List.mem_of_getElem? (l := tables_1_4) (i := 173) rfl)))))
theorem tw_894 : (Jvm.Cond.constantLong "SwingUnitsModel" (200 : Nat) (-1000 : Int64)) ∈ lw_tbl := List.mem_append_right _ (List.mem_append_right _ (List.mem_append_right _ (List.mem_append_right _ (List.mem_append_left _ (List.mem_of_getElem? (l := tables_1_4) (i := 174) rfl)))))
theorem tw_895 : (Jvm.Cond.methodLink "SwingUnitsLaw" (48 : Nat) ({ cls := "SwingUnitsModel", name := "income", desc := "(I)I" } : Jvm.MethodName)) ∈ lw_tbl := List.mem_append_right _ (List.mem_append_right _ (List.mem_append_right _ (List.mem_append_right _ (List.mem_append_left _ (List.mem_of_getElem? (l := tables_1_4) (i := 175) rfl)))))
theorem tw_896 : (Jvm.Cond.instanceMethod ({ cls := "SwingUnitsModel", name := "income", desc := "(I)I" } : Jvm.MethodName)) ∈ lw_tbl := List.mem_append_right _ (List.mem_append_right _ (List.mem_append_right _ (List.mem_append_right _ (List.mem_append_left _ (List.mem_of_getElem? (l := tables_1_4) (i := 176) rfl)))))
theorem tw_897 : (Jvm.Cond.selects "SwingUnitsModel" ({ cls := "SwingUnitsModel", name := "income", desc := "(I)I" } : Jvm.MethodName) ({ cls := "SwingUnitsModel", name := "income", desc := "(I)I" } : Jvm.MethodName)) ∈ lw_tbl := List.mem_append_right _ (List.mem_append_right _ (List.mem_append_right _ (List.mem_append_right _ (List.mem_append_left _ (List.mem_of_getElem? (l := tables_1_4) (i := 177) rfl)))))
theorem tw_898 : (Jvm.Cond.code ({ cls := "SwingUnitsModel", name := "income", desc := "(I)I" } : Jvm.MethodName) prog_10_method_47_code (2 : Nat) (Option.some Jvm.ClassFile.FieldType.int)) ∈ lw_tbl := List.mem_append_right _ (List.mem_append_right _ (List.mem_append_right _ (List.mem_append_right _ (List.mem_append_left _ (List.mem_of_getElem? (l := tables_1_4) (i := 178) rfl)))))
theorem tw_899 : (Jvm.Cond.methodLink "SwingUnitsModel" (202 : Nat) ({ cls := "SwingUnitsModel", name := "tryIncome", desc := "(IZ)I" } : Jvm.MethodName)) ∈ lw_tbl := List.mem_append_right _ (List.mem_append_right _ (List.mem_append_right _ (List.mem_append_right _ (List.mem_append_left _ (List.mem_of_getElem? (l := tables_1_4) (i := 179) rfl)))))
theorem tw_900 : (Jvm.Cond.privateMethod ({ cls := "SwingUnitsModel", name := "tryIncome", desc := "(IZ)I" } : Jvm.MethodName)) ∈ lw_tbl := List.mem_append_right _ (List.mem_append_right _ (List.mem_append_right _ (List.mem_append_right _ (List.mem_append_left _ (List.mem_of_getElem? (l := tables_1_4) (i := 180) rfl)))))
theorem tw_901 : (Jvm.Cond.instanceMethod ({ cls := "SwingUnitsModel", name := "tryIncome", desc := "(IZ)I" } : Jvm.MethodName)) ∈ lw_tbl := List.mem_append_right _ (List.mem_append_right _ (List.mem_append_right _ (List.mem_append_right _ (List.mem_append_left _ (List.mem_of_getElem? (l := tables_1_4) (i := 181) rfl)))))
theorem tw_902 : (Jvm.Cond.code ({ cls := "SwingUnitsModel", name := "tryIncome", desc := "(IZ)I" } : Jvm.MethodName) prog_10_method_46_code (3 : Nat) (Option.some Jvm.ClassFile.FieldType.int)) ∈ lw_tbl := List.mem_append_right _ (List.mem_append_right _ (List.mem_append_right _ (List.mem_append_right _ (List.mem_append_left _ (List.mem_of_getElem? (l := tables_1_4) (i := 182) rfl)))))
theorem tw_903 : (Jvm.Cond.methodLink "SwingUnitsLaw" (52 : Nat) ({ cls := "SwingUnitsModel", name := "pay", desc := "()I" } : Jvm.MethodName)) ∈ lw_tbl := List.mem_append_right _ (List.mem_append_right _ (List.mem_append_right _ (List.mem_append_right _ (List.mem_append_left _ (List.mem_of_getElem? (l := tables_1_4) (i := 183) rfl)))))
theorem tw_904 : (Jvm.Cond.instanceMethod ({ cls := "SwingUnitsModel", name := "pay", desc := "()I" } : Jvm.MethodName)) ∈ lw_tbl := List.mem_append_right _ (List.mem_append_right _ (List.mem_append_right _ (List.mem_append_right _ (List.mem_append_left _ (List.mem_of_getElem? (l := tables_1_4) (i := 184) rfl)))))
theorem tw_905 : (Jvm.Cond.selects "SwingUnitsModel" ({ cls := "SwingUnitsModel", name := "pay", desc := "()I" } : Jvm.MethodName) ({ cls := "SwingUnitsModel", name := "pay", desc := "()I" } : Jvm.MethodName)) ∈ lw_tbl := List.mem_append_right _ (List.mem_append_right _ (List.mem_append_right _ (List.mem_append_right _ (List.mem_append_left _ (List.mem_of_getElem? (l := tables_1_4) (i := 185) rfl)))))
theorem tw_906 : (Jvm.Cond.code ({ cls := "SwingUnitsModel", name := "pay", desc := "()I" } : Jvm.MethodName) prog_10_method_49_code (1 : Nat) (Option.some Jvm.ClassFile.FieldType.int)) ∈ lw_tbl := List.mem_append_right _ (List.mem_append_right _ (List.mem_append_right _ (List.mem_append_right _ (List.mem_append_left _ (List.mem_of_getElem? (l := tables_1_4) (i := 186) rfl)))))
theorem tw_907 : (Jvm.Cond.methodLink "SwingUnitsModel" (205 : Nat) ({ cls := "SwingUnitsModel", name := "tryPay", desc := "(Z)I" } : Jvm.MethodName)) ∈ lw_tbl := List.mem_append_right _ (List.mem_append_right _ (List.mem_append_right _ (List.mem_append_right _ (List.mem_append_left _ (List.mem_of_getElem? (l := tables_1_4) (i := 187) rfl)))))
theorem tw_908 : (Jvm.Cond.privateMethod ({ cls := "SwingUnitsModel", name := "tryPay", desc := "(Z)I" } : Jvm.MethodName)) ∈ lw_tbl := List.mem_append_right _ (List.mem_append_right _ (List.mem_append_right _ (List.mem_append_right _ (List.mem_append_left _ (List.mem_of_getElem? (l := tables_1_4) (i := 188) rfl)))))
theorem tw_909 : (Jvm.Cond.instanceMethod ({ cls := "SwingUnitsModel", name := "tryPay", desc := "(Z)I" } : Jvm.MethodName)) ∈ lw_tbl := List.mem_append_right _ (List.mem_append_right _ (List.mem_append_right _ (List.mem_append_right _ (List.mem_append_left _ (List.mem_of_getElem? (l := tables_1_4) (i := 189) rfl)))))
theorem tw_910 : (Jvm.Cond.code ({ cls := "SwingUnitsModel", name := "tryPay", desc := "(Z)I" } : Jvm.MethodName) prog_10_method_48_code (13 : Nat) (Option.some Jvm.ClassFile.FieldType.int)) ∈ lw_tbl := List.mem_append_right _ (List.mem_append_right _ (List.mem_append_right _ (List.mem_append_right _ (List.mem_append_left _ (List.mem_of_getElem? (l := tables_1_4) (i := 190) rfl)))))
theorem tw_911 : (Jvm.Cond.methodLink "SwingUnitsLaw" (56 : Nat) ({ cls := "SwingUnitsModel", name := "ofHolder", desc := "(II)I" } : Jvm.MethodName)) ∈ lw_tbl := List.mem_append_right _ (List.mem_append_right _ (List.mem_append_right _ (List.mem_append_right _ (List.mem_append_left _ (List.mem_of_getElem? (l := tables_1_4) (i := 191) rfl)))))
theorem tw_912 : (Jvm.Cond.instanceMethod ({ cls := "SwingUnitsModel", name := "ofHolder", desc := "(II)I" } : Jvm.MethodName)) ∈ lw_tbl := List.mem_append_right _ (List.mem_append_right _ (List.mem_append_right _ (List.mem_append_right _ (List.mem_append_left _ (List.mem_of_getElem? (l := tables_1_4) (i := 192) rfl)))))
theorem tw_913 : (Jvm.Cond.selects "SwingUnitsModel" ({ cls := "SwingUnitsModel", name := "ofHolder", desc := "(II)I" } : Jvm.MethodName) ({ cls := "SwingUnitsModel", name := "ofHolder", desc := "(II)I" } : Jvm.MethodName)) ∈ lw_tbl := List.mem_append_right _ (List.mem_append_right _ (List.mem_append_right _ (List.mem_append_right _ (List.mem_append_left _ (List.mem_of_getElem? (l := tables_1_4) (i := 193) rfl)))))
theorem tw_914 : (Jvm.Cond.code ({ cls := "SwingUnitsModel", name := "ofHolder", desc := "(II)I" } : Jvm.MethodName) prog_10_method_50_code (3 : Nat) (Option.some Jvm.ClassFile.FieldType.int)) ∈ lw_tbl := List.mem_append_right _ (List.mem_append_right _ (List.mem_append_right _ (List.mem_append_right _ (List.mem_append_left _ (List.mem_of_getElem? (l := tables_1_4) (i := 194) rfl)))))
theorem tw_915 : (Jvm.Cond.methodLink "SwingUnitsLaw" (60 : Nat) ({ cls := "SwingUnitsModel", name := "count", desc := "(I)I" } : Jvm.MethodName)) ∈ lw_tbl := List.mem_append_right _ (List.mem_append_right _ (List.mem_append_right _ (List.mem_append_right _ (List.mem_append_left _ (List.mem_of_getElem? (l := tables_1_4) (i := 195) rfl)))))
theorem tw_916 : (Jvm.Cond.instanceMethod ({ cls := "SwingUnitsModel", name := "count", desc := "(I)I" } : Jvm.MethodName)) ∈ lw_tbl := List.mem_append_right _ (List.mem_append_right _ (List.mem_append_right _ (List.mem_append_right _ (List.mem_append_left _ (List.mem_of_getElem? (l := tables_1_4) (i := 196) rfl)))))
theorem tw_917 : (Jvm.Cond.selects "SwingUnitsModel" ({ cls := "SwingUnitsModel", name := "count", desc := "(I)I" } : Jvm.MethodName) ({ cls := "SwingUnitsModel", name := "count", desc := "(I)I" } : Jvm.MethodName)) ∈ lw_tbl := List.mem_append_right _ (List.mem_append_right _ (List.mem_append_right _ (List.mem_append_right _ (List.mem_append_left _ (List.mem_of_getElem? (l := tables_1_4) (i := 197) rfl)))))
theorem tw_918 : (Jvm.Cond.code ({ cls := "SwingUnitsModel", name := "count", desc := "(I)I" } : Jvm.MethodName) prog_10_method_51_code (2 : Nat) (Option.some Jvm.ClassFile.FieldType.int)) ∈ lw_tbl := List.mem_append_right _ (List.mem_append_right _ (List.mem_append_right _ (List.mem_append_right _ (List.mem_append_left _ (List.mem_of_getElem? (l := tables_1_4) (i := 198) rfl)))))
theorem tw_919 : (Jvm.Cond.methodLink "SwingUnitsLaw" (64 : Nat) ({ cls := "SwingUnitsModel", name := "order", desc := "(III)I" } : Jvm.MethodName)) ∈ lw_tbl := List.mem_append_right _ (List.mem_append_right _ (List.mem_append_right _ (List.mem_append_right _ (List.mem_append_left _ (List.mem_of_getElem? (l := tables_1_4) (i := 199) rfl)))))
theorem tw_920 : (Jvm.Cond.instanceMethod ({ cls := "SwingUnitsModel", name := "order", desc := "(III)I" } : Jvm.MethodName)) ∈ lw_tbl := List.mem_append_right _ (List.mem_append_right _ (List.mem_append_right _ (List.mem_append_right _ (List.mem_append_left _ (List.mem_of_getElem? (l := tables_1_4) (i := 200) rfl)))))
theorem tw_921 : (Jvm.Cond.selects "SwingUnitsModel" ({ cls := "SwingUnitsModel", name := "order", desc := "(III)I" } : Jvm.MethodName) ({ cls := "SwingUnitsModel", name := "order", desc := "(III)I" } : Jvm.MethodName)) ∈ lw_tbl := List.mem_append_right _ (List.mem_append_right _ (List.mem_append_right _ (List.mem_append_right _ (List.mem_append_left _ (List.mem_of_getElem? (l := tables_1_4) (i := 201) rfl)))))
theorem tw_922 : (Jvm.Cond.code ({ cls := "SwingUnitsModel", name := "order", desc := "(III)I" } : Jvm.MethodName) prog_10_method_52_code (5 : Nat) (Option.some Jvm.ClassFile.FieldType.int)) ∈ lw_tbl := List.mem_append_right _ (List.mem_append_right _ (List.mem_append_right _ (List.mem_append_right _ (List.mem_append_left _ (List.mem_of_getElem? (l := tables_1_4) (i := 202) rfl)))))
theorem tw_923 : (Jvm.Cond.constantLong "SwingUnitsModel" (211 : Nat) (2 : Int64)) ∈ lw_tbl := List.mem_append_right _ (List.mem_append_right _ (List.mem_append_right _ (List.mem_append_right _ (List.mem_append_left _ (List.mem_of_getElem? (l := tables_1_4) (i := 203) rfl)))))
theorem tw_924 : (Jvm.Cond.methodLink "SwingUnitsLaw" (68 : Nat) ({ cls := "SwingUnitsModel", name := "lastDay", desc := "(I)I" } : Jvm.MethodName)) ∈ lw_tbl := List.mem_append_right _ (List.mem_append_right _ (List.mem_append_right _ (List.mem_append_right _ (List.mem_append_left _ (List.mem_of_getElem? (l := tables_1_4) (i := 204) rfl)))))
theorem tw_925 : (Jvm.Cond.instanceMethod ({ cls := "SwingUnitsModel", name := "lastDay", desc := "(I)I" } : Jvm.MethodName)) ∈ lw_tbl := List.mem_append_right _ (List.mem_append_right _ (List.mem_append_right _ (List.mem_append_right _ (List.mem_append_left _ (List.mem_of_getElem? (l := tables_1_4) (i := 205) rfl)))))
theorem tw_926 : (Jvm.Cond.selects "SwingUnitsModel" ({ cls := "SwingUnitsModel", name := "lastDay", desc := "(I)I" } : Jvm.MethodName) ({ cls := "SwingUnitsModel", name := "lastDay", desc := "(I)I" } : Jvm.MethodName)) ∈ lw_tbl := List.mem_append_right _ (List.mem_append_right _ (List.mem_append_right _ (List.mem_append_right _ (List.mem_append_left _ (List.mem_of_getElem? (l := tables_1_4) (i := 206) rfl)))))
theorem tw_927 : (Jvm.Cond.code ({ cls := "SwingUnitsModel", name := "lastDay", desc := "(I)I" } : Jvm.MethodName) prog_10_method_53_code (2 : Nat) (Option.some Jvm.ClassFile.FieldType.int)) ∈ lw_tbl := List.mem_append_right _ (List.mem_append_right _ (List.mem_append_right _ (List.mem_append_right _ (List.mem_append_left _ (List.mem_of_getElem? (l := tables_1_4) (i := 207) rfl)))))
theorem tw_928 : (Jvm.Cond.methodLink "SwingUnitsLaw" (73 : Nat) ({ cls := "SwingUnitsModel", name := "price", desc := "(I)J" } : Jvm.MethodName)) ∈ lw_tbl := List.mem_append_right _ (List.mem_append_right _ (List.mem_append_right _ (List.mem_append_right _ (List.mem_append_left _ (List.mem_of_getElem? (l := tables_1_4) (i := 208) rfl)))))
theorem tw_929 : (Jvm.Cond.instanceMethod ({ cls := "SwingUnitsModel", name := "price", desc := "(I)J" } : Jvm.MethodName)) ∈ lw_tbl := List.mem_append_right _ (List.mem_append_right _ (List.mem_append_right _ (List.mem_append_right _ (List.mem_append_left _ (List.mem_of_getElem? (l := tables_1_4) (i := 209) rfl)))))
theorem tw_930 : (Jvm.Cond.selects "SwingUnitsModel" ({ cls := "SwingUnitsModel", name := "price", desc := "(I)J" } : Jvm.MethodName) ({ cls := "SwingUnitsModel", name := "price", desc := "(I)J" } : Jvm.MethodName)) ∈ lw_tbl := List.mem_append_right _ (List.mem_append_right _ (List.mem_append_right _ (List.mem_append_right _ (List.mem_append_left _ (List.mem_of_getElem? (l := tables_1_4) (i := 210) rfl)))))
theorem tw_931 : (Jvm.Cond.code ({ cls := "SwingUnitsModel", name := "price", desc := "(I)J" } : Jvm.MethodName) prog_10_method_54_code (2 : Nat) (Option.some Jvm.ClassFile.FieldType.long)) ∈ lw_tbl := List.mem_append_right _ (List.mem_append_right _ (List.mem_append_right _ (List.mem_append_right _ (List.mem_append_left _ (List.mem_of_getElem? (l := tables_1_4) (i := 211) rfl)))))
theorem tw_932 : (Jvm.Cond.constantLong "SwingUnitsModel" (213 : Nat) (-2 : Int64)) ∈ lw_tbl := List.mem_append_right _ (List.mem_append_right _ (List.mem_append_right _ (List.mem_append_right _ (List.mem_append_left _ (List.mem_of_getElem? (l := tables_1_4) (i := 212) rfl)))))
theorem tw_933 : (Jvm.Cond.methodLink "SwingUnitsLaw" (77 : Nat) ({ cls := "SwingUnitsModel", name := "exitIn", desc := "(I)I" } : Jvm.MethodName)) ∈ lw_tbl := List.mem_append_right _ (List.mem_append_right _ (List.mem_append_right _ (List.mem_append_right _ (List.mem_append_left _ (List.mem_of_getElem? (l := tables_1_4) (i := 213) rfl)))))
theorem tw_934 : (Jvm.Cond.instanceMethod ({ cls := "SwingUnitsModel", name := "exitIn", desc := "(I)I" } : Jvm.MethodName)) ∈ lw_tbl := List.mem_append_right _ (List.mem_append_right _ (List.mem_append_right _ (List.mem_append_right _ (List.mem_append_left _ (List.mem_of_getElem? (l := tables_1_4) (i := 214) rfl)))))
theorem tw_935 : (Jvm.Cond.selects "SwingUnitsModel" ({ cls := "SwingUnitsModel", name := "exitIn", desc := "(I)I" } : Jvm.MethodName) ({ cls := "SwingUnitsModel", name := "exitIn", desc := "(I)I" } : Jvm.MethodName)) ∈ lw_tbl := List.mem_append_right _ (List.mem_append_right _ (List.mem_append_right _ (List.mem_append_right _ (List.mem_append_left _ (List.mem_of_getElem? (l := tables_1_4) (i := 215) rfl)))))
theorem tw_936 : (Jvm.Cond.code ({ cls := "SwingUnitsModel", name := "exitIn", desc := "(I)I" } : Jvm.MethodName) prog_10_method_55_code (4 : Nat) (Option.some Jvm.ClassFile.FieldType.int)) ∈ lw_tbl := List.mem_append_right _ (List.mem_append_right _ (List.mem_append_right _ (List.mem_append_right _ (List.mem_append_left _ (List.mem_of_getElem? (l := tables_1_4) (i := 216) rfl)))))
theorem tw_937 : (Jvm.Cond.methodLink "SwingUnitsModel" (215 : Nat) ({ cls := "SwingUnitsModel", name := "layAside", desc := "()V" } : Jvm.MethodName)) ∈ lw_tbl := List.mem_append_right _ (List.mem_append_right _ (List.mem_append_right _ (List.mem_append_right _ (List.mem_append_left _ (List.mem_of_getElem? (l := tables_1_4) (i := 217) rfl)))))
theorem tw_938 : (Jvm.Cond.privateMethod ({ cls := "SwingUnitsModel", name := "layAside", desc := "()V" } : Jvm.MethodName)) ∈ lw_tbl := List.mem_append_right _ (List.mem_append_right _ (List.mem_append_right _ (List.mem_append_right _ (List.mem_append_left _ (List.mem_of_getElem? (l := tables_1_4) (i := 218) rfl)))))
theorem tw_939 : (Jvm.Cond.instanceMethod ({ cls := "SwingUnitsModel", name := "layAside", desc := "()V" } : Jvm.MethodName)) ∈ lw_tbl := List.mem_append_right _ (List.mem_append_right _ (List.mem_append_right _ (List.mem_append_right _ (List.mem_append_left _ (List.mem_of_getElem? (l := tables_1_4) (i := 219) rfl)))))
theorem tw_940 : (Jvm.Cond.code ({ cls := "SwingUnitsModel", name := "layAside", desc := "()V" } : Jvm.MethodName) prog_10_method_10_code (2 : Nat) (Option.none : Option Jvm.ClassFile.FieldType)) ∈ lw_tbl := List.mem_append_right _ (List.mem_append_right _ (List.mem_append_right _ (List.mem_append_right _ (List.mem_append_left _ (List.mem_of_getElem? (l := tables_1_4) (i := 220) rfl)))))
theorem tw_941 : (Jvm.Cond.methodLink "SwingUnitsModel" (218 : Nat) ({ cls := "SwingUnitsModel", name := "layBack", desc := "()V" } : Jvm.MethodName)) ∈ lw_tbl := List.mem_append_right _ (List.mem_append_right _ (List.mem_append_right _ (List.mem_append_right _ (List.mem_append_left _ (List.mem_of_getElem? (l := tables_1_4) (i := 221) rfl)))))
theorem tw_942 : (Jvm.Cond.privateMethod ({ cls := "SwingUnitsModel", name := "layBack", desc := "()V" } : Jvm.MethodName)) ∈ lw_tbl := List.mem_append_right _ (List.mem_append_right _ (List.mem_append_right _ (List.mem_append_right _ (List.mem_append_left _ (List.mem_of_getElem? (l := tables_1_4) (i := 222) rfl)))))
theorem tw_943 : (Jvm.Cond.instanceMethod ({ cls := "SwingUnitsModel", name := "layBack", desc := "()V" } : Jvm.MethodName)) ∈ lw_tbl := List.mem_append_right _ (List.mem_append_right _ (List.mem_append_right _ (List.mem_append_right _ (List.mem_append_left _ (List.mem_of_getElem? (l := tables_1_4) (i := 223) rfl)))))
theorem tw_944 : (Jvm.Cond.code ({ cls := "SwingUnitsModel", name := "layBack", desc := "()V" } : Jvm.MethodName) prog_10_method_11_code (2 : Nat) (Option.none : Option Jvm.ClassFile.FieldType)) ∈ lw_tbl := List.mem_append_right _ (List.mem_append_right _ (List.mem_append_right _ (List.mem_append_right _ (List.mem_append_left _ (List.mem_of_getElem? (l := tables_1_4) (i := 224) rfl)))))
theorem tw_945 : (Jvm.Cond.methodLink "SwingUnitsLaw" (81 : Nat) ({ cls := "SwingUnitsModel", name := "fairSwing", desc := "()I" } : Jvm.MethodName)) ∈ lw_tbl := List.mem_append_right _ (List.mem_append_right _ (List.mem_append_right _ (List.mem_append_right _ (List.mem_append_left _ (List.mem_of_getElem? (l := tables_1_4) (i := 225) rfl)))))
theorem tw_946 : (Jvm.Cond.instanceMethod ({ cls := "SwingUnitsModel", name := "fairSwing", desc := "()I" } : Jvm.MethodName)) ∈ lw_tbl := List.mem_append_right _ (List.mem_append_right _ (List.mem_append_right _ (List.mem_append_right _ (List.mem_append_left _ (List.mem_of_getElem? (l := tables_1_4) (i := 226) rfl)))))
theorem tw_947 : (Jvm.Cond.selects "SwingUnitsModel" ({ cls := "SwingUnitsModel", name := "fairSwing", desc := "()I" } : Jvm.MethodName) ({ cls := "SwingUnitsModel", name := "fairSwing", desc := "()I" } : Jvm.MethodName)) ∈ lw_tbl := List.mem_append_right _ (List.mem_append_right _ (List.mem_append_right _ (List.mem_append_right _ (List.mem_append_left _ (List.mem_of_getElem? (l := tables_1_4) (i := 227) rfl)))))
theorem tw_948 : (Jvm.Cond.code ({ cls := "SwingUnitsModel", name := "fairSwing", desc := "()I" } : Jvm.MethodName) prog_10_method_56_code (5 : Nat) (Option.some Jvm.ClassFile.FieldType.int)) ∈ lw_tbl := List.mem_append_right _ (List.mem_append_right _ (List.mem_append_right _ (List.mem_append_right _ (List.mem_append_left _ (List.mem_of_getElem? (l := tables_1_4) (i := 228) rfl)))))
theorem tw_949 : (Jvm.Cond.methodLink "SwingUnitsLaw" (88 : Nat) ({ cls := "SwingUnitsModel", name := "put", desc := "(J)I" } : Jvm.MethodName)) ∈ lw_tbl := List.mem_append_right _ (List.mem_append_right _ (List.mem_append_right _ (List.mem_append_right _ (List.mem_append_left _ (List.mem_of_getElem? (l := tables_1_4) (i := 229) rfl)))))
theorem tw_950 : (Jvm.Cond.instanceMethod ({ cls := "SwingUnitsModel", name := "put", desc := "(J)I" } : Jvm.MethodName)) ∈ lw_tbl := List.mem_append_right _ (List.mem_append_right _ (List.mem_append_right _ (List.mem_append_right _ (List.mem_append_left _ (List.mem_of_getElem? (l := tables_1_4) (i := 230) rfl)))))
theorem tw_951 : (Jvm.Cond.selects "SwingUnitsModel" ({ cls := "SwingUnitsModel", name := "put", desc := "(J)I" } : Jvm.MethodName) ({ cls := "SwingUnitsModel", name := "put", desc := "(J)I" } : Jvm.MethodName)) ∈ lw_tbl := List.mem_append_right _ (List.mem_append_right _ (List.mem_append_right _ (List.mem_append_right _ (List.mem_append_left _ (List.mem_of_getElem? (l := tables_1_4) (i := 231) rfl)))))
theorem tw_952 : (Jvm.Cond.code ({ cls := "SwingUnitsModel", name := "put", desc := "(J)I" } : Jvm.MethodName) prog_10_method_57_code (7 : Nat) (Option.some Jvm.ClassFile.FieldType.int)) ∈ lw_tbl := List.mem_append_right _ (List.mem_append_right _ (List.mem_append_right _ (List.mem_append_right _ (List.mem_append_left _ (List.mem_of_getElem? (l := tables_1_4) (i := 232) rfl)))))
theorem tw_953 : (Jvm.Cond.constantLong "SwingUnitsModel" (221 : Nat) (255 : Int64)) ∈ lw_tbl := List.mem_append_right _ (List.mem_append_right _ (List.mem_append_right _ (List.mem_append_right _ (List.mem_append_left _ (List.mem_of_getElem? (l := tables_1_4) (i := 233) rfl)))))
theorem tw_954 : (Jvm.Cond.constantLong "SwingUnitsModel" (223 : Nat) (33 : Int64)) ∈ lw_tbl := List.mem_append_right _ (List.mem_append_right _ (List.mem_append_right _ (List.mem_append_right _ (List.mem_append_left _ (List.mem_of_getElem? (l := tables_1_4) (i := 234) rfl)))))
theorem tw_955 : (Jvm.Cond.constantLong "SwingUnitsModel" (225 : Nat) (126 : Int64)) ∈ lw_tbl := List.mem_append_right _ (List.mem_append_right _ (List.mem_append_right _ (List.mem_append_right _ (List.mem_append_left _ (List.mem_of_getElem? (l := tables_1_4) (i := 235) rfl)))))
theorem tw_956 : (Jvm.Cond.methodLink "SwingUnitsLaw" (92 : Nat) ({ cls := "SwingUnitsModel", name := "wipe", desc := "()I" } : Jvm.MethodName)) ∈ lw_tbl := List.mem_append_right _ (List.mem_append_right _ (List.mem_append_right _ (List.mem_append_right _ (List.mem_append_left _ (List.mem_of_getElem? (l := tables_1_4) (i := 236) rfl)))))
theorem tw_957 : (Jvm.Cond.instanceMethod ({ cls := "SwingUnitsModel", name := "wipe", desc := "()I" } : Jvm.MethodName)) ∈ lw_tbl := List.mem_append_right _ (List.mem_append_right _ (List.mem_append_right _ (List.mem_append_right _ (List.mem_append_left _ (List.mem_of_getElem? (l := tables_1_4) (i := 237) rfl)))))
theorem tw_958 : (Jvm.Cond.selects "SwingUnitsModel" ({ cls := "SwingUnitsModel", name := "wipe", desc := "()I" } : Jvm.MethodName) ({ cls := "SwingUnitsModel", name := "wipe", desc := "()I" } : Jvm.MethodName)) ∈ lw_tbl := List.mem_append_right _ (List.mem_append_right _ (List.mem_append_right _ (List.mem_append_right _ (List.mem_append_left _ (List.mem_of_getElem? (l := tables_1_4) (i := 238) rfl)))))
theorem tw_959 : (Jvm.Cond.code ({ cls := "SwingUnitsModel", name := "wipe", desc := "()I" } : Jvm.MethodName) prog_10_method_58_code (2 : Nat) (Option.some Jvm.ClassFile.FieldType.int)) ∈ lw_tbl := List.mem_append_right _ (List.mem_append_right _ (List.mem_append_right _ (List.mem_append_right _ (List.mem_append_left _ (List.mem_of_getElem? (l := tables_1_4) (i := 239) rfl)))))
theorem tw_960 : (Jvm.Cond.methodLink "SwingUnitsLaw" (96 : Nat) ({ cls := "SwingUnitsModel", name := "fault", desc := "()I" } : Jvm.MethodName)) ∈ lw_tbl := List.mem_append_right _ (List.mem_append_right _ (List.mem_append_right _ (List.mem_append_right _ (List.mem_append_right _ (List.mem_of_getElem? (l := tables_1_5) (i := 0) rfl)))))
theorem tw_961 : (Jvm.Cond.instanceMethod ({ cls := "SwingUnitsModel", name := "fault", desc := "()I" } : Jvm.MethodName)) ∈ lw_tbl := List.mem_append_right _ (List.mem_append_right _ (List.mem_append_right _ (List.mem_append_right _ (List.mem_append_right _ (List.mem_of_getElem? (l := tables_1_5) (i := 1) rfl)))))
theorem tw_962 : (Jvm.Cond.selects "SwingUnitsModel" ({ cls := "SwingUnitsModel", name := "fault", desc := "()I" } : Jvm.MethodName) ({ cls := "SwingUnitsModel", name := "fault", desc := "()I" } : Jvm.MethodName)) ∈ lw_tbl := List.mem_append_right _ (List.mem_append_right _ (List.mem_append_right _ (List.mem_append_right _ (List.mem_append_right _ (List.mem_of_getElem? (l := tables_1_5) (i := 2) rfl)))))
theorem tw_963 : (Jvm.Cond.code ({ cls := "SwingUnitsModel", name := "fault", desc := "()I" } : Jvm.MethodName) prog_10_method_65_code (1 : Nat) (Option.some Jvm.ClassFile.FieldType.int)) ∈ lw_tbl := List.mem_append_right _ (List.mem_append_right _ (List.mem_append_right _ (List.mem_append_right _ (List.mem_append_right _ (List.mem_of_getElem? (l := tables_1_5) (i := 3) rfl)))))
theorem tw_964 : (Jvm.Cond.methodLink "SwingUnitsModel" (260 : Nat) ({ cls := "SwingUnitsModel", name := "takeOrder", desc := "()V" } : Jvm.MethodName)) ∈ lw_tbl := List.mem_append_right _ (List.mem_append_right _ (List.mem_append_right _ (List.mem_append_right _ (List.mem_append_right _ (List.mem_of_getElem? (l := tables_1_5) (i := 4) rfl)))))
theorem tw_965 : (Jvm.Cond.privateMethod ({ cls := "SwingUnitsModel", name := "takeOrder", desc := "()V" } : Jvm.MethodName)) ∈ lw_tbl := List.mem_append_right _ (List.mem_append_right _ (List.mem_append_right _ (List.mem_append_right _ (List.mem_append_right _ (List.mem_of_getElem? (l := tables_1_5) (i := 5) rfl)))))
theorem tw_966 : (Jvm.Cond.instanceMethod ({ cls := "SwingUnitsModel", name := "takeOrder", desc := "()V" } : Jvm.MethodName)) ∈ lw_tbl := List.mem_append_right _ (List.mem_append_right _ (List.mem_append_right _ (List.mem_append_right _ (List.mem_append_right _ (List.mem_of_getElem? (l := tables_1_5) (i := 6) rfl)))))
theorem tw_967 : (Jvm.Cond.code ({ cls := "SwingUnitsModel", name := "takeOrder", desc := "()V" } : Jvm.MethodName) prog_10_method_64_code (2 : Nat) (Option.none : Option Jvm.ClassFile.FieldType)) ∈ lw_tbl := List.mem_append_right _ (List.mem_append_right _ (List.mem_append_right _ (List.mem_append_right _ (List.mem_append_right _ (List.mem_of_getElem? (l := tables_1_5) (i := 7) rfl)))))
theorem tw_968 : (Jvm.Cond.methodLink "SwingUnitsModel" (234 : Nat) ({ cls := "SwingUnitsModel", name := "next", desc := "()I" } : Jvm.MethodName)) ∈ lw_tbl := List.mem_append_right _ (List.mem_append_right _ (List.mem_append_right _ (List.mem_append_right _ (List.mem_append_right _ (List.mem_of_getElem? (l := tables_1_5) (i := 8) rfl)))))
theorem tw_969 : (Jvm.Cond.privateMethod ({ cls := "SwingUnitsModel", name := "next", desc := "()I" } : Jvm.MethodName)) ∈ lw_tbl := List.mem_append_right _ (List.mem_append_right _ (List.mem_append_right _ (List.mem_append_right _ (List.mem_append_right _ (List.mem_of_getElem? (l := tables_1_5) (i := 9) rfl)))))
theorem tw_970 : (Jvm.Cond.instanceMethod ({ cls := "SwingUnitsModel", name := "next", desc := "()I" } : Jvm.MethodName)) ∈ lw_tbl := List.mem_append_right _ (List.mem_append_right _ (List.mem_append_right _ (List.mem_append_right _ (List.mem_append_right _ (List.mem_of_getElem? (l := tables_1_5) (i := 10) rfl)))))
theorem tw_971 : (Jvm.Cond.code ({ cls := "SwingUnitsModel", name := "next", desc := "()I" } : Jvm.MethodName) prog_10_method_59_code (1 : Nat) (Option.some Jvm.ClassFile.FieldType.int)) ∈ lw_tbl := List.mem_append_right _ (List.mem_append_right _ (List.mem_append_right _ (List.mem_append_right _ (List.mem_append_right _ (List.mem_of_getElem? (l := tables_1_5) (i := 11) rfl)))))
theorem tw_972 : (Jvm.Cond.methodLink "SwingUnitsModel" (257 : Nat) ({ cls := "SwingUnitsModel", name := "takeOrdering", desc := "()V" } : Jvm.MethodName)) ∈ lw_tbl := List.mem_append_right _ (List.mem_append_right _ (List.mem_append_right _ (List.mem_append_right _ (List.mem_append_right _ (List.mem_of_getElem? (l := tables_1_5) (i := 12) rfl)))))
theorem tw_973 : (Jvm.Cond.privateMethod ({ cls := "SwingUnitsModel", name := "takeOrdering", desc := "()V" } : Jvm.MethodName)) ∈ lw_tbl := List.mem_append_right _ (List.mem_append_right _ (List.mem_append_right _ (List.mem_append_right _ (List.mem_append_right _ (List.mem_of_getElem? (l := tables_1_5) (i := 13) rfl)))))
theorem tw_974 : (Jvm.Cond.instanceMethod ({ cls := "SwingUnitsModel", name := "takeOrdering", desc := "()V" } : Jvm.MethodName)) ∈ lw_tbl := List.mem_append_right _ (List.mem_append_right _ (List.mem_append_right _ (List.mem_append_right _ (List.mem_append_right _ (List.mem_of_getElem? (l := tables_1_5) (i := 14) rfl)))))
theorem tw_975 : (Jvm.Cond.code ({ cls := "SwingUnitsModel", name := "takeOrdering", desc := "()V" } : Jvm.MethodName) prog_10_method_63_code (1 : Nat) (Option.none : Option Jvm.ClassFile.FieldType)) ∈ lw_tbl := List.mem_append_right _ (List.mem_append_right _ (List.mem_append_right _ (List.mem_append_right _ (List.mem_append_right _ (List.mem_of_getElem? (l := tables_1_5) (i := 15) rfl)))))
theorem tw_976 : (Jvm.Cond.methodLink "SwingUnitsModel" (246 : Nat) ({ cls := "SwingUnitsModel", name := "takeHolder", desc := "()V" } : Jvm.MethodName)) ∈ lw_tbl := List.mem_append_right _ (List.mem_append_right _ (List.mem_append_right _ (List.mem_append_right _ (List.mem_append_right _ (List.mem_of_getElem? (l := tables_1_5) (i := 16) rfl)))))
theorem tw_977 : (Jvm.Cond.privateMethod ({ cls := "SwingUnitsModel", name := "takeHolder", desc := "()V" } : Jvm.MethodName)) ∈ lw_tbl := List.mem_append_right _ (List.mem_append_right _ (List.mem_append_right _ (List.mem_append_right _ (List.mem_append_right _ (List.mem_of_getElem? (l := tables_1_5) (i := 17) rfl)))))
theorem tw_978 : (Jvm.Cond.instanceMethod ({ cls := "SwingUnitsModel", name := "takeHolder", desc := "()V" } : Jvm.MethodName)) ∈ lw_tbl := List.mem_append_right _ (List.mem_append_right _ (List.mem_append_right _ (List.mem_append_right _ (List.mem_append_right _ (List.mem_of_getElem? (l := tables_1_5) (i := 18) rfl)))))
theorem tw_979 : (Jvm.Cond.code ({ cls := "SwingUnitsModel", name := "takeHolder", desc := "()V" } : Jvm.MethodName) prog_10_method_62_code (1 : Nat) (Option.none : Option Jvm.ClassFile.FieldType)) ∈ lw_tbl := List.mem_append_right _ (List.mem_append_right _ (List.mem_append_right _ (List.mem_append_right _ (List.mem_append_right _ (List.mem_of_getElem? (l := tables_1_5) (i := 19) rfl)))))
theorem tw_980 : (Jvm.Cond.constantLong "SwingUnitsModel" (237 : Nat) (48 : Int64)) ∈ lw_tbl := List.mem_append_right _ (List.mem_append_right _ (List.mem_append_right _ (List.mem_append_right _ (List.mem_append_right _ (List.mem_of_getElem? (l := tables_1_5) (i := 20) rfl)))))
theorem tw_981 : (Jvm.Cond.constantLong "SwingUnitsModel" (244 : Nat) (53 : Int64)) ∈ lw_tbl := List.mem_append_right _ (List.mem_append_right _ (List.mem_append_right _ (List.mem_append_right _ (List.mem_append_right _ (List.mem_of_getElem? (l := tables_1_5) (i := 21) rfl)))))
theorem tw_982 : (Jvm.Cond.methodLink "SwingUnitsModel" (249 : Nat) ({ cls := "SwingUnitsModel", name := "takeSign", desc := "(I)V" } : Jvm.MethodName)) ∈ lw_tbl := List.mem_append_right _ (List.mem_append_right _ (List.mem_append_right _ (List.mem_append_right _ (List.mem_append_right _ (List.mem_of_getElem? (l := tables_1_5) (i := 22) rfl)))))
theorem tw_983 : (Jvm.Cond.privateMethod ({ cls := "SwingUnitsModel", name := "takeSign", desc := "(I)V" } : Jvm.MethodName)) ∈ lw_tbl := List.mem_append_right _ (List.mem_append_right _ (List.mem_append_right _ (List.mem_append_right _ (List.mem_append_right _ (List.mem_of_getElem? (l := tables_1_5) (i := 23) rfl)))))
theorem tw_984 : (Jvm.Cond.instanceMethod ({ cls := "SwingUnitsModel", name := "takeSign", desc := "(I)V" } : Jvm.MethodName)) ∈ lw_tbl := List.mem_append_right _ (List.mem_append_right _ (List.mem_append_right _ (List.mem_append_right _ (List.mem_append_right _ (List.mem_of_getElem? (l := tables_1_5) (i := 24) rfl)))))
theorem tw_985 : (Jvm.Cond.code ({ cls := "SwingUnitsModel", name := "takeSign", desc := "(I)V" } : Jvm.MethodName) prog_10_method_60_code (2 : Nat) (Option.none : Option Jvm.ClassFile.FieldType)) ∈ lw_tbl := List.mem_append_right _ (List.mem_append_right _ (List.mem_append_right _ (List.mem_append_right _ (List.mem_append_right _ (List.mem_of_getElem? (l := tables_1_5) (i := 25) rfl)))))
theorem tw_986 : (Jvm.Cond.constant "SwingUnitsModel" (253 : Nat) (1000000 : Int32)) ∈ lw_tbl := List.mem_append_right _ (List.mem_append_right _ (List.mem_append_right _ (List.mem_append_right _ (List.mem_append_right _ (List.mem_of_getElem? (l := tables_1_5) (i := 26) rfl)))))
theorem tw_987 : (Jvm.Cond.methodLink "SwingUnitsModel" (254 : Nat) ({ cls := "SwingUnitsModel", name := "takeNumber", desc := "(II)V" } : Jvm.MethodName)) ∈ lw_tbl := List.mem_append_right _ (List.mem_append_right _ (List.mem_append_right _ (List.mem_append_right _ (List.mem_append_right _ (List.mem_of_getElem? (l := tables_1_5) (i := 27) rfl)))))
theorem tw_988 : (Jvm.Cond.privateMethod ({ cls := "SwingUnitsModel", name := "takeNumber", desc := "(II)V" } : Jvm.MethodName)) ∈ lw_tbl := List.mem_append_right _ (List.mem_append_right _ (List.mem_append_right _ (List.mem_append_right _ (List.mem_append_right _ (List.mem_of_getElem? (l := tables_1_5) (i := 28) rfl)))))
theorem tw_989 : (Jvm.Cond.instanceMethod ({ cls := "SwingUnitsModel", name := "takeNumber", desc := "(II)V" } : Jvm.MethodName)) ∈ lw_tbl := List.mem_append_right _ (List.mem_append_right _ (List.mem_append_right _ (List.mem_append_right _ (List.mem_append_right _ (List.mem_of_getElem? (l := tables_1_5) (i := 29) rfl)))))
theorem tw_990 : (Jvm.Cond.code ({ cls := "SwingUnitsModel", name := "takeNumber", desc := "(II)V" } : Jvm.MethodName) prog_10_method_61_code (4 : Nat) (Option.none : Option Jvm.ClassFile.FieldType)) ∈ lw_tbl := List.mem_append_right _ (List.mem_append_right _ (List.mem_append_right _ (List.mem_append_right _ (List.mem_append_right _ (List.mem_of_getElem? (l := tables_1_5) (i := 30) rfl)))))
theorem tw_991 : (Jvm.Cond.constantLong "SwingUnitsModel" (239 : Nat) (57 : Int64)) ∈ lw_tbl := List.mem_append_right _ (List.mem_append_right _ (List.mem_append_right _ (List.mem_append_right _ (List.mem_append_right _ (List.mem_of_getElem? (l := tables_1_5) (i := 31) rfl)))))
theorem tw_992 : (Jvm.Cond.methodLink "SwingUnitsLaw" (100 : Nat) ({ cls := "SwingUnitsModel", name := "carryOut", desc := "()I" } : Jvm.MethodName)) ∈ lw_tbl := List.mem_append_right _ (List.mem_append_right _ (List.mem_append_right _ (List.mem_append_right _ (List.mem_append_right _ (List.mem_of_getElem? (l := tables_1_5) (i := 32) rfl)))))
theorem tw_993 : (Jvm.Cond.instanceMethod ({ cls := "SwingUnitsModel", name := "carryOut", desc := "()I" } : Jvm.MethodName)) ∈ lw_tbl := List.mem_append_right _ (List.mem_append_right _ (List.mem_append_right _ (List.mem_append_right _ (List.mem_append_right _ (List.mem_of_getElem? (l := tables_1_5) (i := 33) rfl)))))
theorem tw_994 : (Jvm.Cond.selects "SwingUnitsModel" ({ cls := "SwingUnitsModel", name := "carryOut", desc := "()I" } : Jvm.MethodName) ({ cls := "SwingUnitsModel", name := "carryOut", desc := "()I" } : Jvm.MethodName)) ∈ lw_tbl := List.mem_append_right _ (List.mem_append_right _ (List.mem_append_right _ (List.mem_append_right _ (List.mem_append_right _ (List.mem_of_getElem? (l := tables_1_5) (i := 34) rfl)))))
theorem tw_995 : (Jvm.Cond.code ({ cls := "SwingUnitsModel", name := "carryOut", desc := "()I" } : Jvm.MethodName) prog_10_method_67_code (2 : Nat) (Option.some Jvm.ClassFile.FieldType.int)) ∈ lw_tbl := List.mem_append_right _ (List.mem_append_right _ (List.mem_append_right _ (List.mem_append_right _ (List.mem_append_right _ (List.mem_of_getElem? (l := tables_1_5) (i := 35) rfl)))))
theorem tw_996 : (Jvm.Cond.methodLink "SwingUnitsModel" (263 : Nat) ({ cls := "SwingUnitsModel", name := "fault", desc := "()I" } : Jvm.MethodName)) ∈ lw_tbl := List.mem_append_right _ (List.mem_append_right _ (List.mem_append_right _ (List.mem_append_right _ (List.mem_append_right _ (List.mem_of_getElem? (l := tables_1_5) (i := 36) rfl)))))
theorem tw_997 : (Jvm.Cond.methodLink "SwingUnitsModel" (266 : Nat) ({ cls := "SwingUnitsModel", name := "carry", desc := "(I)I" } : Jvm.MethodName)) ∈ lw_tbl := List.mem_append_right _ (List.mem_append_right _ (List.mem_append_right _ (List.mem_append_right _ (List.mem_append_right _ (List.mem_of_getElem? (l := tables_1_5) (i := 37) rfl)))))
theorem tw_998 : (Jvm.Cond.privateMethod ({ cls := "SwingUnitsModel", name := "carry", desc := "(I)I" } : Jvm.MethodName)) ∈ lw_tbl := List.mem_append_right _ (List.mem_append_right _ (List.mem_append_right _ (List.mem_append_right _ (List.mem_append_right _ (List.mem_of_getElem? (l := tables_1_5) (i := 38) rfl)))))
theorem tw_999 : (Jvm.Cond.instanceMethod ({ cls := "SwingUnitsModel", name := "carry", desc := "(I)I" } : Jvm.MethodName)) ∈ lw_tbl := List.mem_append_right _ (List.mem_append_right _ (List.mem_append_right _ (List.mem_append_right _ (List.mem_append_right _ (List.mem_of_getElem? (l := tables_1_5) (i := 39) rfl)))))
theorem tw_1000 : (Jvm.Cond.code ({ cls := "SwingUnitsModel", name := "carry", desc := "(I)I" } : Jvm.MethodName) prog_10_method_66_code (3 : Nat) (Option.some Jvm.ClassFile.FieldType.int)) ∈ lw_tbl := List.mem_append_right _ (List.mem_append_right _ (List.mem_append_right _ (List.mem_append_right _ (List.mem_append_right _ (List.mem_of_getElem? (l := tables_1_5) (i := 40) rfl)))))
theorem tw_1001 : (Jvm.Cond.methodLink "SwingUnitsLaw" (104 : Nat) ({ cls := "SwingUnitsModel", name := "undo", desc := "()I" } : Jvm.MethodName)) ∈ lw_tbl := List.mem_append_right _ (List.mem_append_right _ (List.mem_append_right _ (List.mem_append_right _ (List.mem_append_right _ (List.mem_of_getElem? (l := tables_1_5) (i := 41) rfl)))))
theorem tw_1002 : (Jvm.Cond.instanceMethod ({ cls := "SwingUnitsModel", name := "undo", desc := "()I" } : Jvm.MethodName)) ∈ lw_tbl := List.mem_append_right _ (List.mem_append_right _ (List.mem_append_right _ (List.mem_append_right _ (List.mem_append_right _ (List.mem_of_getElem? (l := tables_1_5) (i := 42) rfl)))))
theorem tw_1003 : (Jvm.Cond.selects "SwingUnitsModel" ({ cls := "SwingUnitsModel", name := "undo", desc := "()I" } : Jvm.MethodName) ({ cls := "SwingUnitsModel", name := "undo", desc := "()I" } : Jvm.MethodName)) ∈ lw_tbl := List.mem_append_right _ (List.mem_append_right _ (List.mem_append_right _ (List.mem_append_right _ (List.mem_append_right _ (List.mem_of_getElem? (l := tables_1_5) (i := 43) rfl)))))
theorem tw_1004 : (Jvm.Cond.code ({ cls := "SwingUnitsModel", name := "undo", desc := "()I" } : Jvm.MethodName) prog_10_method_68_code (3 : Nat) (Option.some Jvm.ClassFile.FieldType.int)) ∈ lw_tbl := List.mem_append_right _ (List.mem_append_right _ (List.mem_append_right _ (List.mem_append_right _ (List.mem_append_right _ (List.mem_of_getElem? (l := tables_1_5) (i := 44) rfl)))))
theorem tw_1005 : (Jvm.Cond.methodLink "SwingUnitsLaw" (108 : Nat) ({ cls := "SwingUnitsModel", name := "save", desc := "(I)I" } : Jvm.MethodName)) ∈ lw_tbl := List.mem_append_right _ (List.mem_append_right _ (List.mem_append_right _ (List.mem_append_right _ (List.mem_append_right _ (List.mem_of_getElem? (l := tables_1_5) (i := 45) rfl)))))
theorem tw_1006 : (Jvm.Cond.instanceMethod ({ cls := "SwingUnitsModel", name := "save", desc := "(I)I" } : Jvm.MethodName)) ∈ lw_tbl := List.mem_append_right _ (List.mem_append_right _ (List.mem_append_right _ (List.mem_append_right _ (List.mem_append_right _ (List.mem_of_getElem? (l := tables_1_5) (i := 46) rfl)))))
theorem tw_1007 : (Jvm.Cond.selects "SwingUnitsModel" ({ cls := "SwingUnitsModel", name := "save", desc := "(I)I" } : Jvm.MethodName) ({ cls := "SwingUnitsModel", name := "save", desc := "(I)I" } : Jvm.MethodName)) ∈ lw_tbl := List.mem_append_right _ (List.mem_append_right _ (List.mem_append_right _ (List.mem_append_right _ (List.mem_append_right _ (List.mem_of_getElem? (l := tables_1_5) (i := 47) rfl)))))
theorem tw_1008 : (Jvm.Cond.code ({ cls := "SwingUnitsModel", name := "save", desc := "(I)I" } : Jvm.MethodName) prog_10_method_69_code (3 : Nat) (Option.some Jvm.ClassFile.FieldType.int)) ∈ lw_tbl := List.mem_append_right _ (List.mem_append_right _ (List.mem_append_right _ (List.mem_append_right _ (List.mem_append_right _ (List.mem_of_getElem? (l := tables_1_5) (i := 48) rfl)))))
theorem tw_1009 : (Jvm.Cond.methodLink "SwingUnitsLaw" (112 : Nat) ({ cls := "SwingUnitsModel", name := "restore", desc := "(I)I" } : Jvm.MethodName)) ∈ lw_tbl := List.mem_append_right _ (List.mem_append_right _ (List.mem_append_right _ (List.mem_append_right _ (List.mem_append_right _ (List.mem_of_getElem? (l := tables_1_5) (i := 49) rfl)))))
theorem tw_1010 : (Jvm.Cond.instanceMethod ({ cls := "SwingUnitsModel", name := "restore", desc := "(I)I" } : Jvm.MethodName)) ∈ lw_tbl := List.mem_append_right _ (List.mem_append_right _ (List.mem_append_right _ (List.mem_append_right _ (List.mem_append_right _ (List.mem_of_getElem? (l := tables_1_5) (i := 50) rfl)))))
theorem tw_1011 : (Jvm.Cond.selects "SwingUnitsModel" ({ cls := "SwingUnitsModel", name := "restore", desc := "(I)I" } : Jvm.MethodName) ({ cls := "SwingUnitsModel", name := "restore", desc := "(I)I" } : Jvm.MethodName)) ∈ lw_tbl := List.mem_append_right _ (List.mem_append_right _ (List.mem_append_right _ (List.mem_append_right _ (List.mem_append_right _ (List.mem_of_getElem? (l := tables_1_5) (i := 51) rfl)))))
theorem tw_1012 : (Jvm.Cond.code ({ cls := "SwingUnitsModel", name := "restore", desc := "(I)I" } : Jvm.MethodName) prog_10_method_70_code (3 : Nat) (Option.some Jvm.ClassFile.FieldType.int)) ∈ lw_tbl := List.mem_append_right _ (List.mem_append_right _ (List.mem_append_right _ (List.mem_append_right _ (List.mem_append_right _ (List.mem_of_getElem? (l := tables_1_5) (i := 52) rfl)))))
theorem tw_1013 : (Jvm.Cond.constantLong "SwingUnitsLaw" (82 : Nat) (4294967295 : Int64)) ∈ lw_tbl := List.mem_append_right _ (List.mem_append_right _ (List.mem_append_right _ (List.mem_append_right _ (List.mem_append_right _ (List.mem_of_getElem? (l := tables_1_5) (i := 53) rfl)))))
theorem tp_0 : (Jvm.Cond.selects "SwingUnits$Orders" ({ cls := "SwingUnits$Orders", name := "write", desc := "(IIII)V" } : Jvm.MethodName) ({ cls := "SwingUnits$Orders", name := "write", desc := "(IIII)V" } : Jvm.MethodName)) ∈ lw_tbl := List.mem_append_left _ (List.mem_of_getElem? (i := 0) rfl)
theorem tp_1 : (Jvm.Cond.selects "SwingUnits$Trust" ({ cls := "SwingUnits$Trust", name := "dayOf", desc := "(I)I" } : Jvm.MethodName) ({ cls := "SwingUnits$Trust", name := "dayOf", desc := "(I)I" } : Jvm.MethodName)) ∈ lw_tbl := List.mem_append_left _ (List.mem_of_getElem? (i := 1) rfl)
theorem tp_2 : (Jvm.Cond.selects "SwingUnits$Trust" ({ cls := "SwingUnits$Trust", name := "freeUnits", desc := "(I)J" } : Jvm.MethodName) ({ cls := "SwingUnits$Trust", name := "freeUnits", desc := "(I)J" } : Jvm.MethodName)) ∈ lw_tbl := List.mem_append_left _ (List.mem_of_getElem? (i := 2) rfl)
theorem tp_3 : (Jvm.Cond.selects "SwingUnits$DayEnd" ({ cls := "SwingUnits$DayEnd", name := "takePrice", desc := "(LSwingUnits$Trust;)V" } : Jvm.MethodName) ({ cls := "SwingUnits$DayEnd", name := "takePrice", desc := "(LSwingUnits$Trust;)V" } : Jvm.MethodName)) ∈ lw_tbl := List.mem_append_left _ (List.mem_of_getElem? (i := 3) rfl)
theorem tp_4 : (Jvm.Cond.selects "SwingUnits$DayEnd" ({ cls := "SwingUnits$DayEnd", name := "shareOut", desc := "(LSwingUnits$Orders;I)V" } : Jvm.MethodName) ({ cls := "SwingUnits$DayEnd", name := "shareOut", desc := "(LSwingUnits$Orders;I)V" } : Jvm.MethodName)) ∈ lw_tbl := List.mem_append_left _ (List.mem_of_getElem? (i := 4) rfl)
theorem tp_5 : (Jvm.Cond.selects "SwingUnits$DayEnd" ({ cls := "SwingUnits$DayEnd", name := "shareOutDay", desc := "(LSwingUnits$Orders;IIJJ)V" } : Jvm.MethodName) ({ cls := "SwingUnits$DayEnd", name := "shareOutDay", desc := "(LSwingUnits$Orders;IIJJ)V" } : Jvm.MethodName)) ∈ lw_tbl := List.mem_append_left _ (List.mem_of_getElem? (i := 5) rfl)
theorem tp_6 : (Jvm.Cond.selects "SwingUnits$DayEnd" ({ cls := "SwingUnits$DayEnd", name := "payLeavers", desc := "(LSwingUnits$Trust;I)V" } : Jvm.MethodName) ({ cls := "SwingUnits$DayEnd", name := "payLeavers", desc := "(LSwingUnits$Trust;I)V" } : Jvm.MethodName)) ∈ lw_tbl := List.mem_append_left _ (List.mem_of_getElem? (i := 6) rfl)
theorem tp_7 : (Jvm.Cond.selects "SwingUnits$DayEnd" ({ cls := "SwingUnits$DayEnd", name := "payLeaver", desc := "(LSwingUnits$Trust;I)Z" } : Jvm.MethodName) ({ cls := "SwingUnits$DayEnd", name := "payLeaver", desc := "(LSwingUnits$Trust;I)Z" } : Jvm.MethodName)) ∈ lw_tbl := List.mem_append_left _ (List.mem_of_getElem? (i := 7) rfl)
theorem tp_8 : (Jvm.Cond.selects "SwingUnits$DayEnd" ({ cls := "SwingUnits$DayEnd", name := "doBuyers", desc := "(LSwingUnits$Trust;I)V" } : Jvm.MethodName) ({ cls := "SwingUnits$DayEnd", name := "doBuyers", desc := "(LSwingUnits$Trust;I)V" } : Jvm.MethodName)) ∈ lw_tbl := List.mem_append_left _ (List.mem_of_getElem? (i := 8) rfl)
theorem tp_9 : (Jvm.Cond.selects "SwingUnits$Pad" ({ cls := "SwingUnits$Pad", name := "readDeal", desc := "()Z" } : Jvm.MethodName) ({ cls := "SwingUnits$Pad", name := "readDeal", desc := "()Z" } : Jvm.MethodName)) ∈ lw_tbl := List.mem_append_left _ (List.mem_of_getElem? (i := 9) rfl)
theorem tp_10 : (Jvm.Cond.selects "SwingUnits$Pad" ({ cls := "SwingUnits$Pad", name := "digitAt", desc := "()I" } : Jvm.MethodName) ({ cls := "SwingUnits$Pad", name := "digitAt", desc := "()I" } : Jvm.MethodName)) ∈ lw_tbl := List.mem_append_left _ (List.mem_of_getElem? (i := 10) rfl)
theorem tp_11 : (Jvm.Cond.selects "SwingUnits$Pad" ({ cls := "SwingUnits$Pad", name := "readNumber", desc := "(I)I" } : Jvm.MethodName) ({ cls := "SwingUnits$Pad", name := "readNumber", desc := "(I)I" } : Jvm.MethodName)) ∈ lw_tbl := List.mem_append_left _ (List.mem_of_getElem? (i := 11) rfl)
theorem tp_12 : (Jvm.Cond.selects "SwingUnits" ({ cls := "SwingUnits", name := "carryOutOrders", desc := "()I" } : Jvm.MethodName) ({ cls := "SwingUnits", name := "carryOutOrders", desc := "()I" } : Jvm.MethodName)) ∈ lw_tbl := List.mem_append_left _ (List.mem_of_getElem? (i := 12) rfl)
theorem tp_13 : (Jvm.Cond.selects "SwingUnits" ({ cls := "SwingUnits", name := "carryOutOrder", desc := "()I" } : Jvm.MethodName) ({ cls := "SwingUnits", name := "carryOutOrder", desc := "()I" } : Jvm.MethodName)) ∈ lw_tbl := List.mem_append_left _ (List.mem_of_getElem? (i := 13) rfl)
theorem tp_14 : (Jvm.Cond.selects "SwingUnitsModel" ({ cls := "SwingUnitsModel", name := "keep", desc := "()V" } : Jvm.MethodName) ({ cls := "SwingUnitsModel", name := "keep", desc := "()V" } : Jvm.MethodName)) ∈ lw_tbl := List.mem_append_left _ (List.mem_of_getElem? (i := 14) rfl)
theorem tp_15 : (Jvm.Cond.selects "SwingUnitsModel" ({ cls := "SwingUnitsModel", name := "tryBuy", desc := "(IIIZ)I" } : Jvm.MethodName) ({ cls := "SwingUnitsModel", name := "tryBuy", desc := "(IIIZ)I" } : Jvm.MethodName)) ∈ lw_tbl := List.mem_append_left _ (List.mem_of_getElem? (i := 15) rfl)
theorem tp_16 : (Jvm.Cond.selects "SwingUnitsModel" ({ cls := "SwingUnitsModel", name := "keepIf", desc := "(Z)V" } : Jvm.MethodName) ({ cls := "SwingUnitsModel", name := "keepIf", desc := "(Z)V" } : Jvm.MethodName)) ∈ lw_tbl := List.mem_append_left _ (List.mem_of_getElem? (i := 16) rfl)
theorem tp_17 : (Jvm.Cond.selects "SwingUnitsModel" ({ cls := "SwingUnitsModel", name := "putIn", desc := "(IIJI)J" } : Jvm.MethodName) ({ cls := "SwingUnitsModel", name := "putIn", desc := "(IIJI)J" } : Jvm.MethodName)) ∈ lw_tbl := List.mem_append_left _ (List.mem_of_getElem? (i := 17) rfl)
theorem tp_18 : (Jvm.Cond.selects "SwingUnitsModel" ({ cls := "SwingUnitsModel", name := "ofOrder", desc := "(III)J" } : Jvm.MethodName) ({ cls := "SwingUnitsModel", name := "ofOrder", desc := "(III)J" } : Jvm.MethodName)) ∈ lw_tbl := List.mem_append_left _ (List.mem_of_getElem? (i := 18) rfl)
theorem tp_19 : (Jvm.Cond.selects "SwingUnitsModel" ({ cls := "SwingUnitsModel", name := "tryLeave", desc := "(IIIZ)I" } : Jvm.MethodName) ({ cls := "SwingUnitsModel", name := "tryLeave", desc := "(IIIZ)I" } : Jvm.MethodName)) ∈ lw_tbl := List.mem_append_left _ (List.mem_of_getElem? (i := 19) rfl)
theorem tp_20 : (Jvm.Cond.selects "SwingUnitsModel" ({ cls := "SwingUnitsModel", name := "units", desc := "(I)J" } : Jvm.MethodName) ({ cls := "SwingUnitsModel", name := "units", desc := "(I)J" } : Jvm.MethodName)) ∈ lw_tbl := List.mem_append_left _ (List.mem_of_getElem? (i := 20) rfl)
theorem tp_21 : (Jvm.Cond.selects "SwingUnitsModel" ({ cls := "SwingUnitsModel", name := "of", desc := "(II)J" } : Jvm.MethodName) ({ cls := "SwingUnitsModel", name := "of", desc := "(II)J" } : Jvm.MethodName)) ∈ lw_tbl := List.mem_append_left _ (List.mem_of_getElem? (i := 21) rfl)
theorem tp_22 : (Jvm.Cond.selects "SwingUnitsModel" ({ cls := "SwingUnitsModel", name := "bound", desc := "(I)J" } : Jvm.MethodName) ({ cls := "SwingUnitsModel", name := "bound", desc := "(I)J" } : Jvm.MethodName)) ∈ lw_tbl := List.mem_append_left _ (List.mem_of_getElem? (i := 22) rfl)
theorem tp_23 : (Jvm.Cond.selects "SwingUnitsModel" ({ cls := "SwingUnitsModel", name := "issue", desc := "()J" } : Jvm.MethodName) ({ cls := "SwingUnitsModel", name := "issue", desc := "()J" } : Jvm.MethodName)) ∈ lw_tbl := List.mem_append_left _ (List.mem_of_getElem? (i := 23) rfl)
theorem tp_24 : (Jvm.Cond.selects "SwingUnitsModel" ({ cls := "SwingUnitsModel", name := "incomeOfUnit", desc := "()J" } : Jvm.MethodName) ({ cls := "SwingUnitsModel", name := "incomeOfUnit", desc := "()J" } : Jvm.MethodName)) ∈ lw_tbl := List.mem_append_left _ (List.mem_of_getElem? (i := 24) rfl)
theorem tp_25 : (Jvm.Cond.selects "SwingUnitsModel" ({ cls := "SwingUnitsModel", name := "goUnits", desc := "(IJJ)V" } : Jvm.MethodName) ({ cls := "SwingUnitsModel", name := "goUnits", desc := "(IJJ)V" } : Jvm.MethodName)) ∈ lw_tbl := List.mem_append_left _ (List.mem_of_getElem? (i := 25) rfl)
theorem tp_26 : (Jvm.Cond.selects "SwingUnitsModel" ({ cls := "SwingUnitsModel", name := "allNew", desc := "()J" } : Jvm.MethodName) ({ cls := "SwingUnitsModel", name := "allNew", desc := "()J" } : Jvm.MethodName)) ∈ lw_tbl := List.mem_append_left _ (List.mem_of_getElem? (i := 26) rfl)
theorem tp_27 : (Jvm.Cond.selects "SwingUnitsModel" ({ cls := "SwingUnitsModel", name := "add", desc := "(IIJ)V" } : Jvm.MethodName) ({ cls := "SwingUnitsModel", name := "add", desc := "(IIJ)V" } : Jvm.MethodName)) ∈ lw_tbl := List.mem_append_left _ (List.mem_of_getElem? (i := 27) rfl)
theorem tp_28 : (Jvm.Cond.selects "SwingUnitsModel" ({ cls := "SwingUnitsModel", name := "holdPool", desc := "()V" } : Jvm.MethodName) ({ cls := "SwingUnitsModel", name := "holdPool", desc := "()V" } : Jvm.MethodName)) ∈ lw_tbl := List.mem_append_left _ (List.mem_of_getElem? (i := 28) rfl)
theorem tp_29 : (Jvm.Cond.selects "SwingUnitsModel" ({ cls := "SwingUnitsModel", name := "tryEndDay", desc := "(Z)I" } : Jvm.MethodName) ({ cls := "SwingUnitsModel", name := "tryEndDay", desc := "(Z)I" } : Jvm.MethodName)) ∈ lw_tbl := List.mem_append_left _ (List.mem_of_getElem? (i := 29) rfl)
theorem tp_30 : (Jvm.Cond.selects "SwingUnitsModel" ({ cls := "SwingUnitsModel", name := "endIt", desc := "()V" } : Jvm.MethodName) ({ cls := "SwingUnitsModel", name := "endIt", desc := "()V" } : Jvm.MethodName)) ∈ lw_tbl := List.mem_append_left _ (List.mem_of_getElem? (i := 30) rfl)
theorem tp_31 : (Jvm.Cond.selects "SwingUnitsModel" ({ cls := "SwingUnitsModel", name := "priceNow", desc := "()J" } : Jvm.MethodName) ({ cls := "SwingUnitsModel", name := "priceNow", desc := "()J" } : Jvm.MethodName)) ∈ lw_tbl := List.mem_append_left _ (List.mem_of_getElem? (i := 31) rfl)
theorem tp_32 : (Jvm.Cond.selects "SwingUnitsModel" ({ cls := "SwingUnitsModel", name := "middle", desc := "()J" } : Jvm.MethodName) ({ cls := "SwingUnitsModel", name := "middle", desc := "()J" } : Jvm.MethodName)) ∈ lw_tbl := List.mem_append_left _ (List.mem_of_getElem? (i := 32) rfl)
theorem tp_33 : (Jvm.Cond.selects "SwingUnitsModel" ({ cls := "SwingUnitsModel", name := "value", desc := "()J" } : Jvm.MethodName) ({ cls := "SwingUnitsModel", name := "value", desc := "()J" } : Jvm.MethodName)) ∈ lw_tbl := List.mem_append_left _ (List.mem_of_getElem? (i := 33) rfl)
theorem tp_34 : (Jvm.Cond.selects "SwingUnitsModel" ({ cls := "SwingUnitsModel", name := "swing", desc := "()I" } : Jvm.MethodName) ({ cls := "SwingUnitsModel", name := "swing", desc := "()I" } : Jvm.MethodName)) ∈ lw_tbl := List.mem_append_left _ (List.mem_of_getElem? (i := 34) rfl)
theorem tp_35 : (Jvm.Cond.selects "SwingUnitsModel" ({ cls := "SwingUnitsModel", name := "sumOf", desc := "(IJ)J" } : Jvm.MethodName) ({ cls := "SwingUnitsModel", name := "sumOf", desc := "(IJ)J" } : Jvm.MethodName)) ∈ lw_tbl := List.mem_append_left _ (List.mem_of_getElem? (i := 35) rfl)
theorem tp_36 : (Jvm.Cond.selects "SwingUnitsModel" ({ cls := "SwingUnitsModel", name := "mayLeave", desc := "()J" } : Jvm.MethodName) ({ cls := "SwingUnitsModel", name := "mayLeave", desc := "()J" } : Jvm.MethodName)) ∈ lw_tbl := List.mem_append_left _ (List.mem_of_getElem? (i := 36) rfl)
theorem tp_37 : (Jvm.Cond.selects "SwingUnitsModel" ({ cls := "SwingUnitsModel", name := "shareOut", desc := "(J)V" } : Jvm.MethodName) ({ cls := "SwingUnitsModel", name := "shareOut", desc := "(J)V" } : Jvm.MethodName)) ∈ lw_tbl := List.mem_append_left _ (List.mem_of_getElem? (i := 37) rfl)
theorem tp_38 : (Jvm.Cond.selects "SwingUnitsModel" ({ cls := "SwingUnitsModel", name := "shareDay", desc := "(IIJ)J" } : Jvm.MethodName) ({ cls := "SwingUnitsModel", name := "shareDay", desc := "(IIJ)J" } : Jvm.MethodName)) ∈ lw_tbl := List.mem_append_left _ (List.mem_of_getElem? (i := 38) rfl)
theorem tp_39 : (Jvm.Cond.selects "SwingUnitsModel" ({ cls := "SwingUnitsModel", name := "payThem", desc := "(JJ)V" } : Jvm.MethodName) ({ cls := "SwingUnitsModel", name := "payThem", desc := "(JJ)V" } : Jvm.MethodName)) ∈ lw_tbl := List.mem_append_left _ (List.mem_of_getElem? (i := 39) rfl)
theorem tp_40 : (Jvm.Cond.selects "SwingUnitsModel" ({ cls := "SwingUnitsModel", name := "sellFor", desc := "(J)V" } : Jvm.MethodName) ({ cls := "SwingUnitsModel", name := "sellFor", desc := "(J)V" } : Jvm.MethodName)) ∈ lw_tbl := List.mem_append_left _ (List.mem_of_getElem? (i := 40) rfl)
theorem tp_41 : (Jvm.Cond.selects "SwingUnitsModel" ({ cls := "SwingUnitsModel", name := "cost", desc := "()J" } : Jvm.MethodName) ({ cls := "SwingUnitsModel", name := "cost", desc := "()J" } : Jvm.MethodName)) ∈ lw_tbl := List.mem_append_left _ (List.mem_of_getElem? (i := 41) rfl)
theorem tp_42 : (Jvm.Cond.selects "SwingUnitsModel" ({ cls := "SwingUnitsModel", name := "takeOut", desc := "(II)V" } : Jvm.MethodName) ({ cls := "SwingUnitsModel", name := "takeOut", desc := "(II)V" } : Jvm.MethodName)) ∈ lw_tbl := List.mem_append_left _ (List.mem_of_getElem? (i := 42) rfl)
theorem tp_43 : (Jvm.Cond.selects "SwingUnitsModel" ({ cls := "SwingUnitsModel", name := "buyFor", desc := "(IJJJ)V" } : Jvm.MethodName) ({ cls := "SwingUnitsModel", name := "buyFor", desc := "(IJJJ)V" } : Jvm.MethodName)) ∈ lw_tbl := List.mem_append_left _ (List.mem_of_getElem? (i := 43) rfl)
theorem tp_44 : (Jvm.Cond.selects "SwingUnitsModel" ({ cls := "SwingUnitsModel", name := "makeUnits", desc := "(IJJ)V" } : Jvm.MethodName) ({ cls := "SwingUnitsModel", name := "makeUnits", desc := "(IJJ)V" } : Jvm.MethodName)) ∈ lw_tbl := List.mem_append_left _ (List.mem_of_getElem? (i := 44) rfl)
theorem tp_45 : (Jvm.Cond.selects "SwingUnitsModel" ({ cls := "SwingUnitsModel", name := "tryQuote", desc := "(IZ)I" } : Jvm.MethodName) ({ cls := "SwingUnitsModel", name := "tryQuote", desc := "(IZ)I" } : Jvm.MethodName)) ∈ lw_tbl := List.mem_append_left _ (List.mem_of_getElem? (i := 45) rfl)
theorem tp_46 : (Jvm.Cond.selects "SwingUnitsModel" ({ cls := "SwingUnitsModel", name := "tryIncome", desc := "(IZ)I" } : Jvm.MethodName) ({ cls := "SwingUnitsModel", name := "tryIncome", desc := "(IZ)I" } : Jvm.MethodName)) ∈ lw_tbl := List.mem_append_left _ (List.mem_of_getElem? (i := 46) rfl)
theorem tp_47 : (Jvm.Cond.selects "SwingUnitsModel" ({ cls := "SwingUnitsModel", name := "tryPay", desc := "(Z)I" } : Jvm.MethodName) ({ cls := "SwingUnitsModel", name := "tryPay", desc := "(Z)I" } : Jvm.MethodName)) ∈ lw_tbl := List.mem_append_left _ (List.mem_of_getElem? (i := 47) rfl)
theorem tp_48 : (Jvm.Cond.selects "SwingUnitsModel" ({ cls := "SwingUnitsModel", name := "layAside", desc := "()V" } : Jvm.MethodName) ({ cls := "SwingUnitsModel", name := "layAside", desc := "()V" } : Jvm.MethodName)) ∈ lw_tbl := List.mem_append_left _ (List.mem_of_getElem? (i := 48) rfl)
theorem tp_49 : (Jvm.Cond.selects "SwingUnitsModel" ({ cls := "SwingUnitsModel", name := "layBack", desc := "()V" } : Jvm.MethodName) ({ cls := "SwingUnitsModel", name := "layBack", desc := "()V" } : Jvm.MethodName)) ∈ lw_tbl := List.mem_append_left _ (List.mem_of_getElem? (i := 49) rfl)
theorem tp_50 : (Jvm.Cond.selects "SwingUnitsModel" ({ cls := "SwingUnitsModel", name := "takeOrder", desc := "()V" } : Jvm.MethodName) ({ cls := "SwingUnitsModel", name := "takeOrder", desc := "()V" } : Jvm.MethodName)) ∈ lw_tbl := List.mem_append_left _ (List.mem_of_getElem? (i := 50) rfl)
theorem tp_51 : (Jvm.Cond.selects "SwingUnitsModel" ({ cls := "SwingUnitsModel", name := "next", desc := "()I" } : Jvm.MethodName) ({ cls := "SwingUnitsModel", name := "next", desc := "()I" } : Jvm.MethodName)) ∈ lw_tbl := List.mem_append_left _ (List.mem_of_getElem? (i := 51) rfl)
theorem tp_52 : (Jvm.Cond.selects "SwingUnitsModel" ({ cls := "SwingUnitsModel", name := "takeOrdering", desc := "()V" } : Jvm.MethodName) ({ cls := "SwingUnitsModel", name := "takeOrdering", desc := "()V" } : Jvm.MethodName)) ∈ lw_tbl := List.mem_append_left _ (List.mem_of_getElem? (i := 52) rfl)
theorem tp_53 : (Jvm.Cond.selects "SwingUnitsModel" ({ cls := "SwingUnitsModel", name := "takeHolder", desc := "()V" } : Jvm.MethodName) ({ cls := "SwingUnitsModel", name := "takeHolder", desc := "()V" } : Jvm.MethodName)) ∈ lw_tbl := List.mem_append_left _ (List.mem_of_getElem? (i := 53) rfl)
theorem tp_54 : (Jvm.Cond.selects "SwingUnitsModel" ({ cls := "SwingUnitsModel", name := "takeSign", desc := "(I)V" } : Jvm.MethodName) ({ cls := "SwingUnitsModel", name := "takeSign", desc := "(I)V" } : Jvm.MethodName)) ∈ lw_tbl := List.mem_append_left _ (List.mem_of_getElem? (i := 54) rfl)
theorem tp_55 : (Jvm.Cond.selects "SwingUnitsModel" ({ cls := "SwingUnitsModel", name := "takeNumber", desc := "(II)V" } : Jvm.MethodName) ({ cls := "SwingUnitsModel", name := "takeNumber", desc := "(II)V" } : Jvm.MethodName)) ∈ lw_tbl := List.mem_append_left _ (List.mem_of_getElem? (i := 55) rfl)
theorem tp_56 : (Jvm.Cond.selects "SwingUnitsModel" ({ cls := "SwingUnitsModel", name := "carry", desc := "(I)I" } : Jvm.MethodName) ({ cls := "SwingUnitsModel", name := "carry", desc := "(I)I" } : Jvm.MethodName)) ∈ lw_tbl := List.mem_append_left _ (List.mem_of_getElem? (i := 56) rfl)
end
section
theorem dX0_init_0 : decode cX0_init 0 = .ok (.aload_n 0, 1) := by decide +kernel
theorem dX0_init_1 : decode cX0_init 1 = .ok (.invokespecial 3, 3) := by decide +kernel
theorem dX0_init_4 : decode cX0_init 4 = .ok (.aload_n 0, 1) := by decide +kernel
theorem dX0_init_5 : decode cX0_init 5 = .ok (.bipush 20, 2) := by decide +kernel
theorem dX0_init_7 : decode cX0_init 7 = .ok (.newarray .long, 2) := by decide +kernel
theorem dX0_init_9 : decode cX0_init 9 = .ok (.putfield 9, 3) := by decide +kernel
theorem dX0_init_12 : decode cX0_init 12 = .ok (.return_, 1) := by decide +kernel
theorem dX0_priceOf_0 : decode cX0_priceOf 0 = .ok (.aload_n 0, 1) := by decide +kernel
theorem dX0_priceOf_1 : decode cX0_priceOf 1 = .ok (.aload_n 1, 1) := by decide +kernel
theorem dX0_priceOf_2 : decode cX0_priceOf 2 = .ok (.invokevirtual 15, 3) := by decide +kernel
theorem dX0_priceOf_5 : decode cX0_priceOf 5 = .ok (.aload_n 0, 1) := by decide +kernel
theorem dX0_priceOf_6 : decode cX0_priceOf 6 = .ok (.getfield 19, 3) := by decide +kernel
theorem dX0_priceOf_9 : decode cX0_priceOf 9 = .ok (.lreturn, 1) := by decide +kernel
theorem dX0_run_0 : decode cX0_run 0 = .ok (.aload_n 0, 1) := by decide +kernel
theorem dX0_run_1 : decode cX0_run 1 = .ok (.aload_n 1, 1) := by decide +kernel
theorem dX0_run_2 : decode cX0_run 2 = .ok (.invokevirtual 15, 3) := by decide +kernel
theorem dX0_run_5 : decode cX0_run 5 = .ok (.aload_n 1, 1) := by decide +kernel
theorem dX0_run_6 : decode cX0_run 6 = .ok (.getfield 23, 3) := by decide +kernel
theorem dX0_run_9 : decode cX0_run 9 = .ok (.aload_n 0, 1) := by decide +kernel
theorem dX0_run_10 : decode cX0_run 10 = .ok (.invokevirtual 29, 3) := by decide +kernel
theorem dX0_run_13 : decode cX0_run 13 = .ok (.aload_n 0, 1) := by decide +kernel
theorem dX0_run_14 : decode cX0_run 14 = .ok (.aload_n 1, 1) := by decide +kernel
theorem dX0_run_15 : decode cX0_run 15 = .ok (.getfield 35, 3) := by decide +kernel
theorem dX0_run_18 : decode cX0_run 18 = .ok (.aload_n 1, 1) := by decide +kernel
theorem dX0_run_19 : decode cX0_run 19 = .ok (.getfield 35, 3) := by decide +kernel
theorem dX0_run_22 : decode cX0_run 22 = .ok (.aload_n 1, 1) := by decide +kernel
theorem dX0_run_23 : decode cX0_run 23 = .ok (.getfield 39, 3) := by decide +kernel
theorem dX0_run_26 : decode cX0_run 26 = .ok (.invokevirtual 43, 3) := by decide +kernel
theorem dX0_run_29 : decode cX0_run 29 = .ok (.invokevirtual 49, 3) := by decide +kernel
theorem dX0_run_32 : decode cX0_run 32 = .ok (.aload_n 0, 1) := by decide +kernel
theorem dX0_run_33 : decode cX0_run 33 = .ok (.aload_n 1, 1) := by decide +kernel
theorem dX0_run_34 : decode cX0_run 34 = .ok (.aload_n 1, 1) := by decide +kernel
theorem dX0_run_35 : decode cX0_run 35 = .ok (.getfield 35, 3) := by decide +kernel
theorem dX0_run_38 : decode cX0_run 38 = .ok (.aload_n 1, 1) := by decide +kernel
theorem dX0_run_39 : decode cX0_run 39 = .ok (.getfield 39, 3) := by decide +kernel
theorem dX0_run_42 : decode cX0_run 42 = .ok (.invokevirtual 43, 3) := by decide +kernel
theorem dX0_run_45 : decode cX0_run 45 = .ok (.invokevirtual 53, 3) := by decide +kernel
theorem dX0_run_48 : decode cX0_run 48 = .ok (.aload_n 0, 1) := by decide +kernel
theorem dX0_run_49 : decode cX0_run 49 = .ok (.aload_n 1, 1) := by decide +kernel
theorem dX0_run_50 : decode cX0_run 50 = .ok (.aload_n 1, 1) := by decide +kernel
theorem dX0_run_51 : decode cX0_run 51 = .ok (.getfield 57, 3) := by decide +kernel
theorem dX0_run_54 : decode cX0_run 54 = .ok (.aload_n 1, 1) := by decide +kernel
theorem dX0_run_55 : decode cX0_run 55 = .ok (.getfield 39, 3) := by decide +kernel
theorem dX0_run_58 : decode cX0_run 58 = .ok (.invokevirtual 43, 3) := by decide +kernel
theorem dX0_run_61 : decode cX0_run 61 = .ok (.invokevirtual 60, 3) := by decide +kernel
theorem dX0_run_64 : decode cX0_run 64 = .ok (.aload_n 1, 1) := by decide +kernel
theorem dX0_run_65 : decode cX0_run 65 = .ok (.dup, 1) := by decide +kernel
theorem dX0_run_66 : decode cX0_run 66 = .ok (.getfield 39, 3) := by decide +kernel
theorem dX0_run_69 : decode cX0_run 69 = .ok (.iconst 1, 1) := by decide +kernel
theorem dX0_run_70 : decode cX0_run 70 = .ok (.iadd, 1) := by decide +kernel
theorem dX0_run_71 : decode cX0_run 71 = .ok (.putfield 39, 3) := by decide +kernel
theorem dX0_run_74 : decode cX0_run 74 = .ok (.aload_n 1, 1) := by decide +kernel
theorem dX0_run_75 : decode cX0_run 75 = .ok (.getfield 39, 3) := by decide +kernel
theorem dX0_run_78 : decode cX0_run 78 = .ok (.ireturn, 1) := by decide +kernel
theorem dX0_takePrice_0 : decode cX0_takePrice 0 = .ok (.aload_n 0, 1) := by decide +kernel
theorem dX0_takePrice_1 : decode cX0_takePrice 1 = .ok (.aload_n 1, 1) := by decide +kernel
theorem dX0_takePrice_2 : decode cX0_takePrice 2 = .ok (.invokevirtual 63, 3) := by decide +kernel
theorem dX0_takePrice_5 : decode cX0_takePrice 5 = .ok (.putfield 67, 3) := by decide +kernel
theorem dX0_takePrice_8 : decode cX0_takePrice 8 = .ok (.aload_n 0, 1) := by decide +kernel
theorem dX0_takePrice_9 : decode cX0_takePrice 9 = .ok (.aload_n 1, 1) := by decide +kernel
theorem dX0_takePrice_10 : decode cX0_takePrice 10 = .ok (.invokevirtual 69, 3) := by decide +kernel
theorem dX0_takePrice_13 : decode cX0_takePrice 13 = .ok (.putfield 72, 3) := by decide +kernel
theorem dX0_takePrice_16 : decode cX0_takePrice 16 = .ok (.aload_n 1, 1) := by decide +kernel
theorem dX0_takePrice_17 : decode cX0_takePrice 17 = .ok (.invokevirtual 74, 3) := by decide +kernel
theorem dX0_takePrice_20 : decode cX0_takePrice 20 = .ok (.lstore_n 2, 1) := by decide +kernel
theorem dX0_takePrice_21 : decode cX0_takePrice 21 = .ok (.aload_n 1, 1) := by decide +kernel
theorem dX0_takePrice_22 : decode cX0_takePrice 22 = .ok (.getfield 57, 3) := by decide +kernel
theorem dX0_takePrice_25 : decode cX0_takePrice 25 = .ok (.iconst 0, 1) := by decide +kernel
theorem dX0_takePrice_26 : decode cX0_takePrice 26 = .ok (.aload_n 1, 1) := by decide +kernel
theorem dX0_takePrice_27 : decode cX0_takePrice 27 = .ok (.getfield 57, 3) := by decide +kernel
theorem dX0_takePrice_30 : decode cX0_takePrice 30 = .ok (.aload_n 1, 1) := by decide +kernel
theorem dX0_takePrice_31 : decode cX0_takePrice 31 = .ok (.getfield 39, 3) := by decide +kernel
theorem dX0_takePrice_34 : decode cX0_takePrice 34 = .ok (.invokevirtual 43, 3) := by decide +kernel
theorem dX0_takePrice_37 : decode cX0_takePrice 37 = .ok (.invokevirtual 77, 3) := by decide +kernel
theorem dX0_takePrice_40 : decode cX0_takePrice 40 = .ok (.lstore 4, 2) := by decide +kernel
theorem dX0_takePrice_42 : decode cX0_takePrice 42 = .ok (.aload_n 0, 1) := by decide +kernel
theorem dX0_takePrice_43 : decode cX0_takePrice 43 = .ok (.aload_n 1, 1) := by decide +kernel
theorem dX0_takePrice_44 : decode cX0_takePrice 44 = .ok (.getfield 35, 3) := by decide +kernel
theorem dX0_takePrice_47 : decode cX0_takePrice 47 = .ok (.iconst 0, 1) := by decide +kernel
theorem dX0_takePrice_48 : decode cX0_takePrice 48 = .ok (.aload_n 1, 1) := by decide +kernel
theorem dX0_takePrice_49 : decode cX0_takePrice 49 = .ok (.getfield 35, 3) := by decide +kernel
theorem dX0_takePrice_52 : decode cX0_takePrice 52 = .ok (.aload_n 1, 1) := by decide +kernel
theorem dX0_takePrice_53 : decode cX0_takePrice 53 = .ok (.getfield 39, 3) := by decide +kernel
theorem dX0_takePrice_56 : decode cX0_takePrice 56 = .ok (.invokevirtual 43, 3) := by decide +kernel
theorem dX0_takePrice_59 : decode cX0_takePrice 59 = .ok (.invokevirtual 77, 3) := by decide +kernel
theorem dX0_takePrice_62 : decode cX0_takePrice 62 = .ok (.putfield 81, 3) := by decide +kernel
theorem dX0_takePrice_65 : decode cX0_takePrice 65 = .ok (.aload_n 0, 1) := by decide +kernel
theorem dX0_takePrice_66 : decode cX0_takePrice 66 = .ok (.aload_n 0, 1) := by decide +kernel
theorem dX0_takePrice_67 : decode cX0_takePrice 67 = .ok (.getfield 81, 3) := by decide +kernel
theorem dX0_takePrice_70 : decode cX0_takePrice 70 = .ok (.aload_n 1, 1) := by decide +kernel
theorem dX0_takePrice_71 : decode cX0_takePrice 71 = .ok (.getfield 84, 3) := by decide +kernel
theorem dX0_takePrice_74 : decode cX0_takePrice 74 = .ok (.iconst 3, 1) := by decide +kernel
theorem dX0_takePrice_75 : decode cX0_takePrice 75 = .ok (.iaload, 1) := by decide +kernel
theorem dX0_takePrice_76 : decode cX0_takePrice 76 = .ok (.i2l, 1) := by decide +kernel
theorem dX0_takePrice_77 : decode cX0_takePrice 77 = .ok (.lload_n 2, 1) := by decide +kernel
theorem dX0_takePrice_78 : decode cX0_takePrice 78 = .ok (.lmul, 1) := by decide +kernel
theorem dX0_takePrice_79 : decode cX0_takePrice 79 = .ok (.ldc2_w 88, 3) := by decide +kernel
theorem dX0_takePrice_82 : decode cX0_takePrice 82 = .ok (.ldiv, 1) := by decide +kernel
theorem dX0_takePrice_83 : decode cX0_takePrice 83 = .ok (.invokestatic 90, 3) := by decide +kernel
theorem dX0_takePrice_86 : decode cX0_takePrice 86 = .ok (.putfield 96, 3) := by decide +kernel
theorem dX0_takePrice_89 : decode cX0_takePrice 89 = .ok (.lload 4, 2) := by decide +kernel
theorem dX0_takePrice_91 : decode cX0_takePrice 91 = .ok (.aload_n 0, 1) := by decide +kernel
theorem dX0_takePrice_92 : decode cX0_takePrice 92 = .ok (.getfield 96, 3) := by decide +kernel
theorem dX0_takePrice_95 : decode cX0_takePrice 95 = .ok (.aload_n 0, 1) := by decide +kernel
theorem dX0_takePrice_96 : decode cX0_takePrice 96 = .ok (.getfield 67, 3) := by decide +kernel
theorem dX0_takePrice_99 : decode cX0_takePrice 99 = .ok (.lmul, 1) := by decide +kernel
theorem dX0_takePrice_100 : decode cX0_takePrice 100 = .ok (.ldc2_w 88, 3) := by decide +kernel
theorem dX0_takePrice_103 : decode cX0_takePrice 103 = .ok (.ldiv, 1) := by decide +kernel
theorem dX0_takePrice_104 : decode cX0_takePrice 104 = .ok (.lsub, 1) := by decide +kernel
theorem dX0_takePrice_105 : decode cX0_takePrice 105 = .ok (.lstore 6, 2) := by decide +kernel
theorem dX0_takePrice_107 : decode cX0_takePrice 107 = .ok (.aload_n 0, 1) := by decide +kernel
theorem dX0_takePrice_108 : decode cX0_takePrice 108 = .ok (.lload_n 2, 1) := by decide +kernel
theorem dX0_takePrice_109 : decode cX0_takePrice 109 = .ok (.lconst 0, 1) := by decide +kernel
theorem dX0_takePrice_110 : decode cX0_takePrice 110 = .ok (.lcmp, 1) := by decide +kernel
theorem dX0_takePrice_111 : decode cX0_takePrice 111 = .ok (.ifCond .le 27, 3) := by decide +kernel
theorem dX0_takePrice_114 : decode cX0_takePrice 114 = .ok (.ldc2_w 88, 3) := by decide +kernel
theorem dX0_takePrice_117 : decode cX0_takePrice 117 = .ok (.lload 6, 2) := by decide +kernel
theorem dX0_takePrice_119 : decode cX0_takePrice 119 = .ok (.lmul, 1) := by decide +kernel
theorem dX0_takePrice_120 : decode cX0_takePrice 120 = .ok (.aload_n 1, 1) := by decide +kernel
theorem dX0_takePrice_121 : decode cX0_takePrice 121 = .ok (.getfield 84, 3) := by decide +kernel
theorem dX0_takePrice_124 : decode cX0_takePrice 124 = .ok (.iconst 1, 1) := by decide +kernel
theorem dX0_takePrice_125 : decode cX0_takePrice 125 = .ok (.iaload, 1) := by decide +kernel
theorem dX0_takePrice_126 : decode cX0_takePrice 126 = .ok (.i2l, 1) := by decide +kernel
theorem dX0_takePrice_127 : decode cX0_takePrice 127 = .ok (.aload_n 1, 1) := by decide +kernel
theorem dX0_takePrice_128 : decode cX0_takePrice 128 = .ok (.invokevirtual 99, 3) := by decide +kernel
theorem dX0_takePrice_131 : decode cX0_takePrice 131 = .ok (.lmul, 1) := by decide +kernel
theorem dX0_takePrice_132 : decode cX0_takePrice 132 = .ok (.invokestatic 102, 3) := by decide +kernel
theorem dX0_takePrice_135 : decode cX0_takePrice 135 = .ok (.goto 4, 3) := by decide +kernel
theorem dX0_takePrice_138 : decode cX0_takePrice 138 = .ok (.iconst 0, 1) := by decide +kernel
theorem dX0_takePrice_139 : decode cX0_takePrice 139 = .ok (.putfield 106, 3) := by decide +kernel
theorem dX0_takePrice_142 : decode cX0_takePrice 142 = .ok (.aload_n 0, 1) := by decide +kernel
theorem dX0_takePrice_143 : decode cX0_takePrice 143 = .ok (.sipush 1000, 3) := by decide +kernel
theorem dX0_takePrice_146 : decode cX0_takePrice 146 = .ok (.aload_n 0, 1) := by decide +kernel
theorem dX0_takePrice_147 : decode cX0_takePrice 147 = .ok (.getfield 106, 3) := by decide +kernel
theorem dX0_takePrice_150 : decode cX0_takePrice 150 = .ok (.aload_n 1, 1) := by decide +kernel
theorem dX0_takePrice_151 : decode cX0_takePrice 151 = .ok (.getfield 84, 3) := by decide +kernel
theorem dX0_takePrice_154 : decode cX0_takePrice 154 = .ok (.iconst 2, 1) := by decide +kernel
theorem dX0_takePrice_155 : decode cX0_takePrice 155 = .ok (.iaload, 1) := by decide +kernel
theorem dX0_takePrice_156 : decode cX0_takePrice 156 = .ok (.imul, 1) := by decide +kernel
theorem dX0_takePrice_157 : decode cX0_takePrice 157 = .ok (.iadd, 1) := by decide +kernel
theorem dX0_takePrice_158 : decode cX0_takePrice 158 = .ok (.i2l, 1) := by decide +kernel
theorem dX0_takePrice_159 : decode cX0_takePrice 159 = .ok (.aload_n 0, 1) := by decide +kernel
theorem dX0_takePrice_160 : decode cX0_takePrice 160 = .ok (.getfield 67, 3) := by decide +kernel
theorem dX0_takePrice_163 : decode cX0_takePrice 163 = .ok (.lmul, 1) := by decide +kernel
theorem dX0_takePrice_164 : decode cX0_takePrice 164 = .ok (.ldc2_w 88, 3) := by decide +kernel
theorem dX0_takePrice_167 : decode cX0_takePrice 167 = .ok (.ldiv, 1) := by decide +kernel
theorem dX0_takePrice_168 : decode cX0_takePrice 168 = .ok (.putfield 19, 3) := by decide +kernel
theorem dX0_takePrice_171 : decode cX0_takePrice 171 = .ok (.return_, 1) := by decide +kernel
theorem dX0_direction_0 : decode cX0_direction 0 = .ok (.lload_n 0, 1) := by decide +kernel
theorem dX0_direction_1 : decode cX0_direction 1 = .ok (.lconst 0, 1) := by decide +kernel
theorem dX0_direction_2 : decode cX0_direction 2 = .ok (.lcmp, 1) := by decide +kernel
theorem dX0_direction_3 : decode cX0_direction 3 = .ok (.ifCond .le 11, 3) := by decide +kernel
theorem dX0_direction_6 : decode cX0_direction 6 = .ok (.lload_n 0, 1) := by decide +kernel
theorem dX0_direction_7 : decode cX0_direction 7 = .ok (.lload_n 2, 1) := by decide +kernel
theorem dX0_direction_8 : decode cX0_direction 8 = .ok (.lcmp, 1) := by decide +kernel
theorem dX0_direction_9 : decode cX0_direction 9 = .ok (.ifCond .le 5, 3) := by decide +kernel
theorem dX0_direction_12 : decode cX0_direction 12 = .ok (.iconst 1, 1) := by decide +kernel
theorem dX0_direction_13 : decode cX0_direction 13 = .ok (.ireturn, 1) := by decide +kernel
theorem dX0_direction_14 : decode cX0_direction 14 = .ok (.lload_n 0, 1) := by decide +kernel
theorem dX0_direction_15 : decode cX0_direction 15 = .ok (.lconst 0, 1) := by decide +kernel
theorem dX0_direction_16 : decode cX0_direction 16 = .ok (.lcmp, 1) := by decide +kernel
theorem dX0_direction_17 : decode cX0_direction 17 = .ok (.ifCond .ge 14, 3) := by decide +kernel
theorem dX0_direction_20 : decode cX0_direction 20 = .ok (.lload_n 0, 1) := by decide +kernel
theorem dX0_direction_21 : decode cX0_direction 21 = .ok (.lload_n 2, 1) := by decide +kernel
theorem dX0_direction_22 : decode cX0_direction 22 = .ok (.lneg, 1) := by decide +kernel
theorem dX0_direction_23 : decode cX0_direction 23 = .ok (.lcmp, 1) := by decide +kernel
theorem dX0_direction_24 : decode cX0_direction 24 = .ok (.ifCond .ge 7, 3) := by decide +kernel
theorem dX0_direction_27 : decode cX0_direction 27 = .ok (.iconst (-1), 1) := by decide +kernel
theorem dX0_direction_28 : decode cX0_direction 28 = .ok (.goto 4, 3) := by decide +kernel
theorem dX0_direction_31 : decode cX0_direction 31 = .ok (.iconst 0, 1) := by decide +kernel
theorem dX0_direction_32 : decode cX0_direction 32 = .ok (.ireturn, 1) := by decide +kernel
theorem dX0_shareOut_0 : decode cX0_shareOut 0 = .ok (.aload_n 0, 1) := by decide +kernel
theorem dX0_shareOut_1 : decode cX0_shareOut 1 = .ok (.getfield 96, 3) := by decide +kernel
theorem dX0_shareOut_4 : decode cX0_shareOut 4 = .ok (.lstore_n 3, 1) := by decide +kernel
theorem dX0_shareOut_5 : decode cX0_shareOut 5 = .ok (.iconst 0, 1) := by decide +kernel
theorem dX0_shareOut_6 : decode cX0_shareOut 6 = .ok (.istore 5, 2) := by decide +kernel
theorem dX0_shareOut_8 : decode cX0_shareOut 8 = .ok (.iload 5, 2) := by decide +kernel
theorem dX0_shareOut_10 : decode cX0_shareOut 10 = .ok (.iload_n 2, 1) := by decide +kernel
theorem dX0_shareOut_11 : decode cX0_shareOut 11 = .ok (.if_icmp .ge 81, 3) := by decide +kernel
theorem dX0_shareOut_14 : decode cX0_shareOut 14 = .ok (.iload 5, 2) := by decide +kernel
theorem dX0_shareOut_16 : decode cX0_shareOut 16 = .ok (.iconst 1, 1) := by decide +kernel
theorem dX0_shareOut_17 : decode cX0_shareOut 17 = .ok (.iadd, 1) := by decide +kernel
theorem dX0_shareOut_18 : decode cX0_shareOut 18 = .ok (.istore 6, 2) := by decide +kernel
theorem dX0_shareOut_20 : decode cX0_shareOut 20 = .ok (.iload 6, 2) := by decide +kernel
theorem dX0_shareOut_22 : decode cX0_shareOut 22 = .ok (.iload_n 2, 1) := by decide +kernel
theorem dX0_shareOut_23 : decode cX0_shareOut 23 = .ok (.if_icmp .ge 26, 3) := by decide +kernel
theorem dX0_shareOut_26 : decode cX0_shareOut 26 = .ok (.aload_n 1, 1) := by decide +kernel
theorem dX0_shareOut_27 : decode cX0_shareOut 27 = .ok (.getfield 109, 3) := by decide +kernel
theorem dX0_shareOut_30 : decode cX0_shareOut 30 = .ok (.iload 6, 2) := by decide +kernel
theorem dX0_shareOut_32 : decode cX0_shareOut 32 = .ok (.iaload, 1) := by decide +kernel
theorem dX0_shareOut_33 : decode cX0_shareOut 33 = .ok (.aload_n 1, 1) := by decide +kernel
theorem dX0_shareOut_34 : decode cX0_shareOut 34 = .ok (.getfield 109, 3) := by decide +kernel
theorem dX0_shareOut_37 : decode cX0_shareOut 37 = .ok (.iload 5, 2) := by decide +kernel
theorem dX0_shareOut_39 : decode cX0_shareOut 39 = .ok (.iaload, 1) := by decide +kernel
theorem dX0_shareOut_40 : decode cX0_shareOut 40 = .ok (.if_icmp .ne 9, 3) := by decide +kernel
theorem dX0_shareOut_43 : decode cX0_shareOut 43 = .ok (.iinc 6 1, 3) := by decide +kernel
theorem dX0_shareOut_46 : decode cX0_shareOut 46 = .ok (.goto (-26), 3) := by decide +kernel
theorem dX0_shareOut_49 : decode cX0_shareOut 49 = .ok (.aload_n 1, 1) := by decide +kernel
theorem dX0_shareOut_50 : decode cX0_shareOut 50 = .ok (.iload 5, 2) := by decide +kernel
theorem dX0_shareOut_52 : decode cX0_shareOut 52 = .ok (.iload 6, 2) := by decide +kernel
theorem dX0_shareOut_54 : decode cX0_shareOut 54 = .ok (.invokevirtual 77, 3) := by decide +kernel
theorem dX0_shareOut_57 : decode cX0_shareOut 57 = .ok (.lstore 7, 2) := by decide +kernel
theorem dX0_shareOut_59 : decode cX0_shareOut 59 = .ok (.lload 7, 2) := by decide +kernel
theorem dX0_shareOut_61 : decode cX0_shareOut 61 = .ok (.lload_n 3, 1) := by decide +kernel
theorem dX0_shareOut_62 : decode cX0_shareOut 62 = .ok (.invokestatic 90, 3) := by decide +kernel
theorem dX0_shareOut_65 : decode cX0_shareOut 65 = .ok (.lstore 9, 2) := by decide +kernel
theorem dX0_shareOut_67 : decode cX0_shareOut 67 = .ok (.aload_n 0, 1) := by decide +kernel
theorem dX0_shareOut_68 : decode cX0_shareOut 68 = .ok (.aload_n 1, 1) := by decide +kernel
theorem dX0_shareOut_69 : decode cX0_shareOut 69 = .ok (.iload 5, 2) := by decide +kernel
theorem dX0_shareOut_71 : decode cX0_shareOut 71 = .ok (.iload 6, 2) := by decide +kernel
theorem dX0_shareOut_73 : decode cX0_shareOut 73 = .ok (.lload 7, 2) := by decide +kernel
theorem dX0_shareOut_75 : decode cX0_shareOut 75 = .ok (.lload 9, 2) := by decide +kernel
theorem dX0_shareOut_77 : decode cX0_shareOut 77 = .ok (.invokevirtual 112, 3) := by decide +kernel
theorem dX0_shareOut_80 : decode cX0_shareOut 80 = .ok (.lload_n 3, 1) := by decide +kernel
theorem dX0_shareOut_81 : decode cX0_shareOut 81 = .ok (.lload 9, 2) := by decide +kernel
theorem dX0_shareOut_83 : decode cX0_shareOut 83 = .ok (.lsub, 1) := by decide +kernel
theorem dX0_shareOut_84 : decode cX0_shareOut 84 = .ok (.lstore_n 3, 1) := by decide +kernel
theorem dX0_shareOut_85 : decode cX0_shareOut 85 = .ok (.iload 6, 2) := by decide +kernel
theorem dX0_shareOut_87 : decode cX0_shareOut 87 = .ok (.istore 5, 2) := by decide +kernel
theorem dX0_shareOut_89 : decode cX0_shareOut 89 = .ok (.goto (-81), 3) := by decide +kernel
theorem dX0_shareOut_92 : decode cX0_shareOut 92 = .ok (.return_, 1) := by decide +kernel
theorem dX0_shareOutDay_0 : decode cX0_shareOutDay 0 = .ok (.lload 6, 2) := by decide +kernel
theorem dX0_shareOutDay_2 : decode cX0_shareOutDay 2 = .ok (.lstore 8, 2) := by decide +kernel
theorem dX0_shareOutDay_4 : decode cX0_shareOutDay 4 = .ok (.iload_n 2, 1) := by decide +kernel
theorem dX0_shareOutDay_5 : decode cX0_shareOutDay 5 = .ok (.istore 10, 2) := by decide +kernel
theorem dX0_shareOutDay_7 : decode cX0_shareOutDay 7 = .ok (.iload 10, 2) := by decide +kernel
theorem dX0_shareOutDay_9 : decode cX0_shareOutDay 9 = .ok (.iload_n 3, 1) := by decide +kernel
theorem dX0_shareOutDay_10 : decode cX0_shareOutDay 10 = .ok (.if_icmp .ge 53, 3) := by decide +kernel
theorem dX0_shareOutDay_13 : decode cX0_shareOutDay 13 = .ok (.aload_n 0, 1) := by decide +kernel
theorem dX0_shareOutDay_14 : decode cX0_shareOutDay 14 = .ok (.getfield 9, 3) := by decide +kernel
theorem dX0_shareOutDay_17 : decode cX0_shareOutDay 17 = .ok (.iload 10, 2) := by decide +kernel
theorem dX0_shareOutDay_19 : decode cX0_shareOutDay 19 = .ok (.lload 4, 2) := by decide +kernel
theorem dX0_shareOutDay_21 : decode cX0_shareOutDay 21 = .ok (.lconst 0, 1) := by decide +kernel
theorem dX0_shareOutDay_22 : decode cX0_shareOutDay 22 = .ok (.lcmp, 1) := by decide +kernel
theorem dX0_shareOutDay_23 : decode cX0_shareOutDay 23 = .ok (.ifCond .le 20, 3) := by decide +kernel
theorem dX0_shareOutDay_26 : decode cX0_shareOutDay 26 = .ok (.aload_n 1, 1) := by decide +kernel
theorem dX0_shareOutDay_27 : decode cX0_shareOutDay 27 = .ok (.getfield 116, 3) := by decide +kernel
theorem dX0_shareOutDay_30 : decode cX0_shareOutDay 30 = .ok (.iload 10, 2) := by decide +kernel
theorem dX0_shareOutDay_32 : decode cX0_shareOutDay 32 = .ok (.iaload, 1) := by decide +kernel
theorem dX0_shareOutDay_33 : decode cX0_shareOutDay 33 = .ok (.i2l, 1) := by decide +kernel
theorem dX0_shareOutDay_34 : decode cX0_shareOutDay 34 = .ok (.lload 6, 2) := by decide +kernel
theorem dX0_shareOutDay_36 : decode cX0_shareOutDay 36 = .ok (.lmul, 1) := by decide +kernel
theorem dX0_shareOutDay_37 : decode cX0_shareOutDay 37 = .ok (.lload 4, 2) := by decide +kernel
theorem dX0_shareOutDay_39 : decode cX0_shareOutDay 39 = .ok (.ldiv, 1) := by decide +kernel
theorem dX0_shareOutDay_40 : decode cX0_shareOutDay 40 = .ok (.goto 4, 3) := by decide +kernel
theorem dX0_shareOutDay_43 : decode cX0_shareOutDay 43 = .ok (.lconst 0, 1) := by decide +kernel
theorem dX0_shareOutDay_44 : decode cX0_shareOutDay 44 = .ok (.lastore, 1) := by decide +kernel
theorem dX0_shareOutDay_45 : decode cX0_shareOutDay 45 = .ok (.lload 8, 2) := by decide +kernel
theorem dX0_shareOutDay_47 : decode cX0_shareOutDay 47 = .ok (.aload_n 0, 1) := by decide +kernel
theorem dX0_shareOutDay_48 : decode cX0_shareOutDay 48 = .ok (.getfield 9, 3) := by decide +kernel
theorem dX0_shareOutDay_51 : decode cX0_shareOutDay 51 = .ok (.iload 10, 2) := by decide +kernel
theorem dX0_shareOutDay_53 : decode cX0_shareOutDay 53 = .ok (.laload, 1) := by decide +kernel
theorem dX0_shareOutDay_54 : decode cX0_shareOutDay 54 = .ok (.lsub, 1) := by decide +kernel
theorem dX0_shareOutDay_55 : decode cX0_shareOutDay 55 = .ok (.lstore 8, 2) := by decide +kernel
theorem dX0_shareOutDay_57 : decode cX0_shareOutDay 57 = .ok (.iinc 10 1, 3) := by decide +kernel
theorem dX0_shareOutDay_60 : decode cX0_shareOutDay 60 = .ok (.goto (-53), 3) := by decide +kernel
theorem dX0_shareOutDay_63 : decode cX0_shareOutDay 63 = .ok (.iload_n 2, 1) := by decide +kernel
theorem dX0_shareOutDay_64 : decode cX0_shareOutDay 64 = .ok (.istore 10, 2) := by decide +kernel
theorem dX0_shareOutDay_66 : decode cX0_shareOutDay 66 = .ok (.iload 10, 2) := by decide +kernel
theorem dX0_shareOutDay_68 : decode cX0_shareOutDay 68 = .ok (.iload_n 3, 1) := by decide +kernel
theorem dX0_shareOutDay_69 : decode cX0_shareOutDay 69 = .ok (.if_icmp .ge 52, 3) := by decide +kernel
theorem dX0_shareOutDay_72 : decode cX0_shareOutDay 72 = .ok (.lload 8, 2) := by decide +kernel
theorem dX0_shareOutDay_74 : decode cX0_shareOutDay 74 = .ok (.lconst 0, 1) := by decide +kernel
theorem dX0_shareOutDay_75 : decode cX0_shareOutDay 75 = .ok (.lcmp, 1) := by decide +kernel
theorem dX0_shareOutDay_76 : decode cX0_shareOutDay 76 = .ok (.ifCond .le 45, 3) := by decide +kernel
theorem dX0_shareOutDay_79 : decode cX0_shareOutDay 79 = .ok (.aload_n 0, 1) := by decide +kernel
theorem dX0_shareOutDay_80 : decode cX0_shareOutDay 80 = .ok (.getfield 9, 3) := by decide +kernel
theorem dX0_shareOutDay_83 : decode cX0_shareOutDay 83 = .ok (.iload 10, 2) := by decide +kernel
theorem dX0_shareOutDay_85 : decode cX0_shareOutDay 85 = .ok (.laload, 1) := by decide +kernel
theorem dX0_shareOutDay_86 : decode cX0_shareOutDay 86 = .ok (.aload_n 1, 1) := by decide +kernel
theorem dX0_shareOutDay_87 : decode cX0_shareOutDay 87 = .ok (.getfield 116, 3) := by decide +kernel
theorem dX0_shareOutDay_90 : decode cX0_shareOutDay 90 = .ok (.iload 10, 2) := by decide +kernel
theorem dX0_shareOutDay_92 : decode cX0_shareOutDay 92 = .ok (.iaload, 1) := by decide +kernel
theorem dX0_shareOutDay_93 : decode cX0_shareOutDay 93 = .ok (.i2l, 1) := by decide +kernel
theorem dX0_shareOutDay_94 : decode cX0_shareOutDay 94 = .ok (.lcmp, 1) := by decide +kernel
theorem dX0_shareOutDay_95 : decode cX0_shareOutDay 95 = .ok (.ifCond .ge 20, 3) := by decide +kernel
theorem dX0_shareOutDay_98 : decode cX0_shareOutDay 98 = .ok (.aload_n 0, 1) := by decide +kernel
theorem dX0_shareOutDay_99 : decode cX0_shareOutDay 99 = .ok (.getfield 9, 3) := by decide +kernel
theorem dX0_shareOutDay_102 : decode cX0_shareOutDay 102 = .ok (.iload 10, 2) := by decide +kernel
theorem dX0_shareOutDay_104 : decode cX0_shareOutDay 104 = .ok (.dup2, 1) := by decide +kernel
theorem dX0_shareOutDay_105 : decode cX0_shareOutDay 105 = .ok (.laload, 1) := by decide +kernel
theorem dX0_shareOutDay_106 : decode cX0_shareOutDay 106 = .ok (.lconst 1, 1) := by decide +kernel
theorem dX0_shareOutDay_107 : decode cX0_shareOutDay 107 = .ok (.ladd, 1) := by decide +kernel
theorem dX0_shareOutDay_108 : decode cX0_shareOutDay 108 = .ok (.lastore, 1) := by decide +kernel
theorem dX0_shareOutDay_109 : decode cX0_shareOutDay 109 = .ok (.lload 8, 2) := by decide +kernel
theorem dX0_shareOutDay_111 : decode cX0_shareOutDay 111 = .ok (.lconst 1, 1) := by decide +kernel
theorem dX0_shareOutDay_112 : decode cX0_shareOutDay 112 = .ok (.lsub, 1) := by decide +kernel
theorem dX0_shareOutDay_113 : decode cX0_shareOutDay 113 = .ok (.lstore 8, 2) := by decide +kernel
theorem dX0_shareOutDay_115 : decode cX0_shareOutDay 115 = .ok (.iinc 10 1, 3) := by decide +kernel
theorem dX0_shareOutDay_118 : decode cX0_shareOutDay 118 = .ok (.goto (-52), 3) := by decide +kernel
theorem dX0_shareOutDay_121 : decode cX0_shareOutDay 121 = .ok (.return_, 1) := by decide +kernel
theorem dX0_payLeavers_0 : decode cX0_payLeavers 0 = .ok (.iconst 1, 1) := by decide +kernel
theorem dX0_payLeavers_1 : decode cX0_payLeavers 1 = .ok (.istore_n 3, 1) := by decide +kernel
theorem dX0_payLeavers_2 : decode cX0_payLeavers 2 = .ok (.iconst 0, 1) := by decide +kernel
theorem dX0_payLeavers_3 : decode cX0_payLeavers 3 = .ok (.istore 4, 2) := by decide +kernel
theorem dX0_payLeavers_5 : decode cX0_payLeavers 5 = .ok (.iload 4, 2) := by decide +kernel
theorem dX0_payLeavers_7 : decode cX0_payLeavers 7 = .ok (.iload_n 2, 1) := by decide +kernel
theorem dX0_payLeavers_8 : decode cX0_payLeavers 8 = .ok (.if_icmp .ge 33, 3) := by decide +kernel
theorem dX0_payLeavers_11 : decode cX0_payLeavers 11 = .ok (.iload_n 3, 1) := by decide +kernel
theorem dX0_payLeavers_12 : decode cX0_payLeavers 12 = .ok (.ifCond .eq 29, 3) := by decide +kernel
theorem dX0_payLeavers_15 : decode cX0_payLeavers 15 = .ok (.aload_n 0, 1) := by decide +kernel
theorem dX0_payLeavers_16 : decode cX0_payLeavers 16 = .ok (.getfield 9, 3) := by decide +kernel
theorem dX0_payLeavers_19 : decode cX0_payLeavers 19 = .ok (.iload 4, 2) := by decide +kernel
theorem dX0_payLeavers_21 : decode cX0_payLeavers 21 = .ok (.laload, 1) := by decide +kernel
theorem dX0_payLeavers_22 : decode cX0_payLeavers 22 = .ok (.lconst 0, 1) := by decide +kernel
theorem dX0_payLeavers_23 : decode cX0_payLeavers 23 = .ok (.lcmp, 1) := by decide +kernel
theorem dX0_payLeavers_24 : decode cX0_payLeavers 24 = .ok (.ifCond .le 11, 3) := by decide +kernel
theorem dX0_payLeavers_27 : decode cX0_payLeavers 27 = .ok (.aload_n 0, 1) := by decide +kernel
theorem dX0_payLeavers_28 : decode cX0_payLeavers 28 = .ok (.aload_n 1, 1) := by decide +kernel
theorem dX0_payLeavers_29 : decode cX0_payLeavers 29 = .ok (.iload 4, 2) := by decide +kernel
theorem dX0_payLeavers_31 : decode cX0_payLeavers 31 = .ok (.invokevirtual 119, 3) := by decide +kernel
theorem dX0_payLeavers_34 : decode cX0_payLeavers 34 = .ok (.istore_n 3, 1) := by decide +kernel
theorem dX0_payLeavers_35 : decode cX0_payLeavers 35 = .ok (.iinc 4 1, 3) := by decide +kernel
theorem dX0_payLeavers_38 : decode cX0_payLeavers 38 = .ok (.goto (-33), 3) := by decide +kernel
theorem dX0_payLeavers_41 : decode cX0_payLeavers 41 = .ok (.aload_n 1, 1) := by decide +kernel
theorem dX0_payLeavers_42 : decode cX0_payLeavers 42 = .ok (.getfield 35, 3) := by decide +kernel
theorem dX0_payLeavers_45 : decode cX0_payLeavers 45 = .ok (.invokevirtual 123, 3) := by decide +kernel
theorem dX0_payLeavers_48 : decode cX0_payLeavers 48 = .ok (.return_, 1) := by decide +kernel
theorem dX0_payLeaver_0 : decode cX0_payLeaver 0 = .ok (.aload_n 0, 1) := by decide +kernel
theorem dX0_payLeaver_1 : decode cX0_payLeaver 1 = .ok (.getfield 9, 3) := by decide +kernel
theorem dX0_payLeaver_4 : decode cX0_payLeaver 4 = .ok (.iload_n 2, 1) := by decide +kernel
theorem dX0_payLeaver_5 : decode cX0_payLeaver 5 = .ok (.laload, 1) := by decide +kernel
theorem dX0_payLeaver_6 : decode cX0_payLeaver 6 = .ok (.lstore_n 3, 1) := by decide +kernel
theorem dX0_payLeaver_7 : decode cX0_payLeaver 7 = .ok (.lload_n 3, 1) := by decide +kernel
theorem dX0_payLeaver_8 : decode cX0_payLeaver 8 = .ok (.aload_n 0, 1) := by decide +kernel
theorem dX0_payLeaver_9 : decode cX0_payLeaver 9 = .ok (.getfield 19, 3) := by decide +kernel
theorem dX0_payLeaver_12 : decode cX0_payLeaver 12 = .ok (.lmul, 1) := by decide +kernel
theorem dX0_payLeaver_13 : decode cX0_payLeaver 13 = .ok (.ldc2_w 88, 3) := by decide +kernel
theorem dX0_payLeaver_16 : decode cX0_payLeaver 16 = .ok (.ldiv, 1) := by decide +kernel
theorem dX0_payLeaver_17 : decode cX0_payLeaver 17 = .ok (.lstore 5, 2) := by decide +kernel
theorem dX0_payLeaver_19 : decode cX0_payLeaver 19 = .ok (.aload_n 1, 1) := by decide +kernel
theorem dX0_payLeaver_20 : decode cX0_payLeaver 20 = .ok (.getfield 23, 3) := by decide +kernel
theorem dX0_payLeaver_23 : decode cX0_payLeaver 23 = .ok (.dup, 1) := by decide +kernel
theorem dX0_payLeaver_24 : decode cX0_payLeaver 24 = .ok (.getfield 126, 3) := by decide +kernel
theorem dX0_payLeaver_27 : decode cX0_payLeaver 27 = .ok (.aload_n 1, 1) := by decide +kernel
theorem dX0_payLeaver_28 : decode cX0_payLeaver 28 = .ok (.lload 5, 2) := by decide +kernel
theorem dX0_payLeaver_30 : decode cX0_payLeaver 30 = .ok (.invokevirtual 129, 3) := by decide +kernel
theorem dX0_payLeaver_33 : decode cX0_payLeaver 33 = .ok (.iadd, 1) := by decide +kernel
theorem dX0_payLeaver_34 : decode cX0_payLeaver 34 = .ok (.putfield 126, 3) := by decide +kernel
theorem dX0_payLeaver_37 : decode cX0_payLeaver 37 = .ok (.aload_n 1, 1) := by decide +kernel
theorem dX0_payLeaver_38 : decode cX0_payLeaver 38 = .ok (.getfield 133, 3) := by decide +kernel
theorem dX0_payLeaver_41 : decode cX0_payLeaver 41 = .ok (.lload 5, 2) := by decide +kernel
theorem dX0_payLeaver_43 : decode cX0_payLeaver 43 = .ok (.lcmp, 1) := by decide +kernel
theorem dX0_payLeaver_44 : decode cX0_payLeaver 44 = .ok (.ifCond .ge 5, 3) := by decide +kernel
theorem dX0_payLeaver_47 : decode cX0_payLeaver 47 = .ok (.iconst 0, 1) := by decide +kernel
theorem dX0_payLeaver_48 : decode cX0_payLeaver 48 = .ok (.ireturn, 1) := by decide +kernel
theorem dX0_payLeaver_49 : decode cX0_payLeaver 49 = .ok (.aload_n 1, 1) := by decide +kernel
theorem dX0_payLeaver_50 : decode cX0_payLeaver 50 = .ok (.aload_n 1, 1) := by decide +kernel
theorem dX0_payLeaver_51 : decode cX0_payLeaver 51 = .ok (.getfield 136, 3) := by decide +kernel
theorem dX0_payLeaver_54 : decode cX0_payLeaver 54 = .ok (.aload_n 1, 1) := by decide +kernel
theorem dX0_payLeaver_55 : decode cX0_payLeaver 55 = .ok (.getfield 35, 3) := by decide +kernel
theorem dX0_payLeaver_58 : decode cX0_payLeaver 58 = .ok (.getfield 140, 3) := by decide +kernel
theorem dX0_payLeaver_61 : decode cX0_payLeaver 61 = .ok (.iload_n 2, 1) := by decide +kernel
theorem dX0_payLeaver_62 : decode cX0_payLeaver 62 = .ok (.iaload, 1) := by decide +kernel
theorem dX0_payLeaver_63 : decode cX0_payLeaver 63 = .ok (.aaload, 1) := by decide +kernel
theorem dX0_payLeaver_64 : decode cX0_payLeaver 64 = .ok (.lload_n 3, 1) := by decide +kernel
theorem dX0_payLeaver_65 : decode cX0_payLeaver 65 = .ok (.lload 5, 2) := by decide +kernel
theorem dX0_payLeaver_67 : decode cX0_payLeaver 67 = .ok (.aload_n 0, 1) := by decide +kernel
theorem dX0_payLeaver_68 : decode cX0_payLeaver 68 = .ok (.getfield 72, 3) := by decide +kernel
theorem dX0_payLeaver_71 : decode cX0_payLeaver 71 = .ok (.invokevirtual 142, 3) := by decide +kernel
theorem dX0_payLeaver_74 : decode cX0_payLeaver 74 = .ok (.aload_n 1, 1) := by decide +kernel
theorem dX0_payLeaver_75 : decode cX0_payLeaver 75 = .ok (.getfield 35, 3) := by decide +kernel
theorem dX0_payLeaver_78 : decode cX0_payLeaver 78 = .ok (.getfield 116, 3) := by decide +kernel
theorem dX0_payLeaver_81 : decode cX0_payLeaver 81 = .ok (.iload_n 2, 1) := by decide +kernel
theorem dX0_payLeaver_82 : decode cX0_payLeaver 82 = .ok (.dup2, 1) := by decide +kernel
theorem dX0_payLeaver_83 : decode cX0_payLeaver 83 = .ok (.iaload, 1) := by decide +kernel
theorem dX0_payLeaver_84 : decode cX0_payLeaver 84 = .ok (.lload_n 3, 1) := by decide +kernel
theorem dX0_payLeaver_85 : decode cX0_payLeaver 85 = .ok (.l2i, 1) := by decide +kernel
theorem dX0_payLeaver_86 : decode cX0_payLeaver 86 = .ok (.isub, 1) := by decide +kernel
theorem dX0_payLeaver_87 : decode cX0_payLeaver 87 = .ok (.iastore, 1) := by decide +kernel
theorem dX0_payLeaver_88 : decode cX0_payLeaver 88 = .ok (.aload_n 1, 1) := by decide +kernel
theorem dX0_payLeaver_89 : decode cX0_payLeaver 89 = .ok (.getfield 23, 3) := by decide +kernel
theorem dX0_payLeaver_92 : decode cX0_payLeaver 92 = .ok (.dup, 1) := by decide +kernel
theorem dX0_payLeaver_93 : decode cX0_payLeaver 93 = .ok (.getfield 146, 3) := by decide +kernel
theorem dX0_payLeaver_96 : decode cX0_payLeaver 96 = .ok (.lload_n 3, 1) := by decide +kernel
theorem dX0_payLeaver_97 : decode cX0_payLeaver 97 = .ok (.ladd, 1) := by decide +kernel
theorem dX0_payLeaver_98 : decode cX0_payLeaver 98 = .ok (.putfield 146, 3) := by decide +kernel
theorem dX0_payLeaver_101 : decode cX0_payLeaver 101 = .ok (.aload_n 1, 1) := by decide +kernel
theorem dX0_payLeaver_102 : decode cX0_payLeaver 102 = .ok (.getfield 23, 3) := by decide +kernel
theorem dX0_payLeaver_105 : decode cX0_payLeaver 105 = .ok (.dup, 1) := by decide +kernel
theorem dX0_payLeaver_106 : decode cX0_payLeaver 106 = .ok (.getfield 149, 3) := by decide +kernel
theorem dX0_payLeaver_109 : decode cX0_payLeaver 109 = .ok (.lload_n 3, 1) := by decide +kernel
theorem dX0_payLeaver_110 : decode cX0_payLeaver 110 = .ok (.lsub, 1) := by decide +kernel
theorem dX0_payLeaver_111 : decode cX0_payLeaver 111 = .ok (.putfield 149, 3) := by decide +kernel
theorem dX0_payLeaver_114 : decode cX0_payLeaver 114 = .ok (.iconst 1, 1) := by decide +kernel
theorem dX0_payLeaver_115 : decode cX0_payLeaver 115 = .ok (.ireturn, 1) := by decide +kernel
theorem dX0_doBuyers_0 : decode cX0_doBuyers 0 = .ok (.iconst 0, 1) := by decide +kernel
theorem dX0_doBuyers_1 : decode cX0_doBuyers 1 = .ok (.istore_n 3, 1) := by decide +kernel
theorem dX0_doBuyers_2 : decode cX0_doBuyers 2 = .ok (.iload_n 3, 1) := by decide +kernel
theorem dX0_doBuyers_3 : decode cX0_doBuyers 3 = .ok (.iload_n 2, 1) := by decide +kernel
theorem dX0_doBuyers_4 : decode cX0_doBuyers 4 = .ok (.if_icmp .ge 135, 3) := by decide +kernel
theorem dX0_doBuyers_7 : decode cX0_doBuyers 7 = .ok (.aload_n 1, 1) := by decide +kernel
theorem dX0_doBuyers_8 : decode cX0_doBuyers 8 = .ok (.getfield 57, 3) := by decide +kernel
theorem dX0_doBuyers_11 : decode cX0_doBuyers 11 = .ok (.getfield 116, 3) := by decide +kernel
theorem dX0_doBuyers_14 : decode cX0_doBuyers 14 = .ok (.iload_n 3, 1) := by decide +kernel
theorem dX0_doBuyers_15 : decode cX0_doBuyers 15 = .ok (.iaload, 1) := by decide +kernel
theorem dX0_doBuyers_16 : decode cX0_doBuyers 16 = .ok (.i2l, 1) := by decide +kernel
theorem dX0_doBuyers_17 : decode cX0_doBuyers 17 = .ok (.lstore 4, 2) := by decide +kernel
theorem dX0_doBuyers_19 : decode cX0_doBuyers 19 = .ok (.aload_n 0, 1) := by decide +kernel
theorem dX0_doBuyers_20 : decode cX0_doBuyers 20 = .ok (.getfield 19, 3) := by decide +kernel
theorem dX0_doBuyers_23 : decode cX0_doBuyers 23 = .ok (.lconst 0, 1) := by decide +kernel
theorem dX0_doBuyers_24 : decode cX0_doBuyers 24 = .ok (.lcmp, 1) := by decide +kernel
theorem dX0_doBuyers_25 : decode cX0_doBuyers 25 = .ok (.ifCond .le 17, 3) := by decide +kernel
theorem dX0_doBuyers_28 : decode cX0_doBuyers 28 = .ok (.ldc2_w 88, 3) := by decide +kernel
theorem dX0_doBuyers_31 : decode cX0_doBuyers 31 = .ok (.lload 4, 2) := by decide +kernel
theorem dX0_doBuyers_33 : decode cX0_doBuyers 33 = .ok (.lmul, 1) := by decide +kernel
theorem dX0_doBuyers_34 : decode cX0_doBuyers 34 = .ok (.aload_n 0, 1) := by decide +kernel
theorem dX0_doBuyers_35 : decode cX0_doBuyers 35 = .ok (.getfield 19, 3) := by decide +kernel
theorem dX0_doBuyers_38 : decode cX0_doBuyers 38 = .ok (.ldiv, 1) := by decide +kernel
theorem dX0_doBuyers_39 : decode cX0_doBuyers 39 = .ok (.goto 4, 3) := by decide +kernel
theorem dX0_doBuyers_42 : decode cX0_doBuyers 42 = .ok (.lconst 0, 1) := by decide +kernel
theorem dX0_doBuyers_43 : decode cX0_doBuyers 43 = .ok (.lstore 6, 2) := by decide +kernel
theorem dX0_doBuyers_45 : decode cX0_doBuyers 45 = .ok (.lload 6, 2) := by decide +kernel
theorem dX0_doBuyers_47 : decode cX0_doBuyers 47 = .ok (.lconst 0, 1) := by decide +kernel
theorem dX0_doBuyers_48 : decode cX0_doBuyers 48 = .ok (.lcmp, 1) := by decide +kernel
theorem dX0_doBuyers_49 : decode cX0_doBuyers 49 = .ok (.ifCond .eq 17, 3) := by decide +kernel
theorem dX0_doBuyers_52 : decode cX0_doBuyers 52 = .ok (.aload_n 1, 1) := by decide +kernel
theorem dX0_doBuyers_53 : decode cX0_doBuyers 53 = .ok (.invokevirtual 74, 3) := by decide +kernel
theorem dX0_doBuyers_56 : decode cX0_doBuyers 56 = .ok (.lload 6, 2) := by decide +kernel
theorem dX0_doBuyers_58 : decode cX0_doBuyers 58 = .ok (.ladd, 1) := by decide +kernel
theorem dX0_doBuyers_59 : decode cX0_doBuyers 59 = .ok (.ldc2_w 152, 3) := by decide +kernel
theorem dX0_doBuyers_62 : decode cX0_doBuyers 62 = .ok (.lcmp, 1) := by decide +kernel
theorem dX0_doBuyers_63 : decode cX0_doBuyers 63 = .ok (.ifCond .le 20, 3) := by decide +kernel
theorem dX0_doBuyers_66 : decode cX0_doBuyers 66 = .ok (.aload_n 1, 1) := by decide +kernel
theorem dX0_doBuyers_67 : decode cX0_doBuyers 67 = .ok (.getfield 23, 3) := by decide +kernel
theorem dX0_doBuyers_70 : decode cX0_doBuyers 70 = .ok (.dup, 1) := by decide +kernel
theorem dX0_doBuyers_71 : decode cX0_doBuyers 71 = .ok (.getfield 154, 3) := by decide +kernel
theorem dX0_doBuyers_74 : decode cX0_doBuyers 74 = .ok (.lload 4, 2) := by decide +kernel
theorem dX0_doBuyers_76 : decode cX0_doBuyers 76 = .ok (.ladd, 1) := by decide +kernel
theorem dX0_doBuyers_77 : decode cX0_doBuyers 77 = .ok (.putfield 154, 3) := by decide +kernel
theorem dX0_doBuyers_80 : decode cX0_doBuyers 80 = .ok (.goto 43, 3) := by decide +kernel
theorem dX0_doBuyers_83 : decode cX0_doBuyers 83 = .ok (.aload_n 1, 1) := by decide +kernel
theorem dX0_doBuyers_84 : decode cX0_doBuyers 84 = .ok (.aload_n 1, 1) := by decide +kernel
theorem dX0_doBuyers_85 : decode cX0_doBuyers 85 = .ok (.getfield 136, 3) := by decide +kernel
theorem dX0_doBuyers_88 : decode cX0_doBuyers 88 = .ok (.aload_n 1, 1) := by decide +kernel
theorem dX0_doBuyers_89 : decode cX0_doBuyers 89 = .ok (.getfield 57, 3) := by decide +kernel
theorem dX0_doBuyers_92 : decode cX0_doBuyers 92 = .ok (.getfield 140, 3) := by decide +kernel
theorem dX0_doBuyers_95 : decode cX0_doBuyers 95 = .ok (.iload_n 3, 1) := by decide +kernel
theorem dX0_doBuyers_96 : decode cX0_doBuyers 96 = .ok (.iaload, 1) := by decide +kernel
theorem dX0_doBuyers_97 : decode cX0_doBuyers 97 = .ok (.aaload, 1) := by decide +kernel
theorem dX0_doBuyers_98 : decode cX0_doBuyers 98 = .ok (.lload 6, 2) := by decide +kernel
theorem dX0_doBuyers_100 : decode cX0_doBuyers 100 = .ok (.lload 4, 2) := by decide +kernel
theorem dX0_doBuyers_102 : decode cX0_doBuyers 102 = .ok (.aload_n 0, 1) := by decide +kernel
theorem dX0_doBuyers_103 : decode cX0_doBuyers 103 = .ok (.getfield 72, 3) := by decide +kernel
theorem dX0_doBuyers_106 : decode cX0_doBuyers 106 = .ok (.invokevirtual 157, 3) := by decide +kernel
theorem dX0_doBuyers_109 : decode cX0_doBuyers 109 = .ok (.aload_n 1, 1) := by decide +kernel
theorem dX0_doBuyers_110 : decode cX0_doBuyers 110 = .ok (.getfield 23, 3) := by decide +kernel
theorem dX0_doBuyers_113 : decode cX0_doBuyers 113 = .ok (.dup, 1) := by decide +kernel
theorem dX0_doBuyers_114 : decode cX0_doBuyers 114 = .ok (.getfield 160, 3) := by decide +kernel
theorem dX0_doBuyers_117 : decode cX0_doBuyers 117 = .ok (.lload 6, 2) := by decide +kernel
theorem dX0_doBuyers_119 : decode cX0_doBuyers 119 = .ok (.ladd, 1) := by decide +kernel
theorem dX0_doBuyers_120 : decode cX0_doBuyers 120 = .ok (.putfield 160, 3) := by decide +kernel
theorem dX0_doBuyers_123 : decode cX0_doBuyers 123 = .ok (.aload_n 1, 1) := by decide +kernel
theorem dX0_doBuyers_124 : decode cX0_doBuyers 124 = .ok (.getfield 57, 3) := by decide +kernel
theorem dX0_doBuyers_127 : decode cX0_doBuyers 127 = .ok (.getfield 116, 3) := by decide +kernel
theorem dX0_doBuyers_130 : decode cX0_doBuyers 130 = .ok (.iload_n 3, 1) := by decide +kernel
theorem dX0_doBuyers_131 : decode cX0_doBuyers 131 = .ok (.iconst 0, 1) := by decide +kernel
theorem dX0_doBuyers_132 : decode cX0_doBuyers 132 = .ok (.iastore, 1) := by decide +kernel
theorem dX0_doBuyers_133 : decode cX0_doBuyers 133 = .ok (.iinc 3 1, 3) := by decide +kernel
theorem dX0_doBuyers_136 : decode cX0_doBuyers 136 = .ok (.goto (-134), 3) := by decide +kernel
theorem dX0_doBuyers_139 : decode cX0_doBuyers 139 = .ok (.aload_n 1, 1) := by decide +kernel
theorem dX0_doBuyers_140 : decode cX0_doBuyers 140 = .ok (.getfield 57, 3) := by decide +kernel
theorem dX0_doBuyers_143 : decode cX0_doBuyers 143 = .ok (.invokevirtual 123, 3) := by decide +kernel
theorem dX0_doBuyers_146 : decode cX0_doBuyers 146 = .ok (.return_, 1) := by decide +kernel
theorem dX1_init_0 : decode cX1_init 0 = .ok (.aload_n 0, 1) := by decide +kernel
theorem dX1_init_1 : decode cX1_init 1 = .ok (.invokespecial 3, 3) := by decide +kernel
theorem dX1_init_4 : decode cX1_init 4 = .ok (.aload_n 0, 1) := by decide +kernel
theorem dX1_init_5 : decode cX1_init 5 = .ok (.bipush 7, 2) := by decide +kernel
theorem dX1_init_7 : decode cX1_init 7 = .ok (.anewarray 9, 3) := by decide +kernel
theorem dX1_init_10 : decode cX1_init 10 = .ok (.putfield 11, 3) := by decide +kernel
theorem dX1_init_13 : decode cX1_init 13 = .ok (.iconst 0, 1) := by decide +kernel
theorem dX1_init_14 : decode cX1_init 14 = .ok (.istore_n 1, 1) := by decide +kernel
theorem dX1_init_15 : decode cX1_init 15 = .ok (.iload_n 1, 1) := by decide +kernel
theorem dX1_init_16 : decode cX1_init 16 = .ok (.bipush 6, 2) := by decide +kernel
theorem dX1_init_18 : decode cX1_init 18 = .ok (.if_icmp .gt 22, 3) := by decide +kernel
theorem dX1_init_21 : decode cX1_init 21 = .ok (.aload_n 0, 1) := by decide +kernel
theorem dX1_init_22 : decode cX1_init 22 = .ok (.getfield 11, 3) := by decide +kernel
theorem dX1_init_25 : decode cX1_init 25 = .ok (.iload_n 1, 1) := by decide +kernel
theorem dX1_init_26 : decode cX1_init 26 = .ok (.new 9, 3) := by decide +kernel
theorem dX1_init_29 : decode cX1_init 29 = .ok (.dup, 1) := by decide +kernel
theorem dX1_init_30 : decode cX1_init 30 = .ok (.invokespecial 17, 3) := by decide +kernel
theorem dX1_init_33 : decode cX1_init 33 = .ok (.aastore, 1) := by decide +kernel
theorem dX1_init_34 : decode cX1_init 34 = .ok (.iinc 1 1, 3) := by decide +kernel
theorem dX1_init_37 : decode cX1_init 37 = .ok (.goto (-22), 3) := by decide +kernel
theorem dX1_init_40 : decode cX1_init 40 = .ok (.return_, 1) := by decide +kernel
theorem dX1_hold_0 : decode cX1_hold 0 = .ok (.aload_n 0, 1) := by decide +kernel
theorem dX1_hold_1 : decode cX1_hold 1 = .ok (.getfield 11, 3) := by decide +kernel
theorem dX1_hold_4 : decode cX1_hold 4 = .ok (.aload_n 0, 1) := by decide +kernel
theorem dX1_hold_5 : decode cX1_hold 5 = .ok (.getfield 18, 3) := by decide +kernel
theorem dX1_hold_8 : decode cX1_hold 8 = .ok (.aload_n 0, 1) := by decide +kernel
theorem dX1_hold_9 : decode cX1_hold 9 = .ok (.getfield 22, 3) := by decide +kernel
theorem dX1_hold_12 : decode cX1_hold 12 = .ok (.iadd, 1) := by decide +kernel
theorem dX1_hold_13 : decode cX1_hold 13 = .ok (.bipush 7, 2) := by decide +kernel
theorem dX1_hold_15 : decode cX1_hold 15 = .ok (.irem, 1) := by decide +kernel
theorem dX1_hold_16 : decode cX1_hold 16 = .ok (.aaload, 1) := by decide +kernel
theorem dX1_hold_17 : decode cX1_hold 17 = .ok (.aload_n 1, 1) := by decide +kernel
theorem dX1_hold_18 : decode cX1_hold 18 = .ok (.invokevirtual 25, 3) := by decide +kernel
theorem dX1_hold_21 : decode cX1_hold 21 = .ok (.return_, 1) := by decide +kernel
theorem dX1_keep_0 : decode cX1_keep 0 = .ok (.iload_n 1, 1) := by decide +kernel
theorem dX1_keep_1 : decode cX1_keep 1 = .ok (.ifCond .lt 25, 3) := by decide +kernel
theorem dX1_keep_4 : decode cX1_keep 4 = .ok (.aload_n 0, 1) := by decide +kernel
theorem dX1_keep_5 : decode cX1_keep 5 = .ok (.getfield 22, 3) := by decide +kernel
theorem dX1_keep_8 : decode cX1_keep 8 = .ok (.bipush 6, 2) := by decide +kernel
theorem dX1_keep_10 : decode cX1_keep 10 = .ok (.if_icmp .ge 16, 3) := by decide +kernel
theorem dX1_keep_13 : decode cX1_keep 13 = .ok (.aload_n 0, 1) := by decide +kernel
theorem dX1_keep_14 : decode cX1_keep 14 = .ok (.dup, 1) := by decide +kernel
theorem dX1_keep_15 : decode cX1_keep 15 = .ok (.getfield 22, 3) := by decide +kernel
theorem dX1_keep_18 : decode cX1_keep 18 = .ok (.iconst 1, 1) := by decide +kernel
theorem dX1_keep_19 : decode cX1_keep 19 = .ok (.iadd, 1) := by decide +kernel
theorem dX1_keep_20 : decode cX1_keep 20 = .ok (.putfield 22, 3) := by decide +kernel
theorem dX1_keep_23 : decode cX1_keep 23 = .ok (.goto 20, 3) := by decide +kernel
theorem dX1_keep_26 : decode cX1_keep 26 = .ok (.iload_n 1, 1) := by decide +kernel
theorem dX1_keep_27 : decode cX1_keep 27 = .ok (.ifCond .lt 16, 3) := by decide +kernel
theorem dX1_keep_30 : decode cX1_keep 30 = .ok (.aload_n 0, 1) := by decide +kernel
theorem dX1_keep_31 : decode cX1_keep 31 = .ok (.aload_n 0, 1) := by decide +kernel
theorem dX1_keep_32 : decode cX1_keep 32 = .ok (.getfield 18, 3) := by decide +kernel
theorem dX1_keep_35 : decode cX1_keep 35 = .ok (.iconst 1, 1) := by decide +kernel
theorem dX1_keep_36 : decode cX1_keep 36 = .ok (.iadd, 1) := by decide +kernel
theorem dX1_keep_37 : decode cX1_keep 37 = .ok (.bipush 7, 2) := by decide +kernel
theorem dX1_keep_39 : decode cX1_keep 39 = .ok (.irem, 1) := by decide +kernel
theorem dX1_keep_40 : decode cX1_keep 40 = .ok (.putfield 18, 3) := by decide +kernel
theorem dX1_keep_43 : decode cX1_keep 43 = .ok (.iload_n 1, 1) := by decide +kernel
theorem dX1_keep_44 : decode cX1_keep 44 = .ok (.ireturn, 1) := by decide +kernel
theorem dX1_takeBack_0 : decode cX1_takeBack 0 = .ok (.aload_n 0, 1) := by decide +kernel
theorem dX1_takeBack_1 : decode cX1_takeBack 1 = .ok (.getfield 22, 3) := by decide +kernel
theorem dX1_takeBack_4 : decode cX1_takeBack 4 = .ok (.ifCond .le 34, 3) := by decide +kernel
theorem dX1_takeBack_7 : decode cX1_takeBack 7 = .ok (.aload_n 0, 1) := by decide +kernel
theorem dX1_takeBack_8 : decode cX1_takeBack 8 = .ok (.dup, 1) := by decide +kernel
theorem dX1_takeBack_9 : decode cX1_takeBack 9 = .ok (.getfield 22, 3) := by decide +kernel
theorem dX1_takeBack_12 : decode cX1_takeBack 12 = .ok (.iconst 1, 1) := by decide +kernel
theorem dX1_takeBack_13 : decode cX1_takeBack 13 = .ok (.isub, 1) := by decide +kernel
theorem dX1_takeBack_14 : decode cX1_takeBack 14 = .ok (.putfield 22, 3) := by decide +kernel
theorem dX1_takeBack_17 : decode cX1_takeBack 17 = .ok (.aload_n 1, 1) := by decide +kernel
theorem dX1_takeBack_18 : decode cX1_takeBack 18 = .ok (.aload_n 0, 1) := by decide +kernel
theorem dX1_takeBack_19 : decode cX1_takeBack 19 = .ok (.getfield 11, 3) := by decide +kernel
theorem dX1_takeBack_22 : decode cX1_takeBack 22 = .ok (.aload_n 0, 1) := by decide +kernel
theorem dX1_takeBack_23 : decode cX1_takeBack 23 = .ok (.getfield 18, 3) := by decide +kernel
theorem dX1_takeBack_26 : decode cX1_takeBack 26 = .ok (.aload_n 0, 1) := by decide +kernel
theorem dX1_takeBack_27 : decode cX1_takeBack 27 = .ok (.getfield 22, 3) := by decide +kernel
theorem dX1_takeBack_30 : decode cX1_takeBack 30 = .ok (.iadd, 1) := by decide +kernel
theorem dX1_takeBack_31 : decode cX1_takeBack 31 = .ok (.bipush 7, 2) := by decide +kernel
theorem dX1_takeBack_33 : decode cX1_takeBack 33 = .ok (.irem, 1) := by decide +kernel
theorem dX1_takeBack_34 : decode cX1_takeBack 34 = .ok (.aaload, 1) := by decide +kernel
theorem dX1_takeBack_35 : decode cX1_takeBack 35 = .ok (.invokevirtual 25, 3) := by decide +kernel
theorem dX1_takeBack_38 : decode cX1_takeBack 38 = .ok (.return_, 1) := by decide +kernel
theorem dX2_init_0 : decode cX2_init 0 = .ok (.aload_n 0, 1) := by decide +kernel
theorem dX2_init_1 : decode cX2_init 1 = .ok (.invokespecial 1, 3) := by decide +kernel
theorem dX2_init_4 : decode cX2_init 4 = .ok (.return_, 1) := by decide +kernel
theorem dX2_become_0 : decode cX2_become 0 = .ok (.aload_n 0, 1) := by decide +kernel
theorem dX2_become_1 : decode cX2_become 1 = .ok (.aload_n 1, 1) := by decide +kernel
theorem dX2_become_2 : decode cX2_become 2 = .ok (.getfield 7, 3) := by decide +kernel
theorem dX2_become_5 : decode cX2_become 5 = .ok (.putfield 7, 3) := by decide +kernel
theorem dX2_become_8 : decode cX2_become 8 = .ok (.aload_n 0, 1) := by decide +kernel
theorem dX2_become_9 : decode cX2_become 9 = .ok (.aload_n 1, 1) := by decide +kernel
theorem dX2_become_10 : decode cX2_become 10 = .ok (.getfield 13, 3) := by decide +kernel
theorem dX2_become_13 : decode cX2_become 13 = .ok (.putfield 13, 3) := by decide +kernel
theorem dX2_become_16 : decode cX2_become 16 = .ok (.aload_n 0, 1) := by decide +kernel
theorem dX2_become_17 : decode cX2_become 17 = .ok (.aload_n 1, 1) := by decide +kernel
theorem dX2_become_18 : decode cX2_become 18 = .ok (.getfield 16, 3) := by decide +kernel
theorem dX2_become_21 : decode cX2_become 21 = .ok (.putfield 16, 3) := by decide +kernel
theorem dX2_become_24 : decode cX2_become 24 = .ok (.aload_n 0, 1) := by decide +kernel
theorem dX2_become_25 : decode cX2_become 25 = .ok (.aload_n 1, 1) := by decide +kernel
theorem dX2_become_26 : decode cX2_become 26 = .ok (.getfield 19, 3) := by decide +kernel
theorem dX2_become_29 : decode cX2_become 29 = .ok (.putfield 19, 3) := by decide +kernel
theorem dX2_become_32 : decode cX2_become 32 = .ok (.aload_n 0, 1) := by decide +kernel
theorem dX2_become_33 : decode cX2_become 33 = .ok (.aload_n 1, 1) := by decide +kernel
theorem dX2_become_34 : decode cX2_become 34 = .ok (.getfield 22, 3) := by decide +kernel
theorem dX2_become_37 : decode cX2_become 37 = .ok (.putfield 22, 3) := by decide +kernel
theorem dX2_become_40 : decode cX2_become 40 = .ok (.aload_n 0, 1) := by decide +kernel
theorem dX2_become_41 : decode cX2_become 41 = .ok (.aload_n 1, 1) := by decide +kernel
theorem dX2_become_42 : decode cX2_become 42 = .ok (.getfield 25, 3) := by decide +kernel
theorem dX2_become_45 : decode cX2_become 45 = .ok (.putfield 25, 3) := by decide +kernel
theorem dX2_become_48 : decode cX2_become 48 = .ok (.aload_n 0, 1) := by decide +kernel
theorem dX2_become_49 : decode cX2_become 49 = .ok (.aload_n 1, 1) := by decide +kernel
theorem dX2_become_50 : decode cX2_become 50 = .ok (.getfield 28, 3) := by decide +kernel
theorem dX2_become_53 : decode cX2_become 53 = .ok (.putfield 28, 3) := by decide +kernel
theorem dX2_become_56 : decode cX2_become 56 = .ok (.return_, 1) := by decide +kernel
theorem dX2_units_0 : decode cX2_units 0 = .ok (.aload_n 0, 1) := by decide +kernel
theorem dX2_units_1 : decode cX2_units 1 = .ok (.getfield 7, 3) := by decide +kernel
theorem dX2_units_4 : decode cX2_units 4 = .ok (.aload_n 0, 1) := by decide +kernel
theorem dX2_units_5 : decode cX2_units 5 = .ok (.getfield 13, 3) := by decide +kernel
theorem dX2_units_8 : decode cX2_units 8 = .ok (.ladd, 1) := by decide +kernel
theorem dX2_units_9 : decode cX2_units 9 = .ok (.lreturn, 1) := by decide +kernel
theorem dX3_init_0 : decode cX3_init 0 = .ok (.aload_n 0, 1) := by decide +kernel
theorem dX3_init_1 : decode cX3_init 1 = .ok (.invokespecial 1, 3) := by decide +kernel
theorem dX3_init_4 : decode cX3_init 4 = .ok (.return_, 1) := by decide +kernel
theorem dX3_become_0 : decode cX3_become 0 = .ok (.aload_n 0, 1) := by decide +kernel
theorem dX3_become_1 : decode cX3_become 1 = .ok (.aload_n 1, 1) := by decide +kernel
theorem dX3_become_2 : decode cX3_become 2 = .ok (.getfield 7, 3) := by decide +kernel
theorem dX3_become_5 : decode cX3_become 5 = .ok (.putfield 7, 3) := by decide +kernel
theorem dX3_become_8 : decode cX3_become 8 = .ok (.aload_n 0, 1) := by decide +kernel
theorem dX3_become_9 : decode cX3_become 9 = .ok (.aload_n 1, 1) := by decide +kernel
theorem dX3_become_10 : decode cX3_become 10 = .ok (.getfield 13, 3) := by decide +kernel
theorem dX3_become_13 : decode cX3_become 13 = .ok (.putfield 13, 3) := by decide +kernel
theorem dX3_become_16 : decode cX3_become 16 = .ok (.aload_n 0, 1) := by decide +kernel
theorem dX3_become_17 : decode cX3_become 17 = .ok (.aload_n 1, 1) := by decide +kernel
theorem dX3_become_18 : decode cX3_become 18 = .ok (.getfield 17, 3) := by decide +kernel
theorem dX3_become_21 : decode cX3_become 21 = .ok (.putfield 17, 3) := by decide +kernel
theorem dX3_become_24 : decode cX3_become 24 = .ok (.aload_n 0, 1) := by decide +kernel
theorem dX3_become_25 : decode cX3_become 25 = .ok (.aload_n 1, 1) := by decide +kernel
theorem dX3_become_26 : decode cX3_become 26 = .ok (.getfield 20, 3) := by decide +kernel
theorem dX3_become_29 : decode cX3_become 29 = .ok (.putfield 20, 3) := by decide +kernel
theorem dX3_become_32 : decode cX3_become 32 = .ok (.aload_n 0, 1) := by decide +kernel
theorem dX3_become_33 : decode cX3_become 33 = .ok (.aload_n 1, 1) := by decide +kernel
theorem dX3_become_34 : decode cX3_become 34 = .ok (.getfield 23, 3) := by decide +kernel
theorem dX3_become_37 : decode cX3_become 37 = .ok (.putfield 23, 3) := by decide +kernel
theorem dX3_become_40 : decode cX3_become 40 = .ok (.aload_n 0, 1) := by decide +kernel
theorem dX3_become_41 : decode cX3_become 41 = .ok (.aload_n 1, 1) := by decide +kernel
theorem dX3_become_42 : decode cX3_become 42 = .ok (.getfield 26, 3) := by decide +kernel
theorem dX3_become_45 : decode cX3_become 45 = .ok (.putfield 26, 3) := by decide +kernel
theorem dX3_become_48 : decode cX3_become 48 = .ok (.aload_n 0, 1) := by decide +kernel
theorem dX3_become_49 : decode cX3_become 49 = .ok (.aload_n 1, 1) := by decide +kernel
theorem dX3_become_50 : decode cX3_become 50 = .ok (.getfield 29, 3) := by decide +kernel
theorem dX3_become_53 : decode cX3_become 53 = .ok (.putfield 29, 3) := by decide +kernel
theorem dX3_become_56 : decode cX3_become 56 = .ok (.aload_n 0, 1) := by decide +kernel
theorem dX3_become_57 : decode cX3_become 57 = .ok (.aload_n 1, 1) := by decide +kernel
theorem dX3_become_58 : decode cX3_become 58 = .ok (.getfield 33, 3) := by decide +kernel
theorem dX3_become_61 : decode cX3_become 61 = .ok (.putfield 33, 3) := by decide +kernel
theorem dX3_become_64 : decode cX3_become 64 = .ok (.return_, 1) := by decide +kernel
theorem dX3_start_0 : decode cX3_start 0 = .ok (.aload_n 0, 1) := by decide +kernel
theorem dX3_start_1 : decode cX3_start 1 = .ok (.iconst 1, 1) := by decide +kernel
theorem dX3_start_2 : decode cX3_start 2 = .ok (.putfield 7, 3) := by decide +kernel
theorem dX3_start_5 : decode cX3_start 5 = .ok (.aload_n 0, 1) := by decide +kernel
theorem dX3_start_6 : decode cX3_start 6 = .ok (.aload_n 1, 1) := by decide +kernel
theorem dX3_start_7 : decode cX3_start 7 = .ok (.getfield 36, 3) := by decide +kernel
theorem dX3_start_10 : decode cX3_start 10 = .ok (.putfield 13, 3) := by decide +kernel
theorem dX3_start_13 : decode cX3_start 13 = .ok (.aload_n 0, 1) := by decide +kernel
theorem dX3_start_14 : decode cX3_start 14 = .ok (.aload_n 1, 1) := by decide +kernel
theorem dX3_start_15 : decode cX3_start 15 = .ok (.getfield 39, 3) := by decide +kernel
theorem dX3_start_18 : decode cX3_start 18 = .ok (.putfield 33, 3) := by decide +kernel
theorem dX3_start_21 : decode cX3_start 21 = .ok (.aload_n 0, 1) := by decide +kernel
theorem dX3_start_22 : decode cX3_start 22 = .ok (.aload_n 1, 1) := by decide +kernel
theorem dX3_start_23 : decode cX3_start 23 = .ok (.getfield 40, 3) := by decide +kernel
theorem dX3_start_26 : decode cX3_start 26 = .ok (.putfield 23, 3) := by decide +kernel
theorem dX3_start_29 : decode cX3_start 29 = .ok (.aload_n 0, 1) := by decide +kernel
theorem dX3_start_30 : decode cX3_start 30 = .ok (.lconst 0, 1) := by decide +kernel
theorem dX3_start_31 : decode cX3_start 31 = .ok (.putfield 17, 3) := by decide +kernel
theorem dX3_start_34 : decode cX3_start 34 = .ok (.aload_n 0, 1) := by decide +kernel
theorem dX3_start_35 : decode cX3_start 35 = .ok (.lconst 0, 1) := by decide +kernel
theorem dX3_start_36 : decode cX3_start 36 = .ok (.putfield 20, 3) := by decide +kernel
theorem dX3_start_39 : decode cX3_start 39 = .ok (.aload_n 0, 1) := by decide +kernel
theorem dX3_start_40 : decode cX3_start 40 = .ok (.lconst 0, 1) := by decide +kernel
theorem dX3_start_41 : decode cX3_start 41 = .ok (.putfield 26, 3) := by decide +kernel
theorem dX3_start_44 : decode cX3_start 44 = .ok (.aload_n 0, 1) := by decide +kernel
theorem dX3_start_45 : decode cX3_start 45 = .ok (.iconst 0, 1) := by decide +kernel
theorem dX3_start_46 : decode cX3_start 46 = .ok (.putfield 29, 3) := by decide +kernel
theorem dX3_start_49 : decode cX3_start 49 = .ok (.return_, 1) := by decide +kernel
theorem dX4_init_0 : decode cX4_init 0 = .ok (.aload_n 0, 1) := by decide +kernel
theorem dX4_init_1 : decode cX4_init 1 = .ok (.invokespecial 3, 3) := by decide +kernel
theorem dX4_init_4 : decode cX4_init 4 = .ok (.aload_n 0, 1) := by decide +kernel
theorem dX4_init_5 : decode cX4_init 5 = .ok (.bipush 20, 2) := by decide +kernel
theorem dX4_init_7 : decode cX4_init 7 = .ok (.newarray .int, 2) := by decide +kernel
theorem dX4_init_9 : decode cX4_init 9 = .ok (.putfield 9, 3) := by decide +kernel
theorem dX4_init_12 : decode cX4_init 12 = .ok (.aload_n 0, 1) := by decide +kernel
theorem dX4_init_13 : decode cX4_init 13 = .ok (.bipush 20, 2) := by decide +kernel
theorem dX4_init_15 : decode cX4_init 15 = .ok (.newarray .int, 2) := by decide +kernel
theorem dX4_init_17 : decode cX4_init 17 = .ok (.putfield 15, 3) := by decide +kernel
theorem dX4_init_20 : decode cX4_init 20 = .ok (.aload_n 0, 1) := by decide +kernel
theorem dX4_init_21 : decode cX4_init 21 = .ok (.bipush 20, 2) := by decide +kernel
theorem dX4_init_23 : decode cX4_init 23 = .ok (.newarray .int, 2) := by decide +kernel
theorem dX4_init_25 : decode cX4_init 25 = .ok (.putfield 18, 3) := by decide +kernel
theorem dX4_init_28 : decode cX4_init 28 = .ok (.return_, 1) := by decide +kernel
theorem dX4_become_0 : decode cX4_become 0 = .ok (.aload_n 0, 1) := by decide +kernel
theorem dX4_become_1 : decode cX4_become 1 = .ok (.aload_n 1, 1) := by decide +kernel
theorem dX4_become_2 : decode cX4_become 2 = .ok (.getfield 21, 3) := by decide +kernel
theorem dX4_become_5 : decode cX4_become 5 = .ok (.putfield 21, 3) := by decide +kernel
theorem dX4_become_8 : decode cX4_become 8 = .ok (.iconst 0, 1) := by decide +kernel
theorem dX4_become_9 : decode cX4_become 9 = .ok (.istore_n 2, 1) := by decide +kernel
theorem dX4_become_10 : decode cX4_become 10 = .ok (.iload_n 2, 1) := by decide +kernel
theorem dX4_become_11 : decode cX4_become 11 = .ok (.aload_n 0, 1) := by decide +kernel
theorem dX4_become_12 : decode cX4_become 12 = .ok (.getfield 21, 3) := by decide +kernel
theorem dX4_become_15 : decode cX4_become 15 = .ok (.if_icmp .ge 32, 3) := by decide +kernel
theorem dX4_become_18 : decode cX4_become 18 = .ok (.aload_n 0, 1) := by decide +kernel
theorem dX4_become_19 : decode cX4_become 19 = .ok (.iload_n 2, 1) := by decide +kernel
theorem dX4_become_20 : decode cX4_become 20 = .ok (.aload_n 1, 1) := by decide +kernel
theorem dX4_become_21 : decode cX4_become 21 = .ok (.getfield 9, 3) := by decide +kernel
theorem dX4_become_24 : decode cX4_become 24 = .ok (.iload_n 2, 1) := by decide +kernel
theorem dX4_become_25 : decode cX4_become 25 = .ok (.iaload, 1) := by decide +kernel
theorem dX4_become_26 : decode cX4_become 26 = .ok (.aload_n 1, 1) := by decide +kernel
theorem dX4_become_27 : decode cX4_become 27 = .ok (.getfield 15, 3) := by decide +kernel
theorem dX4_become_30 : decode cX4_become 30 = .ok (.iload_n 2, 1) := by decide +kernel
theorem dX4_become_31 : decode cX4_become 31 = .ok (.iaload, 1) := by decide +kernel
theorem dX4_become_32 : decode cX4_become 32 = .ok (.aload_n 1, 1) := by decide +kernel
theorem dX4_become_33 : decode cX4_become 33 = .ok (.getfield 18, 3) := by decide +kernel
theorem dX4_become_36 : decode cX4_become 36 = .ok (.iload_n 2, 1) := by decide +kernel
theorem dX4_become_37 : decode cX4_become 37 = .ok (.iaload, 1) := by decide +kernel
theorem dX4_become_38 : decode cX4_become 38 = .ok (.invokevirtual 25, 3) := by decide +kernel
theorem dX4_become_41 : decode cX4_become 41 = .ok (.iinc 2 1, 3) := by decide +kernel
theorem dX4_become_44 : decode cX4_become 44 = .ok (.goto (-34), 3) := by decide +kernel
theorem dX4_become_47 : decode cX4_become 47 = .ok (.return_, 1) := by decide +kernel
theorem dX4_isFull_0 : decode cX4_isFull 0 = .ok (.aload_n 0, 1) := by decide +kernel
theorem dX4_isFull_1 : decode cX4_isFull 1 = .ok (.getfield 21, 3) := by decide +kernel
theorem dX4_isFull_4 : decode cX4_isFull 4 = .ok (.bipush 20, 2) := by decide +kernel
theorem dX4_isFull_6 : decode cX4_isFull 6 = .ok (.if_icmp .lt 7, 3) := by decide +kernel
theorem dX4_isFull_9 : decode cX4_isFull 9 = .ok (.iconst 1, 1) := by decide +kernel
theorem dX4_isFull_10 : decode cX4_isFull 10 = .ok (.goto 4, 3) := by decide +kernel
theorem dX4_isFull_13 : decode cX4_isFull 13 = .ok (.iconst 0, 1) := by decide +kernel
theorem dX4_isFull_14 : decode cX4_isFull 14 = .ok (.ireturn, 1) := by decide +kernel
theorem dX4_add_0 : decode cX4_add 0 = .ok (.aload_n 0, 1) := by decide +kernel
theorem dX4_add_1 : decode cX4_add 1 = .ok (.invokevirtual 29, 3) := by decide +kernel
theorem dX4_add_4 : decode cX4_add 4 = .ok (.ifCond .eq 4, 3) := by decide +kernel
theorem dX4_add_7 : decode cX4_add 7 = .ok (.return_, 1) := by decide +kernel
theorem dX4_add_8 : decode cX4_add 8 = .ok (.aload_n 0, 1) := by decide +kernel
theorem dX4_add_9 : decode cX4_add 9 = .ok (.getfield 21, 3) := by decide +kernel
theorem dX4_add_12 : decode cX4_add 12 = .ok (.istore 4, 2) := by decide +kernel
theorem dX4_add_14 : decode cX4_add 14 = .ok (.iload 4, 2) := by decide +kernel
theorem dX4_add_16 : decode cX4_add 16 = .ok (.ifCond .le 55, 3) := by decide +kernel
theorem dX4_add_19 : decode cX4_add 19 = .ok (.aload_n 0, 1) := by decide +kernel
theorem dX4_add_20 : decode cX4_add 20 = .ok (.getfield 18, 3) := by decide +kernel
theorem dX4_add_23 : decode cX4_add 23 = .ok (.iload 4, 2) := by decide +kernel
theorem dX4_add_25 : decode cX4_add 25 = .ok (.iconst 1, 1) := by decide +kernel
theorem dX4_add_26 : decode cX4_add 26 = .ok (.isub, 1) := by decide +kernel
theorem dX4_add_27 : decode cX4_add 27 = .ok (.iaload, 1) := by decide +kernel
theorem dX4_add_28 : decode cX4_add 28 = .ok (.iload_n 3, 1) := by decide +kernel
theorem dX4_add_29 : decode cX4_add 29 = .ok (.if_icmp .le 42, 3) := by decide +kernel
theorem dX4_add_32 : decode cX4_add 32 = .ok (.aload_n 0, 1) := by decide +kernel
theorem dX4_add_33 : decode cX4_add 33 = .ok (.iload 4, 2) := by decide +kernel
theorem dX4_add_35 : decode cX4_add 35 = .ok (.aload_n 0, 1) := by decide +kernel
theorem dX4_add_36 : decode cX4_add 36 = .ok (.getfield 9, 3) := by decide +kernel
theorem dX4_add_39 : decode cX4_add 39 = .ok (.iload 4, 2) := by decide +kernel
theorem dX4_add_41 : decode cX4_add 41 = .ok (.iconst 1, 1) := by decide +kernel
theorem dX4_add_42 : decode cX4_add 42 = .ok (.isub, 1) := by decide +kernel
theorem dX4_add_43 : decode cX4_add 43 = .ok (.iaload, 1) := by decide +kernel
theorem dX4_add_44 : decode cX4_add 44 = .ok (.aload_n 0, 1) := by decide +kernel
theorem dX4_add_45 : decode cX4_add 45 = .ok (.getfield 15, 3) := by decide +kernel
theorem dX4_add_48 : decode cX4_add 48 = .ok (.iload 4, 2) := by decide +kernel
theorem dX4_add_50 : decode cX4_add 50 = .ok (.iconst 1, 1) := by decide +kernel
theorem dX4_add_51 : decode cX4_add 51 = .ok (.isub, 1) := by decide +kernel
theorem dX4_add_52 : decode cX4_add 52 = .ok (.iaload, 1) := by decide +kernel
theorem dX4_add_53 : decode cX4_add 53 = .ok (.aload_n 0, 1) := by decide +kernel
theorem dX4_add_54 : decode cX4_add 54 = .ok (.getfield 18, 3) := by decide +kernel
theorem dX4_add_57 : decode cX4_add 57 = .ok (.iload 4, 2) := by decide +kernel
theorem dX4_add_59 : decode cX4_add 59 = .ok (.iconst 1, 1) := by decide +kernel
theorem dX4_add_60 : decode cX4_add 60 = .ok (.isub, 1) := by decide +kernel
theorem dX4_add_61 : decode cX4_add 61 = .ok (.iaload, 1) := by decide +kernel
theorem dX4_add_62 : decode cX4_add 62 = .ok (.invokevirtual 25, 3) := by decide +kernel
theorem dX4_add_65 : decode cX4_add 65 = .ok (.iinc 4 (-1), 3) := by decide +kernel
theorem dX4_add_68 : decode cX4_add 68 = .ok (.goto (-54), 3) := by decide +kernel
theorem dX4_add_71 : decode cX4_add 71 = .ok (.aload_n 0, 1) := by decide +kernel
theorem dX4_add_72 : decode cX4_add 72 = .ok (.iload 4, 2) := by decide +kernel
theorem dX4_add_74 : decode cX4_add 74 = .ok (.iload_n 1, 1) := by decide +kernel
theorem dX4_add_75 : decode cX4_add 75 = .ok (.iload_n 2, 1) := by decide +kernel
theorem dX4_add_76 : decode cX4_add 76 = .ok (.iload_n 3, 1) := by decide +kernel
theorem dX4_add_77 : decode cX4_add 77 = .ok (.invokevirtual 25, 3) := by decide +kernel
theorem dX4_add_80 : decode cX4_add 80 = .ok (.aload_n 0, 1) := by decide +kernel
theorem dX4_add_81 : decode cX4_add 81 = .ok (.dup, 1) := by decide +kernel
theorem dX4_add_82 : decode cX4_add 82 = .ok (.getfield 21, 3) := by decide +kernel
theorem dX4_add_85 : decode cX4_add 85 = .ok (.iconst 1, 1) := by decide +kernel
theorem dX4_add_86 : decode cX4_add 86 = .ok (.iadd, 1) := by decide +kernel
theorem dX4_add_87 : decode cX4_add 87 = .ok (.putfield 21, 3) := by decide +kernel
theorem dX4_add_90 : decode cX4_add 90 = .ok (.return_, 1) := by decide +kernel
theorem dX4_write_0 : decode cX4_write 0 = .ok (.aload_n 0, 1) := by decide +kernel
theorem dX4_write_1 : decode cX4_write 1 = .ok (.getfield 9, 3) := by decide +kernel
theorem dX4_write_4 : decode cX4_write 4 = .ok (.iload_n 1, 1) := by decide +kernel
theorem dX4_write_5 : decode cX4_write 5 = .ok (.iload_n 2, 1) := by decide +kernel
theorem dX4_write_6 : decode cX4_write 6 = .ok (.iastore, 1) := by decide +kernel
theorem dX4_write_7 : decode cX4_write 7 = .ok (.aload_n 0, 1) := by decide +kernel
theorem dX4_write_8 : decode cX4_write 8 = .ok (.getfield 15, 3) := by decide +kernel
theorem dX4_write_11 : decode cX4_write 11 = .ok (.iload_n 1, 1) := by decide +kernel
theorem dX4_write_12 : decode cX4_write 12 = .ok (.iload_n 3, 1) := by decide +kernel
theorem dX4_write_13 : decode cX4_write 13 = .ok (.iastore, 1) := by decide +kernel
theorem dX4_write_14 : decode cX4_write 14 = .ok (.aload_n 0, 1) := by decide +kernel
theorem dX4_write_15 : decode cX4_write 15 = .ok (.getfield 18, 3) := by decide +kernel
theorem dX4_write_18 : decode cX4_write 18 = .ok (.iload_n 1, 1) := by decide +kernel
theorem dX4_write_19 : decode cX4_write 19 = .ok (.iload 4, 2) := by decide +kernel
theorem dX4_write_21 : decode cX4_write 21 = .ok (.iastore, 1) := by decide +kernel
theorem dX4_write_22 : decode cX4_write 22 = .ok (.return_, 1) := by decide +kernel
theorem dX4_dueOn_0 : decode cX4_dueOn 0 = .ok (.iconst 0, 1) := by decide +kernel
theorem dX4_dueOn_1 : decode cX4_dueOn 1 = .ok (.istore_n 2, 1) := by decide +kernel
theorem dX4_dueOn_2 : decode cX4_dueOn 2 = .ok (.iload_n 2, 1) := by decide +kernel
theorem dX4_dueOn_3 : decode cX4_dueOn 3 = .ok (.aload_n 0, 1) := by decide +kernel
theorem dX4_dueOn_4 : decode cX4_dueOn 4 = .ok (.getfield 21, 3) := by decide +kernel
theorem dX4_dueOn_7 : decode cX4_dueOn 7 = .ok (.if_icmp .ge 19, 3) := by decide +kernel
theorem dX4_dueOn_10 : decode cX4_dueOn 10 = .ok (.aload_n 0, 1) := by decide +kernel
theorem dX4_dueOn_11 : decode cX4_dueOn 11 = .ok (.getfield 18, 3) := by decide +kernel
theorem dX4_dueOn_14 : decode cX4_dueOn 14 = .ok (.iload_n 2, 1) := by decide +kernel
theorem dX4_dueOn_15 : decode cX4_dueOn 15 = .ok (.iaload, 1) := by decide +kernel
theorem dX4_dueOn_16 : decode cX4_dueOn 16 = .ok (.iload_n 1, 1) := by decide +kernel
theorem dX4_dueOn_17 : decode cX4_dueOn 17 = .ok (.if_icmp .gt 9, 3) := by decide +kernel
theorem dX4_dueOn_20 : decode cX4_dueOn 20 = .ok (.iinc 2 1, 3) := by decide +kernel
theorem dX4_dueOn_23 : decode cX4_dueOn 23 = .ok (.goto (-21), 3) := by decide +kernel
theorem dX4_dueOn_26 : decode cX4_dueOn 26 = .ok (.iload_n 2, 1) := by decide +kernel
theorem dX4_dueOn_27 : decode cX4_dueOn 27 = .ok (.ireturn, 1) := by decide +kernel
theorem dX4_sum_0 : decode cX4_sum 0 = .ok (.lconst 0, 1) := by decide +kernel
theorem dX4_sum_1 : decode cX4_sum 1 = .ok (.lstore_n 3, 1) := by decide +kernel
theorem dX4_sum_2 : decode cX4_sum 2 = .ok (.iload_n 1, 1) := by decide +kernel
theorem dX4_sum_3 : decode cX4_sum 3 = .ok (.istore 5, 2) := by decide +kernel
theorem dX4_sum_5 : decode cX4_sum 5 = .ok (.iload 5, 2) := by decide +kernel
theorem dX4_sum_7 : decode cX4_sum 7 = .ok (.iload_n 2, 1) := by decide +kernel
theorem dX4_sum_8 : decode cX4_sum 8 = .ok (.if_icmp .ge 20, 3) := by decide +kernel
theorem dX4_sum_11 : decode cX4_sum 11 = .ok (.lload_n 3, 1) := by decide +kernel
theorem dX4_sum_12 : decode cX4_sum 12 = .ok (.aload_n 0, 1) := by decide +kernel
theorem dX4_sum_13 : decode cX4_sum 13 = .ok (.getfield 15, 3) := by decide +kernel
theorem dX4_sum_16 : decode cX4_sum 16 = .ok (.iload 5, 2) := by decide +kernel
theorem dX4_sum_18 : decode cX4_sum 18 = .ok (.iaload, 1) := by decide +kernel
theorem dX4_sum_19 : decode cX4_sum 19 = .ok (.i2l, 1) := by decide +kernel
theorem dX4_sum_20 : decode cX4_sum 20 = .ok (.ladd, 1) := by decide +kernel
theorem dX4_sum_21 : decode cX4_sum 21 = .ok (.lstore_n 3, 1) := by decide +kernel
theorem dX4_sum_22 : decode cX4_sum 22 = .ok (.iinc 5 1, 3) := by decide +kernel
theorem dX4_sum_25 : decode cX4_sum 25 = .ok (.goto (-20), 3) := by decide +kernel
theorem dX4_sum_28 : decode cX4_sum 28 = .ok (.lload_n 3, 1) := by decide +kernel
theorem dX4_sum_29 : decode cX4_sum 29 = .ok (.lreturn, 1) := by decide +kernel
theorem dX4_sumOf_0 : decode cX4_sumOf 0 = .ok (.lconst 0, 1) := by decide +kernel
theorem dX4_sumOf_1 : decode cX4_sumOf 1 = .ok (.lstore_n 2, 1) := by decide +kernel
theorem dX4_sumOf_2 : decode cX4_sumOf 2 = .ok (.iconst 0, 1) := by decide +kernel
theorem dX4_sumOf_3 : decode cX4_sumOf 3 = .ok (.istore 4, 2) := by decide +kernel
theorem dX4_sumOf_5 : decode cX4_sumOf 5 = .ok (.iload 4, 2) := by decide +kernel
theorem dX4_sumOf_7 : decode cX4_sumOf 7 = .ok (.aload_n 0, 1) := by decide +kernel
theorem dX4_sumOf_8 : decode cX4_sumOf 8 = .ok (.getfield 21, 3) := by decide +kernel
theorem dX4_sumOf_11 : decode cX4_sumOf 11 = .ok (.if_icmp .ge 31, 3) := by decide +kernel
theorem dX4_sumOf_14 : decode cX4_sumOf 14 = .ok (.aload_n 0, 1) := by decide +kernel
theorem dX4_sumOf_15 : decode cX4_sumOf 15 = .ok (.getfield 9, 3) := by decide +kernel
theorem dX4_sumOf_18 : decode cX4_sumOf 18 = .ok (.iload 4, 2) := by decide +kernel
theorem dX4_sumOf_20 : decode cX4_sumOf 20 = .ok (.iaload, 1) := by decide +kernel
theorem dX4_sumOf_21 : decode cX4_sumOf 21 = .ok (.iload_n 1, 1) := by decide +kernel
theorem dX4_sumOf_22 : decode cX4_sumOf 22 = .ok (.if_icmp .ne 14, 3) := by decide +kernel
theorem dX4_sumOf_25 : decode cX4_sumOf 25 = .ok (.lload_n 2, 1) := by decide +kernel
theorem dX4_sumOf_26 : decode cX4_sumOf 26 = .ok (.aload_n 0, 1) := by decide +kernel
theorem dX4_sumOf_27 : decode cX4_sumOf 27 = .ok (.getfield 15, 3) := by decide +kernel
theorem dX4_sumOf_30 : decode cX4_sumOf 30 = .ok (.iload 4, 2) := by decide +kernel
theorem dX4_sumOf_32 : decode cX4_sumOf 32 = .ok (.iaload, 1) := by decide +kernel
theorem dX4_sumOf_33 : decode cX4_sumOf 33 = .ok (.i2l, 1) := by decide +kernel
theorem dX4_sumOf_34 : decode cX4_sumOf 34 = .ok (.ladd, 1) := by decide +kernel
theorem dX4_sumOf_35 : decode cX4_sumOf 35 = .ok (.lstore_n 2, 1) := by decide +kernel
theorem dX4_sumOf_36 : decode cX4_sumOf 36 = .ok (.iinc 4 1, 3) := by decide +kernel
theorem dX4_sumOf_39 : decode cX4_sumOf 39 = .ok (.goto (-34), 3) := by decide +kernel
theorem dX4_sumOf_42 : decode cX4_sumOf 42 = .ok (.lload_n 2, 1) := by decide +kernel
theorem dX4_sumOf_43 : decode cX4_sumOf 43 = .ok (.lreturn, 1) := by decide +kernel
theorem dX4_dropEmpty_0 : decode cX4_dropEmpty 0 = .ok (.iconst 0, 1) := by decide +kernel
theorem dX4_dropEmpty_1 : decode cX4_dropEmpty 1 = .ok (.istore_n 1, 1) := by decide +kernel
theorem dX4_dropEmpty_2 : decode cX4_dropEmpty 2 = .ok (.iconst 0, 1) := by decide +kernel
theorem dX4_dropEmpty_3 : decode cX4_dropEmpty 3 = .ok (.istore_n 2, 1) := by decide +kernel
theorem dX4_dropEmpty_4 : decode cX4_dropEmpty 4 = .ok (.iload_n 2, 1) := by decide +kernel
theorem dX4_dropEmpty_5 : decode cX4_dropEmpty 5 = .ok (.aload_n 0, 1) := by decide +kernel
theorem dX4_dropEmpty_6 : decode cX4_dropEmpty 6 = .ok (.getfield 21, 3) := by decide +kernel
theorem dX4_dropEmpty_9 : decode cX4_dropEmpty 9 = .ok (.if_icmp .ge 44, 3) := by decide +kernel
theorem dX4_dropEmpty_12 : decode cX4_dropEmpty 12 = .ok (.aload_n 0, 1) := by decide +kernel
theorem dX4_dropEmpty_13 : decode cX4_dropEmpty 13 = .ok (.getfield 15, 3) := by decide +kernel
theorem dX4_dropEmpty_16 : decode cX4_dropEmpty 16 = .ok (.iload_n 2, 1) := by decide +kernel
theorem dX4_dropEmpty_17 : decode cX4_dropEmpty 17 = .ok (.iaload, 1) := by decide +kernel
theorem dX4_dropEmpty_18 : decode cX4_dropEmpty 18 = .ok (.ifCond .le 29, 3) := by decide +kernel
theorem dX4_dropEmpty_21 : decode cX4_dropEmpty 21 = .ok (.aload_n 0, 1) := by decide +kernel
theorem dX4_dropEmpty_22 : decode cX4_dropEmpty 22 = .ok (.iload_n 1, 1) := by decide +kernel
theorem dX4_dropEmpty_23 : decode cX4_dropEmpty 23 = .ok (.aload_n 0, 1) := by decide +kernel
theorem dX4_dropEmpty_24 : decode cX4_dropEmpty 24 = .ok (.getfield 9, 3) := by decide +kernel
theorem dX4_dropEmpty_27 : decode cX4_dropEmpty 27 = .ok (.iload_n 2, 1) := by decide +kernel
theorem dX4_dropEmpty_28 : decode cX4_dropEmpty 28 = .ok (.iaload, 1) := by decide +kernel
theorem dX4_dropEmpty_29 : decode cX4_dropEmpty 29 = .ok (.aload_n 0, 1) := by decide +kernel
theorem dX4_dropEmpty_30 : decode cX4_dropEmpty 30 = .ok (.getfield 15, 3) := by decide +kernel
theorem dX4_dropEmpty_33 : decode cX4_dropEmpty 33 = .ok (.iload_n 2, 1) := by decide +kernel
theorem dX4_dropEmpty_34 : decode cX4_dropEmpty 34 = .ok (.iaload, 1) := by decide +kernel
theorem dX4_dropEmpty_35 : decode cX4_dropEmpty 35 = .ok (.aload_n 0, 1) := by decide +kernel
theorem dX4_dropEmpty_36 : decode cX4_dropEmpty 36 = .ok (.getfield 18, 3) := by decide +kernel
theorem dX4_dropEmpty_39 : decode cX4_dropEmpty 39 = .ok (.iload_n 2, 1) := by decide +kernel
theorem dX4_dropEmpty_40 : decode cX4_dropEmpty 40 = .ok (.iaload, 1) := by decide +kernel
theorem dX4_dropEmpty_41 : decode cX4_dropEmpty 41 = .ok (.invokevirtual 25, 3) := by decide +kernel
theorem dX4_dropEmpty_44 : decode cX4_dropEmpty 44 = .ok (.iinc 1 1, 3) := by decide +kernel
theorem dX4_dropEmpty_47 : decode cX4_dropEmpty 47 = .ok (.iinc 2 1, 3) := by decide +kernel
theorem dX4_dropEmpty_50 : decode cX4_dropEmpty 50 = .ok (.goto (-46), 3) := by decide +kernel
theorem dX4_dropEmpty_53 : decode cX4_dropEmpty 53 = .ok (.aload_n 0, 1) := by decide +kernel
theorem dX4_dropEmpty_54 : decode cX4_dropEmpty 54 = .ok (.iload_n 1, 1) := by decide +kernel
theorem dX4_dropEmpty_55 : decode cX4_dropEmpty 55 = .ok (.putfield 21, 3) := by decide +kernel
theorem dX4_dropEmpty_58 : decode cX4_dropEmpty 58 = .ok (.return_, 1) := by decide +kernel
theorem dX5_init_0 : decode cX5_init 0 = .ok (.aload_n 0, 1) := by decide +kernel
theorem dX5_init_1 : decode cX5_init 1 = .ok (.invokespecial 3, 3) := by decide +kernel
theorem dX5_init_4 : decode cX5_init 4 = .ok (.aload_n 0, 1) := by decide +kernel
theorem dX5_init_5 : decode cX5_init 5 = .ok (.bipush 80, 2) := by decide +kernel
theorem dX5_init_7 : decode cX5_init 7 = .ok (.newarray .char, 2) := by decide +kernel
theorem dX5_init_9 : decode cX5_init 9 = .ok (.putfield 9, 3) := by decide +kernel
theorem dX5_init_12 : decode cX5_init 12 = .ok (.return_, 1) := by decide +kernel
theorem dX5_countCharacters_0 : decode cX5_countCharacters 0 = .ok (.lload_n 0, 1) := by decide +kernel
theorem dX5_countCharacters_1 : decode cX5_countCharacters 1 = .ok (.lstore_n 2, 1) := by decide +kernel
theorem dX5_countCharacters_2 : decode cX5_countCharacters 2 = .ok (.iconst 0, 1) := by decide +kernel
theorem dX5_countCharacters_3 : decode cX5_countCharacters 3 = .ok (.istore 4, 2) := by decide +kernel
theorem dX5_countCharacters_5 : decode cX5_countCharacters 5 = .ok (.iload 4, 2) := by decide +kernel
theorem dX5_countCharacters_7 : decode cX5_countCharacters 7 = .ok (.bipush 8, 2) := by decide +kernel
theorem dX5_countCharacters_9 : decode cX5_countCharacters 9 = .ok (.if_icmp .ge 47, 3) := by decide +kernel
theorem dX5_countCharacters_12 : decode cX5_countCharacters 12 = .ok (.lload_n 2, 1) := by decide +kernel
theorem dX5_countCharacters_13 : decode cX5_countCharacters 13 = .ok (.lconst 0, 1) := by decide +kernel
theorem dX5_countCharacters_14 : decode cX5_countCharacters 14 = .ok (.lcmp, 1) := by decide +kernel
theorem dX5_countCharacters_15 : decode cX5_countCharacters 15 = .ok (.ifCond .eq 41, 3) := by decide +kernel
theorem dX5_countCharacters_18 : decode cX5_countCharacters 18 = .ok (.lload_n 2, 1) := by decide +kernel
theorem dX5_countCharacters_19 : decode cX5_countCharacters 19 = .ok (.ldc2_w 15, 3) := by decide +kernel
theorem dX5_countCharacters_22 : decode cX5_countCharacters 22 = .ok (.land, 1) := by decide +kernel
theorem dX5_countCharacters_23 : decode cX5_countCharacters 23 = .ok (.lstore 5, 2) := by decide +kernel
theorem dX5_countCharacters_25 : decode cX5_countCharacters 25 = .ok (.lload 5, 2) := by decide +kernel
theorem dX5_countCharacters_27 : decode cX5_countCharacters 27 = .ok (.ldc2_w 17, 3) := by decide +kernel
theorem dX5_countCharacters_30 : decode cX5_countCharacters 30 = .ok (.lcmp, 1) := by decide +kernel
theorem dX5_countCharacters_31 : decode cX5_countCharacters 31 = .ok (.ifCond .lt 12, 3) := by decide +kernel
theorem dX5_countCharacters_34 : decode cX5_countCharacters 34 = .ok (.lload 5, 2) := by decide +kernel
theorem dX5_countCharacters_36 : decode cX5_countCharacters 36 = .ok (.ldc2_w 19, 3) := by decide +kernel
theorem dX5_countCharacters_39 : decode cX5_countCharacters 39 = .ok (.lcmp, 1) := by decide +kernel
theorem dX5_countCharacters_40 : decode cX5_countCharacters 40 = .ok (.ifCond .le 5, 3) := by decide +kernel
theorem dX5_countCharacters_43 : decode cX5_countCharacters 43 = .ok (.iconst 0, 1) := by decide +kernel
theorem dX5_countCharacters_44 : decode cX5_countCharacters 44 = .ok (.ireturn, 1) := by decide +kernel
theorem dX5_countCharacters_45 : decode cX5_countCharacters 45 = .ok (.lload_n 2, 1) := by decide +kernel
theorem dX5_countCharacters_46 : decode cX5_countCharacters 46 = .ok (.bipush 8, 2) := by decide +kernel
theorem dX5_countCharacters_48 : decode cX5_countCharacters 48 = .ok (.lushr, 1) := by decide +kernel
theorem dX5_countCharacters_49 : decode cX5_countCharacters 49 = .ok (.lstore_n 2, 1) := by decide +kernel
theorem dX5_countCharacters_50 : decode cX5_countCharacters 50 = .ok (.iinc 4 1, 3) := by decide +kernel
theorem dX5_countCharacters_53 : decode cX5_countCharacters 53 = .ok (.goto (-48), 3) := by decide +kernel
theorem dX5_countCharacters_56 : decode cX5_countCharacters 56 = .ok (.iload 4, 2) := by decide +kernel
theorem dX5_countCharacters_58 : decode cX5_countCharacters 58 = .ok (.ireturn, 1) := by decide +kernel
theorem dX5_append_0 : decode cX5_append 0 = .ok (.iload_n 3, 1) := by decide +kernel
theorem dX5_append_1 : decode cX5_append 1 = .ok (.iconst 1, 1) := by decide +kernel
theorem dX5_append_2 : decode cX5_append 2 = .ok (.isub, 1) := by decide +kernel
theorem dX5_append_3 : decode cX5_append 3 = .ok (.istore 4, 2) := by decide +kernel
theorem dX5_append_5 : decode cX5_append 5 = .ok (.iload 4, 2) := by decide +kernel
theorem dX5_append_7 : decode cX5_append 7 = .ok (.ifCond .lt 50, 3) := by decide +kernel
theorem dX5_append_10 : decode cX5_append 10 = .ok (.aload_n 0, 1) := by decide +kernel
theorem dX5_append_11 : decode cX5_append 11 = .ok (.getfield 21, 3) := by decide +kernel
theorem dX5_append_14 : decode cX5_append 14 = .ok (.bipush 80, 2) := by decide +kernel
theorem dX5_append_16 : decode cX5_append 16 = .ok (.if_icmp .ge 41, 3) := by decide +kernel
theorem dX5_append_19 : decode cX5_append 19 = .ok (.aload_n 0, 1) := by decide +kernel
theorem dX5_append_20 : decode cX5_append 20 = .ok (.getfield 9, 3) := by decide +kernel
theorem dX5_append_23 : decode cX5_append 23 = .ok (.aload_n 0, 1) := by decide +kernel
theorem dX5_append_24 : decode cX5_append 24 = .ok (.getfield 21, 3) := by decide +kernel
theorem dX5_append_27 : decode cX5_append 27 = .ok (.lload_n 1, 1) := by decide +kernel
theorem dX5_append_28 : decode cX5_append 28 = .ok (.bipush 8, 2) := by decide +kernel
theorem dX5_append_30 : decode cX5_append 30 = .ok (.iload 4, 2) := by decide +kernel
theorem dX5_append_32 : decode cX5_append 32 = .ok (.imul, 1) := by decide +kernel
theorem dX5_append_33 : decode cX5_append 33 = .ok (.lushr, 1) := by decide +kernel
theorem dX5_append_34 : decode cX5_append 34 = .ok (.ldc2_w 15, 3) := by decide +kernel
theorem dX5_append_37 : decode cX5_append 37 = .ok (.land, 1) := by decide +kernel
theorem dX5_append_38 : decode cX5_append 38 = .ok (.l2i, 1) := by decide +kernel
theorem dX5_append_39 : decode cX5_append 39 = .ok (.i2c, 1) := by decide +kernel
theorem dX5_append_40 : decode cX5_append 40 = .ok (.castore, 1) := by decide +kernel
theorem dX5_append_41 : decode cX5_append 41 = .ok (.aload_n 0, 1) := by decide +kernel
theorem dX5_append_42 : decode cX5_append 42 = .ok (.dup, 1) := by decide +kernel
theorem dX5_append_43 : decode cX5_append 43 = .ok (.getfield 21, 3) := by decide +kernel
theorem dX5_append_46 : decode cX5_append 46 = .ok (.iconst 1, 1) := by decide +kernel
theorem dX5_append_47 : decode cX5_append 47 = .ok (.iadd, 1) := by decide +kernel
theorem dX5_append_48 : decode cX5_append 48 = .ok (.putfield 21, 3) := by decide +kernel
theorem dX5_append_51 : decode cX5_append 51 = .ok (.iinc 4 (-1), 3) := by decide +kernel
theorem dX5_append_54 : decode cX5_append 54 = .ok (.goto (-49), 3) := by decide +kernel
theorem dX5_append_57 : decode cX5_append 57 = .ok (.return_, 1) := by decide +kernel
theorem dX5_signAt_0 : decode cX5_signAt 0 = .ok (.iload_n 1, 1) := by decide +kernel
theorem dX5_signAt_1 : decode cX5_signAt 1 = .ok (.ifCond .lt 20, 3) := by decide +kernel
theorem dX5_signAt_4 : decode cX5_signAt 4 = .ok (.iload_n 1, 1) := by decide +kernel
theorem dX5_signAt_5 : decode cX5_signAt 5 = .ok (.aload_n 0, 1) := by decide +kernel
theorem dX5_signAt_6 : decode cX5_signAt 6 = .ok (.getfield 21, 3) := by decide +kernel
theorem dX5_signAt_9 : decode cX5_signAt 9 = .ok (.if_icmp .ge 12, 3) := by decide +kernel
theorem dX5_signAt_12 : decode cX5_signAt 12 = .ok (.aload_n 0, 1) := by decide +kernel
theorem dX5_signAt_13 : decode cX5_signAt 13 = .ok (.getfield 9, 3) := by decide +kernel
theorem dX5_signAt_16 : decode cX5_signAt 16 = .ok (.iload_n 1, 1) := by decide +kernel
theorem dX5_signAt_17 : decode cX5_signAt 17 = .ok (.caload, 1) := by decide +kernel
theorem dX5_signAt_18 : decode cX5_signAt 18 = .ok (.goto 4, 3) := by decide +kernel
theorem dX5_signAt_21 : decode cX5_signAt 21 = .ok (.iconst 0, 1) := by decide +kernel
theorem dX5_signAt_22 : decode cX5_signAt 22 = .ok (.ireturn, 1) := by decide +kernel
theorem dX5_empty_0 : decode cX5_empty 0 = .ok (.aload_n 0, 1) := by decide +kernel
theorem dX5_empty_1 : decode cX5_empty 1 = .ok (.getfield 21, 3) := by decide +kernel
theorem dX5_empty_4 : decode cX5_empty 4 = .ok (.istore_n 1, 1) := by decide +kernel
theorem dX5_empty_5 : decode cX5_empty 5 = .ok (.aload_n 0, 1) := by decide +kernel
theorem dX5_empty_6 : decode cX5_empty 6 = .ok (.iconst 0, 1) := by decide +kernel
theorem dX5_empty_7 : decode cX5_empty 7 = .ok (.putfield 21, 3) := by decide +kernel
theorem dX5_empty_10 : decode cX5_empty 10 = .ok (.iload_n 1, 1) := by decide +kernel
theorem dX5_empty_11 : decode cX5_empty 11 = .ok (.ireturn, 1) := by decide +kernel
theorem dX5_start_0 : decode cX5_start 0 = .ok (.aload_n 0, 1) := by decide +kernel
theorem dX5_start_1 : decode cX5_start 1 = .ok (.iconst 0, 1) := by decide +kernel
theorem dX5_start_2 : decode cX5_start 2 = .ok (.putfield 25, 3) := by decide +kernel
theorem dX5_start_5 : decode cX5_start 5 = .ok (.return_, 1) := by decide +kernel
theorem dX5_findFault_0 : decode cX5_findFault 0 = .ok (.aload_n 0, 1) := by decide +kernel
theorem dX5_findFault_1 : decode cX5_findFault 1 = .ok (.invokevirtual 28, 3) := by decide +kernel
theorem dX5_findFault_4 : decode cX5_findFault 4 = .ok (.iconst 0, 1) := by decide +kernel
theorem dX5_findFault_5 : decode cX5_findFault 5 = .ok (.istore_n 1, 1) := by decide +kernel
theorem dX5_findFault_6 : decode cX5_findFault 6 = .ok (.iload_n 1, 1) := by decide +kernel
theorem dX5_findFault_7 : decode cX5_findFault 7 = .ok (.bipush 80, 2) := by decide +kernel
theorem dX5_findFault_9 : decode cX5_findFault 9 = .ok (.if_icmp .ge 49, 3) := by decide +kernel
theorem dX5_findFault_12 : decode cX5_findFault 12 = .ok (.aload_n 0, 1) := by decide +kernel
theorem dX5_findFault_13 : decode cX5_findFault 13 = .ok (.invokevirtual 31, 3) := by decide +kernel
theorem dX5_findFault_16 : decode cX5_findFault 16 = .ok (.ifCond .ne 8, 3) := by decide +kernel
theorem dX5_findFault_19 : decode cX5_findFault 19 = .ok (.aload_n 0, 1) := by decide +kernel
theorem dX5_findFault_20 : decode cX5_findFault 20 = .ok (.getfield 25, 3) := by decide +kernel
theorem dX5_findFault_23 : decode cX5_findFault 23 = .ok (.ireturn, 1) := by decide +kernel
theorem dX5_findFault_24 : decode cX5_findFault 24 = .ok (.aload_n 0, 1) := by decide +kernel
theorem dX5_findFault_25 : decode cX5_findFault 25 = .ok (.getfield 25, 3) := by decide +kernel
theorem dX5_findFault_28 : decode cX5_findFault 28 = .ok (.aload_n 0, 1) := by decide +kernel
theorem dX5_findFault_29 : decode cX5_findFault 29 = .ok (.getfield 21, 3) := by decide +kernel
theorem dX5_findFault_32 : decode cX5_findFault 32 = .ok (.if_icmp .lt 6, 3) := by decide +kernel
theorem dX5_findFault_35 : decode cX5_findFault 35 = .ok (.bipush (-6), 2) := by decide +kernel
theorem dX5_findFault_37 : decode cX5_findFault 37 = .ok (.ireturn, 1) := by decide +kernel
theorem dX5_findFault_38 : decode cX5_findFault 38 = .ok (.aload_n 0, 1) := by decide +kernel
theorem dX5_findFault_39 : decode cX5_findFault 39 = .ok (.bipush 59, 2) := by decide +kernel
theorem dX5_findFault_41 : decode cX5_findFault 41 = .ok (.invokevirtual 35, 3) := by decide +kernel
theorem dX5_findFault_44 : decode cX5_findFault 44 = .ok (.ifCond .ne 8, 3) := by decide +kernel
theorem dX5_findFault_47 : decode cX5_findFault 47 = .ok (.aload_n 0, 1) := by decide +kernel
theorem dX5_findFault_48 : decode cX5_findFault 48 = .ok (.getfield 25, 3) := by decide +kernel
theorem dX5_findFault_51 : decode cX5_findFault 51 = .ok (.ireturn, 1) := by decide +kernel
theorem dX5_findFault_52 : decode cX5_findFault 52 = .ok (.iinc 1 1, 3) := by decide +kernel
theorem dX5_findFault_55 : decode cX5_findFault 55 = .ok (.goto (-49), 3) := by decide +kernel
theorem dX5_findFault_58 : decode cX5_findFault 58 = .ok (.aload_n 0, 1) := by decide +kernel
theorem dX5_findFault_59 : decode cX5_findFault 59 = .ok (.getfield 25, 3) := by decide +kernel
theorem dX5_findFault_62 : decode cX5_findFault 62 = .ok (.ireturn, 1) := by decide +kernel
theorem dX5_readOrder_0 : decode cX5_readOrder 0 = .ok (.aload_n 0, 1) := by decide +kernel
theorem dX5_readOrder_1 : decode cX5_readOrder 1 = .ok (.aload_n 0, 1) := by decide +kernel
theorem dX5_readOrder_2 : decode cX5_readOrder 2 = .ok (.aload_n 0, 1) := by decide +kernel
theorem dX5_readOrder_3 : decode cX5_readOrder 3 = .ok (.getfield 25, 3) := by decide +kernel
theorem dX5_readOrder_6 : decode cX5_readOrder 6 = .ok (.invokevirtual 39, 3) := by decide +kernel
theorem dX5_readOrder_9 : decode cX5_readOrder 9 = .ok (.putfield 43, 3) := by decide +kernel
theorem dX5_readOrder_12 : decode cX5_readOrder 12 = .ok (.aload_n 0, 1) := by decide +kernel
theorem dX5_readOrder_13 : decode cX5_readOrder 13 = .ok (.getfield 43, 3) := by decide +kernel
theorem dX5_readOrder_16 : decode cX5_readOrder 16 = .ok (.tableswitch 140 98 113 #[80, 140, 128, 140, 140, 140, 140, 95, 140, 140, 80, 140, 140, 140, 128, 95], 80) := by decide +kernel
theorem dX5_readOrder_96 : decode cX5_readOrder 96 = .ok (.aload_n 0, 1) := by decide +kernel
theorem dX5_readOrder_97 : decode cX5_readOrder 97 = .ok (.dup, 1) := by decide +kernel
theorem dX5_readOrder_98 : decode cX5_readOrder 98 = .ok (.getfield 25, 3) := by decide +kernel
theorem dX5_readOrder_101 : decode cX5_readOrder 101 = .ok (.iconst 1, 1) := by decide +kernel
theorem dX5_readOrder_102 : decode cX5_readOrder 102 = .ok (.iadd, 1) := by decide +kernel
theorem dX5_readOrder_103 : decode cX5_readOrder 103 = .ok (.putfield 25, 3) := by decide +kernel
theorem dX5_readOrder_106 : decode cX5_readOrder 106 = .ok (.aload_n 0, 1) := by decide +kernel
theorem dX5_readOrder_107 : decode cX5_readOrder 107 = .ok (.invokevirtual 47, 3) := by decide +kernel
theorem dX5_readOrder_110 : decode cX5_readOrder 110 = .ok (.ireturn, 1) := by decide +kernel
theorem dX5_readOrder_111 : decode cX5_readOrder 111 = .ok (.aload_n 0, 1) := by decide +kernel
theorem dX5_readOrder_112 : decode cX5_readOrder 112 = .ok (.dup, 1) := by decide +kernel
theorem dX5_readOrder_113 : decode cX5_readOrder 113 = .ok (.getfield 25, 3) := by decide +kernel
theorem dX5_readOrder_116 : decode cX5_readOrder 116 = .ok (.iconst 1, 1) := by decide +kernel
theorem dX5_readOrder_117 : decode cX5_readOrder 117 = .ok (.iadd, 1) := by decide +kernel
theorem dX5_readOrder_118 : decode cX5_readOrder 118 = .ok (.putfield 25, 3) := by decide +kernel
theorem dX5_readOrder_121 : decode cX5_readOrder 121 = .ok (.aload_n 0, 1) := by decide +kernel
theorem dX5_readOrder_122 : decode cX5_readOrder 122 = .ok (.aload_n 0, 1) := by decide +kernel
theorem dX5_readOrder_123 : decode cX5_readOrder 123 = .ok (.ldc 50, 2) := by decide +kernel
theorem dX5_readOrder_125 : decode cX5_readOrder 125 = .ok (.invokevirtual 51, 3) := by decide +kernel
theorem dX5_readOrder_128 : decode cX5_readOrder 128 = .ok (.putfield 55, 3) := by decide +kernel
theorem dX5_readOrder_131 : decode cX5_readOrder 131 = .ok (.aload_n 0, 1) := by decide +kernel
theorem dX5_readOrder_132 : decode cX5_readOrder 132 = .ok (.getfield 55, 3) := by decide +kernel
theorem dX5_readOrder_135 : decode cX5_readOrder 135 = .ok (.ifCond .lt 7, 3) := by decide +kernel
theorem dX5_readOrder_138 : decode cX5_readOrder 138 = .ok (.iconst 1, 1) := by decide +kernel
theorem dX5_readOrder_139 : decode cX5_readOrder 139 = .ok (.goto 4, 3) := by decide +kernel
theorem dX5_readOrder_142 : decode cX5_readOrder 142 = .ok (.iconst 0, 1) := by decide +kernel
theorem dX5_readOrder_143 : decode cX5_readOrder 143 = .ok (.ireturn, 1) := by decide +kernel
theorem dX5_readOrder_144 : decode cX5_readOrder 144 = .ok (.aload_n 0, 1) := by decide +kernel
theorem dX5_readOrder_145 : decode cX5_readOrder 145 = .ok (.dup, 1) := by decide +kernel
theorem dX5_readOrder_146 : decode cX5_readOrder 146 = .ok (.getfield 25, 3) := by decide +kernel
theorem dX5_readOrder_149 : decode cX5_readOrder 149 = .ok (.iconst 1, 1) := by decide +kernel
theorem dX5_readOrder_150 : decode cX5_readOrder 150 = .ok (.iadd, 1) := by decide +kernel
theorem dX5_readOrder_151 : decode cX5_readOrder 151 = .ok (.putfield 25, 3) := by decide +kernel
theorem dX5_readOrder_154 : decode cX5_readOrder 154 = .ok (.iconst 1, 1) := by decide +kernel
theorem dX5_readOrder_155 : decode cX5_readOrder 155 = .ok (.ireturn, 1) := by decide +kernel
theorem dX5_readOrder_156 : decode cX5_readOrder 156 = .ok (.iconst 0, 1) := by decide +kernel
theorem dX5_readOrder_157 : decode cX5_readOrder 157 = .ok (.ireturn, 1) := by decide +kernel
theorem dX5_skip_0 : decode cX5_skip 0 = .ok (.aload_n 0, 1) := by decide +kernel
theorem dX5_skip_1 : decode cX5_skip 1 = .ok (.aload_n 0, 1) := by decide +kernel
theorem dX5_skip_2 : decode cX5_skip 2 = .ok (.getfield 25, 3) := by decide +kernel
theorem dX5_skip_5 : decode cX5_skip 5 = .ok (.invokevirtual 39, 3) := by decide +kernel
theorem dX5_skip_8 : decode cX5_skip 8 = .ok (.iload_n 1, 1) := by decide +kernel
theorem dX5_skip_9 : decode cX5_skip 9 = .ok (.if_icmp .eq 5, 3) := by decide +kernel
theorem dX5_skip_12 : decode cX5_skip 12 = .ok (.iconst 0, 1) := by decide +kernel
theorem dX5_skip_13 : decode cX5_skip 13 = .ok (.ireturn, 1) := by decide +kernel
theorem dX5_skip_14 : decode cX5_skip 14 = .ok (.aload_n 0, 1) := by decide +kernel
theorem dX5_skip_15 : decode cX5_skip 15 = .ok (.dup, 1) := by decide +kernel
theorem dX5_skip_16 : decode cX5_skip 16 = .ok (.getfield 25, 3) := by decide +kernel
theorem dX5_skip_19 : decode cX5_skip 19 = .ok (.iconst 1, 1) := by decide +kernel
theorem dX5_skip_20 : decode cX5_skip 20 = .ok (.iadd, 1) := by decide +kernel
theorem dX5_skip_21 : decode cX5_skip 21 = .ok (.putfield 25, 3) := by decide +kernel
theorem dX5_skip_24 : decode cX5_skip 24 = .ok (.iconst 1, 1) := by decide +kernel
theorem dX5_skip_25 : decode cX5_skip 25 = .ok (.ireturn, 1) := by decide +kernel
theorem dX5_readDeal_0 : decode cX5_readDeal 0 = .ok (.aload_n 0, 1) := by decide +kernel
theorem dX5_readDeal_1 : decode cX5_readDeal 1 = .ok (.aload_n 0, 1) := by decide +kernel
theorem dX5_readDeal_2 : decode cX5_readDeal 2 = .ok (.invokevirtual 58, 3) := by decide +kernel
theorem dX5_readDeal_5 : decode cX5_readDeal 5 = .ok (.putfield 62, 3) := by decide +kernel
theorem dX5_readDeal_8 : decode cX5_readDeal 8 = .ok (.aload_n 0, 1) := by decide +kernel
theorem dX5_readDeal_9 : decode cX5_readDeal 9 = .ok (.getfield 62, 3) := by decide +kernel
theorem dX5_readDeal_12 : decode cX5_readDeal 12 = .ok (.invokestatic 65, 3) := by decide +kernel
theorem dX5_readDeal_15 : decode cX5_readDeal 15 = .ok (.ifCond .ne 5, 3) := by decide +kernel
theorem dX5_readDeal_18 : decode cX5_readDeal 18 = .ok (.iconst 0, 1) := by decide +kernel
theorem dX5_readDeal_19 : decode cX5_readDeal 19 = .ok (.ireturn, 1) := by decide +kernel
theorem dX5_readDeal_20 : decode cX5_readDeal 20 = .ok (.aload_n 0, 1) := by decide +kernel
theorem dX5_readDeal_21 : decode cX5_readDeal 21 = .ok (.dup, 1) := by decide +kernel
theorem dX5_readDeal_22 : decode cX5_readDeal 22 = .ok (.getfield 25, 3) := by decide +kernel
theorem dX5_readDeal_25 : decode cX5_readDeal 25 = .ok (.iconst 1, 1) := by decide +kernel
theorem dX5_readDeal_26 : decode cX5_readDeal 26 = .ok (.iadd, 1) := by decide +kernel
theorem dX5_readDeal_27 : decode cX5_readDeal 27 = .ok (.putfield 25, 3) := by decide +kernel
theorem dX5_readDeal_30 : decode cX5_readDeal 30 = .ok (.aload_n 0, 1) := by decide +kernel
theorem dX5_readDeal_31 : decode cX5_readDeal 31 = .ok (.bipush 58, 2) := by decide +kernel
theorem dX5_readDeal_33 : decode cX5_readDeal 33 = .ok (.invokevirtual 35, 3) := by decide +kernel
theorem dX5_readDeal_36 : decode cX5_readDeal 36 = .ok (.ifCond .ne 5, 3) := by decide +kernel
theorem dX5_readDeal_39 : decode cX5_readDeal 39 = .ok (.iconst 0, 1) := by decide +kernel
theorem dX5_readDeal_40 : decode cX5_readDeal 40 = .ok (.ireturn, 1) := by decide +kernel
theorem dX5_readDeal_41 : decode cX5_readDeal 41 = .ok (.aload_n 0, 1) := by decide +kernel
theorem dX5_readDeal_42 : decode cX5_readDeal 42 = .ok (.aload_n 0, 1) := by decide +kernel
theorem dX5_readDeal_43 : decode cX5_readDeal 43 = .ok (.ldc 50, 2) := by decide +kernel
theorem dX5_readDeal_45 : decode cX5_readDeal 45 = .ok (.invokevirtual 51, 3) := by decide +kernel
theorem dX5_readDeal_48 : decode cX5_readDeal 48 = .ok (.putfield 55, 3) := by decide +kernel
theorem dX5_readDeal_51 : decode cX5_readDeal 51 = .ok (.aload_n 0, 1) := by decide +kernel
theorem dX5_readDeal_52 : decode cX5_readDeal 52 = .ok (.getfield 55, 3) := by decide +kernel
theorem dX5_readDeal_55 : decode cX5_readDeal 55 = .ok (.ifCond .ge 5, 3) := by decide +kernel
theorem dX5_readDeal_58 : decode cX5_readDeal 58 = .ok (.iconst 0, 1) := by decide +kernel
theorem dX5_readDeal_59 : decode cX5_readDeal 59 = .ok (.ireturn, 1) := by decide +kernel
theorem dX5_readDeal_60 : decode cX5_readDeal 60 = .ok (.aload_n 0, 1) := by decide +kernel
theorem dX5_readDeal_61 : decode cX5_readDeal 61 = .ok (.aload_n 0, 1) := by decide +kernel
theorem dX5_readDeal_62 : decode cX5_readDeal 62 = .ok (.bipush 64, 2) := by decide +kernel
theorem dX5_readDeal_64 : decode cX5_readDeal 64 = .ok (.invokevirtual 35, 3) := by decide +kernel
theorem dX5_readDeal_67 : decode cX5_readDeal 67 = .ok (.ifCond .eq 12, 3) := by decide +kernel
theorem dX5_readDeal_70 : decode cX5_readDeal 70 = .ok (.aload_n 0, 1) := by decide +kernel
theorem dX5_readDeal_71 : decode cX5_readDeal 71 = .ok (.bipush 23, 2) := by decide +kernel
theorem dX5_readDeal_73 : decode cX5_readDeal 73 = .ok (.invokevirtual 51, 3) := by decide +kernel
theorem dX5_readDeal_76 : decode cX5_readDeal 76 = .ok (.goto 4, 3) := by decide +kernel
theorem dX5_readDeal_79 : decode cX5_readDeal 79 = .ok (.iconst 0, 1) := by decide +kernel
theorem dX5_readDeal_80 : decode cX5_readDeal 80 = .ok (.putfield 69, 3) := by decide +kernel
theorem dX5_readDeal_83 : decode cX5_readDeal 83 = .ok (.aload_n 0, 1) := by decide +kernel
theorem dX5_readDeal_84 : decode cX5_readDeal 84 = .ok (.getfield 69, 3) := by decide +kernel
theorem dX5_readDeal_87 : decode cX5_readDeal 87 = .ok (.ifCond .lt 7, 3) := by decide +kernel
theorem dX5_readDeal_90 : decode cX5_readDeal 90 = .ok (.iconst 1, 1) := by decide +kernel
theorem dX5_readDeal_91 : decode cX5_readDeal 91 = .ok (.goto 4, 3) := by decide +kernel
theorem dX5_readDeal_94 : decode cX5_readDeal 94 = .ok (.iconst 0, 1) := by decide +kernel
theorem dX5_readDeal_95 : decode cX5_readDeal 95 = .ok (.ireturn, 1) := by decide +kernel
theorem dX5_readNumber_0 : decode cX5_readNumber 0 = .ok (.aload_n 0, 1) := by decide +kernel
theorem dX5_readNumber_1 : decode cX5_readNumber 1 = .ok (.invokevirtual 58, 3) := by decide +kernel
theorem dX5_readNumber_4 : decode cX5_readNumber 4 = .ok (.istore_n 2, 1) := by decide +kernel
theorem dX5_readNumber_5 : decode cX5_readNumber 5 = .ok (.iload_n 2, 1) := by decide +kernel
theorem dX5_readNumber_6 : decode cX5_readNumber 6 = .ok (.ifCond .ge 5, 3) := by decide +kernel
theorem dX5_readNumber_9 : decode cX5_readNumber 9 = .ok (.iconst (-1), 1) := by decide +kernel
theorem dX5_readNumber_10 : decode cX5_readNumber 10 = .ok (.ireturn, 1) := by decide +kernel
theorem dX5_readNumber_11 : decode cX5_readNumber 11 = .ok (.aload_n 0, 1) := by decide +kernel
theorem dX5_readNumber_12 : decode cX5_readNumber 12 = .ok (.dup, 1) := by decide +kernel
theorem dX5_readNumber_13 : decode cX5_readNumber 13 = .ok (.getfield 25, 3) := by decide +kernel
theorem dX5_readNumber_16 : decode cX5_readNumber 16 = .ok (.iconst 1, 1) := by decide +kernel
theorem dX5_readNumber_17 : decode cX5_readNumber 17 = .ok (.iadd, 1) := by decide +kernel
theorem dX5_readNumber_18 : decode cX5_readNumber 18 = .ok (.putfield 25, 3) := by decide +kernel
theorem dX5_readNumber_21 : decode cX5_readNumber 21 = .ok (.aload_n 0, 1) := by decide +kernel
theorem dX5_readNumber_22 : decode cX5_readNumber 22 = .ok (.invokevirtual 58, 3) := by decide +kernel
theorem dX5_readNumber_25 : decode cX5_readNumber 25 = .ok (.istore_n 3, 1) := by decide +kernel
theorem dX5_readNumber_26 : decode cX5_readNumber 26 = .ok (.iload_n 3, 1) := by decide +kernel
theorem dX5_readNumber_27 : decode cX5_readNumber 27 = .ok (.ifCond .lt 55, 3) := by decide +kernel
theorem dX5_readNumber_30 : decode cX5_readNumber 30 = .ok (.aload_n 0, 1) := by decide +kernel
theorem dX5_readNumber_31 : decode cX5_readNumber 31 = .ok (.getfield 25, 3) := by decide +kernel
theorem dX5_readNumber_34 : decode cX5_readNumber 34 = .ok (.aload_n 0, 1) := by decide +kernel
theorem dX5_readNumber_35 : decode cX5_readNumber 35 = .ok (.getfield 21, 3) := by decide +kernel
theorem dX5_readNumber_38 : decode cX5_readNumber 38 = .ok (.if_icmp .ge 44, 3) := by decide +kernel
theorem dX5_readNumber_41 : decode cX5_readNumber 41 = .ok (.iload_n 2, 1) := by decide +kernel
theorem dX5_readNumber_42 : decode cX5_readNumber 42 = .ok (.ifCond .eq 13, 3) := by decide +kernel
theorem dX5_readNumber_45 : decode cX5_readNumber 45 = .ok (.bipush 10, 2) := by decide +kernel
theorem dX5_readNumber_47 : decode cX5_readNumber 47 = .ok (.iload_n 2, 1) := by decide +kernel
theorem dX5_readNumber_48 : decode cX5_readNumber 48 = .ok (.imul, 1) := by decide +kernel
theorem dX5_readNumber_49 : decode cX5_readNumber 49 = .ok (.iload_n 3, 1) := by decide +kernel
theorem dX5_readNumber_50 : decode cX5_readNumber 50 = .ok (.iadd, 1) := by decide +kernel
theorem dX5_readNumber_51 : decode cX5_readNumber 51 = .ok (.iload_n 1, 1) := by decide +kernel
theorem dX5_readNumber_52 : decode cX5_readNumber 52 = .ok (.if_icmp .le 5, 3) := by decide +kernel
theorem dX5_readNumber_55 : decode cX5_readNumber 55 = .ok (.iconst (-1), 1) := by decide +kernel
theorem dX5_readNumber_56 : decode cX5_readNumber 56 = .ok (.ireturn, 1) := by decide +kernel
theorem dX5_readNumber_57 : decode cX5_readNumber 57 = .ok (.bipush 10, 2) := by decide +kernel
theorem dX5_readNumber_59 : decode cX5_readNumber 59 = .ok (.iload_n 2, 1) := by decide +kernel
theorem dX5_readNumber_60 : decode cX5_readNumber 60 = .ok (.imul, 1) := by decide +kernel
theorem dX5_readNumber_61 : decode cX5_readNumber 61 = .ok (.iload_n 3, 1) := by decide +kernel
theorem dX5_readNumber_62 : decode cX5_readNumber 62 = .ok (.iadd, 1) := by decide +kernel
theorem dX5_readNumber_63 : decode cX5_readNumber 63 = .ok (.istore_n 2, 1) := by decide +kernel
theorem dX5_readNumber_64 : decode cX5_readNumber 64 = .ok (.aload_n 0, 1) := by decide +kernel
theorem dX5_readNumber_65 : decode cX5_readNumber 65 = .ok (.dup, 1) := by decide +kernel
theorem dX5_readNumber_66 : decode cX5_readNumber 66 = .ok (.getfield 25, 3) := by decide +kernel
theorem dX5_readNumber_69 : decode cX5_readNumber 69 = .ok (.iconst 1, 1) := by decide +kernel
theorem dX5_readNumber_70 : decode cX5_readNumber 70 = .ok (.iadd, 1) := by decide +kernel
theorem dX5_readNumber_71 : decode cX5_readNumber 71 = .ok (.putfield 25, 3) := by decide +kernel
theorem dX5_readNumber_74 : decode cX5_readNumber 74 = .ok (.aload_n 0, 1) := by decide +kernel
theorem dX5_readNumber_75 : decode cX5_readNumber 75 = .ok (.invokevirtual 58, 3) := by decide +kernel
theorem dX5_readNumber_78 : decode cX5_readNumber 78 = .ok (.istore_n 3, 1) := by decide +kernel
theorem dX5_readNumber_79 : decode cX5_readNumber 79 = .ok (.goto (-53), 3) := by decide +kernel
theorem dX5_readNumber_82 : decode cX5_readNumber 82 = .ok (.iload_n 2, 1) := by decide +kernel
theorem dX5_readNumber_83 : decode cX5_readNumber 83 = .ok (.ireturn, 1) := by decide +kernel
theorem dX5_digitAt_0 : decode cX5_digitAt 0 = .ok (.aload_n 0, 1) := by decide +kernel
theorem dX5_digitAt_1 : decode cX5_digitAt 1 = .ok (.aload_n 0, 1) := by decide +kernel
theorem dX5_digitAt_2 : decode cX5_digitAt 2 = .ok (.getfield 25, 3) := by decide +kernel
theorem dX5_digitAt_5 : decode cX5_digitAt 5 = .ok (.invokevirtual 39, 3) := by decide +kernel
theorem dX5_digitAt_8 : decode cX5_digitAt 8 = .ok (.istore_n 1, 1) := by decide +kernel
theorem dX5_digitAt_9 : decode cX5_digitAt 9 = .ok (.iload_n 1, 1) := by decide +kernel
theorem dX5_digitAt_10 : decode cX5_digitAt 10 = .ok (.bipush 48, 2) := by decide +kernel
theorem dX5_digitAt_12 : decode cX5_digitAt 12 = .ok (.if_icmp .lt 16, 3) := by decide +kernel
theorem dX5_digitAt_15 : decode cX5_digitAt 15 = .ok (.iload_n 1, 1) := by decide +kernel
theorem dX5_digitAt_16 : decode cX5_digitAt 16 = .ok (.bipush 57, 2) := by decide +kernel
theorem dX5_digitAt_18 : decode cX5_digitAt 18 = .ok (.if_icmp .gt 10, 3) := by decide +kernel
theorem dX5_digitAt_21 : decode cX5_digitAt 21 = .ok (.iload_n 1, 1) := by decide +kernel
theorem dX5_digitAt_22 : decode cX5_digitAt 22 = .ok (.bipush 48, 2) := by decide +kernel
theorem dX5_digitAt_24 : decode cX5_digitAt 24 = .ok (.isub, 1) := by decide +kernel
theorem dX5_digitAt_25 : decode cX5_digitAt 25 = .ok (.goto 4, 3) := by decide +kernel
theorem dX5_digitAt_28 : decode cX5_digitAt 28 = .ok (.iconst (-1), 1) := by decide +kernel
theorem dX5_digitAt_29 : decode cX5_digitAt 29 = .ok (.ireturn, 1) := by decide +kernel
theorem dX6_init_0 : decode cX6_init 0 = .ok (.aload_n 0, 1) := by decide +kernel
theorem dX6_init_1 : decode cX6_init 1 = .ok (.invokespecial 3, 3) := by decide +kernel
theorem dX6_init_4 : decode cX6_init 4 = .ok (.aload_n 0, 1) := by decide +kernel
theorem dX6_init_5 : decode cX6_init 5 = .ok (.sipush 1000, 3) := by decide +kernel
theorem dX6_init_8 : decode cX6_init 8 = .ok (.putfield 9, 3) := by decide +kernel
theorem dX6_init_11 : decode cX6_init 11 = .ok (.aload_n 0, 1) := by decide +kernel
theorem dX6_init_12 : decode cX6_init 12 = .ok (.iconst 5, 1) := by decide +kernel
theorem dX6_init_13 : decode cX6_init 13 = .ok (.newarray .int, 2) := by decide +kernel
theorem dX6_init_15 : decode cX6_init 15 = .ok (.dup, 1) := by decide +kernel
theorem dX6_init_16 : decode cX6_init 16 = .ok (.iconst 0, 1) := by decide +kernel
theorem dX6_init_17 : decode cX6_init 17 = .ok (.bipush 12, 2) := by decide +kernel
theorem dX6_init_19 : decode cX6_init 19 = .ok (.iastore, 1) := by decide +kernel
theorem dX6_init_20 : decode cX6_init 20 = .ok (.dup, 1) := by decide +kernel
theorem dX6_init_21 : decode cX6_init 21 = .ok (.iconst 1, 1) := by decide +kernel
theorem dX6_init_22 : decode cX6_init 22 = .ok (.bipush 50, 2) := by decide +kernel
theorem dX6_init_24 : decode cX6_init 24 = .ok (.iastore, 1) := by decide +kernel
theorem dX6_init_25 : decode cX6_init 25 = .ok (.dup, 1) := by decide +kernel
theorem dX6_init_26 : decode cX6_init 26 = .ok (.iconst 2, 1) := by decide +kernel
theorem dX6_init_27 : decode cX6_init 27 = .ok (.bipush 10, 2) := by decide +kernel
theorem dX6_init_29 : decode cX6_init 29 = .ok (.iastore, 1) := by decide +kernel
theorem dX6_init_30 : decode cX6_init 30 = .ok (.dup, 1) := by decide +kernel
theorem dX6_init_31 : decode cX6_init 31 = .ok (.iconst 3, 1) := by decide +kernel
theorem dX6_init_32 : decode cX6_init 32 = .ok (.bipush 100, 2) := by decide +kernel
theorem dX6_init_34 : decode cX6_init 34 = .ok (.iastore, 1) := by decide +kernel
theorem dX6_init_35 : decode cX6_init 35 = .ok (.dup, 1) := by decide +kernel
theorem dX6_init_36 : decode cX6_init 36 = .ok (.iconst 4, 1) := by decide +kernel
theorem dX6_init_37 : decode cX6_init 37 = .ok (.iconst 5, 1) := by decide +kernel
theorem dX6_init_38 : decode cX6_init 38 = .ok (.iastore, 1) := by decide +kernel
theorem dX6_init_39 : decode cX6_init 39 = .ok (.putfield 15, 3) := by decide +kernel
theorem dX6_init_42 : decode cX6_init 42 = .ok (.aload_n 0, 1) := by decide +kernel
theorem dX6_init_43 : decode cX6_init 43 = .ok (.bipush 6, 2) := by decide +kernel
theorem dX6_init_45 : decode cX6_init 45 = .ok (.anewarray 19, 3) := by decide +kernel
theorem dX6_init_48 : decode cX6_init 48 = .ok (.putfield 21, 3) := by decide +kernel
theorem dX6_init_51 : decode cX6_init 51 = .ok (.iconst 0, 1) := by decide +kernel
theorem dX6_init_52 : decode cX6_init 52 = .ok (.istore_n 1, 1) := by decide +kernel
theorem dX6_init_53 : decode cX6_init 53 = .ok (.iload_n 1, 1) := by decide +kernel
theorem dX6_init_54 : decode cX6_init 54 = .ok (.bipush 6, 2) := by decide +kernel
theorem dX6_init_56 : decode cX6_init 56 = .ok (.if_icmp .ge 22, 3) := by decide +kernel
theorem dX6_init_59 : decode cX6_init 59 = .ok (.aload_n 0, 1) := by decide +kernel
theorem dX6_init_60 : decode cX6_init 60 = .ok (.getfield 21, 3) := by decide +kernel
theorem dX6_init_63 : decode cX6_init 63 = .ok (.iload_n 1, 1) := by decide +kernel
theorem dX6_init_64 : decode cX6_init 64 = .ok (.new 19, 3) := by decide +kernel
theorem dX6_init_67 : decode cX6_init 67 = .ok (.dup, 1) := by decide +kernel
theorem dX6_init_68 : decode cX6_init 68 = .ok (.invokespecial 25, 3) := by decide +kernel
theorem dX6_init_71 : decode cX6_init 71 = .ok (.aastore, 1) := by decide +kernel
theorem dX6_init_72 : decode cX6_init 72 = .ok (.iinc 1 1, 3) := by decide +kernel
theorem dX6_init_75 : decode cX6_init 75 = .ok (.goto (-22), 3) := by decide +kernel
theorem dX6_init_78 : decode cX6_init 78 = .ok (.aload_n 0, 1) := by decide +kernel
theorem dX6_init_79 : decode cX6_init 79 = .ok (.new 26, 3) := by decide +kernel
theorem dX6_init_82 : decode cX6_init 82 = .ok (.dup, 1) := by decide +kernel
theorem dX6_init_83 : decode cX6_init 83 = .ok (.invokespecial 28, 3) := by decide +kernel
theorem dX6_init_86 : decode cX6_init 86 = .ok (.putfield 29, 3) := by decide +kernel
theorem dX6_init_89 : decode cX6_init 89 = .ok (.aload_n 0, 1) := by decide +kernel
theorem dX6_init_90 : decode cX6_init 90 = .ok (.new 26, 3) := by decide +kernel
theorem dX6_init_93 : decode cX6_init 93 = .ok (.dup, 1) := by decide +kernel
theorem dX6_init_94 : decode cX6_init 94 = .ok (.invokespecial 28, 3) := by decide +kernel
theorem dX6_init_97 : decode cX6_init 97 = .ok (.putfield 33, 3) := by decide +kernel
theorem dX6_init_100 : decode cX6_init 100 = .ok (.aload_n 0, 1) := by decide +kernel
theorem dX6_init_101 : decode cX6_init 101 = .ok (.new 36, 3) := by decide +kernel
theorem dX6_init_104 : decode cX6_init 104 = .ok (.dup, 1) := by decide +kernel
theorem dX6_init_105 : decode cX6_init 105 = .ok (.invokespecial 38, 3) := by decide +kernel
theorem dX6_init_108 : decode cX6_init 108 = .ok (.putfield 39, 3) := by decide +kernel
theorem dX6_init_111 : decode cX6_init 111 = .ok (.return_, 1) := by decide +kernel
theorem dX6_become_0 : decode cX6_become 0 = .ok (.aload_n 0, 1) := by decide +kernel
theorem dX6_become_1 : decode cX6_become 1 = .ok (.aload_n 1, 1) := by decide +kernel
theorem dX6_become_2 : decode cX6_become 2 = .ok (.getfield 43, 3) := by decide +kernel
theorem dX6_become_5 : decode cX6_become 5 = .ok (.putfield 43, 3) := by decide +kernel
theorem dX6_become_8 : decode cX6_become 8 = .ok (.aload_n 0, 1) := by decide +kernel
theorem dX6_become_9 : decode cX6_become 9 = .ok (.aload_n 1, 1) := by decide +kernel
theorem dX6_become_10 : decode cX6_become 10 = .ok (.getfield 47, 3) := by decide +kernel
theorem dX6_become_13 : decode cX6_become 13 = .ok (.putfield 47, 3) := by decide +kernel
theorem dX6_become_16 : decode cX6_become 16 = .ok (.aload_n 0, 1) := by decide +kernel
theorem dX6_become_17 : decode cX6_become 17 = .ok (.aload_n 1, 1) := by decide +kernel
theorem dX6_become_18 : decode cX6_become 18 = .ok (.getfield 50, 3) := by decide +kernel
theorem dX6_become_21 : decode cX6_become 21 = .ok (.putfield 50, 3) := by decide +kernel
theorem dX6_become_24 : decode cX6_become 24 = .ok (.aload_n 0, 1) := by decide +kernel
theorem dX6_become_25 : decode cX6_become 25 = .ok (.aload_n 1, 1) := by decide +kernel
theorem dX6_become_26 : decode cX6_become 26 = .ok (.getfield 53, 3) := by decide +kernel
theorem dX6_become_29 : decode cX6_become 29 = .ok (.putfield 53, 3) := by decide +kernel
theorem dX6_become_32 : decode cX6_become 32 = .ok (.aload_n 0, 1) := by decide +kernel
theorem dX6_become_33 : decode cX6_become 33 = .ok (.aload_n 1, 1) := by decide +kernel
theorem dX6_become_34 : decode cX6_become 34 = .ok (.getfield 9, 3) := by decide +kernel
theorem dX6_become_37 : decode cX6_become 37 = .ok (.putfield 9, 3) := by decide +kernel
theorem dX6_become_40 : decode cX6_become 40 = .ok (.aload_n 0, 1) := by decide +kernel
theorem dX6_become_41 : decode cX6_become 41 = .ok (.aload_n 1, 1) := by decide +kernel
theorem dX6_become_42 : decode cX6_become 42 = .ok (.getfield 56, 3) := by decide +kernel
theorem dX6_become_45 : decode cX6_become 45 = .ok (.putfield 56, 3) := by decide +kernel
theorem dX6_become_48 : decode cX6_become 48 = .ok (.iconst 0, 1) := by decide +kernel
theorem dX6_become_49 : decode cX6_become 49 = .ok (.istore_n 2, 1) := by decide +kernel
theorem dX6_become_50 : decode cX6_become 50 = .ok (.iload_n 2, 1) := by decide +kernel
theorem dX6_become_51 : decode cX6_become 51 = .ok (.iconst 5, 1) := by decide +kernel
theorem dX6_become_52 : decode cX6_become 52 = .ok (.if_icmp .ge 21, 3) := by decide +kernel
theorem dX6_become_55 : decode cX6_become 55 = .ok (.aload_n 0, 1) := by decide +kernel
theorem dX6_become_56 : decode cX6_become 56 = .ok (.getfield 15, 3) := by decide +kernel
theorem dX6_become_59 : decode cX6_become 59 = .ok (.iload_n 2, 1) := by decide +kernel
theorem dX6_become_60 : decode cX6_become 60 = .ok (.aload_n 1, 1) := by decide +kernel
theorem dX6_become_61 : decode cX6_become 61 = .ok (.getfield 15, 3) := by decide +kernel
theorem dX6_become_64 : decode cX6_become 64 = .ok (.iload_n 2, 1) := by decide +kernel
theorem dX6_become_65 : decode cX6_become 65 = .ok (.iaload, 1) := by decide +kernel
theorem dX6_become_66 : decode cX6_become 66 = .ok (.iastore, 1) := by decide +kernel
theorem dX6_become_67 : decode cX6_become 67 = .ok (.iinc 2 1, 3) := by decide +kernel
theorem dX6_become_70 : decode cX6_become 70 = .ok (.goto (-20), 3) := by decide +kernel
theorem dX6_become_73 : decode cX6_become 73 = .ok (.iconst 0, 1) := by decide +kernel
theorem dX6_become_74 : decode cX6_become 74 = .ok (.istore_n 2, 1) := by decide +kernel
theorem dX6_become_75 : decode cX6_become 75 = .ok (.iload_n 2, 1) := by decide +kernel
theorem dX6_become_76 : decode cX6_become 76 = .ok (.bipush 6, 2) := by decide +kernel
theorem dX6_become_78 : decode cX6_become 78 = .ok (.if_icmp .ge 24, 3) := by decide +kernel
theorem dX6_become_81 : decode cX6_become 81 = .ok (.aload_n 0, 1) := by decide +kernel
theorem dX6_become_82 : decode cX6_become 82 = .ok (.getfield 21, 3) := by decide +kernel
theorem dX6_become_85 : decode cX6_become 85 = .ok (.iload_n 2, 1) := by decide +kernel
theorem dX6_become_86 : decode cX6_become 86 = .ok (.aaload, 1) := by decide +kernel
theorem dX6_become_87 : decode cX6_become 87 = .ok (.aload_n 1, 1) := by decide +kernel
theorem dX6_become_88 : decode cX6_become 88 = .ok (.getfield 21, 3) := by decide +kernel
theorem dX6_become_91 : decode cX6_become 91 = .ok (.iload_n 2, 1) := by decide +kernel
theorem dX6_become_92 : decode cX6_become 92 = .ok (.aaload, 1) := by decide +kernel
theorem dX6_become_93 : decode cX6_become 93 = .ok (.invokevirtual 59, 3) := by decide +kernel
theorem dX6_become_96 : decode cX6_become 96 = .ok (.iinc 2 1, 3) := by decide +kernel
theorem dX6_become_99 : decode cX6_become 99 = .ok (.goto (-24), 3) := by decide +kernel
theorem dX6_become_102 : decode cX6_become 102 = .ok (.aload_n 0, 1) := by decide +kernel
theorem dX6_become_103 : decode cX6_become 103 = .ok (.getfield 29, 3) := by decide +kernel
theorem dX6_become_106 : decode cX6_become 106 = .ok (.aload_n 1, 1) := by decide +kernel
theorem dX6_become_107 : decode cX6_become 107 = .ok (.getfield 29, 3) := by decide +kernel
theorem dX6_become_110 : decode cX6_become 110 = .ok (.invokevirtual 63, 3) := by decide +kernel
theorem dX6_become_113 : decode cX6_become 113 = .ok (.aload_n 0, 1) := by decide +kernel
theorem dX6_become_114 : decode cX6_become 114 = .ok (.getfield 33, 3) := by decide +kernel
theorem dX6_become_117 : decode cX6_become 117 = .ok (.aload_n 1, 1) := by decide +kernel
theorem dX6_become_118 : decode cX6_become 118 = .ok (.getfield 33, 3) := by decide +kernel
theorem dX6_become_121 : decode cX6_become 121 = .ok (.invokevirtual 63, 3) := by decide +kernel
theorem dX6_become_124 : decode cX6_become 124 = .ok (.aload_n 0, 1) := by decide +kernel
theorem dX6_become_125 : decode cX6_become 125 = .ok (.getfield 39, 3) := by decide +kernel
theorem dX6_become_128 : decode cX6_become 128 = .ok (.aload_n 1, 1) := by decide +kernel
theorem dX6_become_129 : decode cX6_become 129 = .ok (.getfield 39, 3) := by decide +kernel
theorem dX6_become_132 : decode cX6_become 132 = .ok (.invokevirtual 66, 3) := by decide +kernel
theorem dX6_become_135 : decode cX6_become 135 = .ok (.return_, 1) := by decide +kernel
theorem dX6_value_0 : decode cX6_value 0 = .ok (.aload_n 0, 1) := by decide +kernel
theorem dX6_value_1 : decode cX6_value 1 = .ok (.getfield 43, 3) := by decide +kernel
theorem dX6_value_4 : decode cX6_value 4 = .ok (.aload_n 0, 1) := by decide +kernel
theorem dX6_value_5 : decode cX6_value 5 = .ok (.getfield 53, 3) := by decide +kernel
theorem dX6_value_8 : decode cX6_value 8 = .ok (.i2l, 1) := by decide +kernel
theorem dX6_value_9 : decode cX6_value 9 = .ok (.aload_n 0, 1) := by decide +kernel
theorem dX6_value_10 : decode cX6_value 10 = .ok (.getfield 9, 3) := by decide +kernel
theorem dX6_value_13 : decode cX6_value 13 = .ok (.i2l, 1) := by decide +kernel
theorem dX6_value_14 : decode cX6_value 14 = .ok (.lmul, 1) := by decide +kernel
theorem dX6_value_15 : decode cX6_value 15 = .ok (.ladd, 1) := by decide +kernel
theorem dX6_value_16 : decode cX6_value 16 = .ok (.lreturn, 1) := by decide +kernel
theorem dX6_units_0 : decode cX6_units 0 = .ok (.lconst 0, 1) := by decide +kernel
theorem dX6_units_1 : decode cX6_units 1 = .ok (.lstore_n 1, 1) := by decide +kernel
theorem dX6_units_2 : decode cX6_units 2 = .ok (.iconst 0, 1) := by decide +kernel
theorem dX6_units_3 : decode cX6_units 3 = .ok (.istore_n 3, 1) := by decide +kernel
theorem dX6_units_4 : decode cX6_units 4 = .ok (.iload_n 3, 1) := by decide +kernel
theorem dX6_units_5 : decode cX6_units 5 = .ok (.bipush 6, 2) := by decide +kernel
theorem dX6_units_7 : decode cX6_units 7 = .ok (.if_icmp .ge 21, 3) := by decide +kernel
theorem dX6_units_10 : decode cX6_units 10 = .ok (.lload_n 1, 1) := by decide +kernel
theorem dX6_units_11 : decode cX6_units 11 = .ok (.aload_n 0, 1) := by decide +kernel
theorem dX6_units_12 : decode cX6_units 12 = .ok (.getfield 21, 3) := by decide +kernel
theorem dX6_units_15 : decode cX6_units 15 = .ok (.iload_n 3, 1) := by decide +kernel
theorem dX6_units_16 : decode cX6_units 16 = .ok (.aaload, 1) := by decide +kernel
theorem dX6_units_17 : decode cX6_units 17 = .ok (.invokevirtual 69, 3) := by decide +kernel
theorem dX6_units_20 : decode cX6_units 20 = .ok (.ladd, 1) := by decide +kernel
theorem dX6_units_21 : decode cX6_units 21 = .ok (.lstore_n 1, 1) := by decide +kernel
theorem dX6_units_22 : decode cX6_units 22 = .ok (.iinc 3 1, 3) := by decide +kernel
theorem dX6_units_25 : decode cX6_units 25 = .ok (.goto (-21), 3) := by decide +kernel
theorem dX6_units_28 : decode cX6_units 28 = .ok (.lload_n 1, 1) := by decide +kernel
theorem dX6_units_29 : decode cX6_units 29 = .ok (.lreturn, 1) := by decide +kernel
theorem dX6_newUnits_0 : decode cX6_newUnits 0 = .ok (.lconst 0, 1) := by decide +kernel
theorem dX6_newUnits_1 : decode cX6_newUnits 1 = .ok (.lstore_n 1, 1) := by decide +kernel
theorem dX6_newUnits_2 : decode cX6_newUnits 2 = .ok (.iconst 0, 1) := by decide +kernel
theorem dX6_newUnits_3 : decode cX6_newUnits 3 = .ok (.istore_n 3, 1) := by decide +kernel
theorem dX6_newUnits_4 : decode cX6_newUnits 4 = .ok (.iload_n 3, 1) := by decide +kernel
theorem dX6_newUnits_5 : decode cX6_newUnits 5 = .ok (.bipush 6, 2) := by decide +kernel
theorem dX6_newUnits_7 : decode cX6_newUnits 7 = .ok (.if_icmp .ge 21, 3) := by decide +kernel
theorem dX6_newUnits_10 : decode cX6_newUnits 10 = .ok (.lload_n 1, 1) := by decide +kernel
theorem dX6_newUnits_11 : decode cX6_newUnits 11 = .ok (.aload_n 0, 1) := by decide +kernel
theorem dX6_newUnits_12 : decode cX6_newUnits 12 = .ok (.getfield 21, 3) := by decide +kernel
theorem dX6_newUnits_15 : decode cX6_newUnits 15 = .ok (.iload_n 3, 1) := by decide +kernel
theorem dX6_newUnits_16 : decode cX6_newUnits 16 = .ok (.aaload, 1) := by decide +kernel
theorem dX6_newUnits_17 : decode cX6_newUnits 17 = .ok (.getfield 73, 3) := by decide +kernel
theorem dX6_newUnits_20 : decode cX6_newUnits 20 = .ok (.ladd, 1) := by decide +kernel
theorem dX6_newUnits_21 : decode cX6_newUnits 21 = .ok (.lstore_n 1, 1) := by decide +kernel
theorem dX6_newUnits_22 : decode cX6_newUnits 22 = .ok (.iinc 3 1, 3) := by decide +kernel
theorem dX6_newUnits_25 : decode cX6_newUnits 25 = .ok (.goto (-21), 3) := by decide +kernel
theorem dX6_newUnits_28 : decode cX6_newUnits 28 = .ok (.lload_n 1, 1) := by decide +kernel
theorem dX6_newUnits_29 : decode cX6_newUnits 29 = .ok (.lreturn, 1) := by decide +kernel
theorem dX6_middle_0 : decode cX6_middle 0 = .ok (.aload_n 0, 1) := by decide +kernel
theorem dX6_middle_1 : decode cX6_middle 1 = .ok (.invokevirtual 76, 3) := by decide +kernel
theorem dX6_middle_4 : decode cX6_middle 4 = .ok (.lstore_n 1, 1) := by decide +kernel
theorem dX6_middle_5 : decode cX6_middle 5 = .ok (.lload_n 1, 1) := by decide +kernel
theorem dX6_middle_6 : decode cX6_middle 6 = .ok (.lconst 0, 1) := by decide +kernel
theorem dX6_middle_7 : decode cX6_middle 7 = .ok (.lcmp, 1) := by decide +kernel
theorem dX6_middle_8 : decode cX6_middle 8 = .ok (.ifCond .le 16, 3) := by decide +kernel
theorem dX6_middle_11 : decode cX6_middle 11 = .ok (.ldc2_w 77, 3) := by decide +kernel
theorem dX6_middle_14 : decode cX6_middle 14 = .ok (.aload_n 0, 1) := by decide +kernel
theorem dX6_middle_15 : decode cX6_middle 15 = .ok (.invokevirtual 79, 3) := by decide +kernel
theorem dX6_middle_18 : decode cX6_middle 18 = .ok (.lmul, 1) := by decide +kernel
theorem dX6_middle_19 : decode cX6_middle 19 = .ok (.lload_n 1, 1) := by decide +kernel
theorem dX6_middle_20 : decode cX6_middle 20 = .ok (.ldiv, 1) := by decide +kernel
theorem dX6_middle_21 : decode cX6_middle 21 = .ok (.goto 6, 3) := by decide +kernel
theorem dX6_middle_24 : decode cX6_middle 24 = .ok (.ldc2_w 82, 3) := by decide +kernel
theorem dX6_middle_27 : decode cX6_middle 27 = .ok (.lreturn, 1) := by decide +kernel
theorem dX6_unitIncome_0 : decode cX6_unitIncome 0 = .ok (.aload_n 0, 1) := by decide +kernel
theorem dX6_unitIncome_1 : decode cX6_unitIncome 1 = .ok (.invokevirtual 76, 3) := by decide +kernel
theorem dX6_unitIncome_4 : decode cX6_unitIncome 4 = .ok (.lstore_n 1, 1) := by decide +kernel
theorem dX6_unitIncome_5 : decode cX6_unitIncome 5 = .ok (.lload_n 1, 1) := by decide +kernel
theorem dX6_unitIncome_6 : decode cX6_unitIncome 6 = .ok (.lconst 0, 1) := by decide +kernel
theorem dX6_unitIncome_7 : decode cX6_unitIncome 7 = .ok (.lcmp, 1) := by decide +kernel
theorem dX6_unitIncome_8 : decode cX6_unitIncome 8 = .ok (.ifCond .le 16, 3) := by decide +kernel
theorem dX6_unitIncome_11 : decode cX6_unitIncome 11 = .ok (.ldc2_w 77, 3) := by decide +kernel
theorem dX6_unitIncome_14 : decode cX6_unitIncome 14 = .ok (.aload_n 0, 1) := by decide +kernel
theorem dX6_unitIncome_15 : decode cX6_unitIncome 15 = .ok (.getfield 47, 3) := by decide +kernel
theorem dX6_unitIncome_18 : decode cX6_unitIncome 18 = .ok (.lmul, 1) := by decide +kernel
theorem dX6_unitIncome_19 : decode cX6_unitIncome 19 = .ok (.lload_n 1, 1) := by decide +kernel
theorem dX6_unitIncome_20 : decode cX6_unitIncome 20 = .ok (.ldiv, 1) := by decide +kernel
theorem dX6_unitIncome_21 : decode cX6_unitIncome 21 = .ok (.goto 4, 3) := by decide +kernel
theorem dX6_unitIncome_24 : decode cX6_unitIncome 24 = .ok (.lconst 0, 1) := by decide +kernel
theorem dX6_unitIncome_25 : decode cX6_unitIncome 25 = .ok (.lreturn, 1) := by decide +kernel
theorem dX6_fee_0 : decode cX6_fee 0 = .ok (.aload_n 0, 1) := by decide +kernel
theorem dX6_fee_1 : decode cX6_fee 1 = .ok (.getfield 9, 3) := by decide +kernel
theorem dX6_fee_4 : decode cX6_fee 4 = .ok (.i2l, 1) := by decide +kernel
theorem dX6_fee_5 : decode cX6_fee 5 = .ok (.aload_n 0, 1) := by decide +kernel
theorem dX6_fee_6 : decode cX6_fee 6 = .ok (.getfield 15, 3) := by decide +kernel
theorem dX6_fee_9 : decode cX6_fee 9 = .ok (.iconst 4, 1) := by decide +kernel
theorem dX6_fee_10 : decode cX6_fee 10 = .ok (.iaload, 1) := by decide +kernel
theorem dX6_fee_11 : decode cX6_fee 11 = .ok (.i2l, 1) := by decide +kernel
theorem dX6_fee_12 : decode cX6_fee 12 = .ok (.lmul, 1) := by decide +kernel
theorem dX6_fee_13 : decode cX6_fee 13 = .ok (.ldc2_w 84, 3) := by decide +kernel
theorem dX6_fee_16 : decode cX6_fee 16 = .ok (.ladd, 1) := by decide +kernel
theorem dX6_fee_17 : decode cX6_fee 17 = .ok (.ldc2_w 77, 3) := by decide +kernel
theorem dX6_fee_20 : decode cX6_fee 20 = .ok (.ldiv, 1) := by decide +kernel
theorem dX6_fee_21 : decode cX6_fee 21 = .ok (.lreturn, 1) := by decide +kernel
theorem dX6_changeSetting_0 : decode cX6_changeSetting 0 = .ok (.iload_n 1, 1) := by decide +kernel
theorem dX6_changeSetting_1 : decode cX6_changeSetting 1 = .ok (.ifCond .lt 21, 3) := by decide +kernel
theorem dX6_changeSetting_4 : decode cX6_changeSetting 4 = .ok (.iload_n 1, 1) := by decide +kernel
theorem dX6_changeSetting_5 : decode cX6_changeSetting 5 = .ok (.iconst 5, 1) := by decide +kernel
theorem dX6_changeSetting_6 : decode cX6_changeSetting 6 = .ok (.if_icmp .ge 16, 3) := by decide +kernel
theorem dX6_changeSetting_9 : decode cX6_changeSetting 9 = .ok (.iload_n 2, 1) := by decide +kernel
theorem dX6_changeSetting_10 : decode cX6_changeSetting 10 = .ok (.ifCond .lt 12, 3) := by decide +kernel
theorem dX6_changeSetting_13 : decode cX6_changeSetting 13 = .ok (.iload_n 2, 1) := by decide +kernel
theorem dX6_changeSetting_14 : decode cX6_changeSetting 14 = .ok (.getstatic 86, 3) := by decide +kernel
theorem dX6_changeSetting_17 : decode cX6_changeSetting 17 = .ok (.iload_n 1, 1) := by decide +kernel
theorem dX6_changeSetting_18 : decode cX6_changeSetting 18 = .ok (.iaload, 1) := by decide +kernel
theorem dX6_changeSetting_19 : decode cX6_changeSetting 19 = .ok (.if_icmp .le 6, 3) := by decide +kernel
theorem dX6_changeSetting_22 : decode cX6_changeSetting 22 = .ok (.bipush (-2), 2) := by decide +kernel
theorem dX6_changeSetting_24 : decode cX6_changeSetting 24 = .ok (.ireturn, 1) := by decide +kernel
theorem dX6_changeSetting_25 : decode cX6_changeSetting 25 = .ok (.aload_n 0, 1) := by decide +kernel
theorem dX6_changeSetting_26 : decode cX6_changeSetting 26 = .ok (.getfield 15, 3) := by decide +kernel
theorem dX6_changeSetting_29 : decode cX6_changeSetting 29 = .ok (.iload_n 1, 1) := by decide +kernel
theorem dX6_changeSetting_30 : decode cX6_changeSetting 30 = .ok (.iaload, 1) := by decide +kernel
theorem dX6_changeSetting_31 : decode cX6_changeSetting 31 = .ok (.istore_n 3, 1) := by decide +kernel
theorem dX6_changeSetting_32 : decode cX6_changeSetting 32 = .ok (.aload_n 0, 1) := by decide +kernel
theorem dX6_changeSetting_33 : decode cX6_changeSetting 33 = .ok (.getfield 15, 3) := by decide +kernel
theorem dX6_changeSetting_36 : decode cX6_changeSetting 36 = .ok (.iload_n 1, 1) := by decide +kernel
theorem dX6_changeSetting_37 : decode cX6_changeSetting 37 = .ok (.iload_n 2, 1) := by decide +kernel
theorem dX6_changeSetting_38 : decode cX6_changeSetting 38 = .ok (.iastore, 1) := by decide +kernel
theorem dX6_changeSetting_39 : decode cX6_changeSetting 39 = .ok (.iload_n 3, 1) := by decide +kernel
theorem dX6_changeSetting_40 : decode cX6_changeSetting 40 = .ok (.ireturn, 1) := by decide +kernel
theorem dX6_orderToBuy_0 : decode cX6_orderToBuy 0 = .ok (.iload_n 1, 1) := by decide +kernel
theorem dX6_orderToBuy_1 : decode cX6_orderToBuy 1 = .ok (.invokestatic 89, 3) := by decide +kernel
theorem dX6_orderToBuy_4 : decode cX6_orderToBuy 4 = .ok (.ifCond .ne 5, 3) := by decide +kernel
theorem dX6_orderToBuy_7 : decode cX6_orderToBuy 7 = .ok (.iconst (-1), 1) := by decide +kernel
theorem dX6_orderToBuy_8 : decode cX6_orderToBuy 8 = .ok (.ireturn, 1) := by decide +kernel
theorem dX6_orderToBuy_9 : decode cX6_orderToBuy 9 = .ok (.iload_n 2, 1) := by decide +kernel
theorem dX6_orderToBuy_10 : decode cX6_orderToBuy 10 = .ok (.iconst 1, 1) := by decide +kernel
theorem dX6_orderToBuy_11 : decode cX6_orderToBuy 11 = .ok (.if_icmp .lt 16, 3) := by decide +kernel
theorem dX6_orderToBuy_14 : decode cX6_orderToBuy 14 = .ok (.iload_n 2, 1) := by decide +kernel
theorem dX6_orderToBuy_15 : decode cX6_orderToBuy 15 = .ok (.ldc 93, 2) := by decide +kernel
theorem dX6_orderToBuy_17 : decode cX6_orderToBuy 17 = .ok (.if_icmp .gt 10, 3) := by decide +kernel
theorem dX6_orderToBuy_20 : decode cX6_orderToBuy 20 = .ok (.iload_n 3, 1) := by decide +kernel
theorem dX6_orderToBuy_21 : decode cX6_orderToBuy 21 = .ok (.invokestatic 94, 3) := by decide +kernel
theorem dX6_orderToBuy_24 : decode cX6_orderToBuy 24 = .ok (.ifCond .ne 6, 3) := by decide +kernel
theorem dX6_orderToBuy_27 : decode cX6_orderToBuy 27 = .ok (.bipush (-2), 2) := by decide +kernel
theorem dX6_orderToBuy_29 : decode cX6_orderToBuy 29 = .ok (.ireturn, 1) := by decide +kernel
theorem dX6_orderToBuy_30 : decode cX6_orderToBuy 30 = .ok (.aload_n 0, 1) := by decide +kernel
theorem dX6_orderToBuy_31 : decode cX6_orderToBuy 31 = .ok (.getfield 29, 3) := by decide +kernel
theorem dX6_orderToBuy_34 : decode cX6_orderToBuy 34 = .ok (.invokevirtual 97, 3) := by decide +kernel
theorem dX6_orderToBuy_37 : decode cX6_orderToBuy 37 = .ok (.ifCond .eq 6, 3) := by decide +kernel
theorem dX6_orderToBuy_40 : decode cX6_orderToBuy 40 = .ok (.bipush (-4), 2) := by decide +kernel
theorem dX6_orderToBuy_42 : decode cX6_orderToBuy 42 = .ok (.ireturn, 1) := by decide +kernel
theorem dX6_orderToBuy_43 : decode cX6_orderToBuy 43 = .ok (.aload_n 0, 1) := by decide +kernel
theorem dX6_orderToBuy_44 : decode cX6_orderToBuy 44 = .ok (.getfield 29, 3) := by decide +kernel
theorem dX6_orderToBuy_47 : decode cX6_orderToBuy 47 = .ok (.iload_n 1, 1) := by decide +kernel
theorem dX6_orderToBuy_48 : decode cX6_orderToBuy 48 = .ok (.iload_n 2, 1) := by decide +kernel
theorem dX6_orderToBuy_49 : decode cX6_orderToBuy 49 = .ok (.aload_n 0, 1) := by decide +kernel
theorem dX6_orderToBuy_50 : decode cX6_orderToBuy 50 = .ok (.iload_n 3, 1) := by decide +kernel
theorem dX6_orderToBuy_51 : decode cX6_orderToBuy 51 = .ok (.invokevirtual 101, 3) := by decide +kernel
theorem dX6_orderToBuy_54 : decode cX6_orderToBuy 54 = .ok (.invokevirtual 105, 3) := by decide +kernel
theorem dX6_orderToBuy_57 : decode cX6_orderToBuy 57 = .ok (.aload_n 0, 1) := by decide +kernel
theorem dX6_orderToBuy_58 : decode cX6_orderToBuy 58 = .ok (.iload_n 3, 1) := by decide +kernel
theorem dX6_orderToBuy_59 : decode cX6_orderToBuy 59 = .ok (.invokevirtual 101, 3) := by decide +kernel
theorem dX6_orderToBuy_62 : decode cX6_orderToBuy 62 = .ok (.ireturn, 1) := by decide +kernel
theorem dX6_orderToLeave_0 : decode cX6_orderToLeave 0 = .ok (.iload_n 1, 1) := by decide +kernel
theorem dX6_orderToLeave_1 : decode cX6_orderToLeave 1 = .ok (.invokestatic 89, 3) := by decide +kernel
theorem dX6_orderToLeave_4 : decode cX6_orderToLeave 4 = .ok (.ifCond .ne 5, 3) := by decide +kernel
theorem dX6_orderToLeave_7 : decode cX6_orderToLeave 7 = .ok (.iconst (-1), 1) := by decide +kernel
theorem dX6_orderToLeave_8 : decode cX6_orderToLeave 8 = .ok (.ireturn, 1) := by decide +kernel
theorem dX6_orderToLeave_9 : decode cX6_orderToLeave 9 = .ok (.iload_n 2, 1) := by decide +kernel
theorem dX6_orderToLeave_10 : decode cX6_orderToLeave 10 = .ok (.iconst 1, 1) := by decide +kernel
theorem dX6_orderToLeave_11 : decode cX6_orderToLeave 11 = .ok (.if_icmp .lt 10, 3) := by decide +kernel
theorem dX6_orderToLeave_14 : decode cX6_orderToLeave 14 = .ok (.iload_n 3, 1) := by decide +kernel
theorem dX6_orderToLeave_15 : decode cX6_orderToLeave 15 = .ok (.invokestatic 94, 3) := by decide +kernel
theorem dX6_orderToLeave_18 : decode cX6_orderToLeave 18 = .ok (.ifCond .ne 6, 3) := by decide +kernel
theorem dX6_orderToLeave_21 : decode cX6_orderToLeave 21 = .ok (.bipush (-2), 2) := by decide +kernel
theorem dX6_orderToLeave_23 : decode cX6_orderToLeave 23 = .ok (.ireturn, 1) := by decide +kernel
theorem dX6_orderToLeave_24 : decode cX6_orderToLeave 24 = .ok (.aload_n 0, 1) := by decide +kernel
theorem dX6_orderToLeave_25 : decode cX6_orderToLeave 25 = .ok (.getfield 33, 3) := by decide +kernel
theorem dX6_orderToLeave_28 : decode cX6_orderToLeave 28 = .ok (.invokevirtual 97, 3) := by decide +kernel
theorem dX6_orderToLeave_31 : decode cX6_orderToLeave 31 = .ok (.ifCond .eq 6, 3) := by decide +kernel
theorem dX6_orderToLeave_34 : decode cX6_orderToLeave 34 = .ok (.bipush (-4), 2) := by decide +kernel
theorem dX6_orderToLeave_36 : decode cX6_orderToLeave 36 = .ok (.ireturn, 1) := by decide +kernel
theorem dX6_orderToLeave_37 : decode cX6_orderToLeave 37 = .ok (.iload_n 2, 1) := by decide +kernel
theorem dX6_orderToLeave_38 : decode cX6_orderToLeave 38 = .ok (.i2l, 1) := by decide +kernel
theorem dX6_orderToLeave_39 : decode cX6_orderToLeave 39 = .ok (.aload_n 0, 1) := by decide +kernel
theorem dX6_orderToLeave_40 : decode cX6_orderToLeave 40 = .ok (.iload_n 1, 1) := by decide +kernel
theorem dX6_orderToLeave_41 : decode cX6_orderToLeave 41 = .ok (.invokevirtual 109, 3) := by decide +kernel
theorem dX6_orderToLeave_44 : decode cX6_orderToLeave 44 = .ok (.lcmp, 1) := by decide +kernel
theorem dX6_orderToLeave_45 : decode cX6_orderToLeave 45 = .ok (.ifCond .le 6, 3) := by decide +kernel
theorem dX6_orderToLeave_48 : decode cX6_orderToLeave 48 = .ok (.bipush (-5), 2) := by decide +kernel
theorem dX6_orderToLeave_50 : decode cX6_orderToLeave 50 = .ok (.ireturn, 1) := by decide +kernel
theorem dX6_orderToLeave_51 : decode cX6_orderToLeave 51 = .ok (.aload_n 0, 1) := by decide +kernel
theorem dX6_orderToLeave_52 : decode cX6_orderToLeave 52 = .ok (.getfield 33, 3) := by decide +kernel
theorem dX6_orderToLeave_55 : decode cX6_orderToLeave 55 = .ok (.iload_n 1, 1) := by decide +kernel
theorem dX6_orderToLeave_56 : decode cX6_orderToLeave 56 = .ok (.iload_n 2, 1) := by decide +kernel
theorem dX6_orderToLeave_57 : decode cX6_orderToLeave 57 = .ok (.aload_n 0, 1) := by decide +kernel
theorem dX6_orderToLeave_58 : decode cX6_orderToLeave 58 = .ok (.iload_n 3, 1) := by decide +kernel
theorem dX6_orderToLeave_59 : decode cX6_orderToLeave 59 = .ok (.invokevirtual 101, 3) := by decide +kernel
theorem dX6_orderToLeave_62 : decode cX6_orderToLeave 62 = .ok (.invokevirtual 105, 3) := by decide +kernel
theorem dX6_orderToLeave_65 : decode cX6_orderToLeave 65 = .ok (.aload_n 0, 1) := by decide +kernel
end
section
theorem dX6_orderToLeave_66 : decode cX6_orderToLeave 66 = .ok (.iload_n 3, 1) := by decide +kernel
theorem dX6_orderToLeave_67 : decode cX6_orderToLeave 67 = .ok (.invokevirtual 101, 3) := by decide +kernel
theorem dX6_orderToLeave_70 : decode cX6_orderToLeave 70 = .ok (.ireturn, 1) := by decide +kernel
theorem dX6_exitInKind_0 : decode cX6_exitInKind 0 = .ok (.iload_n 1, 1) := by decide +kernel
theorem dX6_exitInKind_1 : decode cX6_exitInKind 1 = .ok (.invokestatic 89, 3) := by decide +kernel
theorem dX6_exitInKind_4 : decode cX6_exitInKind 4 = .ok (.ifCond .ne 5, 3) := by decide +kernel
theorem dX6_exitInKind_7 : decode cX6_exitInKind 7 = .ok (.iconst (-1), 1) := by decide +kernel
theorem dX6_exitInKind_8 : decode cX6_exitInKind 8 = .ok (.ireturn, 1) := by decide +kernel
theorem dX6_exitInKind_9 : decode cX6_exitInKind 9 = .ok (.iload_n 2, 1) := by decide +kernel
theorem dX6_exitInKind_10 : decode cX6_exitInKind 10 = .ok (.iconst 1, 1) := by decide +kernel
theorem dX6_exitInKind_11 : decode cX6_exitInKind 11 = .ok (.if_icmp .ge 6, 3) := by decide +kernel
theorem dX6_exitInKind_14 : decode cX6_exitInKind 14 = .ok (.bipush (-2), 2) := by decide +kernel
theorem dX6_exitInKind_16 : decode cX6_exitInKind 16 = .ok (.ireturn, 1) := by decide +kernel
theorem dX6_exitInKind_17 : decode cX6_exitInKind 17 = .ok (.aload_n 0, 1) := by decide +kernel
theorem dX6_exitInKind_18 : decode cX6_exitInKind 18 = .ok (.invokevirtual 76, 3) := by decide +kernel
theorem dX6_exitInKind_21 : decode cX6_exitInKind 21 = .ok (.lstore_n 3, 1) := by decide +kernel
theorem dX6_exitInKind_22 : decode cX6_exitInKind 22 = .ok (.iload_n 2, 1) := by decide +kernel
theorem dX6_exitInKind_23 : decode cX6_exitInKind 23 = .ok (.i2l, 1) := by decide +kernel
theorem dX6_exitInKind_24 : decode cX6_exitInKind 24 = .ok (.aload_n 0, 1) := by decide +kernel
theorem dX6_exitInKind_25 : decode cX6_exitInKind 25 = .ok (.iload_n 1, 1) := by decide +kernel
theorem dX6_exitInKind_26 : decode cX6_exitInKind 26 = .ok (.invokevirtual 109, 3) := by decide +kernel
theorem dX6_exitInKind_29 : decode cX6_exitInKind 29 = .ok (.lcmp, 1) := by decide +kernel
theorem dX6_exitInKind_30 : decode cX6_exitInKind 30 = .ok (.ifCond .gt 9, 3) := by decide +kernel
theorem dX6_exitInKind_33 : decode cX6_exitInKind 33 = .ok (.lload_n 3, 1) := by decide +kernel
theorem dX6_exitInKind_34 : decode cX6_exitInKind 34 = .ok (.lconst 0, 1) := by decide +kernel
theorem dX6_exitInKind_35 : decode cX6_exitInKind 35 = .ok (.lcmp, 1) := by decide +kernel
theorem dX6_exitInKind_36 : decode cX6_exitInKind 36 = .ok (.ifCond .gt 6, 3) := by decide +kernel
theorem dX6_exitInKind_39 : decode cX6_exitInKind 39 = .ok (.bipush (-5), 2) := by decide +kernel
theorem dX6_exitInKind_41 : decode cX6_exitInKind 41 = .ok (.ireturn, 1) := by decide +kernel
theorem dX6_exitInKind_42 : decode cX6_exitInKind 42 = .ok (.iload_n 2, 1) := by decide +kernel
theorem dX6_exitInKind_43 : decode cX6_exitInKind 43 = .ok (.i2l, 1) := by decide +kernel
theorem dX6_exitInKind_44 : decode cX6_exitInKind 44 = .ok (.aload_n 0, 1) := by decide +kernel
theorem dX6_exitInKind_45 : decode cX6_exitInKind 45 = .ok (.getfield 53, 3) := by decide +kernel
theorem dX6_exitInKind_48 : decode cX6_exitInKind 48 = .ok (.i2l, 1) := by decide +kernel
theorem dX6_exitInKind_49 : decode cX6_exitInKind 49 = .ok (.lmul, 1) := by decide +kernel
theorem dX6_exitInKind_50 : decode cX6_exitInKind 50 = .ok (.lload_n 3, 1) := by decide +kernel
theorem dX6_exitInKind_51 : decode cX6_exitInKind 51 = .ok (.ldiv, 1) := by decide +kernel
theorem dX6_exitInKind_52 : decode cX6_exitInKind 52 = .ok (.l2i, 1) := by decide +kernel
theorem dX6_exitInKind_53 : decode cX6_exitInKind 53 = .ok (.istore 5, 2) := by decide +kernel
theorem dX6_exitInKind_55 : decode cX6_exitInKind 55 = .ok (.iload_n 2, 1) := by decide +kernel
theorem dX6_exitInKind_56 : decode cX6_exitInKind 56 = .ok (.i2l, 1) := by decide +kernel
theorem dX6_exitInKind_57 : decode cX6_exitInKind 57 = .ok (.aload_n 0, 1) := by decide +kernel
theorem dX6_exitInKind_58 : decode cX6_exitInKind 58 = .ok (.getfield 43, 3) := by decide +kernel
theorem dX6_exitInKind_61 : decode cX6_exitInKind 61 = .ok (.lmul, 1) := by decide +kernel
theorem dX6_exitInKind_62 : decode cX6_exitInKind 62 = .ok (.lload_n 3, 1) := by decide +kernel
theorem dX6_exitInKind_63 : decode cX6_exitInKind 63 = .ok (.ldiv, 1) := by decide +kernel
theorem dX6_exitInKind_64 : decode cX6_exitInKind 64 = .ok (.lstore 6, 2) := by decide +kernel
theorem dX6_exitInKind_66 : decode cX6_exitInKind 66 = .ok (.aload_n 0, 1) := by decide +kernel
theorem dX6_exitInKind_67 : decode cX6_exitInKind 67 = .ok (.dup, 1) := by decide +kernel
theorem dX6_exitInKind_68 : decode cX6_exitInKind 68 = .ok (.getfield 53, 3) := by decide +kernel
theorem dX6_exitInKind_71 : decode cX6_exitInKind 71 = .ok (.iload 5, 2) := by decide +kernel
theorem dX6_exitInKind_73 : decode cX6_exitInKind 73 = .ok (.isub, 1) := by decide +kernel
theorem dX6_exitInKind_74 : decode cX6_exitInKind 74 = .ok (.putfield 53, 3) := by decide +kernel
theorem dX6_exitInKind_77 : decode cX6_exitInKind 77 = .ok (.aload_n 0, 1) := by decide +kernel
theorem dX6_exitInKind_78 : decode cX6_exitInKind 78 = .ok (.getfield 21, 3) := by decide +kernel
theorem dX6_exitInKind_81 : decode cX6_exitInKind 81 = .ok (.iload_n 1, 1) := by decide +kernel
theorem dX6_exitInKind_82 : decode cX6_exitInKind 82 = .ok (.aaload, 1) := by decide +kernel
theorem dX6_exitInKind_83 : decode cX6_exitInKind 83 = .ok (.dup, 1) := by decide +kernel
theorem dX6_exitInKind_84 : decode cX6_exitInKind 84 = .ok (.getfield 113, 3) := by decide +kernel
theorem dX6_exitInKind_87 : decode cX6_exitInKind 87 = .ok (.iload 5, 2) := by decide +kernel
theorem dX6_exitInKind_89 : decode cX6_exitInKind 89 = .ok (.i2l, 1) := by decide +kernel
theorem dX6_exitInKind_90 : decode cX6_exitInKind 90 = .ok (.ladd, 1) := by decide +kernel
theorem dX6_exitInKind_91 : decode cX6_exitInKind 91 = .ok (.putfield 113, 3) := by decide +kernel
theorem dX6_exitInKind_94 : decode cX6_exitInKind 94 = .ok (.aload_n 0, 1) := by decide +kernel
theorem dX6_exitInKind_95 : decode cX6_exitInKind 95 = .ok (.aload_n 0, 1) := by decide +kernel
theorem dX6_exitInKind_96 : decode cX6_exitInKind 96 = .ok (.getfield 21, 3) := by decide +kernel
theorem dX6_exitInKind_99 : decode cX6_exitInKind 99 = .ok (.iload_n 1, 1) := by decide +kernel
theorem dX6_exitInKind_100 : decode cX6_exitInKind 100 = .ok (.aaload, 1) := by decide +kernel
theorem dX6_exitInKind_101 : decode cX6_exitInKind 101 = .ok (.iload_n 2, 1) := by decide +kernel
theorem dX6_exitInKind_102 : decode cX6_exitInKind 102 = .ok (.i2l, 1) := by decide +kernel
theorem dX6_exitInKind_103 : decode cX6_exitInKind 103 = .ok (.lload 6, 2) := by decide +kernel
theorem dX6_exitInKind_105 : decode cX6_exitInKind 105 = .ok (.aload_n 0, 1) := by decide +kernel
theorem dX6_exitInKind_106 : decode cX6_exitInKind 106 = .ok (.invokevirtual 115, 3) := by decide +kernel
theorem dX6_exitInKind_109 : decode cX6_exitInKind 109 = .ok (.invokevirtual 118, 3) := by decide +kernel
theorem dX6_exitInKind_112 : decode cX6_exitInKind 112 = .ok (.iload 5, 2) := by decide +kernel
theorem dX6_exitInKind_114 : decode cX6_exitInKind 114 = .ok (.ireturn, 1) := by decide +kernel
theorem dX6_changeQuote_0 : decode cX6_changeQuote 0 = .ok (.iload_n 1, 1) := by decide +kernel
theorem dX6_changeQuote_1 : decode cX6_changeQuote 1 = .ok (.iconst 1, 1) := by decide +kernel
theorem dX6_changeQuote_2 : decode cX6_changeQuote 2 = .ok (.if_icmp .lt 10, 3) := by decide +kernel
theorem dX6_changeQuote_5 : decode cX6_changeQuote 5 = .ok (.iload_n 1, 1) := by decide +kernel
theorem dX6_changeQuote_6 : decode cX6_changeQuote 6 = .ok (.sipush 10000, 3) := by decide +kernel
theorem dX6_changeQuote_9 : decode cX6_changeQuote 9 = .ok (.if_icmp .le 6, 3) := by decide +kernel
theorem dX6_changeQuote_12 : decode cX6_changeQuote 12 = .ok (.bipush (-2), 2) := by decide +kernel
theorem dX6_changeQuote_14 : decode cX6_changeQuote 14 = .ok (.ireturn, 1) := by decide +kernel
theorem dX6_changeQuote_15 : decode cX6_changeQuote 15 = .ok (.aload_n 0, 1) := by decide +kernel
theorem dX6_changeQuote_16 : decode cX6_changeQuote 16 = .ok (.getfield 9, 3) := by decide +kernel
theorem dX6_changeQuote_19 : decode cX6_changeQuote 19 = .ok (.istore_n 2, 1) := by decide +kernel
theorem dX6_changeQuote_20 : decode cX6_changeQuote 20 = .ok (.aload_n 0, 1) := by decide +kernel
theorem dX6_changeQuote_21 : decode cX6_changeQuote 21 = .ok (.iload_n 1, 1) := by decide +kernel
theorem dX6_changeQuote_22 : decode cX6_changeQuote 22 = .ok (.putfield 9, 3) := by decide +kernel
theorem dX6_changeQuote_25 : decode cX6_changeQuote 25 = .ok (.iload_n 2, 1) := by decide +kernel
theorem dX6_changeQuote_26 : decode cX6_changeQuote 26 = .ok (.ireturn, 1) := by decide +kernel
theorem dX6_tradeLots_0 : decode cX6_tradeLots 0 = .ok (.iload_n 1, 1) := by decide +kernel
theorem dX6_tradeLots_1 : decode cX6_tradeLots 1 = .ok (.ifCond .eq 17, 3) := by decide +kernel
theorem dX6_tradeLots_4 : decode cX6_tradeLots 4 = .ok (.iload_n 1, 1) := by decide +kernel
theorem dX6_tradeLots_5 : decode cX6_tradeLots 5 = .ok (.sipush (-1000), 3) := by decide +kernel
theorem dX6_tradeLots_8 : decode cX6_tradeLots 8 = .ok (.if_icmp .lt 10, 3) := by decide +kernel
theorem dX6_tradeLots_11 : decode cX6_tradeLots 11 = .ok (.iload_n 1, 1) := by decide +kernel
theorem dX6_tradeLots_12 : decode cX6_tradeLots 12 = .ok (.sipush 1000, 3) := by decide +kernel
theorem dX6_tradeLots_15 : decode cX6_tradeLots 15 = .ok (.if_icmp .le 6, 3) := by decide +kernel
theorem dX6_tradeLots_18 : decode cX6_tradeLots 18 = .ok (.bipush (-2), 2) := by decide +kernel
theorem dX6_tradeLots_20 : decode cX6_tradeLots 20 = .ok (.ireturn, 1) := by decide +kernel
theorem dX6_tradeLots_21 : decode cX6_tradeLots 21 = .ok (.aload_n 0, 1) := by decide +kernel
theorem dX6_tradeLots_22 : decode cX6_tradeLots 22 = .ok (.getfield 53, 3) := by decide +kernel
theorem dX6_tradeLots_25 : decode cX6_tradeLots 25 = .ok (.iload_n 1, 1) := by decide +kernel
theorem dX6_tradeLots_26 : decode cX6_tradeLots 26 = .ok (.iadd, 1) := by decide +kernel
theorem dX6_tradeLots_27 : decode cX6_tradeLots 27 = .ok (.sipush 1000, 3) := by decide +kernel
theorem dX6_tradeLots_30 : decode cX6_tradeLots 30 = .ok (.if_icmp .le 6, 3) := by decide +kernel
theorem dX6_tradeLots_33 : decode cX6_tradeLots 33 = .ok (.bipush (-4), 2) := by decide +kernel
theorem dX6_tradeLots_35 : decode cX6_tradeLots 35 = .ok (.ireturn, 1) := by decide +kernel
theorem dX6_tradeLots_36 : decode cX6_tradeLots 36 = .ok (.iload_n 1, 1) := by decide +kernel
theorem dX6_tradeLots_37 : decode cX6_tradeLots 37 = .ok (.ifCond .le 19, 3) := by decide +kernel
theorem dX6_tradeLots_40 : decode cX6_tradeLots 40 = .ok (.iload_n 1, 1) := by decide +kernel
theorem dX6_tradeLots_41 : decode cX6_tradeLots 41 = .ok (.i2l, 1) := by decide +kernel
theorem dX6_tradeLots_42 : decode cX6_tradeLots 42 = .ok (.aload_n 0, 1) := by decide +kernel
theorem dX6_tradeLots_43 : decode cX6_tradeLots 43 = .ok (.getfield 9, 3) := by decide +kernel
theorem dX6_tradeLots_46 : decode cX6_tradeLots 46 = .ok (.i2l, 1) := by decide +kernel
theorem dX6_tradeLots_47 : decode cX6_tradeLots 47 = .ok (.aload_n 0, 1) := by decide +kernel
theorem dX6_tradeLots_48 : decode cX6_tradeLots 48 = .ok (.invokevirtual 122, 3) := by decide +kernel
theorem dX6_tradeLots_51 : decode cX6_tradeLots 51 = .ok (.ladd, 1) := by decide +kernel
theorem dX6_tradeLots_52 : decode cX6_tradeLots 52 = .ok (.lmul, 1) := by decide +kernel
theorem dX6_tradeLots_53 : decode cX6_tradeLots 53 = .ok (.goto 16, 3) := by decide +kernel
theorem dX6_tradeLots_56 : decode cX6_tradeLots 56 = .ok (.iload_n 1, 1) := by decide +kernel
theorem dX6_tradeLots_57 : decode cX6_tradeLots 57 = .ok (.i2l, 1) := by decide +kernel
theorem dX6_tradeLots_58 : decode cX6_tradeLots 58 = .ok (.aload_n 0, 1) := by decide +kernel
theorem dX6_tradeLots_59 : decode cX6_tradeLots 59 = .ok (.getfield 9, 3) := by decide +kernel
theorem dX6_tradeLots_62 : decode cX6_tradeLots 62 = .ok (.i2l, 1) := by decide +kernel
theorem dX6_tradeLots_63 : decode cX6_tradeLots 63 = .ok (.aload_n 0, 1) := by decide +kernel
theorem dX6_tradeLots_64 : decode cX6_tradeLots 64 = .ok (.invokevirtual 122, 3) := by decide +kernel
theorem dX6_tradeLots_67 : decode cX6_tradeLots 67 = .ok (.lsub, 1) := by decide +kernel
theorem dX6_tradeLots_68 : decode cX6_tradeLots 68 = .ok (.lmul, 1) := by decide +kernel
theorem dX6_tradeLots_69 : decode cX6_tradeLots 69 = .ok (.lstore_n 2, 1) := by decide +kernel
theorem dX6_tradeLots_70 : decode cX6_tradeLots 70 = .ok (.aload_n 0, 1) := by decide +kernel
theorem dX6_tradeLots_71 : decode cX6_tradeLots 71 = .ok (.getfield 53, 3) := by decide +kernel
theorem dX6_tradeLots_74 : decode cX6_tradeLots 74 = .ok (.iload_n 1, 1) := by decide +kernel
theorem dX6_tradeLots_75 : decode cX6_tradeLots 75 = .ok (.iadd, 1) := by decide +kernel
theorem dX6_tradeLots_76 : decode cX6_tradeLots 76 = .ok (.ifCond .lt 21, 3) := by decide +kernel
theorem dX6_tradeLots_79 : decode cX6_tradeLots 79 = .ok (.iload_n 1, 1) := by decide +kernel
theorem dX6_tradeLots_80 : decode cX6_tradeLots 80 = .ok (.ifCond .le 20, 3) := by decide +kernel
theorem dX6_tradeLots_83 : decode cX6_tradeLots 83 = .ok (.lload_n 2, 1) := by decide +kernel
theorem dX6_tradeLots_84 : decode cX6_tradeLots 84 = .ok (.aload_n 0, 1) := by decide +kernel
theorem dX6_tradeLots_85 : decode cX6_tradeLots 85 = .ok (.getfield 43, 3) := by decide +kernel
theorem dX6_tradeLots_88 : decode cX6_tradeLots 88 = .ok (.aload_n 0, 1) := by decide +kernel
theorem dX6_tradeLots_89 : decode cX6_tradeLots 89 = .ok (.getfield 47, 3) := by decide +kernel
theorem dX6_tradeLots_92 : decode cX6_tradeLots 92 = .ok (.lsub, 1) := by decide +kernel
theorem dX6_tradeLots_93 : decode cX6_tradeLots 93 = .ok (.lcmp, 1) := by decide +kernel
theorem dX6_tradeLots_94 : decode cX6_tradeLots 94 = .ok (.ifCond .le 6, 3) := by decide +kernel
theorem dX6_tradeLots_97 : decode cX6_tradeLots 97 = .ok (.bipush (-5), 2) := by decide +kernel
theorem dX6_tradeLots_99 : decode cX6_tradeLots 99 = .ok (.ireturn, 1) := by decide +kernel
theorem dX6_tradeLots_100 : decode cX6_tradeLots 100 = .ok (.aload_n 0, 1) := by decide +kernel
theorem dX6_tradeLots_101 : decode cX6_tradeLots 101 = .ok (.dup, 1) := by decide +kernel
theorem dX6_tradeLots_102 : decode cX6_tradeLots 102 = .ok (.getfield 53, 3) := by decide +kernel
theorem dX6_tradeLots_105 : decode cX6_tradeLots 105 = .ok (.iload_n 1, 1) := by decide +kernel
theorem dX6_tradeLots_106 : decode cX6_tradeLots 106 = .ok (.iadd, 1) := by decide +kernel
theorem dX6_tradeLots_107 : decode cX6_tradeLots 107 = .ok (.putfield 53, 3) := by decide +kernel
theorem dX6_tradeLots_110 : decode cX6_tradeLots 110 = .ok (.aload_n 0, 1) := by decide +kernel
theorem dX6_tradeLots_111 : decode cX6_tradeLots 111 = .ok (.dup, 1) := by decide +kernel
theorem dX6_tradeLots_112 : decode cX6_tradeLots 112 = .ok (.getfield 43, 3) := by decide +kernel
theorem dX6_tradeLots_115 : decode cX6_tradeLots 115 = .ok (.lload_n 2, 1) := by decide +kernel
theorem dX6_tradeLots_116 : decode cX6_tradeLots 116 = .ok (.lsub, 1) := by decide +kernel
theorem dX6_tradeLots_117 : decode cX6_tradeLots 117 = .ok (.putfield 43, 3) := by decide +kernel
theorem dX6_tradeLots_120 : decode cX6_tradeLots 120 = .ok (.aload_n 0, 1) := by decide +kernel
theorem dX6_tradeLots_121 : decode cX6_tradeLots 121 = .ok (.getfield 53, 3) := by decide +kernel
theorem dX6_tradeLots_124 : decode cX6_tradeLots 124 = .ok (.ireturn, 1) := by decide +kernel
theorem dX6_takeIncome_0 : decode cX6_takeIncome 0 = .ok (.iload_n 1, 1) := by decide +kernel
theorem dX6_takeIncome_1 : decode cX6_takeIncome 1 = .ok (.iconst 1, 1) := by decide +kernel
theorem dX6_takeIncome_2 : decode cX6_takeIncome 2 = .ok (.if_icmp .lt 9, 3) := by decide +kernel
theorem dX6_takeIncome_5 : decode cX6_takeIncome 5 = .ok (.iload_n 1, 1) := by decide +kernel
theorem dX6_takeIncome_6 : decode cX6_takeIncome 6 = .ok (.ldc 93, 2) := by decide +kernel
theorem dX6_takeIncome_8 : decode cX6_takeIncome 8 = .ok (.if_icmp .le 6, 3) := by decide +kernel
theorem dX6_takeIncome_11 : decode cX6_takeIncome 11 = .ok (.bipush (-2), 2) := by decide +kernel
theorem dX6_takeIncome_13 : decode cX6_takeIncome 13 = .ok (.ireturn, 1) := by decide +kernel
theorem dX6_takeIncome_14 : decode cX6_takeIncome 14 = .ok (.aload_n 0, 1) := by decide +kernel
theorem dX6_takeIncome_15 : decode cX6_takeIncome 15 = .ok (.invokevirtual 76, 3) := by decide +kernel
theorem dX6_takeIncome_18 : decode cX6_takeIncome 18 = .ok (.lconst 0, 1) := by decide +kernel
theorem dX6_takeIncome_19 : decode cX6_takeIncome 19 = .ok (.lcmp, 1) := by decide +kernel
theorem dX6_takeIncome_20 : decode cX6_takeIncome 20 = .ok (.ifCond .ne 6, 3) := by decide +kernel
theorem dX6_takeIncome_23 : decode cX6_takeIncome 23 = .ok (.bipush (-5), 2) := by decide +kernel
theorem dX6_takeIncome_25 : decode cX6_takeIncome 25 = .ok (.ireturn, 1) := by decide +kernel
theorem dX6_takeIncome_26 : decode cX6_takeIncome 26 = .ok (.aload_n 0, 1) := by decide +kernel
theorem dX6_takeIncome_27 : decode cX6_takeIncome 27 = .ok (.dup, 1) := by decide +kernel
theorem dX6_takeIncome_28 : decode cX6_takeIncome 28 = .ok (.getfield 43, 3) := by decide +kernel
theorem dX6_takeIncome_31 : decode cX6_takeIncome 31 = .ok (.iload_n 1, 1) := by decide +kernel
theorem dX6_takeIncome_32 : decode cX6_takeIncome 32 = .ok (.i2l, 1) := by decide +kernel
theorem dX6_takeIncome_33 : decode cX6_takeIncome 33 = .ok (.ladd, 1) := by decide +kernel
theorem dX6_takeIncome_34 : decode cX6_takeIncome 34 = .ok (.putfield 43, 3) := by decide +kernel
theorem dX6_takeIncome_37 : decode cX6_takeIncome 37 = .ok (.aload_n 0, 1) := by decide +kernel
theorem dX6_takeIncome_38 : decode cX6_takeIncome 38 = .ok (.dup, 1) := by decide +kernel
theorem dX6_takeIncome_39 : decode cX6_takeIncome 39 = .ok (.getfield 47, 3) := by decide +kernel
theorem dX6_takeIncome_42 : decode cX6_takeIncome 42 = .ok (.iload_n 1, 1) := by decide +kernel
theorem dX6_takeIncome_43 : decode cX6_takeIncome 43 = .ok (.i2l, 1) := by decide +kernel
theorem dX6_takeIncome_44 : decode cX6_takeIncome 44 = .ok (.ladd, 1) := by decide +kernel
theorem dX6_takeIncome_45 : decode cX6_takeIncome 45 = .ok (.putfield 47, 3) := by decide +kernel
theorem dX6_takeIncome_48 : decode cX6_takeIncome 48 = .ok (.aload_n 0, 1) := by decide +kernel
theorem dX6_takeIncome_49 : decode cX6_takeIncome 49 = .ok (.getfield 47, 3) := by decide +kernel
theorem dX6_takeIncome_52 : decode cX6_takeIncome 52 = .ok (.l2i, 1) := by decide +kernel
theorem dX6_takeIncome_53 : decode cX6_takeIncome 53 = .ok (.ireturn, 1) := by decide +kernel
theorem dX6_payIncome_0 : decode cX6_payIncome 0 = .ok (.aload_n 0, 1) := by decide +kernel
theorem dX6_payIncome_1 : decode cX6_payIncome 1 = .ok (.invokevirtual 115, 3) := by decide +kernel
theorem dX6_payIncome_4 : decode cX6_payIncome 4 = .ok (.lstore_n 1, 1) := by decide +kernel
theorem dX6_payIncome_5 : decode cX6_payIncome 5 = .ok (.aload_n 0, 1) := by decide +kernel
theorem dX6_payIncome_6 : decode cX6_payIncome 6 = .ok (.invokevirtual 125, 3) := by decide +kernel
theorem dX6_payIncome_9 : decode cX6_payIncome 9 = .ok (.lstore_n 3, 1) := by decide +kernel
theorem dX6_payIncome_10 : decode cX6_payIncome 10 = .ok (.lload_n 3, 1) := by decide +kernel
theorem dX6_payIncome_11 : decode cX6_payIncome 11 = .ok (.lconst 0, 1) := by decide +kernel
theorem dX6_payIncome_12 : decode cX6_payIncome 12 = .ok (.lcmp, 1) := by decide +kernel
theorem dX6_payIncome_13 : decode cX6_payIncome 13 = .ok (.ifCond .le 16, 3) := by decide +kernel
theorem dX6_payIncome_16 : decode cX6_payIncome 16 = .ok (.ldc2_w 77, 3) := by decide +kernel
theorem dX6_payIncome_19 : decode cX6_payIncome 19 = .ok (.aload_n 0, 1) := by decide +kernel
theorem dX6_payIncome_20 : decode cX6_payIncome 20 = .ok (.getfield 50, 3) := by decide +kernel
theorem dX6_payIncome_23 : decode cX6_payIncome 23 = .ok (.lmul, 1) := by decide +kernel
theorem dX6_payIncome_24 : decode cX6_payIncome 24 = .ok (.lload_n 3, 1) := by decide +kernel
theorem dX6_payIncome_25 : decode cX6_payIncome 25 = .ok (.ldiv, 1) := by decide +kernel
theorem dX6_payIncome_26 : decode cX6_payIncome 26 = .ok (.goto 4, 3) := by decide +kernel
theorem dX6_payIncome_29 : decode cX6_payIncome 29 = .ok (.lconst 0, 1) := by decide +kernel
theorem dX6_payIncome_30 : decode cX6_payIncome 30 = .ok (.lstore 5, 2) := by decide +kernel
theorem dX6_payIncome_32 : decode cX6_payIncome 32 = .ok (.lconst 0, 1) := by decide +kernel
theorem dX6_payIncome_33 : decode cX6_payIncome 33 = .ok (.lstore 7, 2) := by decide +kernel
theorem dX6_payIncome_35 : decode cX6_payIncome 35 = .ok (.iconst 0, 1) := by decide +kernel
theorem dX6_payIncome_36 : decode cX6_payIncome 36 = .ok (.istore 9, 2) := by decide +kernel
theorem dX6_payIncome_38 : decode cX6_payIncome 38 = .ok (.iload 9, 2) := by decide +kernel
theorem dX6_payIncome_40 : decode cX6_payIncome 40 = .ok (.bipush 6, 2) := by decide +kernel
theorem dX6_payIncome_42 : decode cX6_payIncome 42 = .ok (.if_icmp .ge 98, 3) := by decide +kernel
theorem dX6_payIncome_45 : decode cX6_payIncome 45 = .ok (.aload_n 0, 1) := by decide +kernel
theorem dX6_payIncome_46 : decode cX6_payIncome 46 = .ok (.getfield 21, 3) := by decide +kernel
theorem dX6_payIncome_49 : decode cX6_payIncome 49 = .ok (.iload 9, 2) := by decide +kernel
theorem dX6_payIncome_51 : decode cX6_payIncome 51 = .ok (.aaload, 1) := by decide +kernel
theorem dX6_payIncome_52 : decode cX6_payIncome 52 = .ok (.astore 10, 2) := by decide +kernel
theorem dX6_payIncome_54 : decode cX6_payIncome 54 = .ok (.aload 10, 2) := by decide +kernel
theorem dX6_payIncome_56 : decode cX6_payIncome 56 = .ok (.invokevirtual 69, 3) := by decide +kernel
theorem dX6_payIncome_59 : decode cX6_payIncome 59 = .ok (.lload_n 1, 1) := by decide +kernel
theorem dX6_payIncome_60 : decode cX6_payIncome 60 = .ok (.lmul, 1) := by decide +kernel
theorem dX6_payIncome_61 : decode cX6_payIncome 61 = .ok (.ldc2_w 77, 3) := by decide +kernel
theorem dX6_payIncome_64 : decode cX6_payIncome 64 = .ok (.ldiv, 1) := by decide +kernel
theorem dX6_payIncome_65 : decode cX6_payIncome 65 = .ok (.lstore 11, 2) := by decide +kernel
theorem dX6_payIncome_67 : decode cX6_payIncome 67 = .ok (.aload 10, 2) := by decide +kernel
theorem dX6_payIncome_69 : decode cX6_payIncome 69 = .ok (.dup, 1) := by decide +kernel
theorem dX6_payIncome_70 : decode cX6_payIncome 70 = .ok (.getfield 127, 3) := by decide +kernel
theorem dX6_payIncome_73 : decode cX6_payIncome 73 = .ok (.lload 11, 2) := by decide +kernel
theorem dX6_payIncome_75 : decode cX6_payIncome 75 = .ok (.ladd, 1) := by decide +kernel
theorem dX6_payIncome_76 : decode cX6_payIncome 76 = .ok (.putfield 127, 3) := by decide +kernel
theorem dX6_payIncome_79 : decode cX6_payIncome 79 = .ok (.aload 10, 2) := by decide +kernel
theorem dX6_payIncome_81 : decode cX6_payIncome 81 = .ok (.dup, 1) := by decide +kernel
theorem dX6_payIncome_82 : decode cX6_payIncome 82 = .ok (.getfield 130, 3) := by decide +kernel
theorem dX6_payIncome_85 : decode cX6_payIncome 85 = .ok (.aload 10, 2) := by decide +kernel
theorem dX6_payIncome_87 : decode cX6_payIncome 87 = .ok (.getfield 73, 3) := by decide +kernel
theorem dX6_payIncome_90 : decode cX6_payIncome 90 = .ok (.lload 5, 2) := by decide +kernel
theorem dX6_payIncome_92 : decode cX6_payIncome 92 = .ok (.lmul, 1) := by decide +kernel
theorem dX6_payIncome_93 : decode cX6_payIncome 93 = .ok (.ldc2_w 77, 3) := by decide +kernel
theorem dX6_payIncome_96 : decode cX6_payIncome 96 = .ok (.ldiv, 1) := by decide +kernel
theorem dX6_payIncome_97 : decode cX6_payIncome 97 = .ok (.lload 11, 2) := by decide +kernel
theorem dX6_payIncome_99 : decode cX6_payIncome 99 = .ok (.invokestatic 133, 3) := by decide +kernel
theorem dX6_payIncome_102 : decode cX6_payIncome 102 = .ok (.ladd, 1) := by decide +kernel
theorem dX6_payIncome_103 : decode cX6_payIncome 103 = .ok (.putfield 130, 3) := by decide +kernel
theorem dX6_payIncome_106 : decode cX6_payIncome 106 = .ok (.aload 10, 2) := by decide +kernel
theorem dX6_payIncome_108 : decode cX6_payIncome 108 = .ok (.dup, 1) := by decide +kernel
theorem dX6_payIncome_109 : decode cX6_payIncome 109 = .ok (.getfield 139, 3) := by decide +kernel
theorem dX6_payIncome_112 : decode cX6_payIncome 112 = .ok (.aload 10, 2) := by decide +kernel
theorem dX6_payIncome_114 : decode cX6_payIncome 114 = .ok (.getfield 73, 3) := by decide +kernel
theorem dX6_payIncome_117 : decode cX6_payIncome 117 = .ok (.ladd, 1) := by decide +kernel
theorem dX6_payIncome_118 : decode cX6_payIncome 118 = .ok (.putfield 139, 3) := by decide +kernel
theorem dX6_payIncome_121 : decode cX6_payIncome 121 = .ok (.aload 10, 2) := by decide +kernel
theorem dX6_payIncome_123 : decode cX6_payIncome 123 = .ok (.lconst 0, 1) := by decide +kernel
theorem dX6_payIncome_124 : decode cX6_payIncome 124 = .ok (.putfield 73, 3) := by decide +kernel
theorem dX6_payIncome_127 : decode cX6_payIncome 127 = .ok (.lload 7, 2) := by decide +kernel
theorem dX6_payIncome_129 : decode cX6_payIncome 129 = .ok (.lload 11, 2) := by decide +kernel
theorem dX6_payIncome_131 : decode cX6_payIncome 131 = .ok (.ladd, 1) := by decide +kernel
theorem dX6_payIncome_132 : decode cX6_payIncome 132 = .ok (.lstore 7, 2) := by decide +kernel
theorem dX6_payIncome_134 : decode cX6_payIncome 134 = .ok (.iinc 9 1, 3) := by decide +kernel
theorem dX6_payIncome_137 : decode cX6_payIncome 137 = .ok (.goto (-99), 3) := by decide +kernel
theorem dX6_payIncome_140 : decode cX6_payIncome 140 = .ok (.aload_n 0, 1) := by decide +kernel
theorem dX6_payIncome_141 : decode cX6_payIncome 141 = .ok (.dup, 1) := by decide +kernel
theorem dX6_payIncome_142 : decode cX6_payIncome 142 = .ok (.getfield 43, 3) := by decide +kernel
theorem dX6_payIncome_145 : decode cX6_payIncome 145 = .ok (.lload 7, 2) := by decide +kernel
theorem dX6_payIncome_147 : decode cX6_payIncome 147 = .ok (.lsub, 1) := by decide +kernel
theorem dX6_payIncome_148 : decode cX6_payIncome 148 = .ok (.putfield 43, 3) := by decide +kernel
theorem dX6_payIncome_151 : decode cX6_payIncome 151 = .ok (.aload_n 0, 1) := by decide +kernel
theorem dX6_payIncome_152 : decode cX6_payIncome 152 = .ok (.dup, 1) := by decide +kernel
theorem dX6_payIncome_153 : decode cX6_payIncome 153 = .ok (.getfield 47, 3) := by decide +kernel
theorem dX6_payIncome_156 : decode cX6_payIncome 156 = .ok (.lload 7, 2) := by decide +kernel
theorem dX6_payIncome_158 : decode cX6_payIncome 158 = .ok (.lsub, 1) := by decide +kernel
theorem dX6_payIncome_159 : decode cX6_payIncome 159 = .ok (.putfield 47, 3) := by decide +kernel
theorem dX6_payIncome_162 : decode cX6_payIncome 162 = .ok (.aload_n 0, 1) := by decide +kernel
theorem dX6_payIncome_163 : decode cX6_payIncome 163 = .ok (.lconst 0, 1) := by decide +kernel
theorem dX6_payIncome_164 : decode cX6_payIncome 164 = .ok (.putfield 50, 3) := by decide +kernel
theorem dX6_payIncome_167 : decode cX6_payIncome 167 = .ok (.lload 7, 2) := by decide +kernel
theorem dX6_payIncome_169 : decode cX6_payIncome 169 = .ok (.l2i, 1) := by decide +kernel
theorem dX6_payIncome_170 : decode cX6_payIncome 170 = .ok (.ireturn, 1) := by decide +kernel
theorem dX6_makeUnits_0 : decode cX6_makeUnits 0 = .ok (.lload_n 2, 1) := by decide +kernel
theorem dX6_makeUnits_1 : decode cX6_makeUnits 1 = .ok (.lload 6, 2) := by decide +kernel
theorem dX6_makeUnits_3 : decode cX6_makeUnits 3 = .ok (.lmul, 1) := by decide +kernel
theorem dX6_makeUnits_4 : decode cX6_makeUnits 4 = .ok (.ldc2_w 77, 3) := by decide +kernel
theorem dX6_makeUnits_7 : decode cX6_makeUnits 7 = .ok (.ldiv, 1) := by decide +kernel
theorem dX6_makeUnits_8 : decode cX6_makeUnits 8 = .ok (.lstore 8, 2) := by decide +kernel
theorem dX6_makeUnits_10 : decode cX6_makeUnits 10 = .ok (.aload_n 0, 1) := by decide +kernel
theorem dX6_makeUnits_11 : decode cX6_makeUnits 11 = .ok (.dup, 1) := by decide +kernel
theorem dX6_makeUnits_12 : decode cX6_makeUnits 12 = .ok (.getfield 43, 3) := by decide +kernel
theorem dX6_makeUnits_15 : decode cX6_makeUnits 15 = .ok (.lload 4, 2) := by decide +kernel
theorem dX6_makeUnits_17 : decode cX6_makeUnits 17 = .ok (.ladd, 1) := by decide +kernel
theorem dX6_makeUnits_18 : decode cX6_makeUnits 18 = .ok (.putfield 43, 3) := by decide +kernel
theorem dX6_makeUnits_21 : decode cX6_makeUnits 21 = .ok (.aload_n 1, 1) := by decide +kernel
theorem dX6_makeUnits_22 : decode cX6_makeUnits 22 = .ok (.dup, 1) := by decide +kernel
theorem dX6_makeUnits_23 : decode cX6_makeUnits 23 = .ok (.getfield 142, 3) := by decide +kernel
theorem dX6_makeUnits_26 : decode cX6_makeUnits 26 = .ok (.lload 4, 2) := by decide +kernel
theorem dX6_makeUnits_28 : decode cX6_makeUnits 28 = .ok (.ladd, 1) := by decide +kernel
theorem dX6_makeUnits_29 : decode cX6_makeUnits 29 = .ok (.putfield 142, 3) := by decide +kernel
theorem dX6_makeUnits_32 : decode cX6_makeUnits 32 = .ok (.aload_n 1, 1) := by decide +kernel
theorem dX6_makeUnits_33 : decode cX6_makeUnits 33 = .ok (.dup, 1) := by decide +kernel
theorem dX6_makeUnits_34 : decode cX6_makeUnits 34 = .ok (.getfield 73, 3) := by decide +kernel
theorem dX6_makeUnits_37 : decode cX6_makeUnits 37 = .ok (.lload_n 2, 1) := by decide +kernel
theorem dX6_makeUnits_38 : decode cX6_makeUnits 38 = .ok (.ladd, 1) := by decide +kernel
theorem dX6_makeUnits_39 : decode cX6_makeUnits 39 = .ok (.putfield 73, 3) := by decide +kernel
theorem dX6_makeUnits_42 : decode cX6_makeUnits 42 = .ok (.aload_n 0, 1) := by decide +kernel
theorem dX6_makeUnits_43 : decode cX6_makeUnits 43 = .ok (.aload_n 0, 1) := by decide +kernel
theorem dX6_makeUnits_44 : decode cX6_makeUnits 44 = .ok (.getfield 47, 3) := by decide +kernel
theorem dX6_makeUnits_47 : decode cX6_makeUnits 47 = .ok (.lload 8, 2) := by decide +kernel
theorem dX6_makeUnits_49 : decode cX6_makeUnits 49 = .ok (.ladd, 1) := by decide +kernel
theorem dX6_makeUnits_50 : decode cX6_makeUnits 50 = .ok (.aload_n 0, 1) := by decide +kernel
theorem dX6_makeUnits_51 : decode cX6_makeUnits 51 = .ok (.getfield 43, 3) := by decide +kernel
theorem dX6_makeUnits_54 : decode cX6_makeUnits 54 = .ok (.invokestatic 133, 3) := by decide +kernel
theorem dX6_makeUnits_57 : decode cX6_makeUnits 57 = .ok (.putfield 47, 3) := by decide +kernel
theorem dX6_makeUnits_60 : decode cX6_makeUnits 60 = .ok (.aload_n 0, 1) := by decide +kernel
theorem dX6_makeUnits_61 : decode cX6_makeUnits 61 = .ok (.dup, 1) := by decide +kernel
theorem dX6_makeUnits_62 : decode cX6_makeUnits 62 = .ok (.getfield 50, 3) := by decide +kernel
theorem dX6_makeUnits_65 : decode cX6_makeUnits 65 = .ok (.lload 8, 2) := by decide +kernel
theorem dX6_makeUnits_67 : decode cX6_makeUnits 67 = .ok (.ladd, 1) := by decide +kernel
theorem dX6_makeUnits_68 : decode cX6_makeUnits 68 = .ok (.putfield 50, 3) := by decide +kernel
theorem dX6_makeUnits_71 : decode cX6_makeUnits 71 = .ok (.return_, 1) := by decide +kernel
theorem dX6_takeUnits_0 : decode cX6_takeUnits 0 = .ok (.aload_n 0, 1) := by decide +kernel
theorem dX6_takeUnits_1 : decode cX6_takeUnits 1 = .ok (.invokevirtual 125, 3) := by decide +kernel
theorem dX6_takeUnits_4 : decode cX6_takeUnits 4 = .ok (.lstore 8, 2) := by decide +kernel
theorem dX6_takeUnits_6 : decode cX6_takeUnits 6 = .ok (.lload_n 2, 1) := by decide +kernel
theorem dX6_takeUnits_7 : decode cX6_takeUnits 7 = .ok (.aload_n 1, 1) := by decide +kernel
theorem dX6_takeUnits_8 : decode cX6_takeUnits 8 = .ok (.getfield 139, 3) := by decide +kernel
theorem dX6_takeUnits_11 : decode cX6_takeUnits 11 = .ok (.invokestatic 133, 3) := by decide +kernel
theorem dX6_takeUnits_14 : decode cX6_takeUnits 14 = .ok (.lstore 10, 2) := by decide +kernel
theorem dX6_takeUnits_16 : decode cX6_takeUnits 16 = .ok (.lload_n 2, 1) := by decide +kernel
theorem dX6_takeUnits_17 : decode cX6_takeUnits 17 = .ok (.lload 10, 2) := by decide +kernel
theorem dX6_takeUnits_19 : decode cX6_takeUnits 19 = .ok (.lsub, 1) := by decide +kernel
theorem dX6_takeUnits_20 : decode cX6_takeUnits 20 = .ok (.lstore 12, 2) := by decide +kernel
theorem dX6_takeUnits_22 : decode cX6_takeUnits 22 = .ok (.aload_n 0, 1) := by decide +kernel
theorem dX6_takeUnits_23 : decode cX6_takeUnits 23 = .ok (.dup, 1) := by decide +kernel
theorem dX6_takeUnits_24 : decode cX6_takeUnits 24 = .ok (.getfield 43, 3) := by decide +kernel
theorem dX6_takeUnits_27 : decode cX6_takeUnits 27 = .ok (.lload 4, 2) := by decide +kernel
theorem dX6_takeUnits_29 : decode cX6_takeUnits 29 = .ok (.lsub, 1) := by decide +kernel
theorem dX6_takeUnits_30 : decode cX6_takeUnits 30 = .ok (.putfield 43, 3) := by decide +kernel
theorem dX6_takeUnits_33 : decode cX6_takeUnits 33 = .ok (.aload_n 1, 1) := by decide +kernel
theorem dX6_takeUnits_34 : decode cX6_takeUnits 34 = .ok (.dup, 1) := by decide +kernel
theorem dX6_takeUnits_35 : decode cX6_takeUnits 35 = .ok (.getfield 145, 3) := by decide +kernel
theorem dX6_takeUnits_38 : decode cX6_takeUnits 38 = .ok (.lload 4, 2) := by decide +kernel
theorem dX6_takeUnits_40 : decode cX6_takeUnits 40 = .ok (.ladd, 1) := by decide +kernel
theorem dX6_takeUnits_41 : decode cX6_takeUnits 41 = .ok (.putfield 145, 3) := by decide +kernel
theorem dX6_takeUnits_44 : decode cX6_takeUnits 44 = .ok (.aload_n 1, 1) := by decide +kernel
theorem dX6_takeUnits_45 : decode cX6_takeUnits 45 = .ok (.dup, 1) := by decide +kernel
theorem dX6_takeUnits_46 : decode cX6_takeUnits 46 = .ok (.getfield 139, 3) := by decide +kernel
theorem dX6_takeUnits_49 : decode cX6_takeUnits 49 = .ok (.lload 10, 2) := by decide +kernel
theorem dX6_takeUnits_51 : decode cX6_takeUnits 51 = .ok (.lsub, 1) := by decide +kernel
theorem dX6_takeUnits_52 : decode cX6_takeUnits 52 = .ok (.putfield 139, 3) := by decide +kernel
theorem dX6_takeUnits_55 : decode cX6_takeUnits 55 = .ok (.aload_n 1, 1) := by decide +kernel
theorem dX6_takeUnits_56 : decode cX6_takeUnits 56 = .ok (.dup, 1) := by decide +kernel
theorem dX6_takeUnits_57 : decode cX6_takeUnits 57 = .ok (.getfield 73, 3) := by decide +kernel
theorem dX6_takeUnits_60 : decode cX6_takeUnits 60 = .ok (.lload 12, 2) := by decide +kernel
theorem dX6_takeUnits_62 : decode cX6_takeUnits 62 = .ok (.lsub, 1) := by decide +kernel
theorem dX6_takeUnits_63 : decode cX6_takeUnits 63 = .ok (.putfield 73, 3) := by decide +kernel
theorem dX6_takeUnits_66 : decode cX6_takeUnits 66 = .ok (.aload_n 0, 1) := by decide +kernel
theorem dX6_takeUnits_67 : decode cX6_takeUnits 67 = .ok (.aload_n 0, 1) := by decide +kernel
theorem dX6_takeUnits_68 : decode cX6_takeUnits 68 = .ok (.getfield 47, 3) := by decide +kernel
theorem dX6_takeUnits_71 : decode cX6_takeUnits 71 = .ok (.lload_n 2, 1) := by decide +kernel
theorem dX6_takeUnits_72 : decode cX6_takeUnits 72 = .ok (.lload 6, 2) := by decide +kernel
theorem dX6_takeUnits_74 : decode cX6_takeUnits 74 = .ok (.lmul, 1) := by decide +kernel
theorem dX6_takeUnits_75 : decode cX6_takeUnits 75 = .ok (.ldc2_w 77, 3) := by decide +kernel
theorem dX6_takeUnits_78 : decode cX6_takeUnits 78 = .ok (.ldiv, 1) := by decide +kernel
theorem dX6_takeUnits_79 : decode cX6_takeUnits 79 = .ok (.lsub, 1) := by decide +kernel
theorem dX6_takeUnits_80 : decode cX6_takeUnits 80 = .ok (.lconst 0, 1) := by decide +kernel
theorem dX6_takeUnits_81 : decode cX6_takeUnits 81 = .ok (.invokestatic 148, 3) := by decide +kernel
theorem dX6_takeUnits_84 : decode cX6_takeUnits 84 = .ok (.aload_n 0, 1) := by decide +kernel
theorem dX6_takeUnits_85 : decode cX6_takeUnits 85 = .ok (.getfield 43, 3) := by decide +kernel
theorem dX6_takeUnits_88 : decode cX6_takeUnits 88 = .ok (.invokestatic 133, 3) := by decide +kernel
theorem dX6_takeUnits_91 : decode cX6_takeUnits 91 = .ok (.putfield 47, 3) := by decide +kernel
theorem dX6_takeUnits_94 : decode cX6_takeUnits 94 = .ok (.lload 8, 2) := by decide +kernel
theorem dX6_takeUnits_96 : decode cX6_takeUnits 96 = .ok (.lconst 0, 1) := by decide +kernel
theorem dX6_takeUnits_97 : decode cX6_takeUnits 97 = .ok (.lcmp, 1) := by decide +kernel
theorem dX6_takeUnits_98 : decode cX6_takeUnits 98 = .ok (.ifCond .le 22, 3) := by decide +kernel
theorem dX6_takeUnits_101 : decode cX6_takeUnits 101 = .ok (.aload_n 0, 1) := by decide +kernel
theorem dX6_takeUnits_102 : decode cX6_takeUnits 102 = .ok (.dup, 1) := by decide +kernel
theorem dX6_takeUnits_103 : decode cX6_takeUnits 103 = .ok (.getfield 50, 3) := by decide +kernel
theorem dX6_takeUnits_106 : decode cX6_takeUnits 106 = .ok (.lload 12, 2) := by decide +kernel
theorem dX6_takeUnits_108 : decode cX6_takeUnits 108 = .ok (.aload_n 0, 1) := by decide +kernel
theorem dX6_takeUnits_109 : decode cX6_takeUnits 109 = .ok (.getfield 50, 3) := by decide +kernel
theorem dX6_takeUnits_112 : decode cX6_takeUnits 112 = .ok (.lmul, 1) := by decide +kernel
theorem dX6_takeUnits_113 : decode cX6_takeUnits 113 = .ok (.lload 8, 2) := by decide +kernel
theorem dX6_takeUnits_115 : decode cX6_takeUnits 115 = .ok (.ldiv, 1) := by decide +kernel
theorem dX6_takeUnits_116 : decode cX6_takeUnits 116 = .ok (.lsub, 1) := by decide +kernel
theorem dX6_takeUnits_117 : decode cX6_takeUnits 117 = .ok (.putfield 50, 3) := by decide +kernel
theorem dX6_takeUnits_120 : decode cX6_takeUnits 120 = .ok (.return_, 1) := by decide +kernel
theorem dX6_sellFor_0 : decode cX6_sellFor 0 = .ok (.aload_n 0, 1) := by decide +kernel
theorem dX6_sellFor_1 : decode cX6_sellFor 1 = .ok (.getfield 43, 3) := by decide +kernel
theorem dX6_sellFor_4 : decode cX6_sellFor 4 = .ok (.lload_n 1, 1) := by decide +kernel
theorem dX6_sellFor_5 : decode cX6_sellFor 5 = .ok (.lcmp, 1) := by decide +kernel
theorem dX6_sellFor_6 : decode cX6_sellFor 6 = .ok (.ifCond .lt 5, 3) := by decide +kernel
theorem dX6_sellFor_9 : decode cX6_sellFor 9 = .ok (.iconst 0, 1) := by decide +kernel
theorem dX6_sellFor_10 : decode cX6_sellFor 10 = .ok (.ireturn, 1) := by decide +kernel
theorem dX6_sellFor_11 : decode cX6_sellFor 11 = .ok (.aload_n 0, 1) := by decide +kernel
theorem dX6_sellFor_12 : decode cX6_sellFor 12 = .ok (.getfield 9, 3) := by decide +kernel
theorem dX6_sellFor_15 : decode cX6_sellFor 15 = .ok (.i2l, 1) := by decide +kernel
theorem dX6_sellFor_16 : decode cX6_sellFor 16 = .ok (.aload_n 0, 1) := by decide +kernel
theorem dX6_sellFor_17 : decode cX6_sellFor 17 = .ok (.invokevirtual 122, 3) := by decide +kernel
theorem dX6_sellFor_20 : decode cX6_sellFor 20 = .ok (.lsub, 1) := by decide +kernel
theorem dX6_sellFor_21 : decode cX6_sellFor 21 = .ok (.lstore_n 3, 1) := by decide +kernel
theorem dX6_sellFor_22 : decode cX6_sellFor 22 = .ok (.lload_n 3, 1) := by decide +kernel
theorem dX6_sellFor_23 : decode cX6_sellFor 23 = .ok (.lconst 0, 1) := by decide +kernel
theorem dX6_sellFor_24 : decode cX6_sellFor 24 = .ok (.lcmp, 1) := by decide +kernel
theorem dX6_sellFor_25 : decode cX6_sellFor 25 = .ok (.ifCond .le 26, 3) := by decide +kernel
theorem dX6_sellFor_28 : decode cX6_sellFor 28 = .ok (.lload_n 1, 1) := by decide +kernel
theorem dX6_sellFor_29 : decode cX6_sellFor 29 = .ok (.aload_n 0, 1) := by decide +kernel
theorem dX6_sellFor_30 : decode cX6_sellFor 30 = .ok (.getfield 43, 3) := by decide +kernel
theorem dX6_sellFor_33 : decode cX6_sellFor 33 = .ok (.lsub, 1) := by decide +kernel
theorem dX6_sellFor_34 : decode cX6_sellFor 34 = .ok (.lload_n 3, 1) := by decide +kernel
theorem dX6_sellFor_35 : decode cX6_sellFor 35 = .ok (.ladd, 1) := by decide +kernel
theorem dX6_sellFor_36 : decode cX6_sellFor 36 = .ok (.lconst 1, 1) := by decide +kernel
theorem dX6_sellFor_37 : decode cX6_sellFor 37 = .ok (.lsub, 1) := by decide +kernel
theorem dX6_sellFor_38 : decode cX6_sellFor 38 = .ok (.lload_n 3, 1) := by decide +kernel
theorem dX6_sellFor_39 : decode cX6_sellFor 39 = .ok (.ldiv, 1) := by decide +kernel
theorem dX6_sellFor_40 : decode cX6_sellFor 40 = .ok (.aload_n 0, 1) := by decide +kernel
theorem dX6_sellFor_41 : decode cX6_sellFor 41 = .ok (.getfield 53, 3) := by decide +kernel
theorem dX6_sellFor_44 : decode cX6_sellFor 44 = .ok (.i2l, 1) := by decide +kernel
theorem dX6_sellFor_45 : decode cX6_sellFor 45 = .ok (.invokestatic 133, 3) := by decide +kernel
theorem dX6_sellFor_48 : decode cX6_sellFor 48 = .ok (.goto 8, 3) := by decide +kernel
theorem dX6_sellFor_51 : decode cX6_sellFor 51 = .ok (.aload_n 0, 1) := by decide +kernel
theorem dX6_sellFor_52 : decode cX6_sellFor 52 = .ok (.getfield 53, 3) := by decide +kernel
theorem dX6_sellFor_55 : decode cX6_sellFor 55 = .ok (.i2l, 1) := by decide +kernel
theorem dX6_sellFor_56 : decode cX6_sellFor 56 = .ok (.lstore 5, 2) := by decide +kernel
theorem dX6_sellFor_58 : decode cX6_sellFor 58 = .ok (.aload_n 0, 1) := by decide +kernel
theorem dX6_sellFor_59 : decode cX6_sellFor 59 = .ok (.dup, 1) := by decide +kernel
theorem dX6_sellFor_60 : decode cX6_sellFor 60 = .ok (.getfield 53, 3) := by decide +kernel
theorem dX6_sellFor_63 : decode cX6_sellFor 63 = .ok (.lload 5, 2) := by decide +kernel
theorem dX6_sellFor_65 : decode cX6_sellFor 65 = .ok (.l2i, 1) := by decide +kernel
theorem dX6_sellFor_66 : decode cX6_sellFor 66 = .ok (.isub, 1) := by decide +kernel
theorem dX6_sellFor_67 : decode cX6_sellFor 67 = .ok (.putfield 53, 3) := by decide +kernel
theorem dX6_sellFor_70 : decode cX6_sellFor 70 = .ok (.aload_n 0, 1) := by decide +kernel
theorem dX6_sellFor_71 : decode cX6_sellFor 71 = .ok (.dup, 1) := by decide +kernel
theorem dX6_sellFor_72 : decode cX6_sellFor 72 = .ok (.getfield 43, 3) := by decide +kernel
theorem dX6_sellFor_75 : decode cX6_sellFor 75 = .ok (.lload 5, 2) := by decide +kernel
theorem dX6_sellFor_77 : decode cX6_sellFor 77 = .ok (.lload_n 3, 1) := by decide +kernel
theorem dX6_sellFor_78 : decode cX6_sellFor 78 = .ok (.lmul, 1) := by decide +kernel
theorem dX6_sellFor_79 : decode cX6_sellFor 79 = .ok (.ladd, 1) := by decide +kernel
theorem dX6_sellFor_80 : decode cX6_sellFor 80 = .ok (.putfield 43, 3) := by decide +kernel
theorem dX6_sellFor_83 : decode cX6_sellFor 83 = .ok (.lload 5, 2) := by decide +kernel
theorem dX6_sellFor_85 : decode cX6_sellFor 85 = .ok (.l2i, 1) := by decide +kernel
theorem dX6_sellFor_86 : decode cX6_sellFor 86 = .ok (.ireturn, 1) := by decide +kernel
theorem dX6_freeUnits_0 : decode cX6_freeUnits 0 = .ok (.aload_n 0, 1) := by decide +kernel
theorem dX6_freeUnits_1 : decode cX6_freeUnits 1 = .ok (.getfield 21, 3) := by decide +kernel
theorem dX6_freeUnits_4 : decode cX6_freeUnits 4 = .ok (.iload_n 1, 1) := by decide +kernel
theorem dX6_freeUnits_5 : decode cX6_freeUnits 5 = .ok (.aaload, 1) := by decide +kernel
theorem dX6_freeUnits_6 : decode cX6_freeUnits 6 = .ok (.invokevirtual 69, 3) := by decide +kernel
theorem dX6_freeUnits_9 : decode cX6_freeUnits 9 = .ok (.aload_n 0, 1) := by decide +kernel
theorem dX6_freeUnits_10 : decode cX6_freeUnits 10 = .ok (.getfield 33, 3) := by decide +kernel
theorem dX6_freeUnits_13 : decode cX6_freeUnits 13 = .ok (.iload_n 1, 1) := by decide +kernel
theorem dX6_freeUnits_14 : decode cX6_freeUnits 14 = .ok (.invokevirtual 151, 3) := by decide +kernel
theorem dX6_freeUnits_17 : decode cX6_freeUnits 17 = .ok (.lsub, 1) := by decide +kernel
theorem dX6_freeUnits_18 : decode cX6_freeUnits 18 = .ok (.lreturn, 1) := by decide +kernel
theorem dX6_dayOf_0 : decode cX6_dayOf 0 = .ok (.iload_n 1, 1) := by decide +kernel
theorem dX6_dayOf_1 : decode cX6_dayOf 1 = .ok (.aload_n 0, 1) := by decide +kernel
theorem dX6_dayOf_2 : decode cX6_dayOf 2 = .ok (.getfield 15, 3) := by decide +kernel
theorem dX6_dayOf_5 : decode cX6_dayOf 5 = .ok (.iconst 0, 1) := by decide +kernel
theorem dX6_dayOf_6 : decode cX6_dayOf 6 = .ok (.iaload, 1) := by decide +kernel
theorem dX6_dayOf_7 : decode cX6_dayOf 7 = .ok (.if_icmp .ge 10, 3) := by decide +kernel
theorem dX6_dayOf_10 : decode cX6_dayOf 10 = .ok (.aload_n 0, 1) := by decide +kernel
theorem dX6_dayOf_11 : decode cX6_dayOf 11 = .ok (.getfield 56, 3) := by decide +kernel
theorem dX6_dayOf_14 : decode cX6_dayOf 14 = .ok (.goto 9, 3) := by decide +kernel
theorem dX6_dayOf_17 : decode cX6_dayOf 17 = .ok (.aload_n 0, 1) := by decide +kernel
theorem dX6_dayOf_18 : decode cX6_dayOf 18 = .ok (.getfield 56, 3) := by decide +kernel
theorem dX6_dayOf_21 : decode cX6_dayOf 21 = .ok (.iconst 1, 1) := by decide +kernel
theorem dX6_dayOf_22 : decode cX6_dayOf 22 = .ok (.iadd, 1) := by decide +kernel
theorem dX6_dayOf_23 : decode cX6_dayOf 23 = .ok (.ireturn, 1) := by decide +kernel
theorem dX6_isHour_0 : decode cX6_isHour 0 = .ok (.iload_n 0, 1) := by decide +kernel
theorem dX6_isHour_1 : decode cX6_isHour 1 = .ok (.ifCond .lt 13, 3) := by decide +kernel
theorem dX6_isHour_4 : decode cX6_isHour 4 = .ok (.iload_n 0, 1) := by decide +kernel
theorem dX6_isHour_5 : decode cX6_isHour 5 = .ok (.bipush 23, 2) := by decide +kernel
theorem dX6_isHour_7 : decode cX6_isHour 7 = .ok (.if_icmp .gt 7, 3) := by decide +kernel
theorem dX6_isHour_10 : decode cX6_isHour 10 = .ok (.iconst 1, 1) := by decide +kernel
theorem dX6_isHour_11 : decode cX6_isHour 11 = .ok (.goto 4, 3) := by decide +kernel
theorem dX6_isHour_14 : decode cX6_isHour 14 = .ok (.iconst 0, 1) := by decide +kernel
theorem dX6_isHour_15 : decode cX6_isHour 15 = .ok (.ireturn, 1) := by decide +kernel
theorem dX7_init_0 : decode cX7_init 0 = .ok (.aload_n 0, 1) := by decide +kernel
theorem dX7_init_1 : decode cX7_init 1 = .ok (.invokespecial 1, 3) := by decide +kernel
theorem dX7_init_4 : decode cX7_init 4 = .ok (.aload_n 0, 1) := by decide +kernel
theorem dX7_init_5 : decode cX7_init 5 = .ok (.new 7, 3) := by decide +kernel
theorem dX7_init_8 : decode cX7_init 8 = .ok (.dup, 1) := by decide +kernel
theorem dX7_init_9 : decode cX7_init 9 = .ok (.invokespecial 9, 3) := by decide +kernel
theorem dX7_init_12 : decode cX7_init 12 = .ok (.putfield 10, 3) := by decide +kernel
theorem dX7_init_15 : decode cX7_init 15 = .ok (.aload_n 0, 1) := by decide +kernel
theorem dX7_init_16 : decode cX7_init 16 = .ok (.new 7, 3) := by decide +kernel
theorem dX7_init_19 : decode cX7_init 19 = .ok (.dup, 1) := by decide +kernel
theorem dX7_init_20 : decode cX7_init 20 = .ok (.invokespecial 9, 3) := by decide +kernel
theorem dX7_init_23 : decode cX7_init 23 = .ok (.putfield 16, 3) := by decide +kernel
theorem dX7_init_26 : decode cX7_init 26 = .ok (.aload_n 0, 1) := by decide +kernel
theorem dX7_init_27 : decode cX7_init 27 = .ok (.new 19, 3) := by decide +kernel
theorem dX7_init_30 : decode cX7_init 30 = .ok (.dup, 1) := by decide +kernel
theorem dX7_init_31 : decode cX7_init 31 = .ok (.invokespecial 21, 3) := by decide +kernel
theorem dX7_init_34 : decode cX7_init 34 = .ok (.putfield 22, 3) := by decide +kernel
theorem dX7_init_37 : decode cX7_init 37 = .ok (.aload_n 0, 1) := by decide +kernel
theorem dX7_init_38 : decode cX7_init 38 = .ok (.new 26, 3) := by decide +kernel
theorem dX7_init_41 : decode cX7_init 41 = .ok (.dup, 1) := by decide +kernel
theorem dX7_init_42 : decode cX7_init 42 = .ok (.invokespecial 28, 3) := by decide +kernel
theorem dX7_init_45 : decode cX7_init 45 = .ok (.putfield 29, 3) := by decide +kernel
theorem dX7_init_48 : decode cX7_init 48 = .ok (.aload_n 0, 1) := by decide +kernel
theorem dX7_init_49 : decode cX7_init 49 = .ok (.new 33, 3) := by decide +kernel
theorem dX7_init_52 : decode cX7_init 52 = .ok (.dup, 1) := by decide +kernel
theorem dX7_init_53 : decode cX7_init 53 = .ok (.invokespecial 35, 3) := by decide +kernel
theorem dX7_init_56 : decode cX7_init 56 = .ok (.putfield 36, 3) := by decide +kernel
theorem dX7_init_59 : decode cX7_init 59 = .ok (.aload_n 0, 1) := by decide +kernel
theorem dX7_init_60 : decode cX7_init 60 = .ok (.iconst 2, 1) := by decide +kernel
theorem dX7_init_61 : decode cX7_init 61 = .ok (.anewarray 7, 3) := by decide +kernel
theorem dX7_init_64 : decode cX7_init 64 = .ok (.putfield 40, 3) := by decide +kernel
theorem dX7_init_67 : decode cX7_init 67 = .ok (.iconst 0, 1) := by decide +kernel
theorem dX7_init_68 : decode cX7_init 68 = .ok (.istore_n 1, 1) := by decide +kernel
theorem dX7_init_69 : decode cX7_init 69 = .ok (.iload_n 1, 1) := by decide +kernel
theorem dX7_init_70 : decode cX7_init 70 = .ok (.iconst 2, 1) := by decide +kernel
theorem dX7_init_71 : decode cX7_init 71 = .ok (.if_icmp .ge 22, 3) := by decide +kernel
theorem dX7_init_74 : decode cX7_init 74 = .ok (.aload_n 0, 1) := by decide +kernel
theorem dX7_init_75 : decode cX7_init 75 = .ok (.getfield 40, 3) := by decide +kernel
theorem dX7_init_78 : decode cX7_init 78 = .ok (.iload_n 1, 1) := by decide +kernel
theorem dX7_init_79 : decode cX7_init 79 = .ok (.new 7, 3) := by decide +kernel
theorem dX7_init_82 : decode cX7_init 82 = .ok (.dup, 1) := by decide +kernel
theorem dX7_init_83 : decode cX7_init 83 = .ok (.invokespecial 9, 3) := by decide +kernel
theorem dX7_init_86 : decode cX7_init 86 = .ok (.aastore, 1) := by decide +kernel
theorem dX7_init_87 : decode cX7_init 87 = .ok (.iinc 1 1, 3) := by decide +kernel
theorem dX7_init_90 : decode cX7_init 90 = .ok (.goto (-21), 3) := by decide +kernel
theorem dX7_init_93 : decode cX7_init 93 = .ok (.aload_n 0, 1) := by decide +kernel
theorem dX7_init_94 : decode cX7_init 94 = .ok (.iconst 2, 1) := by decide +kernel
theorem dX7_init_95 : decode cX7_init 95 = .ok (.newarray .boolean, 2) := by decide +kernel
theorem dX7_init_97 : decode cX7_init 97 = .ok (.putfield 44, 3) := by decide +kernel
theorem dX7_init_100 : decode cX7_init 100 = .ok (.return_, 1) := by decide +kernel
theorem dX7_set_0 : decode cX7_set 0 = .ok (.aload_n 0, 1) := by decide +kernel
theorem dX7_set_1 : decode cX7_set 1 = .ok (.getfield 36, 3) := by decide +kernel
theorem dX7_set_4 : decode cX7_set 4 = .ok (.aload_n 0, 1) := by decide +kernel
theorem dX7_set_5 : decode cX7_set 5 = .ok (.getfield 10, 3) := by decide +kernel
theorem dX7_set_8 : decode cX7_set 8 = .ok (.invokevirtual 48, 3) := by decide +kernel
theorem dX7_set_11 : decode cX7_set 11 = .ok (.aload_n 0, 1) := by decide +kernel
theorem dX7_set_12 : decode cX7_set 12 = .ok (.getfield 36, 3) := by decide +kernel
theorem dX7_set_15 : decode cX7_set 15 = .ok (.aload_n 0, 1) := by decide +kernel
theorem dX7_set_16 : decode cX7_set 16 = .ok (.getfield 10, 3) := by decide +kernel
theorem dX7_set_19 : decode cX7_set 19 = .ok (.iload_n 1, 1) := by decide +kernel
theorem dX7_set_20 : decode cX7_set 20 = .ok (.iload_n 2, 1) := by decide +kernel
theorem dX7_set_21 : decode cX7_set 21 = .ok (.invokevirtual 52, 3) := by decide +kernel
theorem dX7_set_24 : decode cX7_set 24 = .ok (.invokevirtual 56, 3) := by decide +kernel
theorem dX7_set_27 : decode cX7_set 27 = .ok (.ireturn, 1) := by decide +kernel
theorem dX7_buy_0 : decode cX7_buy 0 = .ok (.aload_n 0, 1) := by decide +kernel
theorem dX7_buy_1 : decode cX7_buy 1 = .ok (.getfield 36, 3) := by decide +kernel
theorem dX7_buy_4 : decode cX7_buy 4 = .ok (.aload_n 0, 1) := by decide +kernel
theorem dX7_buy_5 : decode cX7_buy 5 = .ok (.getfield 10, 3) := by decide +kernel
theorem dX7_buy_8 : decode cX7_buy 8 = .ok (.invokevirtual 48, 3) := by decide +kernel
theorem dX7_buy_11 : decode cX7_buy 11 = .ok (.aload_n 0, 1) := by decide +kernel
theorem dX7_buy_12 : decode cX7_buy 12 = .ok (.getfield 36, 3) := by decide +kernel
theorem dX7_buy_15 : decode cX7_buy 15 = .ok (.aload_n 0, 1) := by decide +kernel
theorem dX7_buy_16 : decode cX7_buy 16 = .ok (.getfield 10, 3) := by decide +kernel
theorem dX7_buy_19 : decode cX7_buy 19 = .ok (.iload_n 1, 1) := by decide +kernel
theorem dX7_buy_20 : decode cX7_buy 20 = .ok (.iload_n 2, 1) := by decide +kernel
theorem dX7_buy_21 : decode cX7_buy 21 = .ok (.iload_n 3, 1) := by decide +kernel
theorem dX7_buy_22 : decode cX7_buy 22 = .ok (.invokevirtual 60, 3) := by decide +kernel
theorem dX7_buy_25 : decode cX7_buy 25 = .ok (.invokevirtual 56, 3) := by decide +kernel
theorem dX7_buy_28 : decode cX7_buy 28 = .ok (.ireturn, 1) := by decide +kernel
theorem dX7_leave_0 : decode cX7_leave 0 = .ok (.aload_n 0, 1) := by decide +kernel
theorem dX7_leave_1 : decode cX7_leave 1 = .ok (.getfield 36, 3) := by decide +kernel
theorem dX7_leave_4 : decode cX7_leave 4 = .ok (.aload_n 0, 1) := by decide +kernel
theorem dX7_leave_5 : decode cX7_leave 5 = .ok (.getfield 10, 3) := by decide +kernel
theorem dX7_leave_8 : decode cX7_leave 8 = .ok (.invokevirtual 48, 3) := by decide +kernel
theorem dX7_leave_11 : decode cX7_leave 11 = .ok (.aload_n 0, 1) := by decide +kernel
theorem dX7_leave_12 : decode cX7_leave 12 = .ok (.getfield 36, 3) := by decide +kernel
theorem dX7_leave_15 : decode cX7_leave 15 = .ok (.aload_n 0, 1) := by decide +kernel
theorem dX7_leave_16 : decode cX7_leave 16 = .ok (.getfield 10, 3) := by decide +kernel
theorem dX7_leave_19 : decode cX7_leave 19 = .ok (.iload_n 1, 1) := by decide +kernel
theorem dX7_leave_20 : decode cX7_leave 20 = .ok (.iload_n 2, 1) := by decide +kernel
theorem dX7_leave_21 : decode cX7_leave 21 = .ok (.iload_n 3, 1) := by decide +kernel
theorem dX7_leave_22 : decode cX7_leave 22 = .ok (.invokevirtual 64, 3) := by decide +kernel
theorem dX7_leave_25 : decode cX7_leave 25 = .ok (.invokevirtual 56, 3) := by decide +kernel
theorem dX7_leave_28 : decode cX7_leave 28 = .ok (.ireturn, 1) := by decide +kernel
theorem dX7_inKind_0 : decode cX7_inKind 0 = .ok (.aload_n 0, 1) := by decide +kernel
theorem dX7_inKind_1 : decode cX7_inKind 1 = .ok (.getfield 36, 3) := by decide +kernel
theorem dX7_inKind_4 : decode cX7_inKind 4 = .ok (.aload_n 0, 1) := by decide +kernel
theorem dX7_inKind_5 : decode cX7_inKind 5 = .ok (.getfield 10, 3) := by decide +kernel
theorem dX7_inKind_8 : decode cX7_inKind 8 = .ok (.invokevirtual 48, 3) := by decide +kernel
theorem dX7_inKind_11 : decode cX7_inKind 11 = .ok (.aload_n 0, 1) := by decide +kernel
theorem dX7_inKind_12 : decode cX7_inKind 12 = .ok (.getfield 36, 3) := by decide +kernel
theorem dX7_inKind_15 : decode cX7_inKind 15 = .ok (.aload_n 0, 1) := by decide +kernel
theorem dX7_inKind_16 : decode cX7_inKind 16 = .ok (.getfield 10, 3) := by decide +kernel
theorem dX7_inKind_19 : decode cX7_inKind 19 = .ok (.iload_n 1, 1) := by decide +kernel
theorem dX7_inKind_20 : decode cX7_inKind 20 = .ok (.iload_n 2, 1) := by decide +kernel
theorem dX7_inKind_21 : decode cX7_inKind 21 = .ok (.invokevirtual 67, 3) := by decide +kernel
theorem dX7_inKind_24 : decode cX7_inKind 24 = .ok (.invokevirtual 56, 3) := by decide +kernel
theorem dX7_inKind_27 : decode cX7_inKind 27 = .ok (.ireturn, 1) := by decide +kernel
theorem dX7_endDay_0 : decode cX7_endDay 0 = .ok (.aload_n 0, 1) := by decide +kernel
theorem dX7_endDay_1 : decode cX7_endDay 1 = .ok (.getfield 36, 3) := by decide +kernel
theorem dX7_endDay_4 : decode cX7_endDay 4 = .ok (.aload_n 0, 1) := by decide +kernel
theorem dX7_endDay_5 : decode cX7_endDay 5 = .ok (.getfield 10, 3) := by decide +kernel
theorem dX7_endDay_8 : decode cX7_endDay 8 = .ok (.invokevirtual 48, 3) := by decide +kernel
theorem dX7_endDay_11 : decode cX7_endDay 11 = .ok (.aload_n 0, 1) := by decide +kernel
theorem dX7_endDay_12 : decode cX7_endDay 12 = .ok (.getfield 36, 3) := by decide +kernel
theorem dX7_endDay_15 : decode cX7_endDay 15 = .ok (.aload_n 0, 1) := by decide +kernel
theorem dX7_endDay_16 : decode cX7_endDay 16 = .ok (.getfield 22, 3) := by decide +kernel
theorem dX7_endDay_19 : decode cX7_endDay 19 = .ok (.aload_n 0, 1) := by decide +kernel
theorem dX7_endDay_20 : decode cX7_endDay 20 = .ok (.getfield 10, 3) := by decide +kernel
theorem dX7_endDay_23 : decode cX7_endDay 23 = .ok (.invokevirtual 70, 3) := by decide +kernel
theorem dX7_endDay_26 : decode cX7_endDay 26 = .ok (.invokevirtual 56, 3) := by decide +kernel
theorem dX7_endDay_29 : decode cX7_endDay 29 = .ok (.ireturn, 1) := by decide +kernel
theorem dX7_quote_0 : decode cX7_quote 0 = .ok (.aload_n 0, 1) := by decide +kernel
theorem dX7_quote_1 : decode cX7_quote 1 = .ok (.getfield 36, 3) := by decide +kernel
theorem dX7_quote_4 : decode cX7_quote 4 = .ok (.aload_n 0, 1) := by decide +kernel
theorem dX7_quote_5 : decode cX7_quote 5 = .ok (.getfield 10, 3) := by decide +kernel
theorem dX7_quote_8 : decode cX7_quote 8 = .ok (.invokevirtual 48, 3) := by decide +kernel
theorem dX7_quote_11 : decode cX7_quote 11 = .ok (.aload_n 0, 1) := by decide +kernel
theorem dX7_quote_12 : decode cX7_quote 12 = .ok (.getfield 36, 3) := by decide +kernel
theorem dX7_quote_15 : decode cX7_quote 15 = .ok (.aload_n 0, 1) := by decide +kernel
theorem dX7_quote_16 : decode cX7_quote 16 = .ok (.getfield 10, 3) := by decide +kernel
theorem dX7_quote_19 : decode cX7_quote 19 = .ok (.iload_n 1, 1) := by decide +kernel
theorem dX7_quote_20 : decode cX7_quote 20 = .ok (.invokevirtual 74, 3) := by decide +kernel
theorem dX7_quote_23 : decode cX7_quote 23 = .ok (.invokevirtual 56, 3) := by decide +kernel
theorem dX7_quote_26 : decode cX7_quote 26 = .ok (.ireturn, 1) := by decide +kernel
theorem dX7_trade_0 : decode cX7_trade 0 = .ok (.aload_n 0, 1) := by decide +kernel
theorem dX7_trade_1 : decode cX7_trade 1 = .ok (.getfield 36, 3) := by decide +kernel
theorem dX7_trade_4 : decode cX7_trade 4 = .ok (.aload_n 0, 1) := by decide +kernel
theorem dX7_trade_5 : decode cX7_trade 5 = .ok (.getfield 10, 3) := by decide +kernel
theorem dX7_trade_8 : decode cX7_trade 8 = .ok (.invokevirtual 48, 3) := by decide +kernel
theorem dX7_trade_11 : decode cX7_trade 11 = .ok (.aload_n 0, 1) := by decide +kernel
theorem dX7_trade_12 : decode cX7_trade 12 = .ok (.getfield 36, 3) := by decide +kernel
theorem dX7_trade_15 : decode cX7_trade 15 = .ok (.aload_n 0, 1) := by decide +kernel
theorem dX7_trade_16 : decode cX7_trade 16 = .ok (.getfield 10, 3) := by decide +kernel
theorem dX7_trade_19 : decode cX7_trade 19 = .ok (.iload_n 1, 1) := by decide +kernel
theorem dX7_trade_20 : decode cX7_trade 20 = .ok (.invokevirtual 77, 3) := by decide +kernel
theorem dX7_trade_23 : decode cX7_trade 23 = .ok (.invokevirtual 56, 3) := by decide +kernel
theorem dX7_trade_26 : decode cX7_trade 26 = .ok (.ireturn, 1) := by decide +kernel
theorem dX7_income_0 : decode cX7_income 0 = .ok (.aload_n 0, 1) := by decide +kernel
theorem dX7_income_1 : decode cX7_income 1 = .ok (.getfield 36, 3) := by decide +kernel
theorem dX7_income_4 : decode cX7_income 4 = .ok (.aload_n 0, 1) := by decide +kernel
theorem dX7_income_5 : decode cX7_income 5 = .ok (.getfield 10, 3) := by decide +kernel
theorem dX7_income_8 : decode cX7_income 8 = .ok (.invokevirtual 48, 3) := by decide +kernel
theorem dX7_income_11 : decode cX7_income 11 = .ok (.aload_n 0, 1) := by decide +kernel
theorem dX7_income_12 : decode cX7_income 12 = .ok (.getfield 36, 3) := by decide +kernel
theorem dX7_income_15 : decode cX7_income 15 = .ok (.aload_n 0, 1) := by decide +kernel
theorem dX7_income_16 : decode cX7_income 16 = .ok (.getfield 10, 3) := by decide +kernel
theorem dX7_income_19 : decode cX7_income 19 = .ok (.iload_n 1, 1) := by decide +kernel
theorem dX7_income_20 : decode cX7_income 20 = .ok (.invokevirtual 80, 3) := by decide +kernel
theorem dX7_income_23 : decode cX7_income 23 = .ok (.invokevirtual 56, 3) := by decide +kernel
theorem dX7_income_26 : decode cX7_income 26 = .ok (.ireturn, 1) := by decide +kernel
theorem dX7_pay_0 : decode cX7_pay 0 = .ok (.aload_n 0, 1) := by decide +kernel
theorem dX7_pay_1 : decode cX7_pay 1 = .ok (.getfield 36, 3) := by decide +kernel
theorem dX7_pay_4 : decode cX7_pay 4 = .ok (.aload_n 0, 1) := by decide +kernel
theorem dX7_pay_5 : decode cX7_pay 5 = .ok (.getfield 10, 3) := by decide +kernel
theorem dX7_pay_8 : decode cX7_pay 8 = .ok (.invokevirtual 48, 3) := by decide +kernel
theorem dX7_pay_11 : decode cX7_pay 11 = .ok (.aload_n 0, 1) := by decide +kernel
theorem dX7_pay_12 : decode cX7_pay 12 = .ok (.getfield 36, 3) := by decide +kernel
theorem dX7_pay_15 : decode cX7_pay 15 = .ok (.aload_n 0, 1) := by decide +kernel
theorem dX7_pay_16 : decode cX7_pay 16 = .ok (.getfield 10, 3) := by decide +kernel
theorem dX7_pay_19 : decode cX7_pay 19 = .ok (.invokevirtual 83, 3) := by decide +kernel
theorem dX7_pay_22 : decode cX7_pay 22 = .ok (.invokevirtual 56, 3) := by decide +kernel
theorem dX7_pay_25 : decode cX7_pay 25 = .ok (.ireturn, 1) := by decide +kernel
theorem dX7_ofHolder_0 : decode cX7_ofHolder 0 = .ok (.iload_n 1, 1) := by decide +kernel
theorem dX7_ofHolder_1 : decode cX7_ofHolder 1 = .ok (.invokestatic 87, 3) := by decide +kernel
theorem dX7_ofHolder_4 : decode cX7_ofHolder 4 = .ok (.ifCond .ne 5, 3) := by decide +kernel
theorem dX7_ofHolder_7 : decode cX7_ofHolder 7 = .ok (.iconst (-1), 1) := by decide +kernel
theorem dX7_ofHolder_8 : decode cX7_ofHolder 8 = .ok (.ireturn, 1) := by decide +kernel
theorem dX7_ofHolder_9 : decode cX7_ofHolder 9 = .ok (.iload_n 2, 1) := by decide +kernel
theorem dX7_ofHolder_10 : decode cX7_ofHolder 10 = .ok (.ifCond .lt 9, 3) := by decide +kernel
theorem dX7_ofHolder_13 : decode cX7_ofHolder 13 = .ok (.iload_n 2, 1) := by decide +kernel
theorem dX7_ofHolder_14 : decode cX7_ofHolder 14 = .ok (.bipush 9, 2) := by decide +kernel
theorem dX7_ofHolder_16 : decode cX7_ofHolder 16 = .ok (.if_icmp .lt 6, 3) := by decide +kernel
theorem dX7_ofHolder_19 : decode cX7_ofHolder 19 = .ok (.bipush (-2), 2) := by decide +kernel
theorem dX7_ofHolder_21 : decode cX7_ofHolder 21 = .ok (.ireturn, 1) := by decide +kernel
theorem dX7_ofHolder_22 : decode cX7_ofHolder 22 = .ok (.aload_n 0, 1) := by decide +kernel
theorem dX7_ofHolder_23 : decode cX7_ofHolder 23 = .ok (.getfield 10, 3) := by decide +kernel
theorem dX7_ofHolder_26 : decode cX7_ofHolder 26 = .ok (.getfield 91, 3) := by decide +kernel
theorem dX7_ofHolder_29 : decode cX7_ofHolder 29 = .ok (.iload_n 1, 1) := by decide +kernel
theorem dX7_ofHolder_30 : decode cX7_ofHolder 30 = .ok (.aaload, 1) := by decide +kernel
theorem dX7_ofHolder_31 : decode cX7_ofHolder 31 = .ok (.astore_n 3, 1) := by decide +kernel
theorem dX7_ofHolder_32 : decode cX7_ofHolder 32 = .ok (.iload_n 2, 1) := by decide +kernel
theorem dX7_ofHolder_33 : decode cX7_ofHolder 33 = .ok (.tableswitch 102 0 7 #[47, 53, 59, 65, 78, 84, 90, 96], 47) := by decide +kernel
theorem dX7_ofHolder_80 : decode cX7_ofHolder 80 = .ok (.aload_n 3, 1) := by decide +kernel
theorem dX7_ofHolder_81 : decode cX7_ofHolder 81 = .ok (.invokevirtual 95, 3) := by decide +kernel
theorem dX7_ofHolder_84 : decode cX7_ofHolder 84 = .ok (.l2i, 1) := by decide +kernel
theorem dX7_ofHolder_85 : decode cX7_ofHolder 85 = .ok (.ireturn, 1) := by decide +kernel
theorem dX7_ofHolder_86 : decode cX7_ofHolder 86 = .ok (.aload_n 3, 1) := by decide +kernel
theorem dX7_ofHolder_87 : decode cX7_ofHolder 87 = .ok (.getfield 101, 3) := by decide +kernel
theorem dX7_ofHolder_90 : decode cX7_ofHolder 90 = .ok (.l2i, 1) := by decide +kernel
theorem dX7_ofHolder_91 : decode cX7_ofHolder 91 = .ok (.ireturn, 1) := by decide +kernel
theorem dX7_ofHolder_92 : decode cX7_ofHolder 92 = .ok (.aload_n 3, 1) := by decide +kernel
theorem dX7_ofHolder_93 : decode cX7_ofHolder 93 = .ok (.getfield 105, 3) := by decide +kernel
theorem dX7_ofHolder_96 : decode cX7_ofHolder 96 = .ok (.l2i, 1) := by decide +kernel
theorem dX7_ofHolder_97 : decode cX7_ofHolder 97 = .ok (.ireturn, 1) := by decide +kernel
theorem dX7_ofHolder_98 : decode cX7_ofHolder 98 = .ok (.aload_n 0, 1) := by decide +kernel
theorem dX7_ofHolder_99 : decode cX7_ofHolder 99 = .ok (.getfield 10, 3) := by decide +kernel
theorem dX7_ofHolder_102 : decode cX7_ofHolder 102 = .ok (.getfield 108, 3) := by decide +kernel
theorem dX7_ofHolder_105 : decode cX7_ofHolder 105 = .ok (.iload_n 1, 1) := by decide +kernel
theorem dX7_ofHolder_106 : decode cX7_ofHolder 106 = .ok (.invokevirtual 112, 3) := by decide +kernel
theorem dX7_ofHolder_109 : decode cX7_ofHolder 109 = .ok (.l2i, 1) := by decide +kernel
theorem dX7_ofHolder_110 : decode cX7_ofHolder 110 = .ok (.ireturn, 1) := by decide +kernel
theorem dX7_ofHolder_111 : decode cX7_ofHolder 111 = .ok (.aload_n 3, 1) := by decide +kernel
theorem dX7_ofHolder_112 : decode cX7_ofHolder 112 = .ok (.getfield 118, 3) := by decide +kernel
theorem dX7_ofHolder_115 : decode cX7_ofHolder 115 = .ok (.l2i, 1) := by decide +kernel
theorem dX7_ofHolder_116 : decode cX7_ofHolder 116 = .ok (.ireturn, 1) := by decide +kernel
theorem dX7_ofHolder_117 : decode cX7_ofHolder 117 = .ok (.aload_n 3, 1) := by decide +kernel
theorem dX7_ofHolder_118 : decode cX7_ofHolder 118 = .ok (.getfield 121, 3) := by decide +kernel
theorem dX7_ofHolder_121 : decode cX7_ofHolder 121 = .ok (.l2i, 1) := by decide +kernel
theorem dX7_ofHolder_122 : decode cX7_ofHolder 122 = .ok (.ireturn, 1) := by decide +kernel
theorem dX7_ofHolder_123 : decode cX7_ofHolder 123 = .ok (.aload_n 3, 1) := by decide +kernel
theorem dX7_ofHolder_124 : decode cX7_ofHolder 124 = .ok (.getfield 124, 3) := by decide +kernel
theorem dX7_ofHolder_127 : decode cX7_ofHolder 127 = .ok (.l2i, 1) := by decide +kernel
theorem dX7_ofHolder_128 : decode cX7_ofHolder 128 = .ok (.ireturn, 1) := by decide +kernel
theorem dX7_ofHolder_129 : decode cX7_ofHolder 129 = .ok (.aload_n 3, 1) := by decide +kernel
theorem dX7_ofHolder_130 : decode cX7_ofHolder 130 = .ok (.getfield 127, 3) := by decide +kernel
theorem dX7_ofHolder_133 : decode cX7_ofHolder 133 = .ok (.l2i, 1) := by decide +kernel
theorem dX7_ofHolder_134 : decode cX7_ofHolder 134 = .ok (.ireturn, 1) := by decide +kernel
theorem dX7_ofHolder_135 : decode cX7_ofHolder 135 = .ok (.aload_n 3, 1) := by decide +kernel
theorem dX7_ofHolder_136 : decode cX7_ofHolder 136 = .ok (.getfield 130, 3) := by decide +kernel
theorem dX7_ofHolder_139 : decode cX7_ofHolder 139 = .ok (.l2i, 1) := by decide +kernel
theorem dX7_ofHolder_140 : decode cX7_ofHolder 140 = .ok (.ireturn, 1) := by decide +kernel
theorem dX7_count_0 : decode cX7_count 0 = .ok (.iload_n 1, 1) := by decide +kernel
theorem dX7_count_1 : decode cX7_count 1 = .ok (.ifCond .lt 9, 3) := by decide +kernel
theorem dX7_count_4 : decode cX7_count 4 = .ok (.iload_n 1, 1) := by decide +kernel
theorem dX7_count_5 : decode cX7_count 5 = .ok (.bipush 19, 2) := by decide +kernel
theorem dX7_count_7 : decode cX7_count 7 = .ok (.if_icmp .lt 6, 3) := by decide +kernel
theorem dX7_count_10 : decode cX7_count 10 = .ok (.bipush (-2), 2) := by decide +kernel
theorem dX7_count_12 : decode cX7_count 12 = .ok (.ireturn, 1) := by decide +kernel
theorem dX7_count_13 : decode cX7_count 13 = .ok (.iload_n 1, 1) := by decide +kernel
theorem dX7_count_14 : decode cX7_count 14 = .ok (.tableswitch 229 0 18 #[90, 99, 107, 115, 124, 133, 142, 151, 160, 168, 179, 190, 229, 229, 229, 229, 229, 213, 221], 90) := by decide +kernel
theorem dX7_count_104 : decode cX7_count 104 = .ok (.aload_n 0, 1) := by decide +kernel
theorem dX7_count_105 : decode cX7_count 105 = .ok (.getfield 10, 3) := by decide +kernel
theorem dX7_count_108 : decode cX7_count 108 = .ok (.getfield 133, 3) := by decide +kernel
theorem dX7_count_111 : decode cX7_count 111 = .ok (.l2i, 1) := by decide +kernel
theorem dX7_count_112 : decode cX7_count 112 = .ok (.ireturn, 1) := by decide +kernel
theorem dX7_count_113 : decode cX7_count 113 = .ok (.aload_n 0, 1) := by decide +kernel
theorem dX7_count_114 : decode cX7_count 114 = .ok (.getfield 10, 3) := by decide +kernel
theorem dX7_count_117 : decode cX7_count 117 = .ok (.getfield 136, 3) := by decide +kernel
theorem dX7_count_120 : decode cX7_count 120 = .ok (.ireturn, 1) := by decide +kernel
theorem dX7_count_121 : decode cX7_count 121 = .ok (.aload_n 0, 1) := by decide +kernel
theorem dX7_count_122 : decode cX7_count 122 = .ok (.getfield 10, 3) := by decide +kernel
theorem dX7_count_125 : decode cX7_count 125 = .ok (.getfield 139, 3) := by decide +kernel
theorem dX7_count_128 : decode cX7_count 128 = .ok (.ireturn, 1) := by decide +kernel
theorem dX7_count_129 : decode cX7_count 129 = .ok (.aload_n 0, 1) := by decide +kernel
theorem dX7_count_130 : decode cX7_count 130 = .ok (.getfield 10, 3) := by decide +kernel
theorem dX7_count_133 : decode cX7_count 133 = .ok (.invokevirtual 142, 3) := by decide +kernel
theorem dX7_count_136 : decode cX7_count 136 = .ok (.l2i, 1) := by decide +kernel
theorem dX7_count_137 : decode cX7_count 137 = .ok (.ireturn, 1) := by decide +kernel
theorem dX7_count_138 : decode cX7_count 138 = .ok (.aload_n 0, 1) := by decide +kernel
theorem dX7_count_139 : decode cX7_count 139 = .ok (.getfield 10, 3) := by decide +kernel
theorem dX7_count_142 : decode cX7_count 142 = .ok (.invokevirtual 145, 3) := by decide +kernel
theorem dX7_count_145 : decode cX7_count 145 = .ok (.l2i, 1) := by decide +kernel
theorem dX7_count_146 : decode cX7_count 146 = .ok (.ireturn, 1) := by decide +kernel
theorem dX7_count_147 : decode cX7_count 147 = .ok (.aload_n 0, 1) := by decide +kernel
theorem dX7_count_148 : decode cX7_count 148 = .ok (.getfield 10, 3) := by decide +kernel
theorem dX7_count_151 : decode cX7_count 151 = .ok (.invokevirtual 146, 3) := by decide +kernel
theorem dX7_count_154 : decode cX7_count 154 = .ok (.l2i, 1) := by decide +kernel
theorem dX7_count_155 : decode cX7_count 155 = .ok (.ireturn, 1) := by decide +kernel
theorem dX7_count_156 : decode cX7_count 156 = .ok (.aload_n 0, 1) := by decide +kernel
theorem dX7_count_157 : decode cX7_count 157 = .ok (.getfield 10, 3) := by decide +kernel
theorem dX7_count_160 : decode cX7_count 160 = .ok (.getfield 148, 3) := by decide +kernel
theorem dX7_count_163 : decode cX7_count 163 = .ok (.l2i, 1) := by decide +kernel
theorem dX7_count_164 : decode cX7_count 164 = .ok (.ireturn, 1) := by decide +kernel
theorem dX7_count_165 : decode cX7_count 165 = .ok (.aload_n 0, 1) := by decide +kernel
theorem dX7_count_166 : decode cX7_count 166 = .ok (.getfield 10, 3) := by decide +kernel
theorem dX7_count_169 : decode cX7_count 169 = .ok (.getfield 151, 3) := by decide +kernel
theorem dX7_count_172 : decode cX7_count 172 = .ok (.l2i, 1) := by decide +kernel
theorem dX7_count_173 : decode cX7_count 173 = .ok (.ireturn, 1) := by decide +kernel
theorem dX7_count_174 : decode cX7_count 174 = .ok (.aload_n 0, 1) := by decide +kernel
theorem dX7_count_175 : decode cX7_count 175 = .ok (.getfield 10, 3) := by decide +kernel
theorem dX7_count_178 : decode cX7_count 178 = .ok (.getfield 154, 3) := by decide +kernel
theorem dX7_count_181 : decode cX7_count 181 = .ok (.ireturn, 1) := by decide +kernel
theorem dX7_count_182 : decode cX7_count 182 = .ok (.aload_n 0, 1) := by decide +kernel
theorem dX7_count_183 : decode cX7_count 183 = .ok (.getfield 10, 3) := by decide +kernel
theorem dX7_count_186 : decode cX7_count 186 = .ok (.getfield 157, 3) := by decide +kernel
theorem dX7_count_189 : decode cX7_count 189 = .ok (.getfield 160, 3) := by decide +kernel
theorem dX7_count_192 : decode cX7_count 192 = .ok (.ireturn, 1) := by decide +kernel
theorem dX7_count_193 : decode cX7_count 193 = .ok (.aload_n 0, 1) := by decide +kernel
theorem dX7_count_194 : decode cX7_count 194 = .ok (.getfield 10, 3) := by decide +kernel
theorem dX7_count_197 : decode cX7_count 197 = .ok (.getfield 108, 3) := by decide +kernel
theorem dX7_count_200 : decode cX7_count 200 = .ok (.getfield 160, 3) := by decide +kernel
theorem dX7_count_203 : decode cX7_count 203 = .ok (.ireturn, 1) := by decide +kernel
theorem dX7_count_204 : decode cX7_count 204 = .ok (.aload_n 0, 1) := by decide +kernel
theorem dX7_count_205 : decode cX7_count 205 = .ok (.getfield 10, 3) := by decide +kernel
theorem dX7_count_208 : decode cX7_count 208 = .ok (.getfield 108, 3) := by decide +kernel
theorem dX7_count_211 : decode cX7_count 211 = .ok (.iconst 0, 1) := by decide +kernel
theorem dX7_count_212 : decode cX7_count 212 = .ok (.aload_n 0, 1) := by decide +kernel
theorem dX7_count_213 : decode cX7_count 213 = .ok (.getfield 10, 3) := by decide +kernel
theorem dX7_count_216 : decode cX7_count 216 = .ok (.getfield 108, 3) := by decide +kernel
theorem dX7_count_219 : decode cX7_count 219 = .ok (.getfield 160, 3) := by decide +kernel
theorem dX7_count_222 : decode cX7_count 222 = .ok (.invokevirtual 163, 3) := by decide +kernel
theorem dX7_count_225 : decode cX7_count 225 = .ok (.l2i, 1) := by decide +kernel
theorem dX7_count_226 : decode cX7_count 226 = .ok (.ireturn, 1) := by decide +kernel
theorem dX7_count_227 : decode cX7_count 227 = .ok (.aload_n 0, 1) := by decide +kernel
theorem dX7_count_228 : decode cX7_count 228 = .ok (.getfield 29, 3) := by decide +kernel
theorem dX7_count_231 : decode cX7_count 231 = .ok (.getfield 167, 3) := by decide +kernel
theorem dX7_count_234 : decode cX7_count 234 = .ok (.ireturn, 1) := by decide +kernel
theorem dX7_count_235 : decode cX7_count 235 = .ok (.aload_n 0, 1) := by decide +kernel
theorem dX7_count_236 : decode cX7_count 236 = .ok (.getfield 36, 3) := by decide +kernel
theorem dX7_count_239 : decode cX7_count 239 = .ok (.getfield 170, 3) := by decide +kernel
theorem dX7_count_242 : decode cX7_count 242 = .ok (.ireturn, 1) := by decide +kernel
theorem dX7_count_243 : decode cX7_count 243 = .ok (.aload_n 0, 1) := by decide +kernel
theorem dX7_count_244 : decode cX7_count 244 = .ok (.getfield 10, 3) := by decide +kernel
theorem dX7_count_247 : decode cX7_count 247 = .ok (.getfield 171, 3) := by decide +kernel
theorem dX7_count_250 : decode cX7_count 250 = .ok (.iload_n 1, 1) := by decide +kernel
theorem dX7_count_251 : decode cX7_count 251 = .ok (.bipush 12, 2) := by decide +kernel
theorem dX7_count_253 : decode cX7_count 253 = .ok (.isub, 1) := by decide +kernel
theorem dX7_count_254 : decode cX7_count 254 = .ok (.iaload, 1) := by decide +kernel
theorem dX7_count_255 : decode cX7_count 255 = .ok (.ireturn, 1) := by decide +kernel
theorem dX7_order_0 : decode cX7_order 0 = .ok (.iload_n 1, 1) := by decide +kernel
theorem dX7_order_1 : decode cX7_order 1 = .ok (.ifCond .lt 17, 3) := by decide +kernel
theorem dX7_order_4 : decode cX7_order 4 = .ok (.iload_n 1, 1) := by decide +kernel
theorem dX7_order_5 : decode cX7_order 5 = .ok (.iconst 1, 1) := by decide +kernel
theorem dX7_order_6 : decode cX7_order 6 = .ok (.if_icmp .gt 12, 3) := by decide +kernel
theorem dX7_order_9 : decode cX7_order 9 = .ok (.iload_n 3, 1) := by decide +kernel
theorem dX7_order_10 : decode cX7_order 10 = .ok (.ifCond .lt 8, 3) := by decide +kernel
theorem dX7_order_13 : decode cX7_order 13 = .ok (.iload_n 3, 1) := by decide +kernel
theorem dX7_order_14 : decode cX7_order 14 = .ok (.iconst 3, 1) := by decide +kernel
theorem dX7_order_15 : decode cX7_order 15 = .ok (.if_icmp .lt 6, 3) := by decide +kernel
theorem dX7_order_18 : decode cX7_order 18 = .ok (.bipush (-2), 2) := by decide +kernel
theorem dX7_order_20 : decode cX7_order 20 = .ok (.ireturn, 1) := by decide +kernel
theorem dX7_order_21 : decode cX7_order 21 = .ok (.iload_n 1, 1) := by decide +kernel
theorem dX7_order_22 : decode cX7_order 22 = .ok (.ifCond .ne 13, 3) := by decide +kernel
theorem dX7_order_25 : decode cX7_order 25 = .ok (.aload_n 0, 1) := by decide +kernel
theorem dX7_order_26 : decode cX7_order 26 = .ok (.getfield 10, 3) := by decide +kernel
theorem dX7_order_29 : decode cX7_order 29 = .ok (.getfield 157, 3) := by decide +kernel
theorem dX7_order_32 : decode cX7_order 32 = .ok (.goto 10, 3) := by decide +kernel
theorem dX7_order_35 : decode cX7_order 35 = .ok (.aload_n 0, 1) := by decide +kernel
theorem dX7_order_36 : decode cX7_order 36 = .ok (.getfield 10, 3) := by decide +kernel
theorem dX7_order_39 : decode cX7_order 39 = .ok (.getfield 108, 3) := by decide +kernel
theorem dX7_order_42 : decode cX7_order 42 = .ok (.astore 4, 2) := by decide +kernel
theorem dX7_order_44 : decode cX7_order 44 = .ok (.iload_n 2, 1) := by decide +kernel
theorem dX7_order_45 : decode cX7_order 45 = .ok (.ifCond .lt 12, 3) := by decide +kernel
theorem dX7_order_48 : decode cX7_order 48 = .ok (.iload_n 2, 1) := by decide +kernel
theorem dX7_order_49 : decode cX7_order 49 = .ok (.aload 4, 2) := by decide +kernel
theorem dX7_order_51 : decode cX7_order 51 = .ok (.getfield 160, 3) := by decide +kernel
theorem dX7_order_54 : decode cX7_order 54 = .ok (.if_icmp .lt 5, 3) := by decide +kernel
theorem dX7_order_57 : decode cX7_order 57 = .ok (.iconst (-1), 1) := by decide +kernel
theorem dX7_order_58 : decode cX7_order 58 = .ok (.ireturn, 1) := by decide +kernel
theorem dX7_order_59 : decode cX7_order 59 = .ok (.iload_n 3, 1) := by decide +kernel
theorem dX7_order_60 : decode cX7_order 60 = .ok (.lookupswitch 44 #[(0, 28), (1, 36)], 28) := by decide +kernel
theorem dX7_order_88 : decode cX7_order 88 = .ok (.aload 4, 2) := by decide +kernel
theorem dX7_order_90 : decode cX7_order 90 = .ok (.getfield 175, 3) := by decide +kernel
theorem dX7_order_93 : decode cX7_order 93 = .ok (.iload_n 2, 1) := by decide +kernel
theorem dX7_order_94 : decode cX7_order 94 = .ok (.iaload, 1) := by decide +kernel
theorem dX7_order_95 : decode cX7_order 95 = .ok (.ireturn, 1) := by decide +kernel
theorem dX7_order_96 : decode cX7_order 96 = .ok (.aload 4, 2) := by decide +kernel
theorem dX7_order_98 : decode cX7_order 98 = .ok (.getfield 177, 3) := by decide +kernel
theorem dX7_order_101 : decode cX7_order 101 = .ok (.iload_n 2, 1) := by decide +kernel
theorem dX7_order_102 : decode cX7_order 102 = .ok (.iaload, 1) := by decide +kernel
theorem dX7_order_103 : decode cX7_order 103 = .ok (.ireturn, 1) := by decide +kernel
theorem dX7_order_104 : decode cX7_order 104 = .ok (.aload 4, 2) := by decide +kernel
theorem dX7_order_106 : decode cX7_order 106 = .ok (.getfield 180, 3) := by decide +kernel
theorem dX7_order_109 : decode cX7_order 109 = .ok (.iload_n 2, 1) := by decide +kernel
theorem dX7_order_110 : decode cX7_order 110 = .ok (.iaload, 1) := by decide +kernel
theorem dX7_order_111 : decode cX7_order 111 = .ok (.ireturn, 1) := by decide +kernel
theorem dX7_lastDay_0 : decode cX7_lastDay 0 = .ok (.iload_n 1, 1) := by decide +kernel
theorem dX7_lastDay_1 : decode cX7_lastDay 1 = .ok (.ifCond .lt 9, 3) := by decide +kernel
theorem dX7_lastDay_4 : decode cX7_lastDay 4 = .ok (.iload_n 1, 1) := by decide +kernel
theorem dX7_lastDay_5 : decode cX7_lastDay 5 = .ok (.bipush 6, 2) := by decide +kernel
theorem dX7_lastDay_7 : decode cX7_lastDay 7 = .ok (.if_icmp .lt 6, 3) := by decide +kernel
theorem dX7_lastDay_10 : decode cX7_lastDay 10 = .ok (.bipush (-2), 2) := by decide +kernel
theorem dX7_lastDay_12 : decode cX7_lastDay 12 = .ok (.ireturn, 1) := by decide +kernel
theorem dX7_lastDay_13 : decode cX7_lastDay 13 = .ok (.aload_n 0, 1) := by decide +kernel
theorem dX7_lastDay_14 : decode cX7_lastDay 14 = .ok (.getfield 10, 3) := by decide +kernel
theorem dX7_lastDay_17 : decode cX7_lastDay 17 = .ok (.getfield 183, 3) := by decide +kernel
theorem dX7_lastDay_20 : decode cX7_lastDay 20 = .ok (.astore_n 2, 1) := by decide +kernel
theorem dX7_lastDay_21 : decode cX7_lastDay 21 = .ok (.aload_n 2, 1) := by decide +kernel
theorem dX7_lastDay_22 : decode cX7_lastDay 22 = .ok (.getfield 187, 3) := by decide +kernel
theorem dX7_lastDay_25 : decode cX7_lastDay 25 = .ok (.ifCond .ne 6, 3) := by decide +kernel
theorem dX7_lastDay_28 : decode cX7_lastDay 28 = .ok (.bipush (-6), 2) := by decide +kernel
theorem dX7_lastDay_30 : decode cX7_lastDay 30 = .ok (.ireturn, 1) := by decide +kernel
theorem dX7_lastDay_31 : decode cX7_lastDay 31 = .ok (.iload_n 1, 1) := by decide +kernel
theorem dX7_lastDay_32 : decode cX7_lastDay 32 = .ok (.tableswitch 66 0 4 #[36, 42, 48, 53, 60], 36) := by decide +kernel
theorem dX7_lastDay_68 : decode cX7_lastDay 68 = .ok (.aload_n 2, 1) := by decide +kernel
theorem dX7_lastDay_69 : decode cX7_lastDay 69 = .ok (.getfield 193, 3) := by decide +kernel
theorem dX7_lastDay_72 : decode cX7_lastDay 72 = .ok (.l2i, 1) := by decide +kernel
theorem dX7_lastDay_73 : decode cX7_lastDay 73 = .ok (.ireturn, 1) := by decide +kernel
theorem dX7_lastDay_74 : decode cX7_lastDay 74 = .ok (.aload_n 2, 1) := by decide +kernel
theorem dX7_lastDay_75 : decode cX7_lastDay 75 = .ok (.getfield 196, 3) := by decide +kernel
theorem dX7_lastDay_78 : decode cX7_lastDay 78 = .ok (.l2i, 1) := by decide +kernel
theorem dX7_lastDay_79 : decode cX7_lastDay 79 = .ok (.ireturn, 1) := by decide +kernel
theorem dX7_lastDay_80 : decode cX7_lastDay 80 = .ok (.aload_n 2, 1) := by decide +kernel
theorem dX7_lastDay_81 : decode cX7_lastDay 81 = .ok (.getfield 199, 3) := by decide +kernel
theorem dX7_lastDay_84 : decode cX7_lastDay 84 = .ok (.ireturn, 1) := by decide +kernel
theorem dX7_lastDay_85 : decode cX7_lastDay 85 = .ok (.aload_n 2, 1) := by decide +kernel
theorem dX7_lastDay_86 : decode cX7_lastDay 86 = .ok (.getfield 202, 3) := by decide +kernel
theorem dX7_lastDay_89 : decode cX7_lastDay 89 = .ok (.iconst 2, 1) := by decide +kernel
theorem dX7_lastDay_90 : decode cX7_lastDay 90 = .ok (.iadd, 1) := by decide +kernel
theorem dX7_lastDay_91 : decode cX7_lastDay 91 = .ok (.ireturn, 1) := by decide +kernel
theorem dX7_lastDay_92 : decode cX7_lastDay 92 = .ok (.aload_n 2, 1) := by decide +kernel
theorem dX7_lastDay_93 : decode cX7_lastDay 93 = .ok (.getfield 205, 3) := by decide +kernel
theorem dX7_lastDay_96 : decode cX7_lastDay 96 = .ok (.l2i, 1) := by decide +kernel
theorem dX7_lastDay_97 : decode cX7_lastDay 97 = .ok (.ireturn, 1) := by decide +kernel
theorem dX7_lastDay_98 : decode cX7_lastDay 98 = .ok (.aload_n 2, 1) := by decide +kernel
theorem dX7_lastDay_99 : decode cX7_lastDay 99 = .ok (.getfield 208, 3) := by decide +kernel
theorem dX7_lastDay_102 : decode cX7_lastDay 102 = .ok (.l2i, 1) := by decide +kernel
theorem dX7_lastDay_103 : decode cX7_lastDay 103 = .ok (.ireturn, 1) := by decide +kernel
theorem dX7_price_0 : decode cX7_price 0 = .ok (.iload_n 1, 1) := by decide +kernel
theorem dX7_price_1 : decode cX7_price 1 = .ok (.ifCond .lt 8, 3) := by decide +kernel
theorem dX7_price_4 : decode cX7_price 4 = .ok (.iload_n 1, 1) := by decide +kernel
theorem dX7_price_5 : decode cX7_price 5 = .ok (.iconst 4, 1) := by decide +kernel
theorem dX7_price_6 : decode cX7_price 6 = .ok (.if_icmp .lt 7, 3) := by decide +kernel
theorem dX7_price_9 : decode cX7_price 9 = .ok (.ldc2_w 211, 3) := by decide +kernel
theorem dX7_price_12 : decode cX7_price 12 = .ok (.lreturn, 1) := by decide +kernel
theorem dX7_price_13 : decode cX7_price 13 = .ok (.iload_n 1, 1) := by decide +kernel
theorem dX7_price_14 : decode cX7_price 14 = .ok (.tableswitch 76 0 2 #[26, 34, 46], 26) := by decide +kernel
theorem dX7_price_40 : decode cX7_price 40 = .ok (.aload_n 0, 1) := by decide +kernel
theorem dX7_price_41 : decode cX7_price 41 = .ok (.getfield 10, 3) := by decide +kernel
theorem dX7_price_44 : decode cX7_price 44 = .ok (.invokevirtual 213, 3) := by decide +kernel
theorem dX7_price_47 : decode cX7_price 47 = .ok (.lreturn, 1) := by decide +kernel
theorem dX7_price_48 : decode cX7_price 48 = .ok (.aload_n 0, 1) := by decide +kernel
theorem dX7_price_49 : decode cX7_price 49 = .ok (.getfield 22, 3) := by decide +kernel
theorem dX7_price_52 : decode cX7_price 52 = .ok (.aload_n 0, 1) := by decide +kernel
theorem dX7_price_53 : decode cX7_price 53 = .ok (.getfield 10, 3) := by decide +kernel
theorem dX7_price_56 : decode cX7_price 56 = .ok (.invokevirtual 216, 3) := by decide +kernel
theorem dX7_price_59 : decode cX7_price 59 = .ok (.lreturn, 1) := by decide +kernel
theorem dX7_price_60 : decode cX7_price 60 = .ok (.aload_n 0, 1) := by decide +kernel
theorem dX7_price_61 : decode cX7_price 61 = .ok (.getfield 10, 3) := by decide +kernel
theorem dX7_price_64 : decode cX7_price 64 = .ok (.getfield 183, 3) := by decide +kernel
theorem dX7_price_67 : decode cX7_price 67 = .ok (.getfield 187, 3) := by decide +kernel
theorem dX7_price_70 : decode cX7_price 70 = .ok (.ifCond .eq 16, 3) := by decide +kernel
theorem dX7_price_73 : decode cX7_price 73 = .ok (.aload_n 0, 1) := by decide +kernel
theorem dX7_price_74 : decode cX7_price 74 = .ok (.getfield 10, 3) := by decide +kernel
theorem dX7_price_77 : decode cX7_price 77 = .ok (.getfield 183, 3) := by decide +kernel
theorem dX7_price_80 : decode cX7_price 80 = .ok (.getfield 220, 3) := by decide +kernel
theorem dX7_price_83 : decode cX7_price 83 = .ok (.goto 6, 3) := by decide +kernel
theorem dX7_price_86 : decode cX7_price 86 = .ok (.ldc2_w 223, 3) := by decide +kernel
theorem dX7_price_89 : decode cX7_price 89 = .ok (.lreturn, 1) := by decide +kernel
theorem dX7_price_90 : decode cX7_price 90 = .ok (.aload_n 0, 1) := by decide +kernel
theorem dX7_price_91 : decode cX7_price 91 = .ok (.getfield 10, 3) := by decide +kernel
theorem dX7_price_94 : decode cX7_price 94 = .ok (.invokevirtual 225, 3) := by decide +kernel
theorem dX7_price_97 : decode cX7_price 97 = .ok (.lreturn, 1) := by decide +kernel
theorem dX7_exitIn_0 : decode cX7_exitIn 0 = .ok (.iload_n 1, 1) := by decide +kernel
theorem dX7_exitIn_1 : decode cX7_exitIn 1 = .ok (.invokestatic 87, 3) := by decide +kernel
theorem dX7_exitIn_4 : decode cX7_exitIn 4 = .ok (.ifCond .ne 5, 3) := by decide +kernel
theorem dX7_exitIn_7 : decode cX7_exitIn 7 = .ok (.iconst (-1), 1) := by decide +kernel
theorem dX7_exitIn_8 : decode cX7_exitIn 8 = .ok (.ireturn, 1) := by decide +kernel
theorem dX7_exitIn_9 : decode cX7_exitIn 9 = .ok (.aload_n 0, 1) := by decide +kernel
theorem dX7_exitIn_10 : decode cX7_exitIn 10 = .ok (.getfield 16, 3) := by decide +kernel
theorem dX7_exitIn_13 : decode cX7_exitIn 13 = .ok (.aload_n 0, 1) := by decide +kernel
theorem dX7_exitIn_14 : decode cX7_exitIn 14 = .ok (.getfield 10, 3) := by decide +kernel
theorem dX7_exitIn_17 : decode cX7_exitIn 17 = .ok (.invokevirtual 228, 3) := by decide +kernel
theorem dX7_exitIn_20 : decode cX7_exitIn 20 = .ok (.iconst 0, 1) := by decide +kernel
theorem dX7_exitIn_21 : decode cX7_exitIn 21 = .ok (.istore_n 2, 1) := by decide +kernel
theorem dX7_exitIn_22 : decode cX7_exitIn 22 = .ok (.iload_n 2, 1) := by decide +kernel
theorem dX7_exitIn_23 : decode cX7_exitIn 23 = .ok (.bipush 60, 2) := by decide +kernel
theorem dX7_exitIn_25 : decode cX7_exitIn 25 = .ok (.if_icmp .gt 39, 3) := by decide +kernel
theorem dX7_exitIn_28 : decode cX7_exitIn 28 = .ok (.aload_n 0, 1) := by decide +kernel
theorem dX7_exitIn_29 : decode cX7_exitIn 29 = .ok (.getfield 16, 3) := by decide +kernel
theorem dX7_exitIn_32 : decode cX7_exitIn 32 = .ok (.getfield 108, 3) := by decide +kernel
theorem dX7_exitIn_35 : decode cX7_exitIn 35 = .ok (.iload_n 1, 1) := by decide +kernel
theorem dX7_exitIn_36 : decode cX7_exitIn 36 = .ok (.invokevirtual 112, 3) := by decide +kernel
theorem dX7_exitIn_39 : decode cX7_exitIn 39 = .ok (.lconst 0, 1) := by decide +kernel
theorem dX7_exitIn_40 : decode cX7_exitIn 40 = .ok (.lcmp, 1) := by decide +kernel
theorem dX7_exitIn_41 : decode cX7_exitIn 41 = .ok (.ifCond .ne 5, 3) := by decide +kernel
theorem dX7_exitIn_44 : decode cX7_exitIn 44 = .ok (.iload_n 2, 1) := by decide +kernel
theorem dX7_exitIn_45 : decode cX7_exitIn 45 = .ok (.ireturn, 1) := by decide +kernel
theorem dX7_exitIn_46 : decode cX7_exitIn 46 = .ok (.aload_n 0, 1) := by decide +kernel
theorem dX7_exitIn_47 : decode cX7_exitIn 47 = .ok (.getfield 22, 3) := by decide +kernel
theorem dX7_exitIn_50 : decode cX7_exitIn 50 = .ok (.aload_n 0, 1) := by decide +kernel
theorem dX7_exitIn_51 : decode cX7_exitIn 51 = .ok (.getfield 16, 3) := by decide +kernel
theorem dX7_exitIn_54 : decode cX7_exitIn 54 = .ok (.invokevirtual 70, 3) := by decide +kernel
theorem dX7_exitIn_57 : decode cX7_exitIn 57 = .ok (.pop, 1) := by decide +kernel
theorem dX7_exitIn_58 : decode cX7_exitIn 58 = .ok (.iinc 2 1, 3) := by decide +kernel
theorem dX7_exitIn_61 : decode cX7_exitIn 61 = .ok (.goto (-39), 3) := by decide +kernel
theorem dX7_exitIn_64 : decode cX7_exitIn 64 = .ok (.bipush (-6), 2) := by decide +kernel
theorem dX7_exitIn_66 : decode cX7_exitIn 66 = .ok (.ireturn, 1) := by decide +kernel
theorem dX7_fairSwing_0 : decode cX7_fairSwing 0 = .ok (.aload_n 0, 1) := by decide +kernel
theorem dX7_fairSwing_1 : decode cX7_fairSwing 1 = .ok (.getfield 10, 3) := by decide +kernel
theorem dX7_fairSwing_4 : decode cX7_fairSwing 4 = .ok (.invokevirtual 213, 3) := by decide +kernel
theorem dX7_fairSwing_7 : decode cX7_fairSwing 7 = .ok (.lstore_n 1, 1) := by decide +kernel
theorem dX7_fairSwing_8 : decode cX7_fairSwing 8 = .ok (.iconst 0, 1) := by decide +kernel
theorem dX7_fairSwing_9 : decode cX7_fairSwing 9 = .ok (.istore_n 3, 1) := by decide +kernel
theorem dX7_fairSwing_10 : decode cX7_fairSwing 10 = .ok (.iload_n 3, 1) := by decide +kernel
theorem dX7_fairSwing_11 : decode cX7_fairSwing 11 = .ok (.bipush 100, 2) := by decide +kernel
theorem dX7_fairSwing_13 : decode cX7_fairSwing 13 = .ok (.if_icmp .gt 56, 3) := by decide +kernel
theorem dX7_fairSwing_16 : decode cX7_fairSwing 16 = .ok (.aload_n 0, 1) := by decide +kernel
theorem dX7_fairSwing_17 : decode cX7_fairSwing 17 = .ok (.getfield 16, 3) := by decide +kernel
theorem dX7_fairSwing_20 : decode cX7_fairSwing 20 = .ok (.aload_n 0, 1) := by decide +kernel
theorem dX7_fairSwing_21 : decode cX7_fairSwing 21 = .ok (.getfield 10, 3) := by decide +kernel
theorem dX7_fairSwing_24 : decode cX7_fairSwing 24 = .ok (.invokevirtual 228, 3) := by decide +kernel
theorem dX7_fairSwing_27 : decode cX7_fairSwing 27 = .ok (.aload_n 0, 1) := by decide +kernel
theorem dX7_fairSwing_28 : decode cX7_fairSwing 28 = .ok (.getfield 16, 3) := by decide +kernel
theorem dX7_fairSwing_31 : decode cX7_fairSwing 31 = .ok (.getfield 171, 3) := by decide +kernel
theorem dX7_fairSwing_34 : decode cX7_fairSwing 34 = .ok (.iconst 2, 1) := by decide +kernel
theorem dX7_fairSwing_35 : decode cX7_fairSwing 35 = .ok (.iload_n 3, 1) := by decide +kernel
theorem dX7_fairSwing_36 : decode cX7_fairSwing 36 = .ok (.iastore, 1) := by decide +kernel
theorem dX7_fairSwing_37 : decode cX7_fairSwing 37 = .ok (.aload_n 0, 1) := by decide +kernel
theorem dX7_fairSwing_38 : decode cX7_fairSwing 38 = .ok (.getfield 22, 3) := by decide +kernel
theorem dX7_fairSwing_41 : decode cX7_fairSwing 41 = .ok (.aload_n 0, 1) := by decide +kernel
theorem dX7_fairSwing_42 : decode cX7_fairSwing 42 = .ok (.getfield 16, 3) := by decide +kernel
theorem dX7_fairSwing_45 : decode cX7_fairSwing 45 = .ok (.invokevirtual 70, 3) := by decide +kernel
theorem dX7_fairSwing_48 : decode cX7_fairSwing 48 = .ok (.pop, 1) := by decide +kernel
theorem dX7_fairSwing_49 : decode cX7_fairSwing 49 = .ok (.aload_n 0, 1) := by decide +kernel
theorem dX7_fairSwing_50 : decode cX7_fairSwing 50 = .ok (.getfield 16, 3) := by decide +kernel
theorem dX7_fairSwing_53 : decode cX7_fairSwing 53 = .ok (.invokevirtual 213, 3) := by decide +kernel
theorem dX7_fairSwing_56 : decode cX7_fairSwing 56 = .ok (.lload_n 1, 1) := by decide +kernel
theorem dX7_fairSwing_57 : decode cX7_fairSwing 57 = .ok (.lcmp, 1) := by decide +kernel
theorem dX7_fairSwing_58 : decode cX7_fairSwing 58 = .ok (.ifCond .lt 5, 3) := by decide +kernel
theorem dX7_fairSwing_61 : decode cX7_fairSwing 61 = .ok (.iload_n 3, 1) := by decide +kernel
theorem dX7_fairSwing_62 : decode cX7_fairSwing 62 = .ok (.ireturn, 1) := by decide +kernel
theorem dX7_fairSwing_63 : decode cX7_fairSwing 63 = .ok (.iinc 3 1, 3) := by decide +kernel
theorem dX7_fairSwing_66 : decode cX7_fairSwing 66 = .ok (.goto (-56), 3) := by decide +kernel
theorem dX7_fairSwing_69 : decode cX7_fairSwing 69 = .ok (.bipush (-6), 2) := by decide +kernel
theorem dX7_fairSwing_71 : decode cX7_fairSwing 71 = .ok (.ireturn, 1) := by decide +kernel
theorem dX7_put_0 : decode cX7_put 0 = .ok (.lload_n 1, 1) := by decide +kernel
theorem dX7_put_1 : decode cX7_put 1 = .ok (.invokestatic 231, 3) := by decide +kernel
theorem dX7_put_4 : decode cX7_put 4 = .ok (.istore_n 3, 1) := by decide +kernel
theorem dX7_put_5 : decode cX7_put 5 = .ok (.iload_n 3, 1) := by decide +kernel
theorem dX7_put_6 : decode cX7_put 6 = .ok (.ifCond .ne 6, 3) := by decide +kernel
theorem dX7_put_9 : decode cX7_put 9 = .ok (.bipush (-2), 2) := by decide +kernel
theorem dX7_put_11 : decode cX7_put 11 = .ok (.ireturn, 1) := by decide +kernel
theorem dX7_put_12 : decode cX7_put 12 = .ok (.aload_n 0, 1) := by decide +kernel
theorem dX7_put_13 : decode cX7_put 13 = .ok (.getfield 29, 3) := by decide +kernel
theorem dX7_put_16 : decode cX7_put 16 = .ok (.getfield 167, 3) := by decide +kernel
theorem dX7_put_19 : decode cX7_put 19 = .ok (.iload_n 3, 1) := by decide +kernel
theorem dX7_put_20 : decode cX7_put 20 = .ok (.iadd, 1) := by decide +kernel
theorem dX7_put_21 : decode cX7_put 21 = .ok (.bipush 80, 2) := by decide +kernel
theorem dX7_put_23 : decode cX7_put 23 = .ok (.if_icmp .le 6, 3) := by decide +kernel
theorem dX7_put_26 : decode cX7_put 26 = .ok (.bipush (-4), 2) := by decide +kernel
theorem dX7_put_28 : decode cX7_put 28 = .ok (.ireturn, 1) := by decide +kernel
theorem dX7_put_29 : decode cX7_put 29 = .ok (.aload_n 0, 1) := by decide +kernel
theorem dX7_put_30 : decode cX7_put 30 = .ok (.getfield 29, 3) := by decide +kernel
theorem dX7_put_33 : decode cX7_put 33 = .ok (.lload_n 1, 1) := by decide +kernel
theorem dX7_put_34 : decode cX7_put 34 = .ok (.iload_n 3, 1) := by decide +kernel
theorem dX7_put_35 : decode cX7_put 35 = .ok (.invokevirtual 235, 3) := by decide +kernel
theorem dX7_put_38 : decode cX7_put 38 = .ok (.aload_n 0, 1) := by decide +kernel
theorem dX7_put_39 : decode cX7_put 39 = .ok (.getfield 29, 3) := by decide +kernel
theorem dX7_put_42 : decode cX7_put 42 = .ok (.getfield 167, 3) := by decide +kernel
theorem dX7_put_45 : decode cX7_put 45 = .ok (.ireturn, 1) := by decide +kernel
theorem dX7_wipe_0 : decode cX7_wipe 0 = .ok (.aload_n 0, 1) := by decide +kernel
theorem dX7_wipe_1 : decode cX7_wipe 1 = .ok (.getfield 29, 3) := by decide +kernel
theorem dX7_wipe_4 : decode cX7_wipe 4 = .ok (.invokevirtual 239, 3) := by decide +kernel
theorem dX7_wipe_7 : decode cX7_wipe 7 = .ok (.ireturn, 1) := by decide +kernel
theorem dX7_fault_0 : decode cX7_fault 0 = .ok (.aload_n 0, 1) := by decide +kernel
theorem dX7_fault_1 : decode cX7_fault 1 = .ok (.getfield 29, 3) := by decide +kernel
theorem dX7_fault_4 : decode cX7_fault 4 = .ok (.invokevirtual 242, 3) := by decide +kernel
theorem dX7_fault_7 : decode cX7_fault 7 = .ok (.ireturn, 1) := by decide +kernel
theorem dX7_carryOut_0 : decode cX7_carryOut 0 = .ok (.aload_n 0, 1) := by decide +kernel
theorem dX7_carryOut_1 : decode cX7_carryOut 1 = .ok (.getfield 29, 3) := by decide +kernel
theorem dX7_carryOut_4 : decode cX7_carryOut 4 = .ok (.invokevirtual 242, 3) := by decide +kernel
theorem dX7_carryOut_7 : decode cX7_carryOut 7 = .ok (.bipush (-6), 2) := by decide +kernel
theorem dX7_carryOut_9 : decode cX7_carryOut 9 = .ok (.if_icmp .eq 6, 3) := by decide +kernel
theorem dX7_carryOut_12 : decode cX7_carryOut 12 = .ok (.bipush (-3), 2) := by decide +kernel
theorem dX7_carryOut_14 : decode cX7_carryOut 14 = .ok (.ireturn, 1) := by decide +kernel
theorem dX7_carryOut_15 : decode cX7_carryOut 15 = .ok (.aload_n 0, 1) := by decide +kernel
theorem dX7_carryOut_16 : decode cX7_carryOut 16 = .ok (.getfield 36, 3) := by decide +kernel
theorem dX7_carryOut_19 : decode cX7_carryOut 19 = .ok (.aload_n 0, 1) := by decide +kernel
theorem dX7_carryOut_20 : decode cX7_carryOut 20 = .ok (.getfield 10, 3) := by decide +kernel
theorem dX7_carryOut_23 : decode cX7_carryOut 23 = .ok (.invokevirtual 48, 3) := by decide +kernel
theorem dX7_carryOut_26 : decode cX7_carryOut 26 = .ok (.aload_n 0, 1) := by decide +kernel
theorem dX7_carryOut_27 : decode cX7_carryOut 27 = .ok (.invokevirtual 245, 3) := by decide +kernel
theorem dX7_carryOut_30 : decode cX7_carryOut 30 = .ok (.istore_n 1, 1) := by decide +kernel
theorem dX7_carryOut_31 : decode cX7_carryOut 31 = .ok (.aload_n 0, 1) := by decide +kernel
theorem dX7_carryOut_32 : decode cX7_carryOut 32 = .ok (.getfield 29, 3) := by decide +kernel
theorem dX7_carryOut_35 : decode cX7_carryOut 35 = .ok (.invokevirtual 239, 3) := by decide +kernel
theorem dX7_carryOut_38 : decode cX7_carryOut 38 = .ok (.pop, 1) := by decide +kernel
theorem dX7_carryOut_39 : decode cX7_carryOut 39 = .ok (.aload_n 0, 1) := by decide +kernel
theorem dX7_carryOut_40 : decode cX7_carryOut 40 = .ok (.getfield 36, 3) := by decide +kernel
theorem dX7_carryOut_43 : decode cX7_carryOut 43 = .ok (.iload_n 1, 1) := by decide +kernel
theorem dX7_carryOut_44 : decode cX7_carryOut 44 = .ok (.invokevirtual 56, 3) := by decide +kernel
theorem dX7_carryOut_47 : decode cX7_carryOut 47 = .ok (.ireturn, 1) := by decide +kernel
theorem dX7_undo_0 : decode cX7_undo 0 = .ok (.aload_n 0, 1) := by decide +kernel
theorem dX7_undo_1 : decode cX7_undo 1 = .ok (.getfield 36, 3) := by decide +kernel
theorem dX7_undo_4 : decode cX7_undo 4 = .ok (.getfield 170, 3) := by decide +kernel
theorem dX7_undo_7 : decode cX7_undo 7 = .ok (.ifCond .ne 6, 3) := by decide +kernel
theorem dX7_undo_10 : decode cX7_undo 10 = .ok (.bipush (-5), 2) := by decide +kernel
theorem dX7_undo_12 : decode cX7_undo 12 = .ok (.ireturn, 1) := by decide +kernel
theorem dX7_undo_13 : decode cX7_undo 13 = .ok (.aload_n 0, 1) := by decide +kernel
theorem dX7_undo_14 : decode cX7_undo 14 = .ok (.getfield 36, 3) := by decide +kernel
theorem dX7_undo_17 : decode cX7_undo 17 = .ok (.aload_n 0, 1) := by decide +kernel
theorem dX7_undo_18 : decode cX7_undo 18 = .ok (.getfield 10, 3) := by decide +kernel
theorem dX7_undo_21 : decode cX7_undo 21 = .ok (.invokevirtual 248, 3) := by decide +kernel
theorem dX7_undo_24 : decode cX7_undo 24 = .ok (.aload_n 0, 1) := by decide +kernel
theorem dX7_undo_25 : decode cX7_undo 25 = .ok (.getfield 36, 3) := by decide +kernel
theorem dX7_undo_28 : decode cX7_undo 28 = .ok (.getfield 170, 3) := by decide +kernel
theorem dX7_undo_31 : decode cX7_undo 31 = .ok (.ireturn, 1) := by decide +kernel
theorem dX7_save_0 : decode cX7_save 0 = .ok (.iload_n 1, 1) := by decide +kernel
theorem dX7_save_1 : decode cX7_save 1 = .ok (.ifCond .lt 8, 3) := by decide +kernel
theorem dX7_save_4 : decode cX7_save 4 = .ok (.iload_n 1, 1) := by decide +kernel
theorem dX7_save_5 : decode cX7_save 5 = .ok (.iconst 2, 1) := by decide +kernel
theorem dX7_save_6 : decode cX7_save 6 = .ok (.if_icmp .lt 6, 3) := by decide +kernel
theorem dX7_save_9 : decode cX7_save 9 = .ok (.bipush (-2), 2) := by decide +kernel
theorem dX7_save_11 : decode cX7_save 11 = .ok (.ireturn, 1) := by decide +kernel
theorem dX7_save_12 : decode cX7_save 12 = .ok (.aload_n 0, 1) := by decide +kernel
theorem dX7_save_13 : decode cX7_save 13 = .ok (.getfield 40, 3) := by decide +kernel
theorem dX7_save_16 : decode cX7_save 16 = .ok (.iload_n 1, 1) := by decide +kernel
theorem dX7_save_17 : decode cX7_save 17 = .ok (.aaload, 1) := by decide +kernel
theorem dX7_save_18 : decode cX7_save 18 = .ok (.aload_n 0, 1) := by decide +kernel
theorem dX7_save_19 : decode cX7_save 19 = .ok (.getfield 10, 3) := by decide +kernel
theorem dX7_save_22 : decode cX7_save 22 = .ok (.invokevirtual 228, 3) := by decide +kernel
theorem dX7_save_25 : decode cX7_save 25 = .ok (.aload_n 0, 1) := by decide +kernel
theorem dX7_save_26 : decode cX7_save 26 = .ok (.getfield 44, 3) := by decide +kernel
theorem dX7_save_29 : decode cX7_save 29 = .ok (.iload_n 1, 1) := by decide +kernel
theorem dX7_save_30 : decode cX7_save 30 = .ok (.iconst 1, 1) := by decide +kernel
theorem dX7_save_31 : decode cX7_save 31 = .ok (.bastore, 1) := by decide +kernel
theorem dX7_save_32 : decode cX7_save 32 = .ok (.aload_n 0, 1) := by decide +kernel
theorem dX7_save_33 : decode cX7_save 33 = .ok (.getfield 10, 3) := by decide +kernel
theorem dX7_save_36 : decode cX7_save 36 = .ok (.getfield 154, 3) := by decide +kernel
theorem dX7_save_39 : decode cX7_save 39 = .ok (.ireturn, 1) := by decide +kernel
theorem dX7_restore_0 : decode cX7_restore 0 = .ok (.iload_n 1, 1) := by decide +kernel
theorem dX7_restore_1 : decode cX7_restore 1 = .ok (.ifCond .lt 8, 3) := by decide +kernel
theorem dX7_restore_4 : decode cX7_restore 4 = .ok (.iload_n 1, 1) := by decide +kernel
theorem dX7_restore_5 : decode cX7_restore 5 = .ok (.iconst 2, 1) := by decide +kernel
theorem dX7_restore_6 : decode cX7_restore 6 = .ok (.if_icmp .lt 6, 3) := by decide +kernel
theorem dX7_restore_9 : decode cX7_restore 9 = .ok (.bipush (-2), 2) := by decide +kernel
theorem dX7_restore_11 : decode cX7_restore 11 = .ok (.ireturn, 1) := by decide +kernel
theorem dX7_restore_12 : decode cX7_restore 12 = .ok (.aload_n 0, 1) := by decide +kernel
theorem dX7_restore_13 : decode cX7_restore 13 = .ok (.getfield 44, 3) := by decide +kernel
theorem dX7_restore_16 : decode cX7_restore 16 = .ok (.iload_n 1, 1) := by decide +kernel
theorem dX7_restore_17 : decode cX7_restore 17 = .ok (.baload, 1) := by decide +kernel
theorem dX7_restore_18 : decode cX7_restore 18 = .ok (.ifCond .ne 6, 3) := by decide +kernel
theorem dX7_restore_21 : decode cX7_restore 21 = .ok (.bipush (-5), 2) := by decide +kernel
theorem dX7_restore_23 : decode cX7_restore 23 = .ok (.ireturn, 1) := by decide +kernel
theorem dX7_restore_24 : decode cX7_restore 24 = .ok (.aload_n 0, 1) := by decide +kernel
theorem dX7_restore_25 : decode cX7_restore 25 = .ok (.getfield 36, 3) := by decide +kernel
theorem dX7_restore_28 : decode cX7_restore 28 = .ok (.aload_n 0, 1) := by decide +kernel
theorem dX7_restore_29 : decode cX7_restore 29 = .ok (.getfield 10, 3) := by decide +kernel
theorem dX7_restore_32 : decode cX7_restore 32 = .ok (.invokevirtual 48, 3) := by decide +kernel
theorem dX7_restore_35 : decode cX7_restore 35 = .ok (.aload_n 0, 1) := by decide +kernel
theorem dX7_restore_36 : decode cX7_restore 36 = .ok (.getfield 10, 3) := by decide +kernel
theorem dX7_restore_39 : decode cX7_restore 39 = .ok (.aload_n 0, 1) := by decide +kernel
theorem dX7_restore_40 : decode cX7_restore 40 = .ok (.getfield 40, 3) := by decide +kernel
theorem dX7_restore_43 : decode cX7_restore 43 = .ok (.iload_n 1, 1) := by decide +kernel
theorem dX7_restore_44 : decode cX7_restore 44 = .ok (.aaload, 1) := by decide +kernel
theorem dX7_restore_45 : decode cX7_restore 45 = .ok (.invokevirtual 228, 3) := by decide +kernel
theorem dX7_restore_48 : decode cX7_restore 48 = .ok (.aload_n 0, 1) := by decide +kernel
theorem dX7_restore_49 : decode cX7_restore 49 = .ok (.getfield 36, 3) := by decide +kernel
theorem dX7_restore_52 : decode cX7_restore 52 = .ok (.aload_n 0, 1) := by decide +kernel
theorem dX7_restore_53 : decode cX7_restore 53 = .ok (.getfield 10, 3) := by decide +kernel
theorem dX7_restore_56 : decode cX7_restore 56 = .ok (.getfield 154, 3) := by decide +kernel
theorem dX7_restore_59 : decode cX7_restore 59 = .ok (.invokevirtual 56, 3) := by decide +kernel
theorem dX7_restore_62 : decode cX7_restore 62 = .ok (.ireturn, 1) := by decide +kernel
theorem dX7_carryOutOrders_0 : decode cX7_carryOutOrders 0 = .ok (.aload_n 0, 1) := by decide +kernel
theorem dX7_carryOutOrders_1 : decode cX7_carryOutOrders 1 = .ok (.getfield 29, 3) := by decide +kernel
theorem dX7_carryOutOrders_4 : decode cX7_carryOutOrders 4 = .ok (.invokevirtual 251, 3) := by decide +kernel
theorem dX7_carryOutOrders_7 : decode cX7_carryOutOrders 7 = .ok (.iconst 0, 1) := by decide +kernel
theorem dX7_carryOutOrders_8 : decode cX7_carryOutOrders 8 = .ok (.istore_n 1, 1) := by decide +kernel
theorem dX7_carryOutOrders_9 : decode cX7_carryOutOrders 9 = .ok (.iload_n 1, 1) := by decide +kernel
theorem dX7_carryOutOrders_10 : decode cX7_carryOutOrders 10 = .ok (.bipush 80, 2) := by decide +kernel
theorem dX7_carryOutOrders_12 : decode cX7_carryOutOrders 12 = .ok (.if_icmp .ge 44, 3) := by decide +kernel
theorem dX7_carryOutOrders_15 : decode cX7_carryOutOrders 15 = .ok (.aload_n 0, 1) := by decide +kernel
theorem dX7_carryOutOrders_16 : decode cX7_carryOutOrders 16 = .ok (.getfield 29, 3) := by decide +kernel
theorem dX7_carryOutOrders_19 : decode cX7_carryOutOrders 19 = .ok (.invokevirtual 254, 3) := by decide +kernel
theorem dX7_carryOutOrders_22 : decode cX7_carryOutOrders 22 = .ok (.ifCond .eq 10, 3) := by decide +kernel
theorem dX7_carryOutOrders_25 : decode cX7_carryOutOrders 25 = .ok (.aload_n 0, 1) := by decide +kernel
theorem dX7_carryOutOrders_26 : decode cX7_carryOutOrders 26 = .ok (.invokevirtual 258, 3) := by decide +kernel
theorem dX7_carryOutOrders_29 : decode cX7_carryOutOrders 29 = .ok (.ifCond .ge 5, 3) := by decide +kernel
theorem dX7_carryOutOrders_32 : decode cX7_carryOutOrders 32 = .ok (.iload_n 1, 1) := by decide +kernel
theorem dX7_carryOutOrders_33 : decode cX7_carryOutOrders 33 = .ok (.ireturn, 1) := by decide +kernel
theorem dX7_carryOutOrders_34 : decode cX7_carryOutOrders 34 = .ok (.aload_n 0, 1) := by decide +kernel
theorem dX7_carryOutOrders_35 : decode cX7_carryOutOrders 35 = .ok (.getfield 29, 3) := by decide +kernel
theorem dX7_carryOutOrders_38 : decode cX7_carryOutOrders 38 = .ok (.bipush 59, 2) := by decide +kernel
theorem dX7_carryOutOrders_40 : decode cX7_carryOutOrders 40 = .ok (.invokevirtual 261, 3) := by decide +kernel
theorem dX7_carryOutOrders_43 : decode cX7_carryOutOrders 43 = .ok (.ifCond .ne 7, 3) := by decide +kernel
theorem dX7_carryOutOrders_46 : decode cX7_carryOutOrders 46 = .ok (.iload_n 1, 1) := by decide +kernel
theorem dX7_carryOutOrders_47 : decode cX7_carryOutOrders 47 = .ok (.iconst 1, 1) := by decide +kernel
theorem dX7_carryOutOrders_48 : decode cX7_carryOutOrders 48 = .ok (.iadd, 1) := by decide +kernel
theorem dX7_carryOutOrders_49 : decode cX7_carryOutOrders 49 = .ok (.ireturn, 1) := by decide +kernel
theorem dX7_carryOutOrders_50 : decode cX7_carryOutOrders 50 = .ok (.iinc 1 1, 3) := by decide +kernel
theorem dX7_carryOutOrders_53 : decode cX7_carryOutOrders 53 = .ok (.goto (-44), 3) := by decide +kernel
theorem dX7_carryOutOrders_56 : decode cX7_carryOutOrders 56 = .ok (.bipush 80, 2) := by decide +kernel
theorem dX7_carryOutOrders_58 : decode cX7_carryOutOrders 58 = .ok (.ireturn, 1) := by decide +kernel
theorem dX7_carryOutOrder_0 : decode cX7_carryOutOrder 0 = .ok (.aload_n 0, 1) := by decide +kernel
theorem dX7_carryOutOrder_1 : decode cX7_carryOutOrder 1 = .ok (.getfield 29, 3) := by decide +kernel
theorem dX7_carryOutOrder_4 : decode cX7_carryOutOrder 4 = .ok (.getfield 265, 3) := by decide +kernel
theorem dX7_carryOutOrder_7 : decode cX7_carryOutOrder 7 = .ok (.lookupswitch 149 #[(98, 49), (100, 137), (105, 122), (108, 78), (113, 107)], 49) := by decide +kernel
theorem dX7_carryOutOrder_56 : decode cX7_carryOutOrder 56 = .ok (.aload_n 0, 1) := by decide +kernel
theorem dX7_carryOutOrder_57 : decode cX7_carryOutOrder 57 = .ok (.getfield 10, 3) := by decide +kernel
theorem dX7_carryOutOrder_60 : decode cX7_carryOutOrder 60 = .ok (.aload_n 0, 1) := by decide +kernel
theorem dX7_carryOutOrder_61 : decode cX7_carryOutOrder 61 = .ok (.getfield 29, 3) := by decide +kernel
theorem dX7_carryOutOrder_64 : decode cX7_carryOutOrder 64 = .ok (.getfield 269, 3) := by decide +kernel
theorem dX7_carryOutOrder_67 : decode cX7_carryOutOrder 67 = .ok (.aload_n 0, 1) := by decide +kernel
theorem dX7_carryOutOrder_68 : decode cX7_carryOutOrder 68 = .ok (.getfield 29, 3) := by decide +kernel
theorem dX7_carryOutOrder_71 : decode cX7_carryOutOrder 71 = .ok (.getfield 272, 3) := by decide +kernel
theorem dX7_carryOutOrder_74 : decode cX7_carryOutOrder 74 = .ok (.aload_n 0, 1) := by decide +kernel
theorem dX7_carryOutOrder_75 : decode cX7_carryOutOrder 75 = .ok (.getfield 29, 3) := by decide +kernel
theorem dX7_carryOutOrder_78 : decode cX7_carryOutOrder 78 = .ok (.getfield 275, 3) := by decide +kernel
theorem dX7_carryOutOrder_81 : decode cX7_carryOutOrder 81 = .ok (.invokevirtual 60, 3) := by decide +kernel
theorem dX7_carryOutOrder_84 : decode cX7_carryOutOrder 84 = .ok (.ireturn, 1) := by decide +kernel
theorem dX7_carryOutOrder_85 : decode cX7_carryOutOrder 85 = .ok (.aload_n 0, 1) := by decide +kernel
theorem dX7_carryOutOrder_86 : decode cX7_carryOutOrder 86 = .ok (.getfield 10, 3) := by decide +kernel
theorem dX7_carryOutOrder_89 : decode cX7_carryOutOrder 89 = .ok (.aload_n 0, 1) := by decide +kernel
theorem dX7_carryOutOrder_90 : decode cX7_carryOutOrder 90 = .ok (.getfield 29, 3) := by decide +kernel
theorem dX7_carryOutOrder_93 : decode cX7_carryOutOrder 93 = .ok (.getfield 269, 3) := by decide +kernel
theorem dX7_carryOutOrder_96 : decode cX7_carryOutOrder 96 = .ok (.aload_n 0, 1) := by decide +kernel
theorem dX7_carryOutOrder_97 : decode cX7_carryOutOrder 97 = .ok (.getfield 29, 3) := by decide +kernel
theorem dX7_carryOutOrder_100 : decode cX7_carryOutOrder 100 = .ok (.getfield 272, 3) := by decide +kernel
theorem dX7_carryOutOrder_103 : decode cX7_carryOutOrder 103 = .ok (.aload_n 0, 1) := by decide +kernel
theorem dX7_carryOutOrder_104 : decode cX7_carryOutOrder 104 = .ok (.getfield 29, 3) := by decide +kernel
theorem dX7_carryOutOrder_107 : decode cX7_carryOutOrder 107 = .ok (.getfield 275, 3) := by decide +kernel
theorem dX7_carryOutOrder_110 : decode cX7_carryOutOrder 110 = .ok (.invokevirtual 64, 3) := by decide +kernel
theorem dX7_carryOutOrder_113 : decode cX7_carryOutOrder 113 = .ok (.ireturn, 1) := by decide +kernel
theorem dX7_carryOutOrder_114 : decode cX7_carryOutOrder 114 = .ok (.aload_n 0, 1) := by decide +kernel
theorem dX7_carryOutOrder_115 : decode cX7_carryOutOrder 115 = .ok (.getfield 10, 3) := by decide +kernel
theorem dX7_carryOutOrder_118 : decode cX7_carryOutOrder 118 = .ok (.aload_n 0, 1) := by decide +kernel
theorem dX7_carryOutOrder_119 : decode cX7_carryOutOrder 119 = .ok (.getfield 29, 3) := by decide +kernel
theorem dX7_carryOutOrder_122 : decode cX7_carryOutOrder 122 = .ok (.getfield 272, 3) := by decide +kernel
theorem dX7_carryOutOrder_125 : decode cX7_carryOutOrder 125 = .ok (.invokevirtual 74, 3) := by decide +kernel
theorem dX7_carryOutOrder_128 : decode cX7_carryOutOrder 128 = .ok (.ireturn, 1) := by decide +kernel
theorem dX7_carryOutOrder_129 : decode cX7_carryOutOrder 129 = .ok (.aload_n 0, 1) := by decide +kernel
theorem dX7_carryOutOrder_130 : decode cX7_carryOutOrder 130 = .ok (.getfield 10, 3) := by decide +kernel
theorem dX7_carryOutOrder_133 : decode cX7_carryOutOrder 133 = .ok (.aload_n 0, 1) := by decide +kernel
theorem dX7_carryOutOrder_134 : decode cX7_carryOutOrder 134 = .ok (.getfield 29, 3) := by decide +kernel
theorem dX7_carryOutOrder_137 : decode cX7_carryOutOrder 137 = .ok (.getfield 272, 3) := by decide +kernel
theorem dX7_carryOutOrder_140 : decode cX7_carryOutOrder 140 = .ok (.invokevirtual 80, 3) := by decide +kernel
theorem dX7_carryOutOrder_143 : decode cX7_carryOutOrder 143 = .ok (.ireturn, 1) := by decide +kernel
theorem dX7_carryOutOrder_144 : decode cX7_carryOutOrder 144 = .ok (.aload_n 0, 1) := by decide +kernel
theorem dX7_carryOutOrder_145 : decode cX7_carryOutOrder 145 = .ok (.getfield 22, 3) := by decide +kernel
theorem dX7_carryOutOrder_148 : decode cX7_carryOutOrder 148 = .ok (.aload_n 0, 1) := by decide +kernel
theorem dX7_carryOutOrder_149 : decode cX7_carryOutOrder 149 = .ok (.getfield 10, 3) := by decide +kernel
theorem dX7_carryOutOrder_152 : decode cX7_carryOutOrder 152 = .ok (.invokevirtual 70, 3) := by decide +kernel
theorem dX7_carryOutOrder_155 : decode cX7_carryOutOrder 155 = .ok (.ireturn, 1) := by decide +kernel
theorem dX7_carryOutOrder_156 : decode cX7_carryOutOrder 156 = .ok (.aload_n 0, 1) := by decide +kernel
theorem dX7_carryOutOrder_157 : decode cX7_carryOutOrder 157 = .ok (.getfield 10, 3) := by decide +kernel
theorem dX7_carryOutOrder_160 : decode cX7_carryOutOrder 160 = .ok (.invokevirtual 83, 3) := by decide +kernel
theorem dX7_carryOutOrder_163 : decode cX7_carryOutOrder 163 = .ok (.ireturn, 1) := by decide +kernel
theorem dX7_isHolder_0 : decode cX7_isHolder 0 = .ok (.iload_n 0, 1) := by decide +kernel
theorem dX7_isHolder_1 : decode cX7_isHolder 1 = .ok (.ifCond .lt 13, 3) := by decide +kernel
theorem dX7_isHolder_4 : decode cX7_isHolder 4 = .ok (.iload_n 0, 1) := by decide +kernel
theorem dX7_isHolder_5 : decode cX7_isHolder 5 = .ok (.bipush 6, 2) := by decide +kernel
theorem dX7_isHolder_7 : decode cX7_isHolder 7 = .ok (.if_icmp .ge 7, 3) := by decide +kernel
theorem dX7_isHolder_10 : decode cX7_isHolder 10 = .ok (.iconst 1, 1) := by decide +kernel
theorem dX7_isHolder_11 : decode cX7_isHolder 11 = .ok (.goto 4, 3) := by decide +kernel
theorem dX7_isHolder_14 : decode cX7_isHolder 14 = .ok (.iconst 0, 1) := by decide +kernel
theorem dX7_isHolder_15 : decode cX7_isHolder 15 = .ok (.ireturn, 1) := by decide +kernel
theorem dX8_init_0 : decode cX8_init 0 = .ok (.aload_n 0, 1) := by decide +kernel
theorem dX8_init_1 : decode cX8_init 1 = .ok (.invokespecial 1, 3) := by decide +kernel
theorem dX8_init_4 : decode cX8_init 4 = .ok (.aload_n 0, 1) := by decide +kernel
theorem dX8_init_5 : decode cX8_init 5 = .ok (.sipush 183, 3) := by decide +kernel
theorem dX8_init_8 : decode cX8_init 8 = .ok (.newarray .long, 2) := by decide +kernel
theorem dX8_init_10 : decode cX8_init 10 = .ok (.putfield 7, 3) := by decide +kernel
theorem dX8_init_13 : decode cX8_init 13 = .ok (.aload_n 0, 1) := by decide +kernel
theorem dX8_init_14 : decode cX8_init 14 = .ok (.sipush 1098, 3) := by decide +kernel
theorem dX8_init_17 : decode cX8_init 17 = .ok (.newarray .long, 2) := by decide +kernel
theorem dX8_init_19 : decode cX8_init 19 = .ok (.putfield 13, 3) := by decide +kernel
theorem dX8_init_22 : decode cX8_init 22 = .ok (.aload_n 0, 1) := by decide +kernel
theorem dX8_init_23 : decode cX8_init 23 = .ok (.sipush 366, 3) := by decide +kernel
theorem dX8_init_26 : decode cX8_init 26 = .ok (.newarray .long, 2) := by decide +kernel
theorem dX8_init_28 : decode cX8_init 28 = .ok (.putfield 16, 3) := by decide +kernel
theorem dX8_init_31 : decode cX8_init 31 = .ok (.aload_n 0, 1) := by decide +kernel
theorem dX8_init_32 : decode cX8_init 32 = .ok (.iconst 2, 1) := by decide +kernel
theorem dX8_init_33 : decode cX8_init 33 = .ok (.newarray .boolean, 2) := by decide +kernel
theorem dX8_init_35 : decode cX8_init 35 = .ok (.putfield 19, 3) := by decide +kernel
theorem dX8_init_38 : decode cX8_init 38 = .ok (.aload_n 0, 1) := by decide +kernel
theorem dX8_init_39 : decode cX8_init 39 = .ok (.sipush 183, 3) := by decide +kernel
theorem dX8_init_42 : decode cX8_init 42 = .ok (.newarray .long, 2) := by decide +kernel
theorem dX8_init_44 : decode cX8_init 44 = .ok (.putfield 23, 3) := by decide +kernel
theorem dX8_init_47 : decode cX8_init 47 = .ok (.aload_n 0, 1) := by decide +kernel
theorem dX8_init_48 : decode cX8_init 48 = .ok (.bipush 20, 2) := by decide +kernel
theorem dX8_init_50 : decode cX8_init 50 = .ok (.newarray .long, 2) := by decide +kernel
theorem dX8_init_52 : decode cX8_init 52 = .ok (.putfield 26, 3) := by decide +kernel
theorem dX8_init_55 : decode cX8_init 55 = .ok (.aload_n 0, 1) := by decide +kernel
theorem dX8_init_56 : decode cX8_init 56 = .ok (.bipush 80, 2) := by decide +kernel
theorem dX8_init_58 : decode cX8_init 58 = .ok (.newarray .int, 2) := by decide +kernel
theorem dX8_init_60 : decode cX8_init 60 = .ok (.putfield 29, 3) := by decide +kernel
theorem dX8_init_63 : decode cX8_init 63 = .ok (.aload_n 0, 1) := by decide +kernel
theorem dX8_init_64 : decode cX8_init 64 = .ok (.bipush 42, 2) := by decide +kernel
theorem dX8_init_66 : decode cX8_init 66 = .ok (.newarray .int, 2) := by decide +kernel
theorem dX8_init_68 : decode cX8_init 68 = .ok (.putfield 33, 3) := by decide +kernel
theorem dX8_init_71 : decode cX8_init 71 = .ok (.aload_n 0, 1) := by decide +kernel
theorem dX8_init_72 : decode cX8_init 72 = .ok (.bipush 126, 2) := by decide +kernel
theorem dX8_init_74 : decode cX8_init 74 = .ok (.newarray .int, 2) := by decide +kernel
theorem dX8_init_76 : decode cX8_init 76 = .ok (.putfield 36, 3) := by decide +kernel
theorem dX8_init_79 : decode cX8_init 79 = .ok (.aload_n 0, 1) := by decide +kernel
theorem dX8_init_80 : decode cX8_init 80 = .ok (.getfield 7, 3) := by decide +kernel
theorem dX8_init_83 : decode cX8_init 83 = .ok (.iconst 0, 1) := by decide +kernel
theorem dX8_init_84 : decode cX8_init 84 = .ok (.ldc2_w 39, 3) := by decide +kernel
theorem dX8_init_87 : decode cX8_init 87 = .ok (.lastore, 1) := by decide +kernel
theorem dX8_init_88 : decode cX8_init 88 = .ok (.aload_n 0, 1) := by decide +kernel
theorem dX8_init_89 : decode cX8_init 89 = .ok (.getfield 7, 3) := by decide +kernel
theorem dX8_init_92 : decode cX8_init 92 = .ok (.iconst 1, 1) := by decide +kernel
theorem dX8_init_93 : decode cX8_init 93 = .ok (.ldc2_w 41, 3) := by decide +kernel
theorem dX8_init_96 : decode cX8_init 96 = .ok (.lastore, 1) := by decide +kernel
theorem dX8_init_97 : decode cX8_init 97 = .ok (.aload_n 0, 1) := by decide +kernel
theorem dX8_init_98 : decode cX8_init 98 = .ok (.getfield 7, 3) := by decide +kernel
theorem dX8_init_101 : decode cX8_init 101 = .ok (.iconst 2, 1) := by decide +kernel
theorem dX8_init_102 : decode cX8_init 102 = .ok (.ldc2_w 43, 3) := by decide +kernel
theorem dX8_init_105 : decode cX8_init 105 = .ok (.lastore, 1) := by decide +kernel
theorem dX8_init_106 : decode cX8_init 106 = .ok (.aload_n 0, 1) := by decide +kernel
theorem dX8_init_107 : decode cX8_init 107 = .ok (.getfield 7, 3) := by decide +kernel
theorem dX8_init_110 : decode cX8_init 110 = .ok (.iconst 3, 1) := by decide +kernel
theorem dX8_init_111 : decode cX8_init 111 = .ok (.ldc2_w 45, 3) := by decide +kernel
theorem dX8_init_114 : decode cX8_init 114 = .ok (.lastore, 1) := by decide +kernel
theorem dX8_init_115 : decode cX8_init 115 = .ok (.aload_n 0, 1) := by decide +kernel
theorem dX8_init_116 : decode cX8_init 116 = .ok (.getfield 7, 3) := by decide +kernel
theorem dX8_init_119 : decode cX8_init 119 = .ok (.iconst 4, 1) := by decide +kernel
theorem dX8_init_120 : decode cX8_init 120 = .ok (.ldc2_w 47, 3) := by decide +kernel
theorem dX8_init_123 : decode cX8_init 123 = .ok (.lastore, 1) := by decide +kernel
theorem dX8_init_124 : decode cX8_init 124 = .ok (.aload_n 0, 1) := by decide +kernel
theorem dX8_init_125 : decode cX8_init 125 = .ok (.getfield 7, 3) := by decide +kernel
theorem dX8_init_128 : decode cX8_init 128 = .ok (.bipush 7, 2) := by decide +kernel
theorem dX8_init_130 : decode cX8_init 130 = .ok (.ldc2_w 49, 3) := by decide +kernel
theorem dX8_init_133 : decode cX8_init 133 = .ok (.lastore, 1) := by decide +kernel
theorem dX8_init_134 : decode cX8_init 134 = .ok (.aload_n 0, 1) := by decide +kernel
theorem dX8_init_135 : decode cX8_init 135 = .ok (.getfield 7, 3) := by decide +kernel
theorem dX8_init_138 : decode cX8_init 138 = .ok (.bipush 11, 2) := by decide +kernel
theorem dX8_init_140 : decode cX8_init 140 = .ok (.ldc2_w 51, 3) := by decide +kernel
theorem dX8_init_143 : decode cX8_init 143 = .ok (.lastore, 1) := by decide +kernel
theorem dX8_init_144 : decode cX8_init 144 = .ok (.return_, 1) := by decide +kernel
theorem dX8_in_0 : decode cX8_in 0 = .ok (.lload_n 0, 1) := by decide +kernel
theorem dX8_in_1 : decode cX8_in 1 = .ok (.lload_n 2, 1) := by decide +kernel
theorem dX8_in_2 : decode cX8_in 2 = .ok (.lcmp, 1) := by decide +kernel
theorem dX8_in_3 : decode cX8_in 3 = .ok (.ifCond .lt 14, 3) := by decide +kernel
theorem dX8_in_6 : decode cX8_in 6 = .ok (.lload_n 0, 1) := by decide +kernel
theorem dX8_in_7 : decode cX8_in 7 = .ok (.lload 4, 2) := by decide +kernel
theorem dX8_in_9 : decode cX8_in 9 = .ok (.lcmp, 1) := by decide +kernel
theorem dX8_in_10 : decode cX8_in 10 = .ok (.ifCond .gt 7, 3) := by decide +kernel
theorem dX8_in_13 : decode cX8_in 13 = .ok (.iconst 1, 1) := by decide +kernel
theorem dX8_in_14 : decode cX8_in 14 = .ok (.goto 4, 3) := by decide +kernel
theorem dX8_in_17 : decode cX8_in 17 = .ok (.iconst 0, 1) := by decide +kernel
theorem dX8_in_18 : decode cX8_in 18 = .ok (.ireturn, 1) := by decide +kernel
theorem dX8_isHolder_0 : decode cX8_isHolder 0 = .ok (.iload_n 0, 1) := by decide +kernel
theorem dX8_isHolder_1 : decode cX8_isHolder 1 = .ok (.i2l, 1) := by decide +kernel
theorem dX8_isHolder_2 : decode cX8_isHolder 2 = .ok (.lconst 0, 1) := by decide +kernel
theorem dX8_isHolder_3 : decode cX8_isHolder 3 = .ok (.ldc2_w 47, 3) := by decide +kernel
theorem dX8_isHolder_6 : decode cX8_isHolder 6 = .ok (.invokestatic 53, 3) := by decide +kernel
theorem dX8_isHolder_9 : decode cX8_isHolder 9 = .ok (.ireturn, 1) := by decide +kernel
theorem dX8_of_0 : decode cX8_of 0 = .ok (.aload_n 0, 1) := by decide +kernel
theorem dX8_of_1 : decode cX8_of 1 = .ok (.getfield 7, 3) := by decide +kernel
theorem dX8_of_4 : decode cX8_of 4 = .ok (.bipush 19, 2) := by decide +kernel
theorem dX8_of_6 : decode cX8_of 6 = .ok (.bipush 7, 2) := by decide +kernel
theorem dX8_of_8 : decode cX8_of 8 = .ok (.iload_n 1, 1) := by decide +kernel
theorem dX8_of_9 : decode cX8_of 9 = .ok (.imul, 1) := by decide +kernel
theorem dX8_of_10 : decode cX8_of 10 = .ok (.iadd, 1) := by decide +kernel
theorem dX8_of_11 : decode cX8_of 11 = .ok (.iload_n 2, 1) := by decide +kernel
theorem dX8_of_12 : decode cX8_of 12 = .ok (.iadd, 1) := by decide +kernel
theorem dX8_of_13 : decode cX8_of 13 = .ok (.laload, 1) := by decide +kernel
theorem dX8_of_14 : decode cX8_of 14 = .ok (.lreturn, 1) := by decide +kernel
theorem dX8_add_0 : decode cX8_add 0 = .ok (.aload_n 0, 1) := by decide +kernel
theorem dX8_add_1 : decode cX8_add 1 = .ok (.getfield 7, 3) := by decide +kernel
theorem dX8_add_4 : decode cX8_add 4 = .ok (.bipush 19, 2) := by decide +kernel
theorem dX8_add_6 : decode cX8_add 6 = .ok (.bipush 7, 2) := by decide +kernel
theorem dX8_add_8 : decode cX8_add 8 = .ok (.iload_n 1, 1) := by decide +kernel
theorem dX8_add_9 : decode cX8_add 9 = .ok (.imul, 1) := by decide +kernel
theorem dX8_add_10 : decode cX8_add 10 = .ok (.iadd, 1) := by decide +kernel
theorem dX8_add_11 : decode cX8_add 11 = .ok (.iload_n 2, 1) := by decide +kernel
theorem dX8_add_12 : decode cX8_add 12 = .ok (.iadd, 1) := by decide +kernel
theorem dX8_add_13 : decode cX8_add 13 = .ok (.dup2, 1) := by decide +kernel
theorem dX8_add_14 : decode cX8_add 14 = .ok (.laload, 1) := by decide +kernel
theorem dX8_add_15 : decode cX8_add 15 = .ok (.lload_n 3, 1) := by decide +kernel
theorem dX8_add_16 : decode cX8_add 16 = .ok (.ladd, 1) := by decide +kernel
theorem dX8_add_17 : decode cX8_add 17 = .ok (.lastore, 1) := by decide +kernel
theorem dX8_add_18 : decode cX8_add 18 = .ok (.return_, 1) := by decide +kernel
theorem dX8_units_0 : decode cX8_units 0 = .ok (.aload_n 0, 1) := by decide +kernel
theorem dX8_units_1 : decode cX8_units 1 = .ok (.iload_n 1, 1) := by decide +kernel
theorem dX8_units_2 : decode cX8_units 2 = .ok (.iconst 0, 1) := by decide +kernel
theorem dX8_units_3 : decode cX8_units 3 = .ok (.invokevirtual 57, 3) := by decide +kernel
theorem dX8_units_6 : decode cX8_units 6 = .ok (.aload_n 0, 1) := by decide +kernel
theorem dX8_units_7 : decode cX8_units 7 = .ok (.iload_n 1, 1) := by decide +kernel
theorem dX8_units_8 : decode cX8_units 8 = .ok (.iconst 1, 1) := by decide +kernel
theorem dX8_units_9 : decode cX8_units 9 = .ok (.invokevirtual 57, 3) := by decide +kernel
theorem dX8_units_12 : decode cX8_units 12 = .ok (.ladd, 1) := by decide +kernel
theorem dX8_units_13 : decode cX8_units 13 = .ok (.lreturn, 1) := by decide +kernel
theorem dX8_keep_0 : decode cX8_keep 0 = .ok (.aload_n 0, 1) := by decide +kernel
theorem dX8_keep_1 : decode cX8_keep 1 = .ok (.getfield 61, 3) := by decide +kernel
theorem dX8_keep_4 : decode cX8_keep 4 = .ok (.bipush 6, 2) := by decide +kernel
theorem dX8_keep_6 : decode cX8_keep 6 = .ok (.if_icmp .ne 26, 3) := by decide +kernel
theorem dX8_keep_9 : decode cX8_keep 9 = .ok (.aload_n 0, 1) := by decide +kernel
theorem dX8_keep_10 : decode cX8_keep 10 = .ok (.aload_n 0, 1) := by decide +kernel
theorem dX8_keep_11 : decode cX8_keep 11 = .ok (.getfield 65, 3) := by decide +kernel
theorem dX8_keep_14 : decode cX8_keep 14 = .ok (.iconst 1, 1) := by decide +kernel
theorem dX8_keep_15 : decode cX8_keep 15 = .ok (.iadd, 1) := by decide +kernel
theorem dX8_keep_16 : decode cX8_keep 16 = .ok (.bipush 6, 2) := by decide +kernel
theorem dX8_keep_18 : decode cX8_keep 18 = .ok (.irem, 1) := by decide +kernel
theorem dX8_keep_19 : decode cX8_keep 19 = .ok (.putfield 65, 3) := by decide +kernel
theorem dX8_keep_22 : decode cX8_keep 22 = .ok (.aload_n 0, 1) := by decide +kernel
theorem dX8_keep_23 : decode cX8_keep 23 = .ok (.dup, 1) := by decide +kernel
theorem dX8_keep_24 : decode cX8_keep 24 = .ok (.getfield 61, 3) := by decide +kernel
theorem dX8_keep_27 : decode cX8_keep 27 = .ok (.iconst 1, 1) := by decide +kernel
theorem dX8_keep_28 : decode cX8_keep 28 = .ok (.isub, 1) := by decide +kernel
theorem dX8_keep_29 : decode cX8_keep 29 = .ok (.putfield 61, 3) := by decide +kernel
theorem dX8_keep_32 : decode cX8_keep 32 = .ok (.aload_n 0, 1) := by decide +kernel
theorem dX8_keep_33 : decode cX8_keep 33 = .ok (.getfield 65, 3) := by decide +kernel
theorem dX8_keep_36 : decode cX8_keep 36 = .ok (.aload_n 0, 1) := by decide +kernel
theorem dX8_keep_37 : decode cX8_keep 37 = .ok (.getfield 61, 3) := by decide +kernel
theorem dX8_keep_40 : decode cX8_keep 40 = .ok (.iadd, 1) := by decide +kernel
theorem dX8_keep_41 : decode cX8_keep 41 = .ok (.bipush 6, 2) := by decide +kernel
theorem dX8_keep_43 : decode cX8_keep 43 = .ok (.irem, 1) := by decide +kernel
theorem dX8_keep_44 : decode cX8_keep 44 = .ok (.istore_n 1, 1) := by decide +kernel
theorem dX8_keep_45 : decode cX8_keep 45 = .ok (.iconst 0, 1) := by decide +kernel
theorem dX8_keep_46 : decode cX8_keep 46 = .ok (.istore_n 2, 1) := by decide +kernel
theorem dX8_keep_47 : decode cX8_keep 47 = .ok (.iload_n 2, 1) := by decide +kernel
theorem dX8_keep_48 : decode cX8_keep 48 = .ok (.sipush 183, 3) := by decide +kernel
theorem dX8_keep_51 : decode cX8_keep 51 = .ok (.if_icmp .ge 27, 3) := by decide +kernel
theorem dX8_keep_54 : decode cX8_keep 54 = .ok (.aload_n 0, 1) := by decide +kernel
theorem dX8_keep_55 : decode cX8_keep 55 = .ok (.getfield 13, 3) := by decide +kernel
theorem dX8_keep_58 : decode cX8_keep 58 = .ok (.sipush 183, 3) := by decide +kernel
theorem dX8_keep_61 : decode cX8_keep 61 = .ok (.iload_n 1, 1) := by decide +kernel
theorem dX8_keep_62 : decode cX8_keep 62 = .ok (.imul, 1) := by decide +kernel
theorem dX8_keep_63 : decode cX8_keep 63 = .ok (.iload_n 2, 1) := by decide +kernel
theorem dX8_keep_64 : decode cX8_keep 64 = .ok (.iadd, 1) := by decide +kernel
theorem dX8_keep_65 : decode cX8_keep 65 = .ok (.aload_n 0, 1) := by decide +kernel
theorem dX8_keep_66 : decode cX8_keep 66 = .ok (.getfield 7, 3) := by decide +kernel
theorem dX8_keep_69 : decode cX8_keep 69 = .ok (.iload_n 2, 1) := by decide +kernel
theorem dX8_keep_70 : decode cX8_keep 70 = .ok (.laload, 1) := by decide +kernel
theorem dX8_keep_71 : decode cX8_keep 71 = .ok (.lastore, 1) := by decide +kernel
theorem dX8_keep_72 : decode cX8_keep 72 = .ok (.iinc 2 1, 3) := by decide +kernel
theorem dX8_keep_75 : decode cX8_keep 75 = .ok (.goto (-28), 3) := by decide +kernel
theorem dX8_keep_78 : decode cX8_keep 78 = .ok (.aload_n 0, 1) := by decide +kernel
theorem dX8_keep_79 : decode cX8_keep 79 = .ok (.dup, 1) := by decide +kernel
theorem dX8_keep_80 : decode cX8_keep 80 = .ok (.getfield 61, 3) := by decide +kernel
theorem dX8_keep_83 : decode cX8_keep 83 = .ok (.iconst 1, 1) := by decide +kernel
theorem dX8_keep_84 : decode cX8_keep 84 = .ok (.iadd, 1) := by decide +kernel
theorem dX8_keep_85 : decode cX8_keep 85 = .ok (.putfield 61, 3) := by decide +kernel
theorem dX8_keep_88 : decode cX8_keep 88 = .ok (.return_, 1) := by decide +kernel
theorem dX8_keepIf_0 : decode cX8_keepIf 0 = .ok (.iload_n 1, 1) := by decide +kernel
theorem dX8_keepIf_1 : decode cX8_keepIf 1 = .ok (.ifCond .eq 7, 3) := by decide +kernel
theorem dX8_keepIf_4 : decode cX8_keepIf 4 = .ok (.aload_n 0, 1) := by decide +kernel
theorem dX8_keepIf_5 : decode cX8_keepIf 5 = .ok (.invokevirtual 68, 3) := by decide +kernel
theorem dX8_keepIf_8 : decode cX8_keepIf 8 = .ok (.return_, 1) := by decide +kernel
theorem dX8_layAside_0 : decode cX8_layAside 0 = .ok (.iconst 0, 1) := by decide +kernel
theorem dX8_layAside_1 : decode cX8_layAside 1 = .ok (.istore_n 1, 1) := by decide +kernel
theorem dX8_layAside_2 : decode cX8_layAside 2 = .ok (.iload_n 1, 1) := by decide +kernel
theorem dX8_layAside_3 : decode cX8_layAside 3 = .ok (.sipush 183, 3) := by decide +kernel
theorem dX8_layAside_6 : decode cX8_layAside 6 = .ok (.if_icmp .ge 21, 3) := by decide +kernel
theorem dX8_layAside_9 : decode cX8_layAside 9 = .ok (.aload_n 0, 1) := by decide +kernel
theorem dX8_layAside_10 : decode cX8_layAside 10 = .ok (.getfield 23, 3) := by decide +kernel
theorem dX8_layAside_13 : decode cX8_layAside 13 = .ok (.iload_n 1, 1) := by decide +kernel
theorem dX8_layAside_14 : decode cX8_layAside 14 = .ok (.aload_n 0, 1) := by decide +kernel
theorem dX8_layAside_15 : decode cX8_layAside 15 = .ok (.getfield 7, 3) := by decide +kernel
theorem dX8_layAside_18 : decode cX8_layAside 18 = .ok (.iload_n 1, 1) := by decide +kernel
theorem dX8_layAside_19 : decode cX8_layAside 19 = .ok (.laload, 1) := by decide +kernel
theorem dX8_layAside_20 : decode cX8_layAside 20 = .ok (.lastore, 1) := by decide +kernel
theorem dX8_layAside_21 : decode cX8_layAside 21 = .ok (.iinc 1 1, 3) := by decide +kernel
theorem dX8_layAside_24 : decode cX8_layAside 24 = .ok (.goto (-22), 3) := by decide +kernel
theorem dX8_layAside_27 : decode cX8_layAside 27 = .ok (.return_, 1) := by decide +kernel
theorem dX8_layBack_0 : decode cX8_layBack 0 = .ok (.iconst 0, 1) := by decide +kernel
theorem dX8_layBack_1 : decode cX8_layBack 1 = .ok (.istore_n 1, 1) := by decide +kernel
theorem dX8_layBack_2 : decode cX8_layBack 2 = .ok (.iload_n 1, 1) := by decide +kernel
theorem dX8_layBack_3 : decode cX8_layBack 3 = .ok (.sipush 183, 3) := by decide +kernel
theorem dX8_layBack_6 : decode cX8_layBack 6 = .ok (.if_icmp .ge 21, 3) := by decide +kernel
theorem dX8_layBack_9 : decode cX8_layBack 9 = .ok (.aload_n 0, 1) := by decide +kernel
theorem dX8_layBack_10 : decode cX8_layBack 10 = .ok (.getfield 7, 3) := by decide +kernel
theorem dX8_layBack_13 : decode cX8_layBack 13 = .ok (.iload_n 1, 1) := by decide +kernel
theorem dX8_layBack_14 : decode cX8_layBack 14 = .ok (.aload_n 0, 1) := by decide +kernel
theorem dX8_layBack_15 : decode cX8_layBack 15 = .ok (.getfield 23, 3) := by decide +kernel
theorem dX8_layBack_18 : decode cX8_layBack 18 = .ok (.iload_n 1, 1) := by decide +kernel
theorem dX8_layBack_19 : decode cX8_layBack 19 = .ok (.laload, 1) := by decide +kernel
theorem dX8_layBack_20 : decode cX8_layBack 20 = .ok (.lastore, 1) := by decide +kernel
theorem dX8_layBack_21 : decode cX8_layBack 21 = .ok (.iinc 1 1, 3) := by decide +kernel
theorem dX8_layBack_24 : decode cX8_layBack 24 = .ok (.goto (-22), 3) := by decide +kernel
theorem dX8_layBack_27 : decode cX8_layBack 27 = .ok (.return_, 1) := by decide +kernel
theorem dX8_issue_0 : decode cX8_issue 0 = .ok (.lconst 0, 1) := by decide +kernel
theorem dX8_issue_1 : decode cX8_issue 1 = .ok (.lstore_n 1, 1) := by decide +kernel
theorem dX8_issue_2 : decode cX8_issue 2 = .ok (.iconst 0, 1) := by decide +kernel
theorem dX8_issue_3 : decode cX8_issue 3 = .ok (.istore_n 3, 1) := by decide +kernel
theorem dX8_issue_4 : decode cX8_issue 4 = .ok (.iload_n 3, 1) := by decide +kernel
theorem dX8_issue_5 : decode cX8_issue 5 = .ok (.bipush 6, 2) := by decide +kernel
theorem dX8_issue_7 : decode cX8_issue 7 = .ok (.if_icmp .ge 17, 3) := by decide +kernel
theorem dX8_issue_10 : decode cX8_issue 10 = .ok (.lload_n 1, 1) := by decide +kernel
theorem dX8_issue_11 : decode cX8_issue 11 = .ok (.aload_n 0, 1) := by decide +kernel
theorem dX8_issue_12 : decode cX8_issue 12 = .ok (.iload_n 3, 1) := by decide +kernel
theorem dX8_issue_13 : decode cX8_issue 13 = .ok (.invokevirtual 71, 3) := by decide +kernel
theorem dX8_issue_16 : decode cX8_issue 16 = .ok (.ladd, 1) := by decide +kernel
theorem dX8_issue_17 : decode cX8_issue 17 = .ok (.lstore_n 1, 1) := by decide +kernel
theorem dX8_issue_18 : decode cX8_issue 18 = .ok (.iinc 3 1, 3) := by decide +kernel
theorem dX8_issue_21 : decode cX8_issue 21 = .ok (.goto (-17), 3) := by decide +kernel
theorem dX8_issue_24 : decode cX8_issue 24 = .ok (.lload_n 1, 1) := by decide +kernel
theorem dX8_issue_25 : decode cX8_issue 25 = .ok (.lreturn, 1) := by decide +kernel
theorem dX8_allNew_0 : decode cX8_allNew 0 = .ok (.lconst 0, 1) := by decide +kernel
theorem dX8_allNew_1 : decode cX8_allNew 1 = .ok (.lstore_n 1, 1) := by decide +kernel
theorem dX8_allNew_2 : decode cX8_allNew 2 = .ok (.iconst 0, 1) := by decide +kernel
theorem dX8_allNew_3 : decode cX8_allNew 3 = .ok (.istore_n 3, 1) := by decide +kernel
theorem dX8_allNew_4 : decode cX8_allNew 4 = .ok (.iload_n 3, 1) := by decide +kernel
theorem dX8_allNew_5 : decode cX8_allNew 5 = .ok (.bipush 6, 2) := by decide +kernel
theorem dX8_allNew_7 : decode cX8_allNew 7 = .ok (.if_icmp .ge 18, 3) := by decide +kernel
theorem dX8_allNew_10 : decode cX8_allNew 10 = .ok (.lload_n 1, 1) := by decide +kernel
theorem dX8_allNew_11 : decode cX8_allNew 11 = .ok (.aload_n 0, 1) := by decide +kernel
theorem dX8_allNew_12 : decode cX8_allNew 12 = .ok (.iload_n 3, 1) := by decide +kernel
theorem dX8_allNew_13 : decode cX8_allNew 13 = .ok (.iconst 1, 1) := by decide +kernel
theorem dX8_allNew_14 : decode cX8_allNew 14 = .ok (.invokevirtual 57, 3) := by decide +kernel
theorem dX8_allNew_17 : decode cX8_allNew 17 = .ok (.ladd, 1) := by decide +kernel
theorem dX8_allNew_18 : decode cX8_allNew 18 = .ok (.lstore_n 1, 1) := by decide +kernel
theorem dX8_allNew_19 : decode cX8_allNew 19 = .ok (.iinc 3 1, 3) := by decide +kernel
theorem dX8_allNew_22 : decode cX8_allNew 22 = .ok (.goto (-18), 3) := by decide +kernel
theorem dX8_allNew_25 : decode cX8_allNew 25 = .ok (.lload_n 1, 1) := by decide +kernel
theorem dX8_allNew_26 : decode cX8_allNew 26 = .ok (.lreturn, 1) := by decide +kernel
theorem dX8_value_0 : decode cX8_value 0 = .ok (.aload_n 0, 1) := by decide +kernel
theorem dX8_value_1 : decode cX8_value 1 = .ok (.getfield 7, 3) := by decide +kernel
theorem dX8_value_4 : decode cX8_value 4 = .ok (.iconst 5, 1) := by decide +kernel
theorem dX8_value_5 : decode cX8_value 5 = .ok (.laload, 1) := by decide +kernel
theorem dX8_value_6 : decode cX8_value 6 = .ok (.aload_n 0, 1) := by decide +kernel
theorem dX8_value_7 : decode cX8_value 7 = .ok (.getfield 7, 3) := by decide +kernel
theorem dX8_value_10 : decode cX8_value 10 = .ok (.bipush 6, 2) := by decide +kernel
theorem dX8_value_12 : decode cX8_value 12 = .ok (.laload, 1) := by decide +kernel
theorem dX8_value_13 : decode cX8_value 13 = .ok (.aload_n 0, 1) := by decide +kernel
theorem dX8_value_14 : decode cX8_value 14 = .ok (.getfield 7, 3) := by decide +kernel
theorem dX8_value_17 : decode cX8_value 17 = .ok (.bipush 7, 2) := by decide +kernel
theorem dX8_value_19 : decode cX8_value 19 = .ok (.laload, 1) := by decide +kernel
theorem dX8_value_20 : decode cX8_value 20 = .ok (.lmul, 1) := by decide +kernel
theorem dX8_value_21 : decode cX8_value 21 = .ok (.ladd, 1) := by decide +kernel
theorem dX8_value_22 : decode cX8_value 22 = .ok (.lreturn, 1) := by decide +kernel
theorem dX8_middle_0 : decode cX8_middle 0 = .ok (.aload_n 0, 1) := by decide +kernel
theorem dX8_middle_1 : decode cX8_middle 1 = .ok (.invokevirtual 75, 3) := by decide +kernel
theorem dX8_middle_4 : decode cX8_middle 4 = .ok (.lconst 0, 1) := by decide +kernel
theorem dX8_middle_5 : decode cX8_middle 5 = .ok (.lcmp, 1) := by decide +kernel
theorem dX8_middle_6 : decode cX8_middle 6 = .ok (.ifCond .ne 9, 3) := by decide +kernel
theorem dX8_middle_9 : decode cX8_middle 9 = .ok (.ldc2_w 79, 3) := by decide +kernel
theorem dX8_middle_12 : decode cX8_middle 12 = .ok (.goto 16, 3) := by decide +kernel
theorem dX8_middle_15 : decode cX8_middle 15 = .ok (.ldc2_w 49, 3) := by decide +kernel
theorem dX8_middle_18 : decode cX8_middle 18 = .ok (.aload_n 0, 1) := by decide +kernel
theorem dX8_middle_19 : decode cX8_middle 19 = .ok (.invokevirtual 81, 3) := by decide +kernel
theorem dX8_middle_22 : decode cX8_middle 22 = .ok (.lmul, 1) := by decide +kernel
end
section
theorem dX8_middle_23 : decode cX8_middle 23 = .ok (.aload_n 0, 1) := by decide +kernel
theorem dX8_middle_24 : decode cX8_middle 24 = .ok (.invokevirtual 75, 3) := by decide +kernel
theorem dX8_middle_27 : decode cX8_middle 27 = .ok (.ldiv, 1) := by decide +kernel
theorem dX8_middle_28 : decode cX8_middle 28 = .ok (.lreturn, 1) := by decide +kernel
theorem dX8_incomeOfUnit_0 : decode cX8_incomeOfUnit 0 = .ok (.aload_n 0, 1) := by decide +kernel
theorem dX8_incomeOfUnit_1 : decode cX8_incomeOfUnit 1 = .ok (.invokevirtual 75, 3) := by decide +kernel
theorem dX8_incomeOfUnit_4 : decode cX8_incomeOfUnit 4 = .ok (.lconst 0, 1) := by decide +kernel
theorem dX8_incomeOfUnit_5 : decode cX8_incomeOfUnit 5 = .ok (.lcmp, 1) := by decide +kernel
theorem dX8_incomeOfUnit_6 : decode cX8_incomeOfUnit 6 = .ok (.ifCond .ne 7, 3) := by decide +kernel
theorem dX8_incomeOfUnit_9 : decode cX8_incomeOfUnit 9 = .ok (.lconst 0, 1) := by decide +kernel
theorem dX8_incomeOfUnit_10 : decode cX8_incomeOfUnit 10 = .ok (.goto 19, 3) := by decide +kernel
theorem dX8_incomeOfUnit_13 : decode cX8_incomeOfUnit 13 = .ok (.ldc2_w 49, 3) := by decide +kernel
theorem dX8_incomeOfUnit_16 : decode cX8_incomeOfUnit 16 = .ok (.aload_n 0, 1) := by decide +kernel
theorem dX8_incomeOfUnit_17 : decode cX8_incomeOfUnit 17 = .ok (.getfield 7, 3) := by decide +kernel
theorem dX8_incomeOfUnit_20 : decode cX8_incomeOfUnit 20 = .ok (.bipush 8, 2) := by decide +kernel
theorem dX8_incomeOfUnit_22 : decode cX8_incomeOfUnit 22 = .ok (.laload, 1) := by decide +kernel
theorem dX8_incomeOfUnit_23 : decode cX8_incomeOfUnit 23 = .ok (.lmul, 1) := by decide +kernel
theorem dX8_incomeOfUnit_24 : decode cX8_incomeOfUnit 24 = .ok (.aload_n 0, 1) := by decide +kernel
theorem dX8_incomeOfUnit_25 : decode cX8_incomeOfUnit 25 = .ok (.invokevirtual 75, 3) := by decide +kernel
theorem dX8_incomeOfUnit_28 : decode cX8_incomeOfUnit 28 = .ok (.ldiv, 1) := by decide +kernel
theorem dX8_incomeOfUnit_29 : decode cX8_incomeOfUnit 29 = .ok (.lreturn, 1) := by decide +kernel
theorem dX8_cost_0 : decode cX8_cost 0 = .ok (.aload_n 0, 1) := by decide +kernel
theorem dX8_cost_1 : decode cX8_cost 1 = .ok (.getfield 7, 3) := by decide +kernel
theorem dX8_cost_4 : decode cX8_cost 4 = .ok (.bipush 7, 2) := by decide +kernel
theorem dX8_cost_6 : decode cX8_cost 6 = .ok (.laload, 1) := by decide +kernel
theorem dX8_cost_7 : decode cX8_cost 7 = .ok (.aload_n 0, 1) := by decide +kernel
theorem dX8_cost_8 : decode cX8_cost 8 = .ok (.getfield 7, 3) := by decide +kernel
theorem dX8_cost_11 : decode cX8_cost 11 = .ok (.iconst 4, 1) := by decide +kernel
theorem dX8_cost_12 : decode cX8_cost 12 = .ok (.laload, 1) := by decide +kernel
theorem dX8_cost_13 : decode cX8_cost 13 = .ok (.lmul, 1) := by decide +kernel
theorem dX8_cost_14 : decode cX8_cost 14 = .ok (.ldc2_w 84, 3) := by decide +kernel
theorem dX8_cost_17 : decode cX8_cost 17 = .ok (.ladd, 1) := by decide +kernel
theorem dX8_cost_18 : decode cX8_cost 18 = .ok (.ldc2_w 49, 3) := by decide +kernel
theorem dX8_cost_21 : decode cX8_cost 21 = .ok (.ldiv, 1) := by decide +kernel
theorem dX8_cost_22 : decode cX8_cost 22 = .ok (.lreturn, 1) := by decide +kernel
theorem dX8_ofOrder_0 : decode cX8_ofOrder 0 = .ok (.aload_n 0, 1) := by decide +kernel
theorem dX8_ofOrder_1 : decode cX8_ofOrder 1 = .ok (.getfield 7, 3) := by decide +kernel
theorem dX8_ofOrder_4 : decode cX8_ofOrder 4 = .ok (.iload_n 1, 1) := by decide +kernel
theorem dX8_ofOrder_5 : decode cX8_ofOrder 5 = .ok (.iconst 1, 1) := by decide +kernel
theorem dX8_ofOrder_6 : decode cX8_ofOrder 6 = .ok (.iadd, 1) := by decide +kernel
theorem dX8_ofOrder_7 : decode cX8_ofOrder 7 = .ok (.iconst 3, 1) := by decide +kernel
theorem dX8_ofOrder_8 : decode cX8_ofOrder 8 = .ok (.iload_n 2, 1) := by decide +kernel
theorem dX8_ofOrder_9 : decode cX8_ofOrder 9 = .ok (.imul, 1) := by decide +kernel
theorem dX8_ofOrder_10 : decode cX8_ofOrder 10 = .ok (.iadd, 1) := by decide +kernel
theorem dX8_ofOrder_11 : decode cX8_ofOrder 11 = .ok (.iload_n 3, 1) := by decide +kernel
theorem dX8_ofOrder_12 : decode cX8_ofOrder 12 = .ok (.iadd, 1) := by decide +kernel
theorem dX8_ofOrder_13 : decode cX8_ofOrder 13 = .ok (.laload, 1) := by decide +kernel
theorem dX8_ofOrder_14 : decode cX8_ofOrder 14 = .ok (.lreturn, 1) := by decide +kernel
theorem dX8_sumOf_0 : decode cX8_sumOf 0 = .ok (.lconst 0, 1) := by decide +kernel
theorem dX8_sumOf_1 : decode cX8_sumOf 1 = .ok (.lstore 4, 2) := by decide +kernel
theorem dX8_sumOf_3 : decode cX8_sumOf 3 = .ok (.iconst 0, 1) := by decide +kernel
theorem dX8_sumOf_4 : decode cX8_sumOf 4 = .ok (.istore 6, 2) := by decide +kernel
theorem dX8_sumOf_6 : decode cX8_sumOf 6 = .ok (.iload 6, 2) := by decide +kernel
theorem dX8_sumOf_8 : decode cX8_sumOf 8 = .ok (.i2l, 1) := by decide +kernel
theorem dX8_sumOf_9 : decode cX8_sumOf 9 = .ok (.aload_n 0, 1) := by decide +kernel
theorem dX8_sumOf_10 : decode cX8_sumOf 10 = .ok (.getfield 7, 3) := by decide +kernel
theorem dX8_sumOf_13 : decode cX8_sumOf 13 = .ok (.iload_n 1, 1) := by decide +kernel
theorem dX8_sumOf_14 : decode cX8_sumOf 14 = .ok (.laload, 1) := by decide +kernel
theorem dX8_sumOf_15 : decode cX8_sumOf 15 = .ok (.lcmp, 1) := by decide +kernel
theorem dX8_sumOf_16 : decode cX8_sumOf 16 = .ok (.ifCond .ge 39, 3) := by decide +kernel
theorem dX8_sumOf_19 : decode cX8_sumOf 19 = .ok (.lload 4, 2) := by decide +kernel
theorem dX8_sumOf_21 : decode cX8_sumOf 21 = .ok (.aload_n 0, 1) := by decide +kernel
theorem dX8_sumOf_22 : decode cX8_sumOf 22 = .ok (.iload_n 1, 1) := by decide +kernel
theorem dX8_sumOf_23 : decode cX8_sumOf 23 = .ok (.iload 6, 2) := by decide +kernel
theorem dX8_sumOf_25 : decode cX8_sumOf 25 = .ok (.iconst 2, 1) := by decide +kernel
theorem dX8_sumOf_26 : decode cX8_sumOf 26 = .ok (.invokevirtual 86, 3) := by decide +kernel
theorem dX8_sumOf_29 : decode cX8_sumOf 29 = .ok (.lload_n 2, 1) := by decide +kernel
theorem dX8_sumOf_30 : decode cX8_sumOf 30 = .ok (.lcmp, 1) := by decide +kernel
theorem dX8_sumOf_31 : decode cX8_sumOf 31 = .ok (.ifCond .gt 14, 3) := by decide +kernel
theorem dX8_sumOf_34 : decode cX8_sumOf 34 = .ok (.aload_n 0, 1) := by decide +kernel
theorem dX8_sumOf_35 : decode cX8_sumOf 35 = .ok (.iload_n 1, 1) := by decide +kernel
theorem dX8_sumOf_36 : decode cX8_sumOf 36 = .ok (.iload 6, 2) := by decide +kernel
theorem dX8_sumOf_38 : decode cX8_sumOf 38 = .ok (.iconst 1, 1) := by decide +kernel
theorem dX8_sumOf_39 : decode cX8_sumOf 39 = .ok (.invokevirtual 86, 3) := by decide +kernel
theorem dX8_sumOf_42 : decode cX8_sumOf 42 = .ok (.goto 4, 3) := by decide +kernel
theorem dX8_sumOf_45 : decode cX8_sumOf 45 = .ok (.lconst 0, 1) := by decide +kernel
theorem dX8_sumOf_46 : decode cX8_sumOf 46 = .ok (.ladd, 1) := by decide +kernel
theorem dX8_sumOf_47 : decode cX8_sumOf 47 = .ok (.lstore 4, 2) := by decide +kernel
theorem dX8_sumOf_49 : decode cX8_sumOf 49 = .ok (.iinc 6 1, 3) := by decide +kernel
theorem dX8_sumOf_52 : decode cX8_sumOf 52 = .ok (.goto (-46), 3) := by decide +kernel
theorem dX8_sumOf_55 : decode cX8_sumOf 55 = .ok (.lload 4, 2) := by decide +kernel
theorem dX8_sumOf_57 : decode cX8_sumOf 57 = .ok (.lreturn, 1) := by decide +kernel
theorem dX8_bound_0 : decode cX8_bound 0 = .ok (.lconst 0, 1) := by decide +kernel
theorem dX8_bound_1 : decode cX8_bound 1 = .ok (.lstore_n 2, 1) := by decide +kernel
theorem dX8_bound_2 : decode cX8_bound 2 = .ok (.iconst 0, 1) := by decide +kernel
theorem dX8_bound_3 : decode cX8_bound 3 = .ok (.istore 4, 2) := by decide +kernel
theorem dX8_bound_5 : decode cX8_bound 5 = .ok (.iload 4, 2) := by decide +kernel
theorem dX8_bound_7 : decode cX8_bound 7 = .ok (.i2l, 1) := by decide +kernel
theorem dX8_bound_8 : decode cX8_bound 8 = .ok (.aload_n 0, 1) := by decide +kernel
theorem dX8_bound_9 : decode cX8_bound 9 = .ok (.getfield 7, 3) := by decide +kernel
theorem dX8_bound_12 : decode cX8_bound 12 = .ok (.bipush 122, 2) := by decide +kernel
theorem dX8_bound_14 : decode cX8_bound 14 = .ok (.laload, 1) := by decide +kernel
theorem dX8_bound_15 : decode cX8_bound 15 = .ok (.lcmp, 1) := by decide +kernel
theorem dX8_bound_16 : decode cX8_bound 16 = .ok (.ifCond .ge 40, 3) := by decide +kernel
theorem dX8_bound_19 : decode cX8_bound 19 = .ok (.lload_n 2, 1) := by decide +kernel
theorem dX8_bound_20 : decode cX8_bound 20 = .ok (.aload_n 0, 1) := by decide +kernel
theorem dX8_bound_21 : decode cX8_bound 21 = .ok (.bipush 122, 2) := by decide +kernel
theorem dX8_bound_23 : decode cX8_bound 23 = .ok (.iload 4, 2) := by decide +kernel
theorem dX8_bound_25 : decode cX8_bound 25 = .ok (.iconst 0, 1) := by decide +kernel
theorem dX8_bound_26 : decode cX8_bound 26 = .ok (.invokevirtual 86, 3) := by decide +kernel
theorem dX8_bound_29 : decode cX8_bound 29 = .ok (.iload_n 1, 1) := by decide +kernel
theorem dX8_bound_30 : decode cX8_bound 30 = .ok (.i2l, 1) := by decide +kernel
theorem dX8_bound_31 : decode cX8_bound 31 = .ok (.lcmp, 1) := by decide +kernel
theorem dX8_bound_32 : decode cX8_bound 32 = .ok (.ifCond .ne 15, 3) := by decide +kernel
theorem dX8_bound_35 : decode cX8_bound 35 = .ok (.aload_n 0, 1) := by decide +kernel
theorem dX8_bound_36 : decode cX8_bound 36 = .ok (.bipush 122, 2) := by decide +kernel
theorem dX8_bound_38 : decode cX8_bound 38 = .ok (.iload 4, 2) := by decide +kernel
theorem dX8_bound_40 : decode cX8_bound 40 = .ok (.iconst 1, 1) := by decide +kernel
theorem dX8_bound_41 : decode cX8_bound 41 = .ok (.invokevirtual 86, 3) := by decide +kernel
theorem dX8_bound_44 : decode cX8_bound 44 = .ok (.goto 4, 3) := by decide +kernel
theorem dX8_bound_47 : decode cX8_bound 47 = .ok (.lconst 0, 1) := by decide +kernel
theorem dX8_bound_48 : decode cX8_bound 48 = .ok (.ladd, 1) := by decide +kernel
theorem dX8_bound_49 : decode cX8_bound 49 = .ok (.lstore_n 2, 1) := by decide +kernel
theorem dX8_bound_50 : decode cX8_bound 50 = .ok (.iinc 4 1, 3) := by decide +kernel
theorem dX8_bound_53 : decode cX8_bound 53 = .ok (.goto (-48), 3) := by decide +kernel
theorem dX8_bound_56 : decode cX8_bound 56 = .ok (.lload_n 2, 1) := by decide +kernel
theorem dX8_bound_57 : decode cX8_bound 57 = .ok (.lreturn, 1) := by decide +kernel
theorem dX8_holdPool_0 : decode cX8_holdPool 0 = .ok (.aload_n 0, 1) := by decide +kernel
theorem dX8_holdPool_1 : decode cX8_holdPool 1 = .ok (.getfield 7, 3) := by decide +kernel
theorem dX8_holdPool_4 : decode cX8_holdPool 4 = .ok (.bipush 8, 2) := by decide +kernel
theorem dX8_holdPool_6 : decode cX8_holdPool 6 = .ok (.aload_n 0, 1) := by decide +kernel
theorem dX8_holdPool_7 : decode cX8_holdPool 7 = .ok (.getfield 7, 3) := by decide +kernel
theorem dX8_holdPool_10 : decode cX8_holdPool 10 = .ok (.bipush 8, 2) := by decide +kernel
theorem dX8_holdPool_12 : decode cX8_holdPool 12 = .ok (.laload, 1) := by decide +kernel
theorem dX8_holdPool_13 : decode cX8_holdPool 13 = .ok (.aload_n 0, 1) := by decide +kernel
theorem dX8_holdPool_14 : decode cX8_holdPool 14 = .ok (.getfield 7, 3) := by decide +kernel
theorem dX8_holdPool_17 : decode cX8_holdPool 17 = .ok (.iconst 5, 1) := by decide +kernel
theorem dX8_holdPool_18 : decode cX8_holdPool 18 = .ok (.laload, 1) := by decide +kernel
theorem dX8_holdPool_19 : decode cX8_holdPool 19 = .ok (.lcmp, 1) := by decide +kernel
theorem dX8_holdPool_20 : decode cX8_holdPool 20 = .ok (.ifCond .le 12, 3) := by decide +kernel
theorem dX8_holdPool_23 : decode cX8_holdPool 23 = .ok (.aload_n 0, 1) := by decide +kernel
theorem dX8_holdPool_24 : decode cX8_holdPool 24 = .ok (.getfield 7, 3) := by decide +kernel
theorem dX8_holdPool_27 : decode cX8_holdPool 27 = .ok (.iconst 5, 1) := by decide +kernel
theorem dX8_holdPool_28 : decode cX8_holdPool 28 = .ok (.laload, 1) := by decide +kernel
theorem dX8_holdPool_29 : decode cX8_holdPool 29 = .ok (.goto 10, 3) := by decide +kernel
theorem dX8_holdPool_32 : decode cX8_holdPool 32 = .ok (.aload_n 0, 1) := by decide +kernel
theorem dX8_holdPool_33 : decode cX8_holdPool 33 = .ok (.getfield 7, 3) := by decide +kernel
theorem dX8_holdPool_36 : decode cX8_holdPool 36 = .ok (.bipush 8, 2) := by decide +kernel
theorem dX8_holdPool_38 : decode cX8_holdPool 38 = .ok (.laload, 1) := by decide +kernel
theorem dX8_holdPool_39 : decode cX8_holdPool 39 = .ok (.lastore, 1) := by decide +kernel
theorem dX8_holdPool_40 : decode cX8_holdPool 40 = .ok (.return_, 1) := by decide +kernel
theorem dX8_makeUnits_0 : decode cX8_makeUnits 0 = .ok (.lload_n 2, 1) := by decide +kernel
theorem dX8_makeUnits_1 : decode cX8_makeUnits 1 = .ok (.lload 4, 2) := by decide +kernel
theorem dX8_makeUnits_3 : decode cX8_makeUnits 3 = .ok (.lmul, 1) := by decide +kernel
theorem dX8_makeUnits_4 : decode cX8_makeUnits 4 = .ok (.ldc2_w 49, 3) := by decide +kernel
theorem dX8_makeUnits_7 : decode cX8_makeUnits 7 = .ok (.ldiv, 1) := by decide +kernel
theorem dX8_makeUnits_8 : decode cX8_makeUnits 8 = .ok (.lstore 6, 2) := by decide +kernel
theorem dX8_makeUnits_10 : decode cX8_makeUnits 10 = .ok (.aload_n 0, 1) := by decide +kernel
theorem dX8_makeUnits_11 : decode cX8_makeUnits 11 = .ok (.iload_n 1, 1) := by decide +kernel
theorem dX8_makeUnits_12 : decode cX8_makeUnits 12 = .ok (.iconst 1, 1) := by decide +kernel
theorem dX8_makeUnits_13 : decode cX8_makeUnits 13 = .ok (.lload_n 2, 1) := by decide +kernel
theorem dX8_makeUnits_14 : decode cX8_makeUnits 14 = .ok (.invokevirtual 90, 3) := by decide +kernel
theorem dX8_makeUnits_17 : decode cX8_makeUnits 17 = .ok (.aload_n 0, 1) := by decide +kernel
theorem dX8_makeUnits_18 : decode cX8_makeUnits 18 = .ok (.getfield 7, 3) := by decide +kernel
theorem dX8_makeUnits_21 : decode cX8_makeUnits 21 = .ok (.bipush 8, 2) := by decide +kernel
theorem dX8_makeUnits_23 : decode cX8_makeUnits 23 = .ok (.dup2, 1) := by decide +kernel
theorem dX8_makeUnits_24 : decode cX8_makeUnits 24 = .ok (.laload, 1) := by decide +kernel
theorem dX8_makeUnits_25 : decode cX8_makeUnits 25 = .ok (.lload 6, 2) := by decide +kernel
theorem dX8_makeUnits_27 : decode cX8_makeUnits 27 = .ok (.ladd, 1) := by decide +kernel
theorem dX8_makeUnits_28 : decode cX8_makeUnits 28 = .ok (.lastore, 1) := by decide +kernel
theorem dX8_makeUnits_29 : decode cX8_makeUnits 29 = .ok (.aload_n 0, 1) := by decide +kernel
theorem dX8_makeUnits_30 : decode cX8_makeUnits 30 = .ok (.getfield 7, 3) := by decide +kernel
theorem dX8_makeUnits_33 : decode cX8_makeUnits 33 = .ok (.bipush 9, 2) := by decide +kernel
theorem dX8_makeUnits_35 : decode cX8_makeUnits 35 = .ok (.dup2, 1) := by decide +kernel
theorem dX8_makeUnits_36 : decode cX8_makeUnits 36 = .ok (.laload, 1) := by decide +kernel
theorem dX8_makeUnits_37 : decode cX8_makeUnits 37 = .ok (.lload 6, 2) := by decide +kernel
theorem dX8_makeUnits_39 : decode cX8_makeUnits 39 = .ok (.ladd, 1) := by decide +kernel
theorem dX8_makeUnits_40 : decode cX8_makeUnits 40 = .ok (.lastore, 1) := by decide +kernel
theorem dX8_makeUnits_41 : decode cX8_makeUnits 41 = .ok (.aload_n 0, 1) := by decide +kernel
theorem dX8_makeUnits_42 : decode cX8_makeUnits 42 = .ok (.invokevirtual 94, 3) := by decide +kernel
theorem dX8_makeUnits_45 : decode cX8_makeUnits 45 = .ok (.return_, 1) := by decide +kernel
theorem dX8_goUnits_0 : decode cX8_goUnits 0 = .ok (.aload_n 0, 1) := by decide +kernel
theorem dX8_goUnits_1 : decode cX8_goUnits 1 = .ok (.getfield 7, 3) := by decide +kernel
theorem dX8_goUnits_4 : decode cX8_goUnits 4 = .ok (.bipush 8, 2) := by decide +kernel
theorem dX8_goUnits_6 : decode cX8_goUnits 6 = .ok (.laload, 1) := by decide +kernel
theorem dX8_goUnits_7 : decode cX8_goUnits 7 = .ok (.lload_n 2, 1) := by decide +kernel
theorem dX8_goUnits_8 : decode cX8_goUnits 8 = .ok (.lload 4, 2) := by decide +kernel
theorem dX8_goUnits_10 : decode cX8_goUnits 10 = .ok (.lmul, 1) := by decide +kernel
theorem dX8_goUnits_11 : decode cX8_goUnits 11 = .ok (.ldc2_w 49, 3) := by decide +kernel
theorem dX8_goUnits_14 : decode cX8_goUnits 14 = .ok (.ldiv, 1) := by decide +kernel
theorem dX8_goUnits_15 : decode cX8_goUnits 15 = .ok (.lsub, 1) := by decide +kernel
theorem dX8_goUnits_16 : decode cX8_goUnits 16 = .ok (.lstore 6, 2) := by decide +kernel
theorem dX8_goUnits_18 : decode cX8_goUnits 18 = .ok (.aload_n 0, 1) := by decide +kernel
theorem dX8_goUnits_19 : decode cX8_goUnits 19 = .ok (.getfield 7, 3) := by decide +kernel
theorem dX8_goUnits_22 : decode cX8_goUnits 22 = .ok (.bipush 8, 2) := by decide +kernel
theorem dX8_goUnits_24 : decode cX8_goUnits 24 = .ok (.lload 6, 2) := by decide +kernel
theorem dX8_goUnits_26 : decode cX8_goUnits 26 = .ok (.lconst 0, 1) := by decide +kernel
theorem dX8_goUnits_27 : decode cX8_goUnits 27 = .ok (.lcmp, 1) := by decide +kernel
theorem dX8_goUnits_28 : decode cX8_goUnits 28 = .ok (.ifCond .ge 7, 3) := by decide +kernel
theorem dX8_goUnits_31 : decode cX8_goUnits 31 = .ok (.lconst 0, 1) := by decide +kernel
theorem dX8_goUnits_32 : decode cX8_goUnits 32 = .ok (.goto 5, 3) := by decide +kernel
theorem dX8_goUnits_35 : decode cX8_goUnits 35 = .ok (.lload 6, 2) := by decide +kernel
theorem dX8_goUnits_37 : decode cX8_goUnits 37 = .ok (.lastore, 1) := by decide +kernel
theorem dX8_goUnits_38 : decode cX8_goUnits 38 = .ok (.aload_n 0, 1) := by decide +kernel
theorem dX8_goUnits_39 : decode cX8_goUnits 39 = .ok (.iload_n 1, 1) := by decide +kernel
theorem dX8_goUnits_40 : decode cX8_goUnits 40 = .ok (.iconst 0, 1) := by decide +kernel
theorem dX8_goUnits_41 : decode cX8_goUnits 41 = .ok (.invokevirtual 57, 3) := by decide +kernel
theorem dX8_goUnits_44 : decode cX8_goUnits 44 = .ok (.lload_n 2, 1) := by decide +kernel
theorem dX8_goUnits_45 : decode cX8_goUnits 45 = .ok (.lcmp, 1) := by decide +kernel
theorem dX8_goUnits_46 : decode cX8_goUnits 46 = .ok (.ifCond .ge 12, 3) := by decide +kernel
theorem dX8_goUnits_49 : decode cX8_goUnits 49 = .ok (.aload_n 0, 1) := by decide +kernel
theorem dX8_goUnits_50 : decode cX8_goUnits 50 = .ok (.iload_n 1, 1) := by decide +kernel
theorem dX8_goUnits_51 : decode cX8_goUnits 51 = .ok (.iconst 0, 1) := by decide +kernel
theorem dX8_goUnits_52 : decode cX8_goUnits 52 = .ok (.invokevirtual 57, 3) := by decide +kernel
theorem dX8_goUnits_55 : decode cX8_goUnits 55 = .ok (.goto 4, 3) := by decide +kernel
theorem dX8_goUnits_58 : decode cX8_goUnits 58 = .ok (.lload_n 2, 1) := by decide +kernel
theorem dX8_goUnits_59 : decode cX8_goUnits 59 = .ok (.lstore 8, 2) := by decide +kernel
theorem dX8_goUnits_61 : decode cX8_goUnits 61 = .ok (.lload_n 2, 1) := by decide +kernel
theorem dX8_goUnits_62 : decode cX8_goUnits 62 = .ok (.lload 8, 2) := by decide +kernel
theorem dX8_goUnits_64 : decode cX8_goUnits 64 = .ok (.lsub, 1) := by decide +kernel
theorem dX8_goUnits_65 : decode cX8_goUnits 65 = .ok (.lstore 10, 2) := by decide +kernel
theorem dX8_goUnits_67 : decode cX8_goUnits 67 = .ok (.lload 10, 2) := by decide +kernel
theorem dX8_goUnits_69 : decode cX8_goUnits 69 = .ok (.lconst 0, 1) := by decide +kernel
theorem dX8_goUnits_70 : decode cX8_goUnits 70 = .ok (.lcmp, 1) := by decide +kernel
theorem dX8_goUnits_71 : decode cX8_goUnits 71 = .ok (.ifCond .le 28, 3) := by decide +kernel
theorem dX8_goUnits_74 : decode cX8_goUnits 74 = .ok (.aload_n 0, 1) := by decide +kernel
theorem dX8_goUnits_75 : decode cX8_goUnits 75 = .ok (.getfield 7, 3) := by decide +kernel
theorem dX8_goUnits_78 : decode cX8_goUnits 78 = .ok (.bipush 9, 2) := by decide +kernel
theorem dX8_goUnits_80 : decode cX8_goUnits 80 = .ok (.dup2, 1) := by decide +kernel
theorem dX8_goUnits_81 : decode cX8_goUnits 81 = .ok (.laload, 1) := by decide +kernel
theorem dX8_goUnits_82 : decode cX8_goUnits 82 = .ok (.lload 10, 2) := by decide +kernel
theorem dX8_goUnits_84 : decode cX8_goUnits 84 = .ok (.aload_n 0, 1) := by decide +kernel
theorem dX8_goUnits_85 : decode cX8_goUnits 85 = .ok (.getfield 7, 3) := by decide +kernel
theorem dX8_goUnits_88 : decode cX8_goUnits 88 = .ok (.bipush 9, 2) := by decide +kernel
theorem dX8_goUnits_90 : decode cX8_goUnits 90 = .ok (.laload, 1) := by decide +kernel
theorem dX8_goUnits_91 : decode cX8_goUnits 91 = .ok (.lmul, 1) := by decide +kernel
theorem dX8_goUnits_92 : decode cX8_goUnits 92 = .ok (.aload_n 0, 1) := by decide +kernel
theorem dX8_goUnits_93 : decode cX8_goUnits 93 = .ok (.invokevirtual 97, 3) := by decide +kernel
theorem dX8_goUnits_96 : decode cX8_goUnits 96 = .ok (.ldiv, 1) := by decide +kernel
theorem dX8_goUnits_97 : decode cX8_goUnits 97 = .ok (.lsub, 1) := by decide +kernel
theorem dX8_goUnits_98 : decode cX8_goUnits 98 = .ok (.lastore, 1) := by decide +kernel
theorem dX8_goUnits_99 : decode cX8_goUnits 99 = .ok (.aload_n 0, 1) := by decide +kernel
theorem dX8_goUnits_100 : decode cX8_goUnits 100 = .ok (.iload_n 1, 1) := by decide +kernel
theorem dX8_goUnits_101 : decode cX8_goUnits 101 = .ok (.iconst 0, 1) := by decide +kernel
theorem dX8_goUnits_102 : decode cX8_goUnits 102 = .ok (.lload 8, 2) := by decide +kernel
theorem dX8_goUnits_104 : decode cX8_goUnits 104 = .ok (.lneg, 1) := by decide +kernel
theorem dX8_goUnits_105 : decode cX8_goUnits 105 = .ok (.invokevirtual 90, 3) := by decide +kernel
theorem dX8_goUnits_108 : decode cX8_goUnits 108 = .ok (.aload_n 0, 1) := by decide +kernel
theorem dX8_goUnits_109 : decode cX8_goUnits 109 = .ok (.iload_n 1, 1) := by decide +kernel
theorem dX8_goUnits_110 : decode cX8_goUnits 110 = .ok (.iconst 1, 1) := by decide +kernel
theorem dX8_goUnits_111 : decode cX8_goUnits 111 = .ok (.lload 10, 2) := by decide +kernel
theorem dX8_goUnits_113 : decode cX8_goUnits 113 = .ok (.lneg, 1) := by decide +kernel
theorem dX8_goUnits_114 : decode cX8_goUnits 114 = .ok (.invokevirtual 90, 3) := by decide +kernel
theorem dX8_goUnits_117 : decode cX8_goUnits 117 = .ok (.aload_n 0, 1) := by decide +kernel
theorem dX8_goUnits_118 : decode cX8_goUnits 118 = .ok (.invokevirtual 94, 3) := by decide +kernel
theorem dX8_goUnits_121 : decode cX8_goUnits 121 = .ok (.return_, 1) := by decide +kernel
theorem dX8_takeOut_0 : decode cX8_takeOut 0 = .ok (.aload_n 0, 1) := by decide +kernel
theorem dX8_takeOut_1 : decode cX8_takeOut 1 = .ok (.getfield 7, 3) := by decide +kernel
theorem dX8_takeOut_4 : decode cX8_takeOut 4 = .ok (.iload_n 1, 1) := by decide +kernel
theorem dX8_takeOut_5 : decode cX8_takeOut 5 = .ok (.dup2, 1) := by decide +kernel
theorem dX8_takeOut_6 : decode cX8_takeOut 6 = .ok (.laload, 1) := by decide +kernel
theorem dX8_takeOut_7 : decode cX8_takeOut 7 = .ok (.lconst 1, 1) := by decide +kernel
theorem dX8_takeOut_8 : decode cX8_takeOut 8 = .ok (.lsub, 1) := by decide +kernel
theorem dX8_takeOut_9 : decode cX8_takeOut 9 = .ok (.lastore, 1) := by decide +kernel
theorem dX8_takeOut_10 : decode cX8_takeOut 10 = .ok (.iload_n 1, 1) := by decide +kernel
theorem dX8_takeOut_11 : decode cX8_takeOut 11 = .ok (.iconst 1, 1) := by decide +kernel
theorem dX8_takeOut_12 : decode cX8_takeOut 12 = .ok (.iadd, 1) := by decide +kernel
theorem dX8_takeOut_13 : decode cX8_takeOut 13 = .ok (.iconst 3, 1) := by decide +kernel
theorem dX8_takeOut_14 : decode cX8_takeOut 14 = .ok (.iload_n 2, 1) := by decide +kernel
theorem dX8_takeOut_15 : decode cX8_takeOut 15 = .ok (.imul, 1) := by decide +kernel
theorem dX8_takeOut_16 : decode cX8_takeOut 16 = .ok (.iadd, 1) := by decide +kernel
theorem dX8_takeOut_17 : decode cX8_takeOut 17 = .ok (.istore_n 3, 1) := by decide +kernel
theorem dX8_takeOut_18 : decode cX8_takeOut 18 = .ok (.iload_n 3, 1) := by decide +kernel
theorem dX8_takeOut_19 : decode cX8_takeOut 19 = .ok (.i2l, 1) := by decide +kernel
theorem dX8_takeOut_20 : decode cX8_takeOut 20 = .ok (.iload_n 1, 1) := by decide +kernel
theorem dX8_takeOut_21 : decode cX8_takeOut 21 = .ok (.iconst 1, 1) := by decide +kernel
theorem dX8_takeOut_22 : decode cX8_takeOut 22 = .ok (.iadd, 1) := by decide +kernel
theorem dX8_takeOut_23 : decode cX8_takeOut 23 = .ok (.i2l, 1) := by decide +kernel
theorem dX8_takeOut_24 : decode cX8_takeOut 24 = .ok (.ldc2_w 100, 3) := by decide +kernel
theorem dX8_takeOut_27 : decode cX8_takeOut 27 = .ok (.aload_n 0, 1) := by decide +kernel
theorem dX8_takeOut_28 : decode cX8_takeOut 28 = .ok (.getfield 7, 3) := by decide +kernel
theorem dX8_takeOut_31 : decode cX8_takeOut 31 = .ok (.iload_n 1, 1) := by decide +kernel
theorem dX8_takeOut_32 : decode cX8_takeOut 32 = .ok (.laload, 1) := by decide +kernel
theorem dX8_takeOut_33 : decode cX8_takeOut 33 = .ok (.lmul, 1) := by decide +kernel
theorem dX8_takeOut_34 : decode cX8_takeOut 34 = .ok (.ladd, 1) := by decide +kernel
theorem dX8_takeOut_35 : decode cX8_takeOut 35 = .ok (.lcmp, 1) := by decide +kernel
theorem dX8_takeOut_36 : decode cX8_takeOut 36 = .ok (.ifCond .ge 23, 3) := by decide +kernel
theorem dX8_takeOut_39 : decode cX8_takeOut 39 = .ok (.aload_n 0, 1) := by decide +kernel
theorem dX8_takeOut_40 : decode cX8_takeOut 40 = .ok (.getfield 7, 3) := by decide +kernel
theorem dX8_takeOut_43 : decode cX8_takeOut 43 = .ok (.iload_n 3, 1) := by decide +kernel
theorem dX8_takeOut_44 : decode cX8_takeOut 44 = .ok (.aload_n 0, 1) := by decide +kernel
theorem dX8_takeOut_45 : decode cX8_takeOut 45 = .ok (.getfield 7, 3) := by decide +kernel
theorem dX8_takeOut_48 : decode cX8_takeOut 48 = .ok (.iload_n 3, 1) := by decide +kernel
theorem dX8_takeOut_49 : decode cX8_takeOut 49 = .ok (.iconst 3, 1) := by decide +kernel
theorem dX8_takeOut_50 : decode cX8_takeOut 50 = .ok (.iadd, 1) := by decide +kernel
theorem dX8_takeOut_51 : decode cX8_takeOut 51 = .ok (.laload, 1) := by decide +kernel
theorem dX8_takeOut_52 : decode cX8_takeOut 52 = .ok (.lastore, 1) := by decide +kernel
theorem dX8_takeOut_53 : decode cX8_takeOut 53 = .ok (.iinc 3 1, 3) := by decide +kernel
theorem dX8_takeOut_56 : decode cX8_takeOut 56 = .ok (.goto (-38), 3) := by decide +kernel
theorem dX8_takeOut_59 : decode cX8_takeOut 59 = .ok (.return_, 1) := by decide +kernel
theorem dX8_putIn_0 : decode cX8_putIn 0 = .ok (.iload 5, 2) := by decide +kernel
theorem dX8_putIn_2 : decode cX8_putIn 2 = .ok (.i2l, 1) := by decide +kernel
theorem dX8_putIn_3 : decode cX8_putIn 3 = .ok (.aload_n 0, 1) := by decide +kernel
theorem dX8_putIn_4 : decode cX8_putIn 4 = .ok (.getfield 7, 3) := by decide +kernel
theorem dX8_putIn_7 : decode cX8_putIn 7 = .ok (.iconst 0, 1) := by decide +kernel
theorem dX8_putIn_8 : decode cX8_putIn 8 = .ok (.laload, 1) := by decide +kernel
theorem dX8_putIn_9 : decode cX8_putIn 9 = .ok (.lcmp, 1) := by decide +kernel
theorem dX8_putIn_10 : decode cX8_putIn 10 = .ok (.ifCond .ge 13, 3) := by decide +kernel
theorem dX8_putIn_13 : decode cX8_putIn 13 = .ok (.aload_n 0, 1) := by decide +kernel
theorem dX8_putIn_14 : decode cX8_putIn 14 = .ok (.getfield 7, 3) := by decide +kernel
theorem dX8_putIn_17 : decode cX8_putIn 17 = .ok (.bipush 10, 2) := by decide +kernel
theorem dX8_putIn_19 : decode cX8_putIn 19 = .ok (.laload, 1) := by decide +kernel
theorem dX8_putIn_20 : decode cX8_putIn 20 = .ok (.goto 12, 3) := by decide +kernel
theorem dX8_putIn_23 : decode cX8_putIn 23 = .ok (.aload_n 0, 1) := by decide +kernel
theorem dX8_putIn_24 : decode cX8_putIn 24 = .ok (.getfield 7, 3) := by decide +kernel
theorem dX8_putIn_27 : decode cX8_putIn 27 = .ok (.bipush 10, 2) := by decide +kernel
theorem dX8_putIn_29 : decode cX8_putIn 29 = .ok (.laload, 1) := by decide +kernel
theorem dX8_putIn_30 : decode cX8_putIn 30 = .ok (.lconst 1, 1) := by decide +kernel
theorem dX8_putIn_31 : decode cX8_putIn 31 = .ok (.ladd, 1) := by decide +kernel
theorem dX8_putIn_32 : decode cX8_putIn 32 = .ok (.lstore 6, 2) := by decide +kernel
theorem dX8_putIn_34 : decode cX8_putIn 34 = .ok (.aload_n 0, 1) := by decide +kernel
theorem dX8_putIn_35 : decode cX8_putIn 35 = .ok (.getfield 7, 3) := by decide +kernel
theorem dX8_putIn_38 : decode cX8_putIn 38 = .ok (.iload_n 1, 1) := by decide +kernel
theorem dX8_putIn_39 : decode cX8_putIn 39 = .ok (.laload, 1) := by decide +kernel
theorem dX8_putIn_40 : decode cX8_putIn 40 = .ok (.l2i, 1) := by decide +kernel
theorem dX8_putIn_41 : decode cX8_putIn 41 = .ok (.istore 8, 2) := by decide +kernel
theorem dX8_putIn_43 : decode cX8_putIn 43 = .ok (.iload 8, 2) := by decide +kernel
theorem dX8_putIn_45 : decode cX8_putIn 45 = .ok (.ifCond .le 74, 3) := by decide +kernel
theorem dX8_putIn_48 : decode cX8_putIn 48 = .ok (.aload_n 0, 1) := by decide +kernel
theorem dX8_putIn_49 : decode cX8_putIn 49 = .ok (.iload_n 1, 1) := by decide +kernel
theorem dX8_putIn_50 : decode cX8_putIn 50 = .ok (.iload 8, 2) := by decide +kernel
theorem dX8_putIn_52 : decode cX8_putIn 52 = .ok (.iconst 1, 1) := by decide +kernel
theorem dX8_putIn_53 : decode cX8_putIn 53 = .ok (.isub, 1) := by decide +kernel
theorem dX8_putIn_54 : decode cX8_putIn 54 = .ok (.iconst 2, 1) := by decide +kernel
theorem dX8_putIn_55 : decode cX8_putIn 55 = .ok (.invokevirtual 86, 3) := by decide +kernel
theorem dX8_putIn_58 : decode cX8_putIn 58 = .ok (.lload 6, 2) := by decide +kernel
theorem dX8_putIn_60 : decode cX8_putIn 60 = .ok (.lcmp, 1) := by decide +kernel
theorem dX8_putIn_61 : decode cX8_putIn 61 = .ok (.ifCond .le 58, 3) := by decide +kernel
theorem dX8_putIn_64 : decode cX8_putIn 64 = .ok (.iconst 0, 1) := by decide +kernel
theorem dX8_putIn_65 : decode cX8_putIn 65 = .ok (.istore 9, 2) := by decide +kernel
theorem dX8_putIn_67 : decode cX8_putIn 67 = .ok (.iload 9, 2) := by decide +kernel
theorem dX8_putIn_69 : decode cX8_putIn 69 = .ok (.iconst 3, 1) := by decide +kernel
theorem dX8_putIn_70 : decode cX8_putIn 70 = .ok (.if_icmp .ge 43, 3) := by decide +kernel
theorem dX8_putIn_73 : decode cX8_putIn 73 = .ok (.aload_n 0, 1) := by decide +kernel
theorem dX8_putIn_74 : decode cX8_putIn 74 = .ok (.getfield 7, 3) := by decide +kernel
theorem dX8_putIn_77 : decode cX8_putIn 77 = .ok (.iload_n 1, 1) := by decide +kernel
theorem dX8_putIn_78 : decode cX8_putIn 78 = .ok (.iconst 1, 1) := by decide +kernel
theorem dX8_putIn_79 : decode cX8_putIn 79 = .ok (.iadd, 1) := by decide +kernel
theorem dX8_putIn_80 : decode cX8_putIn 80 = .ok (.iconst 3, 1) := by decide +kernel
theorem dX8_putIn_81 : decode cX8_putIn 81 = .ok (.iload 8, 2) := by decide +kernel
theorem dX8_putIn_83 : decode cX8_putIn 83 = .ok (.imul, 1) := by decide +kernel
theorem dX8_putIn_84 : decode cX8_putIn 84 = .ok (.iadd, 1) := by decide +kernel
theorem dX8_putIn_85 : decode cX8_putIn 85 = .ok (.iload 9, 2) := by decide +kernel
theorem dX8_putIn_87 : decode cX8_putIn 87 = .ok (.iadd, 1) := by decide +kernel
theorem dX8_putIn_88 : decode cX8_putIn 88 = .ok (.aload_n 0, 1) := by decide +kernel
theorem dX8_putIn_89 : decode cX8_putIn 89 = .ok (.getfield 7, 3) := by decide +kernel
theorem dX8_putIn_92 : decode cX8_putIn 92 = .ok (.iload_n 1, 1) := by decide +kernel
theorem dX8_putIn_93 : decode cX8_putIn 93 = .ok (.iconst 1, 1) := by decide +kernel
theorem dX8_putIn_94 : decode cX8_putIn 94 = .ok (.iadd, 1) := by decide +kernel
theorem dX8_putIn_95 : decode cX8_putIn 95 = .ok (.iconst 3, 1) := by decide +kernel
theorem dX8_putIn_96 : decode cX8_putIn 96 = .ok (.iload 8, 2) := by decide +kernel
theorem dX8_putIn_98 : decode cX8_putIn 98 = .ok (.iconst 1, 1) := by decide +kernel
theorem dX8_putIn_99 : decode cX8_putIn 99 = .ok (.isub, 1) := by decide +kernel
theorem dX8_putIn_100 : decode cX8_putIn 100 = .ok (.imul, 1) := by decide +kernel
theorem dX8_putIn_101 : decode cX8_putIn 101 = .ok (.iadd, 1) := by decide +kernel
theorem dX8_putIn_102 : decode cX8_putIn 102 = .ok (.iload 9, 2) := by decide +kernel
theorem dX8_putIn_104 : decode cX8_putIn 104 = .ok (.iadd, 1) := by decide +kernel
theorem dX8_putIn_105 : decode cX8_putIn 105 = .ok (.laload, 1) := by decide +kernel
theorem dX8_putIn_106 : decode cX8_putIn 106 = .ok (.lastore, 1) := by decide +kernel
theorem dX8_putIn_107 : decode cX8_putIn 107 = .ok (.iinc 9 1, 3) := by decide +kernel
theorem dX8_putIn_110 : decode cX8_putIn 110 = .ok (.goto (-43), 3) := by decide +kernel
theorem dX8_putIn_113 : decode cX8_putIn 113 = .ok (.iinc 8 (-1), 3) := by decide +kernel
theorem dX8_putIn_116 : decode cX8_putIn 116 = .ok (.goto (-73), 3) := by decide +kernel
theorem dX8_putIn_119 : decode cX8_putIn 119 = .ok (.iload_n 1, 1) := by decide +kernel
theorem dX8_putIn_120 : decode cX8_putIn 120 = .ok (.iconst 1, 1) := by decide +kernel
theorem dX8_putIn_121 : decode cX8_putIn 121 = .ok (.iadd, 1) := by decide +kernel
theorem dX8_putIn_122 : decode cX8_putIn 122 = .ok (.iconst 3, 1) := by decide +kernel
theorem dX8_putIn_123 : decode cX8_putIn 123 = .ok (.iload 8, 2) := by decide +kernel
theorem dX8_putIn_125 : decode cX8_putIn 125 = .ok (.imul, 1) := by decide +kernel
theorem dX8_putIn_126 : decode cX8_putIn 126 = .ok (.iadd, 1) := by decide +kernel
theorem dX8_putIn_127 : decode cX8_putIn 127 = .ok (.istore 9, 2) := by decide +kernel
theorem dX8_putIn_129 : decode cX8_putIn 129 = .ok (.aload_n 0, 1) := by decide +kernel
theorem dX8_putIn_130 : decode cX8_putIn 130 = .ok (.getfield 7, 3) := by decide +kernel
theorem dX8_putIn_133 : decode cX8_putIn 133 = .ok (.iload 9, 2) := by decide +kernel
theorem dX8_putIn_135 : decode cX8_putIn 135 = .ok (.iconst 0, 1) := by decide +kernel
theorem dX8_putIn_136 : decode cX8_putIn 136 = .ok (.iadd, 1) := by decide +kernel
theorem dX8_putIn_137 : decode cX8_putIn 137 = .ok (.iload_n 2, 1) := by decide +kernel
theorem dX8_putIn_138 : decode cX8_putIn 138 = .ok (.i2l, 1) := by decide +kernel
theorem dX8_putIn_139 : decode cX8_putIn 139 = .ok (.lastore, 1) := by decide +kernel
theorem dX8_putIn_140 : decode cX8_putIn 140 = .ok (.aload_n 0, 1) := by decide +kernel
theorem dX8_putIn_141 : decode cX8_putIn 141 = .ok (.getfield 7, 3) := by decide +kernel
theorem dX8_putIn_144 : decode cX8_putIn 144 = .ok (.iload 9, 2) := by decide +kernel
theorem dX8_putIn_146 : decode cX8_putIn 146 = .ok (.iconst 1, 1) := by decide +kernel
theorem dX8_putIn_147 : decode cX8_putIn 147 = .ok (.iadd, 1) := by decide +kernel
theorem dX8_putIn_148 : decode cX8_putIn 148 = .ok (.lload_n 3, 1) := by decide +kernel
theorem dX8_putIn_149 : decode cX8_putIn 149 = .ok (.lastore, 1) := by decide +kernel
theorem dX8_putIn_150 : decode cX8_putIn 150 = .ok (.aload_n 0, 1) := by decide +kernel
theorem dX8_putIn_151 : decode cX8_putIn 151 = .ok (.getfield 7, 3) := by decide +kernel
theorem dX8_putIn_154 : decode cX8_putIn 154 = .ok (.iload 9, 2) := by decide +kernel
theorem dX8_putIn_156 : decode cX8_putIn 156 = .ok (.iconst 2, 1) := by decide +kernel
theorem dX8_putIn_157 : decode cX8_putIn 157 = .ok (.iadd, 1) := by decide +kernel
theorem dX8_putIn_158 : decode cX8_putIn 158 = .ok (.lload 6, 2) := by decide +kernel
theorem dX8_putIn_160 : decode cX8_putIn 160 = .ok (.lastore, 1) := by decide +kernel
theorem dX8_putIn_161 : decode cX8_putIn 161 = .ok (.aload_n 0, 1) := by decide +kernel
theorem dX8_putIn_162 : decode cX8_putIn 162 = .ok (.getfield 7, 3) := by decide +kernel
theorem dX8_putIn_165 : decode cX8_putIn 165 = .ok (.iload_n 1, 1) := by decide +kernel
theorem dX8_putIn_166 : decode cX8_putIn 166 = .ok (.dup2, 1) := by decide +kernel
theorem dX8_putIn_167 : decode cX8_putIn 167 = .ok (.laload, 1) := by decide +kernel
theorem dX8_putIn_168 : decode cX8_putIn 168 = .ok (.lconst 1, 1) := by decide +kernel
theorem dX8_putIn_169 : decode cX8_putIn 169 = .ok (.ladd, 1) := by decide +kernel
theorem dX8_putIn_170 : decode cX8_putIn 170 = .ok (.lastore, 1) := by decide +kernel
theorem dX8_putIn_171 : decode cX8_putIn 171 = .ok (.lload 6, 2) := by decide +kernel
theorem dX8_putIn_173 : decode cX8_putIn 173 = .ok (.lreturn, 1) := by decide +kernel
theorem dX8_set_0 : decode cX8_set 0 = .ok (.iload_n 1, 1) := by decide +kernel
theorem dX8_set_1 : decode cX8_set 1 = .ok (.ifCond .ne 8, 3) := by decide +kernel
theorem dX8_set_4 : decode cX8_set 4 = .ok (.bipush 23, 2) := by decide +kernel
theorem dX8_set_6 : decode cX8_set 6 = .ok (.goto 26, 3) := by decide +kernel
theorem dX8_set_9 : decode cX8_set 9 = .ok (.iload_n 1, 1) := by decide +kernel
theorem dX8_set_10 : decode cX8_set 10 = .ok (.iconst 2, 1) := by decide +kernel
theorem dX8_set_11 : decode cX8_set 11 = .ok (.if_icmp .ne 8, 3) := by decide +kernel
theorem dX8_set_14 : decode cX8_set 14 = .ok (.bipush 100, 2) := by decide +kernel
theorem dX8_set_16 : decode cX8_set 16 = .ok (.goto 16, 3) := by decide +kernel
theorem dX8_set_19 : decode cX8_set 19 = .ok (.iload_n 1, 1) := by decide +kernel
theorem dX8_set_20 : decode cX8_set 20 = .ok (.iconst 4, 1) := by decide +kernel
theorem dX8_set_21 : decode cX8_set 21 = .ok (.if_icmp .ne 8, 3) := by decide +kernel
theorem dX8_set_24 : decode cX8_set 24 = .ok (.bipush 50, 2) := by decide +kernel
theorem dX8_set_26 : decode cX8_set 26 = .ok (.goto 6, 3) := by decide +kernel
theorem dX8_set_29 : decode cX8_set 29 = .ok (.sipush 1000, 3) := by decide +kernel
theorem dX8_set_32 : decode cX8_set 32 = .ok (.istore_n 3, 1) := by decide +kernel
theorem dX8_set_33 : decode cX8_set 33 = .ok (.iload_n 1, 1) := by decide +kernel
theorem dX8_set_34 : decode cX8_set 34 = .ok (.i2l, 1) := by decide +kernel
theorem dX8_set_35 : decode cX8_set 35 = .ok (.lconst 0, 1) := by decide +kernel
theorem dX8_set_36 : decode cX8_set 36 = .ok (.ldc2_w 102, 3) := by decide +kernel
theorem dX8_set_39 : decode cX8_set 39 = .ok (.invokestatic 53, 3) := by decide +kernel
theorem dX8_set_42 : decode cX8_set 42 = .ok (.ifCond .eq 14, 3) := by decide +kernel
theorem dX8_set_45 : decode cX8_set 45 = .ok (.iload_n 2, 1) := by decide +kernel
theorem dX8_set_46 : decode cX8_set 46 = .ok (.i2l, 1) := by decide +kernel
theorem dX8_set_47 : decode cX8_set 47 = .ok (.lconst 0, 1) := by decide +kernel
theorem dX8_set_48 : decode cX8_set 48 = .ok (.iload_n 3, 1) := by decide +kernel
theorem dX8_set_49 : decode cX8_set 49 = .ok (.i2l, 1) := by decide +kernel
theorem dX8_set_50 : decode cX8_set 50 = .ok (.invokestatic 53, 3) := by decide +kernel
theorem dX8_set_53 : decode cX8_set 53 = .ok (.ifCond .ne 6, 3) := by decide +kernel
theorem dX8_set_56 : decode cX8_set 56 = .ok (.bipush (-2), 2) := by decide +kernel
theorem dX8_set_58 : decode cX8_set 58 = .ok (.ireturn, 1) := by decide +kernel
theorem dX8_set_59 : decode cX8_set 59 = .ok (.aload_n 0, 1) := by decide +kernel
theorem dX8_set_60 : decode cX8_set 60 = .ok (.invokevirtual 68, 3) := by decide +kernel
theorem dX8_set_63 : decode cX8_set 63 = .ok (.aload_n 0, 1) := by decide +kernel
theorem dX8_set_64 : decode cX8_set 64 = .ok (.getfield 7, 3) := by decide +kernel
theorem dX8_set_67 : decode cX8_set 67 = .ok (.iload_n 1, 1) := by decide +kernel
theorem dX8_set_68 : decode cX8_set 68 = .ok (.laload, 1) := by decide +kernel
theorem dX8_set_69 : decode cX8_set 69 = .ok (.l2i, 1) := by decide +kernel
theorem dX8_set_70 : decode cX8_set 70 = .ok (.istore 4, 2) := by decide +kernel
theorem dX8_set_72 : decode cX8_set 72 = .ok (.aload_n 0, 1) := by decide +kernel
theorem dX8_set_73 : decode cX8_set 73 = .ok (.getfield 7, 3) := by decide +kernel
theorem dX8_set_76 : decode cX8_set 76 = .ok (.iload_n 1, 1) := by decide +kernel
theorem dX8_set_77 : decode cX8_set 77 = .ok (.iload_n 2, 1) := by decide +kernel
theorem dX8_set_78 : decode cX8_set 78 = .ok (.i2l, 1) := by decide +kernel
theorem dX8_set_79 : decode cX8_set 79 = .ok (.lastore, 1) := by decide +kernel
theorem dX8_set_80 : decode cX8_set 80 = .ok (.iload 4, 2) := by decide +kernel
theorem dX8_set_82 : decode cX8_set 82 = .ok (.ireturn, 1) := by decide +kernel
theorem dX8_tryBuy_0 : decode cX8_tryBuy 0 = .ok (.iload_n 1, 1) := by decide +kernel
theorem dX8_tryBuy_1 : decode cX8_tryBuy 1 = .ok (.invokestatic 104, 3) := by decide +kernel
theorem dX8_tryBuy_4 : decode cX8_tryBuy 4 = .ok (.ifCond .ne 5, 3) := by decide +kernel
theorem dX8_tryBuy_7 : decode cX8_tryBuy 7 = .ok (.iconst (-1), 1) := by decide +kernel
theorem dX8_tryBuy_8 : decode cX8_tryBuy 8 = .ok (.ireturn, 1) := by decide +kernel
theorem dX8_tryBuy_9 : decode cX8_tryBuy 9 = .ok (.iload_n 2, 1) := by decide +kernel
theorem dX8_tryBuy_10 : decode cX8_tryBuy 10 = .ok (.i2l, 1) := by decide +kernel
theorem dX8_tryBuy_11 : decode cX8_tryBuy 11 = .ok (.lconst 1, 1) := by decide +kernel
theorem dX8_tryBuy_12 : decode cX8_tryBuy 12 = .ok (.ldc2_w 108, 3) := by decide +kernel
theorem dX8_tryBuy_15 : decode cX8_tryBuy 15 = .ok (.invokestatic 53, 3) := by decide +kernel
theorem dX8_tryBuy_18 : decode cX8_tryBuy 18 = .ok (.ifCond .eq 15, 3) := by decide +kernel
theorem dX8_tryBuy_21 : decode cX8_tryBuy 21 = .ok (.iload_n 3, 1) := by decide +kernel
theorem dX8_tryBuy_22 : decode cX8_tryBuy 22 = .ok (.i2l, 1) := by decide +kernel
theorem dX8_tryBuy_23 : decode cX8_tryBuy 23 = .ok (.lconst 0, 1) := by decide +kernel
theorem dX8_tryBuy_24 : decode cX8_tryBuy 24 = .ok (.ldc2_w 110, 3) := by decide +kernel
theorem dX8_tryBuy_27 : decode cX8_tryBuy 27 = .ok (.invokestatic 53, 3) := by decide +kernel
theorem dX8_tryBuy_30 : decode cX8_tryBuy 30 = .ok (.ifCond .ne 6, 3) := by decide +kernel
theorem dX8_tryBuy_33 : decode cX8_tryBuy 33 = .ok (.bipush (-2), 2) := by decide +kernel
theorem dX8_tryBuy_35 : decode cX8_tryBuy 35 = .ok (.ireturn, 1) := by decide +kernel
theorem dX8_tryBuy_36 : decode cX8_tryBuy 36 = .ok (.aload_n 0, 1) := by decide +kernel
theorem dX8_tryBuy_37 : decode cX8_tryBuy 37 = .ok (.getfield 7, 3) := by decide +kernel
theorem dX8_tryBuy_40 : decode cX8_tryBuy 40 = .ok (.bipush 61, 2) := by decide +kernel
theorem dX8_tryBuy_42 : decode cX8_tryBuy 42 = .ok (.laload, 1) := by decide +kernel
theorem dX8_tryBuy_43 : decode cX8_tryBuy 43 = .ok (.ldc2_w 112, 3) := by decide +kernel
theorem dX8_tryBuy_46 : decode cX8_tryBuy 46 = .ok (.lcmp, 1) := by decide +kernel
theorem dX8_tryBuy_47 : decode cX8_tryBuy 47 = .ok (.ifCond .ne 6, 3) := by decide +kernel
theorem dX8_tryBuy_50 : decode cX8_tryBuy 50 = .ok (.bipush (-4), 2) := by decide +kernel
theorem dX8_tryBuy_52 : decode cX8_tryBuy 52 = .ok (.ireturn, 1) := by decide +kernel
theorem dX8_tryBuy_53 : decode cX8_tryBuy 53 = .ok (.aload_n 0, 1) := by decide +kernel
theorem dX8_tryBuy_54 : decode cX8_tryBuy 54 = .ok (.iload 4, 2) := by decide +kernel
theorem dX8_tryBuy_56 : decode cX8_tryBuy 56 = .ok (.invokevirtual 114, 3) := by decide +kernel
theorem dX8_tryBuy_59 : decode cX8_tryBuy 59 = .ok (.aload_n 0, 1) := by decide +kernel
theorem dX8_tryBuy_60 : decode cX8_tryBuy 60 = .ok (.bipush 61, 2) := by decide +kernel
theorem dX8_tryBuy_62 : decode cX8_tryBuy 62 = .ok (.iload_n 1, 1) := by decide +kernel
theorem dX8_tryBuy_63 : decode cX8_tryBuy 63 = .ok (.iload_n 2, 1) := by decide +kernel
theorem dX8_tryBuy_64 : decode cX8_tryBuy 64 = .ok (.i2l, 1) := by decide +kernel
theorem dX8_tryBuy_65 : decode cX8_tryBuy 65 = .ok (.iload_n 3, 1) := by decide +kernel
theorem dX8_tryBuy_66 : decode cX8_tryBuy 66 = .ok (.invokevirtual 118, 3) := by decide +kernel
theorem dX8_tryBuy_69 : decode cX8_tryBuy 69 = .ok (.l2i, 1) := by decide +kernel
theorem dX8_tryBuy_70 : decode cX8_tryBuy 70 = .ok (.ireturn, 1) := by decide +kernel
theorem dX8_buy_0 : decode cX8_buy 0 = .ok (.aload_n 0, 1) := by decide +kernel
theorem dX8_buy_1 : decode cX8_buy 1 = .ok (.iload_n 1, 1) := by decide +kernel
theorem dX8_buy_2 : decode cX8_buy 2 = .ok (.iload_n 2, 1) := by decide +kernel
theorem dX8_buy_3 : decode cX8_buy 3 = .ok (.iload_n 3, 1) := by decide +kernel
theorem dX8_buy_4 : decode cX8_buy 4 = .ok (.iconst 1, 1) := by decide +kernel
theorem dX8_buy_5 : decode cX8_buy 5 = .ok (.invokevirtual 122, 3) := by decide +kernel
theorem dX8_buy_8 : decode cX8_buy 8 = .ok (.ireturn, 1) := by decide +kernel
theorem dX8_tryLeave_0 : decode cX8_tryLeave 0 = .ok (.iload_n 1, 1) := by decide +kernel
theorem dX8_tryLeave_1 : decode cX8_tryLeave 1 = .ok (.invokestatic 104, 3) := by decide +kernel
theorem dX8_tryLeave_4 : decode cX8_tryLeave 4 = .ok (.ifCond .ne 5, 3) := by decide +kernel
theorem dX8_tryLeave_7 : decode cX8_tryLeave 7 = .ok (.iconst (-1), 1) := by decide +kernel
theorem dX8_tryLeave_8 : decode cX8_tryLeave 8 = .ok (.ireturn, 1) := by decide +kernel
theorem dX8_tryLeave_9 : decode cX8_tryLeave 9 = .ok (.iload_n 2, 1) := by decide +kernel
theorem dX8_tryLeave_10 : decode cX8_tryLeave 10 = .ok (.iconst 1, 1) := by decide +kernel
theorem dX8_tryLeave_11 : decode cX8_tryLeave 11 = .ok (.if_icmp .lt 15, 3) := by decide +kernel
theorem dX8_tryLeave_14 : decode cX8_tryLeave 14 = .ok (.iload_n 3, 1) := by decide +kernel
theorem dX8_tryLeave_15 : decode cX8_tryLeave 15 = .ok (.i2l, 1) := by decide +kernel
theorem dX8_tryLeave_16 : decode cX8_tryLeave 16 = .ok (.lconst 0, 1) := by decide +kernel
theorem dX8_tryLeave_17 : decode cX8_tryLeave 17 = .ok (.ldc2_w 110, 3) := by decide +kernel
theorem dX8_tryLeave_20 : decode cX8_tryLeave 20 = .ok (.invokestatic 53, 3) := by decide +kernel
theorem dX8_tryLeave_23 : decode cX8_tryLeave 23 = .ok (.ifCond .ne 6, 3) := by decide +kernel
theorem dX8_tryLeave_26 : decode cX8_tryLeave 26 = .ok (.bipush (-2), 2) := by decide +kernel
theorem dX8_tryLeave_28 : decode cX8_tryLeave 28 = .ok (.ireturn, 1) := by decide +kernel
theorem dX8_tryLeave_29 : decode cX8_tryLeave 29 = .ok (.aload_n 0, 1) := by decide +kernel
theorem dX8_tryLeave_30 : decode cX8_tryLeave 30 = .ok (.getfield 7, 3) := by decide +kernel
theorem dX8_tryLeave_33 : decode cX8_tryLeave 33 = .ok (.bipush 122, 2) := by decide +kernel
theorem dX8_tryLeave_35 : decode cX8_tryLeave 35 = .ok (.laload, 1) := by decide +kernel
theorem dX8_tryLeave_36 : decode cX8_tryLeave 36 = .ok (.ldc2_w 112, 3) := by decide +kernel
theorem dX8_tryLeave_39 : decode cX8_tryLeave 39 = .ok (.lcmp, 1) := by decide +kernel
theorem dX8_tryLeave_40 : decode cX8_tryLeave 40 = .ok (.ifCond .ne 6, 3) := by decide +kernel
theorem dX8_tryLeave_43 : decode cX8_tryLeave 43 = .ok (.bipush (-4), 2) := by decide +kernel
theorem dX8_tryLeave_45 : decode cX8_tryLeave 45 = .ok (.ireturn, 1) := by decide +kernel
theorem dX8_tryLeave_46 : decode cX8_tryLeave 46 = .ok (.aload_n 0, 1) := by decide +kernel
theorem dX8_tryLeave_47 : decode cX8_tryLeave 47 = .ok (.iload_n 1, 1) := by decide +kernel
theorem dX8_tryLeave_48 : decode cX8_tryLeave 48 = .ok (.invokevirtual 71, 3) := by decide +kernel
theorem dX8_tryLeave_51 : decode cX8_tryLeave 51 = .ok (.aload_n 0, 1) := by decide +kernel
theorem dX8_tryLeave_52 : decode cX8_tryLeave 52 = .ok (.iload_n 1, 1) := by decide +kernel
theorem dX8_tryLeave_53 : decode cX8_tryLeave 53 = .ok (.invokevirtual 126, 3) := by decide +kernel
theorem dX8_tryLeave_56 : decode cX8_tryLeave 56 = .ok (.lsub, 1) := by decide +kernel
theorem dX8_tryLeave_57 : decode cX8_tryLeave 57 = .ok (.iload_n 2, 1) := by decide +kernel
theorem dX8_tryLeave_58 : decode cX8_tryLeave 58 = .ok (.i2l, 1) := by decide +kernel
theorem dX8_tryLeave_59 : decode cX8_tryLeave 59 = .ok (.lcmp, 1) := by decide +kernel
theorem dX8_tryLeave_60 : decode cX8_tryLeave 60 = .ok (.ifCond .ge 6, 3) := by decide +kernel
theorem dX8_tryLeave_63 : decode cX8_tryLeave 63 = .ok (.bipush (-5), 2) := by decide +kernel
theorem dX8_tryLeave_65 : decode cX8_tryLeave 65 = .ok (.ireturn, 1) := by decide +kernel
theorem dX8_tryLeave_66 : decode cX8_tryLeave 66 = .ok (.aload_n 0, 1) := by decide +kernel
theorem dX8_tryLeave_67 : decode cX8_tryLeave 67 = .ok (.iload 4, 2) := by decide +kernel
theorem dX8_tryLeave_69 : decode cX8_tryLeave 69 = .ok (.invokevirtual 114, 3) := by decide +kernel
theorem dX8_tryLeave_72 : decode cX8_tryLeave 72 = .ok (.aload_n 0, 1) := by decide +kernel
theorem dX8_tryLeave_73 : decode cX8_tryLeave 73 = .ok (.bipush 122, 2) := by decide +kernel
theorem dX8_tryLeave_75 : decode cX8_tryLeave 75 = .ok (.iload_n 1, 1) := by decide +kernel
theorem dX8_tryLeave_76 : decode cX8_tryLeave 76 = .ok (.iload_n 2, 1) := by decide +kernel
theorem dX8_tryLeave_77 : decode cX8_tryLeave 77 = .ok (.i2l, 1) := by decide +kernel
theorem dX8_tryLeave_78 : decode cX8_tryLeave 78 = .ok (.iload_n 3, 1) := by decide +kernel
theorem dX8_tryLeave_79 : decode cX8_tryLeave 79 = .ok (.invokevirtual 118, 3) := by decide +kernel
theorem dX8_tryLeave_82 : decode cX8_tryLeave 82 = .ok (.l2i, 1) := by decide +kernel
theorem dX8_tryLeave_83 : decode cX8_tryLeave 83 = .ok (.ireturn, 1) := by decide +kernel
theorem dX8_leave_0 : decode cX8_leave 0 = .ok (.aload_n 0, 1) := by decide +kernel
theorem dX8_leave_1 : decode cX8_leave 1 = .ok (.iload_n 1, 1) := by decide +kernel
theorem dX8_leave_2 : decode cX8_leave 2 = .ok (.iload_n 2, 1) := by decide +kernel
theorem dX8_leave_3 : decode cX8_leave 3 = .ok (.iload_n 3, 1) := by decide +kernel
theorem dX8_leave_4 : decode cX8_leave 4 = .ok (.iconst 1, 1) := by decide +kernel
theorem dX8_leave_5 : decode cX8_leave 5 = .ok (.invokevirtual 129, 3) := by decide +kernel
theorem dX8_leave_8 : decode cX8_leave 8 = .ok (.ireturn, 1) := by decide +kernel
theorem dX8_inKind_0 : decode cX8_inKind 0 = .ok (.iload_n 1, 1) := by decide +kernel
theorem dX8_inKind_1 : decode cX8_inKind 1 = .ok (.invokestatic 104, 3) := by decide +kernel
theorem dX8_inKind_4 : decode cX8_inKind 4 = .ok (.ifCond .ne 5, 3) := by decide +kernel
theorem dX8_inKind_7 : decode cX8_inKind 7 = .ok (.iconst (-1), 1) := by decide +kernel
theorem dX8_inKind_8 : decode cX8_inKind 8 = .ok (.ireturn, 1) := by decide +kernel
theorem dX8_inKind_9 : decode cX8_inKind 9 = .ok (.iload_n 2, 1) := by decide +kernel
theorem dX8_inKind_10 : decode cX8_inKind 10 = .ok (.iconst 1, 1) := by decide +kernel
theorem dX8_inKind_11 : decode cX8_inKind 11 = .ok (.if_icmp .ge 6, 3) := by decide +kernel
theorem dX8_inKind_14 : decode cX8_inKind 14 = .ok (.bipush (-2), 2) := by decide +kernel
theorem dX8_inKind_16 : decode cX8_inKind 16 = .ok (.ireturn, 1) := by decide +kernel
theorem dX8_inKind_17 : decode cX8_inKind 17 = .ok (.aload_n 0, 1) := by decide +kernel
theorem dX8_inKind_18 : decode cX8_inKind 18 = .ok (.iload_n 1, 1) := by decide +kernel
theorem dX8_inKind_19 : decode cX8_inKind 19 = .ok (.invokevirtual 71, 3) := by decide +kernel
theorem dX8_inKind_22 : decode cX8_inKind 22 = .ok (.aload_n 0, 1) := by decide +kernel
theorem dX8_inKind_23 : decode cX8_inKind 23 = .ok (.iload_n 1, 1) := by decide +kernel
theorem dX8_inKind_24 : decode cX8_inKind 24 = .ok (.invokevirtual 126, 3) := by decide +kernel
theorem dX8_inKind_27 : decode cX8_inKind 27 = .ok (.lsub, 1) := by decide +kernel
theorem dX8_inKind_28 : decode cX8_inKind 28 = .ok (.iload_n 2, 1) := by decide +kernel
theorem dX8_inKind_29 : decode cX8_inKind 29 = .ok (.i2l, 1) := by decide +kernel
theorem dX8_inKind_30 : decode cX8_inKind 30 = .ok (.lcmp, 1) := by decide +kernel
theorem dX8_inKind_31 : decode cX8_inKind 31 = .ok (.ifCond .ge 6, 3) := by decide +kernel
theorem dX8_inKind_34 : decode cX8_inKind 34 = .ok (.bipush (-5), 2) := by decide +kernel
theorem dX8_inKind_36 : decode cX8_inKind 36 = .ok (.ireturn, 1) := by decide +kernel
theorem dX8_inKind_37 : decode cX8_inKind 37 = .ok (.aload_n 0, 1) := by decide +kernel
theorem dX8_inKind_38 : decode cX8_inKind 38 = .ok (.invokevirtual 68, 3) := by decide +kernel
theorem dX8_inKind_41 : decode cX8_inKind 41 = .ok (.iload_n 2, 1) := by decide +kernel
theorem dX8_inKind_42 : decode cX8_inKind 42 = .ok (.i2l, 1) := by decide +kernel
theorem dX8_inKind_43 : decode cX8_inKind 43 = .ok (.aload_n 0, 1) := by decide +kernel
theorem dX8_inKind_44 : decode cX8_inKind 44 = .ok (.getfield 7, 3) := by decide +kernel
theorem dX8_inKind_47 : decode cX8_inKind 47 = .ok (.bipush 6, 2) := by decide +kernel
theorem dX8_inKind_49 : decode cX8_inKind 49 = .ok (.laload, 1) := by decide +kernel
theorem dX8_inKind_50 : decode cX8_inKind 50 = .ok (.lmul, 1) := by decide +kernel
theorem dX8_inKind_51 : decode cX8_inKind 51 = .ok (.aload_n 0, 1) := by decide +kernel
theorem dX8_inKind_52 : decode cX8_inKind 52 = .ok (.invokevirtual 75, 3) := by decide +kernel
theorem dX8_inKind_55 : decode cX8_inKind 55 = .ok (.ldiv, 1) := by decide +kernel
theorem dX8_inKind_56 : decode cX8_inKind 56 = .ok (.lstore_n 3, 1) := by decide +kernel
theorem dX8_inKind_57 : decode cX8_inKind 57 = .ok (.iload_n 2, 1) := by decide +kernel
theorem dX8_inKind_58 : decode cX8_inKind 58 = .ok (.i2l, 1) := by decide +kernel
theorem dX8_inKind_59 : decode cX8_inKind 59 = .ok (.aload_n 0, 1) := by decide +kernel
theorem dX8_inKind_60 : decode cX8_inKind 60 = .ok (.getfield 7, 3) := by decide +kernel
theorem dX8_inKind_63 : decode cX8_inKind 63 = .ok (.iconst 5, 1) := by decide +kernel
theorem dX8_inKind_64 : decode cX8_inKind 64 = .ok (.laload, 1) := by decide +kernel
theorem dX8_inKind_65 : decode cX8_inKind 65 = .ok (.lmul, 1) := by decide +kernel
theorem dX8_inKind_66 : decode cX8_inKind 66 = .ok (.aload_n 0, 1) := by decide +kernel
theorem dX8_inKind_67 : decode cX8_inKind 67 = .ok (.invokevirtual 75, 3) := by decide +kernel
theorem dX8_inKind_70 : decode cX8_inKind 70 = .ok (.ldiv, 1) := by decide +kernel
theorem dX8_inKind_71 : decode cX8_inKind 71 = .ok (.lstore 5, 2) := by decide +kernel
theorem dX8_inKind_73 : decode cX8_inKind 73 = .ok (.aload_n 0, 1) := by decide +kernel
theorem dX8_inKind_74 : decode cX8_inKind 74 = .ok (.iload_n 1, 1) := by decide +kernel
theorem dX8_inKind_75 : decode cX8_inKind 75 = .ok (.iload_n 2, 1) := by decide +kernel
theorem dX8_inKind_76 : decode cX8_inKind 76 = .ok (.i2l, 1) := by decide +kernel
theorem dX8_inKind_77 : decode cX8_inKind 77 = .ok (.aload_n 0, 1) := by decide +kernel
theorem dX8_inKind_78 : decode cX8_inKind 78 = .ok (.invokevirtual 132, 3) := by decide +kernel
theorem dX8_inKind_81 : decode cX8_inKind 81 = .ok (.invokevirtual 135, 3) := by decide +kernel
theorem dX8_inKind_84 : decode cX8_inKind 84 = .ok (.aload_n 0, 1) := by decide +kernel
theorem dX8_inKind_85 : decode cX8_inKind 85 = .ok (.getfield 7, 3) := by decide +kernel
theorem dX8_inKind_88 : decode cX8_inKind 88 = .ok (.bipush 6, 2) := by decide +kernel
theorem dX8_inKind_90 : decode cX8_inKind 90 = .ok (.dup2, 1) := by decide +kernel
theorem dX8_inKind_91 : decode cX8_inKind 91 = .ok (.laload, 1) := by decide +kernel
theorem dX8_inKind_92 : decode cX8_inKind 92 = .ok (.lload_n 3, 1) := by decide +kernel
theorem dX8_inKind_93 : decode cX8_inKind 93 = .ok (.lsub, 1) := by decide +kernel
theorem dX8_inKind_94 : decode cX8_inKind 94 = .ok (.lastore, 1) := by decide +kernel
theorem dX8_inKind_95 : decode cX8_inKind 95 = .ok (.aload_n 0, 1) := by decide +kernel
theorem dX8_inKind_96 : decode cX8_inKind 96 = .ok (.getfield 7, 3) := by decide +kernel
theorem dX8_inKind_99 : decode cX8_inKind 99 = .ok (.iconst 5, 1) := by decide +kernel
theorem dX8_inKind_100 : decode cX8_inKind 100 = .ok (.dup2, 1) := by decide +kernel
theorem dX8_inKind_101 : decode cX8_inKind 101 = .ok (.laload, 1) := by decide +kernel
theorem dX8_inKind_102 : decode cX8_inKind 102 = .ok (.lload 5, 2) := by decide +kernel
theorem dX8_inKind_104 : decode cX8_inKind 104 = .ok (.lsub, 1) := by decide +kernel
theorem dX8_inKind_105 : decode cX8_inKind 105 = .ok (.lastore, 1) := by decide +kernel
theorem dX8_inKind_106 : decode cX8_inKind 106 = .ok (.aload_n 0, 1) := by decide +kernel
theorem dX8_inKind_107 : decode cX8_inKind 107 = .ok (.invokevirtual 94, 3) := by decide +kernel
theorem dX8_inKind_110 : decode cX8_inKind 110 = .ok (.aload_n 0, 1) := by decide +kernel
theorem dX8_inKind_111 : decode cX8_inKind 111 = .ok (.iload_n 1, 1) := by decide +kernel
theorem dX8_inKind_112 : decode cX8_inKind 112 = .ok (.bipush 6, 2) := by decide +kernel
theorem dX8_inKind_114 : decode cX8_inKind 114 = .ok (.lload_n 3, 1) := by decide +kernel
theorem dX8_inKind_115 : decode cX8_inKind 115 = .ok (.invokevirtual 90, 3) := by decide +kernel
theorem dX8_inKind_118 : decode cX8_inKind 118 = .ok (.aload_n 0, 1) := by decide +kernel
theorem dX8_inKind_119 : decode cX8_inKind 119 = .ok (.iload_n 1, 1) := by decide +kernel
theorem dX8_inKind_120 : decode cX8_inKind 120 = .ok (.iconst 3, 1) := by decide +kernel
theorem dX8_inKind_121 : decode cX8_inKind 121 = .ok (.lload 5, 2) := by decide +kernel
theorem dX8_inKind_123 : decode cX8_inKind 123 = .ok (.invokevirtual 90, 3) := by decide +kernel
theorem dX8_inKind_126 : decode cX8_inKind 126 = .ok (.lload_n 3, 1) := by decide +kernel
theorem dX8_inKind_127 : decode cX8_inKind 127 = .ok (.l2i, 1) := by decide +kernel
theorem dX8_inKind_128 : decode cX8_inKind 128 = .ok (.ireturn, 1) := by decide +kernel
theorem dX8_mayLeave_0 : decode cX8_mayLeave 0 = .ok (.aload_n 0, 1) := by decide +kernel
theorem dX8_mayLeave_1 : decode cX8_mayLeave 1 = .ok (.bipush 122, 2) := by decide +kernel
theorem dX8_mayLeave_3 : decode cX8_mayLeave 3 = .ok (.aload_n 0, 1) := by decide +kernel
theorem dX8_mayLeave_4 : decode cX8_mayLeave 4 = .ok (.getfield 7, 3) := by decide +kernel
theorem dX8_mayLeave_7 : decode cX8_mayLeave 7 = .ok (.bipush 10, 2) := by decide +kernel
theorem dX8_mayLeave_9 : decode cX8_mayLeave 9 = .ok (.laload, 1) := by decide +kernel
theorem dX8_mayLeave_10 : decode cX8_mayLeave 10 = .ok (.invokevirtual 139, 3) := by decide +kernel
theorem dX8_mayLeave_13 : decode cX8_mayLeave 13 = .ok (.lstore_n 1, 1) := by decide +kernel
theorem dX8_mayLeave_14 : decode cX8_mayLeave 14 = .ok (.aload_n 0, 1) := by decide +kernel
theorem dX8_mayLeave_15 : decode cX8_mayLeave 15 = .ok (.getfield 7, 3) := by decide +kernel
theorem dX8_mayLeave_18 : decode cX8_mayLeave 18 = .ok (.iconst 3, 1) := by decide +kernel
theorem dX8_mayLeave_19 : decode cX8_mayLeave 19 = .ok (.laload, 1) := by decide +kernel
theorem dX8_mayLeave_20 : decode cX8_mayLeave 20 = .ok (.aload_n 0, 1) := by decide +kernel
theorem dX8_mayLeave_21 : decode cX8_mayLeave 21 = .ok (.invokevirtual 75, 3) := by decide +kernel
theorem dX8_mayLeave_24 : decode cX8_mayLeave 24 = .ok (.lmul, 1) := by decide +kernel
theorem dX8_mayLeave_25 : decode cX8_mayLeave 25 = .ok (.ldc2_w 49, 3) := by decide +kernel
theorem dX8_mayLeave_28 : decode cX8_mayLeave 28 = .ok (.ldiv, 1) := by decide +kernel
theorem dX8_mayLeave_29 : decode cX8_mayLeave 29 = .ok (.lstore_n 3, 1) := by decide +kernel
theorem dX8_mayLeave_30 : decode cX8_mayLeave 30 = .ok (.lload_n 1, 1) := by decide +kernel
theorem dX8_mayLeave_31 : decode cX8_mayLeave 31 = .ok (.lload_n 3, 1) := by decide +kernel
theorem dX8_mayLeave_32 : decode cX8_mayLeave 32 = .ok (.lcmp, 1) := by decide +kernel
theorem dX8_mayLeave_33 : decode cX8_mayLeave 33 = .ok (.ifCond .ge 7, 3) := by decide +kernel
theorem dX8_mayLeave_36 : decode cX8_mayLeave 36 = .ok (.lload_n 1, 1) := by decide +kernel
theorem dX8_mayLeave_37 : decode cX8_mayLeave 37 = .ok (.goto 4, 3) := by decide +kernel
theorem dX8_mayLeave_40 : decode cX8_mayLeave 40 = .ok (.lload_n 3, 1) := by decide +kernel
theorem dX8_mayLeave_41 : decode cX8_mayLeave 41 = .ok (.lreturn, 1) := by decide +kernel
theorem dX8_swing_0 : decode cX8_swing 0 = .ok (.aload_n 0, 1) := by decide +kernel
theorem dX8_swing_1 : decode cX8_swing 1 = .ok (.bipush 61, 2) := by decide +kernel
theorem dX8_swing_3 : decode cX8_swing 3 = .ok (.aload_n 0, 1) := by decide +kernel
theorem dX8_swing_4 : decode cX8_swing 4 = .ok (.getfield 7, 3) := by decide +kernel
theorem dX8_swing_7 : decode cX8_swing 7 = .ok (.bipush 10, 2) := by decide +kernel
theorem dX8_swing_9 : decode cX8_swing 9 = .ok (.laload, 1) := by decide +kernel
theorem dX8_swing_10 : decode cX8_swing 10 = .ok (.invokevirtual 139, 3) := by decide +kernel
theorem dX8_swing_13 : decode cX8_swing 13 = .ok (.aload_n 0, 1) := by decide +kernel
theorem dX8_swing_14 : decode cX8_swing 14 = .ok (.invokevirtual 143, 3) := by decide +kernel
theorem dX8_swing_17 : decode cX8_swing 17 = .ok (.aload_n 0, 1) := by decide +kernel
theorem dX8_swing_18 : decode cX8_swing 18 = .ok (.invokevirtual 146, 3) := by decide +kernel
theorem dX8_swing_21 : decode cX8_swing 21 = .ok (.lmul, 1) := by decide +kernel
theorem dX8_swing_22 : decode cX8_swing 22 = .ok (.ldc2_w 49, 3) := by decide +kernel
theorem dX8_swing_25 : decode cX8_swing 25 = .ok (.ldiv, 1) := by decide +kernel
theorem dX8_swing_26 : decode cX8_swing 26 = .ok (.lsub, 1) := by decide +kernel
theorem dX8_swing_27 : decode cX8_swing 27 = .ok (.lstore_n 1, 1) := by decide +kernel
theorem dX8_swing_28 : decode cX8_swing 28 = .ok (.aload_n 0, 1) := by decide +kernel
theorem dX8_swing_29 : decode cX8_swing 29 = .ok (.getfield 7, 3) := by decide +kernel
theorem dX8_swing_32 : decode cX8_swing 32 = .ok (.iconst 1, 1) := by decide +kernel
theorem dX8_swing_33 : decode cX8_swing 33 = .ok (.laload, 1) := by decide +kernel
theorem dX8_swing_34 : decode cX8_swing 34 = .ok (.aload_n 0, 1) := by decide +kernel
theorem dX8_swing_35 : decode cX8_swing 35 = .ok (.invokevirtual 81, 3) := by decide +kernel
theorem dX8_swing_38 : decode cX8_swing 38 = .ok (.lmul, 1) := by decide +kernel
theorem dX8_swing_39 : decode cX8_swing 39 = .ok (.lstore_n 3, 1) := by decide +kernel
theorem dX8_swing_40 : decode cX8_swing 40 = .ok (.aload_n 0, 1) := by decide +kernel
theorem dX8_swing_41 : decode cX8_swing 41 = .ok (.invokevirtual 75, 3) := by decide +kernel
theorem dX8_swing_44 : decode cX8_swing 44 = .ok (.lconst 0, 1) := by decide +kernel
theorem dX8_swing_45 : decode cX8_swing 45 = .ok (.lcmp, 1) := by decide +kernel
theorem dX8_swing_46 : decode cX8_swing 46 = .ok (.ifCond .ne 5, 3) := by decide +kernel
theorem dX8_swing_49 : decode cX8_swing 49 = .ok (.iconst 2, 1) := by decide +kernel
theorem dX8_swing_50 : decode cX8_swing 50 = .ok (.ireturn, 1) := by decide +kernel
theorem dX8_swing_51 : decode cX8_swing 51 = .ok (.lload_n 1, 1) := by decide +kernel
theorem dX8_swing_52 : decode cX8_swing 52 = .ok (.lconst 0, 1) := by decide +kernel
theorem dX8_swing_53 : decode cX8_swing 53 = .ok (.lcmp, 1) := by decide +kernel
theorem dX8_swing_54 : decode cX8_swing 54 = .ok (.ifCond .le 17, 3) := by decide +kernel
theorem dX8_swing_57 : decode cX8_swing 57 = .ok (.ldc2_w 49, 3) := by decide +kernel
theorem dX8_swing_60 : decode cX8_swing 60 = .ok (.lload_n 1, 1) := by decide +kernel
theorem dX8_swing_61 : decode cX8_swing 61 = .ok (.lmul, 1) := by decide +kernel
theorem dX8_swing_62 : decode cX8_swing 62 = .ok (.lload_n 3, 1) := by decide +kernel
theorem dX8_swing_63 : decode cX8_swing 63 = .ok (.lcmp, 1) := by decide +kernel
theorem dX8_swing_64 : decode cX8_swing 64 = .ok (.ifCond .le 7, 3) := by decide +kernel
theorem dX8_swing_67 : decode cX8_swing 67 = .ok (.iconst 3, 1) := by decide +kernel
theorem dX8_swing_68 : decode cX8_swing 68 = .ok (.goto 25, 3) := by decide +kernel
theorem dX8_swing_71 : decode cX8_swing 71 = .ok (.lload_n 1, 1) := by decide +kernel
theorem dX8_swing_72 : decode cX8_swing 72 = .ok (.lconst 0, 1) := by decide +kernel
theorem dX8_swing_73 : decode cX8_swing 73 = .ok (.lcmp, 1) := by decide +kernel
theorem dX8_swing_74 : decode cX8_swing 74 = .ok (.ifCond .ge 18, 3) := by decide +kernel
theorem dX8_swing_77 : decode cX8_swing 77 = .ok (.ldc2_w 49, 3) := by decide +kernel
theorem dX8_swing_80 : decode cX8_swing 80 = .ok (.lload_n 1, 1) := by decide +kernel
theorem dX8_swing_81 : decode cX8_swing 81 = .ok (.lmul, 1) := by decide +kernel
theorem dX8_swing_82 : decode cX8_swing 82 = .ok (.lload_n 3, 1) := by decide +kernel
theorem dX8_swing_83 : decode cX8_swing 83 = .ok (.lneg, 1) := by decide +kernel
theorem dX8_swing_84 : decode cX8_swing 84 = .ok (.lcmp, 1) := by decide +kernel
theorem dX8_swing_85 : decode cX8_swing 85 = .ok (.ifCond .ge 7, 3) := by decide +kernel
theorem dX8_swing_88 : decode cX8_swing 88 = .ok (.iconst 1, 1) := by decide +kernel
theorem dX8_swing_89 : decode cX8_swing 89 = .ok (.goto 4, 3) := by decide +kernel
theorem dX8_swing_92 : decode cX8_swing 92 = .ok (.iconst 2, 1) := by decide +kernel
theorem dX8_swing_93 : decode cX8_swing 93 = .ok (.ireturn, 1) := by decide +kernel
theorem dX8_priceNow_0 : decode cX8_priceNow 0 = .ok (.aload_n 0, 1) := by decide +kernel
theorem dX8_priceNow_1 : decode cX8_priceNow 1 = .ok (.invokevirtual 146, 3) := by decide +kernel
theorem dX8_priceNow_4 : decode cX8_priceNow 4 = .ok (.ldc2_w 49, 3) := by decide +kernel
theorem dX8_priceNow_7 : decode cX8_priceNow 7 = .ok (.aload_n 0, 1) := by decide +kernel
theorem dX8_priceNow_8 : decode cX8_priceNow 8 = .ok (.invokevirtual 149, 3) := by decide +kernel
theorem dX8_priceNow_11 : decode cX8_priceNow 11 = .ok (.iconst 2, 1) := by decide +kernel
theorem dX8_priceNow_12 : decode cX8_priceNow 12 = .ok (.isub, 1) := by decide +kernel
theorem dX8_priceNow_13 : decode cX8_priceNow 13 = .ok (.i2l, 1) := by decide +kernel
theorem dX8_priceNow_14 : decode cX8_priceNow 14 = .ok (.aload_n 0, 1) := by decide +kernel
theorem dX8_priceNow_15 : decode cX8_priceNow 15 = .ok (.getfield 7, 3) := by decide +kernel
theorem dX8_priceNow_18 : decode cX8_priceNow 18 = .ok (.iconst 2, 1) := by decide +kernel
theorem dX8_priceNow_19 : decode cX8_priceNow 19 = .ok (.laload, 1) := by decide +kernel
theorem dX8_priceNow_20 : decode cX8_priceNow 20 = .ok (.lmul, 1) := by decide +kernel
theorem dX8_priceNow_21 : decode cX8_priceNow 21 = .ok (.ladd, 1) := by decide +kernel
theorem dX8_priceNow_22 : decode cX8_priceNow 22 = .ok (.lmul, 1) := by decide +kernel
theorem dX8_priceNow_23 : decode cX8_priceNow 23 = .ok (.ldc2_w 49, 3) := by decide +kernel
theorem dX8_priceNow_26 : decode cX8_priceNow 26 = .ok (.ldiv, 1) := by decide +kernel
theorem dX8_priceNow_27 : decode cX8_priceNow 27 = .ok (.lreturn, 1) := by decide +kernel
theorem dX8_shareDay_0 : decode cX8_shareDay 0 = .ok (.lconst 0, 1) := by decide +kernel
theorem dX8_shareDay_1 : decode cX8_shareDay 1 = .ok (.lstore 5, 2) := by decide +kernel
theorem dX8_shareDay_3 : decode cX8_shareDay 3 = .ok (.iload_n 1, 1) := by decide +kernel
theorem dX8_shareDay_4 : decode cX8_shareDay 4 = .ok (.istore 7, 2) := by decide +kernel
theorem dX8_shareDay_6 : decode cX8_shareDay 6 = .ok (.iload 7, 2) := by decide +kernel
theorem dX8_shareDay_8 : decode cX8_shareDay 8 = .ok (.iload_n 2, 1) := by decide +kernel
theorem dX8_shareDay_9 : decode cX8_shareDay 9 = .ok (.if_icmp .ge 23, 3) := by decide +kernel
theorem dX8_shareDay_12 : decode cX8_shareDay 12 = .ok (.lload 5, 2) := by decide +kernel
theorem dX8_shareDay_14 : decode cX8_shareDay 14 = .ok (.aload_n 0, 1) := by decide +kernel
theorem dX8_shareDay_15 : decode cX8_shareDay 15 = .ok (.bipush 122, 2) := by decide +kernel
theorem dX8_shareDay_17 : decode cX8_shareDay 17 = .ok (.iload 7, 2) := by decide +kernel
theorem dX8_shareDay_19 : decode cX8_shareDay 19 = .ok (.iconst 1, 1) := by decide +kernel
theorem dX8_shareDay_20 : decode cX8_shareDay 20 = .ok (.invokevirtual 86, 3) := by decide +kernel
theorem dX8_shareDay_23 : decode cX8_shareDay 23 = .ok (.ladd, 1) := by decide +kernel
theorem dX8_shareDay_24 : decode cX8_shareDay 24 = .ok (.lstore 5, 2) := by decide +kernel
theorem dX8_shareDay_26 : decode cX8_shareDay 26 = .ok (.iinc 7 1, 3) := by decide +kernel
theorem dX8_shareDay_29 : decode cX8_shareDay 29 = .ok (.goto (-23), 3) := by decide +kernel
theorem dX8_shareDay_32 : decode cX8_shareDay 32 = .ok (.lload_n 3, 1) := by decide +kernel
theorem dX8_shareDay_33 : decode cX8_shareDay 33 = .ok (.lstore 7, 2) := by decide +kernel
theorem dX8_shareDay_35 : decode cX8_shareDay 35 = .ok (.iload_n 1, 1) := by decide +kernel
theorem dX8_shareDay_36 : decode cX8_shareDay 36 = .ok (.istore 9, 2) := by decide +kernel
theorem dX8_shareDay_38 : decode cX8_shareDay 38 = .ok (.iload 9, 2) := by decide +kernel
theorem dX8_shareDay_40 : decode cX8_shareDay 40 = .ok (.iload_n 2, 1) := by decide +kernel
theorem dX8_shareDay_41 : decode cX8_shareDay 41 = .ok (.if_icmp .ge 58, 3) := by decide +kernel
theorem dX8_shareDay_44 : decode cX8_shareDay 44 = .ok (.aload_n 0, 1) := by decide +kernel
theorem dX8_shareDay_45 : decode cX8_shareDay 45 = .ok (.bipush 122, 2) := by decide +kernel
theorem dX8_shareDay_47 : decode cX8_shareDay 47 = .ok (.iload 9, 2) := by decide +kernel
theorem dX8_shareDay_49 : decode cX8_shareDay 49 = .ok (.iconst 1, 1) := by decide +kernel
theorem dX8_shareDay_50 : decode cX8_shareDay 50 = .ok (.invokevirtual 86, 3) := by decide +kernel
theorem dX8_shareDay_53 : decode cX8_shareDay 53 = .ok (.lstore 10, 2) := by decide +kernel
theorem dX8_shareDay_55 : decode cX8_shareDay 55 = .ok (.aload_n 0, 1) := by decide +kernel
theorem dX8_shareDay_56 : decode cX8_shareDay 56 = .ok (.getfield 26, 3) := by decide +kernel
theorem dX8_shareDay_59 : decode cX8_shareDay 59 = .ok (.iload 9, 2) := by decide +kernel
theorem dX8_shareDay_61 : decode cX8_shareDay 61 = .ok (.lload 5, 2) := by decide +kernel
theorem dX8_shareDay_63 : decode cX8_shareDay 63 = .ok (.lload_n 3, 1) := by decide +kernel
theorem dX8_shareDay_64 : decode cX8_shareDay 64 = .ok (.lcmp, 1) := by decide +kernel
theorem dX8_shareDay_65 : decode cX8_shareDay 65 = .ok (.ifCond .gt 8, 3) := by decide +kernel
theorem dX8_shareDay_68 : decode cX8_shareDay 68 = .ok (.lload 10, 2) := by decide +kernel
theorem dX8_shareDay_70 : decode cX8_shareDay 70 = .ok (.goto 10, 3) := by decide +kernel
theorem dX8_shareDay_73 : decode cX8_shareDay 73 = .ok (.lload 10, 2) := by decide +kernel
theorem dX8_shareDay_75 : decode cX8_shareDay 75 = .ok (.lload_n 3, 1) := by decide +kernel
theorem dX8_shareDay_76 : decode cX8_shareDay 76 = .ok (.lmul, 1) := by decide +kernel
theorem dX8_shareDay_77 : decode cX8_shareDay 77 = .ok (.lload 5, 2) := by decide +kernel
theorem dX8_shareDay_79 : decode cX8_shareDay 79 = .ok (.ldiv, 1) := by decide +kernel
theorem dX8_shareDay_80 : decode cX8_shareDay 80 = .ok (.lastore, 1) := by decide +kernel
theorem dX8_shareDay_81 : decode cX8_shareDay 81 = .ok (.lload 7, 2) := by decide +kernel
theorem dX8_shareDay_83 : decode cX8_shareDay 83 = .ok (.aload_n 0, 1) := by decide +kernel
theorem dX8_shareDay_84 : decode cX8_shareDay 84 = .ok (.getfield 26, 3) := by decide +kernel
theorem dX8_shareDay_87 : decode cX8_shareDay 87 = .ok (.iload 9, 2) := by decide +kernel
theorem dX8_shareDay_89 : decode cX8_shareDay 89 = .ok (.laload, 1) := by decide +kernel
theorem dX8_shareDay_90 : decode cX8_shareDay 90 = .ok (.lsub, 1) := by decide +kernel
theorem dX8_shareDay_91 : decode cX8_shareDay 91 = .ok (.lstore 7, 2) := by decide +kernel
theorem dX8_shareDay_93 : decode cX8_shareDay 93 = .ok (.iinc 9 1, 3) := by decide +kernel
theorem dX8_shareDay_96 : decode cX8_shareDay 96 = .ok (.goto (-58), 3) := by decide +kernel
theorem dX8_shareDay_99 : decode cX8_shareDay 99 = .ok (.iload_n 1, 1) := by decide +kernel
theorem dX8_shareDay_100 : decode cX8_shareDay 100 = .ok (.istore 9, 2) := by decide +kernel
theorem dX8_shareDay_102 : decode cX8_shareDay 102 = .ok (.iload 9, 2) := by decide +kernel
theorem dX8_shareDay_104 : decode cX8_shareDay 104 = .ok (.iload_n 2, 1) := by decide +kernel
theorem dX8_shareDay_105 : decode cX8_shareDay 105 = .ok (.if_icmp .ge 40, 3) := by decide +kernel
theorem dX8_shareDay_108 : decode cX8_shareDay 108 = .ok (.lload 5, 2) := by decide +kernel
theorem dX8_shareDay_110 : decode cX8_shareDay 110 = .ok (.lload_n 3, 1) := by decide +kernel
theorem dX8_shareDay_111 : decode cX8_shareDay 111 = .ok (.lcmp, 1) := by decide +kernel
theorem dX8_shareDay_112 : decode cX8_shareDay 112 = .ok (.ifCond .le 33, 3) := by decide +kernel
theorem dX8_shareDay_115 : decode cX8_shareDay 115 = .ok (.lload 7, 2) := by decide +kernel
theorem dX8_shareDay_117 : decode cX8_shareDay 117 = .ok (.lconst 0, 1) := by decide +kernel
theorem dX8_shareDay_118 : decode cX8_shareDay 118 = .ok (.lcmp, 1) := by decide +kernel
theorem dX8_shareDay_119 : decode cX8_shareDay 119 = .ok (.ifCond .le 26, 3) := by decide +kernel
theorem dX8_shareDay_122 : decode cX8_shareDay 122 = .ok (.aload_n 0, 1) := by decide +kernel
theorem dX8_shareDay_123 : decode cX8_shareDay 123 = .ok (.getfield 26, 3) := by decide +kernel
theorem dX8_shareDay_126 : decode cX8_shareDay 126 = .ok (.iload 9, 2) := by decide +kernel
theorem dX8_shareDay_128 : decode cX8_shareDay 128 = .ok (.dup2, 1) := by decide +kernel
theorem dX8_shareDay_129 : decode cX8_shareDay 129 = .ok (.laload, 1) := by decide +kernel
theorem dX8_shareDay_130 : decode cX8_shareDay 130 = .ok (.lconst 1, 1) := by decide +kernel
theorem dX8_shareDay_131 : decode cX8_shareDay 131 = .ok (.ladd, 1) := by decide +kernel
theorem dX8_shareDay_132 : decode cX8_shareDay 132 = .ok (.lastore, 1) := by decide +kernel
theorem dX8_shareDay_133 : decode cX8_shareDay 133 = .ok (.lload 7, 2) := by decide +kernel
theorem dX8_shareDay_135 : decode cX8_shareDay 135 = .ok (.lconst 1, 1) := by decide +kernel
theorem dX8_shareDay_136 : decode cX8_shareDay 136 = .ok (.lsub, 1) := by decide +kernel
theorem dX8_shareDay_137 : decode cX8_shareDay 137 = .ok (.lstore 7, 2) := by decide +kernel
theorem dX8_shareDay_139 : decode cX8_shareDay 139 = .ok (.iinc 9 1, 3) := by decide +kernel
theorem dX8_shareDay_142 : decode cX8_shareDay 142 = .ok (.goto (-40), 3) := by decide +kernel
theorem dX8_shareDay_145 : decode cX8_shareDay 145 = .ok (.lload 7, 2) := by decide +kernel
theorem dX8_shareDay_147 : decode cX8_shareDay 147 = .ok (.lreturn, 1) := by decide +kernel
theorem dX8_shareOut_0 : decode cX8_shareOut 0 = .ok (.lload_n 1, 1) := by decide +kernel
theorem dX8_shareOut_1 : decode cX8_shareOut 1 = .ok (.lstore_n 3, 1) := by decide +kernel
theorem dX8_shareOut_2 : decode cX8_shareOut 2 = .ok (.iconst 0, 1) := by decide +kernel
theorem dX8_shareOut_3 : decode cX8_shareOut 3 = .ok (.istore 5, 2) := by decide +kernel
theorem dX8_shareOut_5 : decode cX8_shareOut 5 = .ok (.iconst 0, 1) := by decide +kernel
theorem dX8_shareOut_6 : decode cX8_shareOut 6 = .ok (.istore 6, 2) := by decide +kernel
theorem dX8_shareOut_8 : decode cX8_shareOut 8 = .ok (.iload 6, 2) := by decide +kernel
theorem dX8_shareOut_10 : decode cX8_shareOut 10 = .ok (.bipush 20, 2) := by decide +kernel
theorem dX8_shareOut_12 : decode cX8_shareOut 12 = .ok (.if_icmp .ge 17, 3) := by decide +kernel
theorem dX8_shareOut_15 : decode cX8_shareOut 15 = .ok (.aload_n 0, 1) := by decide +kernel
theorem dX8_shareOut_16 : decode cX8_shareOut 16 = .ok (.getfield 26, 3) := by decide +kernel
theorem dX8_shareOut_19 : decode cX8_shareOut 19 = .ok (.iload 6, 2) := by decide +kernel
theorem dX8_shareOut_21 : decode cX8_shareOut 21 = .ok (.lconst 0, 1) := by decide +kernel
theorem dX8_shareOut_22 : decode cX8_shareOut 22 = .ok (.lastore, 1) := by decide +kernel
theorem dX8_shareOut_23 : decode cX8_shareOut 23 = .ok (.iinc 6 1, 3) := by decide +kernel
theorem dX8_shareOut_26 : decode cX8_shareOut 26 = .ok (.goto (-18), 3) := by decide +kernel
theorem dX8_shareOut_29 : decode cX8_shareOut 29 = .ok (.iload 5, 2) := by decide +kernel
theorem dX8_shareOut_31 : decode cX8_shareOut 31 = .ok (.i2l, 1) := by decide +kernel
theorem dX8_shareOut_32 : decode cX8_shareOut 32 = .ok (.aload_n 0, 1) := by decide +kernel
theorem dX8_shareOut_33 : decode cX8_shareOut 33 = .ok (.getfield 7, 3) := by decide +kernel
theorem dX8_shareOut_36 : decode cX8_shareOut 36 = .ok (.bipush 122, 2) := by decide +kernel
theorem dX8_shareOut_38 : decode cX8_shareOut 38 = .ok (.laload, 1) := by decide +kernel
theorem dX8_shareOut_39 : decode cX8_shareOut 39 = .ok (.lcmp, 1) := by decide +kernel
theorem dX8_shareOut_40 : decode cX8_shareOut 40 = .ok (.ifCond .ge 88, 3) := by decide +kernel
theorem dX8_shareOut_43 : decode cX8_shareOut 43 = .ok (.aload_n 0, 1) := by decide +kernel
theorem dX8_shareOut_44 : decode cX8_shareOut 44 = .ok (.bipush 122, 2) := by decide +kernel
theorem dX8_shareOut_46 : decode cX8_shareOut 46 = .ok (.iload 5, 2) := by decide +kernel
theorem dX8_shareOut_48 : decode cX8_shareOut 48 = .ok (.iconst 2, 1) := by decide +kernel
theorem dX8_shareOut_49 : decode cX8_shareOut 49 = .ok (.invokevirtual 86, 3) := by decide +kernel
theorem dX8_shareOut_52 : decode cX8_shareOut 52 = .ok (.aload_n 0, 1) := by decide +kernel
theorem dX8_shareOut_53 : decode cX8_shareOut 53 = .ok (.getfield 7, 3) := by decide +kernel
theorem dX8_shareOut_56 : decode cX8_shareOut 56 = .ok (.bipush 10, 2) := by decide +kernel
theorem dX8_shareOut_58 : decode cX8_shareOut 58 = .ok (.laload, 1) := by decide +kernel
theorem dX8_shareOut_59 : decode cX8_shareOut 59 = .ok (.lcmp, 1) := by decide +kernel
theorem dX8_shareOut_60 : decode cX8_shareOut 60 = .ok (.ifCond .gt 68, 3) := by decide +kernel
theorem dX8_shareOut_63 : decode cX8_shareOut 63 = .ok (.iload 5, 2) := by decide +kernel
theorem dX8_shareOut_65 : decode cX8_shareOut 65 = .ok (.iconst 1, 1) := by decide +kernel
theorem dX8_shareOut_66 : decode cX8_shareOut 66 = .ok (.iadd, 1) := by decide +kernel
theorem dX8_shareOut_67 : decode cX8_shareOut 67 = .ok (.istore 6, 2) := by decide +kernel
theorem dX8_shareOut_69 : decode cX8_shareOut 69 = .ok (.iload 6, 2) := by decide +kernel
theorem dX8_shareOut_71 : decode cX8_shareOut 71 = .ok (.i2l, 1) := by decide +kernel
theorem dX8_shareOut_72 : decode cX8_shareOut 72 = .ok (.aload_n 0, 1) := by decide +kernel
theorem dX8_shareOut_73 : decode cX8_shareOut 73 = .ok (.getfield 7, 3) := by decide +kernel
theorem dX8_shareOut_76 : decode cX8_shareOut 76 = .ok (.bipush 122, 2) := by decide +kernel
theorem dX8_shareOut_78 : decode cX8_shareOut 78 = .ok (.laload, 1) := by decide +kernel
theorem dX8_shareOut_79 : decode cX8_shareOut 79 = .ok (.lcmp, 1) := by decide +kernel
theorem dX8_shareOut_80 : decode cX8_shareOut 80 = .ok (.ifCond .ge 31, 3) := by decide +kernel
theorem dX8_shareOut_83 : decode cX8_shareOut 83 = .ok (.aload_n 0, 1) := by decide +kernel
theorem dX8_shareOut_84 : decode cX8_shareOut 84 = .ok (.bipush 122, 2) := by decide +kernel
theorem dX8_shareOut_86 : decode cX8_shareOut 86 = .ok (.iload 6, 2) := by decide +kernel
theorem dX8_shareOut_88 : decode cX8_shareOut 88 = .ok (.iconst 2, 1) := by decide +kernel
theorem dX8_shareOut_89 : decode cX8_shareOut 89 = .ok (.invokevirtual 86, 3) := by decide +kernel
theorem dX8_shareOut_92 : decode cX8_shareOut 92 = .ok (.aload_n 0, 1) := by decide +kernel
theorem dX8_shareOut_93 : decode cX8_shareOut 93 = .ok (.bipush 122, 2) := by decide +kernel
theorem dX8_shareOut_95 : decode cX8_shareOut 95 = .ok (.iload 5, 2) := by decide +kernel
theorem dX8_shareOut_97 : decode cX8_shareOut 97 = .ok (.iconst 2, 1) := by decide +kernel
theorem dX8_shareOut_98 : decode cX8_shareOut 98 = .ok (.invokevirtual 86, 3) := by decide +kernel
theorem dX8_shareOut_101 : decode cX8_shareOut 101 = .ok (.lcmp, 1) := by decide +kernel
theorem dX8_shareOut_102 : decode cX8_shareOut 102 = .ok (.ifCond .ne 9, 3) := by decide +kernel
theorem dX8_shareOut_105 : decode cX8_shareOut 105 = .ok (.iinc 6 1, 3) := by decide +kernel
theorem dX8_shareOut_108 : decode cX8_shareOut 108 = .ok (.goto (-39), 3) := by decide +kernel
theorem dX8_shareOut_111 : decode cX8_shareOut 111 = .ok (.aload_n 0, 1) := by decide +kernel
theorem dX8_shareOut_112 : decode cX8_shareOut 112 = .ok (.iload 5, 2) := by decide +kernel
theorem dX8_shareOut_114 : decode cX8_shareOut 114 = .ok (.iload 6, 2) := by decide +kernel
theorem dX8_shareOut_116 : decode cX8_shareOut 116 = .ok (.lload_n 3, 1) := by decide +kernel
theorem dX8_shareOut_117 : decode cX8_shareOut 117 = .ok (.invokevirtual 153, 3) := by decide +kernel
theorem dX8_shareOut_120 : decode cX8_shareOut 120 = .ok (.lstore_n 3, 1) := by decide +kernel
theorem dX8_shareOut_121 : decode cX8_shareOut 121 = .ok (.iload 6, 2) := by decide +kernel
theorem dX8_shareOut_123 : decode cX8_shareOut 123 = .ok (.istore 5, 2) := by decide +kernel
theorem dX8_shareOut_125 : decode cX8_shareOut 125 = .ok (.goto (-96), 3) := by decide +kernel
theorem dX8_shareOut_128 : decode cX8_shareOut 128 = .ok (.return_, 1) := by decide +kernel
theorem dX8_sellFor_0 : decode cX8_sellFor 0 = .ok (.aload_n 0, 1) := by decide +kernel
theorem dX8_sellFor_1 : decode cX8_sellFor 1 = .ok (.getfield 7, 3) := by decide +kernel
theorem dX8_sellFor_4 : decode cX8_sellFor 4 = .ok (.iconst 5, 1) := by decide +kernel
theorem dX8_sellFor_5 : decode cX8_sellFor 5 = .ok (.laload, 1) := by decide +kernel
theorem dX8_sellFor_6 : decode cX8_sellFor 6 = .ok (.lload_n 1, 1) := by decide +kernel
theorem dX8_sellFor_7 : decode cX8_sellFor 7 = .ok (.lcmp, 1) := by decide +kernel
theorem dX8_sellFor_8 : decode cX8_sellFor 8 = .ok (.ifCond .ge 61, 3) := by decide +kernel
theorem dX8_sellFor_11 : decode cX8_sellFor 11 = .ok (.aload_n 0, 1) := by decide +kernel
theorem dX8_sellFor_12 : decode cX8_sellFor 12 = .ok (.getfield 7, 3) := by decide +kernel
theorem dX8_sellFor_15 : decode cX8_sellFor 15 = .ok (.bipush 6, 2) := by decide +kernel
theorem dX8_sellFor_17 : decode cX8_sellFor 17 = .ok (.laload, 1) := by decide +kernel
theorem dX8_sellFor_18 : decode cX8_sellFor 18 = .ok (.lconst 0, 1) := by decide +kernel
theorem dX8_sellFor_19 : decode cX8_sellFor 19 = .ok (.lcmp, 1) := by decide +kernel
theorem dX8_sellFor_20 : decode cX8_sellFor 20 = .ok (.ifCond .le 49, 3) := by decide +kernel
theorem dX8_sellFor_23 : decode cX8_sellFor 23 = .ok (.aload_n 0, 1) := by decide +kernel
theorem dX8_sellFor_24 : decode cX8_sellFor 24 = .ok (.getfield 7, 3) := by decide +kernel
theorem dX8_sellFor_27 : decode cX8_sellFor 27 = .ok (.bipush 6, 2) := by decide +kernel
theorem dX8_sellFor_29 : decode cX8_sellFor 29 = .ok (.dup2, 1) := by decide +kernel
theorem dX8_sellFor_30 : decode cX8_sellFor 30 = .ok (.laload, 1) := by decide +kernel
theorem dX8_sellFor_31 : decode cX8_sellFor 31 = .ok (.lconst 1, 1) := by decide +kernel
theorem dX8_sellFor_32 : decode cX8_sellFor 32 = .ok (.lsub, 1) := by decide +kernel
theorem dX8_sellFor_33 : decode cX8_sellFor 33 = .ok (.lastore, 1) := by decide +kernel
theorem dX8_sellFor_34 : decode cX8_sellFor 34 = .ok (.aload_n 0, 1) := by decide +kernel
theorem dX8_sellFor_35 : decode cX8_sellFor 35 = .ok (.getfield 7, 3) := by decide +kernel
theorem dX8_sellFor_38 : decode cX8_sellFor 38 = .ok (.iconst 5, 1) := by decide +kernel
theorem dX8_sellFor_39 : decode cX8_sellFor 39 = .ok (.dup2, 1) := by decide +kernel
theorem dX8_sellFor_40 : decode cX8_sellFor 40 = .ok (.laload, 1) := by decide +kernel
theorem dX8_sellFor_41 : decode cX8_sellFor 41 = .ok (.aload_n 0, 1) := by decide +kernel
theorem dX8_sellFor_42 : decode cX8_sellFor 42 = .ok (.getfield 7, 3) := by decide +kernel
theorem dX8_sellFor_45 : decode cX8_sellFor 45 = .ok (.bipush 7, 2) := by decide +kernel
theorem dX8_sellFor_47 : decode cX8_sellFor 47 = .ok (.laload, 1) := by decide +kernel
theorem dX8_sellFor_48 : decode cX8_sellFor 48 = .ok (.aload_n 0, 1) := by decide +kernel
theorem dX8_sellFor_49 : decode cX8_sellFor 49 = .ok (.invokevirtual 157, 3) := by decide +kernel
theorem dX8_sellFor_52 : decode cX8_sellFor 52 = .ok (.lsub, 1) := by decide +kernel
theorem dX8_sellFor_53 : decode cX8_sellFor 53 = .ok (.ladd, 1) := by decide +kernel
theorem dX8_sellFor_54 : decode cX8_sellFor 54 = .ok (.lastore, 1) := by decide +kernel
theorem dX8_sellFor_55 : decode cX8_sellFor 55 = .ok (.aload_n 0, 1) := by decide +kernel
theorem dX8_sellFor_56 : decode cX8_sellFor 56 = .ok (.getfield 7, 3) := by decide +kernel
theorem dX8_sellFor_59 : decode cX8_sellFor 59 = .ok (.bipush 14, 2) := by decide +kernel
theorem dX8_sellFor_61 : decode cX8_sellFor 61 = .ok (.dup2, 1) := by decide +kernel
theorem dX8_sellFor_62 : decode cX8_sellFor 62 = .ok (.laload, 1) := by decide +kernel
theorem dX8_sellFor_63 : decode cX8_sellFor 63 = .ok (.lconst 1, 1) := by decide +kernel
theorem dX8_sellFor_64 : decode cX8_sellFor 64 = .ok (.ladd, 1) := by decide +kernel
theorem dX8_sellFor_65 : decode cX8_sellFor 65 = .ok (.lastore, 1) := by decide +kernel
theorem dX8_sellFor_66 : decode cX8_sellFor 66 = .ok (.goto (-66), 3) := by decide +kernel
theorem dX8_sellFor_69 : decode cX8_sellFor 69 = .ok (.return_, 1) := by decide +kernel
theorem dX8_payThem_0 : decode cX8_payThem 0 = .ok (.iconst 1, 1) := by decide +kernel
theorem dX8_payThem_1 : decode cX8_payThem 1 = .ok (.istore 5, 2) := by decide +kernel
theorem dX8_payThem_3 : decode cX8_payThem 3 = .ok (.iconst 0, 1) := by decide +kernel
theorem dX8_payThem_4 : decode cX8_payThem 4 = .ok (.istore 6, 2) := by decide +kernel
theorem dX8_payThem_6 : decode cX8_payThem 6 = .ok (.iload 6, 2) := by decide +kernel
theorem dX8_payThem_8 : decode cX8_payThem 8 = .ok (.i2l, 1) := by decide +kernel
theorem dX8_payThem_9 : decode cX8_payThem 9 = .ok (.aload_n 0, 1) := by decide +kernel
theorem dX8_payThem_10 : decode cX8_payThem 10 = .ok (.getfield 7, 3) := by decide +kernel
theorem dX8_payThem_13 : decode cX8_payThem 13 = .ok (.bipush 122, 2) := by decide +kernel
theorem dX8_payThem_15 : decode cX8_payThem 15 = .ok (.laload, 1) := by decide +kernel
theorem dX8_payThem_16 : decode cX8_payThem 16 = .ok (.lcmp, 1) := by decide +kernel
theorem dX8_payThem_17 : decode cX8_payThem 17 = .ok (.ifCond .ge 170, 3) := by decide +kernel
theorem dX8_payThem_20 : decode cX8_payThem 20 = .ok (.iload 5, 2) := by decide +kernel
theorem dX8_payThem_22 : decode cX8_payThem 22 = .ok (.ifCond .eq 165, 3) := by decide +kernel
theorem dX8_payThem_25 : decode cX8_payThem 25 = .ok (.aload_n 0, 1) := by decide +kernel
theorem dX8_payThem_26 : decode cX8_payThem 26 = .ok (.getfield 26, 3) := by decide +kernel
theorem dX8_payThem_29 : decode cX8_payThem 29 = .ok (.iload 6, 2) := by decide +kernel
theorem dX8_payThem_31 : decode cX8_payThem 31 = .ok (.laload, 1) := by decide +kernel
theorem dX8_payThem_32 : decode cX8_payThem 32 = .ok (.lload_n 1, 1) := by decide +kernel
theorem dX8_payThem_33 : decode cX8_payThem 33 = .ok (.lmul, 1) := by decide +kernel
theorem dX8_payThem_34 : decode cX8_payThem 34 = .ok (.ldc2_w 49, 3) := by decide +kernel
theorem dX8_payThem_37 : decode cX8_payThem 37 = .ok (.ldiv, 1) := by decide +kernel
theorem dX8_payThem_38 : decode cX8_payThem 38 = .ok (.lstore 7, 2) := by decide +kernel
theorem dX8_payThem_40 : decode cX8_payThem 40 = .ok (.aload_n 0, 1) := by decide +kernel
theorem dX8_payThem_41 : decode cX8_payThem 41 = .ok (.getfield 26, 3) := by decide +kernel
theorem dX8_payThem_44 : decode cX8_payThem 44 = .ok (.iload 6, 2) := by decide +kernel
theorem dX8_payThem_46 : decode cX8_payThem 46 = .ok (.laload, 1) := by decide +kernel
theorem dX8_payThem_47 : decode cX8_payThem 47 = .ok (.lconst 0, 1) := by decide +kernel
theorem dX8_payThem_48 : decode cX8_payThem 48 = .ok (.lcmp, 1) := by decide +kernel
theorem dX8_payThem_49 : decode cX8_payThem 49 = .ok (.ifCond .le 28, 3) := by decide +kernel
theorem dX8_payThem_52 : decode cX8_payThem 52 = .ok (.aload_n 0, 1) := by decide +kernel
theorem dX8_payThem_53 : decode cX8_payThem 53 = .ok (.lload 7, 2) := by decide +kernel
theorem dX8_payThem_55 : decode cX8_payThem 55 = .ok (.invokevirtual 160, 3) := by decide +kernel
theorem dX8_payThem_58 : decode cX8_payThem 58 = .ok (.aload_n 0, 1) := by decide +kernel
theorem dX8_payThem_59 : decode cX8_payThem 59 = .ok (.getfield 7, 3) := by decide +kernel
theorem dX8_payThem_62 : decode cX8_payThem 62 = .ok (.iconst 5, 1) := by decide +kernel
theorem dX8_payThem_63 : decode cX8_payThem 63 = .ok (.laload, 1) := by decide +kernel
theorem dX8_payThem_64 : decode cX8_payThem 64 = .ok (.lload 7, 2) := by decide +kernel
theorem dX8_payThem_66 : decode cX8_payThem 66 = .ok (.lcmp, 1) := by decide +kernel
theorem dX8_payThem_67 : decode cX8_payThem 67 = .ok (.ifCond .lt 7, 3) := by decide +kernel
theorem dX8_payThem_70 : decode cX8_payThem 70 = .ok (.iconst 1, 1) := by decide +kernel
theorem dX8_payThem_71 : decode cX8_payThem 71 = .ok (.goto 4, 3) := by decide +kernel
theorem dX8_payThem_74 : decode cX8_payThem 74 = .ok (.iconst 0, 1) := by decide +kernel
theorem dX8_payThem_75 : decode cX8_payThem 75 = .ok (.istore 5, 2) := by decide +kernel
theorem dX8_payThem_77 : decode cX8_payThem 77 = .ok (.aload_n 0, 1) := by decide +kernel
theorem dX8_payThem_78 : decode cX8_payThem 78 = .ok (.getfield 26, 3) := by decide +kernel
theorem dX8_payThem_81 : decode cX8_payThem 81 = .ok (.iload 6, 2) := by decide +kernel
theorem dX8_payThem_83 : decode cX8_payThem 83 = .ok (.laload, 1) := by decide +kernel
theorem dX8_payThem_84 : decode cX8_payThem 84 = .ok (.lconst 0, 1) := by decide +kernel
theorem dX8_payThem_85 : decode cX8_payThem 85 = .ok (.lcmp, 1) := by decide +kernel
theorem dX8_payThem_86 : decode cX8_payThem 86 = .ok (.ifCond .le 95, 3) := by decide +kernel
theorem dX8_payThem_89 : decode cX8_payThem 89 = .ok (.iload 5, 2) := by decide +kernel
theorem dX8_payThem_91 : decode cX8_payThem 91 = .ok (.ifCond .eq 90, 3) := by decide +kernel
theorem dX8_payThem_94 : decode cX8_payThem 94 = .ok (.aload_n 0, 1) := by decide +kernel
theorem dX8_payThem_95 : decode cX8_payThem 95 = .ok (.bipush 122, 2) := by decide +kernel
theorem dX8_payThem_97 : decode cX8_payThem 97 = .ok (.iload 6, 2) := by decide +kernel
theorem dX8_payThem_99 : decode cX8_payThem 99 = .ok (.iconst 0, 1) := by decide +kernel
theorem dX8_payThem_100 : decode cX8_payThem 100 = .ok (.invokevirtual 86, 3) := by decide +kernel
theorem dX8_payThem_103 : decode cX8_payThem 103 = .ok (.l2i, 1) := by decide +kernel
theorem dX8_payThem_104 : decode cX8_payThem 104 = .ok (.istore 9, 2) := by decide +kernel
theorem dX8_payThem_106 : decode cX8_payThem 106 = .ok (.aload_n 0, 1) := by decide +kernel
theorem dX8_payThem_107 : decode cX8_payThem 107 = .ok (.getfield 7, 3) := by decide +kernel
theorem dX8_payThem_110 : decode cX8_payThem 110 = .ok (.iconst 5, 1) := by decide +kernel
theorem dX8_payThem_111 : decode cX8_payThem 111 = .ok (.dup2, 1) := by decide +kernel
theorem dX8_payThem_112 : decode cX8_payThem 112 = .ok (.laload, 1) := by decide +kernel
theorem dX8_payThem_113 : decode cX8_payThem 113 = .ok (.lload 7, 2) := by decide +kernel
theorem dX8_payThem_115 : decode cX8_payThem 115 = .ok (.lsub, 1) := by decide +kernel
theorem dX8_payThem_116 : decode cX8_payThem 116 = .ok (.lastore, 1) := by decide +kernel
theorem dX8_payThem_117 : decode cX8_payThem 117 = .ok (.aload_n 0, 1) := by decide +kernel
theorem dX8_payThem_118 : decode cX8_payThem 118 = .ok (.iload 9, 2) := by decide +kernel
theorem dX8_payThem_120 : decode cX8_payThem 120 = .ok (.aload_n 0, 1) := by decide +kernel
theorem dX8_payThem_121 : decode cX8_payThem 121 = .ok (.getfield 26, 3) := by decide +kernel
theorem dX8_payThem_124 : decode cX8_payThem 124 = .ok (.iload 6, 2) := by decide +kernel
theorem dX8_payThem_126 : decode cX8_payThem 126 = .ok (.laload, 1) := by decide +kernel
theorem dX8_payThem_127 : decode cX8_payThem 127 = .ok (.lload_n 3, 1) := by decide +kernel
theorem dX8_payThem_128 : decode cX8_payThem 128 = .ok (.invokevirtual 135, 3) := by decide +kernel
theorem dX8_payThem_131 : decode cX8_payThem 131 = .ok (.aload_n 0, 1) := by decide +kernel
theorem dX8_payThem_132 : decode cX8_payThem 132 = .ok (.iload 9, 2) := by decide +kernel
theorem dX8_payThem_134 : decode cX8_payThem 134 = .ok (.iconst 3, 1) := by decide +kernel
theorem dX8_payThem_135 : decode cX8_payThem 135 = .ok (.lload 7, 2) := by decide +kernel
theorem dX8_payThem_137 : decode cX8_payThem 137 = .ok (.invokevirtual 90, 3) := by decide +kernel
theorem dX8_payThem_140 : decode cX8_payThem 140 = .ok (.aload_n 0, 1) := by decide +kernel
theorem dX8_payThem_141 : decode cX8_payThem 141 = .ok (.getfield 7, 3) := by decide +kernel
theorem dX8_payThem_144 : decode cX8_payThem 144 = .ok (.bipush 123, 2) := by decide +kernel
theorem dX8_payThem_146 : decode cX8_payThem 146 = .ok (.iconst 3, 1) := by decide +kernel
theorem dX8_payThem_147 : decode cX8_payThem 147 = .ok (.iload 6, 2) := by decide +kernel
theorem dX8_payThem_149 : decode cX8_payThem 149 = .ok (.imul, 1) := by decide +kernel
theorem dX8_payThem_150 : decode cX8_payThem 150 = .ok (.iadd, 1) := by decide +kernel
theorem dX8_payThem_151 : decode cX8_payThem 151 = .ok (.iconst 1, 1) := by decide +kernel
theorem dX8_payThem_152 : decode cX8_payThem 152 = .ok (.iadd, 1) := by decide +kernel
theorem dX8_payThem_153 : decode cX8_payThem 153 = .ok (.dup2, 1) := by decide +kernel
theorem dX8_payThem_154 : decode cX8_payThem 154 = .ok (.laload, 1) := by decide +kernel
theorem dX8_payThem_155 : decode cX8_payThem 155 = .ok (.aload_n 0, 1) := by decide +kernel
theorem dX8_payThem_156 : decode cX8_payThem 156 = .ok (.getfield 26, 3) := by decide +kernel
theorem dX8_payThem_159 : decode cX8_payThem 159 = .ok (.iload 6, 2) := by decide +kernel
theorem dX8_payThem_161 : decode cX8_payThem 161 = .ok (.laload, 1) := by decide +kernel
theorem dX8_payThem_162 : decode cX8_payThem 162 = .ok (.lsub, 1) := by decide +kernel
theorem dX8_payThem_163 : decode cX8_payThem 163 = .ok (.lastore, 1) := by decide +kernel
theorem dX8_payThem_164 : decode cX8_payThem 164 = .ok (.aload_n 0, 1) := by decide +kernel
theorem dX8_payThem_165 : decode cX8_payThem 165 = .ok (.getfield 7, 3) := by decide +kernel
theorem dX8_payThem_168 : decode cX8_payThem 168 = .ok (.bipush 13, 2) := by decide +kernel
theorem dX8_payThem_170 : decode cX8_payThem 170 = .ok (.dup2, 1) := by decide +kernel
theorem dX8_payThem_171 : decode cX8_payThem 171 = .ok (.laload, 1) := by decide +kernel
theorem dX8_payThem_172 : decode cX8_payThem 172 = .ok (.aload_n 0, 1) := by decide +kernel
theorem dX8_payThem_173 : decode cX8_payThem 173 = .ok (.getfield 26, 3) := by decide +kernel
theorem dX8_payThem_176 : decode cX8_payThem 176 = .ok (.iload 6, 2) := by decide +kernel
theorem dX8_payThem_178 : decode cX8_payThem 178 = .ok (.laload, 1) := by decide +kernel
theorem dX8_payThem_179 : decode cX8_payThem 179 = .ok (.ladd, 1) := by decide +kernel
theorem dX8_payThem_180 : decode cX8_payThem 180 = .ok (.lastore, 1) := by decide +kernel
theorem dX8_payThem_181 : decode cX8_payThem 181 = .ok (.iinc 6 1, 3) := by decide +kernel
theorem dX8_payThem_184 : decode cX8_payThem 184 = .ok (.goto (-178), 3) := by decide +kernel
theorem dX8_payThem_187 : decode cX8_payThem 187 = .ok (.aload_n 0, 1) := by decide +kernel
theorem dX8_payThem_188 : decode cX8_payThem 188 = .ok (.getfield 7, 3) := by decide +kernel
theorem dX8_payThem_191 : decode cX8_payThem 191 = .ok (.bipush 122, 2) := by decide +kernel
theorem dX8_payThem_193 : decode cX8_payThem 193 = .ok (.laload, 1) := by decide +kernel
theorem dX8_payThem_194 : decode cX8_payThem 194 = .ok (.l2i, 1) := by decide +kernel
theorem dX8_payThem_195 : decode cX8_payThem 195 = .ok (.iconst 1, 1) := by decide +kernel
theorem dX8_payThem_196 : decode cX8_payThem 196 = .ok (.isub, 1) := by decide +kernel
theorem dX8_payThem_197 : decode cX8_payThem 197 = .ok (.istore 6, 2) := by decide +kernel
theorem dX8_payThem_199 : decode cX8_payThem 199 = .ok (.iload 6, 2) := by decide +kernel
theorem dX8_payThem_201 : decode cX8_payThem 201 = .ok (.ifCond .lt 31, 3) := by decide +kernel
theorem dX8_payThem_204 : decode cX8_payThem 204 = .ok (.aload_n 0, 1) := by decide +kernel
theorem dX8_payThem_205 : decode cX8_payThem 205 = .ok (.bipush 122, 2) := by decide +kernel
theorem dX8_payThem_207 : decode cX8_payThem 207 = .ok (.iload 6, 2) := by decide +kernel
theorem dX8_payThem_209 : decode cX8_payThem 209 = .ok (.iconst 1, 1) := by decide +kernel
theorem dX8_payThem_210 : decode cX8_payThem 210 = .ok (.invokevirtual 86, 3) := by decide +kernel
theorem dX8_payThem_213 : decode cX8_payThem 213 = .ok (.lconst 0, 1) := by decide +kernel
theorem dX8_payThem_214 : decode cX8_payThem 214 = .ok (.lcmp, 1) := by decide +kernel
theorem dX8_payThem_215 : decode cX8_payThem 215 = .ok (.ifCond .ne 11, 3) := by decide +kernel
theorem dX8_payThem_218 : decode cX8_payThem 218 = .ok (.aload_n 0, 1) := by decide +kernel
theorem dX8_payThem_219 : decode cX8_payThem 219 = .ok (.bipush 122, 2) := by decide +kernel
theorem dX8_payThem_221 : decode cX8_payThem 221 = .ok (.iload 6, 2) := by decide +kernel
theorem dX8_payThem_223 : decode cX8_payThem 223 = .ok (.invokevirtual 164, 3) := by decide +kernel
theorem dX8_payThem_226 : decode cX8_payThem 226 = .ok (.iinc 6 (-1), 3) := by decide +kernel
theorem dX8_payThem_229 : decode cX8_payThem 229 = .ok (.goto (-30), 3) := by decide +kernel
theorem dX8_payThem_232 : decode cX8_payThem 232 = .ok (.return_, 1) := by decide +kernel
theorem dX8_buyFor_0 : decode cX8_buyFor 0 = .ok (.lload 4, 2) := by decide +kernel
theorem dX8_buyFor_2 : decode cX8_buyFor 2 = .ok (.lconst 0, 1) := by decide +kernel
theorem dX8_buyFor_3 : decode cX8_buyFor 3 = .ok (.lcmp, 1) := by decide +kernel
theorem dX8_buyFor_4 : decode cX8_buyFor 4 = .ok (.ifCond .ne 7, 3) := by decide +kernel
theorem dX8_buyFor_7 : decode cX8_buyFor 7 = .ok (.lconst 0, 1) := by decide +kernel
theorem dX8_buyFor_8 : decode cX8_buyFor 8 = .ok (.goto 11, 3) := by decide +kernel
theorem dX8_buyFor_11 : decode cX8_buyFor 11 = .ok (.ldc2_w 49, 3) := by decide +kernel
theorem dX8_buyFor_14 : decode cX8_buyFor 14 = .ok (.lload_n 2, 1) := by decide +kernel
theorem dX8_buyFor_15 : decode cX8_buyFor 15 = .ok (.lmul, 1) := by decide +kernel
theorem dX8_buyFor_16 : decode cX8_buyFor 16 = .ok (.lload 4, 2) := by decide +kernel
theorem dX8_buyFor_18 : decode cX8_buyFor 18 = .ok (.ldiv, 1) := by decide +kernel
theorem dX8_buyFor_19 : decode cX8_buyFor 19 = .ok (.lstore 8, 2) := by decide +kernel
theorem dX8_buyFor_21 : decode cX8_buyFor 21 = .ok (.lload 8, 2) := by decide +kernel
theorem dX8_buyFor_23 : decode cX8_buyFor 23 = .ok (.lconst 0, 1) := by decide +kernel
theorem dX8_buyFor_24 : decode cX8_buyFor 24 = .ok (.lcmp, 1) := by decide +kernel
theorem dX8_buyFor_25 : decode cX8_buyFor 25 = .ok (.ifCond .eq 17, 3) := by decide +kernel
theorem dX8_buyFor_28 : decode cX8_buyFor 28 = .ok (.aload_n 0, 1) := by decide +kernel
theorem dX8_buyFor_29 : decode cX8_buyFor 29 = .ok (.invokevirtual 75, 3) := by decide +kernel
theorem dX8_buyFor_32 : decode cX8_buyFor 32 = .ok (.lload 8, 2) := by decide +kernel
theorem dX8_buyFor_34 : decode cX8_buyFor 34 = .ok (.ladd, 1) := by decide +kernel
theorem dX8_buyFor_35 : decode cX8_buyFor 35 = .ok (.ldc2_w 168, 3) := by decide +kernel
theorem dX8_buyFor_38 : decode cX8_buyFor 38 = .ok (.lcmp, 1) := by decide +kernel
theorem dX8_buyFor_39 : decode cX8_buyFor 39 = .ok (.ifCond .le 15, 3) := by decide +kernel
theorem dX8_buyFor_42 : decode cX8_buyFor 42 = .ok (.aload_n 0, 1) := by decide +kernel
theorem dX8_buyFor_43 : decode cX8_buyFor 43 = .ok (.getfield 7, 3) := by decide +kernel
theorem dX8_buyFor_46 : decode cX8_buyFor 46 = .ok (.bipush 17, 2) := by decide +kernel
theorem dX8_buyFor_48 : decode cX8_buyFor 48 = .ok (.dup2, 1) := by decide +kernel
theorem dX8_buyFor_49 : decode cX8_buyFor 49 = .ok (.laload, 1) := by decide +kernel
theorem dX8_buyFor_50 : decode cX8_buyFor 50 = .ok (.lload_n 2, 1) := by decide +kernel
theorem dX8_buyFor_51 : decode cX8_buyFor 51 = .ok (.ladd, 1) := by decide +kernel
theorem dX8_buyFor_52 : decode cX8_buyFor 52 = .ok (.lastore, 1) := by decide +kernel
theorem dX8_buyFor_53 : decode cX8_buyFor 53 = .ok (.return_, 1) := by decide +kernel
theorem dX8_buyFor_54 : decode cX8_buyFor 54 = .ok (.aload_n 0, 1) := by decide +kernel
theorem dX8_buyFor_55 : decode cX8_buyFor 55 = .ok (.getfield 7, 3) := by decide +kernel
theorem dX8_buyFor_58 : decode cX8_buyFor 58 = .ok (.iconst 5, 1) := by decide +kernel
theorem dX8_buyFor_59 : decode cX8_buyFor 59 = .ok (.dup2, 1) := by decide +kernel
theorem dX8_buyFor_60 : decode cX8_buyFor 60 = .ok (.laload, 1) := by decide +kernel
theorem dX8_buyFor_61 : decode cX8_buyFor 61 = .ok (.lload_n 2, 1) := by decide +kernel
theorem dX8_buyFor_62 : decode cX8_buyFor 62 = .ok (.ladd, 1) := by decide +kernel
theorem dX8_buyFor_63 : decode cX8_buyFor 63 = .ok (.lastore, 1) := by decide +kernel
theorem dX8_buyFor_64 : decode cX8_buyFor 64 = .ok (.aload_n 0, 1) := by decide +kernel
theorem dX8_buyFor_65 : decode cX8_buyFor 65 = .ok (.iload_n 1, 1) := by decide +kernel
theorem dX8_buyFor_66 : decode cX8_buyFor 66 = .ok (.lload 8, 2) := by decide +kernel
theorem dX8_buyFor_68 : decode cX8_buyFor 68 = .ok (.lload 6, 2) := by decide +kernel
theorem dX8_buyFor_70 : decode cX8_buyFor 70 = .ok (.invokevirtual 170, 3) := by decide +kernel
theorem dX8_buyFor_73 : decode cX8_buyFor 73 = .ok (.aload_n 0, 1) := by decide +kernel
theorem dX8_buyFor_74 : decode cX8_buyFor 74 = .ok (.iload_n 1, 1) := by decide +kernel
theorem dX8_buyFor_75 : decode cX8_buyFor 75 = .ok (.iconst 2, 1) := by decide +kernel
theorem dX8_buyFor_76 : decode cX8_buyFor 76 = .ok (.lload_n 2, 1) := by decide +kernel
theorem dX8_buyFor_77 : decode cX8_buyFor 77 = .ok (.invokevirtual 90, 3) := by decide +kernel
theorem dX8_buyFor_80 : decode cX8_buyFor 80 = .ok (.aload_n 0, 1) := by decide +kernel
theorem dX8_buyFor_81 : decode cX8_buyFor 81 = .ok (.getfield 7, 3) := by decide +kernel
theorem dX8_buyFor_84 : decode cX8_buyFor 84 = .ok (.bipush 12, 2) := by decide +kernel
theorem dX8_buyFor_86 : decode cX8_buyFor 86 = .ok (.dup2, 1) := by decide +kernel
theorem dX8_buyFor_87 : decode cX8_buyFor 87 = .ok (.laload, 1) := by decide +kernel
theorem dX8_buyFor_88 : decode cX8_buyFor 88 = .ok (.lload 8, 2) := by decide +kernel
theorem dX8_buyFor_90 : decode cX8_buyFor 90 = .ok (.ladd, 1) := by decide +kernel
theorem dX8_buyFor_91 : decode cX8_buyFor 91 = .ok (.lastore, 1) := by decide +kernel
theorem dX8_buyFor_92 : decode cX8_buyFor 92 = .ok (.return_, 1) := by decide +kernel
theorem dX8_endIt_0 : decode cX8_endIt 0 = .ok (.aload_n 0, 1) := by decide +kernel
theorem dX8_endIt_1 : decode cX8_endIt 1 = .ok (.invokevirtual 173, 3) := by decide +kernel
theorem dX8_endIt_4 : decode cX8_endIt 4 = .ok (.lstore_n 1, 1) := by decide +kernel
theorem dX8_endIt_5 : decode cX8_endIt 5 = .ok (.aload_n 0, 1) := by decide +kernel
theorem dX8_endIt_6 : decode cX8_endIt 6 = .ok (.invokevirtual 132, 3) := by decide +kernel
theorem dX8_endIt_9 : decode cX8_endIt 9 = .ok (.lstore_n 3, 1) := by decide +kernel
theorem dX8_endIt_10 : decode cX8_endIt 10 = .ok (.aload_n 0, 1) := by decide +kernel
theorem dX8_endIt_11 : decode cX8_endIt 11 = .ok (.bipush 122, 2) := by decide +kernel
theorem dX8_endIt_13 : decode cX8_endIt 13 = .ok (.aload_n 0, 1) := by decide +kernel
theorem dX8_endIt_14 : decode cX8_endIt 14 = .ok (.getfield 7, 3) := by decide +kernel
theorem dX8_endIt_17 : decode cX8_endIt 17 = .ok (.bipush 10, 2) := by decide +kernel
theorem dX8_endIt_19 : decode cX8_endIt 19 = .ok (.laload, 1) := by decide +kernel
theorem dX8_endIt_20 : decode cX8_endIt 20 = .ok (.invokevirtual 139, 3) := by decide +kernel
theorem dX8_endIt_23 : decode cX8_endIt 23 = .ok (.lstore 5, 2) := by decide +kernel
theorem dX8_endIt_25 : decode cX8_endIt 25 = .ok (.aload_n 0, 1) := by decide +kernel
theorem dX8_endIt_26 : decode cX8_endIt 26 = .ok (.invokevirtual 149, 3) := by decide +kernel
theorem dX8_endIt_29 : decode cX8_endIt 29 = .ok (.istore 7, 2) := by decide +kernel
theorem dX8_endIt_31 : decode cX8_endIt 31 = .ok (.aload_n 0, 1) := by decide +kernel
theorem dX8_endIt_32 : decode cX8_endIt 32 = .ok (.aload_n 0, 1) := by decide +kernel
theorem dX8_endIt_33 : decode cX8_endIt 33 = .ok (.invokevirtual 143, 3) := by decide +kernel
theorem dX8_endIt_36 : decode cX8_endIt 36 = .ok (.invokevirtual 176, 3) := by decide +kernel
theorem dX8_endIt_39 : decode cX8_endIt 39 = .ok (.iconst 0, 1) := by decide +kernel
theorem dX8_endIt_40 : decode cX8_endIt 40 = .ok (.istore 8, 2) := by decide +kernel
theorem dX8_endIt_42 : decode cX8_endIt 42 = .ok (.iload 8, 2) := by decide +kernel
theorem dX8_endIt_44 : decode cX8_endIt 44 = .ok (.bipush 6, 2) := by decide +kernel
theorem dX8_endIt_46 : decode cX8_endIt 46 = .ok (.if_icmp .ge 20, 3) := by decide +kernel
theorem dX8_endIt_49 : decode cX8_endIt 49 = .ok (.aload_n 0, 1) := by decide +kernel
theorem dX8_endIt_50 : decode cX8_endIt 50 = .ok (.getfield 7, 3) := by decide +kernel
theorem dX8_endIt_53 : decode cX8_endIt 53 = .ok (.bipush 12, 2) := by decide +kernel
theorem dX8_endIt_55 : decode cX8_endIt 55 = .ok (.iload 8, 2) := by decide +kernel
theorem dX8_endIt_57 : decode cX8_endIt 57 = .ok (.iadd, 1) := by decide +kernel
theorem dX8_endIt_58 : decode cX8_endIt 58 = .ok (.lconst 0, 1) := by decide +kernel
theorem dX8_endIt_59 : decode cX8_endIt 59 = .ok (.lastore, 1) := by decide +kernel
theorem dX8_endIt_60 : decode cX8_endIt 60 = .ok (.iinc 8 1, 3) := by decide +kernel
theorem dX8_endIt_63 : decode cX8_endIt 63 = .ok (.goto (-21), 3) := by decide +kernel
theorem dX8_endIt_66 : decode cX8_endIt 66 = .ok (.aload_n 0, 1) := by decide +kernel
theorem dX8_endIt_67 : decode cX8_endIt 67 = .ok (.lload_n 1, 1) := by decide +kernel
theorem dX8_endIt_68 : decode cX8_endIt 68 = .ok (.lload_n 3, 1) := by decide +kernel
theorem dX8_endIt_69 : decode cX8_endIt 69 = .ok (.invokevirtual 179, 3) := by decide +kernel
theorem dX8_endIt_72 : decode cX8_endIt 72 = .ok (.aload_n 0, 1) := by decide +kernel
theorem dX8_endIt_73 : decode cX8_endIt 73 = .ok (.getfield 7, 3) := by decide +kernel
theorem dX8_endIt_76 : decode cX8_endIt 76 = .ok (.bipush 61, 2) := by decide +kernel
theorem dX8_endIt_78 : decode cX8_endIt 78 = .ok (.laload, 1) := by decide +kernel
theorem dX8_endIt_79 : decode cX8_endIt 79 = .ok (.lconst 0, 1) := by decide +kernel
theorem dX8_endIt_80 : decode cX8_endIt 80 = .ok (.lcmp, 1) := by decide +kernel
theorem dX8_endIt_81 : decode cX8_endIt 81 = .ok (.ifCond .le 55, 3) := by decide +kernel
theorem dX8_endIt_84 : decode cX8_endIt 84 = .ok (.aload_n 0, 1) := by decide +kernel
theorem dX8_endIt_85 : decode cX8_endIt 85 = .ok (.bipush 61, 2) := by decide +kernel
theorem dX8_endIt_87 : decode cX8_endIt 87 = .ok (.iconst 0, 1) := by decide +kernel
theorem dX8_endIt_88 : decode cX8_endIt 88 = .ok (.iconst 2, 1) := by decide +kernel
theorem dX8_endIt_89 : decode cX8_endIt 89 = .ok (.invokevirtual 86, 3) := by decide +kernel
theorem dX8_endIt_92 : decode cX8_endIt 92 = .ok (.aload_n 0, 1) := by decide +kernel
theorem dX8_endIt_93 : decode cX8_endIt 93 = .ok (.getfield 7, 3) := by decide +kernel
theorem dX8_endIt_96 : decode cX8_endIt 96 = .ok (.bipush 10, 2) := by decide +kernel
theorem dX8_endIt_98 : decode cX8_endIt 98 = .ok (.laload, 1) := by decide +kernel
theorem dX8_endIt_99 : decode cX8_endIt 99 = .ok (.lcmp, 1) := by decide +kernel
theorem dX8_endIt_100 : decode cX8_endIt 100 = .ok (.ifCond .gt 36, 3) := by decide +kernel
theorem dX8_endIt_103 : decode cX8_endIt 103 = .ok (.aload_n 0, 1) := by decide +kernel
theorem dX8_endIt_104 : decode cX8_endIt 104 = .ok (.aload_n 0, 1) := by decide +kernel
theorem dX8_endIt_105 : decode cX8_endIt 105 = .ok (.bipush 61, 2) := by decide +kernel
theorem dX8_endIt_107 : decode cX8_endIt 107 = .ok (.iconst 0, 1) := by decide +kernel
theorem dX8_endIt_108 : decode cX8_endIt 108 = .ok (.iconst 0, 1) := by decide +kernel
theorem dX8_endIt_109 : decode cX8_endIt 109 = .ok (.invokevirtual 86, 3) := by decide +kernel
theorem dX8_endIt_112 : decode cX8_endIt 112 = .ok (.l2i, 1) := by decide +kernel
theorem dX8_endIt_113 : decode cX8_endIt 113 = .ok (.aload_n 0, 1) := by decide +kernel
theorem dX8_endIt_114 : decode cX8_endIt 114 = .ok (.bipush 61, 2) := by decide +kernel
theorem dX8_endIt_116 : decode cX8_endIt 116 = .ok (.iconst 0, 1) := by decide +kernel
theorem dX8_endIt_117 : decode cX8_endIt 117 = .ok (.iconst 1, 1) := by decide +kernel
theorem dX8_endIt_118 : decode cX8_endIt 118 = .ok (.invokevirtual 86, 3) := by decide +kernel
theorem dX8_endIt_121 : decode cX8_endIt 121 = .ok (.lload_n 1, 1) := by decide +kernel
theorem dX8_endIt_122 : decode cX8_endIt 122 = .ok (.lload_n 3, 1) := by decide +kernel
theorem dX8_endIt_123 : decode cX8_endIt 123 = .ok (.invokevirtual 183, 3) := by decide +kernel
theorem dX8_endIt_126 : decode cX8_endIt 126 = .ok (.aload_n 0, 1) := by decide +kernel
theorem dX8_endIt_127 : decode cX8_endIt 127 = .ok (.bipush 61, 2) := by decide +kernel
theorem dX8_endIt_129 : decode cX8_endIt 129 = .ok (.iconst 0, 1) := by decide +kernel
theorem dX8_endIt_130 : decode cX8_endIt 130 = .ok (.invokevirtual 164, 3) := by decide +kernel
theorem dX8_endIt_133 : decode cX8_endIt 133 = .ok (.goto (-61), 3) := by decide +kernel
theorem dX8_endIt_136 : decode cX8_endIt 136 = .ok (.aload_n 0, 1) := by decide +kernel
theorem dX8_endIt_137 : decode cX8_endIt 137 = .ok (.getfield 7, 3) := by decide +kernel
theorem dX8_endIt_140 : decode cX8_endIt 140 = .ok (.bipush 15, 2) := by decide +kernel
theorem dX8_endIt_142 : decode cX8_endIt 142 = .ok (.iload 7, 2) := by decide +kernel
theorem dX8_endIt_144 : decode cX8_endIt 144 = .ok (.i2l, 1) := by decide +kernel
theorem dX8_endIt_145 : decode cX8_endIt 145 = .ok (.lastore, 1) := by decide +kernel
theorem dX8_endIt_146 : decode cX8_endIt 146 = .ok (.aload_n 0, 1) := by decide +kernel
theorem dX8_endIt_147 : decode cX8_endIt 147 = .ok (.getfield 7, 3) := by decide +kernel
theorem dX8_endIt_150 : decode cX8_endIt 150 = .ok (.bipush 16, 2) := by decide +kernel
theorem dX8_endIt_152 : decode cX8_endIt 152 = .ok (.lload 5, 2) := by decide +kernel
theorem dX8_endIt_154 : decode cX8_endIt 154 = .ok (.aload_n 0, 1) := by decide +kernel
theorem dX8_endIt_155 : decode cX8_endIt 155 = .ok (.getfield 7, 3) := by decide +kernel
theorem dX8_endIt_158 : decode cX8_endIt 158 = .ok (.bipush 13, 2) := by decide +kernel
theorem dX8_endIt_160 : decode cX8_endIt 160 = .ok (.laload, 1) := by decide +kernel
theorem dX8_endIt_161 : decode cX8_endIt 161 = .ok (.lsub, 1) := by decide +kernel
theorem dX8_endIt_162 : decode cX8_endIt 162 = .ok (.lastore, 1) := by decide +kernel
theorem dX8_endIt_163 : decode cX8_endIt 163 = .ok (.aload_n 0, 1) := by decide +kernel
theorem dX8_endIt_164 : decode cX8_endIt 164 = .ok (.getfield 7, 3) := by decide +kernel
theorem dX8_endIt_167 : decode cX8_endIt 167 = .ok (.bipush 11, 2) := by decide +kernel
theorem dX8_endIt_169 : decode cX8_endIt 169 = .ok (.lload_n 1, 1) := by decide +kernel
theorem dX8_endIt_170 : decode cX8_endIt 170 = .ok (.lastore, 1) := by decide +kernel
theorem dX8_endIt_171 : decode cX8_endIt 171 = .ok (.aload_n 0, 1) := by decide +kernel
theorem dX8_endIt_172 : decode cX8_endIt 172 = .ok (.getfield 7, 3) := by decide +kernel
theorem dX8_endIt_175 : decode cX8_endIt 175 = .ok (.bipush 18, 2) := by decide +kernel
theorem dX8_endIt_177 : decode cX8_endIt 177 = .ok (.lconst 1, 1) := by decide +kernel
theorem dX8_endIt_178 : decode cX8_endIt 178 = .ok (.lastore, 1) := by decide +kernel
theorem dX8_endIt_179 : decode cX8_endIt 179 = .ok (.aload_n 0, 1) := by decide +kernel
theorem dX8_endIt_180 : decode cX8_endIt 180 = .ok (.getfield 7, 3) := by decide +kernel
theorem dX8_endIt_183 : decode cX8_endIt 183 = .ok (.bipush 10, 2) := by decide +kernel
theorem dX8_endIt_185 : decode cX8_endIt 185 = .ok (.dup2, 1) := by decide +kernel
theorem dX8_endIt_186 : decode cX8_endIt 186 = .ok (.laload, 1) := by decide +kernel
theorem dX8_endIt_187 : decode cX8_endIt 187 = .ok (.lconst 1, 1) := by decide +kernel
theorem dX8_endIt_188 : decode cX8_endIt 188 = .ok (.ladd, 1) := by decide +kernel
theorem dX8_endIt_189 : decode cX8_endIt 189 = .ok (.lastore, 1) := by decide +kernel
theorem dX8_endIt_190 : decode cX8_endIt 190 = .ok (.return_, 1) := by decide +kernel
theorem dX8_tryEndDay_0 : decode cX8_tryEndDay 0 = .ok (.aload_n 0, 1) := by decide +kernel
theorem dX8_tryEndDay_1 : decode cX8_tryEndDay 1 = .ok (.iload_n 1, 1) := by decide +kernel
theorem dX8_tryEndDay_2 : decode cX8_tryEndDay 2 = .ok (.invokevirtual 114, 3) := by decide +kernel
theorem dX8_tryEndDay_5 : decode cX8_tryEndDay 5 = .ok (.aload_n 0, 1) := by decide +kernel
theorem dX8_tryEndDay_6 : decode cX8_tryEndDay 6 = .ok (.invokevirtual 187, 3) := by decide +kernel
theorem dX8_tryEndDay_9 : decode cX8_tryEndDay 9 = .ok (.aload_n 0, 1) := by decide +kernel
theorem dX8_tryEndDay_10 : decode cX8_tryEndDay 10 = .ok (.getfield 7, 3) := by decide +kernel
theorem dX8_tryEndDay_13 : decode cX8_tryEndDay 13 = .ok (.bipush 10, 2) := by decide +kernel
theorem dX8_tryEndDay_15 : decode cX8_tryEndDay 15 = .ok (.laload, 1) := by decide +kernel
theorem dX8_tryEndDay_16 : decode cX8_tryEndDay 16 = .ok (.l2i, 1) := by decide +kernel
theorem dX8_tryEndDay_17 : decode cX8_tryEndDay 17 = .ok (.ireturn, 1) := by decide +kernel
theorem dX8_endDay_0 : decode cX8_endDay 0 = .ok (.aload_n 0, 1) := by decide +kernel
theorem dX8_endDay_1 : decode cX8_endDay 1 = .ok (.iconst 1, 1) := by decide +kernel
theorem dX8_endDay_2 : decode cX8_endDay 2 = .ok (.invokevirtual 190, 3) := by decide +kernel
theorem dX8_endDay_5 : decode cX8_endDay 5 = .ok (.ireturn, 1) := by decide +kernel
theorem dX8_tryQuote_0 : decode cX8_tryQuote 0 = .ok (.iload_n 1, 1) := by decide +kernel
theorem dX8_tryQuote_1 : decode cX8_tryQuote 1 = .ok (.i2l, 1) := by decide +kernel
theorem dX8_tryQuote_2 : decode cX8_tryQuote 2 = .ok (.lconst 1, 1) := by decide +kernel
theorem dX8_tryQuote_3 : decode cX8_tryQuote 3 = .ok (.ldc2_w 194, 3) := by decide +kernel
theorem dX8_tryQuote_6 : decode cX8_tryQuote 6 = .ok (.invokestatic 53, 3) := by decide +kernel
theorem dX8_tryQuote_9 : decode cX8_tryQuote 9 = .ok (.ifCond .ne 6, 3) := by decide +kernel
theorem dX8_tryQuote_12 : decode cX8_tryQuote 12 = .ok (.bipush (-2), 2) := by decide +kernel
theorem dX8_tryQuote_14 : decode cX8_tryQuote 14 = .ok (.ireturn, 1) := by decide +kernel
theorem dX8_tryQuote_15 : decode cX8_tryQuote 15 = .ok (.aload_n 0, 1) := by decide +kernel
theorem dX8_tryQuote_16 : decode cX8_tryQuote 16 = .ok (.iload_n 2, 1) := by decide +kernel
theorem dX8_tryQuote_17 : decode cX8_tryQuote 17 = .ok (.invokevirtual 114, 3) := by decide +kernel
theorem dX8_tryQuote_20 : decode cX8_tryQuote 20 = .ok (.aload_n 0, 1) := by decide +kernel
theorem dX8_tryQuote_21 : decode cX8_tryQuote 21 = .ok (.getfield 7, 3) := by decide +kernel
theorem dX8_tryQuote_24 : decode cX8_tryQuote 24 = .ok (.bipush 7, 2) := by decide +kernel
theorem dX8_tryQuote_26 : decode cX8_tryQuote 26 = .ok (.laload, 1) := by decide +kernel
theorem dX8_tryQuote_27 : decode cX8_tryQuote 27 = .ok (.l2i, 1) := by decide +kernel
theorem dX8_tryQuote_28 : decode cX8_tryQuote 28 = .ok (.istore_n 3, 1) := by decide +kernel
theorem dX8_tryQuote_29 : decode cX8_tryQuote 29 = .ok (.aload_n 0, 1) := by decide +kernel
theorem dX8_tryQuote_30 : decode cX8_tryQuote 30 = .ok (.getfield 7, 3) := by decide +kernel
theorem dX8_tryQuote_33 : decode cX8_tryQuote 33 = .ok (.bipush 7, 2) := by decide +kernel
theorem dX8_tryQuote_35 : decode cX8_tryQuote 35 = .ok (.iload_n 1, 1) := by decide +kernel
theorem dX8_tryQuote_36 : decode cX8_tryQuote 36 = .ok (.i2l, 1) := by decide +kernel
theorem dX8_tryQuote_37 : decode cX8_tryQuote 37 = .ok (.lastore, 1) := by decide +kernel
theorem dX8_tryQuote_38 : decode cX8_tryQuote 38 = .ok (.iload_n 3, 1) := by decide +kernel
theorem dX8_tryQuote_39 : decode cX8_tryQuote 39 = .ok (.ireturn, 1) := by decide +kernel
theorem dX8_quote_0 : decode cX8_quote 0 = .ok (.aload_n 0, 1) := by decide +kernel
theorem dX8_quote_1 : decode cX8_quote 1 = .ok (.iload_n 1, 1) := by decide +kernel
theorem dX8_quote_2 : decode cX8_quote 2 = .ok (.iconst 1, 1) := by decide +kernel
theorem dX8_quote_3 : decode cX8_quote 3 = .ok (.invokevirtual 196, 3) := by decide +kernel
theorem dX8_quote_6 : decode cX8_quote 6 = .ok (.ireturn, 1) := by decide +kernel
theorem dX8_trade_0 : decode cX8_trade 0 = .ok (.iload_n 1, 1) := by decide +kernel
theorem dX8_trade_1 : decode cX8_trade 1 = .ok (.ifCond .eq 17, 3) := by decide +kernel
theorem dX8_trade_4 : decode cX8_trade 4 = .ok (.iload_n 1, 1) := by decide +kernel
theorem dX8_trade_5 : decode cX8_trade 5 = .ok (.i2l, 1) := by decide +kernel
theorem dX8_trade_6 : decode cX8_trade 6 = .ok (.ldc2_w 200, 3) := by decide +kernel
theorem dX8_trade_9 : decode cX8_trade 9 = .ok (.ldc2_w 49, 3) := by decide +kernel
theorem dX8_trade_12 : decode cX8_trade 12 = .ok (.invokestatic 53, 3) := by decide +kernel
theorem dX8_trade_15 : decode cX8_trade 15 = .ok (.ifCond .ne 6, 3) := by decide +kernel
theorem dX8_trade_18 : decode cX8_trade 18 = .ok (.bipush (-2), 2) := by decide +kernel
theorem dX8_trade_20 : decode cX8_trade 20 = .ok (.ireturn, 1) := by decide +kernel
theorem dX8_trade_21 : decode cX8_trade 21 = .ok (.aload_n 0, 1) := by decide +kernel
theorem dX8_trade_22 : decode cX8_trade 22 = .ok (.getfield 7, 3) := by decide +kernel
theorem dX8_trade_25 : decode cX8_trade 25 = .ok (.bipush 6, 2) := by decide +kernel
theorem dX8_trade_27 : decode cX8_trade 27 = .ok (.laload, 1) := by decide +kernel
theorem dX8_trade_28 : decode cX8_trade 28 = .ok (.iload_n 1, 1) := by decide +kernel
theorem dX8_trade_29 : decode cX8_trade 29 = .ok (.i2l, 1) := by decide +kernel
theorem dX8_trade_30 : decode cX8_trade 30 = .ok (.ladd, 1) := by decide +kernel
theorem dX8_trade_31 : decode cX8_trade 31 = .ok (.ldc2_w 49, 3) := by decide +kernel
theorem dX8_trade_34 : decode cX8_trade 34 = .ok (.lcmp, 1) := by decide +kernel
theorem dX8_trade_35 : decode cX8_trade 35 = .ok (.ifCond .le 6, 3) := by decide +kernel
theorem dX8_trade_38 : decode cX8_trade 38 = .ok (.bipush (-4), 2) := by decide +kernel
theorem dX8_trade_40 : decode cX8_trade 40 = .ok (.ireturn, 1) := by decide +kernel
theorem dX8_trade_41 : decode cX8_trade 41 = .ok (.iload_n 1, 1) := by decide +kernel
theorem dX8_trade_42 : decode cX8_trade 42 = .ok (.ifCond .le 22, 3) := by decide +kernel
theorem dX8_trade_45 : decode cX8_trade 45 = .ok (.iload_n 1, 1) := by decide +kernel
theorem dX8_trade_46 : decode cX8_trade 46 = .ok (.ineg, 1) := by decide +kernel
theorem dX8_trade_47 : decode cX8_trade 47 = .ok (.i2l, 1) := by decide +kernel
theorem dX8_trade_48 : decode cX8_trade 48 = .ok (.aload_n 0, 1) := by decide +kernel
theorem dX8_trade_49 : decode cX8_trade 49 = .ok (.getfield 7, 3) := by decide +kernel
theorem dX8_trade_52 : decode cX8_trade 52 = .ok (.bipush 7, 2) := by decide +kernel
theorem dX8_trade_54 : decode cX8_trade 54 = .ok (.laload, 1) := by decide +kernel
theorem dX8_trade_55 : decode cX8_trade 55 = .ok (.aload_n 0, 1) := by decide +kernel
theorem dX8_trade_56 : decode cX8_trade 56 = .ok (.invokevirtual 157, 3) := by decide +kernel
theorem dX8_trade_59 : decode cX8_trade 59 = .ok (.ladd, 1) := by decide +kernel
theorem dX8_trade_60 : decode cX8_trade 60 = .ok (.lmul, 1) := by decide +kernel
theorem dX8_trade_61 : decode cX8_trade 61 = .ok (.goto 19, 3) := by decide +kernel
theorem dX8_trade_64 : decode cX8_trade 64 = .ok (.iload_n 1, 1) := by decide +kernel
theorem dX8_trade_65 : decode cX8_trade 65 = .ok (.ineg, 1) := by decide +kernel
theorem dX8_trade_66 : decode cX8_trade 66 = .ok (.i2l, 1) := by decide +kernel
theorem dX8_trade_67 : decode cX8_trade 67 = .ok (.aload_n 0, 1) := by decide +kernel
theorem dX8_trade_68 : decode cX8_trade 68 = .ok (.getfield 7, 3) := by decide +kernel
theorem dX8_trade_71 : decode cX8_trade 71 = .ok (.bipush 7, 2) := by decide +kernel
theorem dX8_trade_73 : decode cX8_trade 73 = .ok (.laload, 1) := by decide +kernel
theorem dX8_trade_74 : decode cX8_trade 74 = .ok (.aload_n 0, 1) := by decide +kernel
theorem dX8_trade_75 : decode cX8_trade 75 = .ok (.invokevirtual 157, 3) := by decide +kernel
theorem dX8_trade_78 : decode cX8_trade 78 = .ok (.lsub, 1) := by decide +kernel
theorem dX8_trade_79 : decode cX8_trade 79 = .ok (.lmul, 1) := by decide +kernel
theorem dX8_trade_80 : decode cX8_trade 80 = .ok (.lstore_n 2, 1) := by decide +kernel
theorem dX8_trade_81 : decode cX8_trade 81 = .ok (.aload_n 0, 1) := by decide +kernel
theorem dX8_trade_82 : decode cX8_trade 82 = .ok (.getfield 7, 3) := by decide +kernel
theorem dX8_trade_85 : decode cX8_trade 85 = .ok (.bipush 6, 2) := by decide +kernel
theorem dX8_trade_87 : decode cX8_trade 87 = .ok (.laload, 1) := by decide +kernel
theorem dX8_trade_88 : decode cX8_trade 88 = .ok (.iload_n 1, 1) := by decide +kernel
theorem dX8_trade_89 : decode cX8_trade 89 = .ok (.i2l, 1) := by decide +kernel
theorem dX8_trade_90 : decode cX8_trade 90 = .ok (.ladd, 1) := by decide +kernel
theorem dX8_trade_91 : decode cX8_trade 91 = .ok (.lconst 0, 1) := by decide +kernel
theorem dX8_trade_92 : decode cX8_trade 92 = .ok (.lcmp, 1) := by decide +kernel
theorem dX8_trade_93 : decode cX8_trade 93 = .ok (.ifCond .lt 28, 3) := by decide +kernel
theorem dX8_trade_96 : decode cX8_trade 96 = .ok (.iload_n 1, 1) := by decide +kernel
theorem dX8_trade_97 : decode cX8_trade 97 = .ok (.ifCond .le 27, 3) := by decide +kernel
theorem dX8_trade_100 : decode cX8_trade 100 = .ok (.aload_n 0, 1) := by decide +kernel
theorem dX8_trade_101 : decode cX8_trade 101 = .ok (.getfield 7, 3) := by decide +kernel
theorem dX8_trade_104 : decode cX8_trade 104 = .ok (.iconst 5, 1) := by decide +kernel
theorem dX8_trade_105 : decode cX8_trade 105 = .ok (.laload, 1) := by decide +kernel
theorem dX8_trade_106 : decode cX8_trade 106 = .ok (.aload_n 0, 1) := by decide +kernel
theorem dX8_trade_107 : decode cX8_trade 107 = .ok (.getfield 7, 3) := by decide +kernel
theorem dX8_trade_110 : decode cX8_trade 110 = .ok (.bipush 8, 2) := by decide +kernel
theorem dX8_trade_112 : decode cX8_trade 112 = .ok (.laload, 1) := by decide +kernel
theorem dX8_trade_113 : decode cX8_trade 113 = .ok (.lsub, 1) := by decide +kernel
theorem dX8_trade_114 : decode cX8_trade 114 = .ok (.lload_n 2, 1) := by decide +kernel
theorem dX8_trade_115 : decode cX8_trade 115 = .ok (.ladd, 1) := by decide +kernel
theorem dX8_trade_116 : decode cX8_trade 116 = .ok (.lconst 0, 1) := by decide +kernel
theorem dX8_trade_117 : decode cX8_trade 117 = .ok (.lcmp, 1) := by decide +kernel
theorem dX8_trade_118 : decode cX8_trade 118 = .ok (.ifCond .ge 6, 3) := by decide +kernel
theorem dX8_trade_121 : decode cX8_trade 121 = .ok (.bipush (-5), 2) := by decide +kernel
theorem dX8_trade_123 : decode cX8_trade 123 = .ok (.ireturn, 1) := by decide +kernel
theorem dX8_trade_124 : decode cX8_trade 124 = .ok (.aload_n 0, 1) := by decide +kernel
theorem dX8_trade_125 : decode cX8_trade 125 = .ok (.invokevirtual 68, 3) := by decide +kernel
theorem dX8_trade_128 : decode cX8_trade 128 = .ok (.aload_n 0, 1) := by decide +kernel
theorem dX8_trade_129 : decode cX8_trade 129 = .ok (.getfield 7, 3) := by decide +kernel
theorem dX8_trade_132 : decode cX8_trade 132 = .ok (.bipush 6, 2) := by decide +kernel
theorem dX8_trade_134 : decode cX8_trade 134 = .ok (.dup2, 1) := by decide +kernel
theorem dX8_trade_135 : decode cX8_trade 135 = .ok (.laload, 1) := by decide +kernel
theorem dX8_trade_136 : decode cX8_trade 136 = .ok (.iload_n 1, 1) := by decide +kernel
theorem dX8_trade_137 : decode cX8_trade 137 = .ok (.i2l, 1) := by decide +kernel
theorem dX8_trade_138 : decode cX8_trade 138 = .ok (.ladd, 1) := by decide +kernel
theorem dX8_trade_139 : decode cX8_trade 139 = .ok (.lastore, 1) := by decide +kernel
theorem dX8_trade_140 : decode cX8_trade 140 = .ok (.aload_n 0, 1) := by decide +kernel
theorem dX8_trade_141 : decode cX8_trade 141 = .ok (.getfield 7, 3) := by decide +kernel
theorem dX8_trade_144 : decode cX8_trade 144 = .ok (.iconst 5, 1) := by decide +kernel
theorem dX8_trade_145 : decode cX8_trade 145 = .ok (.dup2, 1) := by decide +kernel
theorem dX8_trade_146 : decode cX8_trade 146 = .ok (.laload, 1) := by decide +kernel
theorem dX8_trade_147 : decode cX8_trade 147 = .ok (.lload_n 2, 1) := by decide +kernel
theorem dX8_trade_148 : decode cX8_trade 148 = .ok (.ladd, 1) := by decide +kernel
theorem dX8_trade_149 : decode cX8_trade 149 = .ok (.lastore, 1) := by decide +kernel
theorem dX8_trade_150 : decode cX8_trade 150 = .ok (.aload_n 0, 1) := by decide +kernel
theorem dX8_trade_151 : decode cX8_trade 151 = .ok (.getfield 7, 3) := by decide +kernel
theorem dX8_trade_154 : decode cX8_trade 154 = .ok (.bipush 6, 2) := by decide +kernel
theorem dX8_trade_156 : decode cX8_trade 156 = .ok (.laload, 1) := by decide +kernel
theorem dX8_trade_157 : decode cX8_trade 157 = .ok (.l2i, 1) := by decide +kernel
theorem dX8_trade_158 : decode cX8_trade 158 = .ok (.ireturn, 1) := by decide +kernel
theorem dX8_tryIncome_0 : decode cX8_tryIncome 0 = .ok (.iload_n 1, 1) := by decide +kernel
theorem dX8_tryIncome_1 : decode cX8_tryIncome 1 = .ok (.i2l, 1) := by decide +kernel
theorem dX8_tryIncome_2 : decode cX8_tryIncome 2 = .ok (.lconst 1, 1) := by decide +kernel
theorem dX8_tryIncome_3 : decode cX8_tryIncome 3 = .ok (.ldc2_w 108, 3) := by decide +kernel
theorem dX8_tryIncome_6 : decode cX8_tryIncome 6 = .ok (.invokestatic 53, 3) := by decide +kernel
theorem dX8_tryIncome_9 : decode cX8_tryIncome 9 = .ok (.ifCond .ne 6, 3) := by decide +kernel
theorem dX8_tryIncome_12 : decode cX8_tryIncome 12 = .ok (.bipush (-2), 2) := by decide +kernel
theorem dX8_tryIncome_14 : decode cX8_tryIncome 14 = .ok (.ireturn, 1) := by decide +kernel
theorem dX8_tryIncome_15 : decode cX8_tryIncome 15 = .ok (.aload_n 0, 1) := by decide +kernel
theorem dX8_tryIncome_16 : decode cX8_tryIncome 16 = .ok (.invokevirtual 75, 3) := by decide +kernel
theorem dX8_tryIncome_19 : decode cX8_tryIncome 19 = .ok (.lconst 0, 1) := by decide +kernel
theorem dX8_tryIncome_20 : decode cX8_tryIncome 20 = .ok (.lcmp, 1) := by decide +kernel
theorem dX8_tryIncome_21 : decode cX8_tryIncome 21 = .ok (.ifCond .ne 6, 3) := by decide +kernel
theorem dX8_tryIncome_24 : decode cX8_tryIncome 24 = .ok (.bipush (-5), 2) := by decide +kernel
theorem dX8_tryIncome_26 : decode cX8_tryIncome 26 = .ok (.ireturn, 1) := by decide +kernel
theorem dX8_tryIncome_27 : decode cX8_tryIncome 27 = .ok (.aload_n 0, 1) := by decide +kernel
theorem dX8_tryIncome_28 : decode cX8_tryIncome 28 = .ok (.iload_n 2, 1) := by decide +kernel
theorem dX8_tryIncome_29 : decode cX8_tryIncome 29 = .ok (.invokevirtual 114, 3) := by decide +kernel
theorem dX8_tryIncome_32 : decode cX8_tryIncome 32 = .ok (.aload_n 0, 1) := by decide +kernel
theorem dX8_tryIncome_33 : decode cX8_tryIncome 33 = .ok (.getfield 7, 3) := by decide +kernel
theorem dX8_tryIncome_36 : decode cX8_tryIncome 36 = .ok (.iconst 5, 1) := by decide +kernel
theorem dX8_tryIncome_37 : decode cX8_tryIncome 37 = .ok (.dup2, 1) := by decide +kernel
theorem dX8_tryIncome_38 : decode cX8_tryIncome 38 = .ok (.laload, 1) := by decide +kernel
theorem dX8_tryIncome_39 : decode cX8_tryIncome 39 = .ok (.iload_n 1, 1) := by decide +kernel
theorem dX8_tryIncome_40 : decode cX8_tryIncome 40 = .ok (.i2l, 1) := by decide +kernel
theorem dX8_tryIncome_41 : decode cX8_tryIncome 41 = .ok (.ladd, 1) := by decide +kernel
theorem dX8_tryIncome_42 : decode cX8_tryIncome 42 = .ok (.lastore, 1) := by decide +kernel
theorem dX8_tryIncome_43 : decode cX8_tryIncome 43 = .ok (.aload_n 0, 1) := by decide +kernel
theorem dX8_tryIncome_44 : decode cX8_tryIncome 44 = .ok (.getfield 7, 3) := by decide +kernel
theorem dX8_tryIncome_47 : decode cX8_tryIncome 47 = .ok (.bipush 8, 2) := by decide +kernel
theorem dX8_tryIncome_49 : decode cX8_tryIncome 49 = .ok (.dup2, 1) := by decide +kernel
theorem dX8_tryIncome_50 : decode cX8_tryIncome 50 = .ok (.laload, 1) := by decide +kernel
theorem dX8_tryIncome_51 : decode cX8_tryIncome 51 = .ok (.iload_n 1, 1) := by decide +kernel
theorem dX8_tryIncome_52 : decode cX8_tryIncome 52 = .ok (.i2l, 1) := by decide +kernel
theorem dX8_tryIncome_53 : decode cX8_tryIncome 53 = .ok (.ladd, 1) := by decide +kernel
theorem dX8_tryIncome_54 : decode cX8_tryIncome 54 = .ok (.lastore, 1) := by decide +kernel
theorem dX8_tryIncome_55 : decode cX8_tryIncome 55 = .ok (.aload_n 0, 1) := by decide +kernel
theorem dX8_tryIncome_56 : decode cX8_tryIncome 56 = .ok (.getfield 7, 3) := by decide +kernel
theorem dX8_tryIncome_59 : decode cX8_tryIncome 59 = .ok (.bipush 8, 2) := by decide +kernel
theorem dX8_tryIncome_61 : decode cX8_tryIncome 61 = .ok (.laload, 1) := by decide +kernel
theorem dX8_tryIncome_62 : decode cX8_tryIncome 62 = .ok (.l2i, 1) := by decide +kernel
theorem dX8_tryIncome_63 : decode cX8_tryIncome 63 = .ok (.ireturn, 1) := by decide +kernel
theorem dX8_income_0 : decode cX8_income 0 = .ok (.aload_n 0, 1) := by decide +kernel
theorem dX8_income_1 : decode cX8_income 1 = .ok (.iload_n 1, 1) := by decide +kernel
theorem dX8_income_2 : decode cX8_income 2 = .ok (.iconst 1, 1) := by decide +kernel
theorem dX8_income_3 : decode cX8_income 3 = .ok (.invokevirtual 202, 3) := by decide +kernel
theorem dX8_income_6 : decode cX8_income 6 = .ok (.ireturn, 1) := by decide +kernel
theorem dX8_tryPay_0 : decode cX8_tryPay 0 = .ok (.aload_n 0, 1) := by decide +kernel
theorem dX8_tryPay_1 : decode cX8_tryPay 1 = .ok (.iload_n 1, 1) := by decide +kernel
theorem dX8_tryPay_2 : decode cX8_tryPay 2 = .ok (.invokevirtual 114, 3) := by decide +kernel
theorem dX8_tryPay_5 : decode cX8_tryPay 5 = .ok (.aload_n 0, 1) := by decide +kernel
theorem dX8_tryPay_6 : decode cX8_tryPay 6 = .ok (.invokevirtual 132, 3) := by decide +kernel
theorem dX8_tryPay_9 : decode cX8_tryPay 9 = .ok (.lstore_n 2, 1) := by decide +kernel
theorem dX8_tryPay_10 : decode cX8_tryPay 10 = .ok (.aload_n 0, 1) := by decide +kernel
theorem dX8_tryPay_11 : decode cX8_tryPay 11 = .ok (.invokevirtual 97, 3) := by decide +kernel
theorem dX8_tryPay_14 : decode cX8_tryPay 14 = .ok (.lconst 0, 1) := by decide +kernel
theorem dX8_tryPay_15 : decode cX8_tryPay 15 = .ok (.lcmp, 1) := by decide +kernel
theorem dX8_tryPay_16 : decode cX8_tryPay 16 = .ok (.ifCond .ne 7, 3) := by decide +kernel
theorem dX8_tryPay_19 : decode cX8_tryPay 19 = .ok (.lconst 0, 1) := by decide +kernel
theorem dX8_tryPay_20 : decode cX8_tryPay 20 = .ok (.goto 19, 3) := by decide +kernel
theorem dX8_tryPay_23 : decode cX8_tryPay 23 = .ok (.ldc2_w 49, 3) := by decide +kernel
theorem dX8_tryPay_26 : decode cX8_tryPay 26 = .ok (.aload_n 0, 1) := by decide +kernel
theorem dX8_tryPay_27 : decode cX8_tryPay 27 = .ok (.getfield 7, 3) := by decide +kernel
theorem dX8_tryPay_30 : decode cX8_tryPay 30 = .ok (.bipush 9, 2) := by decide +kernel
theorem dX8_tryPay_32 : decode cX8_tryPay 32 = .ok (.laload, 1) := by decide +kernel
theorem dX8_tryPay_33 : decode cX8_tryPay 33 = .ok (.lmul, 1) := by decide +kernel
theorem dX8_tryPay_34 : decode cX8_tryPay 34 = .ok (.aload_n 0, 1) := by decide +kernel
theorem dX8_tryPay_35 : decode cX8_tryPay 35 = .ok (.invokevirtual 97, 3) := by decide +kernel
theorem dX8_tryPay_38 : decode cX8_tryPay 38 = .ok (.ldiv, 1) := by decide +kernel
theorem dX8_tryPay_39 : decode cX8_tryPay 39 = .ok (.lstore 4, 2) := by decide +kernel
theorem dX8_tryPay_41 : decode cX8_tryPay 41 = .ok (.lconst 0, 1) := by decide +kernel
theorem dX8_tryPay_42 : decode cX8_tryPay 42 = .ok (.lstore 6, 2) := by decide +kernel
theorem dX8_tryPay_44 : decode cX8_tryPay 44 = .ok (.iconst 0, 1) := by decide +kernel
theorem dX8_tryPay_45 : decode cX8_tryPay 45 = .ok (.istore 8, 2) := by decide +kernel
theorem dX8_tryPay_47 : decode cX8_tryPay 47 = .ok (.iload 8, 2) := by decide +kernel
theorem dX8_tryPay_49 : decode cX8_tryPay 49 = .ok (.bipush 6, 2) := by decide +kernel
theorem dX8_tryPay_51 : decode cX8_tryPay 51 = .ok (.if_icmp .ge 77, 3) := by decide +kernel
theorem dX8_tryPay_54 : decode cX8_tryPay 54 = .ok (.aload_n 0, 1) := by decide +kernel
theorem dX8_tryPay_55 : decode cX8_tryPay 55 = .ok (.iload 8, 2) := by decide +kernel
theorem dX8_tryPay_57 : decode cX8_tryPay 57 = .ok (.invokevirtual 71, 3) := by decide +kernel
theorem dX8_tryPay_60 : decode cX8_tryPay 60 = .ok (.lload_n 2, 1) := by decide +kernel
theorem dX8_tryPay_61 : decode cX8_tryPay 61 = .ok (.lmul, 1) := by decide +kernel
theorem dX8_tryPay_62 : decode cX8_tryPay 62 = .ok (.ldc2_w 49, 3) := by decide +kernel
theorem dX8_tryPay_65 : decode cX8_tryPay 65 = .ok (.ldiv, 1) := by decide +kernel
theorem dX8_tryPay_66 : decode cX8_tryPay 66 = .ok (.lstore 9, 2) := by decide +kernel
theorem dX8_tryPay_68 : decode cX8_tryPay 68 = .ok (.aload_n 0, 1) := by decide +kernel
theorem dX8_tryPay_69 : decode cX8_tryPay 69 = .ok (.iload 8, 2) := by decide +kernel
theorem dX8_tryPay_71 : decode cX8_tryPay 71 = .ok (.iconst 1, 1) := by decide +kernel
theorem dX8_tryPay_72 : decode cX8_tryPay 72 = .ok (.invokevirtual 57, 3) := by decide +kernel
theorem dX8_tryPay_75 : decode cX8_tryPay 75 = .ok (.lload 4, 2) := by decide +kernel
theorem dX8_tryPay_77 : decode cX8_tryPay 77 = .ok (.lmul, 1) := by decide +kernel
theorem dX8_tryPay_78 : decode cX8_tryPay 78 = .ok (.ldc2_w 49, 3) := by decide +kernel
theorem dX8_tryPay_81 : decode cX8_tryPay 81 = .ok (.ldiv, 1) := by decide +kernel
theorem dX8_tryPay_82 : decode cX8_tryPay 82 = .ok (.lstore 11, 2) := by decide +kernel
theorem dX8_tryPay_84 : decode cX8_tryPay 84 = .ok (.aload_n 0, 1) := by decide +kernel
theorem dX8_tryPay_85 : decode cX8_tryPay 85 = .ok (.iload 8, 2) := by decide +kernel
theorem dX8_tryPay_87 : decode cX8_tryPay 87 = .ok (.iconst 4, 1) := by decide +kernel
theorem dX8_tryPay_88 : decode cX8_tryPay 88 = .ok (.lload 9, 2) := by decide +kernel
theorem dX8_tryPay_90 : decode cX8_tryPay 90 = .ok (.invokevirtual 90, 3) := by decide +kernel
theorem dX8_tryPay_93 : decode cX8_tryPay 93 = .ok (.aload_n 0, 1) := by decide +kernel
theorem dX8_tryPay_94 : decode cX8_tryPay 94 = .ok (.iload 8, 2) := by decide +kernel
theorem dX8_tryPay_96 : decode cX8_tryPay 96 = .ok (.iconst 5, 1) := by decide +kernel
theorem dX8_tryPay_97 : decode cX8_tryPay 97 = .ok (.lload 11, 2) := by decide +kernel
theorem dX8_tryPay_99 : decode cX8_tryPay 99 = .ok (.lload 9, 2) := by decide +kernel
theorem dX8_tryPay_101 : decode cX8_tryPay 101 = .ok (.lcmp, 1) := by decide +kernel
theorem dX8_tryPay_102 : decode cX8_tryPay 102 = .ok (.ifCond .ge 8, 3) := by decide +kernel
end
section
theorem dX8_tryPay_105 : decode cX8_tryPay 105 = .ok (.lload 11, 2) := by decide +kernel
theorem dX8_tryPay_107 : decode cX8_tryPay 107 = .ok (.goto 5, 3) := by decide +kernel
theorem dX8_tryPay_110 : decode cX8_tryPay 110 = .ok (.lload 9, 2) := by decide +kernel
theorem dX8_tryPay_112 : decode cX8_tryPay 112 = .ok (.invokevirtual 90, 3) := by decide +kernel
theorem dX8_tryPay_115 : decode cX8_tryPay 115 = .ok (.lload 6, 2) := by decide +kernel
theorem dX8_tryPay_117 : decode cX8_tryPay 117 = .ok (.lload 9, 2) := by decide +kernel
theorem dX8_tryPay_119 : decode cX8_tryPay 119 = .ok (.ladd, 1) := by decide +kernel
theorem dX8_tryPay_120 : decode cX8_tryPay 120 = .ok (.lstore 6, 2) := by decide +kernel
theorem dX8_tryPay_122 : decode cX8_tryPay 122 = .ok (.iinc 8 1, 3) := by decide +kernel
theorem dX8_tryPay_125 : decode cX8_tryPay 125 = .ok (.goto (-78), 3) := by decide +kernel
theorem dX8_tryPay_128 : decode cX8_tryPay 128 = .ok (.iconst 0, 1) := by decide +kernel
theorem dX8_tryPay_129 : decode cX8_tryPay 129 = .ok (.istore 8, 2) := by decide +kernel
theorem dX8_tryPay_131 : decode cX8_tryPay 131 = .ok (.iload 8, 2) := by decide +kernel
theorem dX8_tryPay_133 : decode cX8_tryPay 133 = .ok (.bipush 6, 2) := by decide +kernel
theorem dX8_tryPay_135 : decode cX8_tryPay 135 = .ok (.if_icmp .ge 37, 3) := by decide +kernel
theorem dX8_tryPay_138 : decode cX8_tryPay 138 = .ok (.aload_n 0, 1) := by decide +kernel
theorem dX8_tryPay_139 : decode cX8_tryPay 139 = .ok (.iload 8, 2) := by decide +kernel
theorem dX8_tryPay_141 : decode cX8_tryPay 141 = .ok (.iconst 1, 1) := by decide +kernel
theorem dX8_tryPay_142 : decode cX8_tryPay 142 = .ok (.invokevirtual 57, 3) := by decide +kernel
theorem dX8_tryPay_145 : decode cX8_tryPay 145 = .ok (.lstore 9, 2) := by decide +kernel
theorem dX8_tryPay_147 : decode cX8_tryPay 147 = .ok (.aload_n 0, 1) := by decide +kernel
theorem dX8_tryPay_148 : decode cX8_tryPay 148 = .ok (.iload 8, 2) := by decide +kernel
theorem dX8_tryPay_150 : decode cX8_tryPay 150 = .ok (.iconst 0, 1) := by decide +kernel
theorem dX8_tryPay_151 : decode cX8_tryPay 151 = .ok (.lload 9, 2) := by decide +kernel
theorem dX8_tryPay_153 : decode cX8_tryPay 153 = .ok (.invokevirtual 90, 3) := by decide +kernel
theorem dX8_tryPay_156 : decode cX8_tryPay 156 = .ok (.aload_n 0, 1) := by decide +kernel
theorem dX8_tryPay_157 : decode cX8_tryPay 157 = .ok (.iload 8, 2) := by decide +kernel
theorem dX8_tryPay_159 : decode cX8_tryPay 159 = .ok (.iconst 1, 1) := by decide +kernel
theorem dX8_tryPay_160 : decode cX8_tryPay 160 = .ok (.lload 9, 2) := by decide +kernel
theorem dX8_tryPay_162 : decode cX8_tryPay 162 = .ok (.lneg, 1) := by decide +kernel
theorem dX8_tryPay_163 : decode cX8_tryPay 163 = .ok (.invokevirtual 90, 3) := by decide +kernel
theorem dX8_tryPay_166 : decode cX8_tryPay 166 = .ok (.iinc 8 1, 3) := by decide +kernel
theorem dX8_tryPay_169 : decode cX8_tryPay 169 = .ok (.goto (-38), 3) := by decide +kernel
theorem dX8_tryPay_172 : decode cX8_tryPay 172 = .ok (.aload_n 0, 1) := by decide +kernel
theorem dX8_tryPay_173 : decode cX8_tryPay 173 = .ok (.getfield 7, 3) := by decide +kernel
theorem dX8_tryPay_176 : decode cX8_tryPay 176 = .ok (.iconst 5, 1) := by decide +kernel
theorem dX8_tryPay_177 : decode cX8_tryPay 177 = .ok (.dup2, 1) := by decide +kernel
theorem dX8_tryPay_178 : decode cX8_tryPay 178 = .ok (.laload, 1) := by decide +kernel
theorem dX8_tryPay_179 : decode cX8_tryPay 179 = .ok (.lload 6, 2) := by decide +kernel
theorem dX8_tryPay_181 : decode cX8_tryPay 181 = .ok (.lsub, 1) := by decide +kernel
theorem dX8_tryPay_182 : decode cX8_tryPay 182 = .ok (.lastore, 1) := by decide +kernel
theorem dX8_tryPay_183 : decode cX8_tryPay 183 = .ok (.aload_n 0, 1) := by decide +kernel
theorem dX8_tryPay_184 : decode cX8_tryPay 184 = .ok (.getfield 7, 3) := by decide +kernel
theorem dX8_tryPay_187 : decode cX8_tryPay 187 = .ok (.bipush 8, 2) := by decide +kernel
theorem dX8_tryPay_189 : decode cX8_tryPay 189 = .ok (.dup2, 1) := by decide +kernel
theorem dX8_tryPay_190 : decode cX8_tryPay 190 = .ok (.laload, 1) := by decide +kernel
theorem dX8_tryPay_191 : decode cX8_tryPay 191 = .ok (.lload 6, 2) := by decide +kernel
theorem dX8_tryPay_193 : decode cX8_tryPay 193 = .ok (.lsub, 1) := by decide +kernel
theorem dX8_tryPay_194 : decode cX8_tryPay 194 = .ok (.lastore, 1) := by decide +kernel
theorem dX8_tryPay_195 : decode cX8_tryPay 195 = .ok (.aload_n 0, 1) := by decide +kernel
theorem dX8_tryPay_196 : decode cX8_tryPay 196 = .ok (.getfield 7, 3) := by decide +kernel
theorem dX8_tryPay_199 : decode cX8_tryPay 199 = .ok (.bipush 9, 2) := by decide +kernel
theorem dX8_tryPay_201 : decode cX8_tryPay 201 = .ok (.lconst 0, 1) := by decide +kernel
theorem dX8_tryPay_202 : decode cX8_tryPay 202 = .ok (.lastore, 1) := by decide +kernel
theorem dX8_tryPay_203 : decode cX8_tryPay 203 = .ok (.lload 6, 2) := by decide +kernel
theorem dX8_tryPay_205 : decode cX8_tryPay 205 = .ok (.l2i, 1) := by decide +kernel
theorem dX8_tryPay_206 : decode cX8_tryPay 206 = .ok (.ireturn, 1) := by decide +kernel
theorem dX8_pay_0 : decode cX8_pay 0 = .ok (.aload_n 0, 1) := by decide +kernel
theorem dX8_pay_1 : decode cX8_pay 1 = .ok (.iconst 1, 1) := by decide +kernel
theorem dX8_pay_2 : decode cX8_pay 2 = .ok (.invokevirtual 205, 3) := by decide +kernel
theorem dX8_pay_5 : decode cX8_pay 5 = .ok (.ireturn, 1) := by decide +kernel
theorem dX8_ofHolder_0 : decode cX8_ofHolder 0 = .ok (.iload_n 1, 1) := by decide +kernel
theorem dX8_ofHolder_1 : decode cX8_ofHolder 1 = .ok (.invokestatic 104, 3) := by decide +kernel
theorem dX8_ofHolder_4 : decode cX8_ofHolder 4 = .ok (.ifCond .ne 5, 3) := by decide +kernel
theorem dX8_ofHolder_7 : decode cX8_ofHolder 7 = .ok (.iconst (-1), 1) := by decide +kernel
theorem dX8_ofHolder_8 : decode cX8_ofHolder 8 = .ok (.ireturn, 1) := by decide +kernel
theorem dX8_ofHolder_9 : decode cX8_ofHolder 9 = .ok (.iload_n 2, 1) := by decide +kernel
theorem dX8_ofHolder_10 : decode cX8_ofHolder 10 = .ok (.tableswitch 84 0 8 #[50, 57, 57, 67, 74, 74, 74, 74, 74], 50) := by decide +kernel
theorem dX8_ofHolder_60 : decode cX8_ofHolder 60 = .ok (.aload_n 0, 1) := by decide +kernel
theorem dX8_ofHolder_61 : decode cX8_ofHolder 61 = .ok (.iload_n 1, 1) := by decide +kernel
theorem dX8_ofHolder_62 : decode cX8_ofHolder 62 = .ok (.invokevirtual 71, 3) := by decide +kernel
theorem dX8_ofHolder_65 : decode cX8_ofHolder 65 = .ok (.l2i, 1) := by decide +kernel
theorem dX8_ofHolder_66 : decode cX8_ofHolder 66 = .ok (.ireturn, 1) := by decide +kernel
theorem dX8_ofHolder_67 : decode cX8_ofHolder 67 = .ok (.aload_n 0, 1) := by decide +kernel
theorem dX8_ofHolder_68 : decode cX8_ofHolder 68 = .ok (.iload_n 1, 1) := by decide +kernel
theorem dX8_ofHolder_69 : decode cX8_ofHolder 69 = .ok (.iload_n 2, 1) := by decide +kernel
theorem dX8_ofHolder_70 : decode cX8_ofHolder 70 = .ok (.iconst 1, 1) := by decide +kernel
theorem dX8_ofHolder_71 : decode cX8_ofHolder 71 = .ok (.isub, 1) := by decide +kernel
theorem dX8_ofHolder_72 : decode cX8_ofHolder 72 = .ok (.invokevirtual 57, 3) := by decide +kernel
theorem dX8_ofHolder_75 : decode cX8_ofHolder 75 = .ok (.l2i, 1) := by decide +kernel
theorem dX8_ofHolder_76 : decode cX8_ofHolder 76 = .ok (.ireturn, 1) := by decide +kernel
theorem dX8_ofHolder_77 : decode cX8_ofHolder 77 = .ok (.aload_n 0, 1) := by decide +kernel
theorem dX8_ofHolder_78 : decode cX8_ofHolder 78 = .ok (.iload_n 1, 1) := by decide +kernel
theorem dX8_ofHolder_79 : decode cX8_ofHolder 79 = .ok (.invokevirtual 126, 3) := by decide +kernel
theorem dX8_ofHolder_82 : decode cX8_ofHolder 82 = .ok (.l2i, 1) := by decide +kernel
theorem dX8_ofHolder_83 : decode cX8_ofHolder 83 = .ok (.ireturn, 1) := by decide +kernel
theorem dX8_ofHolder_84 : decode cX8_ofHolder 84 = .ok (.aload_n 0, 1) := by decide +kernel
theorem dX8_ofHolder_85 : decode cX8_ofHolder 85 = .ok (.iload_n 1, 1) := by decide +kernel
theorem dX8_ofHolder_86 : decode cX8_ofHolder 86 = .ok (.iload_n 2, 1) := by decide +kernel
theorem dX8_ofHolder_87 : decode cX8_ofHolder 87 = .ok (.iconst 2, 1) := by decide +kernel
theorem dX8_ofHolder_88 : decode cX8_ofHolder 88 = .ok (.isub, 1) := by decide +kernel
theorem dX8_ofHolder_89 : decode cX8_ofHolder 89 = .ok (.invokevirtual 57, 3) := by decide +kernel
theorem dX8_ofHolder_92 : decode cX8_ofHolder 92 = .ok (.l2i, 1) := by decide +kernel
theorem dX8_ofHolder_93 : decode cX8_ofHolder 93 = .ok (.ireturn, 1) := by decide +kernel
theorem dX8_ofHolder_94 : decode cX8_ofHolder 94 = .ok (.bipush (-2), 2) := by decide +kernel
theorem dX8_ofHolder_96 : decode cX8_ofHolder 96 = .ok (.ireturn, 1) := by decide +kernel
theorem dX8_count_0 : decode cX8_count 0 = .ok (.iload_n 1, 1) := by decide +kernel
theorem dX8_count_1 : decode cX8_count 1 = .ok (.tableswitch 189 0 18 #[91, 91, 91, 101, 107, 113, 119, 119, 119, 133, 142, 151, 168, 168, 168, 168, 168, 179, 184], 91) := by decide +kernel
theorem dX8_count_92 : decode cX8_count 92 = .ok (.aload_n 0, 1) := by decide +kernel
theorem dX8_count_93 : decode cX8_count 93 = .ok (.getfield 7, 3) := by decide +kernel
theorem dX8_count_96 : decode cX8_count 96 = .ok (.iconst 5, 1) := by decide +kernel
theorem dX8_count_97 : decode cX8_count 97 = .ok (.iload_n 1, 1) := by decide +kernel
theorem dX8_count_98 : decode cX8_count 98 = .ok (.iadd, 1) := by decide +kernel
theorem dX8_count_99 : decode cX8_count 99 = .ok (.laload, 1) := by decide +kernel
theorem dX8_count_100 : decode cX8_count 100 = .ok (.l2i, 1) := by decide +kernel
theorem dX8_count_101 : decode cX8_count 101 = .ok (.ireturn, 1) := by decide +kernel
theorem dX8_count_102 : decode cX8_count 102 = .ok (.aload_n 0, 1) := by decide +kernel
theorem dX8_count_103 : decode cX8_count 103 = .ok (.invokevirtual 81, 3) := by decide +kernel
theorem dX8_count_106 : decode cX8_count 106 = .ok (.l2i, 1) := by decide +kernel
theorem dX8_count_107 : decode cX8_count 107 = .ok (.ireturn, 1) := by decide +kernel
theorem dX8_count_108 : decode cX8_count 108 = .ok (.aload_n 0, 1) := by decide +kernel
theorem dX8_count_109 : decode cX8_count 109 = .ok (.invokevirtual 75, 3) := by decide +kernel
theorem dX8_count_112 : decode cX8_count 112 = .ok (.l2i, 1) := by decide +kernel
theorem dX8_count_113 : decode cX8_count 113 = .ok (.ireturn, 1) := by decide +kernel
theorem dX8_count_114 : decode cX8_count 114 = .ok (.aload_n 0, 1) := by decide +kernel
theorem dX8_count_115 : decode cX8_count 115 = .ok (.invokevirtual 97, 3) := by decide +kernel
theorem dX8_count_118 : decode cX8_count 118 = .ok (.l2i, 1) := by decide +kernel
theorem dX8_count_119 : decode cX8_count 119 = .ok (.ireturn, 1) := by decide +kernel
theorem dX8_count_120 : decode cX8_count 120 = .ok (.aload_n 0, 1) := by decide +kernel
theorem dX8_count_121 : decode cX8_count 121 = .ok (.getfield 7, 3) := by decide +kernel
theorem dX8_count_124 : decode cX8_count 124 = .ok (.bipush 8, 2) := by decide +kernel
theorem dX8_count_126 : decode cX8_count 126 = .ok (.iload_n 1, 1) := by decide +kernel
theorem dX8_count_127 : decode cX8_count 127 = .ok (.iadd, 1) := by decide +kernel
theorem dX8_count_128 : decode cX8_count 128 = .ok (.bipush 6, 2) := by decide +kernel
theorem dX8_count_130 : decode cX8_count 130 = .ok (.isub, 1) := by decide +kernel
theorem dX8_count_131 : decode cX8_count 131 = .ok (.laload, 1) := by decide +kernel
theorem dX8_count_132 : decode cX8_count 132 = .ok (.l2i, 1) := by decide +kernel
theorem dX8_count_133 : decode cX8_count 133 = .ok (.ireturn, 1) := by decide +kernel
theorem dX8_count_134 : decode cX8_count 134 = .ok (.aload_n 0, 1) := by decide +kernel
theorem dX8_count_135 : decode cX8_count 135 = .ok (.getfield 7, 3) := by decide +kernel
theorem dX8_count_138 : decode cX8_count 138 = .ok (.bipush 61, 2) := by decide +kernel
theorem dX8_count_140 : decode cX8_count 140 = .ok (.laload, 1) := by decide +kernel
theorem dX8_count_141 : decode cX8_count 141 = .ok (.l2i, 1) := by decide +kernel
theorem dX8_count_142 : decode cX8_count 142 = .ok (.ireturn, 1) := by decide +kernel
theorem dX8_count_143 : decode cX8_count 143 = .ok (.aload_n 0, 1) := by decide +kernel
theorem dX8_count_144 : decode cX8_count 144 = .ok (.getfield 7, 3) := by decide +kernel
theorem dX8_count_147 : decode cX8_count 147 = .ok (.bipush 122, 2) := by decide +kernel
theorem dX8_count_149 : decode cX8_count 149 = .ok (.laload, 1) := by decide +kernel
theorem dX8_count_150 : decode cX8_count 150 = .ok (.l2i, 1) := by decide +kernel
theorem dX8_count_151 : decode cX8_count 151 = .ok (.ireturn, 1) := by decide +kernel
theorem dX8_count_152 : decode cX8_count 152 = .ok (.aload_n 0, 1) := by decide +kernel
theorem dX8_count_153 : decode cX8_count 153 = .ok (.bipush 122, 2) := by decide +kernel
theorem dX8_count_155 : decode cX8_count 155 = .ok (.aload_n 0, 1) := by decide +kernel
theorem dX8_count_156 : decode cX8_count 156 = .ok (.getfield 7, 3) := by decide +kernel
theorem dX8_count_159 : decode cX8_count 159 = .ok (.bipush 10, 2) := by decide +kernel
theorem dX8_count_161 : decode cX8_count 161 = .ok (.laload, 1) := by decide +kernel
theorem dX8_count_162 : decode cX8_count 162 = .ok (.lconst 1, 1) := by decide +kernel
theorem dX8_count_163 : decode cX8_count 163 = .ok (.ladd, 1) := by decide +kernel
theorem dX8_count_164 : decode cX8_count 164 = .ok (.invokevirtual 139, 3) := by decide +kernel
theorem dX8_count_167 : decode cX8_count 167 = .ok (.l2i, 1) := by decide +kernel
theorem dX8_count_168 : decode cX8_count 168 = .ok (.ireturn, 1) := by decide +kernel
theorem dX8_count_169 : decode cX8_count 169 = .ok (.aload_n 0, 1) := by decide +kernel
theorem dX8_count_170 : decode cX8_count 170 = .ok (.getfield 7, 3) := by decide +kernel
theorem dX8_count_173 : decode cX8_count 173 = .ok (.iload_n 1, 1) := by decide +kernel
theorem dX8_count_174 : decode cX8_count 174 = .ok (.bipush 12, 2) := by decide +kernel
theorem dX8_count_176 : decode cX8_count 176 = .ok (.isub, 1) := by decide +kernel
theorem dX8_count_177 : decode cX8_count 177 = .ok (.laload, 1) := by decide +kernel
theorem dX8_count_178 : decode cX8_count 178 = .ok (.l2i, 1) := by decide +kernel
theorem dX8_count_179 : decode cX8_count 179 = .ok (.ireturn, 1) := by decide +kernel
theorem dX8_count_180 : decode cX8_count 180 = .ok (.aload_n 0, 1) := by decide +kernel
theorem dX8_count_181 : decode cX8_count 181 = .ok (.getfield 208, 3) := by decide +kernel
theorem dX8_count_184 : decode cX8_count 184 = .ok (.ireturn, 1) := by decide +kernel
theorem dX8_count_185 : decode cX8_count 185 = .ok (.aload_n 0, 1) := by decide +kernel
theorem dX8_count_186 : decode cX8_count 186 = .ok (.getfield 61, 3) := by decide +kernel
theorem dX8_count_189 : decode cX8_count 189 = .ok (.ireturn, 1) := by decide +kernel
theorem dX8_count_190 : decode cX8_count 190 = .ok (.bipush (-2), 2) := by decide +kernel
theorem dX8_count_192 : decode cX8_count 192 = .ok (.ireturn, 1) := by decide +kernel
theorem dX8_order_0 : decode cX8_order 0 = .ok (.iload_n 1, 1) := by decide +kernel
theorem dX8_order_1 : decode cX8_order 1 = .ok (.i2l, 1) := by decide +kernel
theorem dX8_order_2 : decode cX8_order 2 = .ok (.lconst 0, 1) := by decide +kernel
theorem dX8_order_3 : decode cX8_order 3 = .ok (.lconst 1, 1) := by decide +kernel
theorem dX8_order_4 : decode cX8_order 4 = .ok (.invokestatic 53, 3) := by decide +kernel
theorem dX8_order_7 : decode cX8_order 7 = .ok (.ifCond .eq 15, 3) := by decide +kernel
theorem dX8_order_10 : decode cX8_order 10 = .ok (.iload_n 3, 1) := by decide +kernel
theorem dX8_order_11 : decode cX8_order 11 = .ok (.i2l, 1) := by decide +kernel
theorem dX8_order_12 : decode cX8_order 12 = .ok (.lconst 0, 1) := by decide +kernel
theorem dX8_order_13 : decode cX8_order 13 = .ok (.ldc2_w 211, 3) := by decide +kernel
theorem dX8_order_16 : decode cX8_order 16 = .ok (.invokestatic 53, 3) := by decide +kernel
theorem dX8_order_19 : decode cX8_order 19 = .ok (.ifCond .ne 6, 3) := by decide +kernel
theorem dX8_order_22 : decode cX8_order 22 = .ok (.bipush (-2), 2) := by decide +kernel
theorem dX8_order_24 : decode cX8_order 24 = .ok (.ireturn, 1) := by decide +kernel
theorem dX8_order_25 : decode cX8_order 25 = .ok (.iload_n 1, 1) := by decide +kernel
theorem dX8_order_26 : decode cX8_order 26 = .ok (.ifCond .ne 8, 3) := by decide +kernel
theorem dX8_order_29 : decode cX8_order 29 = .ok (.bipush 61, 2) := by decide +kernel
theorem dX8_order_31 : decode cX8_order 31 = .ok (.goto 5, 3) := by decide +kernel
theorem dX8_order_34 : decode cX8_order 34 = .ok (.bipush 122, 2) := by decide +kernel
theorem dX8_order_36 : decode cX8_order 36 = .ok (.istore 4, 2) := by decide +kernel
theorem dX8_order_38 : decode cX8_order 38 = .ok (.iload_n 2, 1) := by decide +kernel
theorem dX8_order_39 : decode cX8_order 39 = .ok (.i2l, 1) := by decide +kernel
theorem dX8_order_40 : decode cX8_order 40 = .ok (.lconst 0, 1) := by decide +kernel
theorem dX8_order_41 : decode cX8_order 41 = .ok (.aload_n 0, 1) := by decide +kernel
theorem dX8_order_42 : decode cX8_order 42 = .ok (.getfield 7, 3) := by decide +kernel
theorem dX8_order_45 : decode cX8_order 45 = .ok (.iload 4, 2) := by decide +kernel
theorem dX8_order_47 : decode cX8_order 47 = .ok (.laload, 1) := by decide +kernel
theorem dX8_order_48 : decode cX8_order 48 = .ok (.lconst 1, 1) := by decide +kernel
theorem dX8_order_49 : decode cX8_order 49 = .ok (.lsub, 1) := by decide +kernel
theorem dX8_order_50 : decode cX8_order 50 = .ok (.invokestatic 53, 3) := by decide +kernel
theorem dX8_order_53 : decode cX8_order 53 = .ok (.ifCond .eq 15, 3) := by decide +kernel
theorem dX8_order_56 : decode cX8_order 56 = .ok (.aload_n 0, 1) := by decide +kernel
theorem dX8_order_57 : decode cX8_order 57 = .ok (.iload 4, 2) := by decide +kernel
theorem dX8_order_59 : decode cX8_order 59 = .ok (.iload_n 2, 1) := by decide +kernel
theorem dX8_order_60 : decode cX8_order 60 = .ok (.iload_n 3, 1) := by decide +kernel
theorem dX8_order_61 : decode cX8_order 61 = .ok (.invokevirtual 86, 3) := by decide +kernel
theorem dX8_order_64 : decode cX8_order 64 = .ok (.l2i, 1) := by decide +kernel
theorem dX8_order_65 : decode cX8_order 65 = .ok (.goto 4, 3) := by decide +kernel
theorem dX8_order_68 : decode cX8_order 68 = .ok (.iconst (-1), 1) := by decide +kernel
theorem dX8_order_69 : decode cX8_order 69 = .ok (.ireturn, 1) := by decide +kernel
theorem dX8_lastDay_0 : decode cX8_lastDay 0 = .ok (.iload_n 1, 1) := by decide +kernel
theorem dX8_lastDay_1 : decode cX8_lastDay 1 = .ok (.i2l, 1) := by decide +kernel
theorem dX8_lastDay_2 : decode cX8_lastDay 2 = .ok (.lconst 0, 1) := by decide +kernel
theorem dX8_lastDay_3 : decode cX8_lastDay 3 = .ok (.ldc2_w 47, 3) := by decide +kernel
theorem dX8_lastDay_6 : decode cX8_lastDay 6 = .ok (.invokestatic 53, 3) := by decide +kernel
theorem dX8_lastDay_9 : decode cX8_lastDay 9 = .ok (.ifCond .ne 6, 3) := by decide +kernel
theorem dX8_lastDay_12 : decode cX8_lastDay 12 = .ok (.bipush (-2), 2) := by decide +kernel
theorem dX8_lastDay_14 : decode cX8_lastDay 14 = .ok (.ireturn, 1) := by decide +kernel
theorem dX8_lastDay_15 : decode cX8_lastDay 15 = .ok (.aload_n 0, 1) := by decide +kernel
theorem dX8_lastDay_16 : decode cX8_lastDay 16 = .ok (.getfield 7, 3) := by decide +kernel
theorem dX8_lastDay_19 : decode cX8_lastDay 19 = .ok (.bipush 18, 2) := by decide +kernel
theorem dX8_lastDay_21 : decode cX8_lastDay 21 = .ok (.laload, 1) := by decide +kernel
theorem dX8_lastDay_22 : decode cX8_lastDay 22 = .ok (.lconst 0, 1) := by decide +kernel
theorem dX8_lastDay_23 : decode cX8_lastDay 23 = .ok (.lcmp, 1) := by decide +kernel
theorem dX8_lastDay_24 : decode cX8_lastDay 24 = .ok (.ifCond .ne 8, 3) := by decide +kernel
theorem dX8_lastDay_27 : decode cX8_lastDay 27 = .ok (.bipush (-6), 2) := by decide +kernel
theorem dX8_lastDay_29 : decode cX8_lastDay 29 = .ok (.goto 13, 3) := by decide +kernel
theorem dX8_lastDay_32 : decode cX8_lastDay 32 = .ok (.aload_n 0, 1) := by decide +kernel
theorem dX8_lastDay_33 : decode cX8_lastDay 33 = .ok (.getfield 7, 3) := by decide +kernel
theorem dX8_lastDay_36 : decode cX8_lastDay 36 = .ok (.bipush 12, 2) := by decide +kernel
theorem dX8_lastDay_38 : decode cX8_lastDay 38 = .ok (.iload_n 1, 1) := by decide +kernel
theorem dX8_lastDay_39 : decode cX8_lastDay 39 = .ok (.iadd, 1) := by decide +kernel
theorem dX8_lastDay_40 : decode cX8_lastDay 40 = .ok (.laload, 1) := by decide +kernel
theorem dX8_lastDay_41 : decode cX8_lastDay 41 = .ok (.l2i, 1) := by decide +kernel
theorem dX8_lastDay_42 : decode cX8_lastDay 42 = .ok (.ireturn, 1) := by decide +kernel
theorem dX8_price_0 : decode cX8_price 0 = .ok (.iload_n 1, 1) := by decide +kernel
theorem dX8_price_1 : decode cX8_price 1 = .ok (.tableswitch 54 0 3 #[31, 36, 41, 49], 31) := by decide +kernel
theorem dX8_price_32 : decode cX8_price 32 = .ok (.aload_n 0, 1) := by decide +kernel
theorem dX8_price_33 : decode cX8_price 33 = .ok (.invokevirtual 146, 3) := by decide +kernel
theorem dX8_price_36 : decode cX8_price 36 = .ok (.lreturn, 1) := by decide +kernel
theorem dX8_price_37 : decode cX8_price 37 = .ok (.aload_n 0, 1) := by decide +kernel
theorem dX8_price_38 : decode cX8_price 38 = .ok (.invokevirtual 173, 3) := by decide +kernel
theorem dX8_price_41 : decode cX8_price 41 = .ok (.lreturn, 1) := by decide +kernel
theorem dX8_price_42 : decode cX8_price 42 = .ok (.aload_n 0, 1) := by decide +kernel
theorem dX8_price_43 : decode cX8_price 43 = .ok (.getfield 7, 3) := by decide +kernel
theorem dX8_price_46 : decode cX8_price 46 = .ok (.bipush 11, 2) := by decide +kernel
theorem dX8_price_48 : decode cX8_price 48 = .ok (.laload, 1) := by decide +kernel
theorem dX8_price_49 : decode cX8_price 49 = .ok (.lreturn, 1) := by decide +kernel
theorem dX8_price_50 : decode cX8_price 50 = .ok (.aload_n 0, 1) := by decide +kernel
theorem dX8_price_51 : decode cX8_price 51 = .ok (.invokevirtual 132, 3) := by decide +kernel
theorem dX8_price_54 : decode cX8_price 54 = .ok (.lreturn, 1) := by decide +kernel
theorem dX8_price_55 : decode cX8_price 55 = .ok (.ldc2_w 213, 3) := by decide +kernel
theorem dX8_price_58 : decode cX8_price 58 = .ok (.lreturn, 1) := by decide +kernel
theorem dX8_exitIn_0 : decode cX8_exitIn 0 = .ok (.iload_n 1, 1) := by decide +kernel
theorem dX8_exitIn_1 : decode cX8_exitIn 1 = .ok (.invokestatic 104, 3) := by decide +kernel
theorem dX8_exitIn_4 : decode cX8_exitIn 4 = .ok (.ifCond .ne 5, 3) := by decide +kernel
theorem dX8_exitIn_7 : decode cX8_exitIn 7 = .ok (.iconst (-1), 1) := by decide +kernel
theorem dX8_exitIn_8 : decode cX8_exitIn 8 = .ok (.ireturn, 1) := by decide +kernel
theorem dX8_exitIn_9 : decode cX8_exitIn 9 = .ok (.aload_n 0, 1) := by decide +kernel
theorem dX8_exitIn_10 : decode cX8_exitIn 10 = .ok (.invokevirtual 215, 3) := by decide +kernel
theorem dX8_exitIn_13 : decode cX8_exitIn 13 = .ok (.iconst 0, 1) := by decide +kernel
theorem dX8_exitIn_14 : decode cX8_exitIn 14 = .ok (.istore_n 2, 1) := by decide +kernel
theorem dX8_exitIn_15 : decode cX8_exitIn 15 = .ok (.iload_n 2, 1) := by decide +kernel
theorem dX8_exitIn_16 : decode cX8_exitIn 16 = .ok (.bipush 60, 2) := by decide +kernel
theorem dX8_exitIn_18 : decode cX8_exitIn 18 = .ok (.if_icmp .ge 23, 3) := by decide +kernel
theorem dX8_exitIn_21 : decode cX8_exitIn 21 = .ok (.aload_n 0, 1) := by decide +kernel
theorem dX8_exitIn_22 : decode cX8_exitIn 22 = .ok (.iload_n 1, 1) := by decide +kernel
theorem dX8_exitIn_23 : decode cX8_exitIn 23 = .ok (.invokevirtual 126, 3) := by decide +kernel
theorem dX8_exitIn_26 : decode cX8_exitIn 26 = .ok (.lconst 0, 1) := by decide +kernel
theorem dX8_exitIn_27 : decode cX8_exitIn 27 = .ok (.lcmp, 1) := by decide +kernel
theorem dX8_exitIn_28 : decode cX8_exitIn 28 = .ok (.ifCond .le 13, 3) := by decide +kernel
theorem dX8_exitIn_31 : decode cX8_exitIn 31 = .ok (.aload_n 0, 1) := by decide +kernel
theorem dX8_exitIn_32 : decode cX8_exitIn 32 = .ok (.invokevirtual 187, 3) := by decide +kernel
theorem dX8_exitIn_35 : decode cX8_exitIn 35 = .ok (.iinc 2 1, 3) := by decide +kernel
theorem dX8_exitIn_38 : decode cX8_exitIn 38 = .ok (.goto (-23), 3) := by decide +kernel
theorem dX8_exitIn_41 : decode cX8_exitIn 41 = .ok (.aload_n 0, 1) := by decide +kernel
theorem dX8_exitIn_42 : decode cX8_exitIn 42 = .ok (.iload_n 1, 1) := by decide +kernel
theorem dX8_exitIn_43 : decode cX8_exitIn 43 = .ok (.invokevirtual 126, 3) := by decide +kernel
theorem dX8_exitIn_46 : decode cX8_exitIn 46 = .ok (.lconst 0, 1) := by decide +kernel
theorem dX8_exitIn_47 : decode cX8_exitIn 47 = .ok (.lcmp, 1) := by decide +kernel
theorem dX8_exitIn_48 : decode cX8_exitIn 48 = .ok (.ifCond .ne 7, 3) := by decide +kernel
theorem dX8_exitIn_51 : decode cX8_exitIn 51 = .ok (.iconst 1, 1) := by decide +kernel
theorem dX8_exitIn_52 : decode cX8_exitIn 52 = .ok (.goto 4, 3) := by decide +kernel
theorem dX8_exitIn_55 : decode cX8_exitIn 55 = .ok (.iconst 0, 1) := by decide +kernel
theorem dX8_exitIn_56 : decode cX8_exitIn 56 = .ok (.istore_n 3, 1) := by decide +kernel
theorem dX8_exitIn_57 : decode cX8_exitIn 57 = .ok (.aload_n 0, 1) := by decide +kernel
theorem dX8_exitIn_58 : decode cX8_exitIn 58 = .ok (.invokevirtual 218, 3) := by decide +kernel
theorem dX8_exitIn_61 : decode cX8_exitIn 61 = .ok (.iload_n 3, 1) := by decide +kernel
theorem dX8_exitIn_62 : decode cX8_exitIn 62 = .ok (.ifCond .eq 7, 3) := by decide +kernel
theorem dX8_exitIn_65 : decode cX8_exitIn 65 = .ok (.iload_n 2, 1) := by decide +kernel
theorem dX8_exitIn_66 : decode cX8_exitIn 66 = .ok (.goto 5, 3) := by decide +kernel
theorem dX8_exitIn_69 : decode cX8_exitIn 69 = .ok (.bipush (-6), 2) := by decide +kernel
theorem dX8_exitIn_71 : decode cX8_exitIn 71 = .ok (.ireturn, 1) := by decide +kernel
theorem dX8_fairSwing_0 : decode cX8_fairSwing 0 = .ok (.aload_n 0, 1) := by decide +kernel
theorem dX8_fairSwing_1 : decode cX8_fairSwing 1 = .ok (.invokevirtual 146, 3) := by decide +kernel
theorem dX8_fairSwing_4 : decode cX8_fairSwing 4 = .ok (.lstore_n 1, 1) := by decide +kernel
theorem dX8_fairSwing_5 : decode cX8_fairSwing 5 = .ok (.bipush (-6), 2) := by decide +kernel
theorem dX8_fairSwing_7 : decode cX8_fairSwing 7 = .ok (.istore_n 3, 1) := by decide +kernel
theorem dX8_fairSwing_8 : decode cX8_fairSwing 8 = .ok (.aload_n 0, 1) := by decide +kernel
theorem dX8_fairSwing_9 : decode cX8_fairSwing 9 = .ok (.invokevirtual 215, 3) := by decide +kernel
theorem dX8_fairSwing_12 : decode cX8_fairSwing 12 = .ok (.iconst 0, 1) := by decide +kernel
theorem dX8_fairSwing_13 : decode cX8_fairSwing 13 = .ok (.istore 4, 2) := by decide +kernel
theorem dX8_fairSwing_15 : decode cX8_fairSwing 15 = .ok (.iload 4, 2) := by decide +kernel
theorem dX8_fairSwing_17 : decode cX8_fairSwing 17 = .ok (.bipush 100, 2) := by decide +kernel
theorem dX8_fairSwing_19 : decode cX8_fairSwing 19 = .ok (.if_icmp .gt 47, 3) := by decide +kernel
theorem dX8_fairSwing_22 : decode cX8_fairSwing 22 = .ok (.iload_n 3, 1) := by decide +kernel
theorem dX8_fairSwing_23 : decode cX8_fairSwing 23 = .ok (.ifCond .ge 43, 3) := by decide +kernel
theorem dX8_fairSwing_26 : decode cX8_fairSwing 26 = .ok (.aload_n 0, 1) := by decide +kernel
theorem dX8_fairSwing_27 : decode cX8_fairSwing 27 = .ok (.getfield 7, 3) := by decide +kernel
theorem dX8_fairSwing_30 : decode cX8_fairSwing 30 = .ok (.iconst 2, 1) := by decide +kernel
theorem dX8_fairSwing_31 : decode cX8_fairSwing 31 = .ok (.iload 4, 2) := by decide +kernel
theorem dX8_fairSwing_33 : decode cX8_fairSwing 33 = .ok (.i2l, 1) := by decide +kernel
theorem dX8_fairSwing_34 : decode cX8_fairSwing 34 = .ok (.lastore, 1) := by decide +kernel
theorem dX8_fairSwing_35 : decode cX8_fairSwing 35 = .ok (.aload_n 0, 1) := by decide +kernel
theorem dX8_fairSwing_36 : decode cX8_fairSwing 36 = .ok (.invokevirtual 187, 3) := by decide +kernel
theorem dX8_fairSwing_39 : decode cX8_fairSwing 39 = .ok (.aload_n 0, 1) := by decide +kernel
theorem dX8_fairSwing_40 : decode cX8_fairSwing 40 = .ok (.invokevirtual 146, 3) := by decide +kernel
theorem dX8_fairSwing_43 : decode cX8_fairSwing 43 = .ok (.lload_n 1, 1) := by decide +kernel
theorem dX8_fairSwing_44 : decode cX8_fairSwing 44 = .ok (.lcmp, 1) := by decide +kernel
theorem dX8_fairSwing_45 : decode cX8_fairSwing 45 = .ok (.ifCond .lt 8, 3) := by decide +kernel
theorem dX8_fairSwing_48 : decode cX8_fairSwing 48 = .ok (.iload 4, 2) := by decide +kernel
theorem dX8_fairSwing_50 : decode cX8_fairSwing 50 = .ok (.goto 5, 3) := by decide +kernel
theorem dX8_fairSwing_53 : decode cX8_fairSwing 53 = .ok (.bipush (-6), 2) := by decide +kernel
theorem dX8_fairSwing_55 : decode cX8_fairSwing 55 = .ok (.istore_n 3, 1) := by decide +kernel
theorem dX8_fairSwing_56 : decode cX8_fairSwing 56 = .ok (.aload_n 0, 1) := by decide +kernel
theorem dX8_fairSwing_57 : decode cX8_fairSwing 57 = .ok (.invokevirtual 218, 3) := by decide +kernel
theorem dX8_fairSwing_60 : decode cX8_fairSwing 60 = .ok (.iinc 4 1, 3) := by decide +kernel
theorem dX8_fairSwing_63 : decode cX8_fairSwing 63 = .ok (.goto (-48), 3) := by decide +kernel
theorem dX8_fairSwing_66 : decode cX8_fairSwing 66 = .ok (.iload_n 3, 1) := by decide +kernel
theorem dX8_fairSwing_67 : decode cX8_fairSwing 67 = .ok (.ireturn, 1) := by decide +kernel
theorem dX8_put_0 : decode cX8_put 0 = .ok (.iconst 0, 1) := by decide +kernel
theorem dX8_put_1 : decode cX8_put 1 = .ok (.istore_n 3, 1) := by decide +kernel
theorem dX8_put_2 : decode cX8_put 2 = .ok (.lload_n 1, 1) := by decide +kernel
theorem dX8_put_3 : decode cX8_put 3 = .ok (.lstore 4, 2) := by decide +kernel
theorem dX8_put_5 : decode cX8_put 5 = .ok (.iload_n 3, 1) := by decide +kernel
theorem dX8_put_6 : decode cX8_put 6 = .ok (.bipush 8, 2) := by decide +kernel
theorem dX8_put_8 : decode cX8_put 8 = .ok (.if_icmp .ge 48, 3) := by decide +kernel
theorem dX8_put_11 : decode cX8_put 11 = .ok (.lload 4, 2) := by decide +kernel
theorem dX8_put_13 : decode cX8_put 13 = .ok (.ldc2_w 221, 3) := by decide +kernel
theorem dX8_put_16 : decode cX8_put 16 = .ok (.land, 1) := by decide +kernel
theorem dX8_put_17 : decode cX8_put 17 = .ok (.lconst 0, 1) := by decide +kernel
theorem dX8_put_18 : decode cX8_put 18 = .ok (.lcmp, 1) := by decide +kernel
theorem dX8_put_19 : decode cX8_put 19 = .ok (.ifCond .eq 37, 3) := by decide +kernel
theorem dX8_put_22 : decode cX8_put 22 = .ok (.lload 4, 2) := by decide +kernel
theorem dX8_put_24 : decode cX8_put 24 = .ok (.ldc2_w 221, 3) := by decide +kernel
theorem dX8_put_27 : decode cX8_put 27 = .ok (.land, 1) := by decide +kernel
theorem dX8_put_28 : decode cX8_put 28 = .ok (.ldc2_w 223, 3) := by decide +kernel
theorem dX8_put_31 : decode cX8_put 31 = .ok (.ldc2_w 225, 3) := by decide +kernel
theorem dX8_put_34 : decode cX8_put 34 = .ok (.invokestatic 53, 3) := by decide +kernel
theorem dX8_put_37 : decode cX8_put 37 = .ok (.ifCond .ne 6, 3) := by decide +kernel
theorem dX8_put_40 : decode cX8_put 40 = .ok (.bipush (-2), 2) := by decide +kernel
theorem dX8_put_42 : decode cX8_put 42 = .ok (.ireturn, 1) := by decide +kernel
theorem dX8_put_43 : decode cX8_put 43 = .ok (.iinc 3 1, 3) := by decide +kernel
theorem dX8_put_46 : decode cX8_put 46 = .ok (.lload 4, 2) := by decide +kernel
theorem dX8_put_48 : decode cX8_put 48 = .ok (.bipush 8, 2) := by decide +kernel
theorem dX8_put_50 : decode cX8_put 50 = .ok (.lushr, 1) := by decide +kernel
theorem dX8_put_51 : decode cX8_put 51 = .ok (.lstore 4, 2) := by decide +kernel
theorem dX8_put_53 : decode cX8_put 53 = .ok (.goto (-48), 3) := by decide +kernel
theorem dX8_put_56 : decode cX8_put 56 = .ok (.iload_n 3, 1) := by decide +kernel
theorem dX8_put_57 : decode cX8_put 57 = .ok (.ifCond .eq 10, 3) := by decide +kernel
theorem dX8_put_60 : decode cX8_put 60 = .ok (.lload 4, 2) := by decide +kernel
theorem dX8_put_62 : decode cX8_put 62 = .ok (.lconst 0, 1) := by decide +kernel
theorem dX8_put_63 : decode cX8_put 63 = .ok (.lcmp, 1) := by decide +kernel
theorem dX8_put_64 : decode cX8_put 64 = .ok (.ifCond .eq 6, 3) := by decide +kernel
theorem dX8_put_67 : decode cX8_put 67 = .ok (.bipush (-2), 2) := by decide +kernel
theorem dX8_put_69 : decode cX8_put 69 = .ok (.ireturn, 1) := by decide +kernel
theorem dX8_put_70 : decode cX8_put 70 = .ok (.aload_n 0, 1) := by decide +kernel
theorem dX8_put_71 : decode cX8_put 71 = .ok (.getfield 208, 3) := by decide +kernel
theorem dX8_put_74 : decode cX8_put 74 = .ok (.iload_n 3, 1) := by decide +kernel
theorem dX8_put_75 : decode cX8_put 75 = .ok (.iadd, 1) := by decide +kernel
theorem dX8_put_76 : decode cX8_put 76 = .ok (.bipush 80, 2) := by decide +kernel
theorem dX8_put_78 : decode cX8_put 78 = .ok (.if_icmp .le 6, 3) := by decide +kernel
theorem dX8_put_81 : decode cX8_put 81 = .ok (.bipush (-4), 2) := by decide +kernel
theorem dX8_put_83 : decode cX8_put 83 = .ok (.ireturn, 1) := by decide +kernel
theorem dX8_put_84 : decode cX8_put 84 = .ok (.iconst 0, 1) := by decide +kernel
theorem dX8_put_85 : decode cX8_put 85 = .ok (.istore 6, 2) := by decide +kernel
theorem dX8_put_87 : decode cX8_put 87 = .ok (.iload 6, 2) := by decide +kernel
theorem dX8_put_89 : decode cX8_put 89 = .ok (.iload_n 3, 1) := by decide +kernel
theorem dX8_put_90 : decode cX8_put 90 = .ok (.if_icmp .ge 37, 3) := by decide +kernel
theorem dX8_put_93 : decode cX8_put 93 = .ok (.aload_n 0, 1) := by decide +kernel
theorem dX8_put_94 : decode cX8_put 94 = .ok (.getfield 29, 3) := by decide +kernel
theorem dX8_put_97 : decode cX8_put 97 = .ok (.aload_n 0, 1) := by decide +kernel
theorem dX8_put_98 : decode cX8_put 98 = .ok (.getfield 208, 3) := by decide +kernel
theorem dX8_put_101 : decode cX8_put 101 = .ok (.iload 6, 2) := by decide +kernel
theorem dX8_put_103 : decode cX8_put 103 = .ok (.iadd, 1) := by decide +kernel
theorem dX8_put_104 : decode cX8_put 104 = .ok (.lload_n 1, 1) := by decide +kernel
theorem dX8_put_105 : decode cX8_put 105 = .ok (.bipush 8, 2) := by decide +kernel
theorem dX8_put_107 : decode cX8_put 107 = .ok (.iload_n 3, 1) := by decide +kernel
theorem dX8_put_108 : decode cX8_put 108 = .ok (.iconst 1, 1) := by decide +kernel
theorem dX8_put_109 : decode cX8_put 109 = .ok (.isub, 1) := by decide +kernel
theorem dX8_put_110 : decode cX8_put 110 = .ok (.iload 6, 2) := by decide +kernel
theorem dX8_put_112 : decode cX8_put 112 = .ok (.isub, 1) := by decide +kernel
theorem dX8_put_113 : decode cX8_put 113 = .ok (.imul, 1) := by decide +kernel
theorem dX8_put_114 : decode cX8_put 114 = .ok (.lshr, 1) := by decide +kernel
theorem dX8_put_115 : decode cX8_put 115 = .ok (.ldc2_w 221, 3) := by decide +kernel
theorem dX8_put_118 : decode cX8_put 118 = .ok (.land, 1) := by decide +kernel
theorem dX8_put_119 : decode cX8_put 119 = .ok (.l2i, 1) := by decide +kernel
theorem dX8_put_120 : decode cX8_put 120 = .ok (.iastore, 1) := by decide +kernel
theorem dX8_put_121 : decode cX8_put 121 = .ok (.iinc 6 1, 3) := by decide +kernel
theorem dX8_put_124 : decode cX8_put 124 = .ok (.goto (-37), 3) := by decide +kernel
theorem dX8_put_127 : decode cX8_put 127 = .ok (.aload_n 0, 1) := by decide +kernel
theorem dX8_put_128 : decode cX8_put 128 = .ok (.dup, 1) := by decide +kernel
theorem dX8_put_129 : decode cX8_put 129 = .ok (.getfield 208, 3) := by decide +kernel
theorem dX8_put_132 : decode cX8_put 132 = .ok (.iload_n 3, 1) := by decide +kernel
theorem dX8_put_133 : decode cX8_put 133 = .ok (.iadd, 1) := by decide +kernel
theorem dX8_put_134 : decode cX8_put 134 = .ok (.putfield 208, 3) := by decide +kernel
theorem dX8_put_137 : decode cX8_put 137 = .ok (.aload_n 0, 1) := by decide +kernel
theorem dX8_put_138 : decode cX8_put 138 = .ok (.getfield 208, 3) := by decide +kernel
theorem dX8_put_141 : decode cX8_put 141 = .ok (.ireturn, 1) := by decide +kernel
theorem dX8_wipe_0 : decode cX8_wipe 0 = .ok (.aload_n 0, 1) := by decide +kernel
theorem dX8_wipe_1 : decode cX8_wipe 1 = .ok (.getfield 208, 3) := by decide +kernel
theorem dX8_wipe_4 : decode cX8_wipe 4 = .ok (.istore_n 1, 1) := by decide +kernel
theorem dX8_wipe_5 : decode cX8_wipe 5 = .ok (.aload_n 0, 1) := by decide +kernel
theorem dX8_wipe_6 : decode cX8_wipe 6 = .ok (.iconst 0, 1) := by decide +kernel
theorem dX8_wipe_7 : decode cX8_wipe 7 = .ok (.putfield 208, 3) := by decide +kernel
theorem dX8_wipe_10 : decode cX8_wipe 10 = .ok (.iload_n 1, 1) := by decide +kernel
theorem dX8_wipe_11 : decode cX8_wipe 11 = .ok (.ireturn, 1) := by decide +kernel
theorem dX8_next_0 : decode cX8_next 0 = .ok (.aload_n 0, 1) := by decide +kernel
theorem dX8_next_1 : decode cX8_next 1 = .ok (.getfield 227, 3) := by decide +kernel
theorem dX8_next_4 : decode cX8_next 4 = .ok (.aload_n 0, 1) := by decide +kernel
theorem dX8_next_5 : decode cX8_next 5 = .ok (.getfield 208, 3) := by decide +kernel
theorem dX8_next_8 : decode cX8_next 8 = .ok (.if_icmp .ge 15, 3) := by decide +kernel
theorem dX8_next_11 : decode cX8_next 11 = .ok (.aload_n 0, 1) := by decide +kernel
theorem dX8_next_12 : decode cX8_next 12 = .ok (.getfield 29, 3) := by decide +kernel
theorem dX8_next_15 : decode cX8_next 15 = .ok (.aload_n 0, 1) := by decide +kernel
theorem dX8_next_16 : decode cX8_next 16 = .ok (.getfield 227, 3) := by decide +kernel
theorem dX8_next_19 : decode cX8_next 19 = .ok (.iaload, 1) := by decide +kernel
theorem dX8_next_20 : decode cX8_next 20 = .ok (.goto 4, 3) := by decide +kernel
theorem dX8_next_23 : decode cX8_next 23 = .ok (.iconst 0, 1) := by decide +kernel
theorem dX8_next_24 : decode cX8_next 24 = .ok (.ireturn, 1) := by decide +kernel
theorem dX8_takeSign_0 : decode cX8_takeSign 0 = .ok (.aload_n 0, 1) := by decide +kernel
theorem dX8_takeSign_1 : decode cX8_takeSign 1 = .ok (.aload_n 0, 1) := by decide +kernel
theorem dX8_takeSign_2 : decode cX8_takeSign 2 = .ok (.getfield 230, 3) := by decide +kernel
theorem dX8_takeSign_5 : decode cX8_takeSign 5 = .ok (.ifCond .ne 11, 3) := by decide +kernel
theorem dX8_takeSign_8 : decode cX8_takeSign 8 = .ok (.aload_n 0, 1) := by decide +kernel
theorem dX8_takeSign_9 : decode cX8_takeSign 9 = .ok (.invokevirtual 234, 3) := by decide +kernel
theorem dX8_takeSign_12 : decode cX8_takeSign 12 = .ok (.iload_n 1, 1) := by decide +kernel
theorem dX8_takeSign_13 : decode cX8_takeSign 13 = .ok (.if_icmp .eq 7, 3) := by decide +kernel
theorem dX8_takeSign_16 : decode cX8_takeSign 16 = .ok (.iconst 1, 1) := by decide +kernel
theorem dX8_takeSign_17 : decode cX8_takeSign 17 = .ok (.goto 4, 3) := by decide +kernel
theorem dX8_takeSign_20 : decode cX8_takeSign 20 = .ok (.iconst 0, 1) := by decide +kernel
theorem dX8_takeSign_21 : decode cX8_takeSign 21 = .ok (.putfield 230, 3) := by decide +kernel
theorem dX8_takeSign_24 : decode cX8_takeSign 24 = .ok (.aload_n 0, 1) := by decide +kernel
theorem dX8_takeSign_25 : decode cX8_takeSign 25 = .ok (.dup, 1) := by decide +kernel
theorem dX8_takeSign_26 : decode cX8_takeSign 26 = .ok (.getfield 227, 3) := by decide +kernel
theorem dX8_takeSign_29 : decode cX8_takeSign 29 = .ok (.aload_n 0, 1) := by decide +kernel
theorem dX8_takeSign_30 : decode cX8_takeSign 30 = .ok (.getfield 230, 3) := by decide +kernel
theorem dX8_takeSign_33 : decode cX8_takeSign 33 = .ok (.ifCond .eq 7, 3) := by decide +kernel
theorem dX8_takeSign_36 : decode cX8_takeSign 36 = .ok (.iconst 0, 1) := by decide +kernel
theorem dX8_takeSign_37 : decode cX8_takeSign 37 = .ok (.goto 4, 3) := by decide +kernel
theorem dX8_takeSign_40 : decode cX8_takeSign 40 = .ok (.iconst 1, 1) := by decide +kernel
theorem dX8_takeSign_41 : decode cX8_takeSign 41 = .ok (.iadd, 1) := by decide +kernel
theorem dX8_takeSign_42 : decode cX8_takeSign 42 = .ok (.putfield 227, 3) := by decide +kernel
theorem dX8_takeSign_45 : decode cX8_takeSign 45 = .ok (.return_, 1) := by decide +kernel
theorem dX8_takeNumber_0 : decode cX8_takeNumber 0 = .ok (.aload_n 0, 1) := by decide +kernel
theorem dX8_takeNumber_1 : decode cX8_takeNumber 1 = .ok (.aload_n 0, 1) := by decide +kernel
theorem dX8_takeNumber_2 : decode cX8_takeNumber 2 = .ok (.getfield 230, 3) := by decide +kernel
theorem dX8_takeNumber_5 : decode cX8_takeNumber 5 = .ok (.ifCond .ne 20, 3) := by decide +kernel
theorem dX8_takeNumber_8 : decode cX8_takeNumber 8 = .ok (.aload_n 0, 1) := by decide +kernel
theorem dX8_takeNumber_9 : decode cX8_takeNumber 9 = .ok (.invokevirtual 234, 3) := by decide +kernel
theorem dX8_takeNumber_12 : decode cX8_takeNumber 12 = .ok (.i2l, 1) := by decide +kernel
theorem dX8_takeNumber_13 : decode cX8_takeNumber 13 = .ok (.ldc2_w 237, 3) := by decide +kernel
theorem dX8_takeNumber_16 : decode cX8_takeNumber 16 = .ok (.ldc2_w 239, 3) := by decide +kernel
theorem dX8_takeNumber_19 : decode cX8_takeNumber 19 = .ok (.invokestatic 53, 3) := by decide +kernel
theorem dX8_takeNumber_22 : decode cX8_takeNumber 22 = .ok (.ifCond .ne 7, 3) := by decide +kernel
theorem dX8_takeNumber_25 : decode cX8_takeNumber 25 = .ok (.iconst 1, 1) := by decide +kernel
theorem dX8_takeNumber_26 : decode cX8_takeNumber 26 = .ok (.goto 4, 3) := by decide +kernel
theorem dX8_takeNumber_29 : decode cX8_takeNumber 29 = .ok (.iconst 0, 1) := by decide +kernel
theorem dX8_takeNumber_30 : decode cX8_takeNumber 30 = .ok (.putfield 230, 3) := by decide +kernel
theorem dX8_takeNumber_33 : decode cX8_takeNumber 33 = .ok (.aload_n 0, 1) := by decide +kernel
theorem dX8_takeNumber_34 : decode cX8_takeNumber 34 = .ok (.getfield 230, 3) := by decide +kernel
theorem dX8_takeNumber_37 : decode cX8_takeNumber 37 = .ok (.ifCond .eq 4, 3) := by decide +kernel
theorem dX8_takeNumber_40 : decode cX8_takeNumber 40 = .ok (.return_, 1) := by decide +kernel
theorem dX8_takeNumber_41 : decode cX8_takeNumber 41 = .ok (.aload_n 0, 1) := by decide +kernel
theorem dX8_takeNumber_42 : decode cX8_takeNumber 42 = .ok (.invokevirtual 234, 3) := by decide +kernel
theorem dX8_takeNumber_45 : decode cX8_takeNumber 45 = .ok (.bipush 48, 2) := by decide +kernel
theorem dX8_takeNumber_47 : decode cX8_takeNumber 47 = .ok (.isub, 1) := by decide +kernel
theorem dX8_takeNumber_48 : decode cX8_takeNumber 48 = .ok (.istore_n 3, 1) := by decide +kernel
theorem dX8_takeNumber_49 : decode cX8_takeNumber 49 = .ok (.aload_n 0, 1) := by decide +kernel
theorem dX8_takeNumber_50 : decode cX8_takeNumber 50 = .ok (.dup, 1) := by decide +kernel
theorem dX8_takeNumber_51 : decode cX8_takeNumber 51 = .ok (.getfield 227, 3) := by decide +kernel
theorem dX8_takeNumber_54 : decode cX8_takeNumber 54 = .ok (.iconst 1, 1) := by decide +kernel
theorem dX8_takeNumber_55 : decode cX8_takeNumber 55 = .ok (.iadd, 1) := by decide +kernel
theorem dX8_takeNumber_56 : decode cX8_takeNumber 56 = .ok (.putfield 227, 3) := by decide +kernel
theorem dX8_takeNumber_59 : decode cX8_takeNumber 59 = .ok (.aload_n 0, 1) := by decide +kernel
theorem dX8_takeNumber_60 : decode cX8_takeNumber 60 = .ok (.getfield 230, 3) := by decide +kernel
theorem dX8_takeNumber_63 : decode cX8_takeNumber 63 = .ok (.ifCond .ne 97, 3) := by decide +kernel
theorem dX8_takeNumber_66 : decode cX8_takeNumber 66 = .ok (.iload_n 3, 1) := by decide +kernel
theorem dX8_takeNumber_67 : decode cX8_takeNumber 67 = .ok (.ifCond .le 93, 3) := by decide +kernel
theorem dX8_takeNumber_70 : decode cX8_takeNumber 70 = .ok (.aload_n 0, 1) := by decide +kernel
theorem dX8_takeNumber_71 : decode cX8_takeNumber 71 = .ok (.invokevirtual 234, 3) := by decide +kernel
theorem dX8_takeNumber_74 : decode cX8_takeNumber 74 = .ok (.i2l, 1) := by decide +kernel
theorem dX8_takeNumber_75 : decode cX8_takeNumber 75 = .ok (.ldc2_w 237, 3) := by decide +kernel
theorem dX8_takeNumber_78 : decode cX8_takeNumber 78 = .ok (.ldc2_w 239, 3) := by decide +kernel
theorem dX8_takeNumber_81 : decode cX8_takeNumber 81 = .ok (.invokestatic 53, 3) := by decide +kernel
theorem dX8_takeNumber_84 : decode cX8_takeNumber 84 = .ok (.ifCond .eq 76, 3) := by decide +kernel
theorem dX8_takeNumber_87 : decode cX8_takeNumber 87 = .ok (.aload_n 0, 1) := by decide +kernel
theorem dX8_takeNumber_88 : decode cX8_takeNumber 88 = .ok (.bipush 10, 2) := by decide +kernel
theorem dX8_takeNumber_90 : decode cX8_takeNumber 90 = .ok (.iload_n 3, 1) := by decide +kernel
theorem dX8_takeNumber_91 : decode cX8_takeNumber 91 = .ok (.imul, 1) := by decide +kernel
theorem dX8_takeNumber_92 : decode cX8_takeNumber 92 = .ok (.aload_n 0, 1) := by decide +kernel
theorem dX8_takeNumber_93 : decode cX8_takeNumber 93 = .ok (.invokevirtual 234, 3) := by decide +kernel
theorem dX8_takeNumber_96 : decode cX8_takeNumber 96 = .ok (.iadd, 1) := by decide +kernel
theorem dX8_takeNumber_97 : decode cX8_takeNumber 97 = .ok (.bipush 48, 2) := by decide +kernel
theorem dX8_takeNumber_99 : decode cX8_takeNumber 99 = .ok (.isub, 1) := by decide +kernel
theorem dX8_takeNumber_100 : decode cX8_takeNumber 100 = .ok (.iload_n 2, 1) := by decide +kernel
theorem dX8_takeNumber_101 : decode cX8_takeNumber 101 = .ok (.if_icmp .le 7, 3) := by decide +kernel
theorem dX8_takeNumber_104 : decode cX8_takeNumber 104 = .ok (.iconst 1, 1) := by decide +kernel
theorem dX8_takeNumber_105 : decode cX8_takeNumber 105 = .ok (.goto 4, 3) := by decide +kernel
theorem dX8_takeNumber_108 : decode cX8_takeNumber 108 = .ok (.iconst 0, 1) := by decide +kernel
theorem dX8_takeNumber_109 : decode cX8_takeNumber 109 = .ok (.putfield 230, 3) := by decide +kernel
theorem dX8_takeNumber_112 : decode cX8_takeNumber 112 = .ok (.aload_n 0, 1) := by decide +kernel
theorem dX8_takeNumber_113 : decode cX8_takeNumber 113 = .ok (.getfield 230, 3) := by decide +kernel
theorem dX8_takeNumber_116 : decode cX8_takeNumber 116 = .ok (.ifCond .eq 7, 3) := by decide +kernel
theorem dX8_takeNumber_119 : decode cX8_takeNumber 119 = .ok (.iload_n 3, 1) := by decide +kernel
theorem dX8_takeNumber_120 : decode cX8_takeNumber 120 = .ok (.goto 15, 3) := by decide +kernel
theorem dX8_takeNumber_123 : decode cX8_takeNumber 123 = .ok (.bipush 10, 2) := by decide +kernel
theorem dX8_takeNumber_125 : decode cX8_takeNumber 125 = .ok (.iload_n 3, 1) := by decide +kernel
theorem dX8_takeNumber_126 : decode cX8_takeNumber 126 = .ok (.imul, 1) := by decide +kernel
theorem dX8_takeNumber_127 : decode cX8_takeNumber 127 = .ok (.aload_n 0, 1) := by decide +kernel
theorem dX8_takeNumber_128 : decode cX8_takeNumber 128 = .ok (.invokevirtual 234, 3) := by decide +kernel
theorem dX8_takeNumber_131 : decode cX8_takeNumber 131 = .ok (.iadd, 1) := by decide +kernel
theorem dX8_takeNumber_132 : decode cX8_takeNumber 132 = .ok (.bipush 48, 2) := by decide +kernel
theorem dX8_takeNumber_134 : decode cX8_takeNumber 134 = .ok (.isub, 1) := by decide +kernel
theorem dX8_takeNumber_135 : decode cX8_takeNumber 135 = .ok (.istore_n 3, 1) := by decide +kernel
theorem dX8_takeNumber_136 : decode cX8_takeNumber 136 = .ok (.aload_n 0, 1) := by decide +kernel
theorem dX8_takeNumber_137 : decode cX8_takeNumber 137 = .ok (.dup, 1) := by decide +kernel
theorem dX8_takeNumber_138 : decode cX8_takeNumber 138 = .ok (.getfield 227, 3) := by decide +kernel
theorem dX8_takeNumber_141 : decode cX8_takeNumber 141 = .ok (.aload_n 0, 1) := by decide +kernel
theorem dX8_takeNumber_142 : decode cX8_takeNumber 142 = .ok (.getfield 230, 3) := by decide +kernel
theorem dX8_takeNumber_145 : decode cX8_takeNumber 145 = .ok (.ifCond .eq 7, 3) := by decide +kernel
theorem dX8_takeNumber_148 : decode cX8_takeNumber 148 = .ok (.iconst 0, 1) := by decide +kernel
theorem dX8_takeNumber_149 : decode cX8_takeNumber 149 = .ok (.goto 4, 3) := by decide +kernel
theorem dX8_takeNumber_152 : decode cX8_takeNumber 152 = .ok (.iconst 1, 1) := by decide +kernel
theorem dX8_takeNumber_153 : decode cX8_takeNumber 153 = .ok (.iadd, 1) := by decide +kernel
theorem dX8_takeNumber_154 : decode cX8_takeNumber 154 = .ok (.putfield 227, 3) := by decide +kernel
theorem dX8_takeNumber_157 : decode cX8_takeNumber 157 = .ok (.goto (-98), 3) := by decide +kernel
theorem dX8_takeNumber_160 : decode cX8_takeNumber 160 = .ok (.aload_n 0, 1) := by decide +kernel
theorem dX8_takeNumber_161 : decode cX8_takeNumber 161 = .ok (.getfield 36, 3) := by decide +kernel
theorem dX8_takeNumber_164 : decode cX8_takeNumber 164 = .ok (.iconst 3, 1) := by decide +kernel
theorem dX8_takeNumber_165 : decode cX8_takeNumber 165 = .ok (.aload_n 0, 1) := by decide +kernel
theorem dX8_takeNumber_166 : decode cX8_takeNumber 166 = .ok (.getfield 241, 3) := by decide +kernel
theorem dX8_takeNumber_169 : decode cX8_takeNumber 169 = .ok (.imul, 1) := by decide +kernel
theorem dX8_takeNumber_170 : decode cX8_takeNumber 170 = .ok (.iload_n 1, 1) := by decide +kernel
theorem dX8_takeNumber_171 : decode cX8_takeNumber 171 = .ok (.iadd, 1) := by decide +kernel
theorem dX8_takeNumber_172 : decode cX8_takeNumber 172 = .ok (.iload_n 3, 1) := by decide +kernel
theorem dX8_takeNumber_173 : decode cX8_takeNumber 173 = .ok (.iastore, 1) := by decide +kernel
theorem dX8_takeNumber_174 : decode cX8_takeNumber 174 = .ok (.return_, 1) := by decide +kernel
theorem dX8_takeHolder_0 : decode cX8_takeHolder 0 = .ok (.aload_n 0, 1) := by decide +kernel
theorem dX8_takeHolder_1 : decode cX8_takeHolder 1 = .ok (.aload_n 0, 1) := by decide +kernel
theorem dX8_takeHolder_2 : decode cX8_takeHolder 2 = .ok (.getfield 230, 3) := by decide +kernel
theorem dX8_takeHolder_5 : decode cX8_takeHolder 5 = .ok (.ifCond .ne 20, 3) := by decide +kernel
theorem dX8_takeHolder_8 : decode cX8_takeHolder 8 = .ok (.aload_n 0, 1) := by decide +kernel
theorem dX8_takeHolder_9 : decode cX8_takeHolder 9 = .ok (.invokevirtual 234, 3) := by decide +kernel
theorem dX8_takeHolder_12 : decode cX8_takeHolder 12 = .ok (.i2l, 1) := by decide +kernel
theorem dX8_takeHolder_13 : decode cX8_takeHolder 13 = .ok (.ldc2_w 237, 3) := by decide +kernel
theorem dX8_takeHolder_16 : decode cX8_takeHolder 16 = .ok (.ldc2_w 244, 3) := by decide +kernel
theorem dX8_takeHolder_19 : decode cX8_takeHolder 19 = .ok (.invokestatic 53, 3) := by decide +kernel
theorem dX8_takeHolder_22 : decode cX8_takeHolder 22 = .ok (.ifCond .ne 7, 3) := by decide +kernel
theorem dX8_takeHolder_25 : decode cX8_takeHolder 25 = .ok (.iconst 1, 1) := by decide +kernel
theorem dX8_takeHolder_26 : decode cX8_takeHolder 26 = .ok (.goto 4, 3) := by decide +kernel
theorem dX8_takeHolder_29 : decode cX8_takeHolder 29 = .ok (.iconst 0, 1) := by decide +kernel
theorem dX8_takeHolder_30 : decode cX8_takeHolder 30 = .ok (.putfield 230, 3) := by decide +kernel
theorem dX8_takeHolder_33 : decode cX8_takeHolder 33 = .ok (.aload_n 0, 1) := by decide +kernel
theorem dX8_takeHolder_34 : decode cX8_takeHolder 34 = .ok (.getfield 230, 3) := by decide +kernel
theorem dX8_takeHolder_37 : decode cX8_takeHolder 37 = .ok (.ifCond .ne 31, 3) := by decide +kernel
theorem dX8_takeHolder_40 : decode cX8_takeHolder 40 = .ok (.aload_n 0, 1) := by decide +kernel
theorem dX8_takeHolder_41 : decode cX8_takeHolder 41 = .ok (.getfield 36, 3) := by decide +kernel
theorem dX8_takeHolder_44 : decode cX8_takeHolder 44 = .ok (.iconst 3, 1) := by decide +kernel
theorem dX8_takeHolder_45 : decode cX8_takeHolder 45 = .ok (.aload_n 0, 1) := by decide +kernel
theorem dX8_takeHolder_46 : decode cX8_takeHolder 46 = .ok (.getfield 241, 3) := by decide +kernel
theorem dX8_takeHolder_49 : decode cX8_takeHolder 49 = .ok (.imul, 1) := by decide +kernel
theorem dX8_takeHolder_50 : decode cX8_takeHolder 50 = .ok (.aload_n 0, 1) := by decide +kernel
theorem dX8_takeHolder_51 : decode cX8_takeHolder 51 = .ok (.invokevirtual 234, 3) := by decide +kernel
theorem dX8_takeHolder_54 : decode cX8_takeHolder 54 = .ok (.bipush 48, 2) := by decide +kernel
theorem dX8_takeHolder_56 : decode cX8_takeHolder 56 = .ok (.isub, 1) := by decide +kernel
theorem dX8_takeHolder_57 : decode cX8_takeHolder 57 = .ok (.iastore, 1) := by decide +kernel
theorem dX8_takeHolder_58 : decode cX8_takeHolder 58 = .ok (.aload_n 0, 1) := by decide +kernel
theorem dX8_takeHolder_59 : decode cX8_takeHolder 59 = .ok (.dup, 1) := by decide +kernel
theorem dX8_takeHolder_60 : decode cX8_takeHolder 60 = .ok (.getfield 227, 3) := by decide +kernel
theorem dX8_takeHolder_63 : decode cX8_takeHolder 63 = .ok (.iconst 1, 1) := by decide +kernel
theorem dX8_takeHolder_64 : decode cX8_takeHolder 64 = .ok (.iadd, 1) := by decide +kernel
theorem dX8_takeHolder_65 : decode cX8_takeHolder 65 = .ok (.putfield 227, 3) := by decide +kernel
theorem dX8_takeHolder_68 : decode cX8_takeHolder 68 = .ok (.return_, 1) := by decide +kernel
theorem dX8_takeOrdering_0 : decode cX8_takeOrdering 0 = .ok (.aload_n 0, 1) := by decide +kernel
theorem dX8_takeOrdering_1 : decode cX8_takeOrdering 1 = .ok (.invokevirtual 246, 3) := by decide +kernel
theorem dX8_takeOrdering_4 : decode cX8_takeOrdering 4 = .ok (.aload_n 0, 1) := by decide +kernel
theorem dX8_takeOrdering_5 : decode cX8_takeOrdering 5 = .ok (.bipush 58, 2) := by decide +kernel
theorem dX8_takeOrdering_7 : decode cX8_takeOrdering 7 = .ok (.invokevirtual 249, 3) := by decide +kernel
theorem dX8_takeOrdering_10 : decode cX8_takeOrdering 10 = .ok (.aload_n 0, 1) := by decide +kernel
theorem dX8_takeOrdering_11 : decode cX8_takeOrdering 11 = .ok (.iconst 1, 1) := by decide +kernel
theorem dX8_takeOrdering_12 : decode cX8_takeOrdering 12 = .ok (.ldc 253, 2) := by decide +kernel
theorem dX8_takeOrdering_14 : decode cX8_takeOrdering 14 = .ok (.invokevirtual 254, 3) := by decide +kernel
theorem dX8_takeOrdering_17 : decode cX8_takeOrdering 17 = .ok (.aload_n 0, 1) := by decide +kernel
theorem dX8_takeOrdering_18 : decode cX8_takeOrdering 18 = .ok (.getfield 36, 3) := by decide +kernel
theorem dX8_takeOrdering_21 : decode cX8_takeOrdering 21 = .ok (.iconst 3, 1) := by decide +kernel
theorem dX8_takeOrdering_22 : decode cX8_takeOrdering 22 = .ok (.aload_n 0, 1) := by decide +kernel
theorem dX8_takeOrdering_23 : decode cX8_takeOrdering 23 = .ok (.getfield 241, 3) := by decide +kernel
theorem dX8_takeOrdering_26 : decode cX8_takeOrdering 26 = .ok (.imul, 1) := by decide +kernel
theorem dX8_takeOrdering_27 : decode cX8_takeOrdering 27 = .ok (.iconst 2, 1) := by decide +kernel
theorem dX8_takeOrdering_28 : decode cX8_takeOrdering 28 = .ok (.iadd, 1) := by decide +kernel
theorem dX8_takeOrdering_29 : decode cX8_takeOrdering 29 = .ok (.iconst 0, 1) := by decide +kernel
theorem dX8_takeOrdering_30 : decode cX8_takeOrdering 30 = .ok (.iastore, 1) := by decide +kernel
theorem dX8_takeOrdering_31 : decode cX8_takeOrdering 31 = .ok (.aload_n 0, 1) := by decide +kernel
theorem dX8_takeOrdering_32 : decode cX8_takeOrdering 32 = .ok (.getfield 230, 3) := by decide +kernel
theorem dX8_takeOrdering_35 : decode cX8_takeOrdering 35 = .ok (.ifCond .ne 29, 3) := by decide +kernel
theorem dX8_takeOrdering_38 : decode cX8_takeOrdering 38 = .ok (.aload_n 0, 1) := by decide +kernel
theorem dX8_takeOrdering_39 : decode cX8_takeOrdering 39 = .ok (.invokevirtual 234, 3) := by decide +kernel
theorem dX8_takeOrdering_42 : decode cX8_takeOrdering 42 = .ok (.bipush 64, 2) := by decide +kernel
theorem dX8_takeOrdering_44 : decode cX8_takeOrdering 44 = .ok (.if_icmp .ne 20, 3) := by decide +kernel
theorem dX8_takeOrdering_47 : decode cX8_takeOrdering 47 = .ok (.aload_n 0, 1) := by decide +kernel
theorem dX8_takeOrdering_48 : decode cX8_takeOrdering 48 = .ok (.dup, 1) := by decide +kernel
theorem dX8_takeOrdering_49 : decode cX8_takeOrdering 49 = .ok (.getfield 227, 3) := by decide +kernel
theorem dX8_takeOrdering_52 : decode cX8_takeOrdering 52 = .ok (.iconst 1, 1) := by decide +kernel
theorem dX8_takeOrdering_53 : decode cX8_takeOrdering 53 = .ok (.iadd, 1) := by decide +kernel
theorem dX8_takeOrdering_54 : decode cX8_takeOrdering 54 = .ok (.putfield 227, 3) := by decide +kernel
theorem dX8_takeOrdering_57 : decode cX8_takeOrdering 57 = .ok (.aload_n 0, 1) := by decide +kernel
theorem dX8_takeOrdering_58 : decode cX8_takeOrdering 58 = .ok (.iconst 2, 1) := by decide +kernel
theorem dX8_takeOrdering_59 : decode cX8_takeOrdering 59 = .ok (.bipush 23, 2) := by decide +kernel
theorem dX8_takeOrdering_61 : decode cX8_takeOrdering 61 = .ok (.invokevirtual 254, 3) := by decide +kernel
theorem dX8_takeOrdering_64 : decode cX8_takeOrdering 64 = .ok (.return_, 1) := by decide +kernel
theorem dX8_takeOrder_0 : decode cX8_takeOrder 0 = .ok (.aload_n 0, 1) := by decide +kernel
theorem dX8_takeOrder_1 : decode cX8_takeOrder 1 = .ok (.invokevirtual 234, 3) := by decide +kernel
theorem dX8_takeOrder_4 : decode cX8_takeOrder 4 = .ok (.istore_n 1, 1) := by decide +kernel
theorem dX8_takeOrder_5 : decode cX8_takeOrder 5 = .ok (.aload_n 0, 1) := by decide +kernel
theorem dX8_takeOrder_6 : decode cX8_takeOrder 6 = .ok (.iload_n 1, 1) := by decide +kernel
theorem dX8_takeOrder_7 : decode cX8_takeOrder 7 = .ok (.bipush 98, 2) := by decide +kernel
theorem dX8_takeOrder_9 : decode cX8_takeOrder 9 = .ok (.if_icmp .eq 37, 3) := by decide +kernel
theorem dX8_takeOrder_12 : decode cX8_takeOrder 12 = .ok (.iload_n 1, 1) := by decide +kernel
theorem dX8_takeOrder_13 : decode cX8_takeOrder 13 = .ok (.bipush 108, 2) := by decide +kernel
theorem dX8_takeOrder_15 : decode cX8_takeOrder 15 = .ok (.if_icmp .eq 31, 3) := by decide +kernel
theorem dX8_takeOrder_18 : decode cX8_takeOrder 18 = .ok (.iload_n 1, 1) := by decide +kernel
theorem dX8_takeOrder_19 : decode cX8_takeOrder 19 = .ok (.bipush 113, 2) := by decide +kernel
theorem dX8_takeOrder_21 : decode cX8_takeOrder 21 = .ok (.if_icmp .eq 25, 3) := by decide +kernel
theorem dX8_takeOrder_24 : decode cX8_takeOrder 24 = .ok (.iload_n 1, 1) := by decide +kernel
theorem dX8_takeOrder_25 : decode cX8_takeOrder 25 = .ok (.bipush 105, 2) := by decide +kernel
theorem dX8_takeOrder_27 : decode cX8_takeOrder 27 = .ok (.if_icmp .eq 19, 3) := by decide +kernel
theorem dX8_takeOrder_30 : decode cX8_takeOrder 30 = .ok (.iload_n 1, 1) := by decide +kernel
theorem dX8_takeOrder_31 : decode cX8_takeOrder 31 = .ok (.bipush 100, 2) := by decide +kernel
theorem dX8_takeOrder_33 : decode cX8_takeOrder 33 = .ok (.if_icmp .eq 13, 3) := by decide +kernel
theorem dX8_takeOrder_36 : decode cX8_takeOrder 36 = .ok (.iload_n 1, 1) := by decide +kernel
theorem dX8_takeOrder_37 : decode cX8_takeOrder 37 = .ok (.bipush 112, 2) := by decide +kernel
theorem dX8_takeOrder_39 : decode cX8_takeOrder 39 = .ok (.if_icmp .eq 7, 3) := by decide +kernel
theorem dX8_takeOrder_42 : decode cX8_takeOrder 42 = .ok (.iconst 1, 1) := by decide +kernel
theorem dX8_takeOrder_43 : decode cX8_takeOrder 43 = .ok (.goto 4, 3) := by decide +kernel
theorem dX8_takeOrder_46 : decode cX8_takeOrder 46 = .ok (.iconst 0, 1) := by decide +kernel
theorem dX8_takeOrder_47 : decode cX8_takeOrder 47 = .ok (.putfield 230, 3) := by decide +kernel
theorem dX8_takeOrder_50 : decode cX8_takeOrder 50 = .ok (.aload_n 0, 1) := by decide +kernel
theorem dX8_takeOrder_51 : decode cX8_takeOrder 51 = .ok (.getfield 230, 3) := by decide +kernel
theorem dX8_takeOrder_54 : decode cX8_takeOrder 54 = .ok (.ifCond .eq 4, 3) := by decide +kernel
theorem dX8_takeOrder_57 : decode cX8_takeOrder 57 = .ok (.return_, 1) := by decide +kernel
theorem dX8_takeOrder_58 : decode cX8_takeOrder 58 = .ok (.aload_n 0, 1) := by decide +kernel
theorem dX8_takeOrder_59 : decode cX8_takeOrder 59 = .ok (.dup, 1) := by decide +kernel
theorem dX8_takeOrder_60 : decode cX8_takeOrder 60 = .ok (.getfield 227, 3) := by decide +kernel
theorem dX8_takeOrder_63 : decode cX8_takeOrder 63 = .ok (.iconst 1, 1) := by decide +kernel
theorem dX8_takeOrder_64 : decode cX8_takeOrder 64 = .ok (.iadd, 1) := by decide +kernel
theorem dX8_takeOrder_65 : decode cX8_takeOrder 65 = .ok (.putfield 227, 3) := by decide +kernel
theorem dX8_takeOrder_68 : decode cX8_takeOrder 68 = .ok (.iload_n 1, 1) := by decide +kernel
theorem dX8_takeOrder_69 : decode cX8_takeOrder 69 = .ok (.bipush 98, 2) := by decide +kernel
theorem dX8_takeOrder_71 : decode cX8_takeOrder 71 = .ok (.if_icmp .eq 9, 3) := by decide +kernel
theorem dX8_takeOrder_74 : decode cX8_takeOrder 74 = .ok (.iload_n 1, 1) := by decide +kernel
theorem dX8_takeOrder_75 : decode cX8_takeOrder 75 = .ok (.bipush 108, 2) := by decide +kernel
theorem dX8_takeOrder_77 : decode cX8_takeOrder 77 = .ok (.if_icmp .ne 10, 3) := by decide +kernel
theorem dX8_takeOrder_80 : decode cX8_takeOrder 80 = .ok (.aload_n 0, 1) := by decide +kernel
theorem dX8_takeOrder_81 : decode cX8_takeOrder 81 = .ok (.invokevirtual 257, 3) := by decide +kernel
theorem dX8_takeOrder_84 : decode cX8_takeOrder 84 = .ok (.goto 22, 3) := by decide +kernel
theorem dX8_takeOrder_87 : decode cX8_takeOrder 87 = .ok (.iload_n 1, 1) := by decide +kernel
theorem dX8_takeOrder_88 : decode cX8_takeOrder 88 = .ok (.bipush 113, 2) := by decide +kernel
theorem dX8_takeOrder_90 : decode cX8_takeOrder 90 = .ok (.if_icmp .eq 9, 3) := by decide +kernel
theorem dX8_takeOrder_93 : decode cX8_takeOrder 93 = .ok (.iload_n 1, 1) := by decide +kernel
theorem dX8_takeOrder_94 : decode cX8_takeOrder 94 = .ok (.bipush 105, 2) := by decide +kernel
theorem dX8_takeOrder_96 : decode cX8_takeOrder 96 = .ok (.if_icmp .ne 10, 3) := by decide +kernel
theorem dX8_takeOrder_99 : decode cX8_takeOrder 99 = .ok (.aload_n 0, 1) := by decide +kernel
theorem dX8_takeOrder_100 : decode cX8_takeOrder 100 = .ok (.iconst 0, 1) := by decide +kernel
theorem dX8_takeOrder_101 : decode cX8_takeOrder 101 = .ok (.ldc 253, 2) := by decide +kernel
theorem dX8_takeOrder_103 : decode cX8_takeOrder 103 = .ok (.invokevirtual 254, 3) := by decide +kernel
theorem dX8_takeOrder_106 : decode cX8_takeOrder 106 = .ok (.aload_n 0, 1) := by decide +kernel
theorem dX8_takeOrder_107 : decode cX8_takeOrder 107 = .ok (.getfield 230, 3) := by decide +kernel
theorem dX8_takeOrder_110 : decode cX8_takeOrder 110 = .ok (.ifCond .ne 23, 3) := by decide +kernel
theorem dX8_takeOrder_113 : decode cX8_takeOrder 113 = .ok (.aload_n 0, 1) := by decide +kernel
theorem dX8_takeOrder_114 : decode cX8_takeOrder 114 = .ok (.getfield 33, 3) := by decide +kernel
theorem dX8_takeOrder_117 : decode cX8_takeOrder 117 = .ok (.aload_n 0, 1) := by decide +kernel
theorem dX8_takeOrder_118 : decode cX8_takeOrder 118 = .ok (.getfield 241, 3) := by decide +kernel
theorem dX8_takeOrder_121 : decode cX8_takeOrder 121 = .ok (.iload_n 1, 1) := by decide +kernel
theorem dX8_takeOrder_122 : decode cX8_takeOrder 122 = .ok (.iastore, 1) := by decide +kernel
theorem dX8_takeOrder_123 : decode cX8_takeOrder 123 = .ok (.aload_n 0, 1) := by decide +kernel
theorem dX8_takeOrder_124 : decode cX8_takeOrder 124 = .ok (.dup, 1) := by decide +kernel
theorem dX8_takeOrder_125 : decode cX8_takeOrder 125 = .ok (.getfield 241, 3) := by decide +kernel
theorem dX8_takeOrder_128 : decode cX8_takeOrder 128 = .ok (.iconst 1, 1) := by decide +kernel
theorem dX8_takeOrder_129 : decode cX8_takeOrder 129 = .ok (.iadd, 1) := by decide +kernel
theorem dX8_takeOrder_130 : decode cX8_takeOrder 130 = .ok (.putfield 241, 3) := by decide +kernel
theorem dX8_takeOrder_133 : decode cX8_takeOrder 133 = .ok (.return_, 1) := by decide +kernel
theorem dX8_fault_0 : decode cX8_fault 0 = .ok (.aload_n 0, 1) := by decide +kernel
theorem dX8_fault_1 : decode cX8_fault 1 = .ok (.iconst 0, 1) := by decide +kernel
theorem dX8_fault_2 : decode cX8_fault 2 = .ok (.putfield 227, 3) := by decide +kernel
theorem dX8_fault_5 : decode cX8_fault 5 = .ok (.aload_n 0, 1) := by decide +kernel
theorem dX8_fault_6 : decode cX8_fault 6 = .ok (.iconst 0, 1) := by decide +kernel
theorem dX8_fault_7 : decode cX8_fault 7 = .ok (.putfield 230, 3) := by decide +kernel
theorem dX8_fault_10 : decode cX8_fault 10 = .ok (.aload_n 0, 1) := by decide +kernel
theorem dX8_fault_11 : decode cX8_fault 11 = .ok (.iconst 0, 1) := by decide +kernel
theorem dX8_fault_12 : decode cX8_fault 12 = .ok (.putfield 241, 3) := by decide +kernel
theorem dX8_fault_15 : decode cX8_fault 15 = .ok (.aload_n 0, 1) := by decide +kernel
theorem dX8_fault_16 : decode cX8_fault 16 = .ok (.invokevirtual 260, 3) := by decide +kernel
theorem dX8_fault_19 : decode cX8_fault 19 = .ok (.aload_n 0, 1) := by decide +kernel
theorem dX8_fault_20 : decode cX8_fault 20 = .ok (.getfield 230, 3) := by decide +kernel
theorem dX8_fault_23 : decode cX8_fault 23 = .ok (.ifCond .ne 34, 3) := by decide +kernel
theorem dX8_fault_26 : decode cX8_fault 26 = .ok (.aload_n 0, 1) := by decide +kernel
theorem dX8_fault_27 : decode cX8_fault 27 = .ok (.getfield 227, 3) := by decide +kernel
theorem dX8_fault_30 : decode cX8_fault 30 = .ok (.aload_n 0, 1) := by decide +kernel
theorem dX8_fault_31 : decode cX8_fault 31 = .ok (.getfield 208, 3) := by decide +kernel
theorem dX8_fault_34 : decode cX8_fault 34 = .ok (.if_icmp .ge 23, 3) := by decide +kernel
theorem dX8_fault_37 : decode cX8_fault 37 = .ok (.aload_n 0, 1) := by decide +kernel
theorem dX8_fault_38 : decode cX8_fault 38 = .ok (.bipush 59, 2) := by decide +kernel
theorem dX8_fault_40 : decode cX8_fault 40 = .ok (.invokevirtual 249, 3) := by decide +kernel
theorem dX8_fault_43 : decode cX8_fault 43 = .ok (.aload_n 0, 1) := by decide +kernel
theorem dX8_fault_44 : decode cX8_fault 44 = .ok (.getfield 230, 3) := by decide +kernel
theorem dX8_fault_47 : decode cX8_fault 47 = .ok (.ifCond .ne (-28), 3) := by decide +kernel
theorem dX8_fault_50 : decode cX8_fault 50 = .ok (.aload_n 0, 1) := by decide +kernel
theorem dX8_fault_51 : decode cX8_fault 51 = .ok (.invokevirtual 260, 3) := by decide +kernel
theorem dX8_fault_54 : decode cX8_fault 54 = .ok (.goto (-35), 3) := by decide +kernel
theorem dX8_fault_57 : decode cX8_fault 57 = .ok (.aload_n 0, 1) := by decide +kernel
theorem dX8_fault_58 : decode cX8_fault 58 = .ok (.getfield 230, 3) := by decide +kernel
theorem dX8_fault_61 : decode cX8_fault 61 = .ok (.ifCond .eq 10, 3) := by decide +kernel
theorem dX8_fault_64 : decode cX8_fault 64 = .ok (.aload_n 0, 1) := by decide +kernel
theorem dX8_fault_65 : decode cX8_fault 65 = .ok (.getfield 227, 3) := by decide +kernel
theorem dX8_fault_68 : decode cX8_fault 68 = .ok (.goto 5, 3) := by decide +kernel
theorem dX8_fault_71 : decode cX8_fault 71 = .ok (.bipush (-6), 2) := by decide +kernel
theorem dX8_fault_73 : decode cX8_fault 73 = .ok (.ireturn, 1) := by decide +kernel
theorem dX8_carry_0 : decode cX8_carry 0 = .ok (.iconst 3, 1) := by decide +kernel
theorem dX8_carry_1 : decode cX8_carry 1 = .ok (.iload_n 1, 1) := by decide +kernel
theorem dX8_carry_2 : decode cX8_carry 2 = .ok (.imul, 1) := by decide +kernel
theorem dX8_carry_3 : decode cX8_carry 3 = .ok (.istore_n 2, 1) := by decide +kernel
theorem dX8_carry_4 : decode cX8_carry 4 = .ok (.aload_n 0, 1) := by decide +kernel
theorem dX8_carry_5 : decode cX8_carry 5 = .ok (.getfield 33, 3) := by decide +kernel
theorem dX8_carry_8 : decode cX8_carry 8 = .ok (.iload_n 1, 1) := by decide +kernel
theorem dX8_carry_9 : decode cX8_carry 9 = .ok (.iaload, 1) := by decide +kernel
theorem dX8_carry_10 : decode cX8_carry 10 = .ok (.lookupswitch 136 #[(98, 50), (100, 130), (105, 118), (108, 78), (113, 106)], 50) := by decide +kernel
theorem dX8_carry_60 : decode cX8_carry 60 = .ok (.aload_n 0, 1) := by decide +kernel
theorem dX8_carry_61 : decode cX8_carry 61 = .ok (.aload_n 0, 1) := by decide +kernel
theorem dX8_carry_62 : decode cX8_carry 62 = .ok (.getfield 36, 3) := by decide +kernel
theorem dX8_carry_65 : decode cX8_carry 65 = .ok (.iload_n 2, 1) := by decide +kernel
theorem dX8_carry_66 : decode cX8_carry 66 = .ok (.iaload, 1) := by decide +kernel
theorem dX8_carry_67 : decode cX8_carry 67 = .ok (.aload_n 0, 1) := by decide +kernel
theorem dX8_carry_68 : decode cX8_carry 68 = .ok (.getfield 36, 3) := by decide +kernel
theorem dX8_carry_71 : decode cX8_carry 71 = .ok (.iload_n 2, 1) := by decide +kernel
theorem dX8_carry_72 : decode cX8_carry 72 = .ok (.iconst 1, 1) := by decide +kernel
theorem dX8_carry_73 : decode cX8_carry 73 = .ok (.iadd, 1) := by decide +kernel
theorem dX8_carry_74 : decode cX8_carry 74 = .ok (.iaload, 1) := by decide +kernel
theorem dX8_carry_75 : decode cX8_carry 75 = .ok (.aload_n 0, 1) := by decide +kernel
theorem dX8_carry_76 : decode cX8_carry 76 = .ok (.getfield 36, 3) := by decide +kernel
theorem dX8_carry_79 : decode cX8_carry 79 = .ok (.iload_n 2, 1) := by decide +kernel
theorem dX8_carry_80 : decode cX8_carry 80 = .ok (.iconst 2, 1) := by decide +kernel
theorem dX8_carry_81 : decode cX8_carry 81 = .ok (.iadd, 1) := by decide +kernel
theorem dX8_carry_82 : decode cX8_carry 82 = .ok (.iaload, 1) := by decide +kernel
theorem dX8_carry_83 : decode cX8_carry 83 = .ok (.iconst 0, 1) := by decide +kernel
theorem dX8_carry_84 : decode cX8_carry 84 = .ok (.invokevirtual 122, 3) := by decide +kernel
theorem dX8_carry_87 : decode cX8_carry 87 = .ok (.ireturn, 1) := by decide +kernel
theorem dX8_carry_88 : decode cX8_carry 88 = .ok (.aload_n 0, 1) := by decide +kernel
theorem dX8_carry_89 : decode cX8_carry 89 = .ok (.aload_n 0, 1) := by decide +kernel
theorem dX8_carry_90 : decode cX8_carry 90 = .ok (.getfield 36, 3) := by decide +kernel
theorem dX8_carry_93 : decode cX8_carry 93 = .ok (.iload_n 2, 1) := by decide +kernel
theorem dX8_carry_94 : decode cX8_carry 94 = .ok (.iaload, 1) := by decide +kernel
theorem dX8_carry_95 : decode cX8_carry 95 = .ok (.aload_n 0, 1) := by decide +kernel
theorem dX8_carry_96 : decode cX8_carry 96 = .ok (.getfield 36, 3) := by decide +kernel
theorem dX8_carry_99 : decode cX8_carry 99 = .ok (.iload_n 2, 1) := by decide +kernel
theorem dX8_carry_100 : decode cX8_carry 100 = .ok (.iconst 1, 1) := by decide +kernel
theorem dX8_carry_101 : decode cX8_carry 101 = .ok (.iadd, 1) := by decide +kernel
theorem dX8_carry_102 : decode cX8_carry 102 = .ok (.iaload, 1) := by decide +kernel
theorem dX8_carry_103 : decode cX8_carry 103 = .ok (.aload_n 0, 1) := by decide +kernel
theorem dX8_carry_104 : decode cX8_carry 104 = .ok (.getfield 36, 3) := by decide +kernel
theorem dX8_carry_107 : decode cX8_carry 107 = .ok (.iload_n 2, 1) := by decide +kernel
theorem dX8_carry_108 : decode cX8_carry 108 = .ok (.iconst 2, 1) := by decide +kernel
theorem dX8_carry_109 : decode cX8_carry 109 = .ok (.iadd, 1) := by decide +kernel
theorem dX8_carry_110 : decode cX8_carry 110 = .ok (.iaload, 1) := by decide +kernel
theorem dX8_carry_111 : decode cX8_carry 111 = .ok (.iconst 0, 1) := by decide +kernel
theorem dX8_carry_112 : decode cX8_carry 112 = .ok (.invokevirtual 129, 3) := by decide +kernel
theorem dX8_carry_115 : decode cX8_carry 115 = .ok (.ireturn, 1) := by decide +kernel
theorem dX8_carry_116 : decode cX8_carry 116 = .ok (.aload_n 0, 1) := by decide +kernel
theorem dX8_carry_117 : decode cX8_carry 117 = .ok (.aload_n 0, 1) := by decide +kernel
theorem dX8_carry_118 : decode cX8_carry 118 = .ok (.getfield 36, 3) := by decide +kernel
theorem dX8_carry_121 : decode cX8_carry 121 = .ok (.iload_n 2, 1) := by decide +kernel
theorem dX8_carry_122 : decode cX8_carry 122 = .ok (.iaload, 1) := by decide +kernel
theorem dX8_carry_123 : decode cX8_carry 123 = .ok (.iconst 0, 1) := by decide +kernel
theorem dX8_carry_124 : decode cX8_carry 124 = .ok (.invokevirtual 196, 3) := by decide +kernel
theorem dX8_carry_127 : decode cX8_carry 127 = .ok (.ireturn, 1) := by decide +kernel
theorem dX8_carry_128 : decode cX8_carry 128 = .ok (.aload_n 0, 1) := by decide +kernel
theorem dX8_carry_129 : decode cX8_carry 129 = .ok (.aload_n 0, 1) := by decide +kernel
theorem dX8_carry_130 : decode cX8_carry 130 = .ok (.getfield 36, 3) := by decide +kernel
theorem dX8_carry_133 : decode cX8_carry 133 = .ok (.iload_n 2, 1) := by decide +kernel
theorem dX8_carry_134 : decode cX8_carry 134 = .ok (.iaload, 1) := by decide +kernel
theorem dX8_carry_135 : decode cX8_carry 135 = .ok (.iconst 0, 1) := by decide +kernel
theorem dX8_carry_136 : decode cX8_carry 136 = .ok (.invokevirtual 202, 3) := by decide +kernel
theorem dX8_carry_139 : decode cX8_carry 139 = .ok (.ireturn, 1) := by decide +kernel
theorem dX8_carry_140 : decode cX8_carry 140 = .ok (.aload_n 0, 1) := by decide +kernel
theorem dX8_carry_141 : decode cX8_carry 141 = .ok (.iconst 0, 1) := by decide +kernel
theorem dX8_carry_142 : decode cX8_carry 142 = .ok (.invokevirtual 190, 3) := by decide +kernel
theorem dX8_carry_145 : decode cX8_carry 145 = .ok (.ireturn, 1) := by decide +kernel
theorem dX8_carry_146 : decode cX8_carry 146 = .ok (.aload_n 0, 1) := by decide +kernel
theorem dX8_carry_147 : decode cX8_carry 147 = .ok (.iconst 0, 1) := by decide +kernel
theorem dX8_carry_148 : decode cX8_carry 148 = .ok (.invokevirtual 205, 3) := by decide +kernel
theorem dX8_carry_151 : decode cX8_carry 151 = .ok (.ireturn, 1) := by decide +kernel
theorem dX8_carryOut_0 : decode cX8_carryOut 0 = .ok (.aload_n 0, 1) := by decide +kernel
theorem dX8_carryOut_1 : decode cX8_carryOut 1 = .ok (.invokevirtual 263, 3) := by decide +kernel
theorem dX8_carryOut_4 : decode cX8_carryOut 4 = .ok (.ifCond .lt 6, 3) := by decide +kernel
theorem dX8_carryOut_7 : decode cX8_carryOut 7 = .ok (.bipush (-3), 2) := by decide +kernel
theorem dX8_carryOut_9 : decode cX8_carryOut 9 = .ok (.ireturn, 1) := by decide +kernel
theorem dX8_carryOut_10 : decode cX8_carryOut 10 = .ok (.aload_n 0, 1) := by decide +kernel
theorem dX8_carryOut_11 : decode cX8_carryOut 11 = .ok (.invokevirtual 68, 3) := by decide +kernel
theorem dX8_carryOut_14 : decode cX8_carryOut 14 = .ok (.iconst 0, 1) := by decide +kernel
theorem dX8_carryOut_15 : decode cX8_carryOut 15 = .ok (.istore_n 1, 1) := by decide +kernel
theorem dX8_carryOut_16 : decode cX8_carryOut 16 = .ok (.iload_n 1, 1) := by decide +kernel
theorem dX8_carryOut_17 : decode cX8_carryOut 17 = .ok (.aload_n 0, 1) := by decide +kernel
theorem dX8_carryOut_18 : decode cX8_carryOut 18 = .ok (.getfield 241, 3) := by decide +kernel
theorem dX8_carryOut_21 : decode cX8_carryOut 21 = .ok (.if_icmp .ge 17, 3) := by decide +kernel
theorem dX8_carryOut_24 : decode cX8_carryOut 24 = .ok (.aload_n 0, 1) := by decide +kernel
theorem dX8_carryOut_25 : decode cX8_carryOut 25 = .ok (.iload_n 1, 1) := by decide +kernel
theorem dX8_carryOut_26 : decode cX8_carryOut 26 = .ok (.invokevirtual 266, 3) := by decide +kernel
theorem dX8_carryOut_29 : decode cX8_carryOut 29 = .ok (.ifCond .lt 9, 3) := by decide +kernel
theorem dX8_carryOut_32 : decode cX8_carryOut 32 = .ok (.iinc 1 1, 3) := by decide +kernel
theorem dX8_carryOut_35 : decode cX8_carryOut 35 = .ok (.goto (-19), 3) := by decide +kernel
theorem dX8_carryOut_38 : decode cX8_carryOut 38 = .ok (.aload_n 0, 1) := by decide +kernel
theorem dX8_carryOut_39 : decode cX8_carryOut 39 = .ok (.iconst 0, 1) := by decide +kernel
theorem dX8_carryOut_40 : decode cX8_carryOut 40 = .ok (.putfield 208, 3) := by decide +kernel
theorem dX8_carryOut_43 : decode cX8_carryOut 43 = .ok (.iload_n 1, 1) := by decide +kernel
theorem dX8_carryOut_44 : decode cX8_carryOut 44 = .ok (.ireturn, 1) := by decide +kernel
theorem dX8_undo_0 : decode cX8_undo 0 = .ok (.aload_n 0, 1) := by decide +kernel
theorem dX8_undo_1 : decode cX8_undo 1 = .ok (.getfield 61, 3) := by decide +kernel
theorem dX8_undo_4 : decode cX8_undo 4 = .ok (.ifCond .ne 6, 3) := by decide +kernel
theorem dX8_undo_7 : decode cX8_undo 7 = .ok (.bipush (-5), 2) := by decide +kernel
theorem dX8_undo_9 : decode cX8_undo 9 = .ok (.ireturn, 1) := by decide +kernel
theorem dX8_undo_10 : decode cX8_undo 10 = .ok (.aload_n 0, 1) := by decide +kernel
theorem dX8_undo_11 : decode cX8_undo 11 = .ok (.dup, 1) := by decide +kernel
theorem dX8_undo_12 : decode cX8_undo 12 = .ok (.getfield 61, 3) := by decide +kernel
theorem dX8_undo_15 : decode cX8_undo 15 = .ok (.iconst 1, 1) := by decide +kernel
theorem dX8_undo_16 : decode cX8_undo 16 = .ok (.isub, 1) := by decide +kernel
theorem dX8_undo_17 : decode cX8_undo 17 = .ok (.putfield 61, 3) := by decide +kernel
theorem dX8_undo_20 : decode cX8_undo 20 = .ok (.aload_n 0, 1) := by decide +kernel
theorem dX8_undo_21 : decode cX8_undo 21 = .ok (.getfield 65, 3) := by decide +kernel
theorem dX8_undo_24 : decode cX8_undo 24 = .ok (.aload_n 0, 1) := by decide +kernel
theorem dX8_undo_25 : decode cX8_undo 25 = .ok (.getfield 61, 3) := by decide +kernel
theorem dX8_undo_28 : decode cX8_undo 28 = .ok (.iadd, 1) := by decide +kernel
theorem dX8_undo_29 : decode cX8_undo 29 = .ok (.bipush 6, 2) := by decide +kernel
theorem dX8_undo_31 : decode cX8_undo 31 = .ok (.irem, 1) := by decide +kernel
theorem dX8_undo_32 : decode cX8_undo 32 = .ok (.istore_n 1, 1) := by decide +kernel
theorem dX8_undo_33 : decode cX8_undo 33 = .ok (.iconst 0, 1) := by decide +kernel
theorem dX8_undo_34 : decode cX8_undo 34 = .ok (.istore_n 2, 1) := by decide +kernel
theorem dX8_undo_35 : decode cX8_undo 35 = .ok (.iload_n 2, 1) := by decide +kernel
theorem dX8_undo_36 : decode cX8_undo 36 = .ok (.sipush 183, 3) := by decide +kernel
theorem dX8_undo_39 : decode cX8_undo 39 = .ok (.if_icmp .ge 27, 3) := by decide +kernel
theorem dX8_undo_42 : decode cX8_undo 42 = .ok (.aload_n 0, 1) := by decide +kernel
theorem dX8_undo_43 : decode cX8_undo 43 = .ok (.getfield 7, 3) := by decide +kernel
theorem dX8_undo_46 : decode cX8_undo 46 = .ok (.iload_n 2, 1) := by decide +kernel
theorem dX8_undo_47 : decode cX8_undo 47 = .ok (.aload_n 0, 1) := by decide +kernel
theorem dX8_undo_48 : decode cX8_undo 48 = .ok (.getfield 13, 3) := by decide +kernel
theorem dX8_undo_51 : decode cX8_undo 51 = .ok (.sipush 183, 3) := by decide +kernel
theorem dX8_undo_54 : decode cX8_undo 54 = .ok (.iload_n 1, 1) := by decide +kernel
theorem dX8_undo_55 : decode cX8_undo 55 = .ok (.imul, 1) := by decide +kernel
theorem dX8_undo_56 : decode cX8_undo 56 = .ok (.iload_n 2, 1) := by decide +kernel
theorem dX8_undo_57 : decode cX8_undo 57 = .ok (.iadd, 1) := by decide +kernel
theorem dX8_undo_58 : decode cX8_undo 58 = .ok (.laload, 1) := by decide +kernel
theorem dX8_undo_59 : decode cX8_undo 59 = .ok (.lastore, 1) := by decide +kernel
theorem dX8_undo_60 : decode cX8_undo 60 = .ok (.iinc 2 1, 3) := by decide +kernel
theorem dX8_undo_63 : decode cX8_undo 63 = .ok (.goto (-28), 3) := by decide +kernel
theorem dX8_undo_66 : decode cX8_undo 66 = .ok (.aload_n 0, 1) := by decide +kernel
theorem dX8_undo_67 : decode cX8_undo 67 = .ok (.getfield 61, 3) := by decide +kernel
theorem dX8_undo_70 : decode cX8_undo 70 = .ok (.ireturn, 1) := by decide +kernel
theorem dX8_save_0 : decode cX8_save 0 = .ok (.iload_n 1, 1) := by decide +kernel
theorem dX8_save_1 : decode cX8_save 1 = .ok (.i2l, 1) := by decide +kernel
theorem dX8_save_2 : decode cX8_save 2 = .ok (.lconst 0, 1) := by decide +kernel
theorem dX8_save_3 : decode cX8_save 3 = .ok (.lconst 1, 1) := by decide +kernel
theorem dX8_save_4 : decode cX8_save 4 = .ok (.invokestatic 53, 3) := by decide +kernel
theorem dX8_save_7 : decode cX8_save 7 = .ok (.ifCond .ne 6, 3) := by decide +kernel
theorem dX8_save_10 : decode cX8_save 10 = .ok (.bipush (-2), 2) := by decide +kernel
theorem dX8_save_12 : decode cX8_save 12 = .ok (.ireturn, 1) := by decide +kernel
theorem dX8_save_13 : decode cX8_save 13 = .ok (.iconst 0, 1) := by decide +kernel
theorem dX8_save_14 : decode cX8_save 14 = .ok (.istore_n 2, 1) := by decide +kernel
theorem dX8_save_15 : decode cX8_save 15 = .ok (.iload_n 2, 1) := by decide +kernel
theorem dX8_save_16 : decode cX8_save 16 = .ok (.sipush 183, 3) := by decide +kernel
theorem dX8_save_19 : decode cX8_save 19 = .ok (.if_icmp .ge 27, 3) := by decide +kernel
theorem dX8_save_22 : decode cX8_save 22 = .ok (.aload_n 0, 1) := by decide +kernel
theorem dX8_save_23 : decode cX8_save 23 = .ok (.getfield 16, 3) := by decide +kernel
theorem dX8_save_26 : decode cX8_save 26 = .ok (.sipush 183, 3) := by decide +kernel
theorem dX8_save_29 : decode cX8_save 29 = .ok (.iload_n 1, 1) := by decide +kernel
theorem dX8_save_30 : decode cX8_save 30 = .ok (.imul, 1) := by decide +kernel
theorem dX8_save_31 : decode cX8_save 31 = .ok (.iload_n 2, 1) := by decide +kernel
theorem dX8_save_32 : decode cX8_save 32 = .ok (.iadd, 1) := by decide +kernel
theorem dX8_save_33 : decode cX8_save 33 = .ok (.aload_n 0, 1) := by decide +kernel
theorem dX8_save_34 : decode cX8_save 34 = .ok (.getfield 7, 3) := by decide +kernel
theorem dX8_save_37 : decode cX8_save 37 = .ok (.iload_n 2, 1) := by decide +kernel
theorem dX8_save_38 : decode cX8_save 38 = .ok (.laload, 1) := by decide +kernel
theorem dX8_save_39 : decode cX8_save 39 = .ok (.lastore, 1) := by decide +kernel
theorem dX8_save_40 : decode cX8_save 40 = .ok (.iinc 2 1, 3) := by decide +kernel
theorem dX8_save_43 : decode cX8_save 43 = .ok (.goto (-28), 3) := by decide +kernel
theorem dX8_save_46 : decode cX8_save 46 = .ok (.aload_n 0, 1) := by decide +kernel
theorem dX8_save_47 : decode cX8_save 47 = .ok (.getfield 19, 3) := by decide +kernel
theorem dX8_save_50 : decode cX8_save 50 = .ok (.iload_n 1, 1) := by decide +kernel
theorem dX8_save_51 : decode cX8_save 51 = .ok (.iconst 1, 1) := by decide +kernel
theorem dX8_save_52 : decode cX8_save 52 = .ok (.bastore, 1) := by decide +kernel
theorem dX8_save_53 : decode cX8_save 53 = .ok (.aload_n 0, 1) := by decide +kernel
theorem dX8_save_54 : decode cX8_save 54 = .ok (.getfield 7, 3) := by decide +kernel
theorem dX8_save_57 : decode cX8_save 57 = .ok (.bipush 10, 2) := by decide +kernel
theorem dX8_save_59 : decode cX8_save 59 = .ok (.laload, 1) := by decide +kernel
theorem dX8_save_60 : decode cX8_save 60 = .ok (.l2i, 1) := by decide +kernel
theorem dX8_save_61 : decode cX8_save 61 = .ok (.ireturn, 1) := by decide +kernel
theorem dX8_restore_0 : decode cX8_restore 0 = .ok (.iload_n 1, 1) := by decide +kernel
theorem dX8_restore_1 : decode cX8_restore 1 = .ok (.i2l, 1) := by decide +kernel
theorem dX8_restore_2 : decode cX8_restore 2 = .ok (.lconst 0, 1) := by decide +kernel
theorem dX8_restore_3 : decode cX8_restore 3 = .ok (.lconst 1, 1) := by decide +kernel
theorem dX8_restore_4 : decode cX8_restore 4 = .ok (.invokestatic 53, 3) := by decide +kernel
theorem dX8_restore_7 : decode cX8_restore 7 = .ok (.ifCond .ne 6, 3) := by decide +kernel
theorem dX8_restore_10 : decode cX8_restore 10 = .ok (.bipush (-2), 2) := by decide +kernel
theorem dX8_restore_12 : decode cX8_restore 12 = .ok (.ireturn, 1) := by decide +kernel
theorem dX8_restore_13 : decode cX8_restore 13 = .ok (.aload_n 0, 1) := by decide +kernel
theorem dX8_restore_14 : decode cX8_restore 14 = .ok (.getfield 19, 3) := by decide +kernel
theorem dX8_restore_17 : decode cX8_restore 17 = .ok (.iload_n 1, 1) := by decide +kernel
theorem dX8_restore_18 : decode cX8_restore 18 = .ok (.baload, 1) := by decide +kernel
theorem dX8_restore_19 : decode cX8_restore 19 = .ok (.ifCond .ne 6, 3) := by decide +kernel
theorem dX8_restore_22 : decode cX8_restore 22 = .ok (.bipush (-5), 2) := by decide +kernel
theorem dX8_restore_24 : decode cX8_restore 24 = .ok (.ireturn, 1) := by decide +kernel
theorem dX8_restore_25 : decode cX8_restore 25 = .ok (.aload_n 0, 1) := by decide +kernel
theorem dX8_restore_26 : decode cX8_restore 26 = .ok (.invokevirtual 68, 3) := by decide +kernel
theorem dX8_restore_29 : decode cX8_restore 29 = .ok (.iconst 0, 1) := by decide +kernel
theorem dX8_restore_30 : decode cX8_restore 30 = .ok (.istore_n 2, 1) := by decide +kernel
theorem dX8_restore_31 : decode cX8_restore 31 = .ok (.iload_n 2, 1) := by decide +kernel
theorem dX8_restore_32 : decode cX8_restore 32 = .ok (.sipush 183, 3) := by decide +kernel
theorem dX8_restore_35 : decode cX8_restore 35 = .ok (.if_icmp .ge 27, 3) := by decide +kernel
theorem dX8_restore_38 : decode cX8_restore 38 = .ok (.aload_n 0, 1) := by decide +kernel
theorem dX8_restore_39 : decode cX8_restore 39 = .ok (.getfield 7, 3) := by decide +kernel
theorem dX8_restore_42 : decode cX8_restore 42 = .ok (.iload_n 2, 1) := by decide +kernel
theorem dX8_restore_43 : decode cX8_restore 43 = .ok (.aload_n 0, 1) := by decide +kernel
theorem dX8_restore_44 : decode cX8_restore 44 = .ok (.getfield 16, 3) := by decide +kernel
theorem dX8_restore_47 : decode cX8_restore 47 = .ok (.sipush 183, 3) := by decide +kernel
theorem dX8_restore_50 : decode cX8_restore 50 = .ok (.iload_n 1, 1) := by decide +kernel
theorem dX8_restore_51 : decode cX8_restore 51 = .ok (.imul, 1) := by decide +kernel
theorem dX8_restore_52 : decode cX8_restore 52 = .ok (.iload_n 2, 1) := by decide +kernel
theorem dX8_restore_53 : decode cX8_restore 53 = .ok (.iadd, 1) := by decide +kernel
theorem dX8_restore_54 : decode cX8_restore 54 = .ok (.laload, 1) := by decide +kernel
theorem dX8_restore_55 : decode cX8_restore 55 = .ok (.lastore, 1) := by decide +kernel
theorem dX8_restore_56 : decode cX8_restore 56 = .ok (.iinc 2 1, 3) := by decide +kernel
theorem dX8_restore_59 : decode cX8_restore 59 = .ok (.goto (-28), 3) := by decide +kernel
theorem dX8_restore_62 : decode cX8_restore 62 = .ok (.aload_n 0, 1) := by decide +kernel
theorem dX8_restore_63 : decode cX8_restore 63 = .ok (.getfield 7, 3) := by decide +kernel
theorem dX8_restore_66 : decode cX8_restore 66 = .ok (.bipush 10, 2) := by decide +kernel
theorem dX8_restore_68 : decode cX8_restore 68 = .ok (.laload, 1) := by decide +kernel
theorem dX8_restore_69 : decode cX8_restore 69 = .ok (.l2i, 1) := by decide +kernel
theorem dX8_restore_70 : decode cX8_restore 70 = .ok (.ireturn, 1) := by decide +kernel
theorem dL_law_0 : decode cL_law 0 = .ok (.new 7, 3) := by decide +kernel
theorem dL_law_3 : decode cL_law 3 = .ok (.dup, 1) := by decide +kernel
theorem dL_law_4 : decode cL_law 4 = .ok (.invokespecial 9, 3) := by decide +kernel
theorem dL_law_7 : decode cL_law 7 = .ok (.astore_n 1, 1) := by decide +kernel
theorem dL_law_8 : decode cL_law 8 = .ok (.new 10, 3) := by decide +kernel
theorem dL_law_11 : decode cL_law 11 = .ok (.dup, 1) := by decide +kernel
theorem dL_law_12 : decode cL_law 12 = .ok (.invokespecial 12, 3) := by decide +kernel
theorem dL_law_15 : decode cL_law 15 = .ok (.astore_n 2, 1) := by decide +kernel
theorem dL_law_16 : decode cL_law 16 = .ok (.iconst 0, 1) := by decide +kernel
theorem dL_law_17 : decode cL_law 17 = .ok (.istore_n 3, 1) := by decide +kernel
theorem dL_law_18 : decode cL_law 18 = .ok (.iload_n 3, 1) := by decide +kernel
theorem dL_law_19 : decode cL_law 19 = .ok (.aload_n 0, 1) := by decide +kernel
theorem dL_law_20 : decode cL_law 20 = .ok (.arraylength, 1) := by decide +kernel
theorem dL_law_21 : decode cL_law 21 = .ok (.iconst 4, 1) := by decide +kernel
theorem dL_law_22 : decode cL_law 22 = .ok (.isub, 1) := by decide +kernel
theorem dL_law_23 : decode cL_law 23 = .ok (.if_icmp .gt 703, 3) := by decide +kernel
theorem dL_law_26 : decode cL_law 26 = .ok (.aload_n 0, 1) := by decide +kernel
theorem dL_law_27 : decode cL_law 27 = .ok (.iload_n 3, 1) := by decide +kernel
theorem dL_law_28 : decode cL_law 28 = .ok (.iaload, 1) := by decide +kernel
theorem dL_law_29 : decode cL_law 29 = .ok (.bipush 31, 2) := by decide +kernel
theorem dL_law_31 : decode cL_law 31 = .ok (.iand, 1) := by decide +kernel
theorem dL_law_32 : decode cL_law 32 = .ok (.tableswitch 688 0 22 #[108, 141, 184, 227, 260, 273, 296, 319, 342, 355, 388, 411, 454, 477, 501, 524, 537, 590, 603, 616, 629, 642, 665], 108) := by decide +kernel
theorem dL_law_140 : decode cL_law 140 = .ok (.aload_n 1, 1) := by decide +kernel
theorem dL_law_141 : decode cL_law 141 = .ok (.aload_n 0, 1) := by decide +kernel
theorem dL_law_142 : decode cL_law 142 = .ok (.iload_n 3, 1) := by decide +kernel
theorem dL_law_143 : decode cL_law 143 = .ok (.iconst 1, 1) := by decide +kernel
theorem dL_law_144 : decode cL_law 144 = .ok (.iadd, 1) := by decide +kernel
theorem dL_law_145 : decode cL_law 145 = .ok (.iaload, 1) := by decide +kernel
theorem dL_law_146 : decode cL_law 146 = .ok (.aload_n 0, 1) := by decide +kernel
theorem dL_law_147 : decode cL_law 147 = .ok (.iload_n 3, 1) := by decide +kernel
theorem dL_law_148 : decode cL_law 148 = .ok (.iconst 2, 1) := by decide +kernel
theorem dL_law_149 : decode cL_law 149 = .ok (.iadd, 1) := by decide +kernel
theorem dL_law_150 : decode cL_law 150 = .ok (.iaload, 1) := by decide +kernel
theorem dL_law_151 : decode cL_law 151 = .ok (.invokevirtual 13, 3) := by decide +kernel
theorem dL_law_154 : decode cL_law 154 = .ok (.aload_n 2, 1) := by decide +kernel
theorem dL_law_155 : decode cL_law 155 = .ok (.aload_n 0, 1) := by decide +kernel
theorem dL_law_156 : decode cL_law 156 = .ok (.iload_n 3, 1) := by decide +kernel
theorem dL_law_157 : decode cL_law 157 = .ok (.iconst 1, 1) := by decide +kernel
theorem dL_law_158 : decode cL_law 158 = .ok (.iadd, 1) := by decide +kernel
theorem dL_law_159 : decode cL_law 159 = .ok (.iaload, 1) := by decide +kernel
theorem dL_law_160 : decode cL_law 160 = .ok (.aload_n 0, 1) := by decide +kernel
theorem dL_law_161 : decode cL_law 161 = .ok (.iload_n 3, 1) := by decide +kernel
theorem dL_law_162 : decode cL_law 162 = .ok (.iconst 2, 1) := by decide +kernel
theorem dL_law_163 : decode cL_law 163 = .ok (.iadd, 1) := by decide +kernel
theorem dL_law_164 : decode cL_law 164 = .ok (.iaload, 1) := by decide +kernel
theorem dL_law_165 : decode cL_law 165 = .ok (.invokevirtual 17, 3) := by decide +kernel
theorem dL_law_168 : decode cL_law 168 = .ok (.if_icmp .eq 552, 3) := by decide +kernel
theorem dL_law_171 : decode cL_law 171 = .ok (.iconst 0, 1) := by decide +kernel
theorem dL_law_172 : decode cL_law 172 = .ok (.ireturn, 1) := by decide +kernel
theorem dL_law_173 : decode cL_law 173 = .ok (.aload_n 1, 1) := by decide +kernel
theorem dL_law_174 : decode cL_law 174 = .ok (.aload_n 0, 1) := by decide +kernel
theorem dL_law_175 : decode cL_law 175 = .ok (.iload_n 3, 1) := by decide +kernel
theorem dL_law_176 : decode cL_law 176 = .ok (.iconst 1, 1) := by decide +kernel
theorem dL_law_177 : decode cL_law 177 = .ok (.iadd, 1) := by decide +kernel
theorem dL_law_178 : decode cL_law 178 = .ok (.iaload, 1) := by decide +kernel
theorem dL_law_179 : decode cL_law 179 = .ok (.aload_n 0, 1) := by decide +kernel
theorem dL_law_180 : decode cL_law 180 = .ok (.iload_n 3, 1) := by decide +kernel
theorem dL_law_181 : decode cL_law 181 = .ok (.iconst 2, 1) := by decide +kernel
theorem dL_law_182 : decode cL_law 182 = .ok (.iadd, 1) := by decide +kernel
theorem dL_law_183 : decode cL_law 183 = .ok (.iaload, 1) := by decide +kernel
theorem dL_law_184 : decode cL_law 184 = .ok (.aload_n 0, 1) := by decide +kernel
theorem dL_law_185 : decode cL_law 185 = .ok (.iload_n 3, 1) := by decide +kernel
theorem dL_law_186 : decode cL_law 186 = .ok (.iconst 3, 1) := by decide +kernel
theorem dL_law_187 : decode cL_law 187 = .ok (.iadd, 1) := by decide +kernel
theorem dL_law_188 : decode cL_law 188 = .ok (.iaload, 1) := by decide +kernel
theorem dL_law_189 : decode cL_law 189 = .ok (.invokevirtual 18, 3) := by decide +kernel
theorem dL_law_192 : decode cL_law 192 = .ok (.aload_n 2, 1) := by decide +kernel
theorem dL_law_193 : decode cL_law 193 = .ok (.aload_n 0, 1) := by decide +kernel
theorem dL_law_194 : decode cL_law 194 = .ok (.iload_n 3, 1) := by decide +kernel
theorem dL_law_195 : decode cL_law 195 = .ok (.iconst 1, 1) := by decide +kernel
theorem dL_law_196 : decode cL_law 196 = .ok (.iadd, 1) := by decide +kernel
theorem dL_law_197 : decode cL_law 197 = .ok (.iaload, 1) := by decide +kernel
theorem dL_law_198 : decode cL_law 198 = .ok (.aload_n 0, 1) := by decide +kernel
theorem dL_law_199 : decode cL_law 199 = .ok (.iload_n 3, 1) := by decide +kernel
theorem dL_law_200 : decode cL_law 200 = .ok (.iconst 2, 1) := by decide +kernel
theorem dL_law_201 : decode cL_law 201 = .ok (.iadd, 1) := by decide +kernel
theorem dL_law_202 : decode cL_law 202 = .ok (.iaload, 1) := by decide +kernel
theorem dL_law_203 : decode cL_law 203 = .ok (.aload_n 0, 1) := by decide +kernel
theorem dL_law_204 : decode cL_law 204 = .ok (.iload_n 3, 1) := by decide +kernel
theorem dL_law_205 : decode cL_law 205 = .ok (.iconst 3, 1) := by decide +kernel
theorem dL_law_206 : decode cL_law 206 = .ok (.iadd, 1) := by decide +kernel
theorem dL_law_207 : decode cL_law 207 = .ok (.iaload, 1) := by decide +kernel
theorem dL_law_208 : decode cL_law 208 = .ok (.invokevirtual 22, 3) := by decide +kernel
theorem dL_law_211 : decode cL_law 211 = .ok (.if_icmp .eq 509, 3) := by decide +kernel
theorem dL_law_214 : decode cL_law 214 = .ok (.iconst 0, 1) := by decide +kernel
theorem dL_law_215 : decode cL_law 215 = .ok (.ireturn, 1) := by decide +kernel
theorem dL_law_216 : decode cL_law 216 = .ok (.aload_n 1, 1) := by decide +kernel
theorem dL_law_217 : decode cL_law 217 = .ok (.aload_n 0, 1) := by decide +kernel
theorem dL_law_218 : decode cL_law 218 = .ok (.iload_n 3, 1) := by decide +kernel
theorem dL_law_219 : decode cL_law 219 = .ok (.iconst 1, 1) := by decide +kernel
theorem dL_law_220 : decode cL_law 220 = .ok (.iadd, 1) := by decide +kernel
theorem dL_law_221 : decode cL_law 221 = .ok (.iaload, 1) := by decide +kernel
theorem dL_law_222 : decode cL_law 222 = .ok (.aload_n 0, 1) := by decide +kernel
theorem dL_law_223 : decode cL_law 223 = .ok (.iload_n 3, 1) := by decide +kernel
theorem dL_law_224 : decode cL_law 224 = .ok (.iconst 2, 1) := by decide +kernel
theorem dL_law_225 : decode cL_law 225 = .ok (.iadd, 1) := by decide +kernel
theorem dL_law_226 : decode cL_law 226 = .ok (.iaload, 1) := by decide +kernel
theorem dL_law_227 : decode cL_law 227 = .ok (.aload_n 0, 1) := by decide +kernel
theorem dL_law_228 : decode cL_law 228 = .ok (.iload_n 3, 1) := by decide +kernel
theorem dL_law_229 : decode cL_law 229 = .ok (.iconst 3, 1) := by decide +kernel
theorem dL_law_230 : decode cL_law 230 = .ok (.iadd, 1) := by decide +kernel
theorem dL_law_231 : decode cL_law 231 = .ok (.iaload, 1) := by decide +kernel
theorem dL_law_232 : decode cL_law 232 = .ok (.invokevirtual 23, 3) := by decide +kernel
theorem dL_law_235 : decode cL_law 235 = .ok (.aload_n 2, 1) := by decide +kernel
theorem dL_law_236 : decode cL_law 236 = .ok (.aload_n 0, 1) := by decide +kernel
theorem dL_law_237 : decode cL_law 237 = .ok (.iload_n 3, 1) := by decide +kernel
theorem dL_law_238 : decode cL_law 238 = .ok (.iconst 1, 1) := by decide +kernel
theorem dL_law_239 : decode cL_law 239 = .ok (.iadd, 1) := by decide +kernel
theorem dL_law_240 : decode cL_law 240 = .ok (.iaload, 1) := by decide +kernel
theorem dL_law_241 : decode cL_law 241 = .ok (.aload_n 0, 1) := by decide +kernel
theorem dL_law_242 : decode cL_law 242 = .ok (.iload_n 3, 1) := by decide +kernel
theorem dL_law_243 : decode cL_law 243 = .ok (.iconst 2, 1) := by decide +kernel
theorem dL_law_244 : decode cL_law 244 = .ok (.iadd, 1) := by decide +kernel
theorem dL_law_245 : decode cL_law 245 = .ok (.iaload, 1) := by decide +kernel
theorem dL_law_246 : decode cL_law 246 = .ok (.aload_n 0, 1) := by decide +kernel
theorem dL_law_247 : decode cL_law 247 = .ok (.iload_n 3, 1) := by decide +kernel
theorem dL_law_248 : decode cL_law 248 = .ok (.iconst 3, 1) := by decide +kernel
theorem dL_law_249 : decode cL_law 249 = .ok (.iadd, 1) := by decide +kernel
theorem dL_law_250 : decode cL_law 250 = .ok (.iaload, 1) := by decide +kernel
theorem dL_law_251 : decode cL_law 251 = .ok (.invokevirtual 26, 3) := by decide +kernel
theorem dL_law_254 : decode cL_law 254 = .ok (.if_icmp .eq 466, 3) := by decide +kernel
theorem dL_law_257 : decode cL_law 257 = .ok (.iconst 0, 1) := by decide +kernel
theorem dL_law_258 : decode cL_law 258 = .ok (.ireturn, 1) := by decide +kernel
theorem dL_law_259 : decode cL_law 259 = .ok (.aload_n 1, 1) := by decide +kernel
theorem dL_law_260 : decode cL_law 260 = .ok (.aload_n 0, 1) := by decide +kernel
theorem dL_law_261 : decode cL_law 261 = .ok (.iload_n 3, 1) := by decide +kernel
theorem dL_law_262 : decode cL_law 262 = .ok (.iconst 1, 1) := by decide +kernel
theorem dL_law_263 : decode cL_law 263 = .ok (.iadd, 1) := by decide +kernel
theorem dL_law_264 : decode cL_law 264 = .ok (.iaload, 1) := by decide +kernel
theorem dL_law_265 : decode cL_law 265 = .ok (.aload_n 0, 1) := by decide +kernel
theorem dL_law_266 : decode cL_law 266 = .ok (.iload_n 3, 1) := by decide +kernel
theorem dL_law_267 : decode cL_law 267 = .ok (.iconst 2, 1) := by decide +kernel
theorem dL_law_268 : decode cL_law 268 = .ok (.iadd, 1) := by decide +kernel
theorem dL_law_269 : decode cL_law 269 = .ok (.iaload, 1) := by decide +kernel
theorem dL_law_270 : decode cL_law 270 = .ok (.invokevirtual 27, 3) := by decide +kernel
theorem dL_law_273 : decode cL_law 273 = .ok (.aload_n 2, 1) := by decide +kernel
theorem dL_law_274 : decode cL_law 274 = .ok (.aload_n 0, 1) := by decide +kernel
theorem dL_law_275 : decode cL_law 275 = .ok (.iload_n 3, 1) := by decide +kernel
theorem dL_law_276 : decode cL_law 276 = .ok (.iconst 1, 1) := by decide +kernel
theorem dL_law_277 : decode cL_law 277 = .ok (.iadd, 1) := by decide +kernel
theorem dL_law_278 : decode cL_law 278 = .ok (.iaload, 1) := by decide +kernel
theorem dL_law_279 : decode cL_law 279 = .ok (.aload_n 0, 1) := by decide +kernel
theorem dL_law_280 : decode cL_law 280 = .ok (.iload_n 3, 1) := by decide +kernel
theorem dL_law_281 : decode cL_law 281 = .ok (.iconst 2, 1) := by decide +kernel
theorem dL_law_282 : decode cL_law 282 = .ok (.iadd, 1) := by decide +kernel
theorem dL_law_283 : decode cL_law 283 = .ok (.iaload, 1) := by decide +kernel
theorem dL_law_284 : decode cL_law 284 = .ok (.invokevirtual 30, 3) := by decide +kernel
theorem dL_law_287 : decode cL_law 287 = .ok (.if_icmp .eq 433, 3) := by decide +kernel
theorem dL_law_290 : decode cL_law 290 = .ok (.iconst 0, 1) := by decide +kernel
theorem dL_law_291 : decode cL_law 291 = .ok (.ireturn, 1) := by decide +kernel
theorem dL_law_292 : decode cL_law 292 = .ok (.aload_n 1, 1) := by decide +kernel
theorem dL_law_293 : decode cL_law 293 = .ok (.invokevirtual 31, 3) := by decide +kernel
theorem dL_law_296 : decode cL_law 296 = .ok (.aload_n 2, 1) := by decide +kernel
theorem dL_law_297 : decode cL_law 297 = .ok (.invokevirtual 35, 3) := by decide +kernel
theorem dL_law_300 : decode cL_law 300 = .ok (.if_icmp .eq 420, 3) := by decide +kernel
theorem dL_law_303 : decode cL_law 303 = .ok (.iconst 0, 1) := by decide +kernel
theorem dL_law_304 : decode cL_law 304 = .ok (.ireturn, 1) := by decide +kernel
theorem dL_law_305 : decode cL_law 305 = .ok (.aload_n 1, 1) := by decide +kernel
theorem dL_law_306 : decode cL_law 306 = .ok (.aload_n 0, 1) := by decide +kernel
theorem dL_law_307 : decode cL_law 307 = .ok (.iload_n 3, 1) := by decide +kernel
theorem dL_law_308 : decode cL_law 308 = .ok (.iconst 1, 1) := by decide +kernel
theorem dL_law_309 : decode cL_law 309 = .ok (.iadd, 1) := by decide +kernel
theorem dL_law_310 : decode cL_law 310 = .ok (.iaload, 1) := by decide +kernel
theorem dL_law_311 : decode cL_law 311 = .ok (.invokevirtual 36, 3) := by decide +kernel
theorem dL_law_314 : decode cL_law 314 = .ok (.aload_n 2, 1) := by decide +kernel
theorem dL_law_315 : decode cL_law 315 = .ok (.aload_n 0, 1) := by decide +kernel
theorem dL_law_316 : decode cL_law 316 = .ok (.iload_n 3, 1) := by decide +kernel
theorem dL_law_317 : decode cL_law 317 = .ok (.iconst 1, 1) := by decide +kernel
theorem dL_law_318 : decode cL_law 318 = .ok (.iadd, 1) := by decide +kernel
theorem dL_law_319 : decode cL_law 319 = .ok (.iaload, 1) := by decide +kernel
theorem dL_law_320 : decode cL_law 320 = .ok (.invokevirtual 40, 3) := by decide +kernel
theorem dL_law_323 : decode cL_law 323 = .ok (.if_icmp .eq 397, 3) := by decide +kernel
theorem dL_law_326 : decode cL_law 326 = .ok (.iconst 0, 1) := by decide +kernel
theorem dL_law_327 : decode cL_law 327 = .ok (.ireturn, 1) := by decide +kernel
theorem dL_law_328 : decode cL_law 328 = .ok (.aload_n 1, 1) := by decide +kernel
theorem dL_law_329 : decode cL_law 329 = .ok (.aload_n 0, 1) := by decide +kernel
theorem dL_law_330 : decode cL_law 330 = .ok (.iload_n 3, 1) := by decide +kernel
theorem dL_law_331 : decode cL_law 331 = .ok (.iconst 1, 1) := by decide +kernel
theorem dL_law_332 : decode cL_law 332 = .ok (.iadd, 1) := by decide +kernel
theorem dL_law_333 : decode cL_law 333 = .ok (.iaload, 1) := by decide +kernel
theorem dL_law_334 : decode cL_law 334 = .ok (.invokevirtual 41, 3) := by decide +kernel
theorem dL_law_337 : decode cL_law 337 = .ok (.aload_n 2, 1) := by decide +kernel
theorem dL_law_338 : decode cL_law 338 = .ok (.aload_n 0, 1) := by decide +kernel
theorem dL_law_339 : decode cL_law 339 = .ok (.iload_n 3, 1) := by decide +kernel
theorem dL_law_340 : decode cL_law 340 = .ok (.iconst 1, 1) := by decide +kernel
theorem dL_law_341 : decode cL_law 341 = .ok (.iadd, 1) := by decide +kernel
theorem dL_law_342 : decode cL_law 342 = .ok (.iaload, 1) := by decide +kernel
theorem dL_law_343 : decode cL_law 343 = .ok (.invokevirtual 44, 3) := by decide +kernel
theorem dL_law_346 : decode cL_law 346 = .ok (.if_icmp .eq 374, 3) := by decide +kernel
theorem dL_law_349 : decode cL_law 349 = .ok (.iconst 0, 1) := by decide +kernel
theorem dL_law_350 : decode cL_law 350 = .ok (.ireturn, 1) := by decide +kernel
theorem dL_law_351 : decode cL_law 351 = .ok (.aload_n 1, 1) := by decide +kernel
theorem dL_law_352 : decode cL_law 352 = .ok (.aload_n 0, 1) := by decide +kernel
theorem dL_law_353 : decode cL_law 353 = .ok (.iload_n 3, 1) := by decide +kernel
theorem dL_law_354 : decode cL_law 354 = .ok (.iconst 1, 1) := by decide +kernel
theorem dL_law_355 : decode cL_law 355 = .ok (.iadd, 1) := by decide +kernel
theorem dL_law_356 : decode cL_law 356 = .ok (.iaload, 1) := by decide +kernel
theorem dL_law_357 : decode cL_law 357 = .ok (.invokevirtual 45, 3) := by decide +kernel
theorem dL_law_360 : decode cL_law 360 = .ok (.aload_n 2, 1) := by decide +kernel
theorem dL_law_361 : decode cL_law 361 = .ok (.aload_n 0, 1) := by decide +kernel
theorem dL_law_362 : decode cL_law 362 = .ok (.iload_n 3, 1) := by decide +kernel
theorem dL_law_363 : decode cL_law 363 = .ok (.iconst 1, 1) := by decide +kernel
theorem dL_law_364 : decode cL_law 364 = .ok (.iadd, 1) := by decide +kernel
theorem dL_law_365 : decode cL_law 365 = .ok (.iaload, 1) := by decide +kernel
theorem dL_law_366 : decode cL_law 366 = .ok (.invokevirtual 48, 3) := by decide +kernel
theorem dL_law_369 : decode cL_law 369 = .ok (.if_icmp .eq 351, 3) := by decide +kernel
theorem dL_law_372 : decode cL_law 372 = .ok (.iconst 0, 1) := by decide +kernel
theorem dL_law_373 : decode cL_law 373 = .ok (.ireturn, 1) := by decide +kernel
theorem dL_law_374 : decode cL_law 374 = .ok (.aload_n 1, 1) := by decide +kernel
theorem dL_law_375 : decode cL_law 375 = .ok (.invokevirtual 49, 3) := by decide +kernel
theorem dL_law_378 : decode cL_law 378 = .ok (.aload_n 2, 1) := by decide +kernel
theorem dL_law_379 : decode cL_law 379 = .ok (.invokevirtual 52, 3) := by decide +kernel
theorem dL_law_382 : decode cL_law 382 = .ok (.if_icmp .eq 338, 3) := by decide +kernel
theorem dL_law_385 : decode cL_law 385 = .ok (.iconst 0, 1) := by decide +kernel
theorem dL_law_386 : decode cL_law 386 = .ok (.ireturn, 1) := by decide +kernel
theorem dL_law_387 : decode cL_law 387 = .ok (.aload_n 1, 1) := by decide +kernel
theorem dL_law_388 : decode cL_law 388 = .ok (.aload_n 0, 1) := by decide +kernel
theorem dL_law_389 : decode cL_law 389 = .ok (.iload_n 3, 1) := by decide +kernel
theorem dL_law_390 : decode cL_law 390 = .ok (.iconst 1, 1) := by decide +kernel
theorem dL_law_391 : decode cL_law 391 = .ok (.iadd, 1) := by decide +kernel
theorem dL_law_392 : decode cL_law 392 = .ok (.iaload, 1) := by decide +kernel
theorem dL_law_393 : decode cL_law 393 = .ok (.aload_n 0, 1) := by decide +kernel
theorem dL_law_394 : decode cL_law 394 = .ok (.iload_n 3, 1) := by decide +kernel
theorem dL_law_395 : decode cL_law 395 = .ok (.iconst 2, 1) := by decide +kernel
theorem dL_law_396 : decode cL_law 396 = .ok (.iadd, 1) := by decide +kernel
theorem dL_law_397 : decode cL_law 397 = .ok (.iaload, 1) := by decide +kernel
theorem dL_law_398 : decode cL_law 398 = .ok (.invokevirtual 53, 3) := by decide +kernel
theorem dL_law_401 : decode cL_law 401 = .ok (.aload_n 2, 1) := by decide +kernel
theorem dL_law_402 : decode cL_law 402 = .ok (.aload_n 0, 1) := by decide +kernel
theorem dL_law_403 : decode cL_law 403 = .ok (.iload_n 3, 1) := by decide +kernel
theorem dL_law_404 : decode cL_law 404 = .ok (.iconst 1, 1) := by decide +kernel
theorem dL_law_405 : decode cL_law 405 = .ok (.iadd, 1) := by decide +kernel
theorem dL_law_406 : decode cL_law 406 = .ok (.iaload, 1) := by decide +kernel
theorem dL_law_407 : decode cL_law 407 = .ok (.aload_n 0, 1) := by decide +kernel
theorem dL_law_408 : decode cL_law 408 = .ok (.iload_n 3, 1) := by decide +kernel
theorem dL_law_409 : decode cL_law 409 = .ok (.iconst 2, 1) := by decide +kernel
theorem dL_law_410 : decode cL_law 410 = .ok (.iadd, 1) := by decide +kernel
theorem dL_law_411 : decode cL_law 411 = .ok (.iaload, 1) := by decide +kernel
theorem dL_law_412 : decode cL_law 412 = .ok (.invokevirtual 56, 3) := by decide +kernel
theorem dL_law_415 : decode cL_law 415 = .ok (.if_icmp .eq 305, 3) := by decide +kernel
theorem dL_law_418 : decode cL_law 418 = .ok (.iconst 0, 1) := by decide +kernel
theorem dL_law_419 : decode cL_law 419 = .ok (.ireturn, 1) := by decide +kernel
theorem dL_law_420 : decode cL_law 420 = .ok (.aload_n 1, 1) := by decide +kernel
theorem dL_law_421 : decode cL_law 421 = .ok (.aload_n 0, 1) := by decide +kernel
theorem dL_law_422 : decode cL_law 422 = .ok (.iload_n 3, 1) := by decide +kernel
theorem dL_law_423 : decode cL_law 423 = .ok (.iconst 1, 1) := by decide +kernel
theorem dL_law_424 : decode cL_law 424 = .ok (.iadd, 1) := by decide +kernel
theorem dL_law_425 : decode cL_law 425 = .ok (.iaload, 1) := by decide +kernel
theorem dL_law_426 : decode cL_law 426 = .ok (.invokevirtual 57, 3) := by decide +kernel
theorem dL_law_429 : decode cL_law 429 = .ok (.aload_n 2, 1) := by decide +kernel
theorem dL_law_430 : decode cL_law 430 = .ok (.aload_n 0, 1) := by decide +kernel
theorem dL_law_431 : decode cL_law 431 = .ok (.iload_n 3, 1) := by decide +kernel
theorem dL_law_432 : decode cL_law 432 = .ok (.iconst 1, 1) := by decide +kernel
theorem dL_law_433 : decode cL_law 433 = .ok (.iadd, 1) := by decide +kernel
theorem dL_law_434 : decode cL_law 434 = .ok (.iaload, 1) := by decide +kernel
theorem dL_law_435 : decode cL_law 435 = .ok (.invokevirtual 60, 3) := by decide +kernel
theorem dL_law_438 : decode cL_law 438 = .ok (.if_icmp .eq 282, 3) := by decide +kernel
theorem dL_law_441 : decode cL_law 441 = .ok (.iconst 0, 1) := by decide +kernel
theorem dL_law_442 : decode cL_law 442 = .ok (.ireturn, 1) := by decide +kernel
theorem dL_law_443 : decode cL_law 443 = .ok (.aload_n 1, 1) := by decide +kernel
theorem dL_law_444 : decode cL_law 444 = .ok (.aload_n 0, 1) := by decide +kernel
theorem dL_law_445 : decode cL_law 445 = .ok (.iload_n 3, 1) := by decide +kernel
theorem dL_law_446 : decode cL_law 446 = .ok (.iconst 1, 1) := by decide +kernel
theorem dL_law_447 : decode cL_law 447 = .ok (.iadd, 1) := by decide +kernel
theorem dL_law_448 : decode cL_law 448 = .ok (.iaload, 1) := by decide +kernel
theorem dL_law_449 : decode cL_law 449 = .ok (.aload_n 0, 1) := by decide +kernel
theorem dL_law_450 : decode cL_law 450 = .ok (.iload_n 3, 1) := by decide +kernel
theorem dL_law_451 : decode cL_law 451 = .ok (.iconst 2, 1) := by decide +kernel
theorem dL_law_452 : decode cL_law 452 = .ok (.iadd, 1) := by decide +kernel
theorem dL_law_453 : decode cL_law 453 = .ok (.iaload, 1) := by decide +kernel
theorem dL_law_454 : decode cL_law 454 = .ok (.aload_n 0, 1) := by decide +kernel
theorem dL_law_455 : decode cL_law 455 = .ok (.iload_n 3, 1) := by decide +kernel
theorem dL_law_456 : decode cL_law 456 = .ok (.iconst 3, 1) := by decide +kernel
theorem dL_law_457 : decode cL_law 457 = .ok (.iadd, 1) := by decide +kernel
theorem dL_law_458 : decode cL_law 458 = .ok (.iaload, 1) := by decide +kernel
theorem dL_law_459 : decode cL_law 459 = .ok (.invokevirtual 61, 3) := by decide +kernel
theorem dL_law_462 : decode cL_law 462 = .ok (.aload_n 2, 1) := by decide +kernel
theorem dL_law_463 : decode cL_law 463 = .ok (.aload_n 0, 1) := by decide +kernel
theorem dL_law_464 : decode cL_law 464 = .ok (.iload_n 3, 1) := by decide +kernel
theorem dL_law_465 : decode cL_law 465 = .ok (.iconst 1, 1) := by decide +kernel
theorem dL_law_466 : decode cL_law 466 = .ok (.iadd, 1) := by decide +kernel
theorem dL_law_467 : decode cL_law 467 = .ok (.iaload, 1) := by decide +kernel
theorem dL_law_468 : decode cL_law 468 = .ok (.aload_n 0, 1) := by decide +kernel
theorem dL_law_469 : decode cL_law 469 = .ok (.iload_n 3, 1) := by decide +kernel
theorem dL_law_470 : decode cL_law 470 = .ok (.iconst 2, 1) := by decide +kernel
theorem dL_law_471 : decode cL_law 471 = .ok (.iadd, 1) := by decide +kernel
theorem dL_law_472 : decode cL_law 472 = .ok (.iaload, 1) := by decide +kernel
theorem dL_law_473 : decode cL_law 473 = .ok (.aload_n 0, 1) := by decide +kernel
theorem dL_law_474 : decode cL_law 474 = .ok (.iload_n 3, 1) := by decide +kernel
theorem dL_law_475 : decode cL_law 475 = .ok (.iconst 3, 1) := by decide +kernel
theorem dL_law_476 : decode cL_law 476 = .ok (.iadd, 1) := by decide +kernel
theorem dL_law_477 : decode cL_law 477 = .ok (.iaload, 1) := by decide +kernel
theorem dL_law_478 : decode cL_law 478 = .ok (.invokevirtual 64, 3) := by decide +kernel
theorem dL_law_481 : decode cL_law 481 = .ok (.if_icmp .eq 239, 3) := by decide +kernel
theorem dL_law_484 : decode cL_law 484 = .ok (.iconst 0, 1) := by decide +kernel
theorem dL_law_485 : decode cL_law 485 = .ok (.ireturn, 1) := by decide +kernel
theorem dL_law_486 : decode cL_law 486 = .ok (.aload_n 1, 1) := by decide +kernel
theorem dL_law_487 : decode cL_law 487 = .ok (.aload_n 0, 1) := by decide +kernel
theorem dL_law_488 : decode cL_law 488 = .ok (.iload_n 3, 1) := by decide +kernel
theorem dL_law_489 : decode cL_law 489 = .ok (.iconst 1, 1) := by decide +kernel
theorem dL_law_490 : decode cL_law 490 = .ok (.iadd, 1) := by decide +kernel
theorem dL_law_491 : decode cL_law 491 = .ok (.iaload, 1) := by decide +kernel
theorem dL_law_492 : decode cL_law 492 = .ok (.invokevirtual 65, 3) := by decide +kernel
theorem dL_law_495 : decode cL_law 495 = .ok (.aload_n 2, 1) := by decide +kernel
theorem dL_law_496 : decode cL_law 496 = .ok (.aload_n 0, 1) := by decide +kernel
theorem dL_law_497 : decode cL_law 497 = .ok (.iload_n 3, 1) := by decide +kernel
theorem dL_law_498 : decode cL_law 498 = .ok (.iconst 1, 1) := by decide +kernel
theorem dL_law_499 : decode cL_law 499 = .ok (.iadd, 1) := by decide +kernel
theorem dL_law_500 : decode cL_law 500 = .ok (.iaload, 1) := by decide +kernel
theorem dL_law_501 : decode cL_law 501 = .ok (.invokevirtual 68, 3) := by decide +kernel
theorem dL_law_504 : decode cL_law 504 = .ok (.if_icmp .eq 216, 3) := by decide +kernel
theorem dL_law_507 : decode cL_law 507 = .ok (.iconst 0, 1) := by decide +kernel
theorem dL_law_508 : decode cL_law 508 = .ok (.ireturn, 1) := by decide +kernel
theorem dL_law_509 : decode cL_law 509 = .ok (.aload_n 1, 1) := by decide +kernel
theorem dL_law_510 : decode cL_law 510 = .ok (.aload_n 0, 1) := by decide +kernel
theorem dL_law_511 : decode cL_law 511 = .ok (.iload_n 3, 1) := by decide +kernel
theorem dL_law_512 : decode cL_law 512 = .ok (.iconst 1, 1) := by decide +kernel
theorem dL_law_513 : decode cL_law 513 = .ok (.iadd, 1) := by decide +kernel
theorem dL_law_514 : decode cL_law 514 = .ok (.iaload, 1) := by decide +kernel
theorem dL_law_515 : decode cL_law 515 = .ok (.invokevirtual 69, 3) := by decide +kernel
theorem dL_law_518 : decode cL_law 518 = .ok (.aload_n 2, 1) := by decide +kernel
theorem dL_law_519 : decode cL_law 519 = .ok (.aload_n 0, 1) := by decide +kernel
theorem dL_law_520 : decode cL_law 520 = .ok (.iload_n 3, 1) := by decide +kernel
theorem dL_law_521 : decode cL_law 521 = .ok (.iconst 1, 1) := by decide +kernel
theorem dL_law_522 : decode cL_law 522 = .ok (.iadd, 1) := by decide +kernel
theorem dL_law_523 : decode cL_law 523 = .ok (.iaload, 1) := by decide +kernel
theorem dL_law_524 : decode cL_law 524 = .ok (.invokevirtual 73, 3) := by decide +kernel
theorem dL_law_527 : decode cL_law 527 = .ok (.lcmp, 1) := by decide +kernel
theorem dL_law_528 : decode cL_law 528 = .ok (.ifCond .eq 192, 3) := by decide +kernel
theorem dL_law_531 : decode cL_law 531 = .ok (.iconst 0, 1) := by decide +kernel
theorem dL_law_532 : decode cL_law 532 = .ok (.ireturn, 1) := by decide +kernel
theorem dL_law_533 : decode cL_law 533 = .ok (.aload_n 1, 1) := by decide +kernel
theorem dL_law_534 : decode cL_law 534 = .ok (.aload_n 0, 1) := by decide +kernel
theorem dL_law_535 : decode cL_law 535 = .ok (.iload_n 3, 1) := by decide +kernel
theorem dL_law_536 : decode cL_law 536 = .ok (.iconst 1, 1) := by decide +kernel
theorem dL_law_537 : decode cL_law 537 = .ok (.iadd, 1) := by decide +kernel
theorem dL_law_538 : decode cL_law 538 = .ok (.iaload, 1) := by decide +kernel
theorem dL_law_539 : decode cL_law 539 = .ok (.invokevirtual 74, 3) := by decide +kernel
theorem dL_law_542 : decode cL_law 542 = .ok (.aload_n 2, 1) := by decide +kernel
theorem dL_law_543 : decode cL_law 543 = .ok (.aload_n 0, 1) := by decide +kernel
theorem dL_law_544 : decode cL_law 544 = .ok (.iload_n 3, 1) := by decide +kernel
theorem dL_law_545 : decode cL_law 545 = .ok (.iconst 1, 1) := by decide +kernel
theorem dL_law_546 : decode cL_law 546 = .ok (.iadd, 1) := by decide +kernel
theorem dL_law_547 : decode cL_law 547 = .ok (.iaload, 1) := by decide +kernel
theorem dL_law_548 : decode cL_law 548 = .ok (.invokevirtual 77, 3) := by decide +kernel
theorem dL_law_551 : decode cL_law 551 = .ok (.if_icmp .eq 169, 3) := by decide +kernel
theorem dL_law_554 : decode cL_law 554 = .ok (.iconst 0, 1) := by decide +kernel
theorem dL_law_555 : decode cL_law 555 = .ok (.ireturn, 1) := by decide +kernel
theorem dL_law_556 : decode cL_law 556 = .ok (.aload_n 1, 1) := by decide +kernel
theorem dL_law_557 : decode cL_law 557 = .ok (.invokevirtual 78, 3) := by decide +kernel
theorem dL_law_560 : decode cL_law 560 = .ok (.aload_n 2, 1) := by decide +kernel
theorem dL_law_561 : decode cL_law 561 = .ok (.invokevirtual 81, 3) := by decide +kernel
theorem dL_law_564 : decode cL_law 564 = .ok (.if_icmp .eq 156, 3) := by decide +kernel
theorem dL_law_567 : decode cL_law 567 = .ok (.iconst 0, 1) := by decide +kernel
theorem dL_law_568 : decode cL_law 568 = .ok (.ireturn, 1) := by decide +kernel
theorem dL_law_569 : decode cL_law 569 = .ok (.aload_n 1, 1) := by decide +kernel
theorem dL_law_570 : decode cL_law 570 = .ok (.aload_n 0, 1) := by decide +kernel
theorem dL_law_571 : decode cL_law 571 = .ok (.iload_n 3, 1) := by decide +kernel
theorem dL_law_572 : decode cL_law 572 = .ok (.iconst 1, 1) := by decide +kernel
theorem dL_law_573 : decode cL_law 573 = .ok (.iadd, 1) := by decide +kernel
theorem dL_law_574 : decode cL_law 574 = .ok (.iaload, 1) := by decide +kernel
theorem dL_law_575 : decode cL_law 575 = .ok (.i2l, 1) := by decide +kernel
theorem dL_law_576 : decode cL_law 576 = .ok (.bipush 32, 2) := by decide +kernel
theorem dL_law_578 : decode cL_law 578 = .ok (.lshl, 1) := by decide +kernel
theorem dL_law_579 : decode cL_law 579 = .ok (.aload_n 0, 1) := by decide +kernel
theorem dL_law_580 : decode cL_law 580 = .ok (.iload_n 3, 1) := by decide +kernel
theorem dL_law_581 : decode cL_law 581 = .ok (.iconst 2, 1) := by decide +kernel
theorem dL_law_582 : decode cL_law 582 = .ok (.iadd, 1) := by decide +kernel
theorem dL_law_583 : decode cL_law 583 = .ok (.iaload, 1) := by decide +kernel
theorem dL_law_584 : decode cL_law 584 = .ok (.i2l, 1) := by decide +kernel
theorem dL_law_585 : decode cL_law 585 = .ok (.ldc2_w 82, 3) := by decide +kernel
theorem dL_law_588 : decode cL_law 588 = .ok (.land, 1) := by decide +kernel
theorem dL_law_589 : decode cL_law 589 = .ok (.lor, 1) := by decide +kernel
theorem dL_law_590 : decode cL_law 590 = .ok (.invokevirtual 84, 3) := by decide +kernel
theorem dL_law_593 : decode cL_law 593 = .ok (.aload_n 2, 1) := by decide +kernel
theorem dL_law_594 : decode cL_law 594 = .ok (.aload_n 0, 1) := by decide +kernel
theorem dL_law_595 : decode cL_law 595 = .ok (.iload_n 3, 1) := by decide +kernel
theorem dL_law_596 : decode cL_law 596 = .ok (.iconst 1, 1) := by decide +kernel
theorem dL_law_597 : decode cL_law 597 = .ok (.iadd, 1) := by decide +kernel
theorem dL_law_598 : decode cL_law 598 = .ok (.iaload, 1) := by decide +kernel
theorem dL_law_599 : decode cL_law 599 = .ok (.i2l, 1) := by decide +kernel
theorem dL_law_600 : decode cL_law 600 = .ok (.bipush 32, 2) := by decide +kernel
theorem dL_law_602 : decode cL_law 602 = .ok (.lshl, 1) := by decide +kernel
theorem dL_law_603 : decode cL_law 603 = .ok (.aload_n 0, 1) := by decide +kernel
theorem dL_law_604 : decode cL_law 604 = .ok (.iload_n 3, 1) := by decide +kernel
theorem dL_law_605 : decode cL_law 605 = .ok (.iconst 2, 1) := by decide +kernel
theorem dL_law_606 : decode cL_law 606 = .ok (.iadd, 1) := by decide +kernel
theorem dL_law_607 : decode cL_law 607 = .ok (.iaload, 1) := by decide +kernel
theorem dL_law_608 : decode cL_law 608 = .ok (.i2l, 1) := by decide +kernel
theorem dL_law_609 : decode cL_law 609 = .ok (.ldc2_w 82, 3) := by decide +kernel
theorem dL_law_612 : decode cL_law 612 = .ok (.land, 1) := by decide +kernel
theorem dL_law_613 : decode cL_law 613 = .ok (.lor, 1) := by decide +kernel
theorem dL_law_614 : decode cL_law 614 = .ok (.invokevirtual 88, 3) := by decide +kernel
theorem dL_law_617 : decode cL_law 617 = .ok (.if_icmp .eq 103, 3) := by decide +kernel
theorem dL_law_620 : decode cL_law 620 = .ok (.iconst 0, 1) := by decide +kernel
theorem dL_law_621 : decode cL_law 621 = .ok (.ireturn, 1) := by decide +kernel
theorem dL_law_622 : decode cL_law 622 = .ok (.aload_n 1, 1) := by decide +kernel
theorem dL_law_623 : decode cL_law 623 = .ok (.invokevirtual 89, 3) := by decide +kernel
theorem dL_law_626 : decode cL_law 626 = .ok (.aload_n 2, 1) := by decide +kernel
theorem dL_law_627 : decode cL_law 627 = .ok (.invokevirtual 92, 3) := by decide +kernel
theorem dL_law_630 : decode cL_law 630 = .ok (.if_icmp .eq 90, 3) := by decide +kernel
theorem dL_law_633 : decode cL_law 633 = .ok (.iconst 0, 1) := by decide +kernel
theorem dL_law_634 : decode cL_law 634 = .ok (.ireturn, 1) := by decide +kernel
theorem dL_law_635 : decode cL_law 635 = .ok (.aload_n 1, 1) := by decide +kernel
theorem dL_law_636 : decode cL_law 636 = .ok (.invokevirtual 93, 3) := by decide +kernel
theorem dL_law_639 : decode cL_law 639 = .ok (.aload_n 2, 1) := by decide +kernel
theorem dL_law_640 : decode cL_law 640 = .ok (.invokevirtual 96, 3) := by decide +kernel
theorem dL_law_643 : decode cL_law 643 = .ok (.if_icmp .eq 77, 3) := by decide +kernel
theorem dL_law_646 : decode cL_law 646 = .ok (.iconst 0, 1) := by decide +kernel
theorem dL_law_647 : decode cL_law 647 = .ok (.ireturn, 1) := by decide +kernel
theorem dL_law_648 : decode cL_law 648 = .ok (.aload_n 1, 1) := by decide +kernel
theorem dL_law_649 : decode cL_law 649 = .ok (.invokevirtual 97, 3) := by decide +kernel
theorem dL_law_652 : decode cL_law 652 = .ok (.aload_n 2, 1) := by decide +kernel
theorem dL_law_653 : decode cL_law 653 = .ok (.invokevirtual 100, 3) := by decide +kernel
theorem dL_law_656 : decode cL_law 656 = .ok (.if_icmp .eq 64, 3) := by decide +kernel
theorem dL_law_659 : decode cL_law 659 = .ok (.iconst 0, 1) := by decide +kernel
theorem dL_law_660 : decode cL_law 660 = .ok (.ireturn, 1) := by decide +kernel
theorem dL_law_661 : decode cL_law 661 = .ok (.aload_n 1, 1) := by decide +kernel
theorem dL_law_662 : decode cL_law 662 = .ok (.invokevirtual 101, 3) := by decide +kernel
theorem dL_law_665 : decode cL_law 665 = .ok (.aload_n 2, 1) := by decide +kernel
theorem dL_law_666 : decode cL_law 666 = .ok (.invokevirtual 104, 3) := by decide +kernel
theorem dL_law_669 : decode cL_law 669 = .ok (.if_icmp .eq 51, 3) := by decide +kernel
theorem dL_law_672 : decode cL_law 672 = .ok (.iconst 0, 1) := by decide +kernel
theorem dL_law_673 : decode cL_law 673 = .ok (.ireturn, 1) := by decide +kernel
theorem dL_law_674 : decode cL_law 674 = .ok (.aload_n 1, 1) := by decide +kernel
theorem dL_law_675 : decode cL_law 675 = .ok (.aload_n 0, 1) := by decide +kernel
theorem dL_law_676 : decode cL_law 676 = .ok (.iload_n 3, 1) := by decide +kernel
theorem dL_law_677 : decode cL_law 677 = .ok (.iconst 1, 1) := by decide +kernel
theorem dL_law_678 : decode cL_law 678 = .ok (.iadd, 1) := by decide +kernel
theorem dL_law_679 : decode cL_law 679 = .ok (.iaload, 1) := by decide +kernel
theorem dL_law_680 : decode cL_law 680 = .ok (.invokevirtual 105, 3) := by decide +kernel
theorem dL_law_683 : decode cL_law 683 = .ok (.aload_n 2, 1) := by decide +kernel
theorem dL_law_684 : decode cL_law 684 = .ok (.aload_n 0, 1) := by decide +kernel
theorem dL_law_685 : decode cL_law 685 = .ok (.iload_n 3, 1) := by decide +kernel
theorem dL_law_686 : decode cL_law 686 = .ok (.iconst 1, 1) := by decide +kernel
theorem dL_law_687 : decode cL_law 687 = .ok (.iadd, 1) := by decide +kernel
theorem dL_law_688 : decode cL_law 688 = .ok (.iaload, 1) := by decide +kernel
theorem dL_law_689 : decode cL_law 689 = .ok (.invokevirtual 108, 3) := by decide +kernel
theorem dL_law_692 : decode cL_law 692 = .ok (.if_icmp .eq 28, 3) := by decide +kernel
theorem dL_law_695 : decode cL_law 695 = .ok (.iconst 0, 1) := by decide +kernel
theorem dL_law_696 : decode cL_law 696 = .ok (.ireturn, 1) := by decide +kernel
theorem dL_law_697 : decode cL_law 697 = .ok (.aload_n 1, 1) := by decide +kernel
theorem dL_law_698 : decode cL_law 698 = .ok (.aload_n 0, 1) := by decide +kernel
theorem dL_law_699 : decode cL_law 699 = .ok (.iload_n 3, 1) := by decide +kernel
theorem dL_law_700 : decode cL_law 700 = .ok (.iconst 1, 1) := by decide +kernel
theorem dL_law_701 : decode cL_law 701 = .ok (.iadd, 1) := by decide +kernel
theorem dL_law_702 : decode cL_law 702 = .ok (.iaload, 1) := by decide +kernel
theorem dL_law_703 : decode cL_law 703 = .ok (.invokevirtual 109, 3) := by decide +kernel
theorem dL_law_706 : decode cL_law 706 = .ok (.aload_n 2, 1) := by decide +kernel
theorem dL_law_707 : decode cL_law 707 = .ok (.aload_n 0, 1) := by decide +kernel
theorem dL_law_708 : decode cL_law 708 = .ok (.iload_n 3, 1) := by decide +kernel
theorem dL_law_709 : decode cL_law 709 = .ok (.iconst 1, 1) := by decide +kernel
theorem dL_law_710 : decode cL_law 710 = .ok (.iadd, 1) := by decide +kernel
theorem dL_law_711 : decode cL_law 711 = .ok (.iaload, 1) := by decide +kernel
theorem dL_law_712 : decode cL_law 712 = .ok (.invokevirtual 112, 3) := by decide +kernel
theorem dL_law_715 : decode cL_law 715 = .ok (.if_icmp .eq 5, 3) := by decide +kernel
theorem dL_law_718 : decode cL_law 718 = .ok (.iconst 0, 1) := by decide +kernel
theorem dL_law_719 : decode cL_law 719 = .ok (.ireturn, 1) := by decide +kernel
theorem dL_law_720 : decode cL_law 720 = .ok (.iinc 3 4, 3) := by decide +kernel
theorem dL_law_723 : decode cL_law 723 = .ok (.goto (-705), 3) := by decide +kernel
theorem dL_law_726 : decode cL_law 726 = .ok (.iconst 1, 1) := by decide +kernel
theorem dL_law_727 : decode cL_law 727 = .ok (.ireturn, 1) := by decide +kernel
end
section
/-! zJ: the walk's judgement with the heap and the locals' array hidden; a row an instruction, over the kit's rows. Written by wip/gen/zlib.py -/
/-- the tables' words that may go along through calls -/
def zG : List Cond := lw_tbl.filter goodWord
theorem zG_of {w : Cond} (h : w ∈ lw_tbl) (hg : goodWord w = true) : w ∈ zG := List.mem_filter.mpr ⟨h, hg⟩
def zGf : Nat → Value := fun k => match k with
  | 0 => .int 23
  | 1 => .int 1000
  | 2 => .int 100
  | 3 => .int 1000
  | _ => .int 50
def zHo : MethodName := ⟨"SwingUnits", "isHolder", "(I)Z"⟩
/-- what goes along beside the words: the links of the nest, the static array -/
def zX (A : Nat → Prop) (U : State) (H : Heap) : Prop := va_Nw (.fieldLinkNest "SwingUnits$Trust" 86 "SwingUnits" "GREATEST" "[I" "SwingUnits") U ∧ va_Nw (.methodLinkNest "SwingUnits$Trust" 89 zHo "SwingUnits") U ∧ va_Nw (.methodLinkNest "SwingUnits$Pad" 65 zHo "SwingUnits") U ∧ ∃ t : Nat, va_Z "SwingUnits" "GREATEST" "[I" (.ref t) A U H ∧ va_T .int t 5 zGf A U H
theorem zX.warm {A B : Nat → Prop} {s U : State} {H0 H : Heap} (hW : s.WarmedH U.vm) (hq : ∀ a : Nat, a < H0.size → ¬ A a → H[a]? = H0[a]?) (hAB : ∀ q, B q → A q) (h : zX A s H0) : zX B U H := by
  obtain ⟨h1, h2, h3, t, h4, h5⟩ := h
  exact ⟨va_Nw.warmF hW h1, va_Nw.warmM hW h2, va_Nw.warmM hW h3, t, ((h4.kept hq).narrow hAB).moved hW.alike, ((h5.kept hq).narrow hAB).moved hW.alike⟩
theorem zX.call {A : Nat → Prop} {U : State} {H : Heap} {g : JFrame} {mk : MethodId} {a : Array Value} (h : zX A U H) : zX A (U.calling g mk a) H := by
  obtain ⟨h1, h2, h3, t, h4, h5⟩ := h
  exact ⟨va_Nw.same rfl (u := U) rfl h1, va_Nw.same rfl (u := U) rfl h2, va_Nw.same rfl (u := U) rfl h3, t, h4.moved (Vm.Alike.refl U.vm), h5.moved (Vm.Alike.refl U.vm)⟩
abbrev zE : Type := (Program × Launch × Env × Room × State × MethodId × Array Value) × (List Frame × Method × Code × (State → Prop) × (Nat → Prop) × va_G)
def zJ (E : zE) (nL k n : Nat) (ws : va_W) (pc : Nat) (L : List (Nat × Value)) (st : List Value) : Prop :=
  ∀ (H : Heap) (locs : List Loc) (ls : Array Slot), va_P E.2.2.2.2.2.2 vwCl ws H → va_D E.2.2.2.2.2.1 ws → va_S E.2.2.2.2.2.1 E.1.2.2.2.2.1.heap H locs → lv_has ls nL L →
  W E.1.1 E.1.2.1 E.1.2.2.1 E.1.2.2.2.1 E.1.2.2.2.2.1 E.1.2.2.2.2.2.1 E.1.2.2.2.2.2.2 E.2.1 E.2.2.1 E.2.2.2.1 H locs k n E.2.2.2.2.1 (F0 E.1.2.2.2.2.2.1 pc ls st)
/-- the array classes that a world may hold -/
def zT (cy : Nat → ClassId) : List (ClassId × FieldType) := [(cy 0, .char), (cy 1, .int), (cy 2, .long), (cy 3, .boolean), (cy 4, .object "SwingUnits$Holder"), (cy 5, .object "SwingUnits$Trust")]
/-- what stands fast in a walk -/
def zO (E : zE) (cc : ByteArray) (nL : Nat) (own : String) (R : Room) (cy : Nat → ClassId) (l : Launch) (D : va_G) : Prop :=
  E.1.1.tables.exec = Jvm.exec ∧ E.2.2.2.1.code = cc ∧ E.2.2.2.1.maxLocals = nL ∧ E.1.2.2.2.2.1.vm.findClass own = some E.1.2.2.2.2.2.1.cls ∧ (∀ w ∈ zG, w.before E.1.2.2.2.2.2.2 E.1.2.2.2.2.1 = true) ∧ va_K E.2.2.2.2.2.2 vwCl (zT cy) E.1.2.2.2.2.1 ∧ (∀ q : Nat, E.1.2.2.2.2.1.heap.size ≤ q → E.2.2.2.2.2.1 q) ∧ E.1.2.2.2.1 = R ∧ E.1.2.1 = l ∧ E.2.2.2.2.2.2 = D ∧ zX E.2.2.2.2.2.1 E.1.2.2.2.2.1 E.1.2.2.2.2.1.heap
section ZR
variable {E : zE} {cc : ByteArray} {nL : Nat} {own : String} {R : Room} {cy : Nat → ClassId} {l : Launch} {D : va_G} {k n : Nat} {ws : va_W} {pc : Nat} {L : List (Nat × Value)} {st : List Value}
theorem zO.xx (C : zO E cc nL own R cy l D) : E.1.1.tables.exec = Jvm.exec := C.1
theorem zO.bb (C : zO E cc nL own R cy l D) : E.2.2.2.1.code = cc := C.2.1
theorem zO.ml (C : zO E cc nL own R cy l D) : E.2.2.2.1.maxLocals = nL := C.2.2.1
theorem zO.wn (C : zO E cc nL own R cy l D) : E.1.2.2.2.2.1.vm.findClass own = some E.1.2.2.2.2.2.1.cls := C.2.2.2.1
theorem zO.ts (C : zO E cc nL own R cy l D) : ∀ w ∈ zG, w.before E.1.2.2.2.2.2.2 E.1.2.2.2.2.1 = true := C.2.2.2.2.1
theorem zO.K (C : zO E cc nL own R cy l D) : va_K E.2.2.2.2.2.2 vwCl (zT cy) E.1.2.2.2.2.1 := C.2.2.2.2.2.1
theorem zO.A (C : zO E cc nL own R cy l D) : ∀ q : Nat, E.1.2.2.2.2.1.heap.size ≤ q → E.2.2.2.2.2.1 q := C.2.2.2.2.2.2.1
theorem zO.rR (C : zO E cc nL own R cy l D) : E.1.2.2.2.1 = R := C.2.2.2.2.2.2.2.1
theorem zO.lE (C : zO E cc nL own R cy l D) : E.1.2.1 = l := C.2.2.2.2.2.2.2.2.1
theorem zO.dD (C : zO E cc nL own R cy l D) : E.2.2.2.2.2.2 = D := C.2.2.2.2.2.2.2.2.2.1
theorem zO.X (C : zO E cc nL own R cy l D) : zX E.2.2.2.2.2.1 E.1.2.2.2.2.1 E.1.2.2.2.2.1.heap := C.2.2.2.2.2.2.2.2.2.2
/-- the same place told otherwise -/
theorem zj_eq {ws' : va_W} {L' : List (Nat × Value)} {st' : List Value} {pc' : Nat} (h1 : ws = ws') (h2 : L = L') (h3 : st = st') (h4 : pc = pc') (kk : zJ E nL k n ws' pc' L' st') : zJ E nL k n ws pc L st := by subst h1; subst h2; subst h3; subst h4; exact kk
theorem zj_sub {L' : List (Nat × Value)} (is : List Nat) (h : lv_pick L is = L') (kk : zJ E nL k n ws pc L' st) : zJ E nL k n ws pc L st := fun H locs ls hP hD hS hl => kk H locs ls hP hD hS (lv_sub hl is h)

theorem zj_iconst (C : zO E cc nL own R cy l D) {n0 : Int} {v : Int32} (d : decode cc pc = .ok (.iconst n0, 1)) (hv : Int32.ofInt n0 = v) (kk : zJ E nL k n ws (pc + 1) L (.int v :: st)) : zJ E nL k n ws pc L (st) := fun H locs ls hP hD hS hl => lv_iconst C.xx C.bb d hv (kk H locs ls hP hD hS hl)
theorem zj_bipush (C : zO E cc nL own R cy l D) {n0 : Int} {v : Int32} (d : decode cc pc = .ok (.bipush n0, 2)) (hv : (Int8.ofInt n0).toInt32 = v) (kk : zJ E nL k n ws (pc + 2) L (.int v :: st)) : zJ E nL k n ws pc L (st) := fun H locs ls hP hD hS hl => lv_bipush C.xx C.bb d hv (kk H locs ls hP hD hS hl)
theorem zj_sipush (C : zO E cc nL own R cy l D) {n0 : Int} {v : Int32} (d : decode cc pc = .ok (.sipush n0, 3)) (hv : (Int16.ofInt n0).toInt32 = v) (kk : zJ E nL k n ws (pc + 3) L (.int v :: st)) : zJ E nL k n ws pc L (st) := fun H locs ls hP hD hS hl => lv_sipush C.xx C.bb d hv (kk H locs ls hP hD hS hl)
theorem zj_lconst (C : zO E cc nL own R cy l D) {n0 : Fin 2} {v : Int64} (d : decode cc pc = .ok (.lconst n0, 1)) (hv : Int64.ofNat (n0 : Nat) = v) (kk : zJ E nL k n ws (pc + 1) L (.long v :: st)) : zJ E nL k n ws pc L (st) := fun H locs ls hP hD hS hl => lv_lconst C.xx C.bb d hv (kk H locs ls hP hD hS hl)
theorem zj_iload_n (C : zO E cc nL own R cy l D) {q : Fin 4} {x : Int32} (d : decode cc pc = .ok (.iload_n q, 1)) (j : Nat) (hj : L[j]? = some ((q : Nat), .int x)) (kk : zJ E nL k n ws (pc + 1) L (.int x :: st)) : zJ E nL k n ws pc L (st) := fun H locs ls hP hD hS hl => lv_iload_n C.xx C.bb d rfl (lv_at hl j hj) (kk H locs ls hP hD hS hl)
theorem zj_iload (C : zO E cc nL own R cy l D) {q : Nat} {x : Int32} (d : decode cc pc = .ok (.iload q, 2)) (j : Nat) (hj : L[j]? = some (q, .int x)) (kk : zJ E nL k n ws (pc + 2) L (.int x :: st)) : zJ E nL k n ws pc L (st) := fun H locs ls hP hD hS hl => lv_iload C.xx C.bb d (lv_at hl j hj) (kk H locs ls hP hD hS hl)
theorem zj_lload_n (C : zO E cc nL own R cy l D) {q : Fin 4} {x : Int64} (d : decode cc pc = .ok (.lload_n q, 1)) (j : Nat) (hj : L[j]? = some ((q : Nat), .long x)) (kk : zJ E nL k n ws (pc + 1) L (.long x :: st)) : zJ E nL k n ws pc L (st) := fun H locs ls hP hD hS hl => lv_lload_n C.xx C.bb d rfl (lv_at hl j hj) (kk H locs ls hP hD hS hl)
theorem zj_lload (C : zO E cc nL own R cy l D) {q : Nat} {x : Int64} (d : decode cc pc = .ok (.lload q, 2)) (j : Nat) (hj : L[j]? = some (q, .long x)) (kk : zJ E nL k n ws (pc + 2) L (.long x :: st)) : zJ E nL k n ws pc L (st) := fun H locs ls hP hD hS hl => lv_lload C.xx C.bb d (lv_at hl j hj) (kk H locs ls hP hD hS hl)
theorem zj_aload_n (C : zO E cc nL own R cy l D) {q : Fin 4} {x : Nat} (d : decode cc pc = .ok (.aload_n q, 1)) (j : Nat) (hj : L[j]? = some ((q : Nat), .ref x)) (kk : zJ E nL k n ws (pc + 1) L (.ref x :: st)) : zJ E nL k n ws pc L (st) := fun H locs ls hP hD hS hl => lv_aload_n C.xx C.bb d rfl (lv_at hl j hj) (kk H locs ls hP hD hS hl)
theorem zj_aload (C : zO E cc nL own R cy l D) {q : Nat} {x : Nat} (d : decode cc pc = .ok (.aload q, 2)) (j : Nat) (hj : L[j]? = some (q, .ref x)) (kk : zJ E nL k n ws (pc + 2) L (.ref x :: st)) : zJ E nL k n ws pc L (st) := fun H locs ls hP hD hS hl => lv_aload C.xx C.bb d (lv_at hl j hj) (kk H locs ls hP hD hS hl)
theorem zj_istore_n (C : zO E cc nL own R cy l D) {q0 : Fin 4} {i : Nat} {x : Int32} {L' : List (Nat × Value)} (d : decode cc pc = .ok (.istore_n q0, 1)) (hi : (q0 : Nat) = i) (hn : i < nL) (hL : (i, Value.int x) :: L.filter (fun q => !(q.1 == i) && !(q.1 + 1 == i && q.2.category == 2)) = L') (kk : zJ E nL k n ws (pc + 1) L' st) : zJ E nL k n ws pc L (.int x :: st) := fun H locs ls hP hD hS hl => lv_istore_n C.xx C.bb d hi hl hn hL (fun ls hl => kk H locs ls hP hD hS hl)
theorem zj_istore (C : zO E cc nL own R cy l D) {i : Nat} {x : Int32} {L' : List (Nat × Value)} (d : decode cc pc = .ok (.istore i, 2)) (hn : i < nL) (hL : (i, Value.int x) :: L.filter (fun q => !(q.1 == i) && !(q.1 + 1 == i && q.2.category == 2)) = L') (kk : zJ E nL k n ws (pc + 2) L' st) : zJ E nL k n ws pc L (.int x :: st) := fun H locs ls hP hD hS hl => lv_istore C.xx C.bb d hl hn hL (fun ls hl => kk H locs ls hP hD hS hl)
theorem zj_lstore_n (C : zO E cc nL own R cy l D) {q0 : Fin 4} {i : Nat} {x : Int64} {L' : List (Nat × Value)} (d : decode cc pc = .ok (.lstore_n q0, 1)) (hi : (q0 : Nat) = i) (hn : i + 1 < nL) (hL : (i, Value.long x) :: L.filter (fun q => !(q.1 == i) && (!(q.1 == i + 1) && !(q.1 + 1 == i && q.2.category == 2))) = L') (kk : zJ E nL k n ws (pc + 1) L' st) : zJ E nL k n ws pc L (.long x :: st) := fun H locs ls hP hD hS hl => lv_lstore_n C.xx C.bb d hi hl hn hL (fun ls hl => kk H locs ls hP hD hS hl)
theorem zj_lstore (C : zO E cc nL own R cy l D) {i : Nat} {x : Int64} {L' : List (Nat × Value)} (d : decode cc pc = .ok (.lstore i, 2)) (hn : i + 1 < nL) (hL : (i, Value.long x) :: L.filter (fun q => !(q.1 == i) && (!(q.1 == i + 1) && !(q.1 + 1 == i && q.2.category == 2))) = L') (kk : zJ E nL k n ws (pc + 2) L' st) : zJ E nL k n ws pc L (.long x :: st) := fun H locs ls hP hD hS hl => lv_lstore C.xx C.bb d hl hn hL (fun ls hl => kk H locs ls hP hD hS hl)
theorem zj_astore_n (C : zO E cc nL own R cy l D) {q0 : Fin 4} {i : Nat} {x : Nat} {L' : List (Nat × Value)} (d : decode cc pc = .ok (.astore_n q0, 1)) (hi : (q0 : Nat) = i) (hn : i < nL) (hL : (i, Value.ref x) :: L.filter (fun q => !(q.1 == i) && !(q.1 + 1 == i && q.2.category == 2)) = L') (kk : zJ E nL k n ws (pc + 1) L' st) : zJ E nL k n ws pc L (.ref x :: st) := fun H locs ls hP hD hS hl => lv_astore_n C.xx C.bb d hi hl hn hL (fun ls hl => kk H locs ls hP hD hS hl)
theorem zj_astore (C : zO E cc nL own R cy l D) {i : Nat} {x : Nat} {L' : List (Nat × Value)} (d : decode cc pc = .ok (.astore i, 2)) (hn : i < nL) (hL : (i, Value.ref x) :: L.filter (fun q => !(q.1 == i) && !(q.1 + 1 == i && q.2.category == 2)) = L') (kk : zJ E nL k n ws (pc + 2) L' st) : zJ E nL k n ws pc L (.ref x :: st) := fun H locs ls hP hD hS hl => lv_astore C.xx C.bb d hl hn hL (fun ls hl => kk H locs ls hP hD hS hl)
theorem zj_iinc (C : zO E cc nL own R cy l D) {i j : Nat} {n0 : Int} {x v : Int32} {L' : List (Nat × Value)} (d : decode cc pc = .ok (.iinc i n0, 3)) (hj : L[j]? = some (i, .int x)) (hv : x + Int32.ofInt n0 = v) (hn : i < nL) (hL : (i, Value.int v) :: L.filter (fun q => !(q.1 == i) && !(q.1 + 1 == i && q.2.category == 2)) = L') (kk : zJ E nL k n ws (pc + 3) L' st) : zJ E nL k n ws pc L st := fun H locs ls hP hD hS hl => lv_iinc C.xx C.bb d hl hj hv hn hL (fun ls hl => kk H locs ls hP hD hS hl)
theorem zj_iadd (C : zO E cc nL own R cy l D) {x y : Int32} (d : decode cc pc = .ok (.iadd, 1))  (kk : zJ E nL k n ws (pc + 1) L (.int (x + y) :: st)) : zJ E nL k n ws pc L (.int y :: .int x :: st) := fun H locs ls hP hD hS hl => lv_iadd C.xx C.bb d (kk H locs ls hP hD hS hl)
theorem zj_isub (C : zO E cc nL own R cy l D) {x y : Int32} (d : decode cc pc = .ok (.isub, 1))  (kk : zJ E nL k n ws (pc + 1) L (.int (x - y) :: st)) : zJ E nL k n ws pc L (.int y :: .int x :: st) := fun H locs ls hP hD hS hl => lv_isub C.xx C.bb d (kk H locs ls hP hD hS hl)
theorem zj_imul (C : zO E cc nL own R cy l D) {x y : Int32} (d : decode cc pc = .ok (.imul, 1))  (kk : zJ E nL k n ws (pc + 1) L (.int (x * y) :: st)) : zJ E nL k n ws pc L (.int y :: .int x :: st) := fun H locs ls hP hD hS hl => lv_imul C.xx C.bb d (kk H locs ls hP hD hS hl)
theorem zj_iand (C : zO E cc nL own R cy l D) {x y : Int32} (d : decode cc pc = .ok (.iand, 1))  (kk : zJ E nL k n ws (pc + 1) L (.int (x &&& y) :: st)) : zJ E nL k n ws pc L (.int y :: .int x :: st) := fun H locs ls hP hD hS hl => lv_iand C.xx C.bb d (kk H locs ls hP hD hS hl)
theorem zj_ladd (C : zO E cc nL own R cy l D) {x y : Int64} (d : decode cc pc = .ok (.ladd, 1))  (kk : zJ E nL k n ws (pc + 1) L (.long (x + y) :: st)) : zJ E nL k n ws pc L (.long y :: .long x :: st) := fun H locs ls hP hD hS hl => lv_ladd C.xx C.bb d (kk H locs ls hP hD hS hl)
theorem zj_lsub (C : zO E cc nL own R cy l D) {x y : Int64} (d : decode cc pc = .ok (.lsub, 1))  (kk : zJ E nL k n ws (pc + 1) L (.long (x - y) :: st)) : zJ E nL k n ws pc L (.long y :: .long x :: st) := fun H locs ls hP hD hS hl => lv_lsub C.xx C.bb d (kk H locs ls hP hD hS hl)
theorem zj_lmul (C : zO E cc nL own R cy l D) {x y : Int64} (d : decode cc pc = .ok (.lmul, 1))  (kk : zJ E nL k n ws (pc + 1) L (.long (x * y) :: st)) : zJ E nL k n ws pc L (.long y :: .long x :: st) := fun H locs ls hP hD hS hl => lv_lmul C.xx C.bb d (kk H locs ls hP hD hS hl)
theorem zj_land (C : zO E cc nL own R cy l D) {x y : Int64} (d : decode cc pc = .ok (.land, 1))  (kk : zJ E nL k n ws (pc + 1) L (.long (x &&& y) :: st)) : zJ E nL k n ws pc L (.long y :: .long x :: st) := fun H locs ls hP hD hS hl => lv_land C.xx C.bb d (kk H locs ls hP hD hS hl)
theorem zj_lor (C : zO E cc nL own R cy l D) {x y : Int64} (d : decode cc pc = .ok (.lor, 1))  (kk : zJ E nL k n ws (pc + 1) L (.long (x ||| y) :: st)) : zJ E nL k n ws pc L (.long y :: .long x :: st) := fun H locs ls hP hD hS hl => lv_lor C.xx C.bb d (kk H locs ls hP hD hS hl)
theorem zj_ldiv (C : zO E cc nL own R cy l D) {x y : Int64} (d : decode cc pc = .ok (.ldiv, 1)) (hne : ¬ y = 0) (kk : zJ E nL k n ws (pc + 1) L (.long (x / y) :: st)) : zJ E nL k n ws pc L (.long y :: .long x :: st) := fun H locs ls hP hD hS hl => lv_ldiv C.xx C.bb d hne (kk H locs ls hP hD hS hl)
theorem zj_irem (C : zO E cc nL own R cy l D) {x y : Int32} (d : decode cc pc = .ok (.irem, 1)) (hne : ¬ y = 0) (kk : zJ E nL k n ws (pc + 1) L (.int (x - x / y * y) :: st)) : zJ E nL k n ws pc L (.int y :: .int x :: st) := fun H locs ls hP hD hS hl => lv_irem C.xx C.bb d hne (kk H locs ls hP hD hS hl)
theorem zj_ineg (C : zO E cc nL own R cy l D) {x : Int32} (d : decode cc pc = .ok (.ineg, 1))  (kk : zJ E nL k n ws (pc + 1) L (.int (-x) :: st)) : zJ E nL k n ws pc L (.int x :: st) := fun H locs ls hP hD hS hl => lv_ineg C.xx C.bb d (kk H locs ls hP hD hS hl)
theorem zj_lneg (C : zO E cc nL own R cy l D) {x : Int64} (d : decode cc pc = .ok (.lneg, 1))  (kk : zJ E nL k n ws (pc + 1) L (.long (-x) :: st)) : zJ E nL k n ws pc L (.long x :: st) := fun H locs ls hP hD hS hl => lv_lneg C.xx C.bb d (kk H locs ls hP hD hS hl)
theorem zj_i2l (C : zO E cc nL own R cy l D) {x : Int32} (d : decode cc pc = .ok (.i2l, 1))  (kk : zJ E nL k n ws (pc + 1) L (.long (x.toInt64) :: st)) : zJ E nL k n ws pc L (.int x :: st) := fun H locs ls hP hD hS hl => lv_i2l C.xx C.bb d rfl (kk H locs ls hP hD hS hl)
theorem zj_l2i (C : zO E cc nL own R cy l D) {x : Int64} (d : decode cc pc = .ok (.l2i, 1))  (kk : zJ E nL k n ws (pc + 1) L (.int (x.toInt32) :: st)) : zJ E nL k n ws pc L (.long x :: st) := fun H locs ls hP hD hS hl => lv_l2i C.xx C.bb d rfl (kk H locs ls hP hD hS hl)
theorem zj_i2c (C : zO E cc nL own R cy l D) {x : Int32} (d : decode cc pc = .ok (.i2c, 1))  (kk : zJ E nL k n ws (pc + 1) L (.int ((x.toUInt32 % 65536).toInt32) :: st)) : zJ E nL k n ws pc L (.int x :: st) := fun H locs ls hP hD hS hl => lv_i2c C.xx C.bb d rfl (kk H locs ls hP hD hS hl)
theorem zj_lushr (C : zO E cc nL own R cy l D) {x v : Int64} {y : Int32} (d : decode cc pc = .ok (.lushr, 1)) (hv : (x.toUInt64 >>> (y.toInt64.toUInt64 &&& Int64.toUInt64 63)).toInt64 = v) (kk : zJ E nL k n ws (pc + 1) L (.long v :: st)) : zJ E nL k n ws pc L (.int y :: .long x :: st) := fun H locs ls hP hD hS hl => lv_lushr C.xx C.bb d hv (kk H locs ls hP hD hS hl)
theorem zj_lshl (C : zO E cc nL own R cy l D) {x v : Int64} {y : Int32} (d : decode cc pc = .ok (.lshl, 1)) (hv : x <<< (y.toInt64 &&& 63) = v) (kk : zJ E nL k n ws (pc + 1) L (.long v :: st)) : zJ E nL k n ws pc L (.int y :: .long x :: st) := fun H locs ls hP hD hS hl => lv_lshl C.xx C.bb d hv (kk H locs ls hP hD hS hl)
theorem zj_lshr (C : zO E cc nL own R cy l D) {x v : Int64} {y : Int32} (d : decode cc pc = .ok (.lshr, 1)) (hv : x >>> (y.toInt64 &&& 63) = v) (kk : zJ E nL k n ws (pc + 1) L (.long v :: st)) : zJ E nL k n ws pc L (.int y :: .long x :: st) := fun H locs ls hP hD hS hl => lv_lshr C.xx C.bb d hv (kk H locs ls hP hD hS hl)
theorem zj_dup (C : zO E cc nL own R cy l D) {va : Value} (d : decode cc pc = .ok (.dup, 1)) (hva : va.category = 1) (kk : zJ E nL k n ws (pc + 1) L (va :: va :: st)) : zJ E nL k n ws pc L (va :: st) := fun H locs ls hP hD hS hl => lv_dup C.xx C.bb d hva (kk H locs ls hP hD hS hl)
theorem zj_pop (C : zO E cc nL own R cy l D) {va : Value} (d : decode cc pc = .ok (.pop, 1)) (hva : va.category = 1) (kk : zJ E nL k n ws (pc + 1) L (st)) : zJ E nL k n ws pc L (va :: st) := fun H locs ls hP hD hS hl => lv_pop C.xx C.bb d hva (kk H locs ls hP hD hS hl)
theorem zj_dup2 (C : zO E cc nL own R cy l D) {va vb : Value} (d : decode cc pc = .ok (.dup2, 1)) (hva : va.category = 1) (hvb : vb.category = 1) (kk : zJ E nL k n ws (pc + 1) L (va :: vb :: va :: vb :: st)) : zJ E nL k n ws pc L (va :: vb :: st) := fun H locs ls hP hD hS hl => lv_dup2_11 C.xx C.bb d hva hvb (kk H locs ls hP hD hS hl)
theorem zj_topi {x : Int32} (y : Int32) (h : x = y) (kk : zJ E nL k n ws pc L (.int y :: st)) : zJ E nL k n ws pc L (.int x :: st) := h ▸ kk
theorem zj_topig {x : Int32} (kk : ∀ y : Int32, y = x → zJ E nL k n ws pc L (.int y :: st)) : zJ E nL k n ws pc L (.int x :: st) := kk x rfl
theorem zj_topl {x : Int64} (y : Int64) (h : x = y) (kk : zJ E nL k n ws pc L (.long y :: st)) : zJ E nL k n ws pc L (.long x :: st) := h ▸ kk
theorem zj_toplg {x : Int64} (kk : ∀ y : Int64, y = x → zJ E nL k n ws pc L (.long y :: st)) : zJ E nL k n ws pc L (.long x :: st) := kk x rfl
theorem zj_if_eq (C : zO E cc nL own R cy l D) {x : Int32} {off : Int} (tgt : Nat) (d : decode cc pc = .ok (.ifCond .eq off, 3)) (ht : (pc : Int) + off = (tgt : Int)) (kt : x = 0 → zJ E nL k n ws tgt L st) (kf : ¬ (x = 0) → zJ E nL k n ws (pc + 3) L st) : zJ E nL k n ws pc L (.int x :: st) := fun H locs ls hP hD hS hl => lv_if_eq C.xx C.bb d ht (fun h => kt (by first | exact h | simpa using h) H locs ls hP hD hS hl) (fun h => kf (by first | exact h | simpa using h) H locs ls hP hD hS hl)
theorem zj_icmp_eq (C : zO E cc nL own R cy l D) {x y : Int32} {off : Int} (tgt : Nat) (d : decode cc pc = .ok (.if_icmp .eq off, 3)) (ht : (pc : Int) + off = (tgt : Int)) (kt : x = y → zJ E nL k n ws tgt L st) (kf : ¬ (x = y) → zJ E nL k n ws (pc + 3) L st) : zJ E nL k n ws pc L (.int y :: .int x :: st) := fun H locs ls hP hD hS hl => lv_icmp_eq C.xx C.bb d ht (fun h => kt (by first | exact h | simpa using h) H locs ls hP hD hS hl) (fun h => kf (by first | exact h | simpa using h) H locs ls hP hD hS hl)
theorem zj_if_ne (C : zO E cc nL own R cy l D) {x : Int32} {off : Int} (tgt : Nat) (d : decode cc pc = .ok (.ifCond .ne off, 3)) (ht : (pc : Int) + off = (tgt : Int)) (kt : ¬ x = 0 → zJ E nL k n ws tgt L st) (kf : ¬ (¬ x = 0) → zJ E nL k n ws (pc + 3) L st) : zJ E nL k n ws pc L (.int x :: st) := fun H locs ls hP hD hS hl => lv_if_ne C.xx C.bb d ht (fun h => kt (by first | exact h | simpa using h) H locs ls hP hD hS hl) (fun h => kf (by first | exact h | simpa using h) H locs ls hP hD hS hl)
theorem zj_icmp_ne (C : zO E cc nL own R cy l D) {x y : Int32} {off : Int} (tgt : Nat) (d : decode cc pc = .ok (.if_icmp .ne off, 3)) (ht : (pc : Int) + off = (tgt : Int)) (kt : ¬ x = y → zJ E nL k n ws tgt L st) (kf : ¬ (¬ x = y) → zJ E nL k n ws (pc + 3) L st) : zJ E nL k n ws pc L (.int y :: .int x :: st) := fun H locs ls hP hD hS hl => lv_icmp_ne C.xx C.bb d ht (fun h => kt (by first | exact h | simpa using h) H locs ls hP hD hS hl) (fun h => kf (by first | exact h | simpa using h) H locs ls hP hD hS hl)
theorem zj_if_lt (C : zO E cc nL own R cy l D) {x : Int32} {off : Int} (tgt : Nat) (d : decode cc pc = .ok (.ifCond .lt off, 3)) (ht : (pc : Int) + off = (tgt : Int)) (kt : x < 0 → zJ E nL k n ws tgt L st) (kf : ¬ (x < 0) → zJ E nL k n ws (pc + 3) L st) : zJ E nL k n ws pc L (.int x :: st) := fun H locs ls hP hD hS hl => lv_if_lt C.xx C.bb d ht (fun h => kt (by first | exact h | simpa using h) H locs ls hP hD hS hl) (fun h => kf (by first | exact h | simpa using h) H locs ls hP hD hS hl)
theorem zj_icmp_lt (C : zO E cc nL own R cy l D) {x y : Int32} {off : Int} (tgt : Nat) (d : decode cc pc = .ok (.if_icmp .lt off, 3)) (ht : (pc : Int) + off = (tgt : Int)) (kt : x < y → zJ E nL k n ws tgt L st) (kf : ¬ (x < y) → zJ E nL k n ws (pc + 3) L st) : zJ E nL k n ws pc L (.int y :: .int x :: st) := fun H locs ls hP hD hS hl => lv_icmp_lt C.xx C.bb d ht (fun h => kt (by first | exact h | simpa using h) H locs ls hP hD hS hl) (fun h => kf (by first | exact h | simpa using h) H locs ls hP hD hS hl)
theorem zj_if_ge (C : zO E cc nL own R cy l D) {x : Int32} {off : Int} (tgt : Nat) (d : decode cc pc = .ok (.ifCond .ge off, 3)) (ht : (pc : Int) + off = (tgt : Int)) (kt : 0 ≤ x → zJ E nL k n ws tgt L st) (kf : ¬ (0 ≤ x) → zJ E nL k n ws (pc + 3) L st) : zJ E nL k n ws pc L (.int x :: st) := fun H locs ls hP hD hS hl => lv_if_ge C.xx C.bb d ht (fun h => kt (by first | exact h | simpa using h) H locs ls hP hD hS hl) (fun h => kf (by first | exact h | simpa using h) H locs ls hP hD hS hl)
theorem zj_icmp_ge (C : zO E cc nL own R cy l D) {x y : Int32} {off : Int} (tgt : Nat) (d : decode cc pc = .ok (.if_icmp .ge off, 3)) (ht : (pc : Int) + off = (tgt : Int)) (kt : y ≤ x → zJ E nL k n ws tgt L st) (kf : ¬ (y ≤ x) → zJ E nL k n ws (pc + 3) L st) : zJ E nL k n ws pc L (.int y :: .int x :: st) := fun H locs ls hP hD hS hl => lv_icmp_ge C.xx C.bb d ht (fun h => kt (by first | exact h | simpa using h) H locs ls hP hD hS hl) (fun h => kf (by first | exact h | simpa using h) H locs ls hP hD hS hl)
theorem zj_if_gt (C : zO E cc nL own R cy l D) {x : Int32} {off : Int} (tgt : Nat) (d : decode cc pc = .ok (.ifCond .gt off, 3)) (ht : (pc : Int) + off = (tgt : Int)) (kt : 0 < x → zJ E nL k n ws tgt L st) (kf : ¬ (0 < x) → zJ E nL k n ws (pc + 3) L st) : zJ E nL k n ws pc L (.int x :: st) := fun H locs ls hP hD hS hl => lv_if_gt C.xx C.bb d ht (fun h => kt (by first | exact h | simpa using h) H locs ls hP hD hS hl) (fun h => kf (by first | exact h | simpa using h) H locs ls hP hD hS hl)
theorem zj_icmp_gt (C : zO E cc nL own R cy l D) {x y : Int32} {off : Int} (tgt : Nat) (d : decode cc pc = .ok (.if_icmp .gt off, 3)) (ht : (pc : Int) + off = (tgt : Int)) (kt : y < x → zJ E nL k n ws tgt L st) (kf : ¬ (y < x) → zJ E nL k n ws (pc + 3) L st) : zJ E nL k n ws pc L (.int y :: .int x :: st) := fun H locs ls hP hD hS hl => lv_icmp_gt C.xx C.bb d ht (fun h => kt (by first | exact h | simpa using h) H locs ls hP hD hS hl) (fun h => kf (by first | exact h | simpa using h) H locs ls hP hD hS hl)
theorem zj_if_le (C : zO E cc nL own R cy l D) {x : Int32} {off : Int} (tgt : Nat) (d : decode cc pc = .ok (.ifCond .le off, 3)) (ht : (pc : Int) + off = (tgt : Int)) (kt : x ≤ 0 → zJ E nL k n ws tgt L st) (kf : ¬ (x ≤ 0) → zJ E nL k n ws (pc + 3) L st) : zJ E nL k n ws pc L (.int x :: st) := fun H locs ls hP hD hS hl => lv_if_le C.xx C.bb d ht (fun h => kt (by first | exact h | simpa using h) H locs ls hP hD hS hl) (fun h => kf (by first | exact h | simpa using h) H locs ls hP hD hS hl)
theorem zj_icmp_le (C : zO E cc nL own R cy l D) {x y : Int32} {off : Int} (tgt : Nat) (d : decode cc pc = .ok (.if_icmp .le off, 3)) (ht : (pc : Int) + off = (tgt : Int)) (kt : x ≤ y → zJ E nL k n ws tgt L st) (kf : ¬ (x ≤ y) → zJ E nL k n ws (pc + 3) L st) : zJ E nL k n ws pc L (.int y :: .int x :: st) := fun H locs ls hP hD hS hl => lv_icmp_le C.xx C.bb d ht (fun h => kt (by first | exact h | simpa using h) H locs ls hP hD hS hl) (fun h => kf (by first | exact h | simpa using h) H locs ls hP hD hS hl)
theorem zg_ge (x y : Int64) : (0 ≤ lg_cmp x y) ↔ y ≤ x := by rw [← Int32.not_lt, lg_cmp_lt, Int64.not_lt]
theorem zg_le (x y : Int64) : (lg_cmp x y ≤ 0) ↔ x ≤ y := by rw [← Int32.not_lt, lg_cmp_gt, Int64.not_lt]
theorem zg_ne (x y : Int64) : (¬ lg_cmp x y = 0) ↔ ¬ x = y := not_congr (lg_cmp_eq x y)
theorem zj_lcmp_eq (C : zO E cc nL own R cy l D) {x y : Int64} {off : Int} (tgt : Nat) (d0 : decode cc pc = .ok (.lcmp, 1)) (d : decode cc (pc + 1) = .ok (.ifCond .eq off, 3)) (ht : ((pc + 1 : Nat) : Int) + off = (tgt : Int)) (kt : x = y → zJ E nL k n ws tgt L st) (kf : ¬ (x = y) → zJ E nL k n ws (pc + 1 + 3) L st) : zJ E nL k n ws pc L (.long y :: .long x :: st) := fun H locs ls hP hD hS hl => W.lcmp C.xx C.bb d0 ((zj_if_eq C tgt d ht (fun h => kt ((lg_cmp_eq x y).mp h)) (fun h => kf (fun q => h ((lg_cmp_eq x y).mpr q)))) H locs ls hP hD hS hl)
theorem zj_lcmp_ne (C : zO E cc nL own R cy l D) {x y : Int64} {off : Int} (tgt : Nat) (d0 : decode cc pc = .ok (.lcmp, 1)) (d : decode cc (pc + 1) = .ok (.ifCond .ne off, 3)) (ht : ((pc + 1 : Nat) : Int) + off = (tgt : Int)) (kt : ¬ x = y → zJ E nL k n ws tgt L st) (kf : ¬ (¬ x = y) → zJ E nL k n ws (pc + 1 + 3) L st) : zJ E nL k n ws pc L (.long y :: .long x :: st) := fun H locs ls hP hD hS hl => W.lcmp C.xx C.bb d0 ((zj_if_ne C tgt d ht (fun h => kt ((zg_ne x y).mp h)) (fun h => kf (fun q => h ((zg_ne x y).mpr q)))) H locs ls hP hD hS hl)
theorem zj_lcmp_lt (C : zO E cc nL own R cy l D) {x y : Int64} {off : Int} (tgt : Nat) (d0 : decode cc pc = .ok (.lcmp, 1)) (d : decode cc (pc + 1) = .ok (.ifCond .lt off, 3)) (ht : ((pc + 1 : Nat) : Int) + off = (tgt : Int)) (kt : x < y → zJ E nL k n ws tgt L st) (kf : ¬ (x < y) → zJ E nL k n ws (pc + 1 + 3) L st) : zJ E nL k n ws pc L (.long y :: .long x :: st) := fun H locs ls hP hD hS hl => W.lcmp C.xx C.bb d0 ((zj_if_lt C tgt d ht (fun h => kt ((lg_cmp_lt x y).mp h)) (fun h => kf (fun q => h ((lg_cmp_lt x y).mpr q)))) H locs ls hP hD hS hl)
theorem zj_lcmp_ge (C : zO E cc nL own R cy l D) {x y : Int64} {off : Int} (tgt : Nat) (d0 : decode cc pc = .ok (.lcmp, 1)) (d : decode cc (pc + 1) = .ok (.ifCond .ge off, 3)) (ht : ((pc + 1 : Nat) : Int) + off = (tgt : Int)) (kt : y ≤ x → zJ E nL k n ws tgt L st) (kf : ¬ (y ≤ x) → zJ E nL k n ws (pc + 1 + 3) L st) : zJ E nL k n ws pc L (.long y :: .long x :: st) := fun H locs ls hP hD hS hl => W.lcmp C.xx C.bb d0 ((zj_if_ge C tgt d ht (fun h => kt ((zg_ge x y).mp h)) (fun h => kf (fun q => h ((zg_ge x y).mpr q)))) H locs ls hP hD hS hl)
theorem zj_lcmp_gt (C : zO E cc nL own R cy l D) {x y : Int64} {off : Int} (tgt : Nat) (d0 : decode cc pc = .ok (.lcmp, 1)) (d : decode cc (pc + 1) = .ok (.ifCond .gt off, 3)) (ht : ((pc + 1 : Nat) : Int) + off = (tgt : Int)) (kt : y < x → zJ E nL k n ws tgt L st) (kf : ¬ (y < x) → zJ E nL k n ws (pc + 1 + 3) L st) : zJ E nL k n ws pc L (.long y :: .long x :: st) := fun H locs ls hP hD hS hl => W.lcmp C.xx C.bb d0 ((zj_if_gt C tgt d ht (fun h => kt ((lg_cmp_gt x y).mp h)) (fun h => kf (fun q => h ((lg_cmp_gt x y).mpr q)))) H locs ls hP hD hS hl)
theorem zj_lcmp_le (C : zO E cc nL own R cy l D) {x y : Int64} {off : Int} (tgt : Nat) (d0 : decode cc pc = .ok (.lcmp, 1)) (d : decode cc (pc + 1) = .ok (.ifCond .le off, 3)) (ht : ((pc + 1 : Nat) : Int) + off = (tgt : Int)) (kt : x ≤ y → zJ E nL k n ws tgt L st) (kf : ¬ (x ≤ y) → zJ E nL k n ws (pc + 1 + 3) L st) : zJ E nL k n ws pc L (.long y :: .long x :: st) := fun H locs ls hP hD hS hl => W.lcmp C.xx C.bb d0 ((zj_if_le C tgt d ht (fun h => kt ((zg_le x y).mp h)) (fun h => kf (fun q => h ((zg_le x y).mpr q)))) H locs ls hP hD hS hl)
theorem zj_goto (C : zO E cc nL own R cy l D) {off : Int} (tgt : Nat) (d : decode cc pc = .ok (.goto off, 3)) (ht : (pc : Int) + off = (tgt : Int)) (kk : zJ E nL k n ws tgt L st) : zJ E nL k n ws pc L st := fun H locs ls hP hD hS hl => lv_goto C.xx C.bb d ht (kk H locs ls hP hD hS hl)
theorem zj_ldc (C : zO E cc nL own R cy l D) {index : Nat} {v : Int32} (d : decode cc pc = .ok (.ldc index, 2)) (hc : Jvm.Cond.constant own index v ∈ zG) (kk : zJ E nL k n ws (pc + 2) L (.int v :: st)) : zJ E nL k n ws pc L st := fun H locs ls hP hD hS hl => lv_ldc C.xx C.bb C.wn (C.ts _ hc) d (kk H locs ls hP hD hS hl)
theorem zj_ldc2 (C : zO E cc nL own R cy l D) {index : Nat} {v : Int64} (d : decode cc pc = .ok (.ldc2_w index, 3)) (hc : Jvm.Cond.constantLong own index v ∈ zG) (kk : zJ E nL k n ws (pc + 3) L (.long v :: st)) : zJ E nL k n ws pc L st := fun H locs ls hP hD hS hl => lv_ldc2 C.xx C.bb C.wn (C.ts _ hc) d (kk H locs ls hP hD hS hl)
theorem zj_tout (C : zO E cc nL own R cy l D) {dflt lo hi : Int} {offs : Array Int} {len : Nat} {x : Int32} (tgt : Nat) (d : decode cc pc = .ok (.tableswitch dflt lo hi offs, len)) (h : x.toInt < lo ∨ hi < x.toInt) (ht : (pc : Int) + dflt = (tgt : Int)) (kk : zJ E nL k n ws tgt L st) : zJ E nL k n ws pc L (.int x :: st) := fun H locs ls hP hD hS hl => lv_tableOut C.xx C.bb d h ht (kk H locs ls hP hD hS hl)
theorem zj_tin (C : zO E cc nL own R cy l D) {dflt lo hi : Int} {offs : Array Int} {len : Nat} {x : Int32} {off : Int} (tgt : Nat) (d : decode cc pc = .ok (.tableswitch dflt lo hi offs, len)) (h1 : ¬ x.toInt < lo) (h2 : ¬ hi < x.toInt) (ho : offs[(x.toInt - lo).toNat]? = some off) (ht : (pc : Int) + off = (tgt : Int)) (kk : zJ E nL k n ws tgt L st) : zJ E nL k n ws pc L (.int x :: st) := fun H locs ls hP hD hS hl => lv_tableIn C.xx C.bb d h1 h2 ho ht (kk H locs ls hP hD hS hl)
theorem zj_look (C : zO E cc nL own R cy l D) {dflt : Int} {ps : Array (Int × Int)} {len : Nat} {x : Int32} {off : Int} (tgt : Nat) (d : decode cc pc = .ok (.lookupswitch dflt ps, len)) (hp : (ps.toList.zip (ps.toList.drop 1)).all (fun (a, next) => a.1 < next.1) = true) (ho : Op.lookupswitch.offset ps.toList dflt x.toInt = off) (ht : (pc : Int) + off = (tgt : Int)) (kk : zJ E nL k n ws tgt L st) : zJ E nL k n ws pc L (.int x :: st) := fun H locs ls hP hD hS hl => lv_lookup C.xx C.bb d hp ho ht (kk H locs ls hP hD hS hl)
theorem zj_get (C : zO E cc nL own R cy l D) {index : Nat} (q0 ci k0 : Nat) {Cn : String} {T : u_T} {N a : Nat} {fs : List Value} {v : Value} (hin : ∀ w ∈ u_ws Cn T N, w ∈ zG) (hw : ws[q0]? = some (a, .inr (ci, fs))) (hc : vwCl[ci]? = some (Cn, T, N)) (hk : k0 < N) (hlink : Cond.fieldLink own index (T k0).1 (T k0).2.1 (T k0).2.2.1 ∈ zG) (hv : fs[k0]? = some v) (d : decode cc pc = .ok (.getfield index, 3)) (kk : zJ E nL k n ws (pc + 3) L (v :: st)) : zJ E nL k n ws pc L (.ref a :: st) := fun H locs ls hP hD hS hl => va_get C.xx C.bb C.ts hin C.wn C.K hP q0 hw hc k0 hk (C.ts _ hlink) (fun _ h => h) hv d (kk H locs ls hP hD hS hl)
theorem zj_put (C : zO E cc nL own R cy l D) {index : Nat} (q0 ci k0 : Nat) {Cn : String} {T : u_T} {N a : Nat} {fs : List Value} {v : Value} {ws' : va_W} (ty0 : Nat → FieldType) (hty : ∀ k, k < N → parseFieldDescriptor (T k).2.2.1 = some (ty0 k)) (hnm : ∀ a, a < N → ∀ b, b < N → a ≠ b → (T a).2.1 ≠ (T b).2.1) (hin : ∀ w ∈ u_ws Cn T N, w ∈ zG) (hw : ws[q0]? = some (a, .inr (ci, fs))) (hc : vwCl[ci]? = some (Cn, T, N)) (hk : k0 < N) (hlink : Cond.fieldLink own index (T k0).1 (T k0).2.1 (T k0).2.2.1 ∈ zG) (hfin : (T k0).2.2.2 = false) (hn : narrow (ty0 k0) v = v) (hfit : fits (ty0 k0) v = true) (hl0 : k0 < fs.length) (d : decode cc pc = .ok (.putfield index, 3)) (hws : ws.set q0 (a, .inr (ci, fs.set k0 v)) = ws') (kk : zJ E nL k n ws' (pc + 3) L st) : zJ E nL k n ws pc L (v :: .ref a :: st) := fun H locs ls hP hD hS hl => va_put C.xx C.bb C.ts hin ty0 hty hnm C.wn C.K hP hD hS q0 hw hc k0 hk (C.ts _ hlink) (fun _ h => h) hfin (hty k0 hk) hn hfit hl0 d (fun H1 locs1 hP hD hS => kk H1 locs1 ls (hws ▸ hP) (hws ▸ hD) hS hl)
theorem zj_iald (C : zO E cc nL own R cy l D) (q0 : Nat) {a N : Nat} {f : Nat → Int32} {i : Int32} (j : Nat) (hj : i.toNatClampNeg = j) (hin : vp_in i N) (hw : ws[q0]? = some (a, .inl (cy 1, N, .inl f))) (d : decode cc pc = .ok (.iaload, 1)) (kk : zJ E nL k n ws (pc + 1) L (.int (f j) :: st)) : zJ E nL k n ws pc L (.int i :: .ref a :: st) := fun H locs ls hP hD hS hl => va_iald C.xx C.bb C.K hP q0 1 hw rfl hin d (by rw [hj]; exact kk H locs ls hP hD hS hl)
theorem zj_lald (C : zO E cc nL own R cy l D) (q0 : Nat) {a N : Nat} {f : Nat → Int64} {i : Int32} (j : Nat) (hj : i.toNatClampNeg = j) (hin : vp_in i N) (hw : ws[q0]? = some (a, .inl (cy 2, N, .inr (.inl f)))) (d : decode cc pc = .ok (.laload, 1)) (kk : zJ E nL k n ws (pc + 1) L (.long (f j) :: st)) : zJ E nL k n ws pc L (.int i :: .ref a :: st) := fun H locs ls hP hD hS hl => va_lald C.xx C.bb C.K hP q0 2 hw rfl hin d (by rw [hj]; exact kk H locs ls hP hD hS hl)
theorem zj_cald (C : zO E cc nL own R cy l D) (q0 : Nat) {a N : Nat} {f : Nat → Int32} {i : Int32} (j : Nat) (hj : i.toNatClampNeg = j) (hin : vp_in i N) (hw : ws[q0]? = some (a, .inl (cy 0, N, .inl f))) (d : decode cc pc = .ok (.caload, 1)) (kk : zJ E nL k n ws (pc + 1) L (.int (f j) :: st)) : zJ E nL k n ws pc L (.int i :: .ref a :: st) := fun H locs ls hP hD hS hl => va_cald C.xx C.bb C.K hP q0 0 hw rfl hin d (by rw [hj]; exact kk H locs ls hP hD hS hl)
theorem zj_zald (C : zO E cc nL own R cy l D) (q0 : Nat) {a N : Nat} {f : Nat → Int32} {i : Int32} (j : Nat) (hj : i.toNatClampNeg = j) (hin : vp_in i N) (hw : ws[q0]? = some (a, .inl (cy 3, N, .inl f))) (d : decode cc pc = .ok (.baload, 1)) (kk : zJ E nL k n ws (pc + 1) L (.int (f j) :: st)) : zJ E nL k n ws pc L (.int i :: .ref a :: st) := fun H locs ls hP hD hS hl => va_zald C.xx C.bb C.K hP q0 3 hw rfl hin d (by rw [hj]; exact kk H locs ls hP hD hS hl)
theorem zj_aald (C : zO E cc nL own R cy l D) (q0 t0 : Nat) {Cn : String} {a N : Nat} {cA : ClassId} {f : Nat → Option Nat} {i : Int32} {b : Nat} (j : Nat) (hj : i.toNatClampNeg = j) (hin : vp_in i N) (hw : ws[q0]? = some (a, .inl (cA, N, .inr (.inr (.inr (.inr f)))))) (ht : (zT cy)[t0]? = some (cA, .object Cn)) (hb : f j = some b) (d : decode cc pc = .ok (.aaload, 1)) (kk : zJ E nL k n ws (pc + 1) L (.ref b :: st)) : zJ E nL k n ws pc L (.int i :: .ref a :: st) := fun H locs ls hP hD hS hl => va_aldq C.xx C.bb C.K hP q0 t0 hw ht hin d (by rw [hj, hb]; exact kk H locs ls hP hD hS hl)
theorem zj_iast (C : zO E cc nL own R cy l D) (q0 : Nat) {a N : Nat} {f : Nat → Int32} {i : Int32} {x : Int32} {ws' : va_W} (j : Nat) (hj : i.toNatClampNeg = j) (hin : vp_in i N) (hw : ws[q0]? = some (a, .inl (cy 1, N, .inl f))) (d : decode cc pc = .ok (.iastore, 1)) (hws : ws.set q0 (a, .inl (cy 1, N, .inl (upd f j x))) = ws') (kk : zJ E nL k n ws' (pc + 1) L st) : zJ E nL k n ws pc L (.int x :: .int i :: .ref a :: st) := fun H locs ls hP hD hS hl => va_iast C.xx C.bb C.K hP hD hS q0 1 hw rfl hin d (fun H1 locs1 hP hD hS => kk H1 locs1 ls (by rw [hj, hws] at hP; exact hP) (by rw [hj, hws] at hD; exact hD) hS hl)
theorem zj_last (C : zO E cc nL own R cy l D) (q0 : Nat) {a N : Nat} {f : Nat → Int64} {i : Int32} {x : Int64} {ws' : va_W} (j : Nat) (hj : i.toNatClampNeg = j) (hin : vp_in i N) (hw : ws[q0]? = some (a, .inl (cy 2, N, .inr (.inl f)))) (d : decode cc pc = .ok (.lastore, 1)) (hws : ws.set q0 (a, .inl (cy 2, N, .inr (.inl (vp_updL f j x)))) = ws') (kk : zJ E nL k n ws' (pc + 1) L st) : zJ E nL k n ws pc L (.long x :: .int i :: .ref a :: st) := fun H locs ls hP hD hS hl => va_last C.xx C.bb C.K hP hD hS q0 2 hw rfl hin d (fun H1 locs1 hP hD hS => kk H1 locs1 ls (by rw [hj, hws] at hP; exact hP) (by rw [hj, hws] at hD; exact hD) hS hl)
end ZR
/-! contracts: a method that makes nothing, from its arguments and a world to an answer and a world -/
def zW (y : MethodName) (cc : ByteArray) (nL : Nat) (ret : Option FieldType) : List Cond := .code y cc nL ret :: zG
def zC (l : Launch) (y : MethodName) (wd : List Cond) (rm : Room) (D : va_G) (cy : Nat → ClassId) (av : List Value) (ws : va_W) (r : Option Value) (ws' : va_W) : Prop :=
  ∀ sz : Nat, Met l y wd rm (va_Pc av (fun U => U.heap.size = sz ∧ va_P D vwCl ws U.heap ∧ va_K D vwCl (zT cy) U ∧ va_D (fun _ => True) ws ∧ zX (va_A ws sz) U U.heap)) (fun _ st oc t => (oc = .returned r ∧ va_P D vwCl ws' t.heap ∧ va_D (va_A ws sz) ws') ∧ va_F (va_A ws sz) st t) 0 0 (va_A ws sz)
def zRop : Option Value → Instr
  | none => .return_
  | some (.int _) => .ireturn
  | some (.long _) => .lreturn
  | _ => .areturn
/-- a method's end: with its answer on the stack, and its world -/
def zR (E : zE) (cc : ByteArray) (nL : Nat) (r : Option Value) (ws' : va_W) : Prop := ∀ (pc : Nat) (L : List (Nat × Value)), decode cc pc = .ok (zRop r, 1) → zJ E nL 0 0 ws' pc L r.toList
def zOk (ret : Option FieldType) (r : Option Value) : Prop := (ret = none ∧ r = none) ∨ (∃ v, ret = some .int ∧ r = some (.int v)) ∨ (∃ v, ret = some .long ∧ r = some (.long v)) ∨ (∃ v, ret = some .boolean ∧ r = some (.int v) ∧ narrow .boolean (.int v) = .int v)
theorem zOk_v : zOk none none := Or.inl ⟨rfl, rfl⟩
theorem zOk_i (v : Int32) : zOk (some .int) (some (.int v)) := Or.inr (Or.inl ⟨v, rfl, rfl⟩)
theorem zOk_l (v : Int64) : zOk (some .long) (some (.long v)) := Or.inr (Or.inr (Or.inl ⟨v, rfl, rfl⟩))
theorem zOk_z {v : Int32} (h : v = 0 ∨ v = 1) : zOk (some .boolean) (some (.int v)) := Or.inr (Or.inr (Or.inr ⟨v, rfl, rfl, by rcases h with rfl | rfl <;> rfl⟩))
theorem zC_of {l : Launch} {y : MethodName} {cc : ByteArray} {nL : Nat} {ret : Option FieldType} {rm : Room} {D : va_G} {cy : Nat → ClassId} {av : List Value} {ws ws' : va_W} {r : Option Value}
    (hy : plainName y.cls = true) (hlen : (lg_sl av).length ≤ nL) (hok : zOk ret r)
    (body : ∀ E : zE, zO E cc nL y.cls rm cy l D → zR E cc nL r ws' → zJ E nL 0 0 ws 0 (lv_args 0 av) []) : zC l y (zW y cc nL ret) rm D cy av ws r ws' := by
  intro sz
  refine Met.ofW (cc := cc) (maxL := nL) (ret := ret) hy rfl ?_
  intro p e s m args below meth c s₁ B hml hv
  obtain ⟨rfl, hsz, hP, hK, hD0, hX0⟩ := hv
  subst hsz
  have hx := B.exec
  have hb := B.bytes
  have hr := B.returns
  have hlocks := B.notSynchronized
  have hts := atoms_spec (ws := zW y cc nL ret) B.pre
  have hown : s.vm.findClass y.cls = some m.cls := findClass_of_methodNamed B.named
  have hD := hD0.self (sz := s.heap.size)
  generalize hAe : va_A ws s.heap.size = A at hD hX0 ⊢
  have hA : ∀ q : Nat, s.heap.size ≤ q → A q := fun q h => by rw [← hAe]; exact Or.inr h
  have hS : va_S A s.heap s.heap [] := va_S.rf
  have hl := lv_entry av (n := nL) hlen
  rw [lg_entry_eq]
  refine body ((p, l, e, _, s, m, av.toArray), (below, meth, c, _, A, D)) ⟨hx, hb, hml, hown, fun w hw => hts w (List.mem_cons_of_mem _ hw), hK, hA, rfl, rfl, rfl, hX0⟩ ?_ s.heap [] _ hP hD hS hl
  intro pc L hd H locs ls hP hD hS hl
  have hq : ∀ t : State, t.heap = H → ((Outcome.returned r = .returned r ∧ va_P D vwCl ws' t.heap ∧ va_D A ws') ∧ va_F A s t) := fun t ht => ⟨⟨rfl, by rw [ht]; exact hP, hD⟩, hS.F ht⟩
  rcases hok with ⟨h1, h2⟩ | ⟨v, h1, h2⟩ | ⟨v, h1, h2⟩ | ⟨v, h1, h2, h3⟩
  · subst h1; subst h2
    exact W.vret (Qc := fun _ st oc t => (oc = .returned none ∧ va_P D vwCl ws' t.heap ∧ va_D A ws') ∧ va_F A st t) (free := A) hx hb hr (fun t ht hW => hq t ht) hS.2.2 hd
  · subst h1; subst h2
    exact W.iret (v := v) (Qc := fun _ st oc t => (oc = .returned (some (.int v)) ∧ va_P D vwCl ws' t.heap ∧ va_D A ws') ∧ va_F A st t) (free := A) hx hb hr (fun t ht hW => hq t ht) hS.2.2 hd
  · subst h1; subst h2
    exact W.lret (v := v) (Qc := fun _ st oc t => (oc = .returned (some (.long v)) ∧ va_P D vwCl ws' t.heap ∧ va_D A ws') ∧ va_F A st t) (free := A) hx hb hr (fun t ht hW => hq t ht) hS.2.2 hd
  · subst h1; subst h2
    exact W.zret (v := v) (Qc := fun _ st oc t => (oc = .returned (some (.int v)) ∧ va_P D vwCl ws' t.heap ∧ va_D A ws') ∧ va_F A st t) (free := A) hx hb hr h3 (fun t ht hW => hq t ht) hS.2.2 hd
/-! calls: the callee's cells are told by their places; they are changed in place -/
def zS : va_W → List Nat → va_W → va_W
  | ws, i :: is, c :: cs => zS (ws.set i c) is cs
  | ws, _, _ => ws
theorem zS_at : ∀ (is : List Nat) (cs : va_W) (ws : va_W) (k : Nat) (q : Nat × va_E), is.length = cs.length → (zS ws is cs)[k]? = some q → (k ∉ is ∧ ws[k]? = some q) ∨ ∃ j : Nat, is[j]? = some k ∧ cs[j]? = some q
  | [], cs, ws, k, q, h, e => by
    cases cs with
    | nil => exact Or.inl ⟨List.not_mem_nil, e⟩
    | cons c cs => simp at h
  | i :: is, [], ws, k, q, h, e => by simp at h
  | i :: is, c :: cs, ws, k, q, h, e => by
    rcases zS_at is cs (ws.set i c) k q (by simpa using h) e with ⟨h1, h2⟩ | ⟨j, h1, h2⟩
    · by_cases hk : i = k
      · subst hk
        rw [List.getElem?_set] at h2
        by_cases hl : i < ws.length
        · rw [if_pos rfl, if_pos hl] at h2
          exact Or.inr ⟨0, rfl, h2⟩
        · rw [if_pos rfl, if_neg hl] at h2
          cases h2
      · rw [List.getElem?_set_ne hk] at h2
        exact Or.inl ⟨fun m => by rcases List.mem_cons.mp m with m | m; exact hk m.symm; exact h1 m, h2⟩
    · exact Or.inr ⟨j + 1, h1, h2⟩
theorem zS_join {A0 : Nat → Prop} {D : va_G} {cl : List vw_C} {ws wc w1 : va_W} {H H1 : Heap} (hP : va_P D cl ws H) (hD : va_D A0 ws) (isC : List Nat) (hC : isC.map (fun i => ws[i]?) = wc.map some) (hlen : wc.length = w1.length)
    (hk : ∀ q : Nat, q < H.size → ¬ va_A wc H.size q → H1[q]? = H[q]?) (hF : ∀ q, va_A wc H.size q → A0 q) (hP1 : va_P D cl w1 H1) (hD1 : va_D (va_A wc H.size) w1) : va_P D cl (zS ws isC w1) H1 ∧ va_D A0 (zS ws isC w1) := by
  have hlc : isC.length = w1.length := by rw [← hlen]; have := congrArg List.length hC; simpa using this
  have at' : ∀ (k : Nat) (q : Nat × va_E), wc[k]? = some q → ∃ i, isC[k]? = some i ∧ ws[i]? = some q := by
    intro k q hq
    have h1 : (isC.map (fun i => ws[i]?))[k]? = some (some q) := by rw [hC, List.getElem?_map, hq]; rfl
    rw [List.getElem?_map] at h1
    cases hi : isC[k]? with
    | none => rw [hi] at h1; cases h1
    | some i => rw [hi] at h1; exact ⟨i, rfl, Option.some.inj h1⟩
  have apart : ∀ (k : Nat) (q : Nat × va_E), k ∉ isC → ws[k]? = some q → q.1 < H.size ∧ ¬ va_A wc H.size q.1 := by
    intro k q hn hq
    have hl := (hP k q hq).lt
    refine ⟨hl, fun h => ?_⟩
    rcases h with ⟨k2, e, h⟩ | h
    · obtain ⟨j, h3, h4⟩ := at' k2 (q.1, e) h
      have hij := hD.1 k j q (q.1, e) hq h4 rfl
      subst hij
      exact hn (List.mem_of_getElem? h3)
    · omega
  refine ⟨fun k q hq => ?_, fun i j x y hx hy hxy => ?_, fun k q hq => ?_⟩
  · rcases zS_at isC w1 ws k q hlc hq with ⟨h1, h2⟩ | ⟨j, h1, h2⟩
    · obtain ⟨g1, g2⟩ := apart k q h1 h2
      exact (hP k q h2).kept (hk q.1 g1 g2)
    · exact hP1 j q h2
  · rcases zS_at isC w1 ws i x hlc hx with ⟨h1, h2⟩ | ⟨a, h1, h2⟩ <;> rcases zS_at isC w1 ws j y hlc hy with ⟨g1, g2⟩ | ⟨b, g1, g2⟩
    · exact hD.1 i j x y h2 g2 hxy
    · exact absurd (hxy ▸ hD1.2 b y g2) (apart i x h1 h2).2
    · exact absurd (hxy ▸ hD1.2 a x h2) (apart j y g1 g2).2
    · have := hD1.1 a b x y h2 g2 hxy
      subst this
      rw [h1] at g1
      exact Option.some.inj g1
  · rcases zS_at isC w1 ws k q hlc hq with ⟨h1, h2⟩ | ⟨j, h1, h2⟩
    · exact hD.2 k q h2
    · exact hF _ (hD1.2 j q h2)
theorem zg_in {y : MethodName} {cc : ByteArray} {nL : Nat} {ret : Option FieldType} (h : Cond.code y cc nL ret ∈ zG) : GoodIn zG (zW y cc nL ret) := fun w hw => by
  rcases List.mem_cons.mp hw with rfl | hw
  · exact ⟨h, good_of_word (List.mem_filter.mp h).2⟩
  · exact ⟨hw, good_of_word (List.mem_filter.mp hw).2⟩
theorem zg_V {own : String} {idx : Nat} {Cn : String} {y : MethodName} {cc : ByteArray} {nL : Nat} {ret : Option FieldType} (h : Cond.code y cc nL ret ∈ zG) (h1 : Cond.methodLink own idx y ∈ zG) (h2 : Cond.instanceMethod y ∈ zG) (h3 : Cond.selects Cn y y ∈ zG) (h4 : Cond.initialized Cn ∈ zG) : GoodIn zG (wsV own idx Cn y (zW y cc nL ret)) := fun w hw => by
  rcases List.mem_append.mp hw with hw | hw
  · have : w ∈ zG := by
      simp only [List.mem_cons, List.not_mem_nil, or_false] at hw
      rcases hw with rfl | rfl | rfl | rfl <;> assumption
    exact ⟨this, good_of_word (List.mem_filter.mp this).2⟩
  · exact zg_in h w hw
theorem zc_call {p : Program} {l : Launch} {e : Env} {R : Room} {s : State} {m : MethodId} {args : Array Value} {below : List Frame} {meth : Method} {c : Code} {H : Heap} {locs : List Loc} {k n : Nat} {Q : State → Prop} {pc : Nat} {ls : Array Slot} {rest st0 : List Value} {A0 A1 : Nat → Prop} {H0 : Heap} {free : Addr → Prop} {r : Option Value} {B : State → Prop}
    (hr : va_Run p l e R s m args below meth c H locs k n 0 0 (F0 m pc ls st0) rest (fun st oc t => (oc = .returned r ∧ B t) ∧ va_F A1 st t) free) (hS : va_S A0 H0 H locs) (hA : ∀ q, q < H.size → A1 q → A0 q) (hf : ∀ q, free q → A0 q)
    (kk : ∀ (t : State) (H1 : Heap) (locs1 : List Loc), t.heap = H1 → B t → H.size ≤ H1.size → (∀ q : Nat, q < H.size → ¬ A1 q → H1[q]? = H[q]?) → va_S A0 H0 H1 locs1 → W p l e R s m args below meth c H1 locs1 k n Q (F0 m (pc + 3) ls (r.toList ++ rest))) : W p l e R s m args below meth c H locs k n Q (F0 m pc ls st0) := by
  intro T hT X
  obtain ⟨v, st₀, t, T', L, h0, X', hL, e1, e2, ⟨⟨hv, hb⟩, hz, hk⟩, st⟩ := hr T hT X
  cases hv
  rw [h0] at hz hk
  obtain ⟨t2, a1, b1⟩ := kk t T'.heap (locs ++ L) e1.symm hb (by rw [e1]; exact hz) (fun q h1 h2 => by rw [e1]; exact hk q h1 h2)
    ⟨Nat.le_trans hS.1 (by rw [e1]; exact hz), fun q h1 h2 => by rw [e1, hk q (Nat.lt_of_lt_of_le h1 hS.1) (fun z => h2 (hA q (Nat.lt_of_lt_of_le h1 hS.1) z))]; exact hS.2.1 q h1 h2, fun q hq => by
      rcases List.mem_append.mp hq with h | h
      · exact hS.2.2 q h
      · exact hf _ (hL q h)⟩ T' rfl X'
  exact ⟨t2, st t2 a1, b1⟩
/-- what a callee is given -/
theorem zc_pre {cy : Nat → ClassId} {D : va_G} {ws wc : va_W} {av : List Value} {s : State} {A : Nat → Prop} {H : Heap} {locs : List Loc} (hK : va_K D vwCl (zT cy) s) (hP : va_P D vwCl ws H) (hD : va_D A ws) (hS : va_S A s.heap H locs) (hX : zX A s s.heap) (hF : ∀ q, va_A wc H.size q → A q) (isC : List Nat) (hC : isC.map (fun i => ws[i]?) = wc.map some) (hnd : va_nd isC = true) : PreS s H (va_Pc av (fun U => U.heap.size = H.size ∧ va_P D vwCl wc U.heap ∧ va_K D vwCl (zT cy) U ∧ va_D (fun _ => True) wc ∧ zX (va_A wc H.size) U U.heap)) av := by
  have hPc : va_P D vwCl wc H := by
    intro k q hq
    have h1 : (isC.map (fun i => ws[i]?))[k]? = some (some q) := by rw [hC, List.getElem?_map, hq]; rfl
    rw [List.getElem?_map] at h1
    cases hi : isC[k]? with
    | none => rw [hi] at h1; cases h1
    | some i => rw [hi] at h1; exact hP i q (Option.some.inj h1)
  have hDc := (hD.sub isC hnd hC).weaken (B := fun _ => True) (fun _ _ _ _ => trivial)
  refine ⟨fun a U g mk q => ?_, fun U hU hW => ⟨rfl, by rw [hU], by rw [hU]; exact hPc, va_K.moved hW.alike hK, hDc, by rw [hU]; exact hX.warm hW (fun a h1 h2 => hS.2.1 a h1 h2) hF⟩⟩
  obtain ⟨q0, q1, qP, qK, qD, qX⟩ := q
  exact ⟨q0, q1, qP, va_K.moved (u := U) (U := U.calling g mk a) (Vm.Alike.refl U.vm) qK, qD, qX.call⟩
theorem zj_callV {l : Launch} {D : va_G} {cc : ByteArray} {own : String} {E : zE} {nL : Nat} {R : Room} {cy : Nat → ClassId} {ws : va_W} {pc : Nat} {L : List (Nat × Value)} {st : List Value} (C : zO E cc nL own R cy l D) {y : MethodName} {bytes : ByteArray} {maxL index n0 : Nat} {ret : Option FieldType} {rm : Room} {wc wc' ws' : va_W} {As : List Value} {r : Option Value} {st0 : List Value} {b N : Nat} {Cn : String} {T : u_T} {fs : List Value} (q0 ci : Nat) (isC : List Nat)
    (hM : zC l y (zW y bytes maxL ret) rm D cy (.ref b :: As) wc r wc') (hG : GoodIn zG (wsV own index Cn y (zW y bytes maxL ret))) (hd : y.cls = Cn ∧ y.cls ≠ "java/lang/invoke/MethodHandle" ∧ y.cls ≠ "java/lang/invoke/VarHandle" ∧ (parseMethodDescriptor y.desc).map (fun d => d.parameters.length) = some n0) (hrm : rm.cells = 0 ∧ rm.slots = 0) (hR : rm.frames + 1 ≤ R.frames ∧ 8 + (maxL + 11) + rm.locals ≤ R.locals)
    (hw : ws[q0]? = some (b, .inr (ci, fs))) (hc : vwCl[ci]? = some (Cn, T, N)) (hC : isC.map (fun i => ws[i]?) = wc.map some) (hnd : va_nd isC = true) (hlen : wc.length = wc'.length) (hn : As.length = n0) (hst : st0 = As.reverse ++ .ref b :: st) (hroom : (st.map fun v => v.category).sum ≤ 8)
    (d : decode cc pc = .ok (.invokevirtual index, 3)) (hws : zS ws isC wc' = ws') (kk : zJ E nL 0 0 ws' (pc + 3) L (r.toList ++ st)) : zJ E nL 0 0 ws pc L st0 := by
  intro H locs ls hP hD hS hl
  obtain rfl := C.lE
  obtain rfl := C.dD
  obtain rfl := C.rR
  subst hst
  have hF := va_free (wc := wc) hD hS C.A isC hC
  refine zc_call (va_runV ⟨C.xx, C.bb, C.ml, C.wn, C.ts⟩ (hM H.size)
    (cwV n0 C.ts hG rfl hrm.1 hrm.2 hd hR) ⟨(zc_pre C.K hP hD hS C.X hF isC hC hnd).1, va_recv C.K hP hc hw, (zc_pre C.K hP hD hS C.X hF isC hC hnd).2⟩ rfl hn hl.1 rfl (lv_room hroom) d ⟨Nat.zero_le _, Nat.zero_le _⟩) hS (fun q _ h => hF q h) hF (fun t H1 locs1 ht hB hz1 hk1 hS => ?_)
  obtain ⟨hP1, hD1⟩ := hB
  rw [ht] at hP1
  obtain ⟨hP2, hD2⟩ := zS_join hP hD isC hC hlen hk1 hF hP1 hD1
  exact kk H1 locs1 ls (hws ▸ hP2) (hws ▸ hD2) hS hl
theorem zj_callS {l : Launch} {D : va_G} {cc : ByteArray} {own : String} {E : zE} {nL : Nat} {R : Room} {cy : Nat → ClassId} {ws : va_W} {pc : Nat} {L : List (Nat × Value)} {st : List Value} (C : zO E cc nL own R cy l D) {y : MethodName} {bytes : ByteArray} {maxL index n0 : Nat} {ret : Option FieldType} {rm : Room} {wc wc' ws' : va_W} {As : List Value} {r : Option Value} {st0 : List Value}  (isC : List Nat)
    (hM : zC l y (zW y bytes maxL ret) rm D cy As wc r wc') (hcd : Cond.code y bytes maxL ret ∈ zG) (hml : Cond.methodLink own index y ∈ zG) (hsta : Cond.static y ∈ zG) (hini : Cond.initialized y.cls ∈ zG) (hd : y.cls ≠ "java/lang/invoke/MethodHandle" ∧ y.cls ≠ "java/lang/invoke/VarHandle" ∧ (parseMethodDescriptor y.desc).map (fun d => d.parameters.length) = some n0) (hrm : rm.cells = 0 ∧ rm.slots = 0) (hR : rm.frames + 1 ≤ R.frames ∧ 8 + (maxL + 11) + rm.locals ≤ R.locals)
     (hC : isC.map (fun i => ws[i]?) = wc.map some) (hnd : va_nd isC = true) (hlen : wc.length = wc'.length) (hn : As.length = n0) (hst : st0 = As.reverse ++ st) (hroom : (st.map fun v => v.category).sum ≤ 8)
    (d : decode cc pc = .ok (.invokestatic index, 3)) (hws : zS ws isC wc' = ws') (kk : zJ E nL 0 0 ws' (pc + 3) L (r.toList ++ st)) : zJ E nL 0 0 ws pc L st0 := by
  intro H locs ls hP hD hS hl
  obtain rfl := C.lE
  obtain rfl := C.dD
  obtain rfl := C.rR
  subst hst
  have hF := va_free (wc := wc) hD hS C.A isC hC
  refine zc_call (va_runS ⟨C.xx, C.bb, C.ml, C.wn, C.ts⟩ (hM H.size)
    ⟨callB_of n0 C.ts (zg_in hcd) rfl hrm.1 hrm.2 (C.ts _ hini) (C.ts _ hml) hd hR, C.ts _ hsta⟩ (zc_pre C.K hP hD hS C.X hF isC hC hnd) rfl hn hl.1 rfl (lv_room hroom) d ⟨Nat.zero_le _, Nat.zero_le _⟩) hS (fun q _ h => hF q h) hF (fun t H1 locs1 ht hB hz1 hk1 hS => ?_)
  obtain ⟨hP1, hD1⟩ := hB
  rw [ht] at hP1
  obtain ⟨hP2, hD2⟩ := zS_join hP hD isC hC hlen hk1 hF hP1 hD1
  exact kk H1 locs1 ls (hws ▸ hP2) (hws ▸ hD2) hS hl
theorem zj_callSN {l : Launch} {D : va_G} {cc : ByteArray} {own : String} {E : zE} {nL : Nat} {R : Room} {cy : Nat → ClassId} {ws : va_W} {pc : Nat} {L : List (Nat × Value)} {st : List Value} (C : zO E cc nL own R cy l D) {y : MethodName} {bytes : ByteArray} {maxL index n0 : Nat} {ret : Option FieldType} {rm : Room} {wc wc' ws' : va_W} {As : List Value} {r : Option Value} {st0 : List Value} {host : String} (isC : List Nat)
    (hM : zC l y (zW y bytes maxL ret) rm D cy As wc r wc') (hcd : Cond.code y bytes maxL ret ∈ zG) (hml : ∀ (A : Nat → Prop) (U : State) (H : Heap), zX A U H → va_Nw (.methodLinkNest own index y host) U) (hsta : Cond.static y ∈ zG) (hini : Cond.initialized y.cls ∈ zG) (hd : y.cls ≠ "java/lang/invoke/MethodHandle" ∧ y.cls ≠ "java/lang/invoke/VarHandle" ∧ (parseMethodDescriptor y.desc).map (fun d => d.parameters.length) = some n0) (hrm : rm.cells = 0 ∧ rm.slots = 0) (hR : rm.frames + 1 ≤ R.frames ∧ 8 + (maxL + 11) + rm.locals ≤ R.locals)
     (hC : isC.map (fun i => ws[i]?) = wc.map some) (hnd : va_nd isC = true) (hlen : wc.length = wc'.length) (hn : As.length = n0) (hst : st0 = As.reverse ++ st) (hroom : (st.map fun v => v.category).sum ≤ 8)
    (d : decode cc pc = .ok (.invokestatic index, 3)) (hws : zS ws isC wc' = ws') (kk : zJ E nL 0 0 ws' (pc + 3) L (r.toList ++ st)) : zJ E nL 0 0 ws pc L st0 := by
  intro H locs ls hP hD hS hl
  obtain rfl := C.lE
  obtain rfl := C.dD
  obtain rfl := C.rR
  subst hst
  have hF := va_free (wc := wc) hD hS C.A isC hC
  refine zc_call (va_runSN ⟨C.xx, C.bb, C.ml, C.wn, C.ts⟩ (hM H.size)
    ⟨va_cnB n0 C.ts (zg_in hcd) rfl hrm.1 hrm.2 (hml _ _ _ C.X) (C.ts _ hini) hd hR, C.ts _ hsta, trivial⟩ (zc_pre C.K hP hD hS C.X hF isC hC hnd) rfl hn hl.1 rfl (lv_room hroom) d ⟨Nat.zero_le _, Nat.zero_le _⟩) hS (fun q _ h => hF q h) hF (fun t H1 locs1 ht hB hz1 hk1 hS => ?_)
  obtain ⟨hP1, hD1⟩ := hB
  rw [ht] at hP1
  obtain ⟨hP2, hD2⟩ := zS_join hP hD isC hC hlen hk1 hF hP1 hD1
  exact kk H1 locs1 ls (hws ▸ hP2) (hws ▸ hD2) hS hl
end
