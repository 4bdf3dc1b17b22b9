section
-- ===== PART A: goes FIRST, ahead of the names: the tables' words, and 'selects' of the private methods out of them =====
/-- a private method of a class that the tables say can be made, by its rows of tables_1 -/
def lw_okq (q : MethodName × Nat) : Prop := (q.1.cls ≠ "java/lang/invoke/MethodHandle" ∧ q.1.cls ≠ "java/lang/invoke/VarHandle") ∧ Cond.instantiable q.1.cls q.2 ∈ tables_1 ∧ Cond.privateMethod q.1 ∈ tables_1 ∧ Cond.instanceMethod q.1 ∈ tables_1
theorem lw_p0 : lw_okq (⟨"SteamRations", "recorded", "(I)I"⟩, 10) := ⟨⟨by decide +kernel, by decide +kernel⟩, List.mem_of_getElem? (i := 11) (by decide +kernel), List.mem_of_getElem? (i := 253) (by decide +kernel), List.mem_of_getElem? (i := 254) (by decide +kernel)⟩
theorem lw_p1 : lw_okq (⟨"SteamRations$History", "dropOldest", "()V"⟩, 2) := ⟨⟨by decide +kernel, by decide +kernel⟩, List.mem_of_getElem? (i := 144) (by decide +kernel), List.mem_of_getElem? (i := 261) (by decide +kernel), List.mem_of_getElem? (i := 262) (by decide +kernel)⟩
theorem lw_p2 : lw_okq (⟨"SteamRations$Laundry", "workTick", "()Z"⟩, 14) := ⟨⟨by decide +kernel, by decide +kernel⟩, List.mem_of_getElem? (i := 19) (by decide +kernel), List.mem_of_getElem? (i := 319) (by decide +kernel), List.mem_of_getElem? (i := 320) (by decide +kernel)⟩
theorem lw_p3 : lw_okq (⟨"SteamRations$Laundry", "receiveRation", "()V"⟩, 14) := ⟨⟨by decide +kernel, by decide +kernel⟩, List.mem_of_getElem? (i := 19) (by decide +kernel), List.mem_of_getElem? (i := 323) (by decide +kernel), List.mem_of_getElem? (i := 324) (by decide +kernel)⟩
theorem lw_p4 : lw_okq (⟨"SteamRations$Laundry", "need", "()I"⟩, 14) := ⟨⟨by decide +kernel, by decide +kernel⟩, List.mem_of_getElem? (i := 19) (by decide +kernel), List.mem_of_getElem? (i := 334) (by decide +kernel), List.mem_of_getElem? (i := 335) (by decide +kernel)⟩
theorem lw_p5 : lw_okq (⟨"SteamRations$Laundry", "holdLoads", "()V"⟩, 14) := ⟨⟨by decide +kernel, by decide +kernel⟩, List.mem_of_getElem? (i := 19) (by decide +kernel), List.mem_of_getElem? (i := 341) (by decide +kernel), List.mem_of_getElem? (i := 342) (by decide +kernel)⟩
theorem lw_p6 : lw_okq (⟨"SteamRations$Laundry", "takeSteam", "(I)V"⟩, 14) := ⟨⟨by decide +kernel, by decide +kernel⟩, List.mem_of_getElem? (i := 19) (by decide +kernel), List.mem_of_getElem? (i := 349) (by decide +kernel), List.mem_of_getElem? (i := 350) (by decide +kernel)⟩
theorem lw_p7 : lw_okq (⟨"SteamRations$Laundry", "workLoads", "()V"⟩, 14) := ⟨⟨by decide +kernel, by decide +kernel⟩, List.mem_of_getElem? (i := 19) (by decide +kernel), List.mem_of_getElem? (i := 353) (by decide +kernel), List.mem_of_getElem? (i := 354) (by decide +kernel)⟩
theorem lw_p8 : lw_okq (⟨"SteamRations$OrderText", "readOrder", "()Z"⟩, 6) := ⟨⟨by decide +kernel, by decide +kernel⟩, List.mem_of_getElem? (i := 161) (by decide +kernel), List.mem_of_getElem? (i := 442) (by decide +kernel), List.mem_of_getElem? (i := 443) (by decide +kernel)⟩
theorem lw_p9 : lw_okq (⟨"SteamRations$OrderText", "here", "()I"⟩, 6) := ⟨⟨by decide +kernel, by decide +kernel⟩, List.mem_of_getElem? (i := 161) (by decide +kernel), List.mem_of_getElem? (i := 446) (by decide +kernel), List.mem_of_getElem? (i := 447) (by decide +kernel)⟩
theorem lw_p10 : lw_okq (⟨"SteamRations$OrderText", "accept", "(C)Z"⟩, 6) := ⟨⟨by decide +kernel, by decide +kernel⟩, List.mem_of_getElem? (i := 161) (by decide +kernel), List.mem_of_getElem? (i := 450) (by decide +kernel), List.mem_of_getElem? (i := 451) (by decide +kernel)⟩
theorem lw_p11 : lw_okq (⟨"SteamRations$OrderText", "readTarget", "(I)Z"⟩, 6) := ⟨⟨by decide +kernel, by decide +kernel⟩, List.mem_of_getElem? (i := 161) (by decide +kernel), List.mem_of_getElem? (i := 454) (by decide +kernel), List.mem_of_getElem? (i := 455) (by decide +kernel)⟩
theorem lw_p12 : lw_okq (⟨"SteamRations$OrderText", "readValue", "(II)Z"⟩, 6) := ⟨⟨by decide +kernel, by decide +kernel⟩, List.mem_of_getElem? (i := 161) (by decide +kernel), List.mem_of_getElem? (i := 458) (by decide +kernel), List.mem_of_getElem? (i := 459) (by decide +kernel)⟩
theorem lw_p13 : lw_okq (⟨"SteamRations$OrderText", "digitHere", "()I"⟩, 6) := ⟨⟨by decide +kernel, by decide +kernel⟩, List.mem_of_getElem? (i := 161) (by decide +kernel), List.mem_of_getElem? (i := 462) (by decide +kernel), List.mem_of_getElem? (i := 463) (by decide +kernel)⟩
theorem lw_p14 : lw_okq (⟨"SteamRations", "obeyNextOrder", "()I"⟩, 10) := ⟨⟨by decide +kernel, by decide +kernel⟩, List.mem_of_getElem? (i := 11) (by decide +kernel), List.mem_of_getElem? (i := 468) (by decide +kernel), List.mem_of_getElem? (i := 469) (by decide +kernel)⟩
theorem lw_p15 : lw_okq (⟨"SteamRations", "lookAhead", "(III)V"⟩, 10) := ⟨⟨by decide +kernel, by decide +kernel⟩, List.mem_of_getElem? (i := 11) (by decide +kernel), List.mem_of_getElem? (i := 534) (by decide +kernel), List.mem_of_getElem? (i := 535) (by decide +kernel)⟩
def lw_privs_1 : List (MethodName × Nat) := [(⟨"SteamRations", "recorded", "(I)I"⟩, 10), (⟨"SteamRations$History", "dropOldest", "()V"⟩, 2), (⟨"SteamRations$Laundry", "workTick", "()Z"⟩, 14), (⟨"SteamRations$Laundry", "receiveRation", "()V"⟩, 14), (⟨"SteamRations$Laundry", "need", "()I"⟩, 14), (⟨"SteamRations$Laundry", "holdLoads", "()V"⟩, 14), (⟨"SteamRations$Laundry", "takeSteam", "(I)V"⟩, 14), (⟨"SteamRations$Laundry", "workLoads", "()V"⟩, 14), (⟨"SteamRations$OrderText", "readOrder", "()Z"⟩, 6), (⟨"SteamRations$OrderText", "here", "()I"⟩, 6), (⟨"SteamRations$OrderText", "accept", "(C)Z"⟩, 6), (⟨"SteamRations$OrderText", "readTarget", "(I)Z"⟩, 6), (⟨"SteamRations$OrderText", "readValue", "(II)Z"⟩, 6), (⟨"SteamRations$OrderText", "digitHere", "()I"⟩, 6), (⟨"SteamRations", "obeyNextOrder", "()I"⟩, 10), (⟨"SteamRations", "lookAhead", "(III)V"⟩, 10)]
theorem lw_r1 : ∀ q ∈ lw_privs_1, lw_okq q := List.forall_mem_cons.mpr ⟨lw_p0, List.forall_mem_cons.mpr ⟨lw_p1, List.forall_mem_cons.mpr ⟨lw_p2, List.forall_mem_cons.mpr ⟨lw_p3, List.forall_mem_cons.mpr ⟨lw_p4, List.forall_mem_cons.mpr ⟨lw_p5, List.forall_mem_cons.mpr ⟨lw_p6, List.forall_mem_cons.mpr ⟨lw_p7, List.forall_mem_cons.mpr ⟨lw_p8, List.forall_mem_cons.mpr ⟨lw_p9, List.forall_mem_cons.mpr ⟨lw_p10, List.forall_mem_cons.mpr ⟨lw_p11, List.forall_mem_cons.mpr ⟨lw_p12, List.forall_mem_cons.mpr ⟨lw_p13, List.forall_mem_cons.mpr ⟨lw_p14, List.forall_mem_cons.mpr ⟨lw_p15, fun _ h => absurd h List.not_mem_nil⟩⟩⟩⟩⟩⟩⟩⟩⟩⟩⟩⟩⟩⟩⟩⟩
theorem lw_p16 : lw_okq (⟨"SteamRationsModel", "copies", "(II)V"⟩, 11) := ⟨⟨by decide +kernel, by decide +kernel⟩, List.mem_of_getElem? (i := 558) (by decide +kernel), List.mem_of_getElem? (i := 602) (by decide +kernel), List.mem_of_getElem? (i := 603) (by decide +kernel)⟩
theorem lw_p17 : lw_okq (⟨"SteamRationsModel", "sets", "(III)I"⟩, 11) := ⟨⟨by decide +kernel, by decide +kernel⟩, List.mem_of_getElem? (i := 558) (by decide +kernel), List.mem_of_getElem? (i := 606) (by decide +kernel), List.mem_of_getElem? (i := 607) (by decide +kernel)⟩
theorem lw_p18 : lw_okq (⟨"SteamRationsModel", "settles", "(I)I"⟩, 11) := ⟨⟨by decide +kernel, by decide +kernel⟩, List.mem_of_getElem? (i := 558) (by decide +kernel), List.mem_of_getElem? (i := 613) (by decide +kernel), List.mem_of_getElem? (i := 614) (by decide +kernel)⟩
theorem lw_p19 : lw_okq (⟨"SteamRationsModel", "records", "()V"⟩, 11) := ⟨⟨by decide +kernel, by decide +kernel⟩, List.mem_of_getElem? (i := 558) (by decide +kernel), List.mem_of_getElem? (i := 617) (by decide +kernel), List.mem_of_getElem? (i := 618) (by decide +kernel)⟩
theorem lw_p20 : lw_okq (⟨"SteamRationsModel", "fills", "(III)I"⟩, 11) := ⟨⟨by decide +kernel, by decide +kernel⟩, List.mem_of_getElem? (i := 558) (by decide +kernel), List.mem_of_getElem? (i := 625) (by decide +kernel), List.mem_of_getElem? (i := 626) (by decide +kernel)⟩
theorem lw_p21 : lw_okq (⟨"SteamRationsModel", "starts", "(III)I"⟩, 11) := ⟨⟨by decide +kernel, by decide +kernel⟩, List.mem_of_getElem? (i := 558) (by decide +kernel), List.mem_of_getElem? (i := 637) (by decide +kernel), List.mem_of_getElem? (i := 638) (by decide +kernel)⟩
theorem lw_p22 : lw_okq (⟨"SteamRationsModel", "why", "(III)I"⟩, 11) := ⟨⟨by decide +kernel, by decide +kernel⟩, List.mem_of_getElem? (i := 558) (by decide +kernel), List.mem_of_getElem? (i := 641) (by decide +kernel), List.mem_of_getElem? (i := 642) (by decide +kernel)⟩
theorem lw_p23 : lw_okq (⟨"SteamRationsModel", "pressure", "(I)I"⟩, 11) := ⟨⟨by decide +kernel, by decide +kernel⟩, List.mem_of_getElem? (i := 558) (by decide +kernel), List.mem_of_getElem? (i := 645) (by decide +kernel), List.mem_of_getElem? (i := 646) (by decide +kernel)⟩
theorem lw_p24 : lw_okq (⟨"SteamRationsModel", "puts", "(III)V"⟩, 11) := ⟨⟨by decide +kernel, by decide +kernel⟩, List.mem_of_getElem? (i := 558) (by decide +kernel), List.mem_of_getElem? (i := 649) (by decide +kernel), List.mem_of_getElem? (i := 650) (by decide +kernel)⟩
theorem lw_p25 : lw_okq (⟨"SteamRationsModel", "passes", "(I)V"⟩, 11) := ⟨⟨by decide +kernel, by decide +kernel⟩, List.mem_of_getElem? (i := 558) (by decide +kernel), List.mem_of_getElem? (i := 656) (by decide +kernel), List.mem_of_getElem? (i := 657) (by decide +kernel)⟩
theorem lw_p26 : lw_okq (⟨"SteamRationsModel", "fires", "(II)V"⟩, 11) := ⟨⟨by decide +kernel, by decide +kernel⟩, List.mem_of_getElem? (i := 558) (by decide +kernel), List.mem_of_getElem? (i := 660) (by decide +kernel), List.mem_of_getElem? (i := 661) (by decide +kernel)⟩
theorem lw_p27 : lw_okq (⟨"SteamRationsModel", "works", "(I)V"⟩, 11) := ⟨⟨by decide +kernel, by decide +kernel⟩, List.mem_of_getElem? (i := 558) (by decide +kernel), List.mem_of_getElem? (i := 664) (by decide +kernel), List.mem_of_getElem? (i := 665) (by decide +kernel)⟩
theorem lw_p28 : lw_okq (⟨"SteamRationsModel", "need", "(I)I"⟩, 11) := ⟨⟨by decide +kernel, by decide +kernel⟩, List.mem_of_getElem? (i := 558) (by decide +kernel), List.mem_of_getElem? (i := 668) (by decide +kernel), List.mem_of_getElem? (i := 669) (by decide +kernel)⟩
theorem lw_p29 : lw_okq (⟨"SteamRationsModel", "waits", "(I)V"⟩, 11) := ⟨⟨by decide +kernel, by decide +kernel⟩, List.mem_of_getElem? (i := 558) (by decide +kernel), List.mem_of_getElem? (i := 672) (by decide +kernel), List.mem_of_getElem? (i := 673) (by decide +kernel)⟩
theorem lw_p30 : lw_okq (⟨"SteamRationsModel", "empties", "(II)V"⟩, 11) := ⟨⟨by decide +kernel, by decide +kernel⟩, List.mem_of_getElem? (i := 558) (by decide +kernel), List.mem_of_getElem? (i := 676) (by decide +kernel), List.mem_of_getElem? (i := 677) (by decide +kernel)⟩
theorem lw_p31 : lw_okq (⟨"SteamRationsModel", "washes", "(I)V"⟩, 11) := ⟨⟨by decide +kernel, by decide +kernel⟩, List.mem_of_getElem? (i := 558) (by decide +kernel), List.mem_of_getElem? (i := 680) (by decide +kernel), List.mem_of_getElem? (i := 681) (by decide +kernel)⟩
def lw_privs_2 : List (MethodName × Nat) := [(⟨"SteamRationsModel", "copies", "(II)V"⟩, 11), (⟨"SteamRationsModel", "sets", "(III)I"⟩, 11), (⟨"SteamRationsModel", "settles", "(I)I"⟩, 11), (⟨"SteamRationsModel", "records", "()V"⟩, 11), (⟨"SteamRationsModel", "fills", "(III)I"⟩, 11), (⟨"SteamRationsModel", "starts", "(III)I"⟩, 11), (⟨"SteamRationsModel", "why", "(III)I"⟩, 11), (⟨"SteamRationsModel", "pressure", "(I)I"⟩, 11), (⟨"SteamRationsModel", "puts", "(III)V"⟩, 11), (⟨"SteamRationsModel", "passes", "(I)V"⟩, 11), (⟨"SteamRationsModel", "fires", "(II)V"⟩, 11), (⟨"SteamRationsModel", "works", "(I)V"⟩, 11), (⟨"SteamRationsModel", "need", "(I)I"⟩, 11), (⟨"SteamRationsModel", "waits", "(I)V"⟩, 11), (⟨"SteamRationsModel", "empties", "(II)V"⟩, 11), (⟨"SteamRationsModel", "washes", "(I)V"⟩, 11)]
theorem lw_r2 : ∀ q ∈ lw_privs_2, lw_okq q := List.forall_mem_cons.mpr ⟨lw_p16, List.forall_mem_cons.mpr ⟨lw_p17, List.forall_mem_cons.mpr ⟨lw_p18, List.forall_mem_cons.mpr ⟨lw_p19, List.forall_mem_cons.mpr ⟨lw_p20, List.forall_mem_cons.mpr ⟨lw_p21, List.forall_mem_cons.mpr ⟨lw_p22, List.forall_mem_cons.mpr ⟨lw_p23, List.forall_mem_cons.mpr ⟨lw_p24, List.forall_mem_cons.mpr ⟨lw_p25, List.forall_mem_cons.mpr ⟨lw_p26, List.forall_mem_cons.mpr ⟨lw_p27, List.forall_mem_cons.mpr ⟨lw_p28, List.forall_mem_cons.mpr ⟨lw_p29, List.forall_mem_cons.mpr ⟨lw_p30, List.forall_mem_cons.mpr ⟨lw_p31, fun _ h => absurd h List.not_mem_nil⟩⟩⟩⟩⟩⟩⟩⟩⟩⟩⟩⟩⟩⟩⟩⟩
theorem lw_p32 : lw_okq (⟨"SteamRationsModel", "queues", "(II)I"⟩, 11) := ⟨⟨by decide +kernel, by decide +kernel⟩, List.mem_of_getElem? (i := 558) (by decide +kernel), List.mem_of_getElem? (i := 691) (by decide +kernel), List.mem_of_getElem? (i := 692) (by decide +kernel)⟩
theorem lw_p33 : lw_okq (⟨"SteamRationsModel", "leaves", "(II)I"⟩, 11) := ⟨⟨by decide +kernel, by decide +kernel⟩, List.mem_of_getElem? (i := 558) (by decide +kernel), List.mem_of_getElem? (i := 699) (by decide +kernel), List.mem_of_getElem? (i := 700) (by decide +kernel)⟩
theorem lw_p34 : lw_okq (⟨"SteamRationsModel", "runs", "(II)I"⟩, 11) := ⟨⟨by decide +kernel, by decide +kernel⟩, List.mem_of_getElem? (i := 558) (by decide +kernel), List.mem_of_getElem? (i := 711) (by decide +kernel), List.mem_of_getElem? (i := 712) (by decide +kernel)⟩
theorem lw_p35 : lw_okq (⟨"SteamRationsModel", "ticks", "(II)V"⟩, 11) := ⟨⟨by decide +kernel, by decide +kernel⟩, List.mem_of_getElem? (i := 558) (by decide +kernel), List.mem_of_getElem? (i := 716) (by decide +kernel), List.mem_of_getElem? (i := 717) (by decide +kernel)⟩
theorem lw_p36 : lw_okq (⟨"SteamRationsModel", "lowestEmpty", "(I)I"⟩, 11) := ⟨⟨by decide +kernel, by decide +kernel⟩, List.mem_of_getElem? (i := 558) (by decide +kernel), List.mem_of_getElem? (i := 720) (by decide +kernel), List.mem_of_getElem? (i := 721) (by decide +kernel)⟩
theorem lw_p37 : lw_okq (⟨"SteamRationsModel", "fault", "()I"⟩, 11) := ⟨⟨by decide +kernel, by decide +kernel⟩, List.mem_of_getElem? (i := 558) (by decide +kernel), List.mem_of_getElem? (i := 728) (by decide +kernel), List.mem_of_getElem? (i := 729) (by decide +kernel)⟩
theorem lw_p38 : lw_okq (⟨"SteamRationsModel", "reads", "()V"⟩, 11) := ⟨⟨by decide +kernel, by decide +kernel⟩, List.mem_of_getElem? (i := 558) (by decide +kernel), List.mem_of_getElem? (i := 732) (by decide +kernel), List.mem_of_getElem? (i := 733) (by decide +kernel)⟩
theorem lw_p39 : lw_okq (⟨"SteamRationsModel", "number", "()I"⟩, 11) := ⟨⟨by decide +kernel, by decide +kernel⟩, List.mem_of_getElem? (i := 558) (by decide +kernel), List.mem_of_getElem? (i := 736) (by decide +kernel), List.mem_of_getElem? (i := 737) (by decide +kernel)⟩
theorem lw_p40 : lw_okq (⟨"SteamRationsModel", "isNext", "(II)Z"⟩, 11) := ⟨⟨by decide +kernel, by decide +kernel⟩, List.mem_of_getElem? (i := 558) (by decide +kernel), List.mem_of_getElem? (i := 740) (by decide +kernel), List.mem_of_getElem? (i := 741) (by decide +kernel)⟩
theorem lw_p41 : lw_okq (⟨"SteamRationsModel", "digit", "(I)I"⟩, 11) := ⟨⟨by decide +kernel, by decide +kernel⟩, List.mem_of_getElem? (i := 558) (by decide +kernel), List.mem_of_getElem? (i := 744) (by decide +kernel), List.mem_of_getElem? (i := 745) (by decide +kernel)⟩
theorem lw_p42 : lw_okq (⟨"SteamRationsModel", "does", "(I)I"⟩, 11) := ⟨⟨by decide +kernel, by decide +kernel⟩, List.mem_of_getElem? (i := 558) (by decide +kernel), List.mem_of_getElem? (i := 748) (by decide +kernel), List.mem_of_getElem? (i := 749) (by decide +kernel)⟩
theorem lw_p43 : lw_okq (⟨"SteamRationsModel", "isDone", "(I)Z"⟩, 11) := ⟨⟨by decide +kernel, by decide +kernel⟩, List.mem_of_getElem? (i := 558) (by decide +kernel), List.mem_of_getElem? (i := 796) (by decide +kernel), List.mem_of_getElem? (i := 797) (by decide +kernel)⟩
theorem lw_p44 : lw_okq (⟨"SteamRationsModel", "tries", "(III)V"⟩, 11) := ⟨⟨by decide +kernel, by decide +kernel⟩, List.mem_of_getElem? (i := 558) (by decide +kernel), List.mem_of_getElem? (i := 804) (by decide +kernel), List.mem_of_getElem? (i := 805) (by decide +kernel)⟩
theorem lw_p45 : lw_okq (⟨"SteamRationsModel", "more", "(I)I"⟩, 11) := ⟨⟨by decide +kernel, by decide +kernel⟩, List.mem_of_getElem? (i := 558) (by decide +kernel), List.mem_of_getElem? (i := 808) (by decide +kernel), List.mem_of_getElem? (i := 809) (by decide +kernel)⟩
theorem lw_p46 : lw_okq (⟨"SteamRationsModel", "loaded", "()I"⟩, 11) := ⟨⟨by decide +kernel, by decide +kernel⟩, List.mem_of_getElem? (i := 558) (by decide +kernel), List.mem_of_getElem? (i := 820) (by decide +kernel), List.mem_of_getElem? (i := 821) (by decide +kernel)⟩
def lw_privs_3 : List (MethodName × Nat) := [(⟨"SteamRationsModel", "queues", "(II)I"⟩, 11), (⟨"SteamRationsModel", "leaves", "(II)I"⟩, 11), (⟨"SteamRationsModel", "runs", "(II)I"⟩, 11), (⟨"SteamRationsModel", "ticks", "(II)V"⟩, 11), (⟨"SteamRationsModel", "lowestEmpty", "(I)I"⟩, 11), (⟨"SteamRationsModel", "fault", "()I"⟩, 11), (⟨"SteamRationsModel", "reads", "()V"⟩, 11), (⟨"SteamRationsModel", "number", "()I"⟩, 11), (⟨"SteamRationsModel", "isNext", "(II)Z"⟩, 11), (⟨"SteamRationsModel", "digit", "(I)I"⟩, 11), (⟨"SteamRationsModel", "does", "(I)I"⟩, 11), (⟨"SteamRationsModel", "isDone", "(I)Z"⟩, 11), (⟨"SteamRationsModel", "tries", "(III)V"⟩, 11), (⟨"SteamRationsModel", "more", "(I)I"⟩, 11), (⟨"SteamRationsModel", "loaded", "()I"⟩, 11)]
theorem lw_r3 : ∀ q ∈ lw_privs_3, lw_okq q := List.forall_mem_cons.mpr ⟨lw_p32, List.forall_mem_cons.mpr ⟨lw_p33, List.forall_mem_cons.mpr ⟨lw_p34, List.forall_mem_cons.mpr ⟨lw_p35, List.forall_mem_cons.mpr ⟨lw_p36, List.forall_mem_cons.mpr ⟨lw_p37, List.forall_mem_cons.mpr ⟨lw_p38, List.forall_mem_cons.mpr ⟨lw_p39, List.forall_mem_cons.mpr ⟨lw_p40, List.forall_mem_cons.mpr ⟨lw_p41, List.forall_mem_cons.mpr ⟨lw_p42, List.forall_mem_cons.mpr ⟨lw_p43, List.forall_mem_cons.mpr ⟨lw_p44, List.forall_mem_cons.mpr ⟨lw_p45, List.forall_mem_cons.mpr ⟨lw_p46, fun _ h => absurd h List.not_mem_nil⟩⟩⟩⟩⟩⟩⟩⟩⟩⟩⟩⟩⟩⟩⟩
def lw_privs : List (MethodName × Nat) := lw_privs_1 ++ (lw_privs_2 ++ (lw_privs_3))
def lw_tbl : List Cond := k2_sels lw_privs ++ tables_1
theorem lw_privs_ok : ∀ q ∈ lw_privs, lw_okq q := by
  show ∀ q ∈ lw_privs_1 ++ (lw_privs_2 ++ (lw_privs_3)), lw_okq q
  exact List.forall_mem_append.mpr ⟨lw_r1, List.forall_mem_append.mpr ⟨lw_r2, lw_r3⟩⟩
-- ===== end of PART A =====
/-! ===== BEGIN words of one list among another's, by their places ===== -/
theorem goodIn_r {big : List Cond} (ws : List Cond) (ps : List Nat) (hp : ws = ps.filterMap (fun i => big[i]?)) (h : ws.all goodWord = true) : GoodIn big ws := by
  intro w hw
  have h1 := List.all_eq_true.mp h w hw
  rw [hp] at hw
  obtain ⟨i, -, hi⟩ := List.mem_filterMap.mp hw
  have hm : w ∈ big := by first | exact List.mem_of_getElem? hi | exact List.getElem?_mem hi
  exact ⟨hm, good_of_word h1⟩
theorem goodIn_app {big a b : List Cond} (ha : GoodIn big a) (hb : GoodIn big b) : GoodIn big (a ++ b) := fun w h => (List.mem_append.mp h).elim (ha w) (hb w)
theorem goodIn_ca {big a b : List Cond} {c : Cond} (ha : GoodIn big (c :: a)) (hb : GoodIn big b) : GoodIn big (c :: (a ++ b)) := fun w h => (List.mem_cons.mp h).elim (fun e => ha w (List.mem_cons.mpr (Or.inl e))) (fun h => (List.mem_append.mp h).elim (fun h => ha w (List.mem_cons.mpr (Or.inr h))) (hb w))
theorem goodIn_sub {big ws : List Cond} (hm : ∀ w ∈ ws, w ∈ big) (h : ws.all goodWord = true) : GoodIn big ws := fun w hw => ⟨hm w hw, good_of_word (List.all_eq_true.mp h w hw)⟩
/-! ===== END ===== -/

/-! ===== BEGIN printed: names, fields, word lists, decode rows ===== -/
def RX0 : String := "SteamRations$Boiler"
def TX0 : u_T := fun k => match k with
  | 0 => ("SteamRations$Boiler", "fire", "I", false)
  | 1 => ("SteamRations$Boiler", "water", "I", false)
  | 2 => ("SteamRations$Boiler", "pressure", "I", false)
  | 3 => ("SteamRations$Boiler", "stopLeft", "I", false)
  | _ => ("SteamRations$Boiler", "stops", "I", false)
def tyX0 : Nat → FieldType := fun k => match k with
  | 0 => .int
  | 1 => .int
  | 2 => .int
  | 3 => .int
  | _ => .int
abbrev wsX00 : List Cond := u_ws RX0 TX0 5
theorem nmX0 : ∀ a, a < 5 → ∀ b, b < 5 → a ≠ b → (TX0 a).2.1 ≠ (TX0 b).2.1 := by decide +kernel
theorem tyX0_ok : ∀ k, k < 5 → parseFieldDescriptor (TX0 k).2.2.1 = some (tyX0 k) := by decide +kernel
abbrev cX0_init : ByteArray := prog_2_method_1_code
def yX0_init : MethodName := ⟨RX0, "<init>", "()V"⟩
abbrev cX0_copyFrom : ByteArray := prog_2_method_2_code
def yX0_copyFrom : MethodName := ⟨RX0, "copyFrom", "(LSteamRations$Boiler;)V"⟩
abbrev cX0_burn : ByteArray := prog_2_method_3_code
def yX0_burn : MethodName := ⟨RX0, "burn", "(I)I"⟩
abbrev cX0_coolDown : ByteArray := prog_2_method_4_code
def yX0_coolDown : MethodName := ⟨RX0, "coolDown", "()V"⟩
def RX1 : String := "SteamRations$History"
def TX1 : u_T := fun k => match k with
  | 0 => ("SteamRations$History", "states", "[LSteamRations$Laundry;", true)
  | _ => ("SteamRations$History", "size", "I", false)
def tyX1 : Nat → FieldType := fun k => match k with
  | 0 => .array (.object "SteamRations$Laundry")
  | _ => .int
abbrev wsX10 : List Cond := u_ws RX1 TX1 2
theorem nmX1 : ∀ a, a < 2 → ∀ b, b < 2 → a ≠ b → (TX1 a).2.1 ≠ (TX1 b).2.1 := by decide +kernel
theorem tyX1_ok : ∀ k, k < 2 → parseFieldDescriptor (TX1 k).2.2.1 = some (tyX1 k) := by decide +kernel
abbrev cX1_init : ByteArray := prog_3_method_1_code
def yX1_init : MethodName := ⟨RX1, "<init>", "()V"⟩
abbrev cX1_push : ByteArray := prog_3_method_2_code
def yX1_push : MethodName := ⟨RX1, "push", "(LSteamRations$Laundry;)V"⟩
abbrev cX1_takeBack : ByteArray := prog_3_method_3_code
def yX1_takeBack : MethodName := ⟨RX1, "takeBack", "(LSteamRations$Laundry;)I"⟩
abbrev cX1_dropOldest : ByteArray := prog_3_method_4_code
def yX1_dropOldest : MethodName := ⟨RX1, "dropOldest", "()V"⟩
def RX2 : String := "SteamRations$Laundry"
def TX2 : u_T := fun k => match k with
  | 0 => ("SteamRations$Laundry", "boilers", "[LSteamRations$Boiler;", true)
  | 1 => ("SteamRations$Laundry", "machines", "[LSteamRations$Machine;", true)
  | 2 => ("SteamRations$Laundry", "waiting", "LSteamRations$WaitingLine;", true)
  | 3 => ("SteamRations$Laundry", "ticks", "I", false)
  | 4 => ("SteamRations$Laundry", "washed", "I", false)
  | 5 => ("SteamRations$Laundry", "spoiled", "I", false)
  | 6 => ("SteamRations$Laundry", "burnt", "I", false)
  | 7 => ("SteamRations$Laundry", "coal", "I", false)
  | 8 => ("SteamRations$Laundry", "ration", "I", false)
  | 9 => ("SteamRations$Laundry", "rationed", "I", false)
  | 10 => ("SteamRations$Laundry", "started", "I", false)
  | 11 => ("SteamRations$Laundry", "takenOut", "I", false)
  | 12 => ("SteamRations$Laundry", "worth", "I", false)
  | _ => ("SteamRations$Laundry", "ticksOfWaits", "I", false)
def tyX2 : Nat → FieldType := fun k => match k with
  | 0 => .array (.object "SteamRations$Boiler")
  | 1 => .array (.object "SteamRations$Machine")
  | 2 => .object "SteamRations$WaitingLine"
  | 3 => .int
  | 4 => .int
  | 5 => .int
  | 6 => .int
  | 7 => .int
  | 8 => .int
  | 9 => .int
  | 10 => .int
  | 11 => .int
  | 12 => .int
  | _ => .int
abbrev wsX20 : List Cond := u_ws RX2 TX2 14
theorem nmX2 : ∀ a, a < 14 → ∀ b, b < 14 → a ≠ b → (TX2 a).2.1 ≠ (TX2 b).2.1 := by decide +kernel
theorem tyX2_ok : ∀ k, k < 14 → parseFieldDescriptor (TX2 k).2.2.1 = some (tyX2 k) := by decide +kernel
abbrev cX2_init : ByteArray := prog_4_method_1_code
def yX2_init : MethodName := ⟨RX2, "<init>", "()V"⟩
abbrev cX2_copyFrom : ByteArray := prog_4_method_2_code
def yX2_copyFrom : MethodName := ⟨RX2, "copyFrom", "(LSteamRations$Laundry;)V"⟩
abbrev cX2_boilerAt : ByteArray := prog_4_method_3_code
def yX2_boilerAt : MethodName := ⟨RX2, "boilerAt", "(I)LSteamRations$Boiler;"⟩
abbrev cX2_machineAt : ByteArray := prog_4_method_4_code
def yX2_machineAt : MethodName := ⟨RX2, "machineAt", "(I)LSteamRations$Machine;"⟩
abbrev cX2_lowestEmptyMachine : ByteArray := prog_4_method_5_code
def yX2_lowestEmptyMachine : MethodName := ⟨RX2, "lowestEmptyMachine", "()LSteamRations$Machine;"⟩
abbrev cX2_loadsInMachines : ByteArray := prog_4_method_6_code
def yX2_loadsInMachines : MethodName := ⟨RX2, "loadsInMachines", "()I"⟩
abbrev cX2_isIdle : ByteArray := prog_4_method_7_code
def yX2_isIdle : MethodName := ⟨RX2, "isIdle", "()Z"⟩
abbrev cX2_allPressure : ByteArray := prog_4_method_8_code
def yX2_allPressure : MethodName := ⟨RX2, "allPressure", "()I"⟩
abbrev cX2_safetyStops : ByteArray := prog_4_method_9_code
def yX2_safetyStops : MethodName := ⟨RX2, "safetyStops", "()I"⟩
abbrev cX2_account : ByteArray := prog_4_method_10_code
def yX2_account : MethodName := ⟨RX2, "account", "(I)I"⟩
abbrev cX2_changeFire : ByteArray := prog_4_method_11_code
def yX2_changeFire : MethodName := ⟨RX2, "changeFire", "(II)I"⟩
abbrev cX2_letWaterIn : ByteArray := prog_4_method_12_code
def yX2_letWaterIn : MethodName := ⟨RX2, "letWaterIn", "(II)I"⟩
abbrev cX2_changeRation : ByteArray := prog_4_method_13_code
def yX2_changeRation : MethodName := ⟨RX2, "changeRation", "(I)I"⟩
abbrev cX2_startLoad : ByteArray := prog_4_method_14_code
def yX2_startLoad : MethodName := ⟨RX2, "startLoad", "(IILSteamRations$Laundry;)I"⟩
abbrev cX2_addToLine : ByteArray := prog_4_method_15_code
def yX2_addToLine : MethodName := ⟨RX2, "addToLine", "(I)I"⟩
abbrev cX2_removeFromLine : ByteArray := prog_4_method_16_code
def yX2_removeFromLine : MethodName := ⟨RX2, "removeFromLine", "(I)I"⟩
abbrev cX2_unload : ByteArray := prog_4_method_17_code
def yX2_unload : MethodName := ⟨RX2, "unload", "(I)I"⟩
abbrev cX2_letPass : ByteArray := prog_4_method_18_code
def yX2_letPass : MethodName := ⟨RX2, "letPass", "(ILSteamRations$Laundry;)I"⟩
abbrev cX2_lightFires : ByteArray := prog_4_method_19_code
def yX2_lightFires : MethodName := ⟨RX2, "lightFires", "(II)V"⟩
abbrev cX2_passTick : ByteArray := prog_4_method_20_code
def yX2_passTick : MethodName := ⟨RX2, "passTick", "(LSteamRations$Laundry;)V"⟩
abbrev cX2_reasonAgainst : ByteArray := prog_4_method_21_code
def yX2_reasonAgainst : MethodName := ⟨RX2, "reasonAgainst", "(ILSteamRations$Laundry;)I"⟩
abbrev cX2_workTick : ByteArray := prog_4_method_22_code
def yX2_workTick : MethodName := ⟨RX2, "workTick", "()Z"⟩
abbrev cX2_receiveRation : ByteArray := prog_4_method_23_code
def yX2_receiveRation : MethodName := ⟨RX2, "receiveRation", "()V"⟩
abbrev cX2_need : ByteArray := prog_4_method_24_code
def yX2_need : MethodName := ⟨RX2, "need", "()I"⟩
abbrev cX2_takeSteam : ByteArray := prog_4_method_25_code
def yX2_takeSteam : MethodName := ⟨RX2, "takeSteam", "(I)V"⟩
abbrev cX2_workLoads : ByteArray := prog_4_method_26_code
def yX2_workLoads : MethodName := ⟨RX2, "workLoads", "()V"⟩
abbrev cX2_holdLoads : ByteArray := prog_4_method_27_code
def yX2_holdLoads : MethodName := ⟨RX2, "holdLoads", "()V"⟩
def RX3 : String := "SteamRations$Machine"
def TX3 : u_T := fun k => match k with
  | 0 => ("SteamRations$Machine", "kind", "I", false)
  | 1 => ("SteamRations$Machine", "left", "I", false)
  | _ => ("SteamRations$Machine", "waits", "I", false)
def tyX3 : Nat → FieldType := fun k => match k with
  | 0 => .int
  | 1 => .int
  | _ => .int
abbrev wsX30 : List Cond := u_ws RX3 TX3 3
theorem nmX3 : ∀ a, a < 3 → ∀ b, b < 3 → a ≠ b → (TX3 a).2.1 ≠ (TX3 b).2.1 := by decide +kernel
theorem tyX3_ok : ∀ k, k < 3 → parseFieldDescriptor (TX3 k).2.2.1 = some (tyX3 k) := by decide +kernel
abbrev cX3_init : ByteArray := prog_5_method_1_code
def yX3_init : MethodName := ⟨RX3, "<init>", "()V"⟩
abbrev cX3_copyFrom : ByteArray := prog_5_method_2_code
def yX3_copyFrom : MethodName := ⟨RX3, "copyFrom", "(LSteamRations$Machine;)V"⟩
abbrev cX3_isEmpty : ByteArray := prog_5_method_3_code
def yX3_isEmpty : MethodName := ⟨RX3, "isEmpty", "()Z"⟩
abbrev cX3_put : ByteArray := prog_5_method_4_code
def yX3_put : MethodName := ⟨RX3, "put", "(I)V"⟩
abbrev cX3_clear : ByteArray := prog_5_method_5_code
def yX3_clear : MethodName := ⟨RX3, "clear", "()V"⟩
def RX4 : String := "SteamRations$OrderText"
def TX4 : u_T := fun k => match k with
  | 0 => ("SteamRations$OrderText", "characters", "[C", true)
  | 1 => ("SteamRations$OrderText", "place", "I", false)
  | 2 => ("SteamRations$OrderText", "length", "I", false)
  | 3 => ("SteamRations$OrderText", "letter", "I", false)
  | 4 => ("SteamRations$OrderText", "target", "I", false)
  | _ => ("SteamRations$OrderText", "value", "I", false)
def tyX4 : Nat → FieldType := fun k => match k with
  | 0 => .array .char
  | 1 => .int
  | 2 => .int
  | 3 => .int
  | 4 => .int
  | _ => .int
abbrev wsX40 : List Cond := u_ws RX4 TX4 6
theorem nmX4 : ∀ a, a < 6 → ∀ b, b < 6 → a ≠ b → (TX4 a).2.1 ≠ (TX4 b).2.1 := by decide +kernel
theorem tyX4_ok : ∀ k, k < 6 → parseFieldDescriptor (TX4 k).2.2.1 = some (tyX4 k) := by decide +kernel
abbrev cX4_init : ByteArray := prog_6_method_1_code
def yX4_init : MethodName := ⟨RX4, "<init>", "()V"⟩
abbrev cX4_add : ByteArray := prog_6_method_2_code
def yX4_add : MethodName := ⟨RX4, "add", "(C)I"⟩
abbrev cX4_empty : ByteArray := prog_6_method_3_code
def yX4_empty : MethodName := ⟨RX4, "empty", "()I"⟩
abbrev cX4_countOrders : ByteArray := prog_6_method_4_code
def yX4_countOrders : MethodName := ⟨RX4, "countOrders", "()I"⟩
abbrev cX4_rewind : ByteArray := prog_6_method_5_code
def yX4_rewind : MethodName := ⟨RX4, "rewind", "()V"⟩
abbrev cX4_readNextOrder : ByteArray := prog_6_method_6_code
def yX4_readNextOrder : MethodName := ⟨RX4, "readNextOrder", "()V"⟩
abbrev cX4_readOrder : ByteArray := prog_6_method_7_code
def yX4_readOrder : MethodName := ⟨RX4, "readOrder", "()Z"⟩
abbrev cX4_readTarget : ByteArray := prog_6_method_8_code
def yX4_readTarget : MethodName := ⟨RX4, "readTarget", "(I)Z"⟩
abbrev cX4_readValue : ByteArray := prog_6_method_9_code
def yX4_readValue : MethodName := ⟨RX4, "readValue", "(II)Z"⟩
abbrev cX4_accept : ByteArray := prog_6_method_10_code
def yX4_accept : MethodName := ⟨RX4, "accept", "(C)Z"⟩
abbrev cX4_digitHere : ByteArray := prog_6_method_11_code
def yX4_digitHere : MethodName := ⟨RX4, "digitHere", "()I"⟩
abbrev cX4_here : ByteArray := prog_6_method_12_code
def yX4_here : MethodName := ⟨RX4, "here", "()I"⟩
def RX5 : String := "SteamRations$WaitingLine"
def TX5 : u_T := fun k => match k with
  | 0 => ("SteamRations$WaitingLine", "kinds", "[I", true)
  | _ => ("SteamRations$WaitingLine", "length", "I", false)
def tyX5 : Nat → FieldType := fun k => match k with
  | 0 => .array .int
  | _ => .int
abbrev wsX50 : List Cond := u_ws RX5 TX5 2
theorem nmX5 : ∀ a, a < 2 → ∀ b, b < 2 → a ≠ b → (TX5 a).2.1 ≠ (TX5 b).2.1 := by decide +kernel
theorem tyX5_ok : ∀ k, k < 2 → parseFieldDescriptor (TX5 k).2.2.1 = some (tyX5 k) := by decide +kernel
abbrev cX5_init : ByteArray := prog_7_method_1_code
def yX5_init : MethodName := ⟨RX5, "<init>", "()V"⟩
abbrev cX5_copyFrom : ByteArray := prog_7_method_2_code
def yX5_copyFrom : MethodName := ⟨RX5, "copyFrom", "(LSteamRations$WaitingLine;)V"⟩
abbrev cX5_kindAt : ByteArray := prog_7_method_3_code
def yX5_kindAt : MethodName := ⟨RX5, "kindAt", "(I)I"⟩
abbrev cX5_add : ByteArray := prog_7_method_4_code
def yX5_add : MethodName := ⟨RX5, "add", "(I)I"⟩
abbrev cX5_remove : ByteArray := prog_7_method_5_code
def yX5_remove : MethodName := ⟨RX5, "remove", "(I)I"⟩
def RX6 : String := "SteamRations"
def TX6 : u_T := fun k => match k with
  | 0 => ("SteamRations", "now", "LSteamRations$Laundry;", true)
  | 1 => ("SteamRations", "before", "LSteamRations$Laundry;", true)
  | 2 => ("SteamRations", "ahead", "LSteamRations$Laundry;", true)
  | 3 => ("SteamRations", "trial", "LSteamRations$Laundry;", true)
  | 4 => ("SteamRations", "snapshot", "LSteamRations$Laundry;", true)
  | 5 => ("SteamRations", "history", "LSteamRations$History;", true)
  | 6 => ("SteamRations", "text", "LSteamRations$OrderText;", true)
  | 7 => ("SteamRations", "hasSnapshot", "Z", false)
  | 8 => ("SteamRations", "stopNumber", "I", false)
  | _ => ("SteamRations", "stopError", "I", false)
def tyX6 : Nat → FieldType := fun k => match k with
  | 0 => .object "SteamRations$Laundry"
  | 1 => .object "SteamRations$Laundry"
  | 2 => .object "SteamRations$Laundry"
  | 3 => .object "SteamRations$Laundry"
  | 4 => .object "SteamRations$Laundry"
  | 5 => .object "SteamRations$History"
  | 6 => .object "SteamRations$OrderText"
  | 7 => .boolean
  | 8 => .int
  | _ => .int
abbrev wsX60 : List Cond := u_ws RX6 TX6 10
theorem nmX6 : ∀ a, a < 10 → ∀ b, b < 10 → a ≠ b → (TX6 a).2.1 ≠ (TX6 b).2.1 := by decide +kernel
theorem tyX6_ok : ∀ k, k < 10 → parseFieldDescriptor (TX6 k).2.2.1 = some (tyX6 k) := by decide +kernel
abbrev cX6_init : ByteArray := prog_1_method_1_code
def yX6_init : MethodName := ⟨RX6, "<init>", "()V"⟩
abbrev cX6_setFire : ByteArray := prog_1_method_2_code
def yX6_setFire : MethodName := ⟨RX6, "setFire", "(II)I"⟩
abbrev cX6_fill : ByteArray := prog_1_method_3_code
def yX6_fill : MethodName := ⟨RX6, "fill", "(II)I"⟩
abbrev cX6_setRation : ByteArray := prog_1_method_4_code
def yX6_setRation : MethodName := ⟨RX6, "setRation", "(I)I"⟩
abbrev cX6_start : ByteArray := prog_1_method_5_code
def yX6_start : MethodName := ⟨RX6, "start", "(II)I"⟩
abbrev cX6_queue : ByteArray := prog_1_method_6_code
def yX6_queue : MethodName := ⟨RX6, "queue", "(I)I"⟩
abbrev cX6_unqueue : ByteArray := prog_1_method_7_code
def yX6_unqueue : MethodName := ⟨RX6, "unqueue", "(I)I"⟩
abbrev cX6_takeOut : ByteArray := prog_1_method_8_code
def yX6_takeOut : MethodName := ⟨RX6, "takeOut", "(I)I"⟩
abbrev cX6_run : ByteArray := prog_1_method_9_code
def yX6_run : MethodName := ⟨RX6, "run", "(I)I"⟩
abbrev cX6_type : ByteArray := prog_1_method_10_code
def yX6_type : MethodName := ⟨RX6, "type", "(C)I"⟩
abbrev cX6_clearText : ByteArray := prog_1_method_11_code
def yX6_clearText : MethodName := ⟨RX6, "clearText", "()I"⟩
abbrev cX6_perform : ByteArray := prog_1_method_12_code
def yX6_perform : MethodName := ⟨RX6, "perform", "()I"⟩
abbrev cX6_stopped : ByteArray := prog_1_method_13_code
def yX6_stopped : MethodName := ⟨RX6, "stopped", "(I)I"⟩
abbrev cX6_undo : ByteArray := prog_1_method_14_code
def yX6_undo : MethodName := ⟨RX6, "undo", "()I"⟩
abbrev cX6_keep : ByteArray := prog_1_method_15_code
def yX6_keep : MethodName := ⟨RX6, "keep", "()I"⟩
abbrev cX6_restore : ByteArray := prog_1_method_16_code
def yX6_restore : MethodName := ⟨RX6, "restore", "()I"⟩
abbrev cX6_boiler : ByteArray := prog_1_method_17_code
def yX6_boiler : MethodName := ⟨RX6, "boiler", "(II)I"⟩
abbrev cX6_machine : ByteArray := prog_1_method_18_code
def yX6_machine : MethodName := ⟨RX6, "machine", "(II)I"⟩
abbrev cX6_line : ByteArray := prog_1_method_19_code
def yX6_line : MethodName := ⟨RX6, "line", "(I)I"⟩
abbrev cX6_reason : ByteArray := prog_1_method_20_code
def yX6_reason : MethodName := ⟨RX6, "reason", "(I)I"⟩
abbrev cX6_doneIn : ByteArray := prog_1_method_21_code
def yX6_doneIn : MethodName := ⟨RX6, "doneIn", "()I"⟩
abbrev cX6_ifFires : ByteArray := prog_1_method_22_code
def yX6_ifFires : MethodName := ⟨RX6, "ifFires", "(IIII)I"⟩
abbrev cX6_bestFires : ByteArray := prog_1_method_23_code
def yX6_bestFires : MethodName := ⟨RX6, "bestFires", "(I)I"⟩
abbrev cX6_count : ByteArray := prog_1_method_24_code
def yX6_count : MethodName := ⟨RX6, "count", "(I)I"⟩
abbrev cX6_recorded : ByteArray := prog_1_method_25_code
def yX6_recorded : MethodName := ⟨RX6, "recorded", "(I)I"⟩
abbrev cX6_obeyNextOrder : ByteArray := prog_1_method_26_code
def yX6_obeyNextOrder : MethodName := ⟨RX6, "obeyNextOrder", "()I"⟩
abbrev cX6_lookAhead : ByteArray := prog_1_method_27_code
def yX6_lookAhead : MethodName := ⟨RX6, "lookAhead", "(III)V"⟩
abbrev cX6_isWithin : ByteArray := prog_1_method_28_code
def yX6_isWithin : MethodName := ⟨RX6, "isWithin", "(III)Z"⟩
abbrev cX6_ticksOf : ByteArray := prog_1_method_29_code
def yX6_ticksOf : MethodName := ⟨RX6, "ticksOf", "(I)I"⟩
abbrev cX6_steamOf : ByteArray := prog_1_method_30_code
def yX6_steamOf : MethodName := ⟨RX6, "steamOf", "(I)I"⟩
abbrev cX6_worthOf : ByteArray := prog_1_method_31_code
def yX6_worthOf : MethodName := ⟨RX6, "worthOf", "(I)I"⟩
def RX7 : String := "SteamRationsModel"
def TX7 : u_T := fun k => match k with
  | 0 => ("SteamRationsModel", "s", "[I", true)
  | 1 => ("SteamRationsModel", "states", "I", false)
  | 2 => ("SteamRationsModel", "isKept", "Z", false)
  | 3 => ("SteamRationsModel", "text", "[C", true)
  | 4 => ("SteamRationsModel", "typed", "I", false)
  | 5 => ("SteamRationsModel", "at", "I", false)
  | 6 => ("SteamRationsModel", "isRight", "Z", false)
  | 7 => ("SteamRationsModel", "command", "[I", true)
  | 8 => ("SteamRationsModel", "commands", "I", false)
  | 9 => ("SteamRationsModel", "stoppedAt", "I", false)
  | _ => ("SteamRationsModel", "stoppedBy", "I", false)
def tyX7 : Nat → FieldType := fun k => match k with
  | 0 => .array .int
  | 1 => .int
  | 2 => .boolean
  | 3 => .array .char
  | 4 => .int
  | 5 => .int
  | 6 => .boolean
  | 7 => .array .int
  | 8 => .int
  | 9 => .int
  | _ => .int
abbrev wsX70 : List Cond := u_ws RX7 TX7 11
theorem nmX7 : ∀ a, a < 11 → ∀ b, b < 11 → a ≠ b → (TX7 a).2.1 ≠ (TX7 b).2.1 := by decide +kernel
theorem tyX7_ok : ∀ k, k < 11 → parseFieldDescriptor (TX7 k).2.2.1 = some (tyX7 k) := by decide +kernel
abbrev cX7_init : ByteArray := prog_9_method_1_code
def yX7_init : MethodName := ⟨RX7, "<init>", "()V"⟩
abbrev cX7_in : ByteArray := prog_9_method_2_code
def yX7_in : MethodName := ⟨RX7, "in", "(III)Z"⟩
abbrev cX7_ticksOf : ByteArray := prog_9_method_3_code
def yX7_ticksOf : MethodName := ⟨RX7, "ticksOf", "(I)I"⟩
abbrev cX7_worthOf : ByteArray := prog_9_method_4_code
def yX7_worthOf : MethodName := ⟨RX7, "worthOf", "(I)I"⟩
abbrev cX7_copies : ByteArray := prog_9_method_5_code
def yX7_copies : MethodName := ⟨RX7, "copies", "(II)V"⟩
abbrev cX7_records : ByteArray := prog_9_method_6_code
def yX7_records : MethodName := ⟨RX7, "records", "()V"⟩
abbrev cX7_fires : ByteArray := prog_9_method_7_code
def yX7_fires : MethodName := ⟨RX7, "fires", "(II)V"⟩
abbrev cX7_need : ByteArray := prog_9_method_8_code
def yX7_need : MethodName := ⟨RX7, "need", "(I)I"⟩
abbrev cX7_pressure : ByteArray := prog_9_method_9_code
def yX7_pressure : MethodName := ⟨RX7, "pressure", "(I)I"⟩
abbrev cX7_empties : ByteArray := prog_9_method_10_code
def yX7_empties : MethodName := ⟨RX7, "empties", "(II)V"⟩
abbrev cX7_washes : ByteArray := prog_9_method_11_code
def yX7_washes : MethodName := ⟨RX7, "washes", "(I)V"⟩
abbrev cX7_waits : ByteArray := prog_9_method_12_code
def yX7_waits : MethodName := ⟨RX7, "waits", "(I)V"⟩
abbrev cX7_works : ByteArray := prog_9_method_13_code
def yX7_works : MethodName := ⟨RX7, "works", "(I)V"⟩
abbrev cX7_lowestEmpty : ByteArray := prog_9_method_14_code
def yX7_lowestEmpty : MethodName := ⟨RX7, "lowestEmpty", "(I)I"⟩
abbrev cX7_puts : ByteArray := prog_9_method_15_code
def yX7_puts : MethodName := ⟨RX7, "puts", "(III)V"⟩
abbrev cX7_passes : ByteArray := prog_9_method_16_code
def yX7_passes : MethodName := ⟨RX7, "passes", "(I)V"⟩
abbrev cX7_why : ByteArray := prog_9_method_17_code
def yX7_why : MethodName := ⟨RX7, "why", "(III)I"⟩
abbrev cX7_leaves : ByteArray := prog_9_method_18_code
def yX7_leaves : MethodName := ⟨RX7, "leaves", "(II)I"⟩
abbrev cX7_ticks : ByteArray := prog_9_method_19_code
def yX7_ticks : MethodName := ⟨RX7, "ticks", "(II)V"⟩
abbrev cX7_sets : ByteArray := prog_9_method_20_code
def yX7_sets : MethodName := ⟨RX7, "sets", "(III)I"⟩
abbrev cX7_fills : ByteArray := prog_9_method_21_code
def yX7_fills : MethodName := ⟨RX7, "fills", "(III)I"⟩
abbrev cX7_starts : ByteArray := prog_9_method_22_code
def yX7_starts : MethodName := ⟨RX7, "starts", "(III)I"⟩
abbrev cX7_queues : ByteArray := prog_9_method_23_code
def yX7_queues : MethodName := ⟨RX7, "queues", "(II)I"⟩
abbrev cX7_runs : ByteArray := prog_9_method_24_code
def yX7_runs : MethodName := ⟨RX7, "runs", "(II)I"⟩
abbrev cX7_settles : ByteArray := prog_9_method_25_code
def yX7_settles : MethodName := ⟨RX7, "settles", "(I)I"⟩
abbrev cX7_setFire : ByteArray := prog_9_method_26_code
def yX7_setFire : MethodName := ⟨RX7, "setFire", "(II)I"⟩
abbrev cX7_fill : ByteArray := prog_9_method_27_code
def yX7_fill : MethodName := ⟨RX7, "fill", "(II)I"⟩
abbrev cX7_setRation : ByteArray := prog_9_method_28_code
def yX7_setRation : MethodName := ⟨RX7, "setRation", "(I)I"⟩
abbrev cX7_start : ByteArray := prog_9_method_29_code
def yX7_start : MethodName := ⟨RX7, "start", "(II)I"⟩
abbrev cX7_queue : ByteArray := prog_9_method_30_code
def yX7_queue : MethodName := ⟨RX7, "queue", "(I)I"⟩
abbrev cX7_unqueue : ByteArray := prog_9_method_31_code
def yX7_unqueue : MethodName := ⟨RX7, "unqueue", "(I)I"⟩
abbrev cX7_takeOut : ByteArray := prog_9_method_32_code
def yX7_takeOut : MethodName := ⟨RX7, "takeOut", "(I)I"⟩
abbrev cX7_run : ByteArray := prog_9_method_33_code
def yX7_run : MethodName := ⟨RX7, "run", "(I)I"⟩
abbrev cX7_isNext : ByteArray := prog_9_method_34_code
def yX7_isNext : MethodName := ⟨RX7, "isNext", "(II)Z"⟩
abbrev cX7_digit : ByteArray := prog_9_method_35_code
def yX7_digit : MethodName := ⟨RX7, "digit", "(I)I"⟩
abbrev cX7_number : ByteArray := prog_9_method_36_code
def yX7_number : MethodName := ⟨RX7, "number", "()I"⟩
abbrev cX7_reads : ByteArray := prog_9_method_37_code
def yX7_reads : MethodName := ⟨RX7, "reads", "()V"⟩
abbrev cX7_fault : ByteArray := prog_9_method_38_code
def yX7_fault : MethodName := ⟨RX7, "fault", "()I"⟩
abbrev cX7_does : ByteArray := prog_9_method_39_code
def yX7_does : MethodName := ⟨RX7, "does", "(I)I"⟩
abbrev cX7_perform : ByteArray := prog_9_method_40_code
def yX7_perform : MethodName := ⟨RX7, "perform", "()I"⟩
abbrev cX7_stopped : ByteArray := prog_9_method_41_code
def yX7_stopped : MethodName := ⟨RX7, "stopped", "(I)I"⟩
abbrev cX7_type : ByteArray := prog_9_method_42_code
def yX7_type : MethodName := ⟨RX7, "type", "(C)I"⟩
abbrev cX7_clearText : ByteArray := prog_9_method_43_code
def yX7_clearText : MethodName := ⟨RX7, "clearText", "()I"⟩
abbrev cX7_undo : ByteArray := prog_9_method_44_code
def yX7_undo : MethodName := ⟨RX7, "undo", "()I"⟩
abbrev cX7_keep : ByteArray := prog_9_method_45_code
def yX7_keep : MethodName := ⟨RX7, "keep", "()I"⟩
abbrev cX7_restore : ByteArray := prog_9_method_46_code
def yX7_restore : MethodName := ⟨RX7, "restore", "()I"⟩
abbrev cX7_boiler : ByteArray := prog_9_method_47_code
def yX7_boiler : MethodName := ⟨RX7, "boiler", "(II)I"⟩
abbrev cX7_machine : ByteArray := prog_9_method_48_code
def yX7_machine : MethodName := ⟨RX7, "machine", "(II)I"⟩
abbrev cX7_line : ByteArray := prog_9_method_49_code
def yX7_line : MethodName := ⟨RX7, "line", "(I)I"⟩
abbrev cX7_reason : ByteArray := prog_9_method_50_code
def yX7_reason : MethodName := ⟨RX7, "reason", "(I)I"⟩
abbrev cX7_isDone : ByteArray := prog_9_method_51_code
def yX7_isDone : MethodName := ⟨RX7, "isDone", "(I)Z"⟩
abbrev cX7_doneIn : ByteArray := prog_9_method_52_code
def yX7_doneIn : MethodName := ⟨RX7, "doneIn", "()I"⟩
abbrev cX7_tries : ByteArray := prog_9_method_53_code
def yX7_tries : MethodName := ⟨RX7, "tries", "(III)V"⟩
abbrev cX7_more : ByteArray := prog_9_method_54_code
def yX7_more : MethodName := ⟨RX7, "more", "(I)I"⟩
abbrev cX7_ifFires : ByteArray := prog_9_method_55_code
def yX7_ifFires : MethodName := ⟨RX7, "ifFires", "(IIII)I"⟩
abbrev cX7_bestFires : ByteArray := prog_9_method_56_code
def yX7_bestFires : MethodName := ⟨RX7, "bestFires", "(I)I"⟩
abbrev cX7_loaded : ByteArray := prog_9_method_57_code
def yX7_loaded : MethodName := ⟨RX7, "loaded", "()I"⟩
abbrev cX7_count : ByteArray := prog_9_method_58_code
def yX7_count : MethodName := ⟨RX7, "count", "(I)I"⟩
def RJ9 : String := "java/lang/Math"
def TJ9 : u_T := fun k => match k with
  | _ => ("", "", "", false)
def tyJ9 : Nat → FieldType := fun k => match k with
  | _ => .int
abbrev wsJ90 : List Cond := u_ws RJ9 TJ9 0
theorem nmJ9 : ∀ a, a < 0 → ∀ b, b < 0 → a ≠ b → (TJ9 a).2.1 ≠ (TJ9 b).2.1 := by decide +kernel
theorem tyJ9_ok : ∀ k, k < 0 → parseFieldDescriptor (TJ9 k).2.2.1 = some (tyJ9 k) := by decide +kernel
abbrev cJ9_min_7cf53 : ByteArray := prog_10_method_69_code
def yJ9_min_7cf53 : MethodName := ⟨RJ9, "min", "(II)I"⟩
def RL : String := "SteamRationsLaw"
abbrev cL_law : ByteArray := code
def yL_law : MethodName := ⟨RL, "law", "([I)Z"⟩
def wsX0_init : List Cond := .code yX0_init cX0_init 1 none :: ([.methodLink RX0 3 objectInit, .instanceMethod objectInit, .code objectInit ⟨#[0xb1]⟩ 1 none, .fieldLink RX0 9 "SteamRations$Boiler" "water" "I"] ++ wsX00)
def wsX0_copyFrom : List Cond := .code yX0_copyFrom cX0_copyFrom 2 none :: ([.fieldLink RX0 15 "SteamRations$Boiler" "fire" "I", .fieldLink RX0 9 "SteamRations$Boiler" "water" "I", .fieldLink RX0 18 "SteamRations$Boiler" "pressure" "I", .fieldLink RX0 21 "SteamRations$Boiler" "stopLeft" "I", .fieldLink RX0 24 "SteamRations$Boiler" "stops" "I"] ++ wsX00)
def wsX0_burn : List Cond := .code yX0_burn cX0_burn 2 (some .int) :: ([.fieldLink RX0 21 "SteamRations$Boiler" "stopLeft" "I", .fieldLink RX0 15 "SteamRations$Boiler" "fire" "I", .fieldLink RX0 9 "SteamRations$Boiler" "water" "I", .fieldLink RX0 18 "SteamRations$Boiler" "pressure" "I"] ++ wsX00)
def wsX0_coolDown : List Cond := .code yX0_coolDown cX0_coolDown 1 none :: ([.fieldLink RX0 18 "SteamRations$Boiler" "pressure" "I", .fieldLink RX0 15 "SteamRations$Boiler" "fire" "I", .fieldLink RX0 21 "SteamRations$Boiler" "stopLeft" "I", .fieldLink RX0 24 "SteamRations$Boiler" "stops" "I"] ++ wsX00)
def wsX3_init : List Cond := .code yX3_init cX3_init 1 none :: ([.methodLink RX3 3 objectInit, .instanceMethod objectInit, .code objectInit ⟨#[0xb1]⟩ 1 none, .fieldLink RX3 9 "SteamRations$Machine" "kind" "I"] ++ wsX30)
def wsX5_init : List Cond := .code yX5_init cX5_init 1 none :: ([.methodLink RX5 3 objectInit, .instanceMethod objectInit, .code objectInit ⟨#[0xb1]⟩ 1 none, .arrayClass .int, .fieldLink RX5 9 "SteamRations$WaitingLine" "kinds" "[I"] ++ wsX50)
def wsX2_init_r1 : List Cond := [Cond.methodLink RX2 3 objectInit, Cond.instanceMethod objectInit, Cond.code objectInit ⟨#[0xb1]⟩ 1 none, Cond.classLink RX2 9 RX0, Cond.instantiable RX0 5, Cond.initialized RX0, Cond.fieldLink RX2 12 "SteamRations$Laundry" "boilers" "[LSteamRations$Boiler;", Cond.classLink RX2 18 RX3, Cond.instantiable RX3 3, Cond.initialized RX3, Cond.fieldLink RX2 21 "SteamRations$Laundry" "machines" "[LSteamRations$Machine;", Cond.classLink RX2 25 RX5, Cond.instantiable RX5 2, Cond.initialized RX5, Cond.fieldLink RX2 28 "SteamRations$Laundry" "waiting" "LSteamRations$WaitingLine;", Cond.fieldLink RX2 32 "SteamRations$Laundry" "coal" "I", Cond.fieldLink RX2 36 "SteamRations$Laundry" "ration" "I", Cond.methodLink RX2 11 yX0_init, Cond.instanceMethod yX0_init, Cond.code yX0_init cX0_init 1 none, Cond.methodLink RX0 3 objectInit, Cond.fieldLink RX0 9 "SteamRations$Boiler" "water" "I", Cond.methodLink RX2 20 yX3_init, Cond.instanceMethod yX3_init]
def wsX2_init_r2 : List Cond := [Cond.code yX3_init cX3_init 1 none, Cond.methodLink RX3 3 objectInit, Cond.fieldLink RX3 9 "SteamRations$Machine" "kind" "I", Cond.methodLink RX2 27 yX5_init, Cond.instanceMethod yX5_init, Cond.code yX5_init cX5_init 1 none, Cond.methodLink RX5 3 objectInit, Cond.arrayClass .int, Cond.fieldLink RX5 9 "SteamRations$WaitingLine" "kinds" "[I"]
def wsX2_init : List Cond := .code yX2_init cX2_init 1 none :: ((wsX2_init_r1 ++ wsX2_init_r2) ++ wsX00 ++ wsX20 ++ wsX30 ++ wsX50)
def wsX1_init_r1 : List Cond := [Cond.methodLink RX1 3 objectInit, Cond.instanceMethod objectInit, Cond.code objectInit ⟨#[0xb1]⟩ 1 none, Cond.classLink RX1 9 RX2, Cond.instantiable RX2 14, Cond.initialized RX2, Cond.fieldLink RX1 12 "SteamRations$History" "states" "[LSteamRations$Laundry;", Cond.methodLink RX1 11 yX2_init, Cond.instanceMethod yX2_init, Cond.code yX2_init cX2_init 1 none, Cond.methodLink RX2 3 objectInit, Cond.classLink RX2 9 RX0, Cond.instantiable RX0 5, Cond.initialized RX0, Cond.fieldLink RX2 12 "SteamRations$Laundry" "boilers" "[LSteamRations$Boiler;", Cond.classLink RX2 18 RX3, Cond.instantiable RX3 3, Cond.initialized RX3, Cond.fieldLink RX2 21 "SteamRations$Laundry" "machines" "[LSteamRations$Machine;", Cond.classLink RX2 25 RX5, Cond.instantiable RX5 2, Cond.initialized RX5, Cond.fieldLink RX2 28 "SteamRations$Laundry" "waiting" "LSteamRations$WaitingLine;", Cond.fieldLink RX2 32 "SteamRations$Laundry" "coal" "I"]
def wsX1_init_r2 : List Cond := [Cond.fieldLink RX2 36 "SteamRations$Laundry" "ration" "I", Cond.methodLink RX2 11 yX0_init, Cond.instanceMethod yX0_init, Cond.code yX0_init cX0_init 1 none, Cond.methodLink RX0 3 objectInit, Cond.fieldLink RX0 9 "SteamRations$Boiler" "water" "I", Cond.methodLink RX2 20 yX3_init, Cond.instanceMethod yX3_init, Cond.code yX3_init cX3_init 1 none, Cond.methodLink RX3 3 objectInit, Cond.fieldLink RX3 9 "SteamRations$Machine" "kind" "I", Cond.methodLink RX2 27 yX5_init, Cond.instanceMethod yX5_init, Cond.code yX5_init cX5_init 1 none, Cond.methodLink RX5 3 objectInit, Cond.arrayClass .int, Cond.fieldLink RX5 9 "SteamRations$WaitingLine" "kinds" "[I"]
def wsX1_init : List Cond := .code yX1_init cX1_init 1 none :: ((wsX1_init_r1 ++ wsX1_init_r2) ++ wsX20 ++ wsX10 ++ wsX00 ++ wsX30 ++ wsX50)
def wsX1_dropOldest : List Cond := .code yX1_dropOldest cX1_dropOldest 3 none :: ([.fieldLink RX1 12 "SteamRations$History" "states" "[LSteamRations$Laundry;", .fieldLink RX1 18 "SteamRations$History" "size" "I"] ++ wsX10)
def wsX3_copyFrom : List Cond := .code yX3_copyFrom cX3_copyFrom 2 none :: ([.fieldLink RX3 9 "SteamRations$Machine" "kind" "I", .fieldLink RX3 15 "SteamRations$Machine" "left" "I", .fieldLink RX3 18 "SteamRations$Machine" "waits" "I"] ++ wsX30)
def wsX5_copyFrom : List Cond := .code yX5_copyFrom cX5_copyFrom 3 none :: ([.fieldLink RX5 15 "SteamRations$WaitingLine" "length" "I", .fieldLink RX5 9 "SteamRations$WaitingLine" "kinds" "[I"] ++ wsX50)
def wsX2_copyFrom_r1 : List Cond := [Cond.fieldLink RX2 12 "SteamRations$Laundry" "boilers" "[LSteamRations$Boiler;", Cond.fieldLink RX2 21 "SteamRations$Laundry" "machines" "[LSteamRations$Machine;", Cond.fieldLink RX2 28 "SteamRations$Laundry" "waiting" "LSteamRations$WaitingLine;", Cond.fieldLink RX2 49 "SteamRations$Laundry" "ticks" "I", Cond.fieldLink RX2 52 "SteamRations$Laundry" "washed" "I", Cond.fieldLink RX2 55 "SteamRations$Laundry" "spoiled" "I", Cond.fieldLink RX2 58 "SteamRations$Laundry" "burnt" "I", Cond.fieldLink RX2 32 "SteamRations$Laundry" "coal" "I", Cond.fieldLink RX2 36 "SteamRations$Laundry" "ration" "I", Cond.fieldLink RX2 61 "SteamRations$Laundry" "rationed" "I", Cond.fieldLink RX2 64 "SteamRations$Laundry" "started" "I", Cond.fieldLink RX2 67 "SteamRations$Laundry" "takenOut" "I", Cond.fieldLink RX2 70 "SteamRations$Laundry" "worth" "I", Cond.fieldLink RX2 73 "SteamRations$Laundry" "ticksOfWaits" "I", Cond.methodLink RX2 39 yX0_copyFrom, Cond.instanceMethod yX0_copyFrom, Cond.selects RX0 yX0_copyFrom yX0_copyFrom, Cond.initialized RX0, Cond.code yX0_copyFrom cX0_copyFrom 2 none, Cond.fieldLink RX0 15 "SteamRations$Boiler" "fire" "I", Cond.fieldLink RX0 9 "SteamRations$Boiler" "water" "I", Cond.fieldLink RX0 18 "SteamRations$Boiler" "pressure" "I", Cond.fieldLink RX0 21 "SteamRations$Boiler" "stopLeft" "I", Cond.fieldLink RX0 24 "SteamRations$Boiler" "stops" "I"]
def wsX2_copyFrom_r2 : List Cond := [Cond.methodLink RX2 43 yX3_copyFrom, Cond.instanceMethod yX3_copyFrom, Cond.selects RX3 yX3_copyFrom yX3_copyFrom, Cond.initialized RX3, Cond.code yX3_copyFrom cX3_copyFrom 2 none, Cond.fieldLink RX3 9 "SteamRations$Machine" "kind" "I", Cond.fieldLink RX3 15 "SteamRations$Machine" "left" "I", Cond.fieldLink RX3 18 "SteamRations$Machine" "waits" "I", Cond.methodLink RX2 46 yX5_copyFrom, Cond.instanceMethod yX5_copyFrom, Cond.selects RX5 yX5_copyFrom yX5_copyFrom, Cond.initialized RX5, Cond.code yX5_copyFrom cX5_copyFrom 3 none, Cond.fieldLink RX5 15 "SteamRations$WaitingLine" "length" "I", Cond.fieldLink RX5 9 "SteamRations$WaitingLine" "kinds" "[I"]
def wsX2_copyFrom : List Cond := .code yX2_copyFrom cX2_copyFrom 3 none :: ((wsX2_copyFrom_r1 ++ wsX2_copyFrom_r2) ++ wsX20 ++ wsX00 ++ wsX30 ++ wsX50)
def wsX1_push_r1 : List Cond := [Cond.fieldLink RX1 18 "SteamRations$History" "size" "I", Cond.fieldLink RX1 12 "SteamRations$History" "states" "[LSteamRations$Laundry;", Cond.methodLink RX1 22 yX1_dropOldest, Cond.instanceMethod yX1_dropOldest, Cond.selects RX1 yX1_dropOldest yX1_dropOldest, Cond.initialized RX1, Cond.code yX1_dropOldest cX1_dropOldest 3 none, Cond.methodLink RX1 25 yX2_copyFrom, Cond.instanceMethod yX2_copyFrom, Cond.selects RX2 yX2_copyFrom yX2_copyFrom, Cond.initialized RX2, Cond.code yX2_copyFrom cX2_copyFrom 3 none, Cond.fieldLink RX2 12 "SteamRations$Laundry" "boilers" "[LSteamRations$Boiler;", Cond.fieldLink RX2 21 "SteamRations$Laundry" "machines" "[LSteamRations$Machine;", Cond.fieldLink RX2 28 "SteamRations$Laundry" "waiting" "LSteamRations$WaitingLine;", Cond.fieldLink RX2 49 "SteamRations$Laundry" "ticks" "I", Cond.fieldLink RX2 52 "SteamRations$Laundry" "washed" "I", Cond.fieldLink RX2 55 "SteamRations$Laundry" "spoiled" "I", Cond.fieldLink RX2 58 "SteamRations$Laundry" "burnt" "I", Cond.fieldLink RX2 32 "SteamRations$Laundry" "coal" "I", Cond.fieldLink RX2 36 "SteamRations$Laundry" "ration" "I", Cond.fieldLink RX2 61 "SteamRations$Laundry" "rationed" "I", Cond.fieldLink RX2 64 "SteamRations$Laundry" "started" "I", Cond.fieldLink RX2 67 "SteamRations$Laundry" "takenOut" "I"]
def wsX1_push_r2 : List Cond := [Cond.fieldLink RX2 70 "SteamRations$Laundry" "worth" "I", Cond.fieldLink RX2 73 "SteamRations$Laundry" "ticksOfWaits" "I", Cond.methodLink RX2 39 yX0_copyFrom, Cond.instanceMethod yX0_copyFrom, Cond.selects RX0 yX0_copyFrom yX0_copyFrom, Cond.initialized RX0, Cond.code yX0_copyFrom cX0_copyFrom 2 none, Cond.fieldLink RX0 15 "SteamRations$Boiler" "fire" "I", Cond.fieldLink RX0 9 "SteamRations$Boiler" "water" "I", Cond.fieldLink RX0 18 "SteamRations$Boiler" "pressure" "I", Cond.fieldLink RX0 21 "SteamRations$Boiler" "stopLeft" "I", Cond.fieldLink RX0 24 "SteamRations$Boiler" "stops" "I", Cond.methodLink RX2 43 yX3_copyFrom, Cond.instanceMethod yX3_copyFrom, Cond.selects RX3 yX3_copyFrom yX3_copyFrom, Cond.initialized RX3, Cond.code yX3_copyFrom cX3_copyFrom 2 none, Cond.fieldLink RX3 9 "SteamRations$Machine" "kind" "I", Cond.fieldLink RX3 15 "SteamRations$Machine" "left" "I", Cond.fieldLink RX3 18 "SteamRations$Machine" "waits" "I", Cond.methodLink RX2 46 yX5_copyFrom, Cond.instanceMethod yX5_copyFrom, Cond.selects RX5 yX5_copyFrom yX5_copyFrom, Cond.initialized RX5]
def wsX1_push_r3 : List Cond := [Cond.code yX5_copyFrom cX5_copyFrom 3 none, Cond.fieldLink RX5 15 "SteamRations$WaitingLine" "length" "I", Cond.fieldLink RX5 9 "SteamRations$WaitingLine" "kinds" "[I"]
def wsX1_push : List Cond := .code yX1_push cX1_push 2 none :: ((wsX1_push_r1 ++ (wsX1_push_r2 ++ wsX1_push_r3)) ++ wsX10 ++ wsX20 ++ wsX00 ++ wsX30 ++ wsX50)
def wsX1_takeBack_r1 : List Cond := [Cond.fieldLink RX1 18 "SteamRations$History" "size" "I", Cond.fieldLink RX1 12 "SteamRations$History" "states" "[LSteamRations$Laundry;", Cond.methodLink RX1 25 yX2_copyFrom, Cond.instanceMethod yX2_copyFrom, Cond.selects RX2 yX2_copyFrom yX2_copyFrom, Cond.initialized RX2, Cond.code yX2_copyFrom cX2_copyFrom 3 none, Cond.fieldLink RX2 12 "SteamRations$Laundry" "boilers" "[LSteamRations$Boiler;", Cond.fieldLink RX2 21 "SteamRations$Laundry" "machines" "[LSteamRations$Machine;", Cond.fieldLink RX2 28 "SteamRations$Laundry" "waiting" "LSteamRations$WaitingLine;", Cond.fieldLink RX2 49 "SteamRations$Laundry" "ticks" "I", Cond.fieldLink RX2 52 "SteamRations$Laundry" "washed" "I", Cond.fieldLink RX2 55 "SteamRations$Laundry" "spoiled" "I", Cond.fieldLink RX2 58 "SteamRations$Laundry" "burnt" "I", Cond.fieldLink RX2 32 "SteamRations$Laundry" "coal" "I", Cond.fieldLink RX2 36 "SteamRations$Laundry" "ration" "I", Cond.fieldLink RX2 61 "SteamRations$Laundry" "rationed" "I", Cond.fieldLink RX2 64 "SteamRations$Laundry" "started" "I", Cond.fieldLink RX2 67 "SteamRations$Laundry" "takenOut" "I", Cond.fieldLink RX2 70 "SteamRations$Laundry" "worth" "I", Cond.fieldLink RX2 73 "SteamRations$Laundry" "ticksOfWaits" "I", Cond.methodLink RX2 39 yX0_copyFrom, Cond.instanceMethod yX0_copyFrom, Cond.selects RX0 yX0_copyFrom yX0_copyFrom]
def wsX1_takeBack_r2 : List Cond := [Cond.initialized RX0, Cond.code yX0_copyFrom cX0_copyFrom 2 none, Cond.fieldLink RX0 15 "SteamRations$Boiler" "fire" "I", Cond.fieldLink RX0 9 "SteamRations$Boiler" "water" "I", Cond.fieldLink RX0 18 "SteamRations$Boiler" "pressure" "I", Cond.fieldLink RX0 21 "SteamRations$Boiler" "stopLeft" "I", Cond.fieldLink RX0 24 "SteamRations$Boiler" "stops" "I", Cond.methodLink RX2 43 yX3_copyFrom, Cond.instanceMethod yX3_copyFrom, Cond.selects RX3 yX3_copyFrom yX3_copyFrom, Cond.initialized RX3, Cond.code yX3_copyFrom cX3_copyFrom 2 none, Cond.fieldLink RX3 9 "SteamRations$Machine" "kind" "I", Cond.fieldLink RX3 15 "SteamRations$Machine" "left" "I", Cond.fieldLink RX3 18 "SteamRations$Machine" "waits" "I", Cond.methodLink RX2 46 yX5_copyFrom, Cond.instanceMethod yX5_copyFrom, Cond.selects RX5 yX5_copyFrom yX5_copyFrom, Cond.initialized RX5, Cond.code yX5_copyFrom cX5_copyFrom 3 none, Cond.fieldLink RX5 15 "SteamRations$WaitingLine" "length" "I", Cond.fieldLink RX5 9 "SteamRations$WaitingLine" "kinds" "[I"]
def wsX1_takeBack : List Cond := .code yX1_takeBack cX1_takeBack 2 (some .int) :: ((wsX1_takeBack_r1 ++ wsX1_takeBack_r2) ++ wsX10 ++ wsX20 ++ wsX00 ++ wsX30 ++ wsX50)
def wsX2_boilerAt : List Cond := .code yX2_boilerAt cX2_boilerAt 2 (some (.object "SteamRations$Boiler")) :: ([.fieldLink RX2 12 "SteamRations$Laundry" "boilers" "[LSteamRations$Boiler;"] ++ wsX20)
def wsX2_machineAt : List Cond := .code yX2_machineAt cX2_machineAt 2 (some (.object "SteamRations$Machine")) :: ([.fieldLink RX2 21 "SteamRations$Laundry" "machines" "[LSteamRations$Machine;"] ++ wsX20)
def wsX3_isEmpty : List Cond := .code yX3_isEmpty cX3_isEmpty 1 (some .boolean) :: ([.fieldLink RX3 9 "SteamRations$Machine" "kind" "I"] ++ wsX30)
def wsX2_lowestEmptyMachine : List Cond := .code yX2_lowestEmptyMachine cX2_lowestEmptyMachine 5 (some (.object "SteamRations$Machine")) :: ([.fieldLink RX2 21 "SteamRations$Laundry" "machines" "[LSteamRations$Machine;", .methodLink RX2 76 yX3_isEmpty, .instanceMethod yX3_isEmpty, .selects RX3 yX3_isEmpty yX3_isEmpty, .initialized RX3, .code yX3_isEmpty cX3_isEmpty 1 (some .boolean), .fieldLink RX3 9 "SteamRations$Machine" "kind" "I"] ++ wsX20 ++ wsX30)
def wsX2_loadsInMachines : List Cond := .code yX2_loadsInMachines cX2_loadsInMachines 6 (some .int) :: ([.fieldLink RX2 21 "SteamRations$Laundry" "machines" "[LSteamRations$Machine;", .methodLink RX2 76 yX3_isEmpty, .instanceMethod yX3_isEmpty, .selects RX3 yX3_isEmpty yX3_isEmpty, .initialized RX3, .code yX3_isEmpty cX3_isEmpty 1 (some .boolean), .fieldLink RX3 9 "SteamRations$Machine" "kind" "I"] ++ wsX20 ++ wsX30)
def wsX2_isIdle : List Cond := .code yX2_isIdle cX2_isIdle 1 (some .boolean) :: ([.fieldLink RX2 28 "SteamRations$Laundry" "waiting" "LSteamRations$WaitingLine;", .fieldLink RX2 80 "SteamRations$WaitingLine" "length" "I", .methodLink RX2 83 yX2_loadsInMachines, .instanceMethod yX2_loadsInMachines, .selects RX2 yX2_loadsInMachines yX2_loadsInMachines, .initialized RX2, .code yX2_loadsInMachines cX2_loadsInMachines 6 (some .int), .fieldLink RX2 21 "SteamRations$Laundry" "machines" "[LSteamRations$Machine;", .methodLink RX2 76 yX3_isEmpty, .instanceMethod yX3_isEmpty, .selects RX3 yX3_isEmpty yX3_isEmpty, .initialized RX3, .code yX3_isEmpty cX3_isEmpty 1 (some .boolean), .fieldLink RX3 9 "SteamRations$Machine" "kind" "I"] ++ wsX20 ++ wsX50 ++ wsX30)
def wsX2_allPressure : List Cond := .code yX2_allPressure cX2_allPressure 6 (some .int) :: ([.fieldLink RX2 12 "SteamRations$Laundry" "boilers" "[LSteamRations$Boiler;", .fieldLink RX2 87 "SteamRations$Boiler" "pressure" "I"] ++ wsX20 ++ wsX00)
def wsX2_safetyStops : List Cond := .code yX2_safetyStops cX2_safetyStops 6 (some .int) :: ([.fieldLink RX2 12 "SteamRations$Laundry" "boilers" "[LSteamRations$Boiler;", .fieldLink RX2 90 "SteamRations$Boiler" "stops" "I"] ++ wsX20 ++ wsX00)
def wsX2_account_r1 : List Cond := [Cond.fieldLink RX2 49 "SteamRations$Laundry" "ticks" "I", Cond.fieldLink RX2 32 "SteamRations$Laundry" "coal" "I", Cond.fieldLink RX2 58 "SteamRations$Laundry" "burnt" "I", Cond.fieldLink RX2 61 "SteamRations$Laundry" "rationed" "I", Cond.fieldLink RX2 36 "SteamRations$Laundry" "ration" "I", Cond.fieldLink RX2 28 "SteamRations$Laundry" "waiting" "LSteamRations$WaitingLine;", Cond.fieldLink RX2 80 "SteamRations$WaitingLine" "length" "I", Cond.fieldLink RX2 64 "SteamRations$Laundry" "started" "I", Cond.fieldLink RX2 52 "SteamRations$Laundry" "washed" "I", Cond.fieldLink RX2 55 "SteamRations$Laundry" "spoiled" "I", Cond.fieldLink RX2 67 "SteamRations$Laundry" "takenOut" "I", Cond.fieldLink RX2 70 "SteamRations$Laundry" "worth" "I", Cond.fieldLink RX2 73 "SteamRations$Laundry" "ticksOfWaits" "I", Cond.methodLink RX2 83 yX2_loadsInMachines, Cond.instanceMethod yX2_loadsInMachines, Cond.selects RX2 yX2_loadsInMachines yX2_loadsInMachines, Cond.initialized RX2, Cond.code yX2_loadsInMachines cX2_loadsInMachines 6 (some .int), Cond.fieldLink RX2 21 "SteamRations$Laundry" "machines" "[LSteamRations$Machine;", Cond.methodLink RX2 76 yX3_isEmpty, Cond.instanceMethod yX3_isEmpty, Cond.selects RX3 yX3_isEmpty yX3_isEmpty, Cond.initialized RX3, Cond.code yX3_isEmpty cX3_isEmpty 1 (some .boolean)]
def wsX2_account_r2 : List Cond := [Cond.fieldLink RX3 9 "SteamRations$Machine" "kind" "I", Cond.methodLink RX2 93 yX2_allPressure, Cond.instanceMethod yX2_allPressure, Cond.selects RX2 yX2_allPressure yX2_allPressure, Cond.code yX2_allPressure cX2_allPressure 6 (some .int), Cond.fieldLink RX2 12 "SteamRations$Laundry" "boilers" "[LSteamRations$Boiler;", Cond.fieldLink RX2 87 "SteamRations$Boiler" "pressure" "I"]
def wsX2_account : List Cond := .code yX2_account cX2_account 2 (some .int) :: ((wsX2_account_r1 ++ wsX2_account_r2) ++ wsX20 ++ wsX50 ++ wsX30 ++ wsX00)
def wsX6_isWithin : List Cond := .code yX6_isWithin cX6_isWithin 3 (some .boolean) :: ([])
def wsX2_changeFire : List Cond := .code yX2_changeFire cX2_changeFire 5 (some .int) :: ([.fieldLink RX2 104 "SteamRations$Boiler" "stopLeft" "I", .fieldLink RX2 107 "SteamRations$Boiler" "fire" "I", .methodLink RX2 96 yX2_boilerAt, .instanceMethod yX2_boilerAt, .selects RX2 yX2_boilerAt yX2_boilerAt, .initialized RX2, .code yX2_boilerAt cX2_boilerAt 2 (some (.object "SteamRations$Boiler")), .fieldLink RX2 12 "SteamRations$Laundry" "boilers" "[LSteamRations$Boiler;", .static yX6_isWithin, .initialized RX6, .code yX6_isWithin cX6_isWithin 3 (some .boolean)] ++ wsX00 ++ wsX20)
def wsX2_letWaterIn : List Cond := .code yX2_letWaterIn cX2_letWaterIn 4 (some .int) :: ([.fieldLink RX2 110 "SteamRations$Boiler" "water" "I", .methodLink RX2 96 yX2_boilerAt, .instanceMethod yX2_boilerAt, .selects RX2 yX2_boilerAt yX2_boilerAt, .initialized RX2, .code yX2_boilerAt cX2_boilerAt 2 (some (.object "SteamRations$Boiler")), .fieldLink RX2 12 "SteamRations$Laundry" "boilers" "[LSteamRations$Boiler;", .static yX6_isWithin, .initialized RX6, .code yX6_isWithin cX6_isWithin 3 (some .boolean)] ++ wsX00 ++ wsX20)
def wsX2_changeRation : List Cond := .code yX2_changeRation cX2_changeRation 3 (some .int) :: ([.fieldLink RX2 36 "SteamRations$Laundry" "ration" "I", .static yX6_isWithin, .initialized RX6, .code yX6_isWithin cX6_isWithin 3 (some .boolean)] ++ wsX20)
def wsX6_ticksOf : List Cond := .code yX6_ticksOf cX6_ticksOf 1 (some .int) :: ([])
def wsX3_put : List Cond := .code yX3_put cX3_put 2 none :: ([.fieldLink RX3 9 "SteamRations$Machine" "kind" "I", .fieldLink RX3 15 "SteamRations$Machine" "left" "I", .fieldLink RX3 18 "SteamRations$Machine" "waits" "I", .static yX6_ticksOf, .initialized RX6, .code yX6_ticksOf cX6_ticksOf 1 (some .int)] ++ wsX30)
def wsX2_receiveRation : List Cond := .code yX2_receiveRation cX2_receiveRation 2 none :: ([.fieldLink RX2 36 "SteamRations$Laundry" "ration" "I", .fieldLink RX2 32 "SteamRations$Laundry" "coal" "I", .methodLink RX2 179 Lib.Math.min.name, .static Lib.Math.min.name, .initialized "java/lang/Math", .code Lib.Math.min.name Lib.Math.min.code 2 (some .int), .fieldLink RX2 61 "SteamRations$Laundry" "rationed" "I"] ++ wsX20)
def wsX6_steamOf : List Cond := .code yX6_steamOf cX6_steamOf 1 (some .int) :: ([])
def wsX2_need : List Cond := .code yX2_need cX2_need 6 (some .int) :: ([.fieldLink RX2 21 "SteamRations$Laundry" "machines" "[LSteamRations$Machine;", .fieldLink RX2 185 "SteamRations$Machine" "kind" "I", .static yX6_steamOf, .initialized RX6, .code yX6_steamOf cX6_steamOf 1 (some .int)] ++ wsX20 ++ wsX30)
def wsX3_clear : List Cond := .code yX3_clear cX3_clear 1 none :: ([.fieldLink RX3 9 "SteamRations$Machine" "kind" "I", .fieldLink RX3 15 "SteamRations$Machine" "left" "I", .fieldLink RX3 18 "SteamRations$Machine" "waits" "I"] ++ wsX30)
def wsX2_holdLoads : List Cond := .code yX2_holdLoads cX2_holdLoads 5 none :: ([.fieldLink RX2 73 "SteamRations$Laundry" "ticksOfWaits" "I", .fieldLink RX2 21 "SteamRations$Laundry" "machines" "[LSteamRations$Machine;", .fieldLink RX2 194 "SteamRations$Machine" "waits" "I", .fieldLink RX2 55 "SteamRations$Laundry" "spoiled" "I", .methodLink RX2 76 yX3_isEmpty, .instanceMethod yX3_isEmpty, .selects RX3 yX3_isEmpty yX3_isEmpty, .initialized RX3, .code yX3_isEmpty cX3_isEmpty 1 (some .boolean), .fieldLink RX3 9 "SteamRations$Machine" "kind" "I", .methodLink RX2 135 yX3_clear, .instanceMethod yX3_clear, .selects RX3 yX3_clear yX3_clear, .code yX3_clear cX3_clear 1 none, .fieldLink RX3 15 "SteamRations$Machine" "left" "I", .fieldLink RX3 18 "SteamRations$Machine" "waits" "I"] ++ wsX20 ++ wsX30)
def wsX2_takeSteam : List Cond := .code yX2_takeSteam cX2_takeSteam 8 none :: ([.fieldLink RX2 12 "SteamRations$Laundry" "boilers" "[LSteamRations$Boiler;", .fieldLink RX2 87 "SteamRations$Boiler" "pressure" "I"] ++ wsX20 ++ wsX00)
def wsX6_worthOf : List Cond := .code yX6_worthOf cX6_worthOf 1 (some .int) :: ([])
def wsX2_workLoads : List Cond := .code yX2_workLoads cX2_workLoads 5 none :: ([.fieldLink RX2 21 "SteamRations$Laundry" "machines" "[LSteamRations$Machine;", .fieldLink RX2 125 "SteamRations$Machine" "left" "I", .fieldLink RX2 52 "SteamRations$Laundry" "washed" "I", .fieldLink RX2 70 "SteamRations$Laundry" "worth" "I", .fieldLink RX2 185 "SteamRations$Machine" "kind" "I", .methodLink RX2 76 yX3_isEmpty, .instanceMethod yX3_isEmpty, .selects RX3 yX3_isEmpty yX3_isEmpty, .initialized RX3, .code yX3_isEmpty cX3_isEmpty 1 (some .boolean), .fieldLink RX3 9 "SteamRations$Machine" "kind" "I", .static yX6_worthOf, .initialized RX6, .code yX6_worthOf cX6_worthOf 1 (some .int), .methodLink RX2 135 yX3_clear, .instanceMethod yX3_clear, .selects RX3 yX3_clear yX3_clear, .code yX3_clear cX3_clear 1 none, .fieldLink RX3 15 "SteamRations$Machine" "left" "I", .fieldLink RX3 18 "SteamRations$Machine" "waits" "I"] ++ wsX20 ++ wsX30)
def wsX2_workTick_r1 : List Cond := [Cond.fieldLink RX2 49 "SteamRations$Laundry" "ticks" "I", Cond.fieldLink RX2 12 "SteamRations$Laundry" "boilers" "[LSteamRations$Boiler;", Cond.fieldLink RX2 32 "SteamRations$Laundry" "coal" "I", Cond.fieldLink RX2 58 "SteamRations$Laundry" "burnt" "I", Cond.methodLink RX2 158 yX2_receiveRation, Cond.instanceMethod yX2_receiveRation, Cond.selects RX2 yX2_receiveRation yX2_receiveRation, Cond.initialized RX2, Cond.code yX2_receiveRation cX2_receiveRation 2 none, Cond.fieldLink RX2 36 "SteamRations$Laundry" "ration" "I", Cond.methodLink RX2 179 Lib.Math.min.name, Cond.static Lib.Math.min.name, Cond.initialized "java/lang/Math", Cond.code Lib.Math.min.name Lib.Math.min.code 2 (some .int), Cond.fieldLink RX2 61 "SteamRations$Laundry" "rationed" "I", Cond.methodLink RX2 161 yX0_burn, Cond.instanceMethod yX0_burn, Cond.selects RX0 yX0_burn yX0_burn, Cond.initialized RX0, Cond.code yX0_burn cX0_burn 2 (some .int), Cond.fieldLink RX0 21 "SteamRations$Boiler" "stopLeft" "I", Cond.fieldLink RX0 15 "SteamRations$Boiler" "fire" "I", Cond.fieldLink RX0 9 "SteamRations$Boiler" "water" "I", Cond.fieldLink RX0 18 "SteamRations$Boiler" "pressure" "I"]
def wsX2_workTick_r2 : List Cond := [Cond.methodLink RX2 164 yX2_need, Cond.instanceMethod yX2_need, Cond.selects RX2 yX2_need yX2_need, Cond.code yX2_need cX2_need 6 (some .int), Cond.fieldLink RX2 21 "SteamRations$Laundry" "machines" "[LSteamRations$Machine;", Cond.fieldLink RX2 185 "SteamRations$Machine" "kind" "I", Cond.static yX6_steamOf, Cond.initialized RX6, Cond.code yX6_steamOf cX6_steamOf 1 (some .int), Cond.methodLink RX2 93 yX2_allPressure, Cond.instanceMethod yX2_allPressure, Cond.selects RX2 yX2_allPressure yX2_allPressure, Cond.code yX2_allPressure cX2_allPressure 6 (some .int), Cond.fieldLink RX2 87 "SteamRations$Boiler" "pressure" "I", Cond.methodLink RX2 167 yX2_holdLoads, Cond.instanceMethod yX2_holdLoads, Cond.selects RX2 yX2_holdLoads yX2_holdLoads, Cond.code yX2_holdLoads cX2_holdLoads 5 none, Cond.fieldLink RX2 73 "SteamRations$Laundry" "ticksOfWaits" "I", Cond.fieldLink RX2 194 "SteamRations$Machine" "waits" "I", Cond.fieldLink RX2 55 "SteamRations$Laundry" "spoiled" "I", Cond.methodLink RX2 76 yX3_isEmpty, Cond.instanceMethod yX3_isEmpty, Cond.selects RX3 yX3_isEmpty yX3_isEmpty]
def wsX2_workTick_r3 : List Cond := [Cond.initialized RX3, Cond.code yX3_isEmpty cX3_isEmpty 1 (some .boolean), Cond.fieldLink RX3 9 "SteamRations$Machine" "kind" "I", Cond.methodLink RX2 135 yX3_clear, Cond.instanceMethod yX3_clear, Cond.selects RX3 yX3_clear yX3_clear, Cond.code yX3_clear cX3_clear 1 none, Cond.fieldLink RX3 15 "SteamRations$Machine" "left" "I", Cond.fieldLink RX3 18 "SteamRations$Machine" "waits" "I", Cond.methodLink RX2 170 yX2_takeSteam, Cond.instanceMethod yX2_takeSteam, Cond.selects RX2 yX2_takeSteam yX2_takeSteam, Cond.code yX2_takeSteam cX2_takeSteam 8 none, Cond.methodLink RX2 173 yX2_workLoads, Cond.instanceMethod yX2_workLoads, Cond.selects RX2 yX2_workLoads yX2_workLoads, Cond.code yX2_workLoads cX2_workLoads 5 none, Cond.fieldLink RX2 125 "SteamRations$Machine" "left" "I", Cond.fieldLink RX2 52 "SteamRations$Laundry" "washed" "I", Cond.fieldLink RX2 70 "SteamRations$Laundry" "worth" "I", Cond.static yX6_worthOf, Cond.code yX6_worthOf cX6_worthOf 1 (some .int), Cond.methodLink RX2 176 yX0_coolDown, Cond.instanceMethod yX0_coolDown]
def wsX2_workTick_r4 : List Cond := [Cond.selects RX0 yX0_coolDown yX0_coolDown, Cond.code yX0_coolDown cX0_coolDown 1 none, Cond.fieldLink RX0 24 "SteamRations$Boiler" "stops" "I"]
def wsX2_workTick : List Cond := .code yX2_workTick cX2_workTick 7 (some .boolean) :: ((wsX2_workTick_r1 ++ (wsX2_workTick_r2 ++ (wsX2_workTick_r3 ++ wsX2_workTick_r4))) ++ wsX20 ++ wsX00 ++ wsX30)
def wsX2_reasonAgainst_r1 : List Cond := [Cond.methodLink RX2 149 yX2_lowestEmptyMachine, Cond.instanceMethod yX2_lowestEmptyMachine, Cond.selects RX2 yX2_lowestEmptyMachine yX2_lowestEmptyMachine, Cond.initialized RX2, Cond.code yX2_lowestEmptyMachine cX2_lowestEmptyMachine 5 (some (.object "SteamRations$Machine")), Cond.fieldLink RX2 21 "SteamRations$Laundry" "machines" "[LSteamRations$Machine;", Cond.methodLink RX2 76 yX3_isEmpty, Cond.instanceMethod yX3_isEmpty, Cond.selects RX3 yX3_isEmpty yX3_isEmpty, Cond.initialized RX3, Cond.code yX3_isEmpty cX3_isEmpty 1 (some .boolean), Cond.fieldLink RX3 9 "SteamRations$Machine" "kind" "I", Cond.methodLink RX2 93 yX2_allPressure, Cond.instanceMethod yX2_allPressure, Cond.selects RX2 yX2_allPressure yX2_allPressure, Cond.code yX2_allPressure cX2_allPressure 6 (some .int), Cond.fieldLink RX2 12 "SteamRations$Laundry" "boilers" "[LSteamRations$Boiler;", Cond.fieldLink RX2 87 "SteamRations$Boiler" "pressure" "I", Cond.methodLink RX2 153 yX2_copyFrom, Cond.instanceMethod yX2_copyFrom, Cond.selects RX2 yX2_copyFrom yX2_copyFrom, Cond.code yX2_copyFrom cX2_copyFrom 3 none, Cond.fieldLink RX2 28 "SteamRations$Laundry" "waiting" "LSteamRations$WaitingLine;", Cond.fieldLink RX2 49 "SteamRations$Laundry" "ticks" "I"]
def wsX2_reasonAgainst_r2 : List Cond := [Cond.fieldLink RX2 52 "SteamRations$Laundry" "washed" "I", Cond.fieldLink RX2 55 "SteamRations$Laundry" "spoiled" "I", Cond.fieldLink RX2 58 "SteamRations$Laundry" "burnt" "I", Cond.fieldLink RX2 32 "SteamRations$Laundry" "coal" "I", Cond.fieldLink RX2 36 "SteamRations$Laundry" "ration" "I", Cond.fieldLink RX2 61 "SteamRations$Laundry" "rationed" "I", Cond.fieldLink RX2 64 "SteamRations$Laundry" "started" "I", Cond.fieldLink RX2 67 "SteamRations$Laundry" "takenOut" "I", Cond.fieldLink RX2 70 "SteamRations$Laundry" "worth" "I", Cond.fieldLink RX2 73 "SteamRations$Laundry" "ticksOfWaits" "I", Cond.methodLink RX2 39 yX0_copyFrom, Cond.instanceMethod yX0_copyFrom, Cond.selects RX0 yX0_copyFrom yX0_copyFrom, Cond.initialized RX0, Cond.code yX0_copyFrom cX0_copyFrom 2 none, Cond.fieldLink RX0 15 "SteamRations$Boiler" "fire" "I", Cond.fieldLink RX0 9 "SteamRations$Boiler" "water" "I", Cond.fieldLink RX0 18 "SteamRations$Boiler" "pressure" "I", Cond.fieldLink RX0 21 "SteamRations$Boiler" "stopLeft" "I", Cond.fieldLink RX0 24 "SteamRations$Boiler" "stops" "I", Cond.methodLink RX2 43 yX3_copyFrom, Cond.instanceMethod yX3_copyFrom, Cond.selects RX3 yX3_copyFrom yX3_copyFrom, Cond.code yX3_copyFrom cX3_copyFrom 2 none]
def wsX2_reasonAgainst_r3 : List Cond := [Cond.fieldLink RX3 15 "SteamRations$Machine" "left" "I", Cond.fieldLink RX3 18 "SteamRations$Machine" "waits" "I", Cond.methodLink RX2 46 yX5_copyFrom, Cond.instanceMethod yX5_copyFrom, Cond.selects RX5 yX5_copyFrom yX5_copyFrom, Cond.initialized RX5, Cond.code yX5_copyFrom cX5_copyFrom 3 none, Cond.fieldLink RX5 15 "SteamRations$WaitingLine" "length" "I", Cond.fieldLink RX5 9 "SteamRations$WaitingLine" "kinds" "[I", Cond.methodLink RX2 121 yX3_put, Cond.instanceMethod yX3_put, Cond.selects RX3 yX3_put yX3_put, Cond.code yX3_put cX3_put 2 none, Cond.static yX6_ticksOf, Cond.initialized RX6, Cond.code yX6_ticksOf cX6_ticksOf 1 (some .int), Cond.methodLink RX2 143 yX2_workTick, Cond.instanceMethod yX2_workTick, Cond.selects RX2 yX2_workTick yX2_workTick, Cond.code yX2_workTick cX2_workTick 7 (some .boolean), Cond.methodLink RX2 158 yX2_receiveRation, Cond.instanceMethod yX2_receiveRation, Cond.selects RX2 yX2_receiveRation yX2_receiveRation, Cond.code yX2_receiveRation cX2_receiveRation 2 none]
def wsX2_reasonAgainst_r4 : List Cond := [Cond.methodLink RX2 179 Lib.Math.min.name, Cond.static Lib.Math.min.name, Cond.initialized "java/lang/Math", Cond.code Lib.Math.min.name Lib.Math.min.code 2 (some .int), Cond.methodLink RX2 161 yX0_burn, Cond.instanceMethod yX0_burn, Cond.selects RX0 yX0_burn yX0_burn, Cond.code yX0_burn cX0_burn 2 (some .int), Cond.methodLink RX2 164 yX2_need, Cond.instanceMethod yX2_need, Cond.selects RX2 yX2_need yX2_need, Cond.code yX2_need cX2_need 6 (some .int), Cond.fieldLink RX2 185 "SteamRations$Machine" "kind" "I", Cond.static yX6_steamOf, Cond.code yX6_steamOf cX6_steamOf 1 (some .int), Cond.methodLink RX2 167 yX2_holdLoads, Cond.instanceMethod yX2_holdLoads, Cond.selects RX2 yX2_holdLoads yX2_holdLoads, Cond.code yX2_holdLoads cX2_holdLoads 5 none, Cond.fieldLink RX2 194 "SteamRations$Machine" "waits" "I", Cond.methodLink RX2 135 yX3_clear, Cond.instanceMethod yX3_clear, Cond.selects RX3 yX3_clear yX3_clear, Cond.code yX3_clear cX3_clear 1 none]
def wsX2_reasonAgainst_r5 : List Cond := [Cond.methodLink RX2 170 yX2_takeSteam, Cond.instanceMethod yX2_takeSteam, Cond.selects RX2 yX2_takeSteam yX2_takeSteam, Cond.code yX2_takeSteam cX2_takeSteam 8 none, Cond.methodLink RX2 173 yX2_workLoads, Cond.instanceMethod yX2_workLoads, Cond.selects RX2 yX2_workLoads yX2_workLoads, Cond.code yX2_workLoads cX2_workLoads 5 none, Cond.fieldLink RX2 125 "SteamRations$Machine" "left" "I", Cond.static yX6_worthOf, Cond.code yX6_worthOf cX6_worthOf 1 (some .int), Cond.methodLink RX2 176 yX0_coolDown, Cond.instanceMethod yX0_coolDown, Cond.selects RX0 yX0_coolDown yX0_coolDown, Cond.code yX0_coolDown cX0_coolDown 1 none]
def wsX2_reasonAgainst : List Cond := .code yX2_reasonAgainst cX2_reasonAgainst 6 (some .int) :: ((wsX2_reasonAgainst_r1 ++ (wsX2_reasonAgainst_r2 ++ (wsX2_reasonAgainst_r3 ++ (wsX2_reasonAgainst_r4 ++ wsX2_reasonAgainst_r5)))) ++ wsX20 ++ wsX30 ++ wsX00 ++ wsX50)
def wsX2_startLoad_r1 : List Cond := [Cond.fieldLink RX2 64 "SteamRations$Laundry" "started" "I", Cond.fieldLink RX2 125 "SteamRations$Machine" "left" "I", Cond.methodLink RX2 113 yX2_machineAt, Cond.instanceMethod yX2_machineAt, Cond.selects RX2 yX2_machineAt yX2_machineAt, Cond.initialized RX2, Cond.code yX2_machineAt cX2_machineAt 2 (some (.object "SteamRations$Machine")), Cond.fieldLink RX2 21 "SteamRations$Laundry" "machines" "[LSteamRations$Machine;", Cond.static yX6_isWithin, Cond.initialized RX6, Cond.code yX6_isWithin cX6_isWithin 3 (some .boolean), Cond.methodLink RX2 76 yX3_isEmpty, Cond.instanceMethod yX3_isEmpty, Cond.selects RX3 yX3_isEmpty yX3_isEmpty, Cond.initialized RX3, Cond.code yX3_isEmpty cX3_isEmpty 1 (some .boolean), Cond.fieldLink RX3 9 "SteamRations$Machine" "kind" "I", Cond.methodLink RX2 117 yX2_reasonAgainst, Cond.instanceMethod yX2_reasonAgainst, Cond.selects RX2 yX2_reasonAgainst yX2_reasonAgainst, Cond.code yX2_reasonAgainst cX2_reasonAgainst 6 (some .int), Cond.methodLink RX2 149 yX2_lowestEmptyMachine, Cond.instanceMethod yX2_lowestEmptyMachine, Cond.selects RX2 yX2_lowestEmptyMachine yX2_lowestEmptyMachine]
def wsX2_startLoad_r2 : List Cond := [Cond.code yX2_lowestEmptyMachine cX2_lowestEmptyMachine 5 (some (.object "SteamRations$Machine")), Cond.methodLink RX2 93 yX2_allPressure, Cond.instanceMethod yX2_allPressure, Cond.selects RX2 yX2_allPressure yX2_allPressure, Cond.code yX2_allPressure cX2_allPressure 6 (some .int), Cond.fieldLink RX2 12 "SteamRations$Laundry" "boilers" "[LSteamRations$Boiler;", Cond.fieldLink RX2 87 "SteamRations$Boiler" "pressure" "I", Cond.methodLink RX2 153 yX2_copyFrom, Cond.instanceMethod yX2_copyFrom, Cond.selects RX2 yX2_copyFrom yX2_copyFrom, Cond.code yX2_copyFrom cX2_copyFrom 3 none, Cond.fieldLink RX2 28 "SteamRations$Laundry" "waiting" "LSteamRations$WaitingLine;", Cond.fieldLink RX2 49 "SteamRations$Laundry" "ticks" "I", Cond.fieldLink RX2 52 "SteamRations$Laundry" "washed" "I", Cond.fieldLink RX2 55 "SteamRations$Laundry" "spoiled" "I", Cond.fieldLink RX2 58 "SteamRations$Laundry" "burnt" "I", Cond.fieldLink RX2 32 "SteamRations$Laundry" "coal" "I", Cond.fieldLink RX2 36 "SteamRations$Laundry" "ration" "I", Cond.fieldLink RX2 61 "SteamRations$Laundry" "rationed" "I", Cond.fieldLink RX2 67 "SteamRations$Laundry" "takenOut" "I", Cond.fieldLink RX2 70 "SteamRations$Laundry" "worth" "I", Cond.fieldLink RX2 73 "SteamRations$Laundry" "ticksOfWaits" "I", Cond.methodLink RX2 39 yX0_copyFrom, Cond.instanceMethod yX0_copyFrom]
def wsX2_startLoad_r3 : List Cond := [Cond.selects RX0 yX0_copyFrom yX0_copyFrom, Cond.initialized RX0, Cond.code yX0_copyFrom cX0_copyFrom 2 none, Cond.fieldLink RX0 15 "SteamRations$Boiler" "fire" "I", Cond.fieldLink RX0 9 "SteamRations$Boiler" "water" "I", Cond.fieldLink RX0 18 "SteamRations$Boiler" "pressure" "I", Cond.fieldLink RX0 21 "SteamRations$Boiler" "stopLeft" "I", Cond.fieldLink RX0 24 "SteamRations$Boiler" "stops" "I", Cond.methodLink RX2 43 yX3_copyFrom, Cond.instanceMethod yX3_copyFrom, Cond.selects RX3 yX3_copyFrom yX3_copyFrom, Cond.code yX3_copyFrom cX3_copyFrom 2 none, Cond.fieldLink RX3 15 "SteamRations$Machine" "left" "I", Cond.fieldLink RX3 18 "SteamRations$Machine" "waits" "I", Cond.methodLink RX2 46 yX5_copyFrom, Cond.instanceMethod yX5_copyFrom, Cond.selects RX5 yX5_copyFrom yX5_copyFrom, Cond.initialized RX5, Cond.code yX5_copyFrom cX5_copyFrom 3 none, Cond.fieldLink RX5 15 "SteamRations$WaitingLine" "length" "I", Cond.fieldLink RX5 9 "SteamRations$WaitingLine" "kinds" "[I", Cond.methodLink RX2 121 yX3_put, Cond.instanceMethod yX3_put, Cond.selects RX3 yX3_put yX3_put]
def wsX2_startLoad_r4 : List Cond := [Cond.code yX3_put cX3_put 2 none, Cond.static yX6_ticksOf, Cond.code yX6_ticksOf cX6_ticksOf 1 (some .int), Cond.methodLink RX2 143 yX2_workTick, Cond.instanceMethod yX2_workTick, Cond.selects RX2 yX2_workTick yX2_workTick, Cond.code yX2_workTick cX2_workTick 7 (some .boolean), Cond.methodLink RX2 158 yX2_receiveRation, Cond.instanceMethod yX2_receiveRation, Cond.selects RX2 yX2_receiveRation yX2_receiveRation, Cond.code yX2_receiveRation cX2_receiveRation 2 none, Cond.methodLink RX2 179 Lib.Math.min.name, Cond.static Lib.Math.min.name, Cond.initialized "java/lang/Math", Cond.code Lib.Math.min.name Lib.Math.min.code 2 (some .int), Cond.methodLink RX2 161 yX0_burn, Cond.instanceMethod yX0_burn, Cond.selects RX0 yX0_burn yX0_burn, Cond.code yX0_burn cX0_burn 2 (some .int), Cond.methodLink RX2 164 yX2_need, Cond.instanceMethod yX2_need, Cond.selects RX2 yX2_need yX2_need, Cond.code yX2_need cX2_need 6 (some .int), Cond.fieldLink RX2 185 "SteamRations$Machine" "kind" "I"]
def wsX2_startLoad_r5 : List Cond := [Cond.static yX6_steamOf, Cond.code yX6_steamOf cX6_steamOf 1 (some .int), Cond.methodLink RX2 167 yX2_holdLoads, Cond.instanceMethod yX2_holdLoads, Cond.selects RX2 yX2_holdLoads yX2_holdLoads, Cond.code yX2_holdLoads cX2_holdLoads 5 none, Cond.fieldLink RX2 194 "SteamRations$Machine" "waits" "I", Cond.methodLink RX2 135 yX3_clear, Cond.instanceMethod yX3_clear, Cond.selects RX3 yX3_clear yX3_clear, Cond.code yX3_clear cX3_clear 1 none, Cond.methodLink RX2 170 yX2_takeSteam, Cond.instanceMethod yX2_takeSteam, Cond.selects RX2 yX2_takeSteam yX2_takeSteam, Cond.code yX2_takeSteam cX2_takeSteam 8 none, Cond.methodLink RX2 173 yX2_workLoads, Cond.instanceMethod yX2_workLoads, Cond.selects RX2 yX2_workLoads yX2_workLoads, Cond.code yX2_workLoads cX2_workLoads 5 none, Cond.static yX6_worthOf, Cond.code yX6_worthOf cX6_worthOf 1 (some .int), Cond.methodLink RX2 176 yX0_coolDown, Cond.instanceMethod yX0_coolDown, Cond.selects RX0 yX0_coolDown yX0_coolDown]
def wsX2_startLoad_r6 : List Cond := [Cond.code yX0_coolDown cX0_coolDown 1 none]
def wsX2_startLoad : List Cond := .code yX2_startLoad cX2_startLoad 6 (some .int) :: ((wsX2_startLoad_r1 ++ (wsX2_startLoad_r2 ++ (wsX2_startLoad_r3 ++ (wsX2_startLoad_r4 ++ (wsX2_startLoad_r5 ++ wsX2_startLoad_r6))))) ++ wsX20 ++ wsX30 ++ wsX00 ++ wsX50)
def wsX5_add : List Cond := .code yX5_add cX5_add 2 (some .int) :: ([.fieldLink RX5 15 "SteamRations$WaitingLine" "length" "I", .fieldLink RX5 9 "SteamRations$WaitingLine" "kinds" "[I"] ++ wsX50)
def wsX2_addToLine : List Cond := .code yX2_addToLine cX2_addToLine 2 (some .int) :: ([.fieldLink RX2 28 "SteamRations$Laundry" "waiting" "LSteamRations$WaitingLine;", .static yX6_isWithin, .initialized RX6, .code yX6_isWithin cX6_isWithin 3 (some .boolean), .methodLink RX2 128 yX5_add, .instanceMethod yX5_add, .selects RX5 yX5_add yX5_add, .initialized RX5, .code yX5_add cX5_add 2 (some .int), .fieldLink RX5 15 "SteamRations$WaitingLine" "length" "I", .fieldLink RX5 9 "SteamRations$WaitingLine" "kinds" "[I"] ++ wsX20 ++ wsX50)
def wsX5_kindAt : List Cond := .code yX5_kindAt cX5_kindAt 2 (some .int) :: ([.fieldLink RX5 15 "SteamRations$WaitingLine" "length" "I", .fieldLink RX5 9 "SteamRations$WaitingLine" "kinds" "[I"] ++ wsX50)
def wsX5_remove : List Cond := .code yX5_remove cX5_remove 4 (some .int) :: ([.fieldLink RX5 15 "SteamRations$WaitingLine" "length" "I", .fieldLink RX5 9 "SteamRations$WaitingLine" "kinds" "[I", .methodLink RX5 19 yX5_kindAt, .instanceMethod yX5_kindAt, .selects RX5 yX5_kindAt yX5_kindAt, .initialized RX5, .code yX5_kindAt cX5_kindAt 2 (some .int)] ++ wsX50)
def wsX2_removeFromLine : List Cond := .code yX2_removeFromLine cX2_removeFromLine 2 (some .int) :: ([.fieldLink RX2 28 "SteamRations$Laundry" "waiting" "LSteamRations$WaitingLine;", .methodLink RX2 132 yX5_remove, .instanceMethod yX5_remove, .selects RX5 yX5_remove yX5_remove, .initialized RX5, .code yX5_remove cX5_remove 4 (some .int), .fieldLink RX5 15 "SteamRations$WaitingLine" "length" "I", .fieldLink RX5 9 "SteamRations$WaitingLine" "kinds" "[I", .methodLink RX5 19 yX5_kindAt, .instanceMethod yX5_kindAt, .selects RX5 yX5_kindAt yX5_kindAt, .code yX5_kindAt cX5_kindAt 2 (some .int)] ++ wsX20 ++ wsX50)
def wsX2_unload : List Cond := .code yX2_unload cX2_unload 4 (some .int) :: ([.fieldLink RX2 125 "SteamRations$Machine" "left" "I", .fieldLink RX2 67 "SteamRations$Laundry" "takenOut" "I", .methodLink RX2 113 yX2_machineAt, .instanceMethod yX2_machineAt, .selects RX2 yX2_machineAt yX2_machineAt, .initialized RX2, .code yX2_machineAt cX2_machineAt 2 (some (.object "SteamRations$Machine")), .fieldLink RX2 21 "SteamRations$Laundry" "machines" "[LSteamRations$Machine;", .methodLink RX2 76 yX3_isEmpty, .instanceMethod yX3_isEmpty, .selects RX3 yX3_isEmpty yX3_isEmpty, .initialized RX3, .code yX3_isEmpty cX3_isEmpty 1 (some .boolean), .fieldLink RX3 9 "SteamRations$Machine" "kind" "I", .methodLink RX2 135 yX3_clear, .instanceMethod yX3_clear, .selects RX3 yX3_clear yX3_clear, .code yX3_clear cX3_clear 1 none, .fieldLink RX3 15 "SteamRations$Machine" "left" "I", .fieldLink RX3 18 "SteamRations$Machine" "waits" "I"] ++ wsX30 ++ wsX20)
def wsX2_passTick_r1 : List Cond := [Cond.fieldLink RX2 28 "SteamRations$Laundry" "waiting" "LSteamRations$WaitingLine;", Cond.fieldLink RX2 64 "SteamRations$Laundry" "started" "I", Cond.methodLink RX2 143 yX2_workTick, Cond.instanceMethod yX2_workTick, Cond.selects RX2 yX2_workTick yX2_workTick, Cond.initialized RX2, Cond.code yX2_workTick cX2_workTick 7 (some .boolean), Cond.fieldLink RX2 49 "SteamRations$Laundry" "ticks" "I", Cond.fieldLink RX2 12 "SteamRations$Laundry" "boilers" "[LSteamRations$Boiler;", Cond.fieldLink RX2 32 "SteamRations$Laundry" "coal" "I", Cond.fieldLink RX2 58 "SteamRations$Laundry" "burnt" "I", Cond.methodLink RX2 158 yX2_receiveRation, Cond.instanceMethod yX2_receiveRation, Cond.selects RX2 yX2_receiveRation yX2_receiveRation, Cond.code yX2_receiveRation cX2_receiveRation 2 none, Cond.fieldLink RX2 36 "SteamRations$Laundry" "ration" "I", Cond.methodLink RX2 179 Lib.Math.min.name, Cond.static Lib.Math.min.name, Cond.initialized "java/lang/Math", Cond.code Lib.Math.min.name Lib.Math.min.code 2 (some .int), Cond.fieldLink RX2 61 "SteamRations$Laundry" "rationed" "I", Cond.methodLink RX2 161 yX0_burn, Cond.instanceMethod yX0_burn, Cond.selects RX0 yX0_burn yX0_burn]
def wsX2_passTick_r2 : List Cond := [Cond.initialized RX0, Cond.code yX0_burn cX0_burn 2 (some .int), Cond.fieldLink RX0 21 "SteamRations$Boiler" "stopLeft" "I", Cond.fieldLink RX0 15 "SteamRations$Boiler" "fire" "I", Cond.fieldLink RX0 9 "SteamRations$Boiler" "water" "I", Cond.fieldLink RX0 18 "SteamRations$Boiler" "pressure" "I", Cond.methodLink RX2 164 yX2_need, Cond.instanceMethod yX2_need, Cond.selects RX2 yX2_need yX2_need, Cond.code yX2_need cX2_need 6 (some .int), Cond.fieldLink RX2 21 "SteamRations$Laundry" "machines" "[LSteamRations$Machine;", Cond.fieldLink RX2 185 "SteamRations$Machine" "kind" "I", Cond.static yX6_steamOf, Cond.initialized RX6, Cond.code yX6_steamOf cX6_steamOf 1 (some .int), Cond.methodLink RX2 93 yX2_allPressure, Cond.instanceMethod yX2_allPressure, Cond.selects RX2 yX2_allPressure yX2_allPressure, Cond.code yX2_allPressure cX2_allPressure 6 (some .int), Cond.fieldLink RX2 87 "SteamRations$Boiler" "pressure" "I", Cond.methodLink RX2 167 yX2_holdLoads, Cond.instanceMethod yX2_holdLoads, Cond.selects RX2 yX2_holdLoads yX2_holdLoads, Cond.code yX2_holdLoads cX2_holdLoads 5 none]
def wsX2_passTick_r3 : List Cond := [Cond.fieldLink RX2 73 "SteamRations$Laundry" "ticksOfWaits" "I", Cond.fieldLink RX2 194 "SteamRations$Machine" "waits" "I", Cond.fieldLink RX2 55 "SteamRations$Laundry" "spoiled" "I", Cond.methodLink RX2 76 yX3_isEmpty, Cond.instanceMethod yX3_isEmpty, Cond.selects RX3 yX3_isEmpty yX3_isEmpty, Cond.initialized RX3, Cond.code yX3_isEmpty cX3_isEmpty 1 (some .boolean), Cond.fieldLink RX3 9 "SteamRations$Machine" "kind" "I", Cond.methodLink RX2 135 yX3_clear, Cond.instanceMethod yX3_clear, Cond.selects RX3 yX3_clear yX3_clear, Cond.code yX3_clear cX3_clear 1 none, Cond.fieldLink RX3 15 "SteamRations$Machine" "left" "I", Cond.fieldLink RX3 18 "SteamRations$Machine" "waits" "I", Cond.methodLink RX2 170 yX2_takeSteam, Cond.instanceMethod yX2_takeSteam, Cond.selects RX2 yX2_takeSteam yX2_takeSteam, Cond.code yX2_takeSteam cX2_takeSteam 8 none, Cond.methodLink RX2 173 yX2_workLoads, Cond.instanceMethod yX2_workLoads, Cond.selects RX2 yX2_workLoads yX2_workLoads, Cond.code yX2_workLoads cX2_workLoads 5 none, Cond.fieldLink RX2 125 "SteamRations$Machine" "left" "I"]
def wsX2_passTick_r4 : List Cond := [Cond.fieldLink RX2 52 "SteamRations$Laundry" "washed" "I", Cond.fieldLink RX2 70 "SteamRations$Laundry" "worth" "I", Cond.static yX6_worthOf, Cond.code yX6_worthOf cX6_worthOf 1 (some .int), Cond.methodLink RX2 176 yX0_coolDown, Cond.instanceMethod yX0_coolDown, Cond.selects RX0 yX0_coolDown yX0_coolDown, Cond.code yX0_coolDown cX0_coolDown 1 none, Cond.fieldLink RX0 24 "SteamRations$Boiler" "stops" "I", Cond.methodLink RX2 146 yX5_kindAt, Cond.instanceMethod yX5_kindAt, Cond.selects RX5 yX5_kindAt yX5_kindAt, Cond.initialized RX5, Cond.code yX5_kindAt cX5_kindAt 2 (some .int), Cond.fieldLink RX5 15 "SteamRations$WaitingLine" "length" "I", Cond.fieldLink RX5 9 "SteamRations$WaitingLine" "kinds" "[I", Cond.methodLink RX2 117 yX2_reasonAgainst, Cond.instanceMethod yX2_reasonAgainst, Cond.selects RX2 yX2_reasonAgainst yX2_reasonAgainst, Cond.code yX2_reasonAgainst cX2_reasonAgainst 6 (some .int), Cond.methodLink RX2 149 yX2_lowestEmptyMachine, Cond.instanceMethod yX2_lowestEmptyMachine, Cond.selects RX2 yX2_lowestEmptyMachine yX2_lowestEmptyMachine, Cond.code yX2_lowestEmptyMachine cX2_lowestEmptyMachine 5 (some (.object "SteamRations$Machine"))]
def wsX2_passTick_r5 : List Cond := [Cond.methodLink RX2 153 yX2_copyFrom, Cond.instanceMethod yX2_copyFrom, Cond.selects RX2 yX2_copyFrom yX2_copyFrom, Cond.code yX2_copyFrom cX2_copyFrom 3 none, Cond.fieldLink RX2 67 "SteamRations$Laundry" "takenOut" "I", Cond.methodLink RX2 39 yX0_copyFrom, Cond.instanceMethod yX0_copyFrom, Cond.selects RX0 yX0_copyFrom yX0_copyFrom, Cond.code yX0_copyFrom cX0_copyFrom 2 none, Cond.methodLink RX2 43 yX3_copyFrom, Cond.instanceMethod yX3_copyFrom, Cond.selects RX3 yX3_copyFrom yX3_copyFrom, Cond.code yX3_copyFrom cX3_copyFrom 2 none, Cond.methodLink RX2 46 yX5_copyFrom, Cond.instanceMethod yX5_copyFrom, Cond.selects RX5 yX5_copyFrom yX5_copyFrom, Cond.code yX5_copyFrom cX5_copyFrom 3 none, Cond.methodLink RX2 121 yX3_put, Cond.instanceMethod yX3_put, Cond.selects RX3 yX3_put yX3_put, Cond.code yX3_put cX3_put 2 none, Cond.static yX6_ticksOf, Cond.code yX6_ticksOf cX6_ticksOf 1 (some .int), Cond.methodLink RX2 132 yX5_remove]
def wsX2_passTick_r6 : List Cond := [Cond.instanceMethod yX5_remove, Cond.selects RX5 yX5_remove yX5_remove, Cond.code yX5_remove cX5_remove 4 (some .int), Cond.methodLink RX5 19 yX5_kindAt]
def wsX2_passTick : List Cond := .code yX2_passTick cX2_passTick 4 none :: ((wsX2_passTick_r1 ++ (wsX2_passTick_r2 ++ (wsX2_passTick_r3 ++ (wsX2_passTick_r4 ++ (wsX2_passTick_r5 ++ wsX2_passTick_r6))))) ++ wsX20 ++ wsX00 ++ wsX30 ++ wsX50)
def wsX2_letPass_r1 : List Cond := [Cond.fieldLink RX2 49 "SteamRations$Laundry" "ticks" "I", Cond.constant RX2 138 (99999), Cond.fieldLink RX2 52 "SteamRations$Laundry" "washed" "I", Cond.static yX6_isWithin, Cond.initialized RX6, Cond.code yX6_isWithin cX6_isWithin 3 (some .boolean), Cond.methodLink RX2 139 yX2_passTick, Cond.instanceMethod yX2_passTick, Cond.selects RX2 yX2_passTick yX2_passTick, Cond.initialized RX2, Cond.code yX2_passTick cX2_passTick 4 none, Cond.fieldLink RX2 28 "SteamRations$Laundry" "waiting" "LSteamRations$WaitingLine;", Cond.fieldLink RX2 64 "SteamRations$Laundry" "started" "I", Cond.methodLink RX2 143 yX2_workTick, Cond.instanceMethod yX2_workTick, Cond.selects RX2 yX2_workTick yX2_workTick, Cond.code yX2_workTick cX2_workTick 7 (some .boolean), Cond.fieldLink RX2 12 "SteamRations$Laundry" "boilers" "[LSteamRations$Boiler;", Cond.fieldLink RX2 32 "SteamRations$Laundry" "coal" "I", Cond.fieldLink RX2 58 "SteamRations$Laundry" "burnt" "I", Cond.methodLink RX2 158 yX2_receiveRation, Cond.instanceMethod yX2_receiveRation, Cond.selects RX2 yX2_receiveRation yX2_receiveRation, Cond.code yX2_receiveRation cX2_receiveRation 2 none]
def wsX2_letPass_r2 : List Cond := [Cond.fieldLink RX2 36 "SteamRations$Laundry" "ration" "I", Cond.methodLink RX2 179 Lib.Math.min.name, Cond.static Lib.Math.min.name, Cond.initialized "java/lang/Math", Cond.code Lib.Math.min.name Lib.Math.min.code 2 (some .int), Cond.fieldLink RX2 61 "SteamRations$Laundry" "rationed" "I", Cond.methodLink RX2 161 yX0_burn, Cond.instanceMethod yX0_burn, Cond.selects RX0 yX0_burn yX0_burn, Cond.initialized RX0, Cond.code yX0_burn cX0_burn 2 (some .int), Cond.fieldLink RX0 21 "SteamRations$Boiler" "stopLeft" "I", Cond.fieldLink RX0 15 "SteamRations$Boiler" "fire" "I", Cond.fieldLink RX0 9 "SteamRations$Boiler" "water" "I", Cond.fieldLink RX0 18 "SteamRations$Boiler" "pressure" "I", Cond.methodLink RX2 164 yX2_need, Cond.instanceMethod yX2_need, Cond.selects RX2 yX2_need yX2_need, Cond.code yX2_need cX2_need 6 (some .int), Cond.fieldLink RX2 21 "SteamRations$Laundry" "machines" "[LSteamRations$Machine;", Cond.fieldLink RX2 185 "SteamRations$Machine" "kind" "I", Cond.static yX6_steamOf, Cond.code yX6_steamOf cX6_steamOf 1 (some .int), Cond.methodLink RX2 93 yX2_allPressure]
def wsX2_letPass_r3 : List Cond := [Cond.instanceMethod yX2_allPressure, Cond.selects RX2 yX2_allPressure yX2_allPressure, Cond.code yX2_allPressure cX2_allPressure 6 (some .int), Cond.fieldLink RX2 87 "SteamRations$Boiler" "pressure" "I", Cond.methodLink RX2 167 yX2_holdLoads, Cond.instanceMethod yX2_holdLoads, Cond.selects RX2 yX2_holdLoads yX2_holdLoads, Cond.code yX2_holdLoads cX2_holdLoads 5 none, Cond.fieldLink RX2 73 "SteamRations$Laundry" "ticksOfWaits" "I", Cond.fieldLink RX2 194 "SteamRations$Machine" "waits" "I", Cond.fieldLink RX2 55 "SteamRations$Laundry" "spoiled" "I", Cond.methodLink RX2 76 yX3_isEmpty, Cond.instanceMethod yX3_isEmpty, Cond.selects RX3 yX3_isEmpty yX3_isEmpty, Cond.initialized RX3, Cond.code yX3_isEmpty cX3_isEmpty 1 (some .boolean), Cond.fieldLink RX3 9 "SteamRations$Machine" "kind" "I", Cond.methodLink RX2 135 yX3_clear, Cond.instanceMethod yX3_clear, Cond.selects RX3 yX3_clear yX3_clear, Cond.code yX3_clear cX3_clear 1 none, Cond.fieldLink RX3 15 "SteamRations$Machine" "left" "I", Cond.fieldLink RX3 18 "SteamRations$Machine" "waits" "I", Cond.methodLink RX2 170 yX2_takeSteam]
def wsX2_letPass_r4 : List Cond := [Cond.instanceMethod yX2_takeSteam, Cond.selects RX2 yX2_takeSteam yX2_takeSteam, Cond.code yX2_takeSteam cX2_takeSteam 8 none, Cond.methodLink RX2 173 yX2_workLoads, Cond.instanceMethod yX2_workLoads, Cond.selects RX2 yX2_workLoads yX2_workLoads, Cond.code yX2_workLoads cX2_workLoads 5 none, Cond.fieldLink RX2 125 "SteamRations$Machine" "left" "I", Cond.fieldLink RX2 70 "SteamRations$Laundry" "worth" "I", Cond.static yX6_worthOf, Cond.code yX6_worthOf cX6_worthOf 1 (some .int), Cond.methodLink RX2 176 yX0_coolDown, Cond.instanceMethod yX0_coolDown, Cond.selects RX0 yX0_coolDown yX0_coolDown, Cond.code yX0_coolDown cX0_coolDown 1 none, Cond.fieldLink RX0 24 "SteamRations$Boiler" "stops" "I", Cond.methodLink RX2 146 yX5_kindAt, Cond.instanceMethod yX5_kindAt, Cond.selects RX5 yX5_kindAt yX5_kindAt, Cond.initialized RX5, Cond.code yX5_kindAt cX5_kindAt 2 (some .int), Cond.fieldLink RX5 15 "SteamRations$WaitingLine" "length" "I", Cond.fieldLink RX5 9 "SteamRations$WaitingLine" "kinds" "[I", Cond.methodLink RX2 117 yX2_reasonAgainst]
def wsX2_letPass_r5 : List Cond := [Cond.instanceMethod yX2_reasonAgainst, Cond.selects RX2 yX2_reasonAgainst yX2_reasonAgainst, Cond.code yX2_reasonAgainst cX2_reasonAgainst 6 (some .int), Cond.methodLink RX2 149 yX2_lowestEmptyMachine, Cond.instanceMethod yX2_lowestEmptyMachine, Cond.selects RX2 yX2_lowestEmptyMachine yX2_lowestEmptyMachine, Cond.code yX2_lowestEmptyMachine cX2_lowestEmptyMachine 5 (some (.object "SteamRations$Machine")), Cond.methodLink RX2 153 yX2_copyFrom, Cond.instanceMethod yX2_copyFrom, Cond.selects RX2 yX2_copyFrom yX2_copyFrom, Cond.code yX2_copyFrom cX2_copyFrom 3 none, Cond.fieldLink RX2 67 "SteamRations$Laundry" "takenOut" "I", Cond.methodLink RX2 39 yX0_copyFrom, Cond.instanceMethod yX0_copyFrom, Cond.selects RX0 yX0_copyFrom yX0_copyFrom, Cond.code yX0_copyFrom cX0_copyFrom 2 none, Cond.methodLink RX2 43 yX3_copyFrom, Cond.instanceMethod yX3_copyFrom, Cond.selects RX3 yX3_copyFrom yX3_copyFrom, Cond.code yX3_copyFrom cX3_copyFrom 2 none, Cond.methodLink RX2 46 yX5_copyFrom, Cond.instanceMethod yX5_copyFrom, Cond.selects RX5 yX5_copyFrom yX5_copyFrom, Cond.code yX5_copyFrom cX5_copyFrom 3 none]
def wsX2_letPass_r6 : List Cond := [Cond.methodLink RX2 121 yX3_put, Cond.instanceMethod yX3_put, Cond.selects RX3 yX3_put yX3_put, Cond.code yX3_put cX3_put 2 none, Cond.static yX6_ticksOf, Cond.code yX6_ticksOf cX6_ticksOf 1 (some .int), Cond.methodLink RX2 132 yX5_remove, Cond.instanceMethod yX5_remove, Cond.selects RX5 yX5_remove yX5_remove, Cond.code yX5_remove cX5_remove 4 (some .int), Cond.methodLink RX5 19 yX5_kindAt]
def wsX2_letPass : List Cond := .code yX2_letPass cX2_letPass 5 (some .int) :: ((wsX2_letPass_r1 ++ (wsX2_letPass_r2 ++ (wsX2_letPass_r3 ++ (wsX2_letPass_r4 ++ (wsX2_letPass_r5 ++ wsX2_letPass_r6))))) ++ wsX20 ++ wsX00 ++ wsX30 ++ wsX50)
def wsX2_lightFires : List Cond := .code yX2_lightFires cX2_lightFires 5 none :: ([.fieldLink RX2 107 "SteamRations$Boiler" "fire" "I", .methodLink RX2 96 yX2_boilerAt, .instanceMethod yX2_boilerAt, .selects RX2 yX2_boilerAt yX2_boilerAt, .initialized RX2, .code yX2_boilerAt cX2_boilerAt 2 (some (.object "SteamRations$Boiler")), .fieldLink RX2 12 "SteamRations$Laundry" "boilers" "[LSteamRations$Boiler;"] ++ wsX00 ++ wsX20)
def wsX4_init : List Cond := .code yX4_init cX4_init 1 none :: ([.methodLink RX4 3 objectInit, .instanceMethod objectInit, .code objectInit ⟨#[0xb1]⟩ 1 none, .arrayClass .char, .fieldLink RX4 9 "SteamRations$OrderText" "characters" "[C"] ++ wsX40)
def wsX4_add : List Cond := .code yX4_add cX4_add 2 (some .int) :: ([.fieldLink RX4 15 "SteamRations$OrderText" "length" "I", .fieldLink RX4 9 "SteamRations$OrderText" "characters" "[C"] ++ wsX40)
def wsX4_empty : List Cond := .code yX4_empty cX4_empty 2 (some .int) :: ([.fieldLink RX4 15 "SteamRations$OrderText" "length" "I"] ++ wsX40)
def wsX4_rewind : List Cond := .code yX4_rewind cX4_rewind 1 none :: ([.fieldLink RX4 26 "SteamRations$OrderText" "place" "I"] ++ wsX40)
def wsX4_here : List Cond := .code yX4_here cX4_here 1 (some .int) :: ([.fieldLink RX4 26 "SteamRations$OrderText" "place" "I", .fieldLink RX4 15 "SteamRations$OrderText" "length" "I", .fieldLink RX4 9 "SteamRations$OrderText" "characters" "[C"] ++ wsX40)
def wsX4_accept : List Cond := .code yX4_accept cX4_accept 2 (some .boolean) :: ([.fieldLink RX4 26 "SteamRations$OrderText" "place" "I", .methodLink RX4 33 yX4_here, .instanceMethod yX4_here, .selects RX4 yX4_here yX4_here, .initialized RX4, .code yX4_here cX4_here 1 (some .int), .fieldLink RX4 15 "SteamRations$OrderText" "length" "I", .fieldLink RX4 9 "SteamRations$OrderText" "characters" "[C"] ++ wsX40)
def wsX4_digitHere : List Cond := .code yX4_digitHere cX4_digitHere 2 (some .int) :: ([.methodLink RX4 33 yX4_here, .instanceMethod yX4_here, .selects RX4 yX4_here yX4_here, .initialized RX4, .code yX4_here cX4_here 1 (some .int), .fieldLink RX4 26 "SteamRations$OrderText" "place" "I", .fieldLink RX4 15 "SteamRations$OrderText" "length" "I", .fieldLink RX4 9 "SteamRations$OrderText" "characters" "[C", .static yX6_isWithin, .initialized RX6, .code yX6_isWithin cX6_isWithin 3 (some .boolean)] ++ wsX40)
def wsX4_readValue : List Cond := .code yX4_readValue cX4_readValue 5 (some .boolean) :: ([.fieldLink RX4 48 "SteamRations$OrderText" "value" "I", .fieldLink RX4 26 "SteamRations$OrderText" "place" "I", .methodLink RX4 54 yX4_digitHere, .instanceMethod yX4_digitHere, .selects RX4 yX4_digitHere yX4_digitHere, .initialized RX4, .code yX4_digitHere cX4_digitHere 2 (some .int), .methodLink RX4 33 yX4_here, .instanceMethod yX4_here, .selects RX4 yX4_here yX4_here, .code yX4_here cX4_here 1 (some .int), .fieldLink RX4 15 "SteamRations$OrderText" "length" "I", .fieldLink RX4 9 "SteamRations$OrderText" "characters" "[C", .static yX6_isWithin, .initialized RX6, .code yX6_isWithin cX6_isWithin 3 (some .boolean)] ++ wsX40)
def wsX4_readTarget_r1 : List Cond := [Cond.fieldLink RX4 48 "SteamRations$OrderText" "value" "I", Cond.fieldLink RX4 51 "SteamRations$OrderText" "target" "I", Cond.methodLink RX4 44 yX4_readValue, Cond.instanceMethod yX4_readValue, Cond.selects RX4 yX4_readValue yX4_readValue, Cond.initialized RX4, Cond.code yX4_readValue cX4_readValue 5 (some .boolean), Cond.fieldLink RX4 26 "SteamRations$OrderText" "place" "I", Cond.methodLink RX4 54 yX4_digitHere, Cond.instanceMethod yX4_digitHere, Cond.selects RX4 yX4_digitHere yX4_digitHere, Cond.code yX4_digitHere cX4_digitHere 2 (some .int), Cond.methodLink RX4 33 yX4_here, Cond.instanceMethod yX4_here, Cond.selects RX4 yX4_here yX4_here, Cond.code yX4_here cX4_here 1 (some .int), Cond.fieldLink RX4 15 "SteamRations$OrderText" "length" "I", Cond.fieldLink RX4 9 "SteamRations$OrderText" "characters" "[C", Cond.static yX6_isWithin, Cond.initialized RX6, Cond.code yX6_isWithin cX6_isWithin 3 (some .boolean), Cond.methodLink RX4 29 yX4_accept, Cond.instanceMethod yX4_accept, Cond.selects RX4 yX4_accept yX4_accept]
def wsX4_readTarget_r2 : List Cond := [Cond.code yX4_accept cX4_accept 2 (some .boolean)]
def wsX4_readTarget : List Cond := .code yX4_readTarget cX4_readTarget 2 (some .boolean) :: ((wsX4_readTarget_r1 ++ wsX4_readTarget_r2) ++ wsX40)
def wsX4_readOrder_r1 : List Cond := [Cond.fieldLink RX4 37 "SteamRations$OrderText" "letter" "I", Cond.methodLink RX4 33 yX4_here, Cond.instanceMethod yX4_here, Cond.selects RX4 yX4_here yX4_here, Cond.initialized RX4, Cond.code yX4_here cX4_here 1 (some .int), Cond.fieldLink RX4 26 "SteamRations$OrderText" "place" "I", Cond.fieldLink RX4 15 "SteamRations$OrderText" "length" "I", Cond.fieldLink RX4 9 "SteamRations$OrderText" "characters" "[C", Cond.methodLink RX4 29 yX4_accept, Cond.instanceMethod yX4_accept, Cond.selects RX4 yX4_accept yX4_accept, Cond.code yX4_accept cX4_accept 2 (some .boolean), Cond.methodLink RX4 40 yX4_readTarget, Cond.instanceMethod yX4_readTarget, Cond.selects RX4 yX4_readTarget yX4_readTarget, Cond.code yX4_readTarget cX4_readTarget 2 (some .boolean), Cond.fieldLink RX4 48 "SteamRations$OrderText" "value" "I", Cond.fieldLink RX4 51 "SteamRations$OrderText" "target" "I", Cond.methodLink RX4 44 yX4_readValue, Cond.instanceMethod yX4_readValue, Cond.selects RX4 yX4_readValue yX4_readValue, Cond.code yX4_readValue cX4_readValue 5 (some .boolean), Cond.methodLink RX4 54 yX4_digitHere]
def wsX4_readOrder_r2 : List Cond := [Cond.instanceMethod yX4_digitHere, Cond.selects RX4 yX4_digitHere yX4_digitHere, Cond.code yX4_digitHere cX4_digitHere 2 (some .int), Cond.static yX6_isWithin, Cond.initialized RX6, Cond.code yX6_isWithin cX6_isWithin 3 (some .boolean)]
def wsX4_readOrder : List Cond := .code yX4_readOrder cX4_readOrder 1 (some .boolean) :: ((wsX4_readOrder_r1 ++ wsX4_readOrder_r2) ++ wsX40)
def wsX4_countOrders_r1 : List Cond := [Cond.fieldLink RX4 26 "SteamRations$OrderText" "place" "I", Cond.fieldLink RX4 15 "SteamRations$OrderText" "length" "I", Cond.methodLink RX4 19 yX4_rewind, Cond.instanceMethod yX4_rewind, Cond.selects RX4 yX4_rewind yX4_rewind, Cond.initialized RX4, Cond.code yX4_rewind cX4_rewind 1 none, Cond.methodLink RX4 22 yX4_readOrder, Cond.instanceMethod yX4_readOrder, Cond.selects RX4 yX4_readOrder yX4_readOrder, Cond.code yX4_readOrder cX4_readOrder 1 (some .boolean), Cond.fieldLink RX4 37 "SteamRations$OrderText" "letter" "I", Cond.methodLink RX4 33 yX4_here, Cond.instanceMethod yX4_here, Cond.selects RX4 yX4_here yX4_here, Cond.code yX4_here cX4_here 1 (some .int), Cond.fieldLink RX4 9 "SteamRations$OrderText" "characters" "[C", Cond.methodLink RX4 29 yX4_accept, Cond.instanceMethod yX4_accept, Cond.selects RX4 yX4_accept yX4_accept, Cond.code yX4_accept cX4_accept 2 (some .boolean), Cond.methodLink RX4 40 yX4_readTarget, Cond.instanceMethod yX4_readTarget, Cond.selects RX4 yX4_readTarget yX4_readTarget]
def wsX4_countOrders_r2 : List Cond := [Cond.code yX4_readTarget cX4_readTarget 2 (some .boolean), Cond.fieldLink RX4 48 "SteamRations$OrderText" "value" "I", Cond.fieldLink RX4 51 "SteamRations$OrderText" "target" "I", Cond.methodLink RX4 44 yX4_readValue, Cond.instanceMethod yX4_readValue, Cond.selects RX4 yX4_readValue yX4_readValue, Cond.code yX4_readValue cX4_readValue 5 (some .boolean), Cond.methodLink RX4 54 yX4_digitHere, Cond.instanceMethod yX4_digitHere, Cond.selects RX4 yX4_digitHere yX4_digitHere, Cond.code yX4_digitHere cX4_digitHere 2 (some .int), Cond.static yX6_isWithin, Cond.initialized RX6, Cond.code yX6_isWithin cX6_isWithin 3 (some .boolean)]
def wsX4_countOrders : List Cond := .code yX4_countOrders cX4_countOrders 2 (some .int) :: ((wsX4_countOrders_r1 ++ wsX4_countOrders_r2) ++ wsX40)
def wsX4_readNextOrder_r1 : List Cond := [Cond.methodLink RX4 29 yX4_accept, Cond.instanceMethod yX4_accept, Cond.selects RX4 yX4_accept yX4_accept, Cond.initialized RX4, Cond.code yX4_accept cX4_accept 2 (some .boolean), Cond.fieldLink RX4 26 "SteamRations$OrderText" "place" "I", Cond.methodLink RX4 33 yX4_here, Cond.instanceMethod yX4_here, Cond.selects RX4 yX4_here yX4_here, Cond.code yX4_here cX4_here 1 (some .int), Cond.fieldLink RX4 15 "SteamRations$OrderText" "length" "I", Cond.fieldLink RX4 9 "SteamRations$OrderText" "characters" "[C", Cond.methodLink RX4 22 yX4_readOrder, Cond.instanceMethod yX4_readOrder, Cond.selects RX4 yX4_readOrder yX4_readOrder, Cond.code yX4_readOrder cX4_readOrder 1 (some .boolean), Cond.fieldLink RX4 37 "SteamRations$OrderText" "letter" "I", Cond.methodLink RX4 40 yX4_readTarget, Cond.instanceMethod yX4_readTarget, Cond.selects RX4 yX4_readTarget yX4_readTarget, Cond.code yX4_readTarget cX4_readTarget 2 (some .boolean), Cond.fieldLink RX4 48 "SteamRations$OrderText" "value" "I", Cond.fieldLink RX4 51 "SteamRations$OrderText" "target" "I", Cond.methodLink RX4 44 yX4_readValue]
def wsX4_readNextOrder_r2 : List Cond := [Cond.instanceMethod yX4_readValue, Cond.selects RX4 yX4_readValue yX4_readValue, Cond.code yX4_readValue cX4_readValue 5 (some .boolean), Cond.methodLink RX4 54 yX4_digitHere, Cond.instanceMethod yX4_digitHere, Cond.selects RX4 yX4_digitHere yX4_digitHere, Cond.code yX4_digitHere cX4_digitHere 2 (some .int), Cond.static yX6_isWithin, Cond.initialized RX6, Cond.code yX6_isWithin cX6_isWithin 3 (some .boolean)]
def wsX4_readNextOrder : List Cond := .code yX4_readNextOrder cX4_readNextOrder 1 none :: ((wsX4_readNextOrder_r1 ++ wsX4_readNextOrder_r2) ++ wsX40)
def wsX6_init_r1 : List Cond := [Cond.methodLink RX6 1 objectInit, Cond.instanceMethod objectInit, Cond.code objectInit ⟨#[0xb1]⟩ 1 none, Cond.classLink RX6 7 RX2, Cond.instantiable RX2 14, Cond.initialized RX2, Cond.fieldLink RX6 10 "SteamRations" "now" "LSteamRations$Laundry;", Cond.fieldLink RX6 16 "SteamRations" "before" "LSteamRations$Laundry;", Cond.fieldLink RX6 19 "SteamRations" "ahead" "LSteamRations$Laundry;", Cond.fieldLink RX6 22 "SteamRations" "trial" "LSteamRations$Laundry;", Cond.fieldLink RX6 25 "SteamRations" "snapshot" "LSteamRations$Laundry;", Cond.classLink RX6 28 RX1, Cond.instantiable RX1 2, Cond.initialized RX1, Cond.fieldLink RX6 31 "SteamRations" "history" "LSteamRations$History;", Cond.classLink RX6 35 RX4, Cond.instantiable RX4 6, Cond.initialized RX4, Cond.fieldLink RX6 38 "SteamRations" "text" "LSteamRations$OrderText;", Cond.fieldLink RX6 42 "SteamRations" "hasSnapshot" "Z", Cond.fieldLink RX6 46 "SteamRations" "stopNumber" "I", Cond.fieldLink RX6 50 "SteamRations" "stopError" "I", Cond.methodLink RX6 9 yX2_init, Cond.instanceMethod yX2_init]
def wsX6_init_r2 : List Cond := [Cond.code yX2_init cX2_init 1 none, Cond.methodLink RX2 3 objectInit, Cond.classLink RX2 9 RX0, Cond.instantiable RX0 5, Cond.initialized RX0, Cond.fieldLink RX2 12 "SteamRations$Laundry" "boilers" "[LSteamRations$Boiler;", Cond.classLink RX2 18 RX3, Cond.instantiable RX3 3, Cond.initialized RX3, Cond.fieldLink RX2 21 "SteamRations$Laundry" "machines" "[LSteamRations$Machine;", Cond.classLink RX2 25 RX5, Cond.instantiable RX5 2, Cond.initialized RX5, Cond.fieldLink RX2 28 "SteamRations$Laundry" "waiting" "LSteamRations$WaitingLine;", Cond.fieldLink RX2 32 "SteamRations$Laundry" "coal" "I", Cond.fieldLink RX2 36 "SteamRations$Laundry" "ration" "I", Cond.methodLink RX2 11 yX0_init, Cond.instanceMethod yX0_init, Cond.code yX0_init cX0_init 1 none, Cond.methodLink RX0 3 objectInit, Cond.fieldLink RX0 9 "SteamRations$Boiler" "water" "I", Cond.methodLink RX2 20 yX3_init, Cond.instanceMethod yX3_init, Cond.code yX3_init cX3_init 1 none]
def wsX6_init_r3 : List Cond := [Cond.methodLink RX3 3 objectInit, Cond.fieldLink RX3 9 "SteamRations$Machine" "kind" "I", Cond.methodLink RX2 27 yX5_init, Cond.instanceMethod yX5_init, Cond.code yX5_init cX5_init 1 none, Cond.methodLink RX5 3 objectInit, Cond.arrayClass .int, Cond.fieldLink RX5 9 "SteamRations$WaitingLine" "kinds" "[I", Cond.methodLink RX6 30 yX1_init, Cond.instanceMethod yX1_init, Cond.code yX1_init cX1_init 1 none, Cond.methodLink RX1 3 objectInit, Cond.classLink RX1 9 RX2, Cond.fieldLink RX1 12 "SteamRations$History" "states" "[LSteamRations$Laundry;", Cond.methodLink RX1 11 yX2_init, Cond.methodLink RX6 37 yX4_init, Cond.instanceMethod yX4_init, Cond.code yX4_init cX4_init 1 none, Cond.methodLink RX4 3 objectInit, Cond.arrayClass .char, Cond.fieldLink RX4 9 "SteamRations$OrderText" "characters" "[C"]
def wsX6_init : List Cond := .code yX6_init cX6_init 1 none :: ((wsX6_init_r1 ++ (wsX6_init_r2 ++ wsX6_init_r3)) ++ wsX20 ++ wsX60 ++ wsX10 ++ wsX40 ++ wsX00 ++ wsX30 ++ wsX50)
def wsX6_recorded_r1 : List Cond := [Cond.fieldLink RX6 31 "SteamRations" "history" "LSteamRations$History;", Cond.fieldLink RX6 16 "SteamRations" "before" "LSteamRations$Laundry;", Cond.methodLink RX6 196 yX1_push, Cond.instanceMethod yX1_push, Cond.selects RX1 yX1_push yX1_push, Cond.initialized RX1, Cond.code yX1_push cX1_push 2 none, Cond.fieldLink RX1 18 "SteamRations$History" "size" "I", Cond.fieldLink RX1 12 "SteamRations$History" "states" "[LSteamRations$Laundry;", Cond.methodLink RX1 22 yX1_dropOldest, Cond.instanceMethod yX1_dropOldest, Cond.selects RX1 yX1_dropOldest yX1_dropOldest, Cond.code yX1_dropOldest cX1_dropOldest 3 none, Cond.methodLink RX1 25 yX2_copyFrom, Cond.instanceMethod yX2_copyFrom, Cond.selects RX2 yX2_copyFrom yX2_copyFrom, Cond.initialized RX2, Cond.code yX2_copyFrom cX2_copyFrom 3 none, Cond.fieldLink RX2 12 "SteamRations$Laundry" "boilers" "[LSteamRations$Boiler;", Cond.fieldLink RX2 21 "SteamRations$Laundry" "machines" "[LSteamRations$Machine;", Cond.fieldLink RX2 28 "SteamRations$Laundry" "waiting" "LSteamRations$WaitingLine;", Cond.fieldLink RX2 49 "SteamRations$Laundry" "ticks" "I", Cond.fieldLink RX2 52 "SteamRations$Laundry" "washed" "I", Cond.fieldLink RX2 55 "SteamRations$Laundry" "spoiled" "I"]
def wsX6_recorded_r2 : List Cond := [Cond.fieldLink RX2 58 "SteamRations$Laundry" "burnt" "I", Cond.fieldLink RX2 32 "SteamRations$Laundry" "coal" "I", Cond.fieldLink RX2 36 "SteamRations$Laundry" "ration" "I", Cond.fieldLink RX2 61 "SteamRations$Laundry" "rationed" "I", Cond.fieldLink RX2 64 "SteamRations$Laundry" "started" "I", Cond.fieldLink RX2 67 "SteamRations$Laundry" "takenOut" "I", Cond.fieldLink RX2 70 "SteamRations$Laundry" "worth" "I", Cond.fieldLink RX2 73 "SteamRations$Laundry" "ticksOfWaits" "I", Cond.methodLink RX2 39 yX0_copyFrom, Cond.instanceMethod yX0_copyFrom, Cond.selects RX0 yX0_copyFrom yX0_copyFrom, Cond.initialized RX0, Cond.code yX0_copyFrom cX0_copyFrom 2 none, Cond.fieldLink RX0 15 "SteamRations$Boiler" "fire" "I", Cond.fieldLink RX0 9 "SteamRations$Boiler" "water" "I", Cond.fieldLink RX0 18 "SteamRations$Boiler" "pressure" "I", Cond.fieldLink RX0 21 "SteamRations$Boiler" "stopLeft" "I", Cond.fieldLink RX0 24 "SteamRations$Boiler" "stops" "I", Cond.methodLink RX2 43 yX3_copyFrom, Cond.instanceMethod yX3_copyFrom, Cond.selects RX3 yX3_copyFrom yX3_copyFrom, Cond.initialized RX3, Cond.code yX3_copyFrom cX3_copyFrom 2 none, Cond.fieldLink RX3 9 "SteamRations$Machine" "kind" "I"]
def wsX6_recorded_r3 : List Cond := [Cond.fieldLink RX3 15 "SteamRations$Machine" "left" "I", Cond.fieldLink RX3 18 "SteamRations$Machine" "waits" "I", Cond.methodLink RX2 46 yX5_copyFrom, Cond.instanceMethod yX5_copyFrom, Cond.selects RX5 yX5_copyFrom yX5_copyFrom, Cond.initialized RX5, Cond.code yX5_copyFrom cX5_copyFrom 3 none, Cond.fieldLink RX5 15 "SteamRations$WaitingLine" "length" "I", Cond.fieldLink RX5 9 "SteamRations$WaitingLine" "kinds" "[I"]
def wsX6_recorded : List Cond := .code yX6_recorded cX6_recorded 2 (some .int) :: ((wsX6_recorded_r1 ++ (wsX6_recorded_r2 ++ wsX6_recorded_r3)) ++ wsX60 ++ wsX10 ++ wsX20 ++ wsX00 ++ wsX30 ++ wsX50)
def wsX6_setFire_r1 : List Cond := [Cond.fieldLink RX6 16 "SteamRations" "before" "LSteamRations$Laundry;", Cond.fieldLink RX6 10 "SteamRations" "now" "LSteamRations$Laundry;", Cond.methodLink RX6 53 yX2_copyFrom, Cond.instanceMethod yX2_copyFrom, Cond.selects RX2 yX2_copyFrom yX2_copyFrom, Cond.initialized RX2, Cond.code yX2_copyFrom cX2_copyFrom 3 none, Cond.fieldLink RX2 12 "SteamRations$Laundry" "boilers" "[LSteamRations$Boiler;", Cond.fieldLink RX2 21 "SteamRations$Laundry" "machines" "[LSteamRations$Machine;", Cond.fieldLink RX2 28 "SteamRations$Laundry" "waiting" "LSteamRations$WaitingLine;", Cond.fieldLink RX2 49 "SteamRations$Laundry" "ticks" "I", Cond.fieldLink RX2 52 "SteamRations$Laundry" "washed" "I", Cond.fieldLink RX2 55 "SteamRations$Laundry" "spoiled" "I", Cond.fieldLink RX2 58 "SteamRations$Laundry" "burnt" "I", Cond.fieldLink RX2 32 "SteamRations$Laundry" "coal" "I", Cond.fieldLink RX2 36 "SteamRations$Laundry" "ration" "I", Cond.fieldLink RX2 61 "SteamRations$Laundry" "rationed" "I", Cond.fieldLink RX2 64 "SteamRations$Laundry" "started" "I", Cond.fieldLink RX2 67 "SteamRations$Laundry" "takenOut" "I", Cond.fieldLink RX2 70 "SteamRations$Laundry" "worth" "I", Cond.fieldLink RX2 73 "SteamRations$Laundry" "ticksOfWaits" "I", Cond.methodLink RX2 39 yX0_copyFrom, Cond.instanceMethod yX0_copyFrom, Cond.selects RX0 yX0_copyFrom yX0_copyFrom]
def wsX6_setFire_r2 : List Cond := [Cond.initialized RX0, Cond.code yX0_copyFrom cX0_copyFrom 2 none, Cond.fieldLink RX0 15 "SteamRations$Boiler" "fire" "I", Cond.fieldLink RX0 9 "SteamRations$Boiler" "water" "I", Cond.fieldLink RX0 18 "SteamRations$Boiler" "pressure" "I", Cond.fieldLink RX0 21 "SteamRations$Boiler" "stopLeft" "I", Cond.fieldLink RX0 24 "SteamRations$Boiler" "stops" "I", Cond.methodLink RX2 43 yX3_copyFrom, Cond.instanceMethod yX3_copyFrom, Cond.selects RX3 yX3_copyFrom yX3_copyFrom, Cond.initialized RX3, Cond.code yX3_copyFrom cX3_copyFrom 2 none, Cond.fieldLink RX3 9 "SteamRations$Machine" "kind" "I", Cond.fieldLink RX3 15 "SteamRations$Machine" "left" "I", Cond.fieldLink RX3 18 "SteamRations$Machine" "waits" "I", Cond.methodLink RX2 46 yX5_copyFrom, Cond.instanceMethod yX5_copyFrom, Cond.selects RX5 yX5_copyFrom yX5_copyFrom, Cond.initialized RX5, Cond.code yX5_copyFrom cX5_copyFrom 3 none, Cond.fieldLink RX5 15 "SteamRations$WaitingLine" "length" "I", Cond.fieldLink RX5 9 "SteamRations$WaitingLine" "kinds" "[I", Cond.methodLink RX6 57 yX2_changeFire, Cond.instanceMethod yX2_changeFire]
def wsX6_setFire_r3 : List Cond := [Cond.selects RX2 yX2_changeFire yX2_changeFire, Cond.code yX2_changeFire cX2_changeFire 5 (some .int), Cond.fieldLink RX2 104 "SteamRations$Boiler" "stopLeft" "I", Cond.fieldLink RX2 107 "SteamRations$Boiler" "fire" "I", Cond.methodLink RX2 96 yX2_boilerAt, Cond.instanceMethod yX2_boilerAt, Cond.selects RX2 yX2_boilerAt yX2_boilerAt, Cond.code yX2_boilerAt cX2_boilerAt 2 (some (.object "SteamRations$Boiler")), Cond.static yX6_isWithin, Cond.initialized RX6, Cond.code yX6_isWithin cX6_isWithin 3 (some .boolean), Cond.methodLink RX6 61 yX6_recorded, Cond.instanceMethod yX6_recorded, Cond.selects RX6 yX6_recorded yX6_recorded, Cond.code yX6_recorded cX6_recorded 2 (some .int), Cond.fieldLink RX6 31 "SteamRations" "history" "LSteamRations$History;", Cond.methodLink RX6 196 yX1_push, Cond.instanceMethod yX1_push, Cond.selects RX1 yX1_push yX1_push, Cond.initialized RX1, Cond.code yX1_push cX1_push 2 none, Cond.fieldLink RX1 18 "SteamRations$History" "size" "I", Cond.fieldLink RX1 12 "SteamRations$History" "states" "[LSteamRations$Laundry;", Cond.methodLink RX1 22 yX1_dropOldest]
def wsX6_setFire_r4 : List Cond := [Cond.instanceMethod yX1_dropOldest, Cond.selects RX1 yX1_dropOldest yX1_dropOldest, Cond.code yX1_dropOldest cX1_dropOldest 3 none, Cond.methodLink RX1 25 yX2_copyFrom]
def wsX6_setFire : List Cond := .code yX6_setFire cX6_setFire 3 (some .int) :: ((wsX6_setFire_r1 ++ (wsX6_setFire_r2 ++ (wsX6_setFire_r3 ++ wsX6_setFire_r4))) ++ wsX60 ++ wsX20 ++ wsX00 ++ wsX30 ++ wsX50 ++ wsX10)
def wsX6_fill_r1 : List Cond := [Cond.fieldLink RX6 16 "SteamRations" "before" "LSteamRations$Laundry;", Cond.fieldLink RX6 10 "SteamRations" "now" "LSteamRations$Laundry;", Cond.methodLink RX6 53 yX2_copyFrom, Cond.instanceMethod yX2_copyFrom, Cond.selects RX2 yX2_copyFrom yX2_copyFrom, Cond.initialized RX2, Cond.code yX2_copyFrom cX2_copyFrom 3 none, Cond.fieldLink RX2 12 "SteamRations$Laundry" "boilers" "[LSteamRations$Boiler;", Cond.fieldLink RX2 21 "SteamRations$Laundry" "machines" "[LSteamRations$Machine;", Cond.fieldLink RX2 28 "SteamRations$Laundry" "waiting" "LSteamRations$WaitingLine;", Cond.fieldLink RX2 49 "SteamRations$Laundry" "ticks" "I", Cond.fieldLink RX2 52 "SteamRations$Laundry" "washed" "I", Cond.fieldLink RX2 55 "SteamRations$Laundry" "spoiled" "I", Cond.fieldLink RX2 58 "SteamRations$Laundry" "burnt" "I", Cond.fieldLink RX2 32 "SteamRations$Laundry" "coal" "I", Cond.fieldLink RX2 36 "SteamRations$Laundry" "ration" "I", Cond.fieldLink RX2 61 "SteamRations$Laundry" "rationed" "I", Cond.fieldLink RX2 64 "SteamRations$Laundry" "started" "I", Cond.fieldLink RX2 67 "SteamRations$Laundry" "takenOut" "I", Cond.fieldLink RX2 70 "SteamRations$Laundry" "worth" "I", Cond.fieldLink RX2 73 "SteamRations$Laundry" "ticksOfWaits" "I", Cond.methodLink RX2 39 yX0_copyFrom, Cond.instanceMethod yX0_copyFrom, Cond.selects RX0 yX0_copyFrom yX0_copyFrom]
def wsX6_fill_r2 : List Cond := [Cond.initialized RX0, Cond.code yX0_copyFrom cX0_copyFrom 2 none, Cond.fieldLink RX0 15 "SteamRations$Boiler" "fire" "I", Cond.fieldLink RX0 9 "SteamRations$Boiler" "water" "I", Cond.fieldLink RX0 18 "SteamRations$Boiler" "pressure" "I", Cond.fieldLink RX0 21 "SteamRations$Boiler" "stopLeft" "I", Cond.fieldLink RX0 24 "SteamRations$Boiler" "stops" "I", Cond.methodLink RX2 43 yX3_copyFrom, Cond.instanceMethod yX3_copyFrom, Cond.selects RX3 yX3_copyFrom yX3_copyFrom, Cond.initialized RX3, Cond.code yX3_copyFrom cX3_copyFrom 2 none, Cond.fieldLink RX3 9 "SteamRations$Machine" "kind" "I", Cond.fieldLink RX3 15 "SteamRations$Machine" "left" "I", Cond.fieldLink RX3 18 "SteamRations$Machine" "waits" "I", Cond.methodLink RX2 46 yX5_copyFrom, Cond.instanceMethod yX5_copyFrom, Cond.selects RX5 yX5_copyFrom yX5_copyFrom, Cond.initialized RX5, Cond.code yX5_copyFrom cX5_copyFrom 3 none, Cond.fieldLink RX5 15 "SteamRations$WaitingLine" "length" "I", Cond.fieldLink RX5 9 "SteamRations$WaitingLine" "kinds" "[I", Cond.methodLink RX6 65 yX2_letWaterIn, Cond.instanceMethod yX2_letWaterIn]
def wsX6_fill_r3 : List Cond := [Cond.selects RX2 yX2_letWaterIn yX2_letWaterIn, Cond.code yX2_letWaterIn cX2_letWaterIn 4 (some .int), Cond.fieldLink RX2 110 "SteamRations$Boiler" "water" "I", Cond.methodLink RX2 96 yX2_boilerAt, Cond.instanceMethod yX2_boilerAt, Cond.selects RX2 yX2_boilerAt yX2_boilerAt, Cond.code yX2_boilerAt cX2_boilerAt 2 (some (.object "SteamRations$Boiler")), Cond.static yX6_isWithin, Cond.initialized RX6, Cond.code yX6_isWithin cX6_isWithin 3 (some .boolean), Cond.methodLink RX6 61 yX6_recorded, Cond.instanceMethod yX6_recorded, Cond.selects RX6 yX6_recorded yX6_recorded, Cond.code yX6_recorded cX6_recorded 2 (some .int), Cond.fieldLink RX6 31 "SteamRations" "history" "LSteamRations$History;", Cond.methodLink RX6 196 yX1_push, Cond.instanceMethod yX1_push, Cond.selects RX1 yX1_push yX1_push, Cond.initialized RX1, Cond.code yX1_push cX1_push 2 none, Cond.fieldLink RX1 18 "SteamRations$History" "size" "I", Cond.fieldLink RX1 12 "SteamRations$History" "states" "[LSteamRations$Laundry;", Cond.methodLink RX1 22 yX1_dropOldest, Cond.instanceMethod yX1_dropOldest]
def wsX6_fill_r4 : List Cond := [Cond.selects RX1 yX1_dropOldest yX1_dropOldest, Cond.code yX1_dropOldest cX1_dropOldest 3 none, Cond.methodLink RX1 25 yX2_copyFrom]
def wsX6_fill : List Cond := .code yX6_fill cX6_fill 3 (some .int) :: ((wsX6_fill_r1 ++ (wsX6_fill_r2 ++ (wsX6_fill_r3 ++ wsX6_fill_r4))) ++ wsX60 ++ wsX20 ++ wsX00 ++ wsX30 ++ wsX50 ++ wsX10)
def wsX6_setRation_r1 : List Cond := [Cond.fieldLink RX6 16 "SteamRations" "before" "LSteamRations$Laundry;", Cond.fieldLink RX6 10 "SteamRations" "now" "LSteamRations$Laundry;", Cond.methodLink RX6 53 yX2_copyFrom, Cond.instanceMethod yX2_copyFrom, Cond.selects RX2 yX2_copyFrom yX2_copyFrom, Cond.initialized RX2, Cond.code yX2_copyFrom cX2_copyFrom 3 none, Cond.fieldLink RX2 12 "SteamRations$Laundry" "boilers" "[LSteamRations$Boiler;", Cond.fieldLink RX2 21 "SteamRations$Laundry" "machines" "[LSteamRations$Machine;", Cond.fieldLink RX2 28 "SteamRations$Laundry" "waiting" "LSteamRations$WaitingLine;", Cond.fieldLink RX2 49 "SteamRations$Laundry" "ticks" "I", Cond.fieldLink RX2 52 "SteamRations$Laundry" "washed" "I", Cond.fieldLink RX2 55 "SteamRations$Laundry" "spoiled" "I", Cond.fieldLink RX2 58 "SteamRations$Laundry" "burnt" "I", Cond.fieldLink RX2 32 "SteamRations$Laundry" "coal" "I", Cond.fieldLink RX2 36 "SteamRations$Laundry" "ration" "I", Cond.fieldLink RX2 61 "SteamRations$Laundry" "rationed" "I", Cond.fieldLink RX2 64 "SteamRations$Laundry" "started" "I", Cond.fieldLink RX2 67 "SteamRations$Laundry" "takenOut" "I", Cond.fieldLink RX2 70 "SteamRations$Laundry" "worth" "I", Cond.fieldLink RX2 73 "SteamRations$Laundry" "ticksOfWaits" "I", Cond.methodLink RX2 39 yX0_copyFrom, Cond.instanceMethod yX0_copyFrom, Cond.selects RX0 yX0_copyFrom yX0_copyFrom]
def wsX6_setRation_r2 : List Cond := [Cond.initialized RX0, Cond.code yX0_copyFrom cX0_copyFrom 2 none, Cond.fieldLink RX0 15 "SteamRations$Boiler" "fire" "I", Cond.fieldLink RX0 9 "SteamRations$Boiler" "water" "I", Cond.fieldLink RX0 18 "SteamRations$Boiler" "pressure" "I", Cond.fieldLink RX0 21 "SteamRations$Boiler" "stopLeft" "I", Cond.fieldLink RX0 24 "SteamRations$Boiler" "stops" "I", Cond.methodLink RX2 43 yX3_copyFrom, Cond.instanceMethod yX3_copyFrom, Cond.selects RX3 yX3_copyFrom yX3_copyFrom, Cond.initialized RX3, Cond.code yX3_copyFrom cX3_copyFrom 2 none, Cond.fieldLink RX3 9 "SteamRations$Machine" "kind" "I", Cond.fieldLink RX3 15 "SteamRations$Machine" "left" "I", Cond.fieldLink RX3 18 "SteamRations$Machine" "waits" "I", Cond.methodLink RX2 46 yX5_copyFrom, Cond.instanceMethod yX5_copyFrom, Cond.selects RX5 yX5_copyFrom yX5_copyFrom, Cond.initialized RX5, Cond.code yX5_copyFrom cX5_copyFrom 3 none, Cond.fieldLink RX5 15 "SteamRations$WaitingLine" "length" "I", Cond.fieldLink RX5 9 "SteamRations$WaitingLine" "kinds" "[I", Cond.methodLink RX6 68 yX2_changeRation, Cond.instanceMethod yX2_changeRation]
def wsX6_setRation_r3 : List Cond := [Cond.selects RX2 yX2_changeRation yX2_changeRation, Cond.code yX2_changeRation cX2_changeRation 3 (some .int), Cond.static yX6_isWithin, Cond.initialized RX6, Cond.code yX6_isWithin cX6_isWithin 3 (some .boolean), Cond.methodLink RX6 61 yX6_recorded, Cond.instanceMethod yX6_recorded, Cond.selects RX6 yX6_recorded yX6_recorded, Cond.code yX6_recorded cX6_recorded 2 (some .int), Cond.fieldLink RX6 31 "SteamRations" "history" "LSteamRations$History;", Cond.methodLink RX6 196 yX1_push, Cond.instanceMethod yX1_push, Cond.selects RX1 yX1_push yX1_push, Cond.initialized RX1, Cond.code yX1_push cX1_push 2 none, Cond.fieldLink RX1 18 "SteamRations$History" "size" "I", Cond.fieldLink RX1 12 "SteamRations$History" "states" "[LSteamRations$Laundry;", Cond.methodLink RX1 22 yX1_dropOldest, Cond.instanceMethod yX1_dropOldest, Cond.selects RX1 yX1_dropOldest yX1_dropOldest, Cond.code yX1_dropOldest cX1_dropOldest 3 none, Cond.methodLink RX1 25 yX2_copyFrom]
def wsX6_setRation : List Cond := .code yX6_setRation cX6_setRation 2 (some .int) :: ((wsX6_setRation_r1 ++ (wsX6_setRation_r2 ++ wsX6_setRation_r3)) ++ wsX60 ++ wsX20 ++ wsX00 ++ wsX30 ++ wsX50 ++ wsX10)
def wsX6_start_r1 : List Cond := [Cond.fieldLink RX6 16 "SteamRations" "before" "LSteamRations$Laundry;", Cond.fieldLink RX6 10 "SteamRations" "now" "LSteamRations$Laundry;", Cond.fieldLink RX6 22 "SteamRations" "trial" "LSteamRations$Laundry;", Cond.methodLink RX6 53 yX2_copyFrom, Cond.instanceMethod yX2_copyFrom, Cond.selects RX2 yX2_copyFrom yX2_copyFrom, Cond.initialized RX2, Cond.code yX2_copyFrom cX2_copyFrom 3 none, Cond.fieldLink RX2 12 "SteamRations$Laundry" "boilers" "[LSteamRations$Boiler;", Cond.fieldLink RX2 21 "SteamRations$Laundry" "machines" "[LSteamRations$Machine;", Cond.fieldLink RX2 28 "SteamRations$Laundry" "waiting" "LSteamRations$WaitingLine;", Cond.fieldLink RX2 49 "SteamRations$Laundry" "ticks" "I", Cond.fieldLink RX2 52 "SteamRations$Laundry" "washed" "I", Cond.fieldLink RX2 55 "SteamRations$Laundry" "spoiled" "I", Cond.fieldLink RX2 58 "SteamRations$Laundry" "burnt" "I", Cond.fieldLink RX2 32 "SteamRations$Laundry" "coal" "I", Cond.fieldLink RX2 36 "SteamRations$Laundry" "ration" "I", Cond.fieldLink RX2 61 "SteamRations$Laundry" "rationed" "I", Cond.fieldLink RX2 64 "SteamRations$Laundry" "started" "I", Cond.fieldLink RX2 67 "SteamRations$Laundry" "takenOut" "I", Cond.fieldLink RX2 70 "SteamRations$Laundry" "worth" "I", Cond.fieldLink RX2 73 "SteamRations$Laundry" "ticksOfWaits" "I", Cond.methodLink RX2 39 yX0_copyFrom, Cond.instanceMethod yX0_copyFrom]
def wsX6_start_r2 : List Cond := [Cond.selects RX0 yX0_copyFrom yX0_copyFrom, Cond.initialized RX0, Cond.code yX0_copyFrom cX0_copyFrom 2 none, Cond.fieldLink RX0 15 "SteamRations$Boiler" "fire" "I", Cond.fieldLink RX0 9 "SteamRations$Boiler" "water" "I", Cond.fieldLink RX0 18 "SteamRations$Boiler" "pressure" "I", Cond.fieldLink RX0 21 "SteamRations$Boiler" "stopLeft" "I", Cond.fieldLink RX0 24 "SteamRations$Boiler" "stops" "I", Cond.methodLink RX2 43 yX3_copyFrom, Cond.instanceMethod yX3_copyFrom, Cond.selects RX3 yX3_copyFrom yX3_copyFrom, Cond.initialized RX3, Cond.code yX3_copyFrom cX3_copyFrom 2 none, Cond.fieldLink RX3 9 "SteamRations$Machine" "kind" "I", Cond.fieldLink RX3 15 "SteamRations$Machine" "left" "I", Cond.fieldLink RX3 18 "SteamRations$Machine" "waits" "I", Cond.methodLink RX2 46 yX5_copyFrom, Cond.instanceMethod yX5_copyFrom, Cond.selects RX5 yX5_copyFrom yX5_copyFrom, Cond.initialized RX5, Cond.code yX5_copyFrom cX5_copyFrom 3 none, Cond.fieldLink RX5 15 "SteamRations$WaitingLine" "length" "I", Cond.fieldLink RX5 9 "SteamRations$WaitingLine" "kinds" "[I", Cond.methodLink RX6 71 yX2_startLoad]
def wsX6_start_r3 : List Cond := [Cond.instanceMethod yX2_startLoad, Cond.selects RX2 yX2_startLoad yX2_startLoad, Cond.code yX2_startLoad cX2_startLoad 6 (some .int), Cond.fieldLink RX2 125 "SteamRations$Machine" "left" "I", Cond.methodLink RX2 113 yX2_machineAt, Cond.instanceMethod yX2_machineAt, Cond.selects RX2 yX2_machineAt yX2_machineAt, Cond.code yX2_machineAt cX2_machineAt 2 (some (.object "SteamRations$Machine")), Cond.static yX6_isWithin, Cond.initialized RX6, Cond.code yX6_isWithin cX6_isWithin 3 (some .boolean), Cond.methodLink RX2 76 yX3_isEmpty, Cond.instanceMethod yX3_isEmpty, Cond.selects RX3 yX3_isEmpty yX3_isEmpty, Cond.code yX3_isEmpty cX3_isEmpty 1 (some .boolean), Cond.methodLink RX2 117 yX2_reasonAgainst, Cond.instanceMethod yX2_reasonAgainst, Cond.selects RX2 yX2_reasonAgainst yX2_reasonAgainst, Cond.code yX2_reasonAgainst cX2_reasonAgainst 6 (some .int), Cond.methodLink RX2 149 yX2_lowestEmptyMachine, Cond.instanceMethod yX2_lowestEmptyMachine, Cond.selects RX2 yX2_lowestEmptyMachine yX2_lowestEmptyMachine, Cond.code yX2_lowestEmptyMachine cX2_lowestEmptyMachine 5 (some (.object "SteamRations$Machine")), Cond.methodLink RX2 93 yX2_allPressure]
def wsX6_start_r4 : List Cond := [Cond.instanceMethod yX2_allPressure, Cond.selects RX2 yX2_allPressure yX2_allPressure, Cond.code yX2_allPressure cX2_allPressure 6 (some .int), Cond.fieldLink RX2 87 "SteamRations$Boiler" "pressure" "I", Cond.methodLink RX2 153 yX2_copyFrom, Cond.methodLink RX2 121 yX3_put, Cond.instanceMethod yX3_put, Cond.selects RX3 yX3_put yX3_put, Cond.code yX3_put cX3_put 2 none, Cond.static yX6_ticksOf, Cond.code yX6_ticksOf cX6_ticksOf 1 (some .int), Cond.methodLink RX2 143 yX2_workTick, Cond.instanceMethod yX2_workTick, Cond.selects RX2 yX2_workTick yX2_workTick, Cond.code yX2_workTick cX2_workTick 7 (some .boolean), Cond.methodLink RX2 158 yX2_receiveRation, Cond.instanceMethod yX2_receiveRation, Cond.selects RX2 yX2_receiveRation yX2_receiveRation, Cond.code yX2_receiveRation cX2_receiveRation 2 none, Cond.methodLink RX2 179 Lib.Math.min.name, Cond.static Lib.Math.min.name, Cond.initialized "java/lang/Math", Cond.code Lib.Math.min.name Lib.Math.min.code 2 (some .int), Cond.methodLink RX2 161 yX0_burn]
def wsX6_start_r5 : List Cond := [Cond.instanceMethod yX0_burn, Cond.selects RX0 yX0_burn yX0_burn, Cond.code yX0_burn cX0_burn 2 (some .int), Cond.methodLink RX2 164 yX2_need, Cond.instanceMethod yX2_need, Cond.selects RX2 yX2_need yX2_need, Cond.code yX2_need cX2_need 6 (some .int), Cond.fieldLink RX2 185 "SteamRations$Machine" "kind" "I", Cond.static yX6_steamOf, Cond.code yX6_steamOf cX6_steamOf 1 (some .int), Cond.methodLink RX2 167 yX2_holdLoads, Cond.instanceMethod yX2_holdLoads, Cond.selects RX2 yX2_holdLoads yX2_holdLoads, Cond.code yX2_holdLoads cX2_holdLoads 5 none, Cond.fieldLink RX2 194 "SteamRations$Machine" "waits" "I", Cond.methodLink RX2 135 yX3_clear, Cond.instanceMethod yX3_clear, Cond.selects RX3 yX3_clear yX3_clear, Cond.code yX3_clear cX3_clear 1 none, Cond.methodLink RX2 170 yX2_takeSteam, Cond.instanceMethod yX2_takeSteam, Cond.selects RX2 yX2_takeSteam yX2_takeSteam, Cond.code yX2_takeSteam cX2_takeSteam 8 none, Cond.methodLink RX2 173 yX2_workLoads]
def wsX6_start_r6 : List Cond := [Cond.instanceMethod yX2_workLoads, Cond.selects RX2 yX2_workLoads yX2_workLoads, Cond.code yX2_workLoads cX2_workLoads 5 none, Cond.static yX6_worthOf, Cond.code yX6_worthOf cX6_worthOf 1 (some .int), Cond.methodLink RX2 176 yX0_coolDown, Cond.instanceMethod yX0_coolDown, Cond.selects RX0 yX0_coolDown yX0_coolDown, Cond.code yX0_coolDown cX0_coolDown 1 none, Cond.methodLink RX6 61 yX6_recorded, Cond.instanceMethod yX6_recorded, Cond.selects RX6 yX6_recorded yX6_recorded, Cond.code yX6_recorded cX6_recorded 2 (some .int), Cond.fieldLink RX6 31 "SteamRations" "history" "LSteamRations$History;", Cond.methodLink RX6 196 yX1_push, Cond.instanceMethod yX1_push, Cond.selects RX1 yX1_push yX1_push, Cond.initialized RX1, Cond.code yX1_push cX1_push 2 none, Cond.fieldLink RX1 18 "SteamRations$History" "size" "I", Cond.fieldLink RX1 12 "SteamRations$History" "states" "[LSteamRations$Laundry;", Cond.methodLink RX1 22 yX1_dropOldest, Cond.instanceMethod yX1_dropOldest, Cond.selects RX1 yX1_dropOldest yX1_dropOldest]
def wsX6_start_r7 : List Cond := [Cond.code yX1_dropOldest cX1_dropOldest 3 none, Cond.methodLink RX1 25 yX2_copyFrom]
def wsX6_start : List Cond := .code yX6_start cX6_start 3 (some .int) :: ((wsX6_start_r1 ++ (wsX6_start_r2 ++ (wsX6_start_r3 ++ (wsX6_start_r4 ++ (wsX6_start_r5 ++ (wsX6_start_r6 ++ wsX6_start_r7)))))) ++ wsX60 ++ wsX20 ++ wsX00 ++ wsX30 ++ wsX50 ++ wsX10)
def wsX6_queue_r1 : List Cond := [Cond.fieldLink RX6 16 "SteamRations" "before" "LSteamRations$Laundry;", Cond.fieldLink RX6 10 "SteamRations" "now" "LSteamRations$Laundry;", Cond.methodLink RX6 53 yX2_copyFrom, Cond.instanceMethod yX2_copyFrom, Cond.selects RX2 yX2_copyFrom yX2_copyFrom, Cond.initialized RX2, Cond.code yX2_copyFrom cX2_copyFrom 3 none, Cond.fieldLink RX2 12 "SteamRations$Laundry" "boilers" "[LSteamRations$Boiler;", Cond.fieldLink RX2 21 "SteamRations$Laundry" "machines" "[LSteamRations$Machine;", Cond.fieldLink RX2 28 "SteamRations$Laundry" "waiting" "LSteamRations$WaitingLine;", Cond.fieldLink RX2 49 "SteamRations$Laundry" "ticks" "I", Cond.fieldLink RX2 52 "SteamRations$Laundry" "washed" "I", Cond.fieldLink RX2 55 "SteamRations$Laundry" "spoiled" "I", Cond.fieldLink RX2 58 "SteamRations$Laundry" "burnt" "I", Cond.fieldLink RX2 32 "SteamRations$Laundry" "coal" "I", Cond.fieldLink RX2 36 "SteamRations$Laundry" "ration" "I", Cond.fieldLink RX2 61 "SteamRations$Laundry" "rationed" "I", Cond.fieldLink RX2 64 "SteamRations$Laundry" "started" "I", Cond.fieldLink RX2 67 "SteamRations$Laundry" "takenOut" "I", Cond.fieldLink RX2 70 "SteamRations$Laundry" "worth" "I", Cond.fieldLink RX2 73 "SteamRations$Laundry" "ticksOfWaits" "I", Cond.methodLink RX2 39 yX0_copyFrom, Cond.instanceMethod yX0_copyFrom, Cond.selects RX0 yX0_copyFrom yX0_copyFrom]
def wsX6_queue_r2 : List Cond := [Cond.initialized RX0, Cond.code yX0_copyFrom cX0_copyFrom 2 none, Cond.fieldLink RX0 15 "SteamRations$Boiler" "fire" "I", Cond.fieldLink RX0 9 "SteamRations$Boiler" "water" "I", Cond.fieldLink RX0 18 "SteamRations$Boiler" "pressure" "I", Cond.fieldLink RX0 21 "SteamRations$Boiler" "stopLeft" "I", Cond.fieldLink RX0 24 "SteamRations$Boiler" "stops" "I", Cond.methodLink RX2 43 yX3_copyFrom, Cond.instanceMethod yX3_copyFrom, Cond.selects RX3 yX3_copyFrom yX3_copyFrom, Cond.initialized RX3, Cond.code yX3_copyFrom cX3_copyFrom 2 none, Cond.fieldLink RX3 9 "SteamRations$Machine" "kind" "I", Cond.fieldLink RX3 15 "SteamRations$Machine" "left" "I", Cond.fieldLink RX3 18 "SteamRations$Machine" "waits" "I", Cond.methodLink RX2 46 yX5_copyFrom, Cond.instanceMethod yX5_copyFrom, Cond.selects RX5 yX5_copyFrom yX5_copyFrom, Cond.initialized RX5, Cond.code yX5_copyFrom cX5_copyFrom 3 none, Cond.fieldLink RX5 15 "SteamRations$WaitingLine" "length" "I", Cond.fieldLink RX5 9 "SteamRations$WaitingLine" "kinds" "[I", Cond.methodLink RX6 75 yX2_addToLine, Cond.instanceMethod yX2_addToLine]
def wsX6_queue_r3 : List Cond := [Cond.selects RX2 yX2_addToLine yX2_addToLine, Cond.code yX2_addToLine cX2_addToLine 2 (some .int), Cond.static yX6_isWithin, Cond.initialized RX6, Cond.code yX6_isWithin cX6_isWithin 3 (some .boolean), Cond.methodLink RX2 128 yX5_add, Cond.instanceMethod yX5_add, Cond.selects RX5 yX5_add yX5_add, Cond.code yX5_add cX5_add 2 (some .int), Cond.methodLink RX6 61 yX6_recorded, Cond.instanceMethod yX6_recorded, Cond.selects RX6 yX6_recorded yX6_recorded, Cond.code yX6_recorded cX6_recorded 2 (some .int), Cond.fieldLink RX6 31 "SteamRations" "history" "LSteamRations$History;", Cond.methodLink RX6 196 yX1_push, Cond.instanceMethod yX1_push, Cond.selects RX1 yX1_push yX1_push, Cond.initialized RX1, Cond.code yX1_push cX1_push 2 none, Cond.fieldLink RX1 18 "SteamRations$History" "size" "I", Cond.fieldLink RX1 12 "SteamRations$History" "states" "[LSteamRations$Laundry;", Cond.methodLink RX1 22 yX1_dropOldest, Cond.instanceMethod yX1_dropOldest, Cond.selects RX1 yX1_dropOldest yX1_dropOldest]
def wsX6_queue_r4 : List Cond := [Cond.code yX1_dropOldest cX1_dropOldest 3 none, Cond.methodLink RX1 25 yX2_copyFrom]
def wsX6_queue : List Cond := .code yX6_queue cX6_queue 2 (some .int) :: ((wsX6_queue_r1 ++ (wsX6_queue_r2 ++ (wsX6_queue_r3 ++ wsX6_queue_r4))) ++ wsX60 ++ wsX20 ++ wsX00 ++ wsX30 ++ wsX50 ++ wsX10)
def wsX6_unqueue_r1 : List Cond := [Cond.fieldLink RX6 16 "SteamRations" "before" "LSteamRations$Laundry;", Cond.fieldLink RX6 10 "SteamRations" "now" "LSteamRations$Laundry;", Cond.methodLink RX6 53 yX2_copyFrom, Cond.instanceMethod yX2_copyFrom, Cond.selects RX2 yX2_copyFrom yX2_copyFrom, Cond.initialized RX2, Cond.code yX2_copyFrom cX2_copyFrom 3 none, Cond.fieldLink RX2 12 "SteamRations$Laundry" "boilers" "[LSteamRations$Boiler;", Cond.fieldLink RX2 21 "SteamRations$Laundry" "machines" "[LSteamRations$Machine;", Cond.fieldLink RX2 28 "SteamRations$Laundry" "waiting" "LSteamRations$WaitingLine;", Cond.fieldLink RX2 49 "SteamRations$Laundry" "ticks" "I", Cond.fieldLink RX2 52 "SteamRations$Laundry" "washed" "I", Cond.fieldLink RX2 55 "SteamRations$Laundry" "spoiled" "I", Cond.fieldLink RX2 58 "SteamRations$Laundry" "burnt" "I", Cond.fieldLink RX2 32 "SteamRations$Laundry" "coal" "I", Cond.fieldLink RX2 36 "SteamRations$Laundry" "ration" "I", Cond.fieldLink RX2 61 "SteamRations$Laundry" "rationed" "I", Cond.fieldLink RX2 64 "SteamRations$Laundry" "started" "I", Cond.fieldLink RX2 67 "SteamRations$Laundry" "takenOut" "I", Cond.fieldLink RX2 70 "SteamRations$Laundry" "worth" "I", Cond.fieldLink RX2 73 "SteamRations$Laundry" "ticksOfWaits" "I", Cond.methodLink RX2 39 yX0_copyFrom, Cond.instanceMethod yX0_copyFrom, Cond.selects RX0 yX0_copyFrom yX0_copyFrom]
def wsX6_unqueue_r2 : List Cond := [Cond.initialized RX0, Cond.code yX0_copyFrom cX0_copyFrom 2 none, Cond.fieldLink RX0 15 "SteamRations$Boiler" "fire" "I", Cond.fieldLink RX0 9 "SteamRations$Boiler" "water" "I", Cond.fieldLink RX0 18 "SteamRations$Boiler" "pressure" "I", Cond.fieldLink RX0 21 "SteamRations$Boiler" "stopLeft" "I", Cond.fieldLink RX0 24 "SteamRations$Boiler" "stops" "I", Cond.methodLink RX2 43 yX3_copyFrom, Cond.instanceMethod yX3_copyFrom, Cond.selects RX3 yX3_copyFrom yX3_copyFrom, Cond.initialized RX3, Cond.code yX3_copyFrom cX3_copyFrom 2 none, Cond.fieldLink RX3 9 "SteamRations$Machine" "kind" "I", Cond.fieldLink RX3 15 "SteamRations$Machine" "left" "I", Cond.fieldLink RX3 18 "SteamRations$Machine" "waits" "I", Cond.methodLink RX2 46 yX5_copyFrom, Cond.instanceMethod yX5_copyFrom, Cond.selects RX5 yX5_copyFrom yX5_copyFrom, Cond.initialized RX5, Cond.code yX5_copyFrom cX5_copyFrom 3 none, Cond.fieldLink RX5 15 "SteamRations$WaitingLine" "length" "I", Cond.fieldLink RX5 9 "SteamRations$WaitingLine" "kinds" "[I", Cond.methodLink RX6 78 yX2_removeFromLine, Cond.instanceMethod yX2_removeFromLine]
def wsX6_unqueue_r3 : List Cond := [Cond.selects RX2 yX2_removeFromLine yX2_removeFromLine, Cond.code yX2_removeFromLine cX2_removeFromLine 2 (some .int), Cond.methodLink RX2 132 yX5_remove, Cond.instanceMethod yX5_remove, Cond.selects RX5 yX5_remove yX5_remove, Cond.code yX5_remove cX5_remove 4 (some .int), Cond.methodLink RX5 19 yX5_kindAt, Cond.instanceMethod yX5_kindAt, Cond.selects RX5 yX5_kindAt yX5_kindAt, Cond.code yX5_kindAt cX5_kindAt 2 (some .int), Cond.methodLink RX6 61 yX6_recorded, Cond.instanceMethod yX6_recorded, Cond.selects RX6 yX6_recorded yX6_recorded, Cond.initialized RX6, Cond.code yX6_recorded cX6_recorded 2 (some .int), Cond.fieldLink RX6 31 "SteamRations" "history" "LSteamRations$History;", Cond.methodLink RX6 196 yX1_push, Cond.instanceMethod yX1_push, Cond.selects RX1 yX1_push yX1_push, Cond.initialized RX1, Cond.code yX1_push cX1_push 2 none, Cond.fieldLink RX1 18 "SteamRations$History" "size" "I", Cond.fieldLink RX1 12 "SteamRations$History" "states" "[LSteamRations$Laundry;", Cond.methodLink RX1 22 yX1_dropOldest]
def wsX6_unqueue_r4 : List Cond := [Cond.instanceMethod yX1_dropOldest, Cond.selects RX1 yX1_dropOldest yX1_dropOldest, Cond.code yX1_dropOldest cX1_dropOldest 3 none, Cond.methodLink RX1 25 yX2_copyFrom]
def wsX6_unqueue : List Cond := .code yX6_unqueue cX6_unqueue 2 (some .int) :: ((wsX6_unqueue_r1 ++ (wsX6_unqueue_r2 ++ (wsX6_unqueue_r3 ++ wsX6_unqueue_r4))) ++ wsX60 ++ wsX20 ++ wsX00 ++ wsX30 ++ wsX50 ++ wsX10)
def wsX6_takeOut_r1 : List Cond := [Cond.fieldLink RX6 16 "SteamRations" "before" "LSteamRations$Laundry;", Cond.fieldLink RX6 10 "SteamRations" "now" "LSteamRations$Laundry;", Cond.methodLink RX6 53 yX2_copyFrom, Cond.instanceMethod yX2_copyFrom, Cond.selects RX2 yX2_copyFrom yX2_copyFrom, Cond.initialized RX2, Cond.code yX2_copyFrom cX2_copyFrom 3 none, Cond.fieldLink RX2 12 "SteamRations$Laundry" "boilers" "[LSteamRations$Boiler;", Cond.fieldLink RX2 21 "SteamRations$Laundry" "machines" "[LSteamRations$Machine;", Cond.fieldLink RX2 28 "SteamRations$Laundry" "waiting" "LSteamRations$WaitingLine;", Cond.fieldLink RX2 49 "SteamRations$Laundry" "ticks" "I", Cond.fieldLink RX2 52 "SteamRations$Laundry" "washed" "I", Cond.fieldLink RX2 55 "SteamRations$Laundry" "spoiled" "I", Cond.fieldLink RX2 58 "SteamRations$Laundry" "burnt" "I", Cond.fieldLink RX2 32 "SteamRations$Laundry" "coal" "I", Cond.fieldLink RX2 36 "SteamRations$Laundry" "ration" "I", Cond.fieldLink RX2 61 "SteamRations$Laundry" "rationed" "I", Cond.fieldLink RX2 64 "SteamRations$Laundry" "started" "I", Cond.fieldLink RX2 67 "SteamRations$Laundry" "takenOut" "I", Cond.fieldLink RX2 70 "SteamRations$Laundry" "worth" "I", Cond.fieldLink RX2 73 "SteamRations$Laundry" "ticksOfWaits" "I", Cond.methodLink RX2 39 yX0_copyFrom, Cond.instanceMethod yX0_copyFrom, Cond.selects RX0 yX0_copyFrom yX0_copyFrom]
def wsX6_takeOut_r2 : List Cond := [Cond.initialized RX0, Cond.code yX0_copyFrom cX0_copyFrom 2 none, Cond.fieldLink RX0 15 "SteamRations$Boiler" "fire" "I", Cond.fieldLink RX0 9 "SteamRations$Boiler" "water" "I", Cond.fieldLink RX0 18 "SteamRations$Boiler" "pressure" "I", Cond.fieldLink RX0 21 "SteamRations$Boiler" "stopLeft" "I", Cond.fieldLink RX0 24 "SteamRations$Boiler" "stops" "I", Cond.methodLink RX2 43 yX3_copyFrom, Cond.instanceMethod yX3_copyFrom, Cond.selects RX3 yX3_copyFrom yX3_copyFrom, Cond.initialized RX3, Cond.code yX3_copyFrom cX3_copyFrom 2 none, Cond.fieldLink RX3 9 "SteamRations$Machine" "kind" "I", Cond.fieldLink RX3 15 "SteamRations$Machine" "left" "I", Cond.fieldLink RX3 18 "SteamRations$Machine" "waits" "I", Cond.methodLink RX2 46 yX5_copyFrom, Cond.instanceMethod yX5_copyFrom, Cond.selects RX5 yX5_copyFrom yX5_copyFrom, Cond.initialized RX5, Cond.code yX5_copyFrom cX5_copyFrom 3 none, Cond.fieldLink RX5 15 "SteamRations$WaitingLine" "length" "I", Cond.fieldLink RX5 9 "SteamRations$WaitingLine" "kinds" "[I", Cond.methodLink RX6 81 yX2_unload, Cond.instanceMethod yX2_unload]
def wsX6_takeOut_r3 : List Cond := [Cond.selects RX2 yX2_unload yX2_unload, Cond.code yX2_unload cX2_unload 4 (some .int), Cond.fieldLink RX2 125 "SteamRations$Machine" "left" "I", Cond.methodLink RX2 113 yX2_machineAt, Cond.instanceMethod yX2_machineAt, Cond.selects RX2 yX2_machineAt yX2_machineAt, Cond.code yX2_machineAt cX2_machineAt 2 (some (.object "SteamRations$Machine")), Cond.methodLink RX2 76 yX3_isEmpty, Cond.instanceMethod yX3_isEmpty, Cond.selects RX3 yX3_isEmpty yX3_isEmpty, Cond.code yX3_isEmpty cX3_isEmpty 1 (some .boolean), Cond.methodLink RX2 135 yX3_clear, Cond.instanceMethod yX3_clear, Cond.selects RX3 yX3_clear yX3_clear, Cond.code yX3_clear cX3_clear 1 none, Cond.methodLink RX6 61 yX6_recorded, Cond.instanceMethod yX6_recorded, Cond.selects RX6 yX6_recorded yX6_recorded, Cond.initialized RX6, Cond.code yX6_recorded cX6_recorded 2 (some .int), Cond.fieldLink RX6 31 "SteamRations" "history" "LSteamRations$History;", Cond.methodLink RX6 196 yX1_push, Cond.instanceMethod yX1_push, Cond.selects RX1 yX1_push yX1_push]
def wsX6_takeOut_r4 : List Cond := [Cond.initialized RX1, Cond.code yX1_push cX1_push 2 none, Cond.fieldLink RX1 18 "SteamRations$History" "size" "I", Cond.fieldLink RX1 12 "SteamRations$History" "states" "[LSteamRations$Laundry;", Cond.methodLink RX1 22 yX1_dropOldest, Cond.instanceMethod yX1_dropOldest, Cond.selects RX1 yX1_dropOldest yX1_dropOldest, Cond.code yX1_dropOldest cX1_dropOldest 3 none, Cond.methodLink RX1 25 yX2_copyFrom]
def wsX6_takeOut : List Cond := .code yX6_takeOut cX6_takeOut 2 (some .int) :: ((wsX6_takeOut_r1 ++ (wsX6_takeOut_r2 ++ (wsX6_takeOut_r3 ++ wsX6_takeOut_r4))) ++ wsX60 ++ wsX20 ++ wsX00 ++ wsX30 ++ wsX50 ++ wsX10)
def wsX6_run_r1 : List Cond := [Cond.fieldLink RX6 16 "SteamRations" "before" "LSteamRations$Laundry;", Cond.fieldLink RX6 10 "SteamRations" "now" "LSteamRations$Laundry;", Cond.fieldLink RX6 22 "SteamRations" "trial" "LSteamRations$Laundry;", Cond.methodLink RX6 53 yX2_copyFrom, Cond.instanceMethod yX2_copyFrom, Cond.selects RX2 yX2_copyFrom yX2_copyFrom, Cond.initialized RX2, Cond.code yX2_copyFrom cX2_copyFrom 3 none, Cond.fieldLink RX2 12 "SteamRations$Laundry" "boilers" "[LSteamRations$Boiler;", Cond.fieldLink RX2 21 "SteamRations$Laundry" "machines" "[LSteamRations$Machine;", Cond.fieldLink RX2 28 "SteamRations$Laundry" "waiting" "LSteamRations$WaitingLine;", Cond.fieldLink RX2 49 "SteamRations$Laundry" "ticks" "I", Cond.fieldLink RX2 52 "SteamRations$Laundry" "washed" "I", Cond.fieldLink RX2 55 "SteamRations$Laundry" "spoiled" "I", Cond.fieldLink RX2 58 "SteamRations$Laundry" "burnt" "I", Cond.fieldLink RX2 32 "SteamRations$Laundry" "coal" "I", Cond.fieldLink RX2 36 "SteamRations$Laundry" "ration" "I", Cond.fieldLink RX2 61 "SteamRations$Laundry" "rationed" "I", Cond.fieldLink RX2 64 "SteamRations$Laundry" "started" "I", Cond.fieldLink RX2 67 "SteamRations$Laundry" "takenOut" "I", Cond.fieldLink RX2 70 "SteamRations$Laundry" "worth" "I", Cond.fieldLink RX2 73 "SteamRations$Laundry" "ticksOfWaits" "I", Cond.methodLink RX2 39 yX0_copyFrom, Cond.instanceMethod yX0_copyFrom]
def wsX6_run_r2 : List Cond := [Cond.selects RX0 yX0_copyFrom yX0_copyFrom, Cond.initialized RX0, Cond.code yX0_copyFrom cX0_copyFrom 2 none, Cond.fieldLink RX0 15 "SteamRations$Boiler" "fire" "I", Cond.fieldLink RX0 9 "SteamRations$Boiler" "water" "I", Cond.fieldLink RX0 18 "SteamRations$Boiler" "pressure" "I", Cond.fieldLink RX0 21 "SteamRations$Boiler" "stopLeft" "I", Cond.fieldLink RX0 24 "SteamRations$Boiler" "stops" "I", Cond.methodLink RX2 43 yX3_copyFrom, Cond.instanceMethod yX3_copyFrom, Cond.selects RX3 yX3_copyFrom yX3_copyFrom, Cond.initialized RX3, Cond.code yX3_copyFrom cX3_copyFrom 2 none, Cond.fieldLink RX3 9 "SteamRations$Machine" "kind" "I", Cond.fieldLink RX3 15 "SteamRations$Machine" "left" "I", Cond.fieldLink RX3 18 "SteamRations$Machine" "waits" "I", Cond.methodLink RX2 46 yX5_copyFrom, Cond.instanceMethod yX5_copyFrom, Cond.selects RX5 yX5_copyFrom yX5_copyFrom, Cond.initialized RX5, Cond.code yX5_copyFrom cX5_copyFrom 3 none, Cond.fieldLink RX5 15 "SteamRations$WaitingLine" "length" "I", Cond.fieldLink RX5 9 "SteamRations$WaitingLine" "kinds" "[I", Cond.methodLink RX6 84 yX2_letPass]
def wsX6_run_r3 : List Cond := [Cond.instanceMethod yX2_letPass, Cond.selects RX2 yX2_letPass yX2_letPass, Cond.code yX2_letPass cX2_letPass 5 (some .int), Cond.constant RX2 138 (99999), Cond.static yX6_isWithin, Cond.initialized RX6, Cond.code yX6_isWithin cX6_isWithin 3 (some .boolean), Cond.methodLink RX2 139 yX2_passTick, Cond.instanceMethod yX2_passTick, Cond.selects RX2 yX2_passTick yX2_passTick, Cond.code yX2_passTick cX2_passTick 4 none, Cond.methodLink RX2 143 yX2_workTick, Cond.instanceMethod yX2_workTick, Cond.selects RX2 yX2_workTick yX2_workTick, Cond.code yX2_workTick cX2_workTick 7 (some .boolean), Cond.methodLink RX2 158 yX2_receiveRation, Cond.instanceMethod yX2_receiveRation, Cond.selects RX2 yX2_receiveRation yX2_receiveRation, Cond.code yX2_receiveRation cX2_receiveRation 2 none, Cond.methodLink RX2 179 Lib.Math.min.name, Cond.static Lib.Math.min.name, Cond.initialized "java/lang/Math", Cond.code Lib.Math.min.name Lib.Math.min.code 2 (some .int), Cond.methodLink RX2 161 yX0_burn]
def wsX6_run_r4 : List Cond := [Cond.instanceMethod yX0_burn, Cond.selects RX0 yX0_burn yX0_burn, Cond.code yX0_burn cX0_burn 2 (some .int), Cond.methodLink RX2 164 yX2_need, Cond.instanceMethod yX2_need, Cond.selects RX2 yX2_need yX2_need, Cond.code yX2_need cX2_need 6 (some .int), Cond.fieldLink RX2 185 "SteamRations$Machine" "kind" "I", Cond.static yX6_steamOf, Cond.code yX6_steamOf cX6_steamOf 1 (some .int), Cond.methodLink RX2 93 yX2_allPressure, Cond.instanceMethod yX2_allPressure, Cond.selects RX2 yX2_allPressure yX2_allPressure, Cond.code yX2_allPressure cX2_allPressure 6 (some .int), Cond.fieldLink RX2 87 "SteamRations$Boiler" "pressure" "I", Cond.methodLink RX2 167 yX2_holdLoads, Cond.instanceMethod yX2_holdLoads, Cond.selects RX2 yX2_holdLoads yX2_holdLoads, Cond.code yX2_holdLoads cX2_holdLoads 5 none, Cond.fieldLink RX2 194 "SteamRations$Machine" "waits" "I", Cond.methodLink RX2 76 yX3_isEmpty, Cond.instanceMethod yX3_isEmpty, Cond.selects RX3 yX3_isEmpty yX3_isEmpty, Cond.code yX3_isEmpty cX3_isEmpty 1 (some .boolean)]
def wsX6_run_r5 : List Cond := [Cond.methodLink RX2 135 yX3_clear, Cond.instanceMethod yX3_clear, Cond.selects RX3 yX3_clear yX3_clear, Cond.code yX3_clear cX3_clear 1 none, Cond.methodLink RX2 170 yX2_takeSteam, Cond.instanceMethod yX2_takeSteam, Cond.selects RX2 yX2_takeSteam yX2_takeSteam, Cond.code yX2_takeSteam cX2_takeSteam 8 none, Cond.methodLink RX2 173 yX2_workLoads, Cond.instanceMethod yX2_workLoads, Cond.selects RX2 yX2_workLoads yX2_workLoads, Cond.code yX2_workLoads cX2_workLoads 5 none, Cond.fieldLink RX2 125 "SteamRations$Machine" "left" "I", Cond.static yX6_worthOf, Cond.code yX6_worthOf cX6_worthOf 1 (some .int), Cond.methodLink RX2 176 yX0_coolDown, Cond.instanceMethod yX0_coolDown, Cond.selects RX0 yX0_coolDown yX0_coolDown, Cond.code yX0_coolDown cX0_coolDown 1 none, Cond.methodLink RX2 146 yX5_kindAt, Cond.instanceMethod yX5_kindAt, Cond.selects RX5 yX5_kindAt yX5_kindAt, Cond.code yX5_kindAt cX5_kindAt 2 (some .int), Cond.methodLink RX2 117 yX2_reasonAgainst]
def wsX6_run_r6 : List Cond := [Cond.instanceMethod yX2_reasonAgainst, Cond.selects RX2 yX2_reasonAgainst yX2_reasonAgainst, Cond.code yX2_reasonAgainst cX2_reasonAgainst 6 (some .int), Cond.methodLink RX2 149 yX2_lowestEmptyMachine, Cond.instanceMethod yX2_lowestEmptyMachine, Cond.selects RX2 yX2_lowestEmptyMachine yX2_lowestEmptyMachine, Cond.code yX2_lowestEmptyMachine cX2_lowestEmptyMachine 5 (some (.object "SteamRations$Machine")), Cond.methodLink RX2 153 yX2_copyFrom, Cond.methodLink RX2 121 yX3_put, Cond.instanceMethod yX3_put, Cond.selects RX3 yX3_put yX3_put, Cond.code yX3_put cX3_put 2 none, Cond.static yX6_ticksOf, Cond.code yX6_ticksOf cX6_ticksOf 1 (some .int), Cond.methodLink RX2 132 yX5_remove, Cond.instanceMethod yX5_remove, Cond.selects RX5 yX5_remove yX5_remove, Cond.code yX5_remove cX5_remove 4 (some .int), Cond.methodLink RX5 19 yX5_kindAt, Cond.methodLink RX6 61 yX6_recorded, Cond.instanceMethod yX6_recorded, Cond.selects RX6 yX6_recorded yX6_recorded, Cond.code yX6_recorded cX6_recorded 2 (some .int), Cond.fieldLink RX6 31 "SteamRations" "history" "LSteamRations$History;"]
def wsX6_run_r7 : List Cond := [Cond.methodLink RX6 196 yX1_push, Cond.instanceMethod yX1_push, Cond.selects RX1 yX1_push yX1_push, Cond.initialized RX1, Cond.code yX1_push cX1_push 2 none, Cond.fieldLink RX1 18 "SteamRations$History" "size" "I", Cond.fieldLink RX1 12 "SteamRations$History" "states" "[LSteamRations$Laundry;", Cond.methodLink RX1 22 yX1_dropOldest, Cond.instanceMethod yX1_dropOldest, Cond.selects RX1 yX1_dropOldest yX1_dropOldest, Cond.code yX1_dropOldest cX1_dropOldest 3 none, Cond.methodLink RX1 25 yX2_copyFrom]
def wsX6_run : List Cond := .code yX6_run cX6_run 2 (some .int) :: ((wsX6_run_r1 ++ (wsX6_run_r2 ++ (wsX6_run_r3 ++ (wsX6_run_r4 ++ (wsX6_run_r5 ++ (wsX6_run_r6 ++ wsX6_run_r7)))))) ++ wsX60 ++ wsX20 ++ wsX00 ++ wsX30 ++ wsX50 ++ wsX10)
def wsX6_type : List Cond := .code yX6_type cX6_type 2 (some .int) :: ([.fieldLink RX6 38 "SteamRations" "text" "LSteamRations$OrderText;", .methodLink RX6 88 yX4_add, .instanceMethod yX4_add, .selects RX4 yX4_add yX4_add, .initialized RX4, .code yX4_add cX4_add 2 (some .int), .fieldLink RX4 15 "SteamRations$OrderText" "length" "I", .fieldLink RX4 9 "SteamRations$OrderText" "characters" "[C"] ++ wsX60 ++ wsX40)
def wsX6_clearText : List Cond := .code yX6_clearText cX6_clearText 1 (some .int) :: ([.fieldLink RX6 38 "SteamRations" "text" "LSteamRations$OrderText;", .methodLink RX6 92 yX4_empty, .instanceMethod yX4_empty, .selects RX4 yX4_empty yX4_empty, .initialized RX4, .code yX4_empty cX4_empty 2 (some .int), .fieldLink RX4 15 "SteamRations$OrderText" "length" "I"] ++ wsX60 ++ wsX40)
def wsX6_obeyNextOrder_r1 : List Cond := [Cond.fieldLink RX6 38 "SteamRations" "text" "LSteamRations$OrderText;", Cond.fieldLink RX6 202 "SteamRations$OrderText" "letter" "I", Cond.fieldLink RX6 10 "SteamRations" "now" "LSteamRations$Laundry;", Cond.fieldLink RX6 205 "SteamRations$OrderText" "target" "I", Cond.fieldLink RX6 208 "SteamRations$OrderText" "value" "I", Cond.fieldLink RX6 22 "SteamRations" "trial" "LSteamRations$Laundry;", Cond.methodLink RX6 199 yX4_readNextOrder, Cond.instanceMethod yX4_readNextOrder, Cond.selects RX4 yX4_readNextOrder yX4_readNextOrder, Cond.initialized RX4, Cond.code yX4_readNextOrder cX4_readNextOrder 1 none, Cond.methodLink RX4 29 yX4_accept, Cond.instanceMethod yX4_accept, Cond.selects RX4 yX4_accept yX4_accept, Cond.code yX4_accept cX4_accept 2 (some .boolean), Cond.fieldLink RX4 26 "SteamRations$OrderText" "place" "I", Cond.methodLink RX4 33 yX4_here, Cond.instanceMethod yX4_here, Cond.selects RX4 yX4_here yX4_here, Cond.code yX4_here cX4_here 1 (some .int), Cond.fieldLink RX4 15 "SteamRations$OrderText" "length" "I", Cond.fieldLink RX4 9 "SteamRations$OrderText" "characters" "[C", Cond.methodLink RX4 22 yX4_readOrder, Cond.instanceMethod yX4_readOrder]
def wsX6_obeyNextOrder_r2 : List Cond := [Cond.selects RX4 yX4_readOrder yX4_readOrder, Cond.code yX4_readOrder cX4_readOrder 1 (some .boolean), Cond.fieldLink RX4 37 "SteamRations$OrderText" "letter" "I", Cond.methodLink RX4 40 yX4_readTarget, Cond.instanceMethod yX4_readTarget, Cond.selects RX4 yX4_readTarget yX4_readTarget, Cond.code yX4_readTarget cX4_readTarget 2 (some .boolean), Cond.fieldLink RX4 48 "SteamRations$OrderText" "value" "I", Cond.fieldLink RX4 51 "SteamRations$OrderText" "target" "I", Cond.methodLink RX4 44 yX4_readValue, Cond.instanceMethod yX4_readValue, Cond.selects RX4 yX4_readValue yX4_readValue, Cond.code yX4_readValue cX4_readValue 5 (some .boolean), Cond.methodLink RX4 54 yX4_digitHere, Cond.instanceMethod yX4_digitHere, Cond.selects RX4 yX4_digitHere yX4_digitHere, Cond.code yX4_digitHere cX4_digitHere 2 (some .int), Cond.static yX6_isWithin, Cond.initialized RX6, Cond.code yX6_isWithin cX6_isWithin 3 (some .boolean), Cond.methodLink RX6 57 yX2_changeFire, Cond.instanceMethod yX2_changeFire, Cond.selects RX2 yX2_changeFire yX2_changeFire, Cond.initialized RX2]
def wsX6_obeyNextOrder_r3 : List Cond := [Cond.code yX2_changeFire cX2_changeFire 5 (some .int), Cond.fieldLink RX2 104 "SteamRations$Boiler" "stopLeft" "I", Cond.fieldLink RX2 107 "SteamRations$Boiler" "fire" "I", Cond.methodLink RX2 96 yX2_boilerAt, Cond.instanceMethod yX2_boilerAt, Cond.selects RX2 yX2_boilerAt yX2_boilerAt, Cond.code yX2_boilerAt cX2_boilerAt 2 (some (.object "SteamRations$Boiler")), Cond.fieldLink RX2 12 "SteamRations$Laundry" "boilers" "[LSteamRations$Boiler;", Cond.methodLink RX6 65 yX2_letWaterIn, Cond.instanceMethod yX2_letWaterIn, Cond.selects RX2 yX2_letWaterIn yX2_letWaterIn, Cond.code yX2_letWaterIn cX2_letWaterIn 4 (some .int), Cond.fieldLink RX2 110 "SteamRations$Boiler" "water" "I", Cond.methodLink RX6 71 yX2_startLoad, Cond.instanceMethod yX2_startLoad, Cond.selects RX2 yX2_startLoad yX2_startLoad, Cond.code yX2_startLoad cX2_startLoad 6 (some .int), Cond.fieldLink RX2 64 "SteamRations$Laundry" "started" "I", Cond.fieldLink RX2 125 "SteamRations$Machine" "left" "I", Cond.methodLink RX2 113 yX2_machineAt, Cond.instanceMethod yX2_machineAt, Cond.selects RX2 yX2_machineAt yX2_machineAt, Cond.code yX2_machineAt cX2_machineAt 2 (some (.object "SteamRations$Machine")), Cond.fieldLink RX2 21 "SteamRations$Laundry" "machines" "[LSteamRations$Machine;"]
def wsX6_obeyNextOrder_r4 : List Cond := [Cond.methodLink RX2 76 yX3_isEmpty, Cond.instanceMethod yX3_isEmpty, Cond.selects RX3 yX3_isEmpty yX3_isEmpty, Cond.initialized RX3, Cond.code yX3_isEmpty cX3_isEmpty 1 (some .boolean), Cond.fieldLink RX3 9 "SteamRations$Machine" "kind" "I", Cond.methodLink RX2 117 yX2_reasonAgainst, Cond.instanceMethod yX2_reasonAgainst, Cond.selects RX2 yX2_reasonAgainst yX2_reasonAgainst, Cond.code yX2_reasonAgainst cX2_reasonAgainst 6 (some .int), Cond.methodLink RX2 149 yX2_lowestEmptyMachine, Cond.instanceMethod yX2_lowestEmptyMachine, Cond.selects RX2 yX2_lowestEmptyMachine yX2_lowestEmptyMachine, Cond.code yX2_lowestEmptyMachine cX2_lowestEmptyMachine 5 (some (.object "SteamRations$Machine")), Cond.methodLink RX2 93 yX2_allPressure, Cond.instanceMethod yX2_allPressure, Cond.selects RX2 yX2_allPressure yX2_allPressure, Cond.code yX2_allPressure cX2_allPressure 6 (some .int), Cond.fieldLink RX2 87 "SteamRations$Boiler" "pressure" "I", Cond.methodLink RX2 153 yX2_copyFrom, Cond.instanceMethod yX2_copyFrom, Cond.selects RX2 yX2_copyFrom yX2_copyFrom, Cond.code yX2_copyFrom cX2_copyFrom 3 none, Cond.fieldLink RX2 28 "SteamRations$Laundry" "waiting" "LSteamRations$WaitingLine;"]
def wsX6_obeyNextOrder_r5 : List Cond := [Cond.fieldLink RX2 49 "SteamRations$Laundry" "ticks" "I", Cond.fieldLink RX2 52 "SteamRations$Laundry" "washed" "I", Cond.fieldLink RX2 55 "SteamRations$Laundry" "spoiled" "I", Cond.fieldLink RX2 58 "SteamRations$Laundry" "burnt" "I", Cond.fieldLink RX2 32 "SteamRations$Laundry" "coal" "I", Cond.fieldLink RX2 36 "SteamRations$Laundry" "ration" "I", Cond.fieldLink RX2 61 "SteamRations$Laundry" "rationed" "I", Cond.fieldLink RX2 67 "SteamRations$Laundry" "takenOut" "I", Cond.fieldLink RX2 70 "SteamRations$Laundry" "worth" "I", Cond.fieldLink RX2 73 "SteamRations$Laundry" "ticksOfWaits" "I", Cond.methodLink RX2 39 yX0_copyFrom, Cond.instanceMethod yX0_copyFrom, Cond.selects RX0 yX0_copyFrom yX0_copyFrom, Cond.initialized RX0, Cond.code yX0_copyFrom cX0_copyFrom 2 none, Cond.fieldLink RX0 15 "SteamRations$Boiler" "fire" "I", Cond.fieldLink RX0 9 "SteamRations$Boiler" "water" "I", Cond.fieldLink RX0 18 "SteamRations$Boiler" "pressure" "I", Cond.fieldLink RX0 21 "SteamRations$Boiler" "stopLeft" "I", Cond.fieldLink RX0 24 "SteamRations$Boiler" "stops" "I", Cond.methodLink RX2 43 yX3_copyFrom, Cond.instanceMethod yX3_copyFrom, Cond.selects RX3 yX3_copyFrom yX3_copyFrom, Cond.code yX3_copyFrom cX3_copyFrom 2 none]
def wsX6_obeyNextOrder_r6 : List Cond := [Cond.fieldLink RX3 15 "SteamRations$Machine" "left" "I", Cond.fieldLink RX3 18 "SteamRations$Machine" "waits" "I", Cond.methodLink RX2 46 yX5_copyFrom, Cond.instanceMethod yX5_copyFrom, Cond.selects RX5 yX5_copyFrom yX5_copyFrom, Cond.initialized RX5, Cond.code yX5_copyFrom cX5_copyFrom 3 none, Cond.fieldLink RX5 15 "SteamRations$WaitingLine" "length" "I", Cond.fieldLink RX5 9 "SteamRations$WaitingLine" "kinds" "[I", Cond.methodLink RX2 121 yX3_put, Cond.instanceMethod yX3_put, Cond.selects RX3 yX3_put yX3_put, Cond.code yX3_put cX3_put 2 none, Cond.static yX6_ticksOf, Cond.code yX6_ticksOf cX6_ticksOf 1 (some .int), Cond.methodLink RX2 143 yX2_workTick, Cond.instanceMethod yX2_workTick, Cond.selects RX2 yX2_workTick yX2_workTick, Cond.code yX2_workTick cX2_workTick 7 (some .boolean), Cond.methodLink RX2 158 yX2_receiveRation, Cond.instanceMethod yX2_receiveRation, Cond.selects RX2 yX2_receiveRation yX2_receiveRation, Cond.code yX2_receiveRation cX2_receiveRation 2 none, Cond.methodLink RX2 179 Lib.Math.min.name]
def wsX6_obeyNextOrder_r7 : List Cond := [Cond.static Lib.Math.min.name, Cond.initialized "java/lang/Math", Cond.code Lib.Math.min.name Lib.Math.min.code 2 (some .int), Cond.methodLink RX2 161 yX0_burn, Cond.instanceMethod yX0_burn, Cond.selects RX0 yX0_burn yX0_burn, Cond.code yX0_burn cX0_burn 2 (some .int), Cond.methodLink RX2 164 yX2_need, Cond.instanceMethod yX2_need, Cond.selects RX2 yX2_need yX2_need, Cond.code yX2_need cX2_need 6 (some .int), Cond.fieldLink RX2 185 "SteamRations$Machine" "kind" "I", Cond.static yX6_steamOf, Cond.code yX6_steamOf cX6_steamOf 1 (some .int), Cond.methodLink RX2 167 yX2_holdLoads, Cond.instanceMethod yX2_holdLoads, Cond.selects RX2 yX2_holdLoads yX2_holdLoads, Cond.code yX2_holdLoads cX2_holdLoads 5 none, Cond.fieldLink RX2 194 "SteamRations$Machine" "waits" "I", Cond.methodLink RX2 135 yX3_clear, Cond.instanceMethod yX3_clear, Cond.selects RX3 yX3_clear yX3_clear, Cond.code yX3_clear cX3_clear 1 none, Cond.methodLink RX2 170 yX2_takeSteam]
def wsX6_obeyNextOrder_r8 : List Cond := [Cond.instanceMethod yX2_takeSteam, Cond.selects RX2 yX2_takeSteam yX2_takeSteam, Cond.code yX2_takeSteam cX2_takeSteam 8 none, Cond.methodLink RX2 173 yX2_workLoads, Cond.instanceMethod yX2_workLoads, Cond.selects RX2 yX2_workLoads yX2_workLoads, Cond.code yX2_workLoads cX2_workLoads 5 none, Cond.static yX6_worthOf, Cond.code yX6_worthOf cX6_worthOf 1 (some .int), Cond.methodLink RX2 176 yX0_coolDown, Cond.instanceMethod yX0_coolDown, Cond.selects RX0 yX0_coolDown yX0_coolDown, Cond.code yX0_coolDown cX0_coolDown 1 none, Cond.methodLink RX6 75 yX2_addToLine, Cond.instanceMethod yX2_addToLine, Cond.selects RX2 yX2_addToLine yX2_addToLine, Cond.code yX2_addToLine cX2_addToLine 2 (some .int), Cond.methodLink RX2 128 yX5_add, Cond.instanceMethod yX5_add, Cond.selects RX5 yX5_add yX5_add, Cond.code yX5_add cX5_add 2 (some .int), Cond.methodLink RX6 84 yX2_letPass, Cond.instanceMethod yX2_letPass, Cond.selects RX2 yX2_letPass yX2_letPass]
def wsX6_obeyNextOrder_r9 : List Cond := [Cond.code yX2_letPass cX2_letPass 5 (some .int), Cond.constant RX2 138 (99999), Cond.methodLink RX2 139 yX2_passTick, Cond.instanceMethod yX2_passTick, Cond.selects RX2 yX2_passTick yX2_passTick, Cond.code yX2_passTick cX2_passTick 4 none, Cond.methodLink RX2 146 yX5_kindAt, Cond.instanceMethod yX5_kindAt, Cond.selects RX5 yX5_kindAt yX5_kindAt, Cond.code yX5_kindAt cX5_kindAt 2 (some .int), Cond.methodLink RX2 132 yX5_remove, Cond.instanceMethod yX5_remove, Cond.selects RX5 yX5_remove yX5_remove, Cond.code yX5_remove cX5_remove 4 (some .int), Cond.methodLink RX5 19 yX5_kindAt]
def wsX6_obeyNextOrder : List Cond := .code yX6_obeyNextOrder cX6_obeyNextOrder 1 (some .int) :: ((wsX6_obeyNextOrder_r1 ++ (wsX6_obeyNextOrder_r2 ++ (wsX6_obeyNextOrder_r3 ++ (wsX6_obeyNextOrder_r4 ++ (wsX6_obeyNextOrder_r5 ++ (wsX6_obeyNextOrder_r6 ++ (wsX6_obeyNextOrder_r7 ++ (wsX6_obeyNextOrder_r8 ++ wsX6_obeyNextOrder_r9)))))))) ++ wsX60 ++ wsX40 ++ wsX00 ++ wsX20 ++ wsX30 ++ wsX50)
def wsX6_perform_r1 : List Cond := [Cond.fieldLink RX6 38 "SteamRations" "text" "LSteamRations$OrderText;", Cond.fieldLink RX6 16 "SteamRations" "before" "LSteamRations$Laundry;", Cond.fieldLink RX6 10 "SteamRations" "now" "LSteamRations$Laundry;", Cond.fieldLink RX6 46 "SteamRations" "stopNumber" "I", Cond.fieldLink RX6 50 "SteamRations" "stopError" "I", Cond.methodLink RX6 96 yX4_countOrders, Cond.instanceMethod yX4_countOrders, Cond.selects RX4 yX4_countOrders yX4_countOrders, Cond.initialized RX4, Cond.code yX4_countOrders cX4_countOrders 2 (some .int), Cond.fieldLink RX4 26 "SteamRations$OrderText" "place" "I", Cond.fieldLink RX4 15 "SteamRations$OrderText" "length" "I", Cond.methodLink RX4 19 yX4_rewind, Cond.instanceMethod yX4_rewind, Cond.selects RX4 yX4_rewind yX4_rewind, Cond.code yX4_rewind cX4_rewind 1 none, Cond.methodLink RX4 22 yX4_readOrder, Cond.instanceMethod yX4_readOrder, Cond.selects RX4 yX4_readOrder yX4_readOrder, Cond.code yX4_readOrder cX4_readOrder 1 (some .boolean), Cond.fieldLink RX4 37 "SteamRations$OrderText" "letter" "I", Cond.methodLink RX4 33 yX4_here, Cond.instanceMethod yX4_here, Cond.selects RX4 yX4_here yX4_here]
def wsX6_perform_r2 : List Cond := [Cond.code yX4_here cX4_here 1 (some .int), Cond.fieldLink RX4 9 "SteamRations$OrderText" "characters" "[C", Cond.methodLink RX4 29 yX4_accept, Cond.instanceMethod yX4_accept, Cond.selects RX4 yX4_accept yX4_accept, Cond.code yX4_accept cX4_accept 2 (some .boolean), Cond.methodLink RX4 40 yX4_readTarget, Cond.instanceMethod yX4_readTarget, Cond.selects RX4 yX4_readTarget yX4_readTarget, Cond.code yX4_readTarget cX4_readTarget 2 (some .boolean), Cond.fieldLink RX4 48 "SteamRations$OrderText" "value" "I", Cond.fieldLink RX4 51 "SteamRations$OrderText" "target" "I", Cond.methodLink RX4 44 yX4_readValue, Cond.instanceMethod yX4_readValue, Cond.selects RX4 yX4_readValue yX4_readValue, Cond.code yX4_readValue cX4_readValue 5 (some .boolean), Cond.methodLink RX4 54 yX4_digitHere, Cond.instanceMethod yX4_digitHere, Cond.selects RX4 yX4_digitHere yX4_digitHere, Cond.code yX4_digitHere cX4_digitHere 2 (some .int), Cond.static yX6_isWithin, Cond.initialized RX6, Cond.code yX6_isWithin cX6_isWithin 3 (some .boolean), Cond.methodLink RX6 53 yX2_copyFrom]
def wsX6_perform_r3 : List Cond := [Cond.instanceMethod yX2_copyFrom, Cond.selects RX2 yX2_copyFrom yX2_copyFrom, Cond.initialized RX2, Cond.code yX2_copyFrom cX2_copyFrom 3 none, Cond.fieldLink RX2 12 "SteamRations$Laundry" "boilers" "[LSteamRations$Boiler;", Cond.fieldLink RX2 21 "SteamRations$Laundry" "machines" "[LSteamRations$Machine;", Cond.fieldLink RX2 28 "SteamRations$Laundry" "waiting" "LSteamRations$WaitingLine;", Cond.fieldLink RX2 49 "SteamRations$Laundry" "ticks" "I", Cond.fieldLink RX2 52 "SteamRations$Laundry" "washed" "I", Cond.fieldLink RX2 55 "SteamRations$Laundry" "spoiled" "I", Cond.fieldLink RX2 58 "SteamRations$Laundry" "burnt" "I", Cond.fieldLink RX2 32 "SteamRations$Laundry" "coal" "I", Cond.fieldLink RX2 36 "SteamRations$Laundry" "ration" "I", Cond.fieldLink RX2 61 "SteamRations$Laundry" "rationed" "I", Cond.fieldLink RX2 64 "SteamRations$Laundry" "started" "I", Cond.fieldLink RX2 67 "SteamRations$Laundry" "takenOut" "I", Cond.fieldLink RX2 70 "SteamRations$Laundry" "worth" "I", Cond.fieldLink RX2 73 "SteamRations$Laundry" "ticksOfWaits" "I", Cond.methodLink RX2 39 yX0_copyFrom, Cond.instanceMethod yX0_copyFrom, Cond.selects RX0 yX0_copyFrom yX0_copyFrom, Cond.initialized RX0, Cond.code yX0_copyFrom cX0_copyFrom 2 none, Cond.fieldLink RX0 15 "SteamRations$Boiler" "fire" "I"]
def wsX6_perform_r4 : List Cond := [Cond.fieldLink RX0 9 "SteamRations$Boiler" "water" "I", Cond.fieldLink RX0 18 "SteamRations$Boiler" "pressure" "I", Cond.fieldLink RX0 21 "SteamRations$Boiler" "stopLeft" "I", Cond.fieldLink RX0 24 "SteamRations$Boiler" "stops" "I", Cond.methodLink RX2 43 yX3_copyFrom, Cond.instanceMethod yX3_copyFrom, Cond.selects RX3 yX3_copyFrom yX3_copyFrom, Cond.initialized RX3, Cond.code yX3_copyFrom cX3_copyFrom 2 none, Cond.fieldLink RX3 9 "SteamRations$Machine" "kind" "I", Cond.fieldLink RX3 15 "SteamRations$Machine" "left" "I", Cond.fieldLink RX3 18 "SteamRations$Machine" "waits" "I", Cond.methodLink RX2 46 yX5_copyFrom, Cond.instanceMethod yX5_copyFrom, Cond.selects RX5 yX5_copyFrom yX5_copyFrom, Cond.initialized RX5, Cond.code yX5_copyFrom cX5_copyFrom 3 none, Cond.fieldLink RX5 15 "SteamRations$WaitingLine" "length" "I", Cond.fieldLink RX5 9 "SteamRations$WaitingLine" "kinds" "[I", Cond.methodLink RX6 99 yX4_rewind, Cond.methodLink RX6 102 yX6_obeyNextOrder, Cond.instanceMethod yX6_obeyNextOrder, Cond.selects RX6 yX6_obeyNextOrder yX6_obeyNextOrder, Cond.code yX6_obeyNextOrder cX6_obeyNextOrder 1 (some .int)]
def wsX6_perform_r5 : List Cond := [Cond.fieldLink RX6 202 "SteamRations$OrderText" "letter" "I", Cond.fieldLink RX6 205 "SteamRations$OrderText" "target" "I", Cond.fieldLink RX6 208 "SteamRations$OrderText" "value" "I", Cond.fieldLink RX6 22 "SteamRations" "trial" "LSteamRations$Laundry;", Cond.methodLink RX6 199 yX4_readNextOrder, Cond.instanceMethod yX4_readNextOrder, Cond.selects RX4 yX4_readNextOrder yX4_readNextOrder, Cond.code yX4_readNextOrder cX4_readNextOrder 1 none, Cond.methodLink RX6 57 yX2_changeFire, Cond.instanceMethod yX2_changeFire, Cond.selects RX2 yX2_changeFire yX2_changeFire, Cond.code yX2_changeFire cX2_changeFire 5 (some .int), Cond.fieldLink RX2 104 "SteamRations$Boiler" "stopLeft" "I", Cond.fieldLink RX2 107 "SteamRations$Boiler" "fire" "I", Cond.methodLink RX2 96 yX2_boilerAt, Cond.instanceMethod yX2_boilerAt, Cond.selects RX2 yX2_boilerAt yX2_boilerAt, Cond.code yX2_boilerAt cX2_boilerAt 2 (some (.object "SteamRations$Boiler")), Cond.methodLink RX6 65 yX2_letWaterIn, Cond.instanceMethod yX2_letWaterIn, Cond.selects RX2 yX2_letWaterIn yX2_letWaterIn, Cond.code yX2_letWaterIn cX2_letWaterIn 4 (some .int), Cond.fieldLink RX2 110 "SteamRations$Boiler" "water" "I", Cond.methodLink RX6 71 yX2_startLoad]
def wsX6_perform_r6 : List Cond := [Cond.instanceMethod yX2_startLoad, Cond.selects RX2 yX2_startLoad yX2_startLoad, Cond.code yX2_startLoad cX2_startLoad 6 (some .int), Cond.fieldLink RX2 125 "SteamRations$Machine" "left" "I", Cond.methodLink RX2 113 yX2_machineAt, Cond.instanceMethod yX2_machineAt, Cond.selects RX2 yX2_machineAt yX2_machineAt, Cond.code yX2_machineAt cX2_machineAt 2 (some (.object "SteamRations$Machine")), Cond.methodLink RX2 76 yX3_isEmpty, Cond.instanceMethod yX3_isEmpty, Cond.selects RX3 yX3_isEmpty yX3_isEmpty, Cond.code yX3_isEmpty cX3_isEmpty 1 (some .boolean), Cond.methodLink RX2 117 yX2_reasonAgainst, Cond.instanceMethod yX2_reasonAgainst, Cond.selects RX2 yX2_reasonAgainst yX2_reasonAgainst, Cond.code yX2_reasonAgainst cX2_reasonAgainst 6 (some .int), Cond.methodLink RX2 149 yX2_lowestEmptyMachine, Cond.instanceMethod yX2_lowestEmptyMachine, Cond.selects RX2 yX2_lowestEmptyMachine yX2_lowestEmptyMachine, Cond.code yX2_lowestEmptyMachine cX2_lowestEmptyMachine 5 (some (.object "SteamRations$Machine")), Cond.methodLink RX2 93 yX2_allPressure, Cond.instanceMethod yX2_allPressure, Cond.selects RX2 yX2_allPressure yX2_allPressure, Cond.code yX2_allPressure cX2_allPressure 6 (some .int)]
def wsX6_perform_r7 : List Cond := [Cond.fieldLink RX2 87 "SteamRations$Boiler" "pressure" "I", Cond.methodLink RX2 153 yX2_copyFrom, Cond.methodLink RX2 121 yX3_put, Cond.instanceMethod yX3_put, Cond.selects RX3 yX3_put yX3_put, Cond.code yX3_put cX3_put 2 none, Cond.static yX6_ticksOf, Cond.code yX6_ticksOf cX6_ticksOf 1 (some .int), Cond.methodLink RX2 143 yX2_workTick, Cond.instanceMethod yX2_workTick, Cond.selects RX2 yX2_workTick yX2_workTick, Cond.code yX2_workTick cX2_workTick 7 (some .boolean), Cond.methodLink RX2 158 yX2_receiveRation, Cond.instanceMethod yX2_receiveRation, Cond.selects RX2 yX2_receiveRation yX2_receiveRation, Cond.code yX2_receiveRation cX2_receiveRation 2 none, Cond.methodLink RX2 179 Lib.Math.min.name, Cond.static Lib.Math.min.name, Cond.initialized "java/lang/Math", Cond.code Lib.Math.min.name Lib.Math.min.code 2 (some .int), Cond.methodLink RX2 161 yX0_burn, Cond.instanceMethod yX0_burn, Cond.selects RX0 yX0_burn yX0_burn, Cond.code yX0_burn cX0_burn 2 (some .int)]
def wsX6_perform_r8 : List Cond := [Cond.methodLink RX2 164 yX2_need, Cond.instanceMethod yX2_need, Cond.selects RX2 yX2_need yX2_need, Cond.code yX2_need cX2_need 6 (some .int), Cond.fieldLink RX2 185 "SteamRations$Machine" "kind" "I", Cond.static yX6_steamOf, Cond.code yX6_steamOf cX6_steamOf 1 (some .int), Cond.methodLink RX2 167 yX2_holdLoads, Cond.instanceMethod yX2_holdLoads, Cond.selects RX2 yX2_holdLoads yX2_holdLoads, Cond.code yX2_holdLoads cX2_holdLoads 5 none, Cond.fieldLink RX2 194 "SteamRations$Machine" "waits" "I", Cond.methodLink RX2 135 yX3_clear, Cond.instanceMethod yX3_clear, Cond.selects RX3 yX3_clear yX3_clear, Cond.code yX3_clear cX3_clear 1 none, Cond.methodLink RX2 170 yX2_takeSteam, Cond.instanceMethod yX2_takeSteam, Cond.selects RX2 yX2_takeSteam yX2_takeSteam, Cond.code yX2_takeSteam cX2_takeSteam 8 none, Cond.methodLink RX2 173 yX2_workLoads, Cond.instanceMethod yX2_workLoads, Cond.selects RX2 yX2_workLoads yX2_workLoads, Cond.code yX2_workLoads cX2_workLoads 5 none]
def wsX6_perform_r9 : List Cond := [Cond.static yX6_worthOf, Cond.code yX6_worthOf cX6_worthOf 1 (some .int), Cond.methodLink RX2 176 yX0_coolDown, Cond.instanceMethod yX0_coolDown, Cond.selects RX0 yX0_coolDown yX0_coolDown, Cond.code yX0_coolDown cX0_coolDown 1 none, Cond.methodLink RX6 75 yX2_addToLine, Cond.instanceMethod yX2_addToLine, Cond.selects RX2 yX2_addToLine yX2_addToLine, Cond.code yX2_addToLine cX2_addToLine 2 (some .int), Cond.methodLink RX2 128 yX5_add, Cond.instanceMethod yX5_add, Cond.selects RX5 yX5_add yX5_add, Cond.code yX5_add cX5_add 2 (some .int), Cond.methodLink RX6 84 yX2_letPass, Cond.instanceMethod yX2_letPass, Cond.selects RX2 yX2_letPass yX2_letPass, Cond.code yX2_letPass cX2_letPass 5 (some .int), Cond.constant RX2 138 (99999), Cond.methodLink RX2 139 yX2_passTick, Cond.instanceMethod yX2_passTick, Cond.selects RX2 yX2_passTick yX2_passTick, Cond.code yX2_passTick cX2_passTick 4 none, Cond.methodLink RX2 146 yX5_kindAt]
def wsX6_perform_r10 : List Cond := [Cond.instanceMethod yX5_kindAt, Cond.selects RX5 yX5_kindAt yX5_kindAt, Cond.code yX5_kindAt cX5_kindAt 2 (some .int), Cond.methodLink RX2 132 yX5_remove, Cond.instanceMethod yX5_remove, Cond.selects RX5 yX5_remove yX5_remove, Cond.code yX5_remove cX5_remove 4 (some .int), Cond.methodLink RX5 19 yX5_kindAt, Cond.methodLink RX6 61 yX6_recorded, Cond.instanceMethod yX6_recorded, Cond.selects RX6 yX6_recorded yX6_recorded, Cond.code yX6_recorded cX6_recorded 2 (some .int), Cond.fieldLink RX6 31 "SteamRations" "history" "LSteamRations$History;", Cond.methodLink RX6 196 yX1_push, Cond.instanceMethod yX1_push, Cond.selects RX1 yX1_push yX1_push, Cond.initialized RX1, Cond.code yX1_push cX1_push 2 none, Cond.fieldLink RX1 18 "SteamRations$History" "size" "I", Cond.fieldLink RX1 12 "SteamRations$History" "states" "[LSteamRations$Laundry;", Cond.methodLink RX1 22 yX1_dropOldest, Cond.instanceMethod yX1_dropOldest, Cond.selects RX1 yX1_dropOldest yX1_dropOldest, Cond.code yX1_dropOldest cX1_dropOldest 3 none]
def wsX6_perform_r11 : List Cond := [Cond.methodLink RX1 25 yX2_copyFrom]
def wsX6_perform : List Cond := .code yX6_perform cX6_perform 4 (some .int) :: ((wsX6_perform_r1 ++ (wsX6_perform_r2 ++ (wsX6_perform_r3 ++ (wsX6_perform_r4 ++ (wsX6_perform_r5 ++ (wsX6_perform_r6 ++ (wsX6_perform_r7 ++ (wsX6_perform_r8 ++ (wsX6_perform_r9 ++ (wsX6_perform_r10 ++ wsX6_perform_r11)))))))))) ++ wsX60 ++ wsX40 ++ wsX20 ++ wsX00 ++ wsX30 ++ wsX50 ++ wsX10)
def wsX6_stopped : List Cond := .code yX6_stopped cX6_stopped 2 (some .int) :: ([.fieldLink RX6 46 "SteamRations" "stopNumber" "I", .fieldLink RX6 50 "SteamRations" "stopError" "I"] ++ wsX60)
def wsX6_undo_r1 : List Cond := [Cond.fieldLink RX6 31 "SteamRations" "history" "LSteamRations$History;", Cond.fieldLink RX6 10 "SteamRations" "now" "LSteamRations$Laundry;", Cond.methodLink RX6 105 yX1_takeBack, Cond.instanceMethod yX1_takeBack, Cond.selects RX1 yX1_takeBack yX1_takeBack, Cond.initialized RX1, Cond.code yX1_takeBack cX1_takeBack 2 (some .int), Cond.fieldLink RX1 18 "SteamRations$History" "size" "I", Cond.fieldLink RX1 12 "SteamRations$History" "states" "[LSteamRations$Laundry;", Cond.methodLink RX1 25 yX2_copyFrom, Cond.instanceMethod yX2_copyFrom, Cond.selects RX2 yX2_copyFrom yX2_copyFrom, Cond.initialized RX2, Cond.code yX2_copyFrom cX2_copyFrom 3 none, Cond.fieldLink RX2 12 "SteamRations$Laundry" "boilers" "[LSteamRations$Boiler;", Cond.fieldLink RX2 21 "SteamRations$Laundry" "machines" "[LSteamRations$Machine;", Cond.fieldLink RX2 28 "SteamRations$Laundry" "waiting" "LSteamRations$WaitingLine;", Cond.fieldLink RX2 49 "SteamRations$Laundry" "ticks" "I", Cond.fieldLink RX2 52 "SteamRations$Laundry" "washed" "I", Cond.fieldLink RX2 55 "SteamRations$Laundry" "spoiled" "I", Cond.fieldLink RX2 58 "SteamRations$Laundry" "burnt" "I", Cond.fieldLink RX2 32 "SteamRations$Laundry" "coal" "I", Cond.fieldLink RX2 36 "SteamRations$Laundry" "ration" "I", Cond.fieldLink RX2 61 "SteamRations$Laundry" "rationed" "I"]
def wsX6_undo_r2 : List Cond := [Cond.fieldLink RX2 64 "SteamRations$Laundry" "started" "I", Cond.fieldLink RX2 67 "SteamRations$Laundry" "takenOut" "I", Cond.fieldLink RX2 70 "SteamRations$Laundry" "worth" "I", Cond.fieldLink RX2 73 "SteamRations$Laundry" "ticksOfWaits" "I", Cond.methodLink RX2 39 yX0_copyFrom, Cond.instanceMethod yX0_copyFrom, Cond.selects RX0 yX0_copyFrom yX0_copyFrom, Cond.initialized RX0, Cond.code yX0_copyFrom cX0_copyFrom 2 none, Cond.fieldLink RX0 15 "SteamRations$Boiler" "fire" "I", Cond.fieldLink RX0 9 "SteamRations$Boiler" "water" "I", Cond.fieldLink RX0 18 "SteamRations$Boiler" "pressure" "I", Cond.fieldLink RX0 21 "SteamRations$Boiler" "stopLeft" "I", Cond.fieldLink RX0 24 "SteamRations$Boiler" "stops" "I", Cond.methodLink RX2 43 yX3_copyFrom, Cond.instanceMethod yX3_copyFrom, Cond.selects RX3 yX3_copyFrom yX3_copyFrom, Cond.initialized RX3, Cond.code yX3_copyFrom cX3_copyFrom 2 none, Cond.fieldLink RX3 9 "SteamRations$Machine" "kind" "I", Cond.fieldLink RX3 15 "SteamRations$Machine" "left" "I", Cond.fieldLink RX3 18 "SteamRations$Machine" "waits" "I", Cond.methodLink RX2 46 yX5_copyFrom, Cond.instanceMethod yX5_copyFrom]
def wsX6_undo_r3 : List Cond := [Cond.selects RX5 yX5_copyFrom yX5_copyFrom, Cond.initialized RX5, Cond.code yX5_copyFrom cX5_copyFrom 3 none, Cond.fieldLink RX5 15 "SteamRations$WaitingLine" "length" "I", Cond.fieldLink RX5 9 "SteamRations$WaitingLine" "kinds" "[I"]
def wsX6_undo : List Cond := .code yX6_undo cX6_undo 1 (some .int) :: ((wsX6_undo_r1 ++ (wsX6_undo_r2 ++ wsX6_undo_r3)) ++ wsX60 ++ wsX10 ++ wsX20 ++ wsX00 ++ wsX30 ++ wsX50)
def wsX6_keep_r1 : List Cond := [Cond.fieldLink RX6 25 "SteamRations" "snapshot" "LSteamRations$Laundry;", Cond.fieldLink RX6 10 "SteamRations" "now" "LSteamRations$Laundry;", Cond.fieldLink RX6 42 "SteamRations" "hasSnapshot" "Z", Cond.fieldLink RX6 109 "SteamRations$Laundry" "ticks" "I", Cond.methodLink RX6 53 yX2_copyFrom, Cond.instanceMethod yX2_copyFrom, Cond.selects RX2 yX2_copyFrom yX2_copyFrom, Cond.initialized RX2, Cond.code yX2_copyFrom cX2_copyFrom 3 none, Cond.fieldLink RX2 12 "SteamRations$Laundry" "boilers" "[LSteamRations$Boiler;", Cond.fieldLink RX2 21 "SteamRations$Laundry" "machines" "[LSteamRations$Machine;", Cond.fieldLink RX2 28 "SteamRations$Laundry" "waiting" "LSteamRations$WaitingLine;", Cond.fieldLink RX2 49 "SteamRations$Laundry" "ticks" "I", Cond.fieldLink RX2 52 "SteamRations$Laundry" "washed" "I", Cond.fieldLink RX2 55 "SteamRations$Laundry" "spoiled" "I", Cond.fieldLink RX2 58 "SteamRations$Laundry" "burnt" "I", Cond.fieldLink RX2 32 "SteamRations$Laundry" "coal" "I", Cond.fieldLink RX2 36 "SteamRations$Laundry" "ration" "I", Cond.fieldLink RX2 61 "SteamRations$Laundry" "rationed" "I", Cond.fieldLink RX2 64 "SteamRations$Laundry" "started" "I", Cond.fieldLink RX2 67 "SteamRations$Laundry" "takenOut" "I", Cond.fieldLink RX2 70 "SteamRations$Laundry" "worth" "I", Cond.fieldLink RX2 73 "SteamRations$Laundry" "ticksOfWaits" "I", Cond.methodLink RX2 39 yX0_copyFrom]
def wsX6_keep_r2 : List Cond := [Cond.instanceMethod yX0_copyFrom, Cond.selects RX0 yX0_copyFrom yX0_copyFrom, Cond.initialized RX0, Cond.code yX0_copyFrom cX0_copyFrom 2 none, Cond.fieldLink RX0 15 "SteamRations$Boiler" "fire" "I", Cond.fieldLink RX0 9 "SteamRations$Boiler" "water" "I", Cond.fieldLink RX0 18 "SteamRations$Boiler" "pressure" "I", Cond.fieldLink RX0 21 "SteamRations$Boiler" "stopLeft" "I", Cond.fieldLink RX0 24 "SteamRations$Boiler" "stops" "I", Cond.methodLink RX2 43 yX3_copyFrom, Cond.instanceMethod yX3_copyFrom, Cond.selects RX3 yX3_copyFrom yX3_copyFrom, Cond.initialized RX3, Cond.code yX3_copyFrom cX3_copyFrom 2 none, Cond.fieldLink RX3 9 "SteamRations$Machine" "kind" "I", Cond.fieldLink RX3 15 "SteamRations$Machine" "left" "I", Cond.fieldLink RX3 18 "SteamRations$Machine" "waits" "I", Cond.methodLink RX2 46 yX5_copyFrom, Cond.instanceMethod yX5_copyFrom, Cond.selects RX5 yX5_copyFrom yX5_copyFrom, Cond.initialized RX5, Cond.code yX5_copyFrom cX5_copyFrom 3 none, Cond.fieldLink RX5 15 "SteamRations$WaitingLine" "length" "I", Cond.fieldLink RX5 9 "SteamRations$WaitingLine" "kinds" "[I"]
def wsX6_keep : List Cond := .code yX6_keep cX6_keep 1 (some .int) :: ((wsX6_keep_r1 ++ wsX6_keep_r2) ++ wsX60 ++ wsX20 ++ wsX00 ++ wsX30 ++ wsX50)
def wsX6_restore_r1 : List Cond := [Cond.fieldLink RX6 42 "SteamRations" "hasSnapshot" "Z", Cond.fieldLink RX6 16 "SteamRations" "before" "LSteamRations$Laundry;", Cond.fieldLink RX6 10 "SteamRations" "now" "LSteamRations$Laundry;", Cond.fieldLink RX6 25 "SteamRations" "snapshot" "LSteamRations$Laundry;", Cond.fieldLink RX6 109 "SteamRations$Laundry" "ticks" "I", Cond.methodLink RX6 53 yX2_copyFrom, Cond.instanceMethod yX2_copyFrom, Cond.selects RX2 yX2_copyFrom yX2_copyFrom, Cond.initialized RX2, Cond.code yX2_copyFrom cX2_copyFrom 3 none, Cond.fieldLink RX2 12 "SteamRations$Laundry" "boilers" "[LSteamRations$Boiler;", Cond.fieldLink RX2 21 "SteamRations$Laundry" "machines" "[LSteamRations$Machine;", Cond.fieldLink RX2 28 "SteamRations$Laundry" "waiting" "LSteamRations$WaitingLine;", Cond.fieldLink RX2 49 "SteamRations$Laundry" "ticks" "I", Cond.fieldLink RX2 52 "SteamRations$Laundry" "washed" "I", Cond.fieldLink RX2 55 "SteamRations$Laundry" "spoiled" "I", Cond.fieldLink RX2 58 "SteamRations$Laundry" "burnt" "I", Cond.fieldLink RX2 32 "SteamRations$Laundry" "coal" "I", Cond.fieldLink RX2 36 "SteamRations$Laundry" "ration" "I", Cond.fieldLink RX2 61 "SteamRations$Laundry" "rationed" "I", Cond.fieldLink RX2 64 "SteamRations$Laundry" "started" "I", Cond.fieldLink RX2 67 "SteamRations$Laundry" "takenOut" "I", Cond.fieldLink RX2 70 "SteamRations$Laundry" "worth" "I", Cond.fieldLink RX2 73 "SteamRations$Laundry" "ticksOfWaits" "I"]
def wsX6_restore_r2 : List Cond := [Cond.methodLink RX2 39 yX0_copyFrom, Cond.instanceMethod yX0_copyFrom, Cond.selects RX0 yX0_copyFrom yX0_copyFrom, Cond.initialized RX0, Cond.code yX0_copyFrom cX0_copyFrom 2 none, Cond.fieldLink RX0 15 "SteamRations$Boiler" "fire" "I", Cond.fieldLink RX0 9 "SteamRations$Boiler" "water" "I", Cond.fieldLink RX0 18 "SteamRations$Boiler" "pressure" "I", Cond.fieldLink RX0 21 "SteamRations$Boiler" "stopLeft" "I", Cond.fieldLink RX0 24 "SteamRations$Boiler" "stops" "I", Cond.methodLink RX2 43 yX3_copyFrom, Cond.instanceMethod yX3_copyFrom, Cond.selects RX3 yX3_copyFrom yX3_copyFrom, Cond.initialized RX3, Cond.code yX3_copyFrom cX3_copyFrom 2 none, Cond.fieldLink RX3 9 "SteamRations$Machine" "kind" "I", Cond.fieldLink RX3 15 "SteamRations$Machine" "left" "I", Cond.fieldLink RX3 18 "SteamRations$Machine" "waits" "I", Cond.methodLink RX2 46 yX5_copyFrom, Cond.instanceMethod yX5_copyFrom, Cond.selects RX5 yX5_copyFrom yX5_copyFrom, Cond.initialized RX5, Cond.code yX5_copyFrom cX5_copyFrom 3 none, Cond.fieldLink RX5 15 "SteamRations$WaitingLine" "length" "I"]
def wsX6_restore_r3 : List Cond := [Cond.fieldLink RX5 9 "SteamRations$WaitingLine" "kinds" "[I", Cond.methodLink RX6 61 yX6_recorded, Cond.instanceMethod yX6_recorded, Cond.selects RX6 yX6_recorded yX6_recorded, Cond.initialized RX6, Cond.code yX6_recorded cX6_recorded 2 (some .int), Cond.fieldLink RX6 31 "SteamRations" "history" "LSteamRations$History;", Cond.methodLink RX6 196 yX1_push, Cond.instanceMethod yX1_push, Cond.selects RX1 yX1_push yX1_push, Cond.initialized RX1, Cond.code yX1_push cX1_push 2 none, Cond.fieldLink RX1 18 "SteamRations$History" "size" "I", Cond.fieldLink RX1 12 "SteamRations$History" "states" "[LSteamRations$Laundry;", Cond.methodLink RX1 22 yX1_dropOldest, Cond.instanceMethod yX1_dropOldest, Cond.selects RX1 yX1_dropOldest yX1_dropOldest, Cond.code yX1_dropOldest cX1_dropOldest 3 none, Cond.methodLink RX1 25 yX2_copyFrom]
def wsX6_restore : List Cond := .code yX6_restore cX6_restore 1 (some .int) :: ((wsX6_restore_r1 ++ (wsX6_restore_r2 ++ wsX6_restore_r3)) ++ wsX60 ++ wsX20 ++ wsX00 ++ wsX30 ++ wsX50 ++ wsX10)
def wsX6_boiler : List Cond := .code yX6_boiler cX6_boiler 4 (some .int) :: ([.fieldLink RX6 10 "SteamRations" "now" "LSteamRations$Laundry;", .fieldLink RX6 116 "SteamRations$Boiler" "fire" "I", .fieldLink RX6 121 "SteamRations$Boiler" "water" "I", .fieldLink RX6 124 "SteamRations$Boiler" "pressure" "I", .fieldLink RX6 127 "SteamRations$Boiler" "stopLeft" "I", .fieldLink RX6 130 "SteamRations$Boiler" "stops" "I", .methodLink RX6 112 yX2_boilerAt, .instanceMethod yX2_boilerAt, .selects RX2 yX2_boilerAt yX2_boilerAt, .initialized RX2, .code yX2_boilerAt cX2_boilerAt 2 (some (.object "SteamRations$Boiler")), .fieldLink RX2 12 "SteamRations$Laundry" "boilers" "[LSteamRations$Boiler;"] ++ wsX60 ++ wsX00 ++ wsX20)
def wsX6_machine : List Cond := .code yX6_machine cX6_machine 4 (some .int) :: ([.fieldLink RX6 10 "SteamRations" "now" "LSteamRations$Laundry;", .fieldLink RX6 137 "SteamRations$Machine" "kind" "I", .fieldLink RX6 142 "SteamRations$Machine" "left" "I", .fieldLink RX6 145 "SteamRations$Machine" "waits" "I", .methodLink RX6 133 yX2_machineAt, .instanceMethod yX2_machineAt, .selects RX2 yX2_machineAt yX2_machineAt, .initialized RX2, .code yX2_machineAt cX2_machineAt 2 (some (.object "SteamRations$Machine")), .fieldLink RX2 21 "SteamRations$Laundry" "machines" "[LSteamRations$Machine;"] ++ wsX60 ++ wsX30 ++ wsX20)
def wsX6_line : List Cond := .code yX6_line cX6_line 2 (some .int) :: ([.fieldLink RX6 10 "SteamRations" "now" "LSteamRations$Laundry;", .fieldLink RX6 148 "SteamRations$Laundry" "waiting" "LSteamRations$WaitingLine;", .methodLink RX6 152 yX5_kindAt, .instanceMethod yX5_kindAt, .selects RX5 yX5_kindAt yX5_kindAt, .initialized RX5, .code yX5_kindAt cX5_kindAt 2 (some .int), .fieldLink RX5 15 "SteamRations$WaitingLine" "length" "I", .fieldLink RX5 9 "SteamRations$WaitingLine" "kinds" "[I"] ++ wsX60 ++ wsX20 ++ wsX50)
def wsX6_reason_r1 : List Cond := [Cond.fieldLink RX6 10 "SteamRations" "now" "LSteamRations$Laundry;", Cond.fieldLink RX6 22 "SteamRations" "trial" "LSteamRations$Laundry;", Cond.methodLink RX6 157 yX6_isWithin, Cond.static yX6_isWithin, Cond.initialized RX6, Cond.code yX6_isWithin cX6_isWithin 3 (some .boolean), Cond.methodLink RX6 161 yX2_reasonAgainst, Cond.instanceMethod yX2_reasonAgainst, Cond.selects RX2 yX2_reasonAgainst yX2_reasonAgainst, Cond.initialized RX2, Cond.code yX2_reasonAgainst cX2_reasonAgainst 6 (some .int), Cond.methodLink RX2 149 yX2_lowestEmptyMachine, Cond.instanceMethod yX2_lowestEmptyMachine, Cond.selects RX2 yX2_lowestEmptyMachine yX2_lowestEmptyMachine, Cond.code yX2_lowestEmptyMachine cX2_lowestEmptyMachine 5 (some (.object "SteamRations$Machine")), Cond.fieldLink RX2 21 "SteamRations$Laundry" "machines" "[LSteamRations$Machine;", Cond.methodLink RX2 76 yX3_isEmpty, Cond.instanceMethod yX3_isEmpty, Cond.selects RX3 yX3_isEmpty yX3_isEmpty, Cond.initialized RX3, Cond.code yX3_isEmpty cX3_isEmpty 1 (some .boolean), Cond.fieldLink RX3 9 "SteamRations$Machine" "kind" "I", Cond.methodLink RX2 93 yX2_allPressure, Cond.instanceMethod yX2_allPressure]
def wsX6_reason_r2 : List Cond := [Cond.selects RX2 yX2_allPressure yX2_allPressure, Cond.code yX2_allPressure cX2_allPressure 6 (some .int), Cond.fieldLink RX2 12 "SteamRations$Laundry" "boilers" "[LSteamRations$Boiler;", Cond.fieldLink RX2 87 "SteamRations$Boiler" "pressure" "I", Cond.methodLink RX2 153 yX2_copyFrom, Cond.instanceMethod yX2_copyFrom, Cond.selects RX2 yX2_copyFrom yX2_copyFrom, Cond.code yX2_copyFrom cX2_copyFrom 3 none, Cond.fieldLink RX2 28 "SteamRations$Laundry" "waiting" "LSteamRations$WaitingLine;", Cond.fieldLink RX2 49 "SteamRations$Laundry" "ticks" "I", Cond.fieldLink RX2 52 "SteamRations$Laundry" "washed" "I", Cond.fieldLink RX2 55 "SteamRations$Laundry" "spoiled" "I", Cond.fieldLink RX2 58 "SteamRations$Laundry" "burnt" "I", Cond.fieldLink RX2 32 "SteamRations$Laundry" "coal" "I", Cond.fieldLink RX2 36 "SteamRations$Laundry" "ration" "I", Cond.fieldLink RX2 61 "SteamRations$Laundry" "rationed" "I", Cond.fieldLink RX2 64 "SteamRations$Laundry" "started" "I", Cond.fieldLink RX2 67 "SteamRations$Laundry" "takenOut" "I", Cond.fieldLink RX2 70 "SteamRations$Laundry" "worth" "I", Cond.fieldLink RX2 73 "SteamRations$Laundry" "ticksOfWaits" "I", Cond.methodLink RX2 39 yX0_copyFrom, Cond.instanceMethod yX0_copyFrom, Cond.selects RX0 yX0_copyFrom yX0_copyFrom, Cond.initialized RX0]
def wsX6_reason_r3 : List Cond := [Cond.code yX0_copyFrom cX0_copyFrom 2 none, Cond.fieldLink RX0 15 "SteamRations$Boiler" "fire" "I", Cond.fieldLink RX0 9 "SteamRations$Boiler" "water" "I", Cond.fieldLink RX0 18 "SteamRations$Boiler" "pressure" "I", Cond.fieldLink RX0 21 "SteamRations$Boiler" "stopLeft" "I", Cond.fieldLink RX0 24 "SteamRations$Boiler" "stops" "I", Cond.methodLink RX2 43 yX3_copyFrom, Cond.instanceMethod yX3_copyFrom, Cond.selects RX3 yX3_copyFrom yX3_copyFrom, Cond.code yX3_copyFrom cX3_copyFrom 2 none, Cond.fieldLink RX3 15 "SteamRations$Machine" "left" "I", Cond.fieldLink RX3 18 "SteamRations$Machine" "waits" "I", Cond.methodLink RX2 46 yX5_copyFrom, Cond.instanceMethod yX5_copyFrom, Cond.selects RX5 yX5_copyFrom yX5_copyFrom, Cond.initialized RX5, Cond.code yX5_copyFrom cX5_copyFrom 3 none, Cond.fieldLink RX5 15 "SteamRations$WaitingLine" "length" "I", Cond.fieldLink RX5 9 "SteamRations$WaitingLine" "kinds" "[I", Cond.methodLink RX2 121 yX3_put, Cond.instanceMethod yX3_put, Cond.selects RX3 yX3_put yX3_put, Cond.code yX3_put cX3_put 2 none, Cond.static yX6_ticksOf]
def wsX6_reason_r4 : List Cond := [Cond.code yX6_ticksOf cX6_ticksOf 1 (some .int), Cond.methodLink RX2 143 yX2_workTick, Cond.instanceMethod yX2_workTick, Cond.selects RX2 yX2_workTick yX2_workTick, Cond.code yX2_workTick cX2_workTick 7 (some .boolean), Cond.methodLink RX2 158 yX2_receiveRation, Cond.instanceMethod yX2_receiveRation, Cond.selects RX2 yX2_receiveRation yX2_receiveRation, Cond.code yX2_receiveRation cX2_receiveRation 2 none, Cond.methodLink RX2 179 Lib.Math.min.name, Cond.static Lib.Math.min.name, Cond.initialized "java/lang/Math", Cond.code Lib.Math.min.name Lib.Math.min.code 2 (some .int), Cond.methodLink RX2 161 yX0_burn, Cond.instanceMethod yX0_burn, Cond.selects RX0 yX0_burn yX0_burn, Cond.code yX0_burn cX0_burn 2 (some .int), Cond.methodLink RX2 164 yX2_need, Cond.instanceMethod yX2_need, Cond.selects RX2 yX2_need yX2_need, Cond.code yX2_need cX2_need 6 (some .int), Cond.fieldLink RX2 185 "SteamRations$Machine" "kind" "I", Cond.static yX6_steamOf, Cond.code yX6_steamOf cX6_steamOf 1 (some .int)]
def wsX6_reason_r5 : List Cond := [Cond.methodLink RX2 167 yX2_holdLoads, Cond.instanceMethod yX2_holdLoads, Cond.selects RX2 yX2_holdLoads yX2_holdLoads, Cond.code yX2_holdLoads cX2_holdLoads 5 none, Cond.fieldLink RX2 194 "SteamRations$Machine" "waits" "I", Cond.methodLink RX2 135 yX3_clear, Cond.instanceMethod yX3_clear, Cond.selects RX3 yX3_clear yX3_clear, Cond.code yX3_clear cX3_clear 1 none, Cond.methodLink RX2 170 yX2_takeSteam, Cond.instanceMethod yX2_takeSteam, Cond.selects RX2 yX2_takeSteam yX2_takeSteam, Cond.code yX2_takeSteam cX2_takeSteam 8 none, Cond.methodLink RX2 173 yX2_workLoads, Cond.instanceMethod yX2_workLoads, Cond.selects RX2 yX2_workLoads yX2_workLoads, Cond.code yX2_workLoads cX2_workLoads 5 none, Cond.fieldLink RX2 125 "SteamRations$Machine" "left" "I", Cond.static yX6_worthOf, Cond.code yX6_worthOf cX6_worthOf 1 (some .int), Cond.methodLink RX2 176 yX0_coolDown, Cond.instanceMethod yX0_coolDown, Cond.selects RX0 yX0_coolDown yX0_coolDown, Cond.code yX0_coolDown cX0_coolDown 1 none]
def wsX6_reason : List Cond := .code yX6_reason cX6_reason 2 (some .int) :: ((wsX6_reason_r1 ++ (wsX6_reason_r2 ++ (wsX6_reason_r3 ++ (wsX6_reason_r4 ++ wsX6_reason_r5)))) ++ wsX60 ++ wsX20 ++ wsX30 ++ wsX00 ++ wsX50)
def wsX6_doneIn_r1 : List Cond := [Cond.fieldLink RX6 19 "SteamRations" "ahead" "LSteamRations$Laundry;", Cond.fieldLink RX6 10 "SteamRations" "now" "LSteamRations$Laundry;", Cond.fieldLink RX6 22 "SteamRations" "trial" "LSteamRations$Laundry;", Cond.methodLink RX6 53 yX2_copyFrom, Cond.instanceMethod yX2_copyFrom, Cond.selects RX2 yX2_copyFrom yX2_copyFrom, Cond.initialized RX2, Cond.code yX2_copyFrom cX2_copyFrom 3 none, Cond.fieldLink RX2 12 "SteamRations$Laundry" "boilers" "[LSteamRations$Boiler;", Cond.fieldLink RX2 21 "SteamRations$Laundry" "machines" "[LSteamRations$Machine;", Cond.fieldLink RX2 28 "SteamRations$Laundry" "waiting" "LSteamRations$WaitingLine;", Cond.fieldLink RX2 49 "SteamRations$Laundry" "ticks" "I", Cond.fieldLink RX2 52 "SteamRations$Laundry" "washed" "I", Cond.fieldLink RX2 55 "SteamRations$Laundry" "spoiled" "I", Cond.fieldLink RX2 58 "SteamRations$Laundry" "burnt" "I", Cond.fieldLink RX2 32 "SteamRations$Laundry" "coal" "I", Cond.fieldLink RX2 36 "SteamRations$Laundry" "ration" "I", Cond.fieldLink RX2 61 "SteamRations$Laundry" "rationed" "I", Cond.fieldLink RX2 64 "SteamRations$Laundry" "started" "I", Cond.fieldLink RX2 67 "SteamRations$Laundry" "takenOut" "I", Cond.fieldLink RX2 70 "SteamRations$Laundry" "worth" "I", Cond.fieldLink RX2 73 "SteamRations$Laundry" "ticksOfWaits" "I", Cond.methodLink RX2 39 yX0_copyFrom, Cond.instanceMethod yX0_copyFrom]
def wsX6_doneIn_r2 : List Cond := [Cond.selects RX0 yX0_copyFrom yX0_copyFrom, Cond.initialized RX0, Cond.code yX0_copyFrom cX0_copyFrom 2 none, Cond.fieldLink RX0 15 "SteamRations$Boiler" "fire" "I", Cond.fieldLink RX0 9 "SteamRations$Boiler" "water" "I", Cond.fieldLink RX0 18 "SteamRations$Boiler" "pressure" "I", Cond.fieldLink RX0 21 "SteamRations$Boiler" "stopLeft" "I", Cond.fieldLink RX0 24 "SteamRations$Boiler" "stops" "I", Cond.methodLink RX2 43 yX3_copyFrom, Cond.instanceMethod yX3_copyFrom, Cond.selects RX3 yX3_copyFrom yX3_copyFrom, Cond.initialized RX3, Cond.code yX3_copyFrom cX3_copyFrom 2 none, Cond.fieldLink RX3 9 "SteamRations$Machine" "kind" "I", Cond.fieldLink RX3 15 "SteamRations$Machine" "left" "I", Cond.fieldLink RX3 18 "SteamRations$Machine" "waits" "I", Cond.methodLink RX2 46 yX5_copyFrom, Cond.instanceMethod yX5_copyFrom, Cond.selects RX5 yX5_copyFrom yX5_copyFrom, Cond.initialized RX5, Cond.code yX5_copyFrom cX5_copyFrom 3 none, Cond.fieldLink RX5 15 "SteamRations$WaitingLine" "length" "I", Cond.fieldLink RX5 9 "SteamRations$WaitingLine" "kinds" "[I", Cond.methodLink RX6 164 yX2_isIdle]
def wsX6_doneIn_r3 : List Cond := [Cond.instanceMethod yX2_isIdle, Cond.selects RX2 yX2_isIdle yX2_isIdle, Cond.code yX2_isIdle cX2_isIdle 1 (some .boolean), Cond.fieldLink RX2 80 "SteamRations$WaitingLine" "length" "I", Cond.methodLink RX2 83 yX2_loadsInMachines, Cond.instanceMethod yX2_loadsInMachines, Cond.selects RX2 yX2_loadsInMachines yX2_loadsInMachines, Cond.code yX2_loadsInMachines cX2_loadsInMachines 6 (some .int), Cond.methodLink RX2 76 yX3_isEmpty, Cond.instanceMethod yX3_isEmpty, Cond.selects RX3 yX3_isEmpty yX3_isEmpty, Cond.code yX3_isEmpty cX3_isEmpty 1 (some .boolean), Cond.methodLink RX6 168 yX2_passTick, Cond.instanceMethod yX2_passTick, Cond.selects RX2 yX2_passTick yX2_passTick, Cond.code yX2_passTick cX2_passTick 4 none, Cond.methodLink RX2 143 yX2_workTick, Cond.instanceMethod yX2_workTick, Cond.selects RX2 yX2_workTick yX2_workTick, Cond.code yX2_workTick cX2_workTick 7 (some .boolean), Cond.methodLink RX2 158 yX2_receiveRation, Cond.instanceMethod yX2_receiveRation, Cond.selects RX2 yX2_receiveRation yX2_receiveRation, Cond.code yX2_receiveRation cX2_receiveRation 2 none]
def wsX6_doneIn_r4 : List Cond := [Cond.methodLink RX2 179 Lib.Math.min.name, Cond.static Lib.Math.min.name, Cond.initialized "java/lang/Math", Cond.code Lib.Math.min.name Lib.Math.min.code 2 (some .int), Cond.methodLink RX2 161 yX0_burn, Cond.instanceMethod yX0_burn, Cond.selects RX0 yX0_burn yX0_burn, Cond.code yX0_burn cX0_burn 2 (some .int), Cond.methodLink RX2 164 yX2_need, Cond.instanceMethod yX2_need, Cond.selects RX2 yX2_need yX2_need, Cond.code yX2_need cX2_need 6 (some .int), Cond.fieldLink RX2 185 "SteamRations$Machine" "kind" "I", Cond.static yX6_steamOf, Cond.initialized RX6, Cond.code yX6_steamOf cX6_steamOf 1 (some .int), Cond.methodLink RX2 93 yX2_allPressure, Cond.instanceMethod yX2_allPressure, Cond.selects RX2 yX2_allPressure yX2_allPressure, Cond.code yX2_allPressure cX2_allPressure 6 (some .int), Cond.fieldLink RX2 87 "SteamRations$Boiler" "pressure" "I", Cond.methodLink RX2 167 yX2_holdLoads, Cond.instanceMethod yX2_holdLoads, Cond.selects RX2 yX2_holdLoads yX2_holdLoads]
def wsX6_doneIn_r5 : List Cond := [Cond.code yX2_holdLoads cX2_holdLoads 5 none, Cond.fieldLink RX2 194 "SteamRations$Machine" "waits" "I", Cond.methodLink RX2 135 yX3_clear, Cond.instanceMethod yX3_clear, Cond.selects RX3 yX3_clear yX3_clear, Cond.code yX3_clear cX3_clear 1 none, Cond.methodLink RX2 170 yX2_takeSteam, Cond.instanceMethod yX2_takeSteam, Cond.selects RX2 yX2_takeSteam yX2_takeSteam, Cond.code yX2_takeSteam cX2_takeSteam 8 none, Cond.methodLink RX2 173 yX2_workLoads, Cond.instanceMethod yX2_workLoads, Cond.selects RX2 yX2_workLoads yX2_workLoads, Cond.code yX2_workLoads cX2_workLoads 5 none, Cond.fieldLink RX2 125 "SteamRations$Machine" "left" "I", Cond.static yX6_worthOf, Cond.code yX6_worthOf cX6_worthOf 1 (some .int), Cond.methodLink RX2 176 yX0_coolDown, Cond.instanceMethod yX0_coolDown, Cond.selects RX0 yX0_coolDown yX0_coolDown, Cond.code yX0_coolDown cX0_coolDown 1 none, Cond.methodLink RX2 146 yX5_kindAt, Cond.instanceMethod yX5_kindAt, Cond.selects RX5 yX5_kindAt yX5_kindAt]
def wsX6_doneIn_r6 : List Cond := [Cond.code yX5_kindAt cX5_kindAt 2 (some .int), Cond.methodLink RX2 117 yX2_reasonAgainst, Cond.instanceMethod yX2_reasonAgainst, Cond.selects RX2 yX2_reasonAgainst yX2_reasonAgainst, Cond.code yX2_reasonAgainst cX2_reasonAgainst 6 (some .int), Cond.methodLink RX2 149 yX2_lowestEmptyMachine, Cond.instanceMethod yX2_lowestEmptyMachine, Cond.selects RX2 yX2_lowestEmptyMachine yX2_lowestEmptyMachine, Cond.code yX2_lowestEmptyMachine cX2_lowestEmptyMachine 5 (some (.object "SteamRations$Machine")), Cond.methodLink RX2 153 yX2_copyFrom, Cond.methodLink RX2 121 yX3_put, Cond.instanceMethod yX3_put, Cond.selects RX3 yX3_put yX3_put, Cond.code yX3_put cX3_put 2 none, Cond.static yX6_ticksOf, Cond.code yX6_ticksOf cX6_ticksOf 1 (some .int), Cond.methodLink RX2 132 yX5_remove, Cond.instanceMethod yX5_remove, Cond.selects RX5 yX5_remove yX5_remove, Cond.code yX5_remove cX5_remove 4 (some .int), Cond.methodLink RX5 19 yX5_kindAt]
def wsX6_doneIn : List Cond := .code yX6_doneIn cX6_doneIn 2 (some .int) :: ((wsX6_doneIn_r1 ++ (wsX6_doneIn_r2 ++ (wsX6_doneIn_r3 ++ (wsX6_doneIn_r4 ++ (wsX6_doneIn_r5 ++ wsX6_doneIn_r6))))) ++ wsX60 ++ wsX20 ++ wsX00 ++ wsX30 ++ wsX50)
def wsX6_lookAhead_r1 : List Cond := [Cond.fieldLink RX6 19 "SteamRations" "ahead" "LSteamRations$Laundry;", Cond.fieldLink RX6 10 "SteamRations" "now" "LSteamRations$Laundry;", Cond.fieldLink RX6 22 "SteamRations" "trial" "LSteamRations$Laundry;", Cond.methodLink RX6 53 yX2_copyFrom, Cond.instanceMethod yX2_copyFrom, Cond.selects RX2 yX2_copyFrom yX2_copyFrom, Cond.initialized RX2, Cond.code yX2_copyFrom cX2_copyFrom 3 none, Cond.fieldLink RX2 12 "SteamRations$Laundry" "boilers" "[LSteamRations$Boiler;", Cond.fieldLink RX2 21 "SteamRations$Laundry" "machines" "[LSteamRations$Machine;", Cond.fieldLink RX2 28 "SteamRations$Laundry" "waiting" "LSteamRations$WaitingLine;", Cond.fieldLink RX2 49 "SteamRations$Laundry" "ticks" "I", Cond.fieldLink RX2 52 "SteamRations$Laundry" "washed" "I", Cond.fieldLink RX2 55 "SteamRations$Laundry" "spoiled" "I", Cond.fieldLink RX2 58 "SteamRations$Laundry" "burnt" "I", Cond.fieldLink RX2 32 "SteamRations$Laundry" "coal" "I", Cond.fieldLink RX2 36 "SteamRations$Laundry" "ration" "I", Cond.fieldLink RX2 61 "SteamRations$Laundry" "rationed" "I", Cond.fieldLink RX2 64 "SteamRations$Laundry" "started" "I", Cond.fieldLink RX2 67 "SteamRations$Laundry" "takenOut" "I", Cond.fieldLink RX2 70 "SteamRations$Laundry" "worth" "I", Cond.fieldLink RX2 73 "SteamRations$Laundry" "ticksOfWaits" "I", Cond.methodLink RX2 39 yX0_copyFrom, Cond.instanceMethod yX0_copyFrom]
def wsX6_lookAhead_r2 : List Cond := [Cond.selects RX0 yX0_copyFrom yX0_copyFrom, Cond.initialized RX0, Cond.code yX0_copyFrom cX0_copyFrom 2 none, Cond.fieldLink RX0 15 "SteamRations$Boiler" "fire" "I", Cond.fieldLink RX0 9 "SteamRations$Boiler" "water" "I", Cond.fieldLink RX0 18 "SteamRations$Boiler" "pressure" "I", Cond.fieldLink RX0 21 "SteamRations$Boiler" "stopLeft" "I", Cond.fieldLink RX0 24 "SteamRations$Boiler" "stops" "I", Cond.methodLink RX2 43 yX3_copyFrom, Cond.instanceMethod yX3_copyFrom, Cond.selects RX3 yX3_copyFrom yX3_copyFrom, Cond.initialized RX3, Cond.code yX3_copyFrom cX3_copyFrom 2 none, Cond.fieldLink RX3 9 "SteamRations$Machine" "kind" "I", Cond.fieldLink RX3 15 "SteamRations$Machine" "left" "I", Cond.fieldLink RX3 18 "SteamRations$Machine" "waits" "I", Cond.methodLink RX2 46 yX5_copyFrom, Cond.instanceMethod yX5_copyFrom, Cond.selects RX5 yX5_copyFrom yX5_copyFrom, Cond.initialized RX5, Cond.code yX5_copyFrom cX5_copyFrom 3 none, Cond.fieldLink RX5 15 "SteamRations$WaitingLine" "length" "I", Cond.fieldLink RX5 9 "SteamRations$WaitingLine" "kinds" "[I", Cond.methodLink RX6 211 yX2_lightFires]
def wsX6_lookAhead_r3 : List Cond := [Cond.instanceMethod yX2_lightFires, Cond.selects RX2 yX2_lightFires yX2_lightFires, Cond.code yX2_lightFires cX2_lightFires 5 none, Cond.fieldLink RX2 107 "SteamRations$Boiler" "fire" "I", Cond.methodLink RX2 96 yX2_boilerAt, Cond.instanceMethod yX2_boilerAt, Cond.selects RX2 yX2_boilerAt yX2_boilerAt, Cond.code yX2_boilerAt cX2_boilerAt 2 (some (.object "SteamRations$Boiler")), Cond.methodLink RX6 168 yX2_passTick, Cond.instanceMethod yX2_passTick, Cond.selects RX2 yX2_passTick yX2_passTick, Cond.code yX2_passTick cX2_passTick 4 none, Cond.methodLink RX2 143 yX2_workTick, Cond.instanceMethod yX2_workTick, Cond.selects RX2 yX2_workTick yX2_workTick, Cond.code yX2_workTick cX2_workTick 7 (some .boolean), Cond.methodLink RX2 158 yX2_receiveRation, Cond.instanceMethod yX2_receiveRation, Cond.selects RX2 yX2_receiveRation yX2_receiveRation, Cond.code yX2_receiveRation cX2_receiveRation 2 none, Cond.methodLink RX2 179 Lib.Math.min.name, Cond.static Lib.Math.min.name, Cond.initialized "java/lang/Math", Cond.code Lib.Math.min.name Lib.Math.min.code 2 (some .int)]
def wsX6_lookAhead_r4 : List Cond := [Cond.methodLink RX2 161 yX0_burn, Cond.instanceMethod yX0_burn, Cond.selects RX0 yX0_burn yX0_burn, Cond.code yX0_burn cX0_burn 2 (some .int), Cond.methodLink RX2 164 yX2_need, Cond.instanceMethod yX2_need, Cond.selects RX2 yX2_need yX2_need, Cond.code yX2_need cX2_need 6 (some .int), Cond.fieldLink RX2 185 "SteamRations$Machine" "kind" "I", Cond.static yX6_steamOf, Cond.initialized RX6, Cond.code yX6_steamOf cX6_steamOf 1 (some .int), Cond.methodLink RX2 93 yX2_allPressure, Cond.instanceMethod yX2_allPressure, Cond.selects RX2 yX2_allPressure yX2_allPressure, Cond.code yX2_allPressure cX2_allPressure 6 (some .int), Cond.fieldLink RX2 87 "SteamRations$Boiler" "pressure" "I", Cond.methodLink RX2 167 yX2_holdLoads, Cond.instanceMethod yX2_holdLoads, Cond.selects RX2 yX2_holdLoads yX2_holdLoads, Cond.code yX2_holdLoads cX2_holdLoads 5 none, Cond.fieldLink RX2 194 "SteamRations$Machine" "waits" "I", Cond.methodLink RX2 76 yX3_isEmpty, Cond.instanceMethod yX3_isEmpty]
def wsX6_lookAhead_r5 : List Cond := [Cond.selects RX3 yX3_isEmpty yX3_isEmpty, Cond.code yX3_isEmpty cX3_isEmpty 1 (some .boolean), Cond.methodLink RX2 135 yX3_clear, Cond.instanceMethod yX3_clear, Cond.selects RX3 yX3_clear yX3_clear, Cond.code yX3_clear cX3_clear 1 none, Cond.methodLink RX2 170 yX2_takeSteam, Cond.instanceMethod yX2_takeSteam, Cond.selects RX2 yX2_takeSteam yX2_takeSteam, Cond.code yX2_takeSteam cX2_takeSteam 8 none, Cond.methodLink RX2 173 yX2_workLoads, Cond.instanceMethod yX2_workLoads, Cond.selects RX2 yX2_workLoads yX2_workLoads, Cond.code yX2_workLoads cX2_workLoads 5 none, Cond.fieldLink RX2 125 "SteamRations$Machine" "left" "I", Cond.static yX6_worthOf, Cond.code yX6_worthOf cX6_worthOf 1 (some .int), Cond.methodLink RX2 176 yX0_coolDown, Cond.instanceMethod yX0_coolDown, Cond.selects RX0 yX0_coolDown yX0_coolDown, Cond.code yX0_coolDown cX0_coolDown 1 none, Cond.methodLink RX2 146 yX5_kindAt, Cond.instanceMethod yX5_kindAt, Cond.selects RX5 yX5_kindAt yX5_kindAt]
def wsX6_lookAhead_r6 : List Cond := [Cond.code yX5_kindAt cX5_kindAt 2 (some .int), Cond.methodLink RX2 117 yX2_reasonAgainst, Cond.instanceMethod yX2_reasonAgainst, Cond.selects RX2 yX2_reasonAgainst yX2_reasonAgainst, Cond.code yX2_reasonAgainst cX2_reasonAgainst 6 (some .int), Cond.methodLink RX2 149 yX2_lowestEmptyMachine, Cond.instanceMethod yX2_lowestEmptyMachine, Cond.selects RX2 yX2_lowestEmptyMachine yX2_lowestEmptyMachine, Cond.code yX2_lowestEmptyMachine cX2_lowestEmptyMachine 5 (some (.object "SteamRations$Machine")), Cond.methodLink RX2 153 yX2_copyFrom, Cond.methodLink RX2 121 yX3_put, Cond.instanceMethod yX3_put, Cond.selects RX3 yX3_put yX3_put, Cond.code yX3_put cX3_put 2 none, Cond.static yX6_ticksOf, Cond.code yX6_ticksOf cX6_ticksOf 1 (some .int), Cond.methodLink RX2 132 yX5_remove, Cond.instanceMethod yX5_remove, Cond.selects RX5 yX5_remove yX5_remove, Cond.code yX5_remove cX5_remove 4 (some .int), Cond.methodLink RX5 19 yX5_kindAt]
def wsX6_lookAhead : List Cond := .code yX6_lookAhead cX6_lookAhead 5 none :: ((wsX6_lookAhead_r1 ++ (wsX6_lookAhead_r2 ++ (wsX6_lookAhead_r3 ++ (wsX6_lookAhead_r4 ++ (wsX6_lookAhead_r5 ++ wsX6_lookAhead_r6))))) ++ wsX60 ++ wsX20 ++ wsX00 ++ wsX30 ++ wsX50)
def wsX6_ifFires_r1 : List Cond := [Cond.fieldLink RX6 19 "SteamRations" "ahead" "LSteamRations$Laundry;", Cond.fieldLink RX6 175 "SteamRations$Laundry" "washed" "I", Cond.fieldLink RX6 10 "SteamRations" "now" "LSteamRations$Laundry;", Cond.fieldLink RX6 178 "SteamRations$Laundry" "spoiled" "I", Cond.fieldLink RX6 181 "SteamRations$Laundry" "burnt" "I", Cond.methodLink RX6 157 yX6_isWithin, Cond.static yX6_isWithin, Cond.initialized RX6, Cond.code yX6_isWithin cX6_isWithin 3 (some .boolean), Cond.methodLink RX6 171 yX6_lookAhead, Cond.instanceMethod yX6_lookAhead, Cond.selects RX6 yX6_lookAhead yX6_lookAhead, Cond.code yX6_lookAhead cX6_lookAhead 5 none, Cond.fieldLink RX6 22 "SteamRations" "trial" "LSteamRations$Laundry;", Cond.methodLink RX6 53 yX2_copyFrom, Cond.instanceMethod yX2_copyFrom, Cond.selects RX2 yX2_copyFrom yX2_copyFrom, Cond.initialized RX2, Cond.code yX2_copyFrom cX2_copyFrom 3 none, Cond.fieldLink RX2 12 "SteamRations$Laundry" "boilers" "[LSteamRations$Boiler;", Cond.fieldLink RX2 21 "SteamRations$Laundry" "machines" "[LSteamRations$Machine;", Cond.fieldLink RX2 28 "SteamRations$Laundry" "waiting" "LSteamRations$WaitingLine;", Cond.fieldLink RX2 49 "SteamRations$Laundry" "ticks" "I", Cond.fieldLink RX2 52 "SteamRations$Laundry" "washed" "I"]
def wsX6_ifFires_r2 : List Cond := [Cond.fieldLink RX2 55 "SteamRations$Laundry" "spoiled" "I", Cond.fieldLink RX2 58 "SteamRations$Laundry" "burnt" "I", Cond.fieldLink RX2 32 "SteamRations$Laundry" "coal" "I", Cond.fieldLink RX2 36 "SteamRations$Laundry" "ration" "I", Cond.fieldLink RX2 61 "SteamRations$Laundry" "rationed" "I", Cond.fieldLink RX2 64 "SteamRations$Laundry" "started" "I", Cond.fieldLink RX2 67 "SteamRations$Laundry" "takenOut" "I", Cond.fieldLink RX2 70 "SteamRations$Laundry" "worth" "I", Cond.fieldLink RX2 73 "SteamRations$Laundry" "ticksOfWaits" "I", Cond.methodLink RX2 39 yX0_copyFrom, Cond.instanceMethod yX0_copyFrom, Cond.selects RX0 yX0_copyFrom yX0_copyFrom, Cond.initialized RX0, Cond.code yX0_copyFrom cX0_copyFrom 2 none, Cond.fieldLink RX0 15 "SteamRations$Boiler" "fire" "I", Cond.fieldLink RX0 9 "SteamRations$Boiler" "water" "I", Cond.fieldLink RX0 18 "SteamRations$Boiler" "pressure" "I", Cond.fieldLink RX0 21 "SteamRations$Boiler" "stopLeft" "I", Cond.fieldLink RX0 24 "SteamRations$Boiler" "stops" "I", Cond.methodLink RX2 43 yX3_copyFrom, Cond.instanceMethod yX3_copyFrom, Cond.selects RX3 yX3_copyFrom yX3_copyFrom, Cond.initialized RX3, Cond.code yX3_copyFrom cX3_copyFrom 2 none]
def wsX6_ifFires_r3 : List Cond := [Cond.fieldLink RX3 9 "SteamRations$Machine" "kind" "I", Cond.fieldLink RX3 15 "SteamRations$Machine" "left" "I", Cond.fieldLink RX3 18 "SteamRations$Machine" "waits" "I", Cond.methodLink RX2 46 yX5_copyFrom, Cond.instanceMethod yX5_copyFrom, Cond.selects RX5 yX5_copyFrom yX5_copyFrom, Cond.initialized RX5, Cond.code yX5_copyFrom cX5_copyFrom 3 none, Cond.fieldLink RX5 15 "SteamRations$WaitingLine" "length" "I", Cond.fieldLink RX5 9 "SteamRations$WaitingLine" "kinds" "[I", Cond.methodLink RX6 211 yX2_lightFires, Cond.instanceMethod yX2_lightFires, Cond.selects RX2 yX2_lightFires yX2_lightFires, Cond.code yX2_lightFires cX2_lightFires 5 none, Cond.fieldLink RX2 107 "SteamRations$Boiler" "fire" "I", Cond.methodLink RX2 96 yX2_boilerAt, Cond.instanceMethod yX2_boilerAt, Cond.selects RX2 yX2_boilerAt yX2_boilerAt, Cond.code yX2_boilerAt cX2_boilerAt 2 (some (.object "SteamRations$Boiler")), Cond.methodLink RX6 168 yX2_passTick, Cond.instanceMethod yX2_passTick, Cond.selects RX2 yX2_passTick yX2_passTick, Cond.code yX2_passTick cX2_passTick 4 none, Cond.methodLink RX2 143 yX2_workTick]
def wsX6_ifFires_r4 : List Cond := [Cond.instanceMethod yX2_workTick, Cond.selects RX2 yX2_workTick yX2_workTick, Cond.code yX2_workTick cX2_workTick 7 (some .boolean), Cond.methodLink RX2 158 yX2_receiveRation, Cond.instanceMethod yX2_receiveRation, Cond.selects RX2 yX2_receiveRation yX2_receiveRation, Cond.code yX2_receiveRation cX2_receiveRation 2 none, Cond.methodLink RX2 179 Lib.Math.min.name, Cond.static Lib.Math.min.name, Cond.initialized "java/lang/Math", Cond.code Lib.Math.min.name Lib.Math.min.code 2 (some .int), Cond.methodLink RX2 161 yX0_burn, Cond.instanceMethod yX0_burn, Cond.selects RX0 yX0_burn yX0_burn, Cond.code yX0_burn cX0_burn 2 (some .int), Cond.methodLink RX2 164 yX2_need, Cond.instanceMethod yX2_need, Cond.selects RX2 yX2_need yX2_need, Cond.code yX2_need cX2_need 6 (some .int), Cond.fieldLink RX2 185 "SteamRations$Machine" "kind" "I", Cond.static yX6_steamOf, Cond.code yX6_steamOf cX6_steamOf 1 (some .int), Cond.methodLink RX2 93 yX2_allPressure, Cond.instanceMethod yX2_allPressure]
def wsX6_ifFires_r5 : List Cond := [Cond.selects RX2 yX2_allPressure yX2_allPressure, Cond.code yX2_allPressure cX2_allPressure 6 (some .int), Cond.fieldLink RX2 87 "SteamRations$Boiler" "pressure" "I", Cond.methodLink RX2 167 yX2_holdLoads, Cond.instanceMethod yX2_holdLoads, Cond.selects RX2 yX2_holdLoads yX2_holdLoads, Cond.code yX2_holdLoads cX2_holdLoads 5 none, Cond.fieldLink RX2 194 "SteamRations$Machine" "waits" "I", Cond.methodLink RX2 76 yX3_isEmpty, Cond.instanceMethod yX3_isEmpty, Cond.selects RX3 yX3_isEmpty yX3_isEmpty, Cond.code yX3_isEmpty cX3_isEmpty 1 (some .boolean), Cond.methodLink RX2 135 yX3_clear, Cond.instanceMethod yX3_clear, Cond.selects RX3 yX3_clear yX3_clear, Cond.code yX3_clear cX3_clear 1 none, Cond.methodLink RX2 170 yX2_takeSteam, Cond.instanceMethod yX2_takeSteam, Cond.selects RX2 yX2_takeSteam yX2_takeSteam, Cond.code yX2_takeSteam cX2_takeSteam 8 none, Cond.methodLink RX2 173 yX2_workLoads, Cond.instanceMethod yX2_workLoads, Cond.selects RX2 yX2_workLoads yX2_workLoads, Cond.code yX2_workLoads cX2_workLoads 5 none]
def wsX6_ifFires_r6 : List Cond := [Cond.fieldLink RX2 125 "SteamRations$Machine" "left" "I", Cond.static yX6_worthOf, Cond.code yX6_worthOf cX6_worthOf 1 (some .int), Cond.methodLink RX2 176 yX0_coolDown, Cond.instanceMethod yX0_coolDown, Cond.selects RX0 yX0_coolDown yX0_coolDown, Cond.code yX0_coolDown cX0_coolDown 1 none, Cond.methodLink RX2 146 yX5_kindAt, Cond.instanceMethod yX5_kindAt, Cond.selects RX5 yX5_kindAt yX5_kindAt, Cond.code yX5_kindAt cX5_kindAt 2 (some .int), Cond.methodLink RX2 117 yX2_reasonAgainst, Cond.instanceMethod yX2_reasonAgainst, Cond.selects RX2 yX2_reasonAgainst yX2_reasonAgainst, Cond.code yX2_reasonAgainst cX2_reasonAgainst 6 (some .int), Cond.methodLink RX2 149 yX2_lowestEmptyMachine, Cond.instanceMethod yX2_lowestEmptyMachine, Cond.selects RX2 yX2_lowestEmptyMachine yX2_lowestEmptyMachine, Cond.code yX2_lowestEmptyMachine cX2_lowestEmptyMachine 5 (some (.object "SteamRations$Machine")), Cond.methodLink RX2 153 yX2_copyFrom, Cond.methodLink RX2 121 yX3_put, Cond.instanceMethod yX3_put, Cond.selects RX3 yX3_put yX3_put, Cond.code yX3_put cX3_put 2 none]
def wsX6_ifFires_r7 : List Cond := [Cond.static yX6_ticksOf, Cond.code yX6_ticksOf cX6_ticksOf 1 (some .int), Cond.methodLink RX2 132 yX5_remove, Cond.instanceMethod yX5_remove, Cond.selects RX5 yX5_remove yX5_remove, Cond.code yX5_remove cX5_remove 4 (some .int), Cond.methodLink RX5 19 yX5_kindAt, Cond.methodLink RX6 184 yX2_safetyStops, Cond.instanceMethod yX2_safetyStops, Cond.selects RX2 yX2_safetyStops yX2_safetyStops, Cond.code yX2_safetyStops cX2_safetyStops 6 (some .int), Cond.fieldLink RX2 90 "SteamRations$Boiler" "stops" "I"]
def wsX6_ifFires : List Cond := .code yX6_ifFires cX6_ifFires 5 (some .int) :: ((wsX6_ifFires_r1 ++ (wsX6_ifFires_r2 ++ (wsX6_ifFires_r3 ++ (wsX6_ifFires_r4 ++ (wsX6_ifFires_r5 ++ (wsX6_ifFires_r6 ++ wsX6_ifFires_r7)))))) ++ wsX60 ++ wsX20 ++ wsX00 ++ wsX30 ++ wsX50)
def wsX6_bestFires_r1 : List Cond := [Cond.fieldLink RX6 19 "SteamRations" "ahead" "LSteamRations$Laundry;", Cond.fieldLink RX6 175 "SteamRations$Laundry" "washed" "I", Cond.fieldLink RX6 181 "SteamRations$Laundry" "burnt" "I", Cond.methodLink RX6 157 yX6_isWithin, Cond.static yX6_isWithin, Cond.initialized RX6, Cond.code yX6_isWithin cX6_isWithin 3 (some .boolean), Cond.methodLink RX6 171 yX6_lookAhead, Cond.instanceMethod yX6_lookAhead, Cond.selects RX6 yX6_lookAhead yX6_lookAhead, Cond.code yX6_lookAhead cX6_lookAhead 5 none, Cond.fieldLink RX6 10 "SteamRations" "now" "LSteamRations$Laundry;", Cond.fieldLink RX6 22 "SteamRations" "trial" "LSteamRations$Laundry;", Cond.methodLink RX6 53 yX2_copyFrom, Cond.instanceMethod yX2_copyFrom, Cond.selects RX2 yX2_copyFrom yX2_copyFrom, Cond.initialized RX2, Cond.code yX2_copyFrom cX2_copyFrom 3 none, Cond.fieldLink RX2 12 "SteamRations$Laundry" "boilers" "[LSteamRations$Boiler;", Cond.fieldLink RX2 21 "SteamRations$Laundry" "machines" "[LSteamRations$Machine;", Cond.fieldLink RX2 28 "SteamRations$Laundry" "waiting" "LSteamRations$WaitingLine;", Cond.fieldLink RX2 49 "SteamRations$Laundry" "ticks" "I", Cond.fieldLink RX2 52 "SteamRations$Laundry" "washed" "I", Cond.fieldLink RX2 55 "SteamRations$Laundry" "spoiled" "I"]
def wsX6_bestFires_r2 : List Cond := [Cond.fieldLink RX2 58 "SteamRations$Laundry" "burnt" "I", Cond.fieldLink RX2 32 "SteamRations$Laundry" "coal" "I", Cond.fieldLink RX2 36 "SteamRations$Laundry" "ration" "I", Cond.fieldLink RX2 61 "SteamRations$Laundry" "rationed" "I", Cond.fieldLink RX2 64 "SteamRations$Laundry" "started" "I", Cond.fieldLink RX2 67 "SteamRations$Laundry" "takenOut" "I", Cond.fieldLink RX2 70 "SteamRations$Laundry" "worth" "I", Cond.fieldLink RX2 73 "SteamRations$Laundry" "ticksOfWaits" "I", Cond.methodLink RX2 39 yX0_copyFrom, Cond.instanceMethod yX0_copyFrom, Cond.selects RX0 yX0_copyFrom yX0_copyFrom, Cond.initialized RX0, Cond.code yX0_copyFrom cX0_copyFrom 2 none, Cond.fieldLink RX0 15 "SteamRations$Boiler" "fire" "I", Cond.fieldLink RX0 9 "SteamRations$Boiler" "water" "I", Cond.fieldLink RX0 18 "SteamRations$Boiler" "pressure" "I", Cond.fieldLink RX0 21 "SteamRations$Boiler" "stopLeft" "I", Cond.fieldLink RX0 24 "SteamRations$Boiler" "stops" "I", Cond.methodLink RX2 43 yX3_copyFrom, Cond.instanceMethod yX3_copyFrom, Cond.selects RX3 yX3_copyFrom yX3_copyFrom, Cond.initialized RX3, Cond.code yX3_copyFrom cX3_copyFrom 2 none, Cond.fieldLink RX3 9 "SteamRations$Machine" "kind" "I"]
def wsX6_bestFires_r3 : List Cond := [Cond.fieldLink RX3 15 "SteamRations$Machine" "left" "I", Cond.fieldLink RX3 18 "SteamRations$Machine" "waits" "I", Cond.methodLink RX2 46 yX5_copyFrom, Cond.instanceMethod yX5_copyFrom, Cond.selects RX5 yX5_copyFrom yX5_copyFrom, Cond.initialized RX5, Cond.code yX5_copyFrom cX5_copyFrom 3 none, Cond.fieldLink RX5 15 "SteamRations$WaitingLine" "length" "I", Cond.fieldLink RX5 9 "SteamRations$WaitingLine" "kinds" "[I", Cond.methodLink RX6 211 yX2_lightFires, Cond.instanceMethod yX2_lightFires, Cond.selects RX2 yX2_lightFires yX2_lightFires, Cond.code yX2_lightFires cX2_lightFires 5 none, Cond.fieldLink RX2 107 "SteamRations$Boiler" "fire" "I", Cond.methodLink RX2 96 yX2_boilerAt, Cond.instanceMethod yX2_boilerAt, Cond.selects RX2 yX2_boilerAt yX2_boilerAt, Cond.code yX2_boilerAt cX2_boilerAt 2 (some (.object "SteamRations$Boiler")), Cond.methodLink RX6 168 yX2_passTick, Cond.instanceMethod yX2_passTick, Cond.selects RX2 yX2_passTick yX2_passTick, Cond.code yX2_passTick cX2_passTick 4 none, Cond.methodLink RX2 143 yX2_workTick, Cond.instanceMethod yX2_workTick]
def wsX6_bestFires_r4 : List Cond := [Cond.selects RX2 yX2_workTick yX2_workTick, Cond.code yX2_workTick cX2_workTick 7 (some .boolean), Cond.methodLink RX2 158 yX2_receiveRation, Cond.instanceMethod yX2_receiveRation, Cond.selects RX2 yX2_receiveRation yX2_receiveRation, Cond.code yX2_receiveRation cX2_receiveRation 2 none, Cond.methodLink RX2 179 Lib.Math.min.name, Cond.static Lib.Math.min.name, Cond.initialized "java/lang/Math", Cond.code Lib.Math.min.name Lib.Math.min.code 2 (some .int), Cond.methodLink RX2 161 yX0_burn, Cond.instanceMethod yX0_burn, Cond.selects RX0 yX0_burn yX0_burn, Cond.code yX0_burn cX0_burn 2 (some .int), Cond.methodLink RX2 164 yX2_need, Cond.instanceMethod yX2_need, Cond.selects RX2 yX2_need yX2_need, Cond.code yX2_need cX2_need 6 (some .int), Cond.fieldLink RX2 185 "SteamRations$Machine" "kind" "I", Cond.static yX6_steamOf, Cond.code yX6_steamOf cX6_steamOf 1 (some .int), Cond.methodLink RX2 93 yX2_allPressure, Cond.instanceMethod yX2_allPressure, Cond.selects RX2 yX2_allPressure yX2_allPressure]
def wsX6_bestFires_r5 : List Cond := [Cond.code yX2_allPressure cX2_allPressure 6 (some .int), Cond.fieldLink RX2 87 "SteamRations$Boiler" "pressure" "I", Cond.methodLink RX2 167 yX2_holdLoads, Cond.instanceMethod yX2_holdLoads, Cond.selects RX2 yX2_holdLoads yX2_holdLoads, Cond.code yX2_holdLoads cX2_holdLoads 5 none, Cond.fieldLink RX2 194 "SteamRations$Machine" "waits" "I", Cond.methodLink RX2 76 yX3_isEmpty, Cond.instanceMethod yX3_isEmpty, Cond.selects RX3 yX3_isEmpty yX3_isEmpty, Cond.code yX3_isEmpty cX3_isEmpty 1 (some .boolean), Cond.methodLink RX2 135 yX3_clear, Cond.instanceMethod yX3_clear, Cond.selects RX3 yX3_clear yX3_clear, Cond.code yX3_clear cX3_clear 1 none, Cond.methodLink RX2 170 yX2_takeSteam, Cond.instanceMethod yX2_takeSteam, Cond.selects RX2 yX2_takeSteam yX2_takeSteam, Cond.code yX2_takeSteam cX2_takeSteam 8 none, Cond.methodLink RX2 173 yX2_workLoads, Cond.instanceMethod yX2_workLoads, Cond.selects RX2 yX2_workLoads yX2_workLoads, Cond.code yX2_workLoads cX2_workLoads 5 none, Cond.fieldLink RX2 125 "SteamRations$Machine" "left" "I"]
def wsX6_bestFires_r6 : List Cond := [Cond.static yX6_worthOf, Cond.code yX6_worthOf cX6_worthOf 1 (some .int), Cond.methodLink RX2 176 yX0_coolDown, Cond.instanceMethod yX0_coolDown, Cond.selects RX0 yX0_coolDown yX0_coolDown, Cond.code yX0_coolDown cX0_coolDown 1 none, Cond.methodLink RX2 146 yX5_kindAt, Cond.instanceMethod yX5_kindAt, Cond.selects RX5 yX5_kindAt yX5_kindAt, Cond.code yX5_kindAt cX5_kindAt 2 (some .int), Cond.methodLink RX2 117 yX2_reasonAgainst, Cond.instanceMethod yX2_reasonAgainst, Cond.selects RX2 yX2_reasonAgainst yX2_reasonAgainst, Cond.code yX2_reasonAgainst cX2_reasonAgainst 6 (some .int), Cond.methodLink RX2 149 yX2_lowestEmptyMachine, Cond.instanceMethod yX2_lowestEmptyMachine, Cond.selects RX2 yX2_lowestEmptyMachine yX2_lowestEmptyMachine, Cond.code yX2_lowestEmptyMachine cX2_lowestEmptyMachine 5 (some (.object "SteamRations$Machine")), Cond.methodLink RX2 153 yX2_copyFrom, Cond.methodLink RX2 121 yX3_put, Cond.instanceMethod yX3_put, Cond.selects RX3 yX3_put yX3_put, Cond.code yX3_put cX3_put 2 none, Cond.static yX6_ticksOf]
def wsX6_bestFires_r7 : List Cond := [Cond.code yX6_ticksOf cX6_ticksOf 1 (some .int), Cond.methodLink RX2 132 yX5_remove, Cond.instanceMethod yX5_remove, Cond.selects RX5 yX5_remove yX5_remove, Cond.code yX5_remove cX5_remove 4 (some .int), Cond.methodLink RX5 19 yX5_kindAt]
def wsX6_bestFires : List Cond := .code yX6_bestFires cX6_bestFires 8 (some .int) :: ((wsX6_bestFires_r1 ++ (wsX6_bestFires_r2 ++ (wsX6_bestFires_r3 ++ (wsX6_bestFires_r4 ++ (wsX6_bestFires_r5 ++ (wsX6_bestFires_r6 ++ wsX6_bestFires_r7)))))) ++ wsX60 ++ wsX20 ++ wsX00 ++ wsX30 ++ wsX50)
def wsX6_count_r1 : List Cond := [Cond.fieldLink RX6 31 "SteamRations" "history" "LSteamRations$History;", Cond.fieldLink RX6 187 "SteamRations$History" "size" "I", Cond.fieldLink RX6 38 "SteamRations" "text" "LSteamRations$OrderText;", Cond.fieldLink RX6 190 "SteamRations$OrderText" "length" "I", Cond.fieldLink RX6 10 "SteamRations" "now" "LSteamRations$Laundry;", Cond.methodLink RX6 193 yX2_account, Cond.instanceMethod yX2_account, Cond.selects RX2 yX2_account yX2_account, Cond.initialized RX2, Cond.code yX2_account cX2_account 2 (some .int), Cond.fieldLink RX2 49 "SteamRations$Laundry" "ticks" "I", Cond.fieldLink RX2 32 "SteamRations$Laundry" "coal" "I", Cond.fieldLink RX2 58 "SteamRations$Laundry" "burnt" "I", Cond.fieldLink RX2 61 "SteamRations$Laundry" "rationed" "I", Cond.fieldLink RX2 36 "SteamRations$Laundry" "ration" "I", Cond.fieldLink RX2 28 "SteamRations$Laundry" "waiting" "LSteamRations$WaitingLine;", Cond.fieldLink RX2 80 "SteamRations$WaitingLine" "length" "I", Cond.fieldLink RX2 64 "SteamRations$Laundry" "started" "I", Cond.fieldLink RX2 52 "SteamRations$Laundry" "washed" "I", Cond.fieldLink RX2 55 "SteamRations$Laundry" "spoiled" "I", Cond.fieldLink RX2 67 "SteamRations$Laundry" "takenOut" "I", Cond.fieldLink RX2 70 "SteamRations$Laundry" "worth" "I", Cond.fieldLink RX2 73 "SteamRations$Laundry" "ticksOfWaits" "I", Cond.methodLink RX2 83 yX2_loadsInMachines]
def wsX6_count_r2 : List Cond := [Cond.instanceMethod yX2_loadsInMachines, Cond.selects RX2 yX2_loadsInMachines yX2_loadsInMachines, Cond.code yX2_loadsInMachines cX2_loadsInMachines 6 (some .int), Cond.fieldLink RX2 21 "SteamRations$Laundry" "machines" "[LSteamRations$Machine;", Cond.methodLink RX2 76 yX3_isEmpty, Cond.instanceMethod yX3_isEmpty, Cond.selects RX3 yX3_isEmpty yX3_isEmpty, Cond.initialized RX3, Cond.code yX3_isEmpty cX3_isEmpty 1 (some .boolean), Cond.fieldLink RX3 9 "SteamRations$Machine" "kind" "I", Cond.methodLink RX2 93 yX2_allPressure, Cond.instanceMethod yX2_allPressure, Cond.selects RX2 yX2_allPressure yX2_allPressure, Cond.code yX2_allPressure cX2_allPressure 6 (some .int), Cond.fieldLink RX2 12 "SteamRations$Laundry" "boilers" "[LSteamRations$Boiler;", Cond.fieldLink RX2 87 "SteamRations$Boiler" "pressure" "I"]
def wsX6_count : List Cond := .code yX6_count cX6_count 2 (some .int) :: ((wsX6_count_r1 ++ wsX6_count_r2) ++ wsX60 ++ wsX10 ++ wsX40 ++ wsX20 ++ wsX50 ++ wsX30 ++ wsX00)
def wsX7_init : List Cond := .code yX7_init cX7_init 2 none :: ([.methodLink RX7 1 objectInit, .instanceMethod objectInit, .code objectInit ⟨#[0xb1]⟩ 1 none, .arrayClass .int, .fieldLink RX7 7 "SteamRationsModel" "s" "[I", .arrayClass .char, .fieldLink RX7 13 "SteamRationsModel" "text" "[C", .fieldLink RX7 17 "SteamRationsModel" "command" "[I", .fieldLink RX7 20 "SteamRationsModel" "stoppedAt" "I"] ++ wsX70)
def wsX7_in : List Cond := .code yX7_in cX7_in 3 (some .boolean) :: ([])
def wsX7_ticksOf : List Cond := .code yX7_ticksOf cX7_ticksOf 1 (some .int) :: ([])
def wsX7_worthOf : List Cond := .code yX7_worthOf cX7_worthOf 1 (some .int) :: ([])
def wsX7_copies : List Cond := .code yX7_copies cX7_copies 4 none :: ([.fieldLink RX7 7 "SteamRationsModel" "s" "[I"] ++ wsX70)
def wsX7_records : List Cond := .code yX7_records cX7_records 2 none :: ([.fieldLink RX7 24 "SteamRationsModel" "states" "I", .methodLink RX7 27 yX7_copies, .instanceMethod yX7_copies, .selects RX7 yX7_copies yX7_copies, .initialized RX7, .code yX7_copies cX7_copies 4 none, .fieldLink RX7 7 "SteamRationsModel" "s" "[I"] ++ wsX70)
def wsX7_fires : List Cond := .code yX7_fires cX7_fires 4 none :: ([.fieldLink RX7 7 "SteamRationsModel" "s" "[I"] ++ wsX70)
def wsX7_need : List Cond := .code yX7_need cX7_need 4 (some .int) :: ([.fieldLink RX7 7 "SteamRationsModel" "s" "[I"] ++ wsX70)
def wsX7_pressure : List Cond := .code yX7_pressure cX7_pressure 2 (some .int) :: ([.fieldLink RX7 7 "SteamRationsModel" "s" "[I"] ++ wsX70)
def wsX7_empties : List Cond := .code yX7_empties cX7_empties 3 none :: ([.fieldLink RX7 7 "SteamRationsModel" "s" "[I"] ++ wsX70)
def wsX7_washes : List Cond := .code yX7_washes cX7_washes 4 none :: ([.fieldLink RX7 7 "SteamRationsModel" "s" "[I", .methodLink RX7 31 yX7_worthOf, .static yX7_worthOf, .initialized RX7, .code yX7_worthOf cX7_worthOf 1 (some .int), .methodLink RX7 35 yX7_empties, .instanceMethod yX7_empties, .selects RX7 yX7_empties yX7_empties, .code yX7_empties cX7_empties 3 none] ++ wsX70)
def wsX7_waits : List Cond := .code yX7_waits cX7_waits 3 none :: ([.fieldLink RX7 7 "SteamRationsModel" "s" "[I", .methodLink RX7 35 yX7_empties, .instanceMethod yX7_empties, .selects RX7 yX7_empties yX7_empties, .initialized RX7, .code yX7_empties cX7_empties 3 none] ++ wsX70)
def wsX7_works_r1 : List Cond := [Cond.fieldLink RX7 7 "SteamRationsModel" "s" "[I", Cond.methodLink RX7 38 yX7_need, Cond.instanceMethod yX7_need, Cond.selects RX7 yX7_need yX7_need, Cond.initialized RX7, Cond.code yX7_need cX7_need 4 (some .int), Cond.methodLink RX7 41 yX7_pressure, Cond.instanceMethod yX7_pressure, Cond.selects RX7 yX7_pressure yX7_pressure, Cond.code yX7_pressure cX7_pressure 2 (some .int), Cond.methodLink RX7 44 yX7_waits, Cond.instanceMethod yX7_waits, Cond.selects RX7 yX7_waits yX7_waits, Cond.code yX7_waits cX7_waits 3 none, Cond.methodLink RX7 35 yX7_empties, Cond.instanceMethod yX7_empties, Cond.selects RX7 yX7_empties yX7_empties, Cond.code yX7_empties cX7_empties 3 none, Cond.methodLink RX7 48 yX7_washes, Cond.instanceMethod yX7_washes, Cond.selects RX7 yX7_washes yX7_washes, Cond.code yX7_washes cX7_washes 4 none, Cond.methodLink RX7 31 yX7_worthOf, Cond.static yX7_worthOf]
def wsX7_works_r2 : List Cond := [Cond.code yX7_worthOf cX7_worthOf 1 (some .int)]
def wsX7_works : List Cond := .code yX7_works cX7_works 5 none :: ((wsX7_works_r1 ++ wsX7_works_r2) ++ wsX70)
def wsX7_lowestEmpty : List Cond := .code yX7_lowestEmpty cX7_lowestEmpty 4 (some .int) :: ([.fieldLink RX7 7 "SteamRationsModel" "s" "[I"] ++ wsX70)
def wsX7_puts : List Cond := .code yX7_puts cX7_puts 4 none :: ([.fieldLink RX7 7 "SteamRationsModel" "s" "[I", .methodLink RX7 51 yX7_ticksOf, .static yX7_ticksOf, .initialized RX7, .code yX7_ticksOf cX7_ticksOf 1 (some .int)] ++ wsX70)
def wsX7_passes_r1 : List Cond := [Cond.fieldLink RX7 7 "SteamRationsModel" "s" "[I", Cond.methodLink RX7 54 yX7_fires, Cond.instanceMethod yX7_fires, Cond.selects RX7 yX7_fires yX7_fires, Cond.initialized RX7, Cond.code yX7_fires cX7_fires 4 none, Cond.methodLink RX7 57 yX7_works, Cond.instanceMethod yX7_works, Cond.selects RX7 yX7_works yX7_works, Cond.code yX7_works cX7_works 5 none, Cond.methodLink RX7 38 yX7_need, Cond.instanceMethod yX7_need, Cond.selects RX7 yX7_need yX7_need, Cond.code yX7_need cX7_need 4 (some .int), Cond.methodLink RX7 41 yX7_pressure, Cond.instanceMethod yX7_pressure, Cond.selects RX7 yX7_pressure yX7_pressure, Cond.code yX7_pressure cX7_pressure 2 (some .int), Cond.methodLink RX7 44 yX7_waits, Cond.instanceMethod yX7_waits, Cond.selects RX7 yX7_waits yX7_waits, Cond.code yX7_waits cX7_waits 3 none, Cond.methodLink RX7 35 yX7_empties, Cond.instanceMethod yX7_empties]
def wsX7_passes_r2 : List Cond := [Cond.selects RX7 yX7_empties yX7_empties, Cond.code yX7_empties cX7_empties 3 none, Cond.methodLink RX7 48 yX7_washes, Cond.instanceMethod yX7_washes, Cond.selects RX7 yX7_washes yX7_washes, Cond.code yX7_washes cX7_washes 4 none, Cond.methodLink RX7 31 yX7_worthOf, Cond.static yX7_worthOf, Cond.code yX7_worthOf cX7_worthOf 1 (some .int)]
def wsX7_passes : List Cond := .code yX7_passes cX7_passes 4 none :: ((wsX7_passes_r1 ++ wsX7_passes_r2) ++ wsX70)
def wsX7_why_r1 : List Cond := [Cond.fieldLink RX7 7 "SteamRationsModel" "s" "[I", Cond.methodLink RX7 41 yX7_pressure, Cond.instanceMethod yX7_pressure, Cond.selects RX7 yX7_pressure yX7_pressure, Cond.initialized RX7, Cond.code yX7_pressure cX7_pressure 2 (some .int), Cond.methodLink RX7 27 yX7_copies, Cond.instanceMethod yX7_copies, Cond.selects RX7 yX7_copies yX7_copies, Cond.code yX7_copies cX7_copies 4 none, Cond.methodLink RX7 60 yX7_puts, Cond.instanceMethod yX7_puts, Cond.selects RX7 yX7_puts yX7_puts, Cond.code yX7_puts cX7_puts 4 none, Cond.methodLink RX7 51 yX7_ticksOf, Cond.static yX7_ticksOf, Cond.code yX7_ticksOf cX7_ticksOf 1 (some .int), Cond.methodLink RX7 64 yX7_passes, Cond.instanceMethod yX7_passes, Cond.selects RX7 yX7_passes yX7_passes, Cond.code yX7_passes cX7_passes 4 none, Cond.methodLink RX7 54 yX7_fires, Cond.instanceMethod yX7_fires, Cond.selects RX7 yX7_fires yX7_fires]
def wsX7_why_r2 : List Cond := [Cond.code yX7_fires cX7_fires 4 none, Cond.methodLink RX7 57 yX7_works, Cond.instanceMethod yX7_works, Cond.selects RX7 yX7_works yX7_works, Cond.code yX7_works cX7_works 5 none, Cond.methodLink RX7 38 yX7_need, Cond.instanceMethod yX7_need, Cond.selects RX7 yX7_need yX7_need, Cond.code yX7_need cX7_need 4 (some .int), Cond.methodLink RX7 44 yX7_waits, Cond.instanceMethod yX7_waits, Cond.selects RX7 yX7_waits yX7_waits, Cond.code yX7_waits cX7_waits 3 none, Cond.methodLink RX7 35 yX7_empties, Cond.instanceMethod yX7_empties, Cond.selects RX7 yX7_empties yX7_empties, Cond.code yX7_empties cX7_empties 3 none, Cond.methodLink RX7 48 yX7_washes, Cond.instanceMethod yX7_washes, Cond.selects RX7 yX7_washes yX7_washes, Cond.code yX7_washes cX7_washes 4 none, Cond.methodLink RX7 31 yX7_worthOf, Cond.static yX7_worthOf, Cond.code yX7_worthOf cX7_worthOf 1 (some .int)]
def wsX7_why : List Cond := .code yX7_why cX7_why 7 (some .int) :: ((wsX7_why_r1 ++ wsX7_why_r2) ++ wsX70)
def wsX7_leaves : List Cond := .code yX7_leaves cX7_leaves 5 (some .int) :: ([.fieldLink RX7 7 "SteamRationsModel" "s" "[I"] ++ wsX70)
def wsX7_ticks_r1 : List Cond := [Cond.fieldLink RX7 7 "SteamRationsModel" "s" "[I", Cond.methodLink RX7 64 yX7_passes, Cond.instanceMethod yX7_passes, Cond.selects RX7 yX7_passes yX7_passes, Cond.initialized RX7, Cond.code yX7_passes cX7_passes 4 none, Cond.methodLink RX7 54 yX7_fires, Cond.instanceMethod yX7_fires, Cond.selects RX7 yX7_fires yX7_fires, Cond.code yX7_fires cX7_fires 4 none, Cond.methodLink RX7 57 yX7_works, Cond.instanceMethod yX7_works, Cond.selects RX7 yX7_works yX7_works, Cond.code yX7_works cX7_works 5 none, Cond.methodLink RX7 38 yX7_need, Cond.instanceMethod yX7_need, Cond.selects RX7 yX7_need yX7_need, Cond.code yX7_need cX7_need 4 (some .int), Cond.methodLink RX7 41 yX7_pressure, Cond.instanceMethod yX7_pressure, Cond.selects RX7 yX7_pressure yX7_pressure, Cond.code yX7_pressure cX7_pressure 2 (some .int), Cond.methodLink RX7 44 yX7_waits, Cond.instanceMethod yX7_waits]
def wsX7_ticks_r2 : List Cond := [Cond.selects RX7 yX7_waits yX7_waits, Cond.code yX7_waits cX7_waits 3 none, Cond.methodLink RX7 35 yX7_empties, Cond.instanceMethod yX7_empties, Cond.selects RX7 yX7_empties yX7_empties, Cond.code yX7_empties cX7_empties 3 none, Cond.methodLink RX7 48 yX7_washes, Cond.instanceMethod yX7_washes, Cond.selects RX7 yX7_washes yX7_washes, Cond.code yX7_washes cX7_washes 4 none, Cond.methodLink RX7 31 yX7_worthOf, Cond.static yX7_worthOf, Cond.code yX7_worthOf cX7_worthOf 1 (some .int), Cond.methodLink RX7 67 yX7_lowestEmpty, Cond.instanceMethod yX7_lowestEmpty, Cond.selects RX7 yX7_lowestEmpty yX7_lowestEmpty, Cond.code yX7_lowestEmpty cX7_lowestEmpty 4 (some .int), Cond.methodLink RX7 70 yX7_why, Cond.instanceMethod yX7_why, Cond.selects RX7 yX7_why yX7_why, Cond.code yX7_why cX7_why 7 (some .int), Cond.methodLink RX7 27 yX7_copies, Cond.instanceMethod yX7_copies, Cond.selects RX7 yX7_copies yX7_copies]
def wsX7_ticks_r3 : List Cond := [Cond.code yX7_copies cX7_copies 4 none, Cond.methodLink RX7 60 yX7_puts, Cond.instanceMethod yX7_puts, Cond.selects RX7 yX7_puts yX7_puts, Cond.code yX7_puts cX7_puts 4 none, Cond.methodLink RX7 51 yX7_ticksOf, Cond.static yX7_ticksOf, Cond.code yX7_ticksOf cX7_ticksOf 1 (some .int), Cond.methodLink RX7 74 yX7_leaves, Cond.instanceMethod yX7_leaves, Cond.selects RX7 yX7_leaves yX7_leaves, Cond.code yX7_leaves cX7_leaves 5 (some .int)]
def wsX7_ticks : List Cond := .code yX7_ticks cX7_ticks 6 none :: ((wsX7_ticks_r1 ++ (wsX7_ticks_r2 ++ wsX7_ticks_r3)) ++ wsX70)
def wsX7_sets : List Cond := .code yX7_sets cX7_sets 6 (some .int) :: ([.fieldLink RX7 7 "SteamRationsModel" "s" "[I", .methodLink RX7 78 yX7_in, .static yX7_in, .initialized RX7, .code yX7_in cX7_in 3 (some .boolean)] ++ wsX70)
def wsX7_fills : List Cond := .code yX7_fills cX7_fills 5 (some .int) :: ([.fieldLink RX7 7 "SteamRationsModel" "s" "[I", .methodLink RX7 78 yX7_in, .static yX7_in, .initialized RX7, .code yX7_in cX7_in 3 (some .boolean)] ++ wsX70)
def wsX7_starts_r1 : List Cond := [Cond.methodLink RX7 78 yX7_in, Cond.static yX7_in, Cond.initialized RX7, Cond.code yX7_in cX7_in 3 (some .boolean), Cond.methodLink RX7 70 yX7_why, Cond.instanceMethod yX7_why, Cond.selects RX7 yX7_why yX7_why, Cond.code yX7_why cX7_why 7 (some .int), Cond.fieldLink RX7 7 "SteamRationsModel" "s" "[I", Cond.methodLink RX7 41 yX7_pressure, Cond.instanceMethod yX7_pressure, Cond.selects RX7 yX7_pressure yX7_pressure, Cond.code yX7_pressure cX7_pressure 2 (some .int), Cond.methodLink RX7 27 yX7_copies, Cond.instanceMethod yX7_copies, Cond.selects RX7 yX7_copies yX7_copies, Cond.code yX7_copies cX7_copies 4 none, Cond.methodLink RX7 60 yX7_puts, Cond.instanceMethod yX7_puts, Cond.selects RX7 yX7_puts yX7_puts, Cond.code yX7_puts cX7_puts 4 none, Cond.methodLink RX7 51 yX7_ticksOf, Cond.static yX7_ticksOf, Cond.code yX7_ticksOf cX7_ticksOf 1 (some .int)]
def wsX7_starts_r2 : List Cond := [Cond.methodLink RX7 64 yX7_passes, Cond.instanceMethod yX7_passes, Cond.selects RX7 yX7_passes yX7_passes, Cond.code yX7_passes cX7_passes 4 none, Cond.methodLink RX7 54 yX7_fires, Cond.instanceMethod yX7_fires, Cond.selects RX7 yX7_fires yX7_fires, Cond.code yX7_fires cX7_fires 4 none, Cond.methodLink RX7 57 yX7_works, Cond.instanceMethod yX7_works, Cond.selects RX7 yX7_works yX7_works, Cond.code yX7_works cX7_works 5 none, Cond.methodLink RX7 38 yX7_need, Cond.instanceMethod yX7_need, Cond.selects RX7 yX7_need yX7_need, Cond.code yX7_need cX7_need 4 (some .int), Cond.methodLink RX7 44 yX7_waits, Cond.instanceMethod yX7_waits, Cond.selects RX7 yX7_waits yX7_waits, Cond.code yX7_waits cX7_waits 3 none, Cond.methodLink RX7 35 yX7_empties, Cond.instanceMethod yX7_empties, Cond.selects RX7 yX7_empties yX7_empties, Cond.code yX7_empties cX7_empties 3 none]
def wsX7_starts_r3 : List Cond := [Cond.methodLink RX7 48 yX7_washes, Cond.instanceMethod yX7_washes, Cond.selects RX7 yX7_washes yX7_washes, Cond.code yX7_washes cX7_washes 4 none, Cond.methodLink RX7 31 yX7_worthOf, Cond.static yX7_worthOf, Cond.code yX7_worthOf cX7_worthOf 1 (some .int)]
def wsX7_starts : List Cond := .code yX7_starts cX7_starts 5 (some .int) :: ((wsX7_starts_r1 ++ (wsX7_starts_r2 ++ wsX7_starts_r3)) ++ wsX70)
def wsX7_queues : List Cond := .code yX7_queues cX7_queues 4 (some .int) :: ([.fieldLink RX7 7 "SteamRationsModel" "s" "[I", .methodLink RX7 78 yX7_in, .static yX7_in, .initialized RX7, .code yX7_in cX7_in 3 (some .boolean)] ++ wsX70)
def wsX7_runs_r1 : List Cond := [Cond.fieldLink RX7 7 "SteamRationsModel" "s" "[I", Cond.constant RX7 82 (99999), Cond.methodLink RX7 78 yX7_in, Cond.static yX7_in, Cond.initialized RX7, Cond.code yX7_in cX7_in 3 (some .boolean), Cond.methodLink RX7 83 yX7_ticks, Cond.instanceMethod yX7_ticks, Cond.selects RX7 yX7_ticks yX7_ticks, Cond.code yX7_ticks cX7_ticks 6 none, Cond.methodLink RX7 64 yX7_passes, Cond.instanceMethod yX7_passes, Cond.selects RX7 yX7_passes yX7_passes, Cond.code yX7_passes cX7_passes 4 none, Cond.methodLink RX7 54 yX7_fires, Cond.instanceMethod yX7_fires, Cond.selects RX7 yX7_fires yX7_fires, Cond.code yX7_fires cX7_fires 4 none, Cond.methodLink RX7 57 yX7_works, Cond.instanceMethod yX7_works, Cond.selects RX7 yX7_works yX7_works, Cond.code yX7_works cX7_works 5 none, Cond.methodLink RX7 38 yX7_need, Cond.instanceMethod yX7_need]
def wsX7_runs_r2 : List Cond := [Cond.selects RX7 yX7_need yX7_need, Cond.code yX7_need cX7_need 4 (some .int), Cond.methodLink RX7 41 yX7_pressure, Cond.instanceMethod yX7_pressure, Cond.selects RX7 yX7_pressure yX7_pressure, Cond.code yX7_pressure cX7_pressure 2 (some .int), Cond.methodLink RX7 44 yX7_waits, Cond.instanceMethod yX7_waits, Cond.selects RX7 yX7_waits yX7_waits, Cond.code yX7_waits cX7_waits 3 none, Cond.methodLink RX7 35 yX7_empties, Cond.instanceMethod yX7_empties, Cond.selects RX7 yX7_empties yX7_empties, Cond.code yX7_empties cX7_empties 3 none, Cond.methodLink RX7 48 yX7_washes, Cond.instanceMethod yX7_washes, Cond.selects RX7 yX7_washes yX7_washes, Cond.code yX7_washes cX7_washes 4 none, Cond.methodLink RX7 31 yX7_worthOf, Cond.static yX7_worthOf, Cond.code yX7_worthOf cX7_worthOf 1 (some .int), Cond.methodLink RX7 67 yX7_lowestEmpty, Cond.instanceMethod yX7_lowestEmpty, Cond.selects RX7 yX7_lowestEmpty yX7_lowestEmpty]
def wsX7_runs_r3 : List Cond := [Cond.code yX7_lowestEmpty cX7_lowestEmpty 4 (some .int), Cond.methodLink RX7 70 yX7_why, Cond.instanceMethod yX7_why, Cond.selects RX7 yX7_why yX7_why, Cond.code yX7_why cX7_why 7 (some .int), Cond.methodLink RX7 27 yX7_copies, Cond.instanceMethod yX7_copies, Cond.selects RX7 yX7_copies yX7_copies, Cond.code yX7_copies cX7_copies 4 none, Cond.methodLink RX7 60 yX7_puts, Cond.instanceMethod yX7_puts, Cond.selects RX7 yX7_puts yX7_puts, Cond.code yX7_puts cX7_puts 4 none, Cond.methodLink RX7 51 yX7_ticksOf, Cond.static yX7_ticksOf, Cond.code yX7_ticksOf cX7_ticksOf 1 (some .int), Cond.methodLink RX7 74 yX7_leaves, Cond.instanceMethod yX7_leaves, Cond.selects RX7 yX7_leaves yX7_leaves, Cond.code yX7_leaves cX7_leaves 5 (some .int)]
def wsX7_runs : List Cond := .code yX7_runs cX7_runs 5 (some .int) :: ((wsX7_runs_r1 ++ (wsX7_runs_r2 ++ wsX7_runs_r3)) ++ wsX70)
def wsX7_settles : List Cond := .code yX7_settles cX7_settles 2 (some .int) :: ([.methodLink RX7 86 yX7_records, .instanceMethod yX7_records, .selects RX7 yX7_records yX7_records, .initialized RX7, .code yX7_records cX7_records 2 none, .fieldLink RX7 24 "SteamRationsModel" "states" "I", .methodLink RX7 27 yX7_copies, .instanceMethod yX7_copies, .selects RX7 yX7_copies yX7_copies, .code yX7_copies cX7_copies 4 none, .fieldLink RX7 7 "SteamRationsModel" "s" "[I"] ++ wsX70)
def wsX7_setFire : List Cond := .code yX7_setFire cX7_setFire 3 (some .int) :: ([.methodLink RX7 27 yX7_copies, .instanceMethod yX7_copies, .selects RX7 yX7_copies yX7_copies, .initialized RX7, .code yX7_copies cX7_copies 4 none, .fieldLink RX7 7 "SteamRationsModel" "s" "[I", .methodLink RX7 89 yX7_sets, .instanceMethod yX7_sets, .selects RX7 yX7_sets yX7_sets, .code yX7_sets cX7_sets 6 (some .int), .methodLink RX7 78 yX7_in, .static yX7_in, .code yX7_in cX7_in 3 (some .boolean), .methodLink RX7 92 yX7_settles, .instanceMethod yX7_settles, .selects RX7 yX7_settles yX7_settles, .code yX7_settles cX7_settles 2 (some .int), .methodLink RX7 86 yX7_records, .instanceMethod yX7_records, .selects RX7 yX7_records yX7_records, .code yX7_records cX7_records 2 none, .fieldLink RX7 24 "SteamRationsModel" "states" "I"] ++ wsX70)
def wsX7_fill : List Cond := .code yX7_fill cX7_fill 3 (some .int) :: ([.methodLink RX7 27 yX7_copies, .instanceMethod yX7_copies, .selects RX7 yX7_copies yX7_copies, .initialized RX7, .code yX7_copies cX7_copies 4 none, .fieldLink RX7 7 "SteamRationsModel" "s" "[I", .methodLink RX7 95 yX7_fills, .instanceMethod yX7_fills, .selects RX7 yX7_fills yX7_fills, .code yX7_fills cX7_fills 5 (some .int), .methodLink RX7 78 yX7_in, .static yX7_in, .code yX7_in cX7_in 3 (some .boolean), .methodLink RX7 92 yX7_settles, .instanceMethod yX7_settles, .selects RX7 yX7_settles yX7_settles, .code yX7_settles cX7_settles 2 (some .int), .methodLink RX7 86 yX7_records, .instanceMethod yX7_records, .selects RX7 yX7_records yX7_records, .code yX7_records cX7_records 2 none, .fieldLink RX7 24 "SteamRationsModel" "states" "I"] ++ wsX70)
def wsX7_setRation : List Cond := .code yX7_setRation cX7_setRation 3 (some .int) :: ([.fieldLink RX7 7 "SteamRationsModel" "s" "[I", .methodLink RX7 78 yX7_in, .static yX7_in, .initialized RX7, .code yX7_in cX7_in 3 (some .boolean), .methodLink RX7 86 yX7_records, .instanceMethod yX7_records, .selects RX7 yX7_records yX7_records, .code yX7_records cX7_records 2 none, .fieldLink RX7 24 "SteamRationsModel" "states" "I", .methodLink RX7 27 yX7_copies, .instanceMethod yX7_copies, .selects RX7 yX7_copies yX7_copies, .code yX7_copies cX7_copies 4 none] ++ wsX70)
def wsX7_start_r1 : List Cond := [Cond.methodLink RX7 27 yX7_copies, Cond.instanceMethod yX7_copies, Cond.selects RX7 yX7_copies yX7_copies, Cond.initialized RX7, Cond.code yX7_copies cX7_copies 4 none, Cond.fieldLink RX7 7 "SteamRationsModel" "s" "[I", Cond.methodLink RX7 98 yX7_starts, Cond.instanceMethod yX7_starts, Cond.selects RX7 yX7_starts yX7_starts, Cond.code yX7_starts cX7_starts 5 (some .int), Cond.methodLink RX7 78 yX7_in, Cond.static yX7_in, Cond.code yX7_in cX7_in 3 (some .boolean), Cond.methodLink RX7 70 yX7_why, Cond.instanceMethod yX7_why, Cond.selects RX7 yX7_why yX7_why, Cond.code yX7_why cX7_why 7 (some .int), Cond.methodLink RX7 41 yX7_pressure, Cond.instanceMethod yX7_pressure, Cond.selects RX7 yX7_pressure yX7_pressure, Cond.code yX7_pressure cX7_pressure 2 (some .int), Cond.methodLink RX7 60 yX7_puts, Cond.instanceMethod yX7_puts, Cond.selects RX7 yX7_puts yX7_puts]
def wsX7_start_r2 : List Cond := [Cond.code yX7_puts cX7_puts 4 none, Cond.methodLink RX7 51 yX7_ticksOf, Cond.static yX7_ticksOf, Cond.code yX7_ticksOf cX7_ticksOf 1 (some .int), Cond.methodLink RX7 64 yX7_passes, Cond.instanceMethod yX7_passes, Cond.selects RX7 yX7_passes yX7_passes, Cond.code yX7_passes cX7_passes 4 none, Cond.methodLink RX7 54 yX7_fires, Cond.instanceMethod yX7_fires, Cond.selects RX7 yX7_fires yX7_fires, Cond.code yX7_fires cX7_fires 4 none, Cond.methodLink RX7 57 yX7_works, Cond.instanceMethod yX7_works, Cond.selects RX7 yX7_works yX7_works, Cond.code yX7_works cX7_works 5 none, Cond.methodLink RX7 38 yX7_need, Cond.instanceMethod yX7_need, Cond.selects RX7 yX7_need yX7_need, Cond.code yX7_need cX7_need 4 (some .int), Cond.methodLink RX7 44 yX7_waits, Cond.instanceMethod yX7_waits, Cond.selects RX7 yX7_waits yX7_waits, Cond.code yX7_waits cX7_waits 3 none]
def wsX7_start_r3 : List Cond := [Cond.methodLink RX7 35 yX7_empties, Cond.instanceMethod yX7_empties, Cond.selects RX7 yX7_empties yX7_empties, Cond.code yX7_empties cX7_empties 3 none, Cond.methodLink RX7 48 yX7_washes, Cond.instanceMethod yX7_washes, Cond.selects RX7 yX7_washes yX7_washes, Cond.code yX7_washes cX7_washes 4 none, Cond.methodLink RX7 31 yX7_worthOf, Cond.static yX7_worthOf, Cond.code yX7_worthOf cX7_worthOf 1 (some .int), Cond.methodLink RX7 92 yX7_settles, Cond.instanceMethod yX7_settles, Cond.selects RX7 yX7_settles yX7_settles, Cond.code yX7_settles cX7_settles 2 (some .int), Cond.methodLink RX7 86 yX7_records, Cond.instanceMethod yX7_records, Cond.selects RX7 yX7_records yX7_records, Cond.code yX7_records cX7_records 2 none, Cond.fieldLink RX7 24 "SteamRationsModel" "states" "I"]
def wsX7_start : List Cond := .code yX7_start cX7_start 3 (some .int) :: ((wsX7_start_r1 ++ (wsX7_start_r2 ++ wsX7_start_r3)) ++ wsX70)
def wsX7_queue : List Cond := .code yX7_queue cX7_queue 2 (some .int) :: ([.methodLink RX7 27 yX7_copies, .instanceMethod yX7_copies, .selects RX7 yX7_copies yX7_copies, .initialized RX7, .code yX7_copies cX7_copies 4 none, .fieldLink RX7 7 "SteamRationsModel" "s" "[I", .methodLink RX7 101 yX7_queues, .instanceMethod yX7_queues, .selects RX7 yX7_queues yX7_queues, .code yX7_queues cX7_queues 4 (some .int), .methodLink RX7 78 yX7_in, .static yX7_in, .code yX7_in cX7_in 3 (some .boolean), .methodLink RX7 92 yX7_settles, .instanceMethod yX7_settles, .selects RX7 yX7_settles yX7_settles, .code yX7_settles cX7_settles 2 (some .int), .methodLink RX7 86 yX7_records, .instanceMethod yX7_records, .selects RX7 yX7_records yX7_records, .code yX7_records cX7_records 2 none, .fieldLink RX7 24 "SteamRationsModel" "states" "I"] ++ wsX70)
def wsX7_unqueue : List Cond := .code yX7_unqueue cX7_unqueue 2 (some .int) :: ([.fieldLink RX7 7 "SteamRationsModel" "s" "[I", .methodLink RX7 78 yX7_in, .static yX7_in, .initialized RX7, .code yX7_in cX7_in 3 (some .boolean), .methodLink RX7 86 yX7_records, .instanceMethod yX7_records, .selects RX7 yX7_records yX7_records, .code yX7_records cX7_records 2 none, .fieldLink RX7 24 "SteamRationsModel" "states" "I", .methodLink RX7 27 yX7_copies, .instanceMethod yX7_copies, .selects RX7 yX7_copies yX7_copies, .code yX7_copies cX7_copies 4 none, .methodLink RX7 74 yX7_leaves, .instanceMethod yX7_leaves, .selects RX7 yX7_leaves yX7_leaves, .code yX7_leaves cX7_leaves 5 (some .int)] ++ wsX70)
def wsX7_takeOut : List Cond := .code yX7_takeOut cX7_takeOut 3 (some .int) :: ([.fieldLink RX7 7 "SteamRationsModel" "s" "[I", .methodLink RX7 78 yX7_in, .static yX7_in, .initialized RX7, .code yX7_in cX7_in 3 (some .boolean), .methodLink RX7 86 yX7_records, .instanceMethod yX7_records, .selects RX7 yX7_records yX7_records, .code yX7_records cX7_records 2 none, .fieldLink RX7 24 "SteamRationsModel" "states" "I", .methodLink RX7 27 yX7_copies, .instanceMethod yX7_copies, .selects RX7 yX7_copies yX7_copies, .code yX7_copies cX7_copies 4 none, .methodLink RX7 35 yX7_empties, .instanceMethod yX7_empties, .selects RX7 yX7_empties yX7_empties, .code yX7_empties cX7_empties 3 none] ++ wsX70)
def wsX7_run_r1 : List Cond := [Cond.methodLink RX7 27 yX7_copies, Cond.instanceMethod yX7_copies, Cond.selects RX7 yX7_copies yX7_copies, Cond.initialized RX7, Cond.code yX7_copies cX7_copies 4 none, Cond.fieldLink RX7 7 "SteamRationsModel" "s" "[I", Cond.methodLink RX7 104 yX7_runs, Cond.instanceMethod yX7_runs, Cond.selects RX7 yX7_runs yX7_runs, Cond.code yX7_runs cX7_runs 5 (some .int), Cond.constant RX7 82 (99999), Cond.methodLink RX7 78 yX7_in, Cond.static yX7_in, Cond.code yX7_in cX7_in 3 (some .boolean), Cond.methodLink RX7 83 yX7_ticks, Cond.instanceMethod yX7_ticks, Cond.selects RX7 yX7_ticks yX7_ticks, Cond.code yX7_ticks cX7_ticks 6 none, Cond.methodLink RX7 64 yX7_passes, Cond.instanceMethod yX7_passes, Cond.selects RX7 yX7_passes yX7_passes, Cond.code yX7_passes cX7_passes 4 none, Cond.methodLink RX7 54 yX7_fires, Cond.instanceMethod yX7_fires]
def wsX7_run_r2 : List Cond := [Cond.selects RX7 yX7_fires yX7_fires, Cond.code yX7_fires cX7_fires 4 none, Cond.methodLink RX7 57 yX7_works, Cond.instanceMethod yX7_works, Cond.selects RX7 yX7_works yX7_works, Cond.code yX7_works cX7_works 5 none, Cond.methodLink RX7 38 yX7_need, Cond.instanceMethod yX7_need, Cond.selects RX7 yX7_need yX7_need, Cond.code yX7_need cX7_need 4 (some .int), Cond.methodLink RX7 41 yX7_pressure, Cond.instanceMethod yX7_pressure, Cond.selects RX7 yX7_pressure yX7_pressure, Cond.code yX7_pressure cX7_pressure 2 (some .int), Cond.methodLink RX7 44 yX7_waits, Cond.instanceMethod yX7_waits, Cond.selects RX7 yX7_waits yX7_waits, Cond.code yX7_waits cX7_waits 3 none, Cond.methodLink RX7 35 yX7_empties, Cond.instanceMethod yX7_empties, Cond.selects RX7 yX7_empties yX7_empties, Cond.code yX7_empties cX7_empties 3 none, Cond.methodLink RX7 48 yX7_washes, Cond.instanceMethod yX7_washes]
def wsX7_run_r3 : List Cond := [Cond.selects RX7 yX7_washes yX7_washes, Cond.code yX7_washes cX7_washes 4 none, Cond.methodLink RX7 31 yX7_worthOf, Cond.static yX7_worthOf, Cond.code yX7_worthOf cX7_worthOf 1 (some .int), Cond.methodLink RX7 67 yX7_lowestEmpty, Cond.instanceMethod yX7_lowestEmpty, Cond.selects RX7 yX7_lowestEmpty yX7_lowestEmpty, Cond.code yX7_lowestEmpty cX7_lowestEmpty 4 (some .int), Cond.methodLink RX7 70 yX7_why, Cond.instanceMethod yX7_why, Cond.selects RX7 yX7_why yX7_why, Cond.code yX7_why cX7_why 7 (some .int), Cond.methodLink RX7 60 yX7_puts, Cond.instanceMethod yX7_puts, Cond.selects RX7 yX7_puts yX7_puts, Cond.code yX7_puts cX7_puts 4 none, Cond.methodLink RX7 51 yX7_ticksOf, Cond.static yX7_ticksOf, Cond.code yX7_ticksOf cX7_ticksOf 1 (some .int), Cond.methodLink RX7 74 yX7_leaves, Cond.instanceMethod yX7_leaves, Cond.selects RX7 yX7_leaves yX7_leaves, Cond.code yX7_leaves cX7_leaves 5 (some .int)]
def wsX7_run_r4 : List Cond := [Cond.methodLink RX7 92 yX7_settles, Cond.instanceMethod yX7_settles, Cond.selects RX7 yX7_settles yX7_settles, Cond.code yX7_settles cX7_settles 2 (some .int), Cond.methodLink RX7 86 yX7_records, Cond.instanceMethod yX7_records, Cond.selects RX7 yX7_records yX7_records, Cond.code yX7_records cX7_records 2 none, Cond.fieldLink RX7 24 "SteamRationsModel" "states" "I"]
def wsX7_run : List Cond := .code yX7_run cX7_run 2 (some .int) :: ((wsX7_run_r1 ++ (wsX7_run_r2 ++ (wsX7_run_r3 ++ wsX7_run_r4))) ++ wsX70)
def wsX7_isNext : List Cond := .code yX7_isNext cX7_isNext 3 (some .boolean) :: ([.fieldLink RX7 107 "SteamRationsModel" "isRight" "Z", .fieldLink RX7 111 "SteamRationsModel" "at" "I", .fieldLink RX7 114 "SteamRationsModel" "typed" "I", .fieldLink RX7 13 "SteamRationsModel" "text" "[C", .methodLink RX7 78 yX7_in, .static yX7_in, .initialized RX7, .code yX7_in cX7_in 3 (some .boolean)] ++ wsX70)
def wsX7_digit : List Cond := .code yX7_digit cX7_digit 2 (some .int) :: ([.fieldLink RX7 107 "SteamRationsModel" "isRight" "Z", .fieldLink RX7 111 "SteamRationsModel" "at" "I", .fieldLink RX7 13 "SteamRationsModel" "text" "[C", .methodLink RX7 117 yX7_isNext, .instanceMethod yX7_isNext, .selects RX7 yX7_isNext yX7_isNext, .initialized RX7, .code yX7_isNext cX7_isNext 3 (some .boolean), .fieldLink RX7 114 "SteamRationsModel" "typed" "I", .methodLink RX7 78 yX7_in, .static yX7_in, .code yX7_in cX7_in 3 (some .boolean)] ++ wsX70)
def wsX7_number : List Cond := .code yX7_number cX7_number 2 (some .int) :: ([.fieldLink RX7 107 "SteamRationsModel" "isRight" "Z", .fieldLink RX7 13 "SteamRationsModel" "text" "[C", .fieldLink RX7 111 "SteamRationsModel" "at" "I", .methodLink RX7 117 yX7_isNext, .instanceMethod yX7_isNext, .selects RX7 yX7_isNext yX7_isNext, .initialized RX7, .code yX7_isNext cX7_isNext 3 (some .boolean), .fieldLink RX7 114 "SteamRationsModel" "typed" "I", .methodLink RX7 78 yX7_in, .static yX7_in, .code yX7_in cX7_in 3 (some .boolean)] ++ wsX70)
def wsX7_reads : List Cond := .code yX7_reads cX7_reads 4 none :: ([.fieldLink RX7 107 "SteamRationsModel" "isRight" "Z", .fieldLink RX7 111 "SteamRationsModel" "at" "I", .fieldLink RX7 114 "SteamRationsModel" "typed" "I", .fieldLink RX7 13 "SteamRationsModel" "text" "[C", .fieldLink RX7 17 "SteamRationsModel" "command" "[I", .fieldLink RX7 128 "SteamRationsModel" "commands" "I", .methodLink RX7 121 yX7_number, .instanceMethod yX7_number, .selects RX7 yX7_number yX7_number, .initialized RX7, .code yX7_number cX7_number 2 (some .int), .methodLink RX7 117 yX7_isNext, .instanceMethod yX7_isNext, .selects RX7 yX7_isNext yX7_isNext, .code yX7_isNext cX7_isNext 3 (some .boolean), .methodLink RX7 78 yX7_in, .static yX7_in, .code yX7_in cX7_in 3 (some .boolean), .methodLink RX7 125 yX7_digit, .instanceMethod yX7_digit, .selects RX7 yX7_digit yX7_digit, .code yX7_digit cX7_digit 2 (some .int)] ++ wsX70)
def wsX7_fault_r1 : List Cond := [Cond.fieldLink RX7 111 "SteamRationsModel" "at" "I", Cond.fieldLink RX7 107 "SteamRationsModel" "isRight" "Z", Cond.fieldLink RX7 128 "SteamRationsModel" "commands" "I", Cond.fieldLink RX7 114 "SteamRationsModel" "typed" "I", Cond.fieldLink RX7 13 "SteamRationsModel" "text" "[C", Cond.methodLink RX7 131 yX7_reads, Cond.instanceMethod yX7_reads, Cond.selects RX7 yX7_reads yX7_reads, Cond.initialized RX7, Cond.code yX7_reads cX7_reads 4 none, Cond.fieldLink RX7 17 "SteamRationsModel" "command" "[I", Cond.methodLink RX7 121 yX7_number, Cond.instanceMethod yX7_number, Cond.selects RX7 yX7_number yX7_number, Cond.code yX7_number cX7_number 2 (some .int), Cond.methodLink RX7 117 yX7_isNext, Cond.instanceMethod yX7_isNext, Cond.selects RX7 yX7_isNext yX7_isNext, Cond.code yX7_isNext cX7_isNext 3 (some .boolean), Cond.methodLink RX7 78 yX7_in, Cond.static yX7_in, Cond.code yX7_in cX7_in 3 (some .boolean), Cond.methodLink RX7 125 yX7_digit, Cond.instanceMethod yX7_digit]
def wsX7_fault_r2 : List Cond := [Cond.selects RX7 yX7_digit yX7_digit, Cond.code yX7_digit cX7_digit 2 (some .int)]
def wsX7_fault : List Cond := .code yX7_fault cX7_fault 1 (some .int) :: ((wsX7_fault_r1 ++ wsX7_fault_r2) ++ wsX70)
def wsX7_does_r1 : List Cond := [Cond.fieldLink RX7 17 "SteamRationsModel" "command" "[I", Cond.methodLink RX7 89 yX7_sets, Cond.instanceMethod yX7_sets, Cond.selects RX7 yX7_sets yX7_sets, Cond.initialized RX7, Cond.code yX7_sets cX7_sets 6 (some .int), Cond.fieldLink RX7 7 "SteamRationsModel" "s" "[I", Cond.methodLink RX7 78 yX7_in, Cond.static yX7_in, Cond.code yX7_in cX7_in 3 (some .boolean), Cond.methodLink RX7 95 yX7_fills, Cond.instanceMethod yX7_fills, Cond.selects RX7 yX7_fills yX7_fills, Cond.code yX7_fills cX7_fills 5 (some .int), Cond.methodLink RX7 98 yX7_starts, Cond.instanceMethod yX7_starts, Cond.selects RX7 yX7_starts yX7_starts, Cond.code yX7_starts cX7_starts 5 (some .int), Cond.methodLink RX7 70 yX7_why, Cond.instanceMethod yX7_why, Cond.selects RX7 yX7_why yX7_why, Cond.code yX7_why cX7_why 7 (some .int), Cond.methodLink RX7 41 yX7_pressure, Cond.instanceMethod yX7_pressure]
def wsX7_does_r2 : List Cond := [Cond.selects RX7 yX7_pressure yX7_pressure, Cond.code yX7_pressure cX7_pressure 2 (some .int), Cond.methodLink RX7 27 yX7_copies, Cond.instanceMethod yX7_copies, Cond.selects RX7 yX7_copies yX7_copies, Cond.code yX7_copies cX7_copies 4 none, Cond.methodLink RX7 60 yX7_puts, Cond.instanceMethod yX7_puts, Cond.selects RX7 yX7_puts yX7_puts, Cond.code yX7_puts cX7_puts 4 none, Cond.methodLink RX7 51 yX7_ticksOf, Cond.static yX7_ticksOf, Cond.code yX7_ticksOf cX7_ticksOf 1 (some .int), Cond.methodLink RX7 64 yX7_passes, Cond.instanceMethod yX7_passes, Cond.selects RX7 yX7_passes yX7_passes, Cond.code yX7_passes cX7_passes 4 none, Cond.methodLink RX7 54 yX7_fires, Cond.instanceMethod yX7_fires, Cond.selects RX7 yX7_fires yX7_fires, Cond.code yX7_fires cX7_fires 4 none, Cond.methodLink RX7 57 yX7_works, Cond.instanceMethod yX7_works, Cond.selects RX7 yX7_works yX7_works]
def wsX7_does_r3 : List Cond := [Cond.code yX7_works cX7_works 5 none, Cond.methodLink RX7 38 yX7_need, Cond.instanceMethod yX7_need, Cond.selects RX7 yX7_need yX7_need, Cond.code yX7_need cX7_need 4 (some .int), Cond.methodLink RX7 44 yX7_waits, Cond.instanceMethod yX7_waits, Cond.selects RX7 yX7_waits yX7_waits, Cond.code yX7_waits cX7_waits 3 none, Cond.methodLink RX7 35 yX7_empties, Cond.instanceMethod yX7_empties, Cond.selects RX7 yX7_empties yX7_empties, Cond.code yX7_empties cX7_empties 3 none, Cond.methodLink RX7 48 yX7_washes, Cond.instanceMethod yX7_washes, Cond.selects RX7 yX7_washes yX7_washes, Cond.code yX7_washes cX7_washes 4 none, Cond.methodLink RX7 31 yX7_worthOf, Cond.static yX7_worthOf, Cond.code yX7_worthOf cX7_worthOf 1 (some .int), Cond.methodLink RX7 101 yX7_queues, Cond.instanceMethod yX7_queues, Cond.selects RX7 yX7_queues yX7_queues, Cond.code yX7_queues cX7_queues 4 (some .int)]
def wsX7_does_r4 : List Cond := [Cond.methodLink RX7 104 yX7_runs, Cond.instanceMethod yX7_runs, Cond.selects RX7 yX7_runs yX7_runs, Cond.code yX7_runs cX7_runs 5 (some .int), Cond.constant RX7 82 (99999), Cond.methodLink RX7 83 yX7_ticks, Cond.instanceMethod yX7_ticks, Cond.selects RX7 yX7_ticks yX7_ticks, Cond.code yX7_ticks cX7_ticks 6 none, Cond.methodLink RX7 67 yX7_lowestEmpty, Cond.instanceMethod yX7_lowestEmpty, Cond.selects RX7 yX7_lowestEmpty yX7_lowestEmpty, Cond.code yX7_lowestEmpty cX7_lowestEmpty 4 (some .int), Cond.methodLink RX7 74 yX7_leaves, Cond.instanceMethod yX7_leaves, Cond.selects RX7 yX7_leaves yX7_leaves, Cond.code yX7_leaves cX7_leaves 5 (some .int)]
def wsX7_does : List Cond := .code yX7_does cX7_does 4 (some .int) :: ((wsX7_does_r1 ++ (wsX7_does_r2 ++ (wsX7_does_r3 ++ wsX7_does_r4))) ++ wsX70)
def wsX7_perform_r1 : List Cond := [Cond.fieldLink RX7 128 "SteamRationsModel" "commands" "I", Cond.fieldLink RX7 20 "SteamRationsModel" "stoppedAt" "I", Cond.fieldLink RX7 140 "SteamRationsModel" "stoppedBy" "I", Cond.methodLink RX7 134 yX7_fault, Cond.instanceMethod yX7_fault, Cond.selects RX7 yX7_fault yX7_fault, Cond.initialized RX7, Cond.code yX7_fault cX7_fault 1 (some .int), Cond.fieldLink RX7 111 "SteamRationsModel" "at" "I", Cond.fieldLink RX7 107 "SteamRationsModel" "isRight" "Z", Cond.fieldLink RX7 114 "SteamRationsModel" "typed" "I", Cond.fieldLink RX7 13 "SteamRationsModel" "text" "[C", Cond.methodLink RX7 131 yX7_reads, Cond.instanceMethod yX7_reads, Cond.selects RX7 yX7_reads yX7_reads, Cond.code yX7_reads cX7_reads 4 none, Cond.fieldLink RX7 17 "SteamRationsModel" "command" "[I", Cond.methodLink RX7 121 yX7_number, Cond.instanceMethod yX7_number, Cond.selects RX7 yX7_number yX7_number, Cond.code yX7_number cX7_number 2 (some .int), Cond.methodLink RX7 117 yX7_isNext, Cond.instanceMethod yX7_isNext, Cond.selects RX7 yX7_isNext yX7_isNext]
def wsX7_perform_r2 : List Cond := [Cond.code yX7_isNext cX7_isNext 3 (some .boolean), Cond.methodLink RX7 78 yX7_in, Cond.static yX7_in, Cond.code yX7_in cX7_in 3 (some .boolean), Cond.methodLink RX7 125 yX7_digit, Cond.instanceMethod yX7_digit, Cond.selects RX7 yX7_digit yX7_digit, Cond.code yX7_digit cX7_digit 2 (some .int), Cond.methodLink RX7 27 yX7_copies, Cond.instanceMethod yX7_copies, Cond.selects RX7 yX7_copies yX7_copies, Cond.code yX7_copies cX7_copies 4 none, Cond.fieldLink RX7 7 "SteamRationsModel" "s" "[I", Cond.methodLink RX7 137 yX7_does, Cond.instanceMethod yX7_does, Cond.selects RX7 yX7_does yX7_does, Cond.code yX7_does cX7_does 4 (some .int), Cond.methodLink RX7 89 yX7_sets, Cond.instanceMethod yX7_sets, Cond.selects RX7 yX7_sets yX7_sets, Cond.code yX7_sets cX7_sets 6 (some .int), Cond.methodLink RX7 95 yX7_fills, Cond.instanceMethod yX7_fills, Cond.selects RX7 yX7_fills yX7_fills]
def wsX7_perform_r3 : List Cond := [Cond.code yX7_fills cX7_fills 5 (some .int), Cond.methodLink RX7 98 yX7_starts, Cond.instanceMethod yX7_starts, Cond.selects RX7 yX7_starts yX7_starts, Cond.code yX7_starts cX7_starts 5 (some .int), Cond.methodLink RX7 70 yX7_why, Cond.instanceMethod yX7_why, Cond.selects RX7 yX7_why yX7_why, Cond.code yX7_why cX7_why 7 (some .int), Cond.methodLink RX7 41 yX7_pressure, Cond.instanceMethod yX7_pressure, Cond.selects RX7 yX7_pressure yX7_pressure, Cond.code yX7_pressure cX7_pressure 2 (some .int), Cond.methodLink RX7 60 yX7_puts, Cond.instanceMethod yX7_puts, Cond.selects RX7 yX7_puts yX7_puts, Cond.code yX7_puts cX7_puts 4 none, Cond.methodLink RX7 51 yX7_ticksOf, Cond.static yX7_ticksOf, Cond.code yX7_ticksOf cX7_ticksOf 1 (some .int), Cond.methodLink RX7 64 yX7_passes, Cond.instanceMethod yX7_passes, Cond.selects RX7 yX7_passes yX7_passes, Cond.code yX7_passes cX7_passes 4 none]
def wsX7_perform_r4 : List Cond := [Cond.methodLink RX7 54 yX7_fires, Cond.instanceMethod yX7_fires, Cond.selects RX7 yX7_fires yX7_fires, Cond.code yX7_fires cX7_fires 4 none, Cond.methodLink RX7 57 yX7_works, Cond.instanceMethod yX7_works, Cond.selects RX7 yX7_works yX7_works, Cond.code yX7_works cX7_works 5 none, Cond.methodLink RX7 38 yX7_need, Cond.instanceMethod yX7_need, Cond.selects RX7 yX7_need yX7_need, Cond.code yX7_need cX7_need 4 (some .int), Cond.methodLink RX7 44 yX7_waits, Cond.instanceMethod yX7_waits, Cond.selects RX7 yX7_waits yX7_waits, Cond.code yX7_waits cX7_waits 3 none, Cond.methodLink RX7 35 yX7_empties, Cond.instanceMethod yX7_empties, Cond.selects RX7 yX7_empties yX7_empties, Cond.code yX7_empties cX7_empties 3 none, Cond.methodLink RX7 48 yX7_washes, Cond.instanceMethod yX7_washes, Cond.selects RX7 yX7_washes yX7_washes, Cond.code yX7_washes cX7_washes 4 none]
def wsX7_perform_r5 : List Cond := [Cond.methodLink RX7 31 yX7_worthOf, Cond.static yX7_worthOf, Cond.code yX7_worthOf cX7_worthOf 1 (some .int), Cond.methodLink RX7 101 yX7_queues, Cond.instanceMethod yX7_queues, Cond.selects RX7 yX7_queues yX7_queues, Cond.code yX7_queues cX7_queues 4 (some .int), Cond.methodLink RX7 104 yX7_runs, Cond.instanceMethod yX7_runs, Cond.selects RX7 yX7_runs yX7_runs, Cond.code yX7_runs cX7_runs 5 (some .int), Cond.constant RX7 82 (99999), Cond.methodLink RX7 83 yX7_ticks, Cond.instanceMethod yX7_ticks, Cond.selects RX7 yX7_ticks yX7_ticks, Cond.code yX7_ticks cX7_ticks 6 none, Cond.methodLink RX7 67 yX7_lowestEmpty, Cond.instanceMethod yX7_lowestEmpty, Cond.selects RX7 yX7_lowestEmpty yX7_lowestEmpty, Cond.code yX7_lowestEmpty cX7_lowestEmpty 4 (some .int), Cond.methodLink RX7 74 yX7_leaves, Cond.instanceMethod yX7_leaves, Cond.selects RX7 yX7_leaves yX7_leaves, Cond.code yX7_leaves cX7_leaves 5 (some .int)]
def wsX7_perform_r6 : List Cond := [Cond.methodLink RX7 92 yX7_settles, Cond.instanceMethod yX7_settles, Cond.selects RX7 yX7_settles yX7_settles, Cond.code yX7_settles cX7_settles 2 (some .int), Cond.methodLink RX7 86 yX7_records, Cond.instanceMethod yX7_records, Cond.selects RX7 yX7_records yX7_records, Cond.code yX7_records cX7_records 2 none, Cond.fieldLink RX7 24 "SteamRationsModel" "states" "I"]
def wsX7_perform : List Cond := .code yX7_perform cX7_perform 4 (some .int) :: ((wsX7_perform_r1 ++ (wsX7_perform_r2 ++ (wsX7_perform_r3 ++ (wsX7_perform_r4 ++ (wsX7_perform_r5 ++ wsX7_perform_r6))))) ++ wsX70)
def wsX7_stopped : List Cond := .code yX7_stopped cX7_stopped 2 (some .int) :: ([.fieldLink RX7 20 "SteamRationsModel" "stoppedAt" "I", .fieldLink RX7 140 "SteamRationsModel" "stoppedBy" "I", .methodLink RX7 78 yX7_in, .static yX7_in, .initialized RX7, .code yX7_in cX7_in 3 (some .boolean)] ++ wsX70)
def wsX7_type : List Cond := .code yX7_type cX7_type 2 (some .int) :: ([.fieldLink RX7 114 "SteamRationsModel" "typed" "I", .fieldLink RX7 13 "SteamRationsModel" "text" "[C"] ++ wsX70)
def wsX7_clearText : List Cond := .code yX7_clearText cX7_clearText 2 (some .int) :: ([.fieldLink RX7 114 "SteamRationsModel" "typed" "I"] ++ wsX70)
def wsX7_undo : List Cond := .code yX7_undo cX7_undo 1 (some .int) :: ([.fieldLink RX7 24 "SteamRationsModel" "states" "I", .methodLink RX7 27 yX7_copies, .instanceMethod yX7_copies, .selects RX7 yX7_copies yX7_copies, .initialized RX7, .code yX7_copies cX7_copies 4 none, .fieldLink RX7 7 "SteamRationsModel" "s" "[I"] ++ wsX70)
def wsX7_keep : List Cond := .code yX7_keep cX7_keep 1 (some .int) :: ([.fieldLink RX7 143 "SteamRationsModel" "isKept" "Z", .fieldLink RX7 7 "SteamRationsModel" "s" "[I", .methodLink RX7 27 yX7_copies, .instanceMethod yX7_copies, .selects RX7 yX7_copies yX7_copies, .initialized RX7, .code yX7_copies cX7_copies 4 none] ++ wsX70)
def wsX7_restore : List Cond := .code yX7_restore cX7_restore 1 (some .int) :: ([.fieldLink RX7 143 "SteamRationsModel" "isKept" "Z", .fieldLink RX7 7 "SteamRationsModel" "s" "[I", .methodLink RX7 86 yX7_records, .instanceMethod yX7_records, .selects RX7 yX7_records yX7_records, .initialized RX7, .code yX7_records cX7_records 2 none, .fieldLink RX7 24 "SteamRationsModel" "states" "I", .methodLink RX7 27 yX7_copies, .instanceMethod yX7_copies, .selects RX7 yX7_copies yX7_copies, .code yX7_copies cX7_copies 4 none] ++ wsX70)
def wsX7_boiler : List Cond := .code yX7_boiler cX7_boiler 3 (some .int) :: ([.fieldLink RX7 7 "SteamRationsModel" "s" "[I", .methodLink RX7 78 yX7_in, .static yX7_in, .initialized RX7, .code yX7_in cX7_in 3 (some .boolean)] ++ wsX70)
def wsX7_machine : List Cond := .code yX7_machine cX7_machine 4 (some .int) :: ([.fieldLink RX7 7 "SteamRationsModel" "s" "[I", .methodLink RX7 78 yX7_in, .static yX7_in, .initialized RX7, .code yX7_in cX7_in 3 (some .boolean)] ++ wsX70)
def wsX7_line : List Cond := .code yX7_line cX7_line 2 (some .int) :: ([.fieldLink RX7 7 "SteamRationsModel" "s" "[I"] ++ wsX70)
def wsX7_reason_r1 : List Cond := [Cond.methodLink RX7 78 yX7_in, Cond.static yX7_in, Cond.initialized RX7, Cond.code yX7_in cX7_in 3 (some .boolean), Cond.methodLink RX7 67 yX7_lowestEmpty, Cond.instanceMethod yX7_lowestEmpty, Cond.selects RX7 yX7_lowestEmpty yX7_lowestEmpty, Cond.code yX7_lowestEmpty cX7_lowestEmpty 4 (some .int), Cond.fieldLink RX7 7 "SteamRationsModel" "s" "[I", Cond.methodLink RX7 70 yX7_why, Cond.instanceMethod yX7_why, Cond.selects RX7 yX7_why yX7_why, Cond.code yX7_why cX7_why 7 (some .int), Cond.methodLink RX7 41 yX7_pressure, Cond.instanceMethod yX7_pressure, Cond.selects RX7 yX7_pressure yX7_pressure, Cond.code yX7_pressure cX7_pressure 2 (some .int), Cond.methodLink RX7 27 yX7_copies, Cond.instanceMethod yX7_copies, Cond.selects RX7 yX7_copies yX7_copies, Cond.code yX7_copies cX7_copies 4 none, Cond.methodLink RX7 60 yX7_puts, Cond.instanceMethod yX7_puts, Cond.selects RX7 yX7_puts yX7_puts]
def wsX7_reason_r2 : List Cond := [Cond.code yX7_puts cX7_puts 4 none, Cond.methodLink RX7 51 yX7_ticksOf, Cond.static yX7_ticksOf, Cond.code yX7_ticksOf cX7_ticksOf 1 (some .int), Cond.methodLink RX7 64 yX7_passes, Cond.instanceMethod yX7_passes, Cond.selects RX7 yX7_passes yX7_passes, Cond.code yX7_passes cX7_passes 4 none, Cond.methodLink RX7 54 yX7_fires, Cond.instanceMethod yX7_fires, Cond.selects RX7 yX7_fires yX7_fires, Cond.code yX7_fires cX7_fires 4 none, Cond.methodLink RX7 57 yX7_works, Cond.instanceMethod yX7_works, Cond.selects RX7 yX7_works yX7_works, Cond.code yX7_works cX7_works 5 none, Cond.methodLink RX7 38 yX7_need, Cond.instanceMethod yX7_need, Cond.selects RX7 yX7_need yX7_need, Cond.code yX7_need cX7_need 4 (some .int), Cond.methodLink RX7 44 yX7_waits, Cond.instanceMethod yX7_waits, Cond.selects RX7 yX7_waits yX7_waits, Cond.code yX7_waits cX7_waits 3 none]
def wsX7_reason_r3 : List Cond := [Cond.methodLink RX7 35 yX7_empties, Cond.instanceMethod yX7_empties, Cond.selects RX7 yX7_empties yX7_empties, Cond.code yX7_empties cX7_empties 3 none, Cond.methodLink RX7 48 yX7_washes, Cond.instanceMethod yX7_washes, Cond.selects RX7 yX7_washes yX7_washes, Cond.code yX7_washes cX7_washes 4 none, Cond.methodLink RX7 31 yX7_worthOf, Cond.static yX7_worthOf, Cond.code yX7_worthOf cX7_worthOf 1 (some .int)]
def wsX7_reason : List Cond := .code yX7_reason cX7_reason 2 (some .int) :: ((wsX7_reason_r1 ++ (wsX7_reason_r2 ++ wsX7_reason_r3)) ++ wsX70)
def wsX7_isDone : List Cond := .code yX7_isDone cX7_isDone 2 (some .boolean) :: ([.fieldLink RX7 7 "SteamRationsModel" "s" "[I", .methodLink RX7 38 yX7_need, .instanceMethod yX7_need, .selects RX7 yX7_need yX7_need, .initialized RX7, .code yX7_need cX7_need 4 (some .int)] ++ wsX70)
def wsX7_doneIn_r1 : List Cond := [Cond.methodLink RX7 27 yX7_copies, Cond.instanceMethod yX7_copies, Cond.selects RX7 yX7_copies yX7_copies, Cond.initialized RX7, Cond.code yX7_copies cX7_copies 4 none, Cond.fieldLink RX7 7 "SteamRationsModel" "s" "[I", Cond.methodLink RX7 146 yX7_isDone, Cond.instanceMethod yX7_isDone, Cond.selects RX7 yX7_isDone yX7_isDone, Cond.code yX7_isDone cX7_isDone 2 (some .boolean), Cond.methodLink RX7 38 yX7_need, Cond.instanceMethod yX7_need, Cond.selects RX7 yX7_need yX7_need, Cond.code yX7_need cX7_need 4 (some .int), Cond.methodLink RX7 83 yX7_ticks, Cond.instanceMethod yX7_ticks, Cond.selects RX7 yX7_ticks yX7_ticks, Cond.code yX7_ticks cX7_ticks 6 none, Cond.methodLink RX7 64 yX7_passes, Cond.instanceMethod yX7_passes, Cond.selects RX7 yX7_passes yX7_passes, Cond.code yX7_passes cX7_passes 4 none, Cond.methodLink RX7 54 yX7_fires, Cond.instanceMethod yX7_fires]
def wsX7_doneIn_r2 : List Cond := [Cond.selects RX7 yX7_fires yX7_fires, Cond.code yX7_fires cX7_fires 4 none, Cond.methodLink RX7 57 yX7_works, Cond.instanceMethod yX7_works, Cond.selects RX7 yX7_works yX7_works, Cond.code yX7_works cX7_works 5 none, Cond.methodLink RX7 41 yX7_pressure, Cond.instanceMethod yX7_pressure, Cond.selects RX7 yX7_pressure yX7_pressure, Cond.code yX7_pressure cX7_pressure 2 (some .int), Cond.methodLink RX7 44 yX7_waits, Cond.instanceMethod yX7_waits, Cond.selects RX7 yX7_waits yX7_waits, Cond.code yX7_waits cX7_waits 3 none, Cond.methodLink RX7 35 yX7_empties, Cond.instanceMethod yX7_empties, Cond.selects RX7 yX7_empties yX7_empties, Cond.code yX7_empties cX7_empties 3 none, Cond.methodLink RX7 48 yX7_washes, Cond.instanceMethod yX7_washes, Cond.selects RX7 yX7_washes yX7_washes, Cond.code yX7_washes cX7_washes 4 none, Cond.methodLink RX7 31 yX7_worthOf, Cond.static yX7_worthOf]
def wsX7_doneIn_r3 : List Cond := [Cond.code yX7_worthOf cX7_worthOf 1 (some .int), Cond.methodLink RX7 67 yX7_lowestEmpty, Cond.instanceMethod yX7_lowestEmpty, Cond.selects RX7 yX7_lowestEmpty yX7_lowestEmpty, Cond.code yX7_lowestEmpty cX7_lowestEmpty 4 (some .int), Cond.methodLink RX7 70 yX7_why, Cond.instanceMethod yX7_why, Cond.selects RX7 yX7_why yX7_why, Cond.code yX7_why cX7_why 7 (some .int), Cond.methodLink RX7 60 yX7_puts, Cond.instanceMethod yX7_puts, Cond.selects RX7 yX7_puts yX7_puts, Cond.code yX7_puts cX7_puts 4 none, Cond.methodLink RX7 51 yX7_ticksOf, Cond.static yX7_ticksOf, Cond.code yX7_ticksOf cX7_ticksOf 1 (some .int), Cond.methodLink RX7 74 yX7_leaves, Cond.instanceMethod yX7_leaves, Cond.selects RX7 yX7_leaves yX7_leaves, Cond.code yX7_leaves cX7_leaves 5 (some .int)]
def wsX7_doneIn : List Cond := .code yX7_doneIn cX7_doneIn 2 (some .int) :: ((wsX7_doneIn_r1 ++ (wsX7_doneIn_r2 ++ wsX7_doneIn_r3)) ++ wsX70)
def wsX7_tries_r1 : List Cond := [Cond.fieldLink RX7 7 "SteamRationsModel" "s" "[I", Cond.methodLink RX7 27 yX7_copies, Cond.instanceMethod yX7_copies, Cond.selects RX7 yX7_copies yX7_copies, Cond.initialized RX7, Cond.code yX7_copies cX7_copies 4 none, Cond.methodLink RX7 83 yX7_ticks, Cond.instanceMethod yX7_ticks, Cond.selects RX7 yX7_ticks yX7_ticks, Cond.code yX7_ticks cX7_ticks 6 none, Cond.methodLink RX7 64 yX7_passes, Cond.instanceMethod yX7_passes, Cond.selects RX7 yX7_passes yX7_passes, Cond.code yX7_passes cX7_passes 4 none, Cond.methodLink RX7 54 yX7_fires, Cond.instanceMethod yX7_fires, Cond.selects RX7 yX7_fires yX7_fires, Cond.code yX7_fires cX7_fires 4 none, Cond.methodLink RX7 57 yX7_works, Cond.instanceMethod yX7_works, Cond.selects RX7 yX7_works yX7_works, Cond.code yX7_works cX7_works 5 none, Cond.methodLink RX7 38 yX7_need, Cond.instanceMethod yX7_need]
def wsX7_tries_r2 : List Cond := [Cond.selects RX7 yX7_need yX7_need, Cond.code yX7_need cX7_need 4 (some .int), Cond.methodLink RX7 41 yX7_pressure, Cond.instanceMethod yX7_pressure, Cond.selects RX7 yX7_pressure yX7_pressure, Cond.code yX7_pressure cX7_pressure 2 (some .int), Cond.methodLink RX7 44 yX7_waits, Cond.instanceMethod yX7_waits, Cond.selects RX7 yX7_waits yX7_waits, Cond.code yX7_waits cX7_waits 3 none, Cond.methodLink RX7 35 yX7_empties, Cond.instanceMethod yX7_empties, Cond.selects RX7 yX7_empties yX7_empties, Cond.code yX7_empties cX7_empties 3 none, Cond.methodLink RX7 48 yX7_washes, Cond.instanceMethod yX7_washes, Cond.selects RX7 yX7_washes yX7_washes, Cond.code yX7_washes cX7_washes 4 none, Cond.methodLink RX7 31 yX7_worthOf, Cond.static yX7_worthOf, Cond.code yX7_worthOf cX7_worthOf 1 (some .int), Cond.methodLink RX7 67 yX7_lowestEmpty, Cond.instanceMethod yX7_lowestEmpty, Cond.selects RX7 yX7_lowestEmpty yX7_lowestEmpty]
def wsX7_tries_r3 : List Cond := [Cond.code yX7_lowestEmpty cX7_lowestEmpty 4 (some .int), Cond.methodLink RX7 70 yX7_why, Cond.instanceMethod yX7_why, Cond.selects RX7 yX7_why yX7_why, Cond.code yX7_why cX7_why 7 (some .int), Cond.methodLink RX7 60 yX7_puts, Cond.instanceMethod yX7_puts, Cond.selects RX7 yX7_puts yX7_puts, Cond.code yX7_puts cX7_puts 4 none, Cond.methodLink RX7 51 yX7_ticksOf, Cond.static yX7_ticksOf, Cond.code yX7_ticksOf cX7_ticksOf 1 (some .int), Cond.methodLink RX7 74 yX7_leaves, Cond.instanceMethod yX7_leaves, Cond.selects RX7 yX7_leaves yX7_leaves, Cond.code yX7_leaves cX7_leaves 5 (some .int)]
def wsX7_tries : List Cond := .code yX7_tries cX7_tries 4 none :: ((wsX7_tries_r1 ++ (wsX7_tries_r2 ++ wsX7_tries_r3)) ++ wsX70)
def wsX7_more : List Cond := .code yX7_more cX7_more 2 (some .int) :: ([.fieldLink RX7 7 "SteamRationsModel" "s" "[I"] ++ wsX70)
def wsX7_ifFires_r1 : List Cond := [Cond.methodLink RX7 78 yX7_in, Cond.static yX7_in, Cond.initialized RX7, Cond.code yX7_in cX7_in 3 (some .boolean), Cond.methodLink RX7 150 yX7_tries, Cond.instanceMethod yX7_tries, Cond.selects RX7 yX7_tries yX7_tries, Cond.code yX7_tries cX7_tries 4 none, Cond.fieldLink RX7 7 "SteamRationsModel" "s" "[I", Cond.methodLink RX7 27 yX7_copies, Cond.instanceMethod yX7_copies, Cond.selects RX7 yX7_copies yX7_copies, Cond.code yX7_copies cX7_copies 4 none, Cond.methodLink RX7 83 yX7_ticks, Cond.instanceMethod yX7_ticks, Cond.selects RX7 yX7_ticks yX7_ticks, Cond.code yX7_ticks cX7_ticks 6 none, Cond.methodLink RX7 64 yX7_passes, Cond.instanceMethod yX7_passes, Cond.selects RX7 yX7_passes yX7_passes, Cond.code yX7_passes cX7_passes 4 none, Cond.methodLink RX7 54 yX7_fires, Cond.instanceMethod yX7_fires, Cond.selects RX7 yX7_fires yX7_fires]
def wsX7_ifFires_r2 : List Cond := [Cond.code yX7_fires cX7_fires 4 none, Cond.methodLink RX7 57 yX7_works, Cond.instanceMethod yX7_works, Cond.selects RX7 yX7_works yX7_works, Cond.code yX7_works cX7_works 5 none, Cond.methodLink RX7 38 yX7_need, Cond.instanceMethod yX7_need, Cond.selects RX7 yX7_need yX7_need, Cond.code yX7_need cX7_need 4 (some .int), Cond.methodLink RX7 41 yX7_pressure, Cond.instanceMethod yX7_pressure, Cond.selects RX7 yX7_pressure yX7_pressure, Cond.code yX7_pressure cX7_pressure 2 (some .int), Cond.methodLink RX7 44 yX7_waits, Cond.instanceMethod yX7_waits, Cond.selects RX7 yX7_waits yX7_waits, Cond.code yX7_waits cX7_waits 3 none, Cond.methodLink RX7 35 yX7_empties, Cond.instanceMethod yX7_empties, Cond.selects RX7 yX7_empties yX7_empties, Cond.code yX7_empties cX7_empties 3 none, Cond.methodLink RX7 48 yX7_washes, Cond.instanceMethod yX7_washes, Cond.selects RX7 yX7_washes yX7_washes]
def wsX7_ifFires_r3 : List Cond := [Cond.code yX7_washes cX7_washes 4 none, Cond.methodLink RX7 31 yX7_worthOf, Cond.static yX7_worthOf, Cond.code yX7_worthOf cX7_worthOf 1 (some .int), Cond.methodLink RX7 67 yX7_lowestEmpty, Cond.instanceMethod yX7_lowestEmpty, Cond.selects RX7 yX7_lowestEmpty yX7_lowestEmpty, Cond.code yX7_lowestEmpty cX7_lowestEmpty 4 (some .int), Cond.methodLink RX7 70 yX7_why, Cond.instanceMethod yX7_why, Cond.selects RX7 yX7_why yX7_why, Cond.code yX7_why cX7_why 7 (some .int), Cond.methodLink RX7 60 yX7_puts, Cond.instanceMethod yX7_puts, Cond.selects RX7 yX7_puts yX7_puts, Cond.code yX7_puts cX7_puts 4 none, Cond.methodLink RX7 51 yX7_ticksOf, Cond.static yX7_ticksOf, Cond.code yX7_ticksOf cX7_ticksOf 1 (some .int), Cond.methodLink RX7 74 yX7_leaves, Cond.instanceMethod yX7_leaves, Cond.selects RX7 yX7_leaves yX7_leaves, Cond.code yX7_leaves cX7_leaves 5 (some .int), Cond.methodLink RX7 153 yX7_more]
def wsX7_ifFires_r4 : List Cond := [Cond.instanceMethod yX7_more, Cond.selects RX7 yX7_more yX7_more, Cond.code yX7_more cX7_more 2 (some .int)]
def wsX7_ifFires : List Cond := .code yX7_ifFires cX7_ifFires 5 (some .int) :: ((wsX7_ifFires_r1 ++ (wsX7_ifFires_r2 ++ (wsX7_ifFires_r3 ++ wsX7_ifFires_r4))) ++ wsX70)
def wsX7_bestFires_r1 : List Cond := [Cond.methodLink RX7 78 yX7_in, Cond.static yX7_in, Cond.initialized RX7, Cond.code yX7_in cX7_in 3 (some .boolean), Cond.methodLink RX7 150 yX7_tries, Cond.instanceMethod yX7_tries, Cond.selects RX7 yX7_tries yX7_tries, Cond.code yX7_tries cX7_tries 4 none, Cond.fieldLink RX7 7 "SteamRationsModel" "s" "[I", Cond.methodLink RX7 27 yX7_copies, Cond.instanceMethod yX7_copies, Cond.selects RX7 yX7_copies yX7_copies, Cond.code yX7_copies cX7_copies 4 none, Cond.methodLink RX7 83 yX7_ticks, Cond.instanceMethod yX7_ticks, Cond.selects RX7 yX7_ticks yX7_ticks, Cond.code yX7_ticks cX7_ticks 6 none, Cond.methodLink RX7 64 yX7_passes, Cond.instanceMethod yX7_passes, Cond.selects RX7 yX7_passes yX7_passes, Cond.code yX7_passes cX7_passes 4 none, Cond.methodLink RX7 54 yX7_fires, Cond.instanceMethod yX7_fires, Cond.selects RX7 yX7_fires yX7_fires]
def wsX7_bestFires_r2 : List Cond := [Cond.code yX7_fires cX7_fires 4 none, Cond.methodLink RX7 57 yX7_works, Cond.instanceMethod yX7_works, Cond.selects RX7 yX7_works yX7_works, Cond.code yX7_works cX7_works 5 none, Cond.methodLink RX7 38 yX7_need, Cond.instanceMethod yX7_need, Cond.selects RX7 yX7_need yX7_need, Cond.code yX7_need cX7_need 4 (some .int), Cond.methodLink RX7 41 yX7_pressure, Cond.instanceMethod yX7_pressure, Cond.selects RX7 yX7_pressure yX7_pressure, Cond.code yX7_pressure cX7_pressure 2 (some .int), Cond.methodLink RX7 44 yX7_waits, Cond.instanceMethod yX7_waits, Cond.selects RX7 yX7_waits yX7_waits, Cond.code yX7_waits cX7_waits 3 none, Cond.methodLink RX7 35 yX7_empties, Cond.instanceMethod yX7_empties, Cond.selects RX7 yX7_empties yX7_empties, Cond.code yX7_empties cX7_empties 3 none, Cond.methodLink RX7 48 yX7_washes, Cond.instanceMethod yX7_washes, Cond.selects RX7 yX7_washes yX7_washes]
def wsX7_bestFires_r3 : List Cond := [Cond.code yX7_washes cX7_washes 4 none, Cond.methodLink RX7 31 yX7_worthOf, Cond.static yX7_worthOf, Cond.code yX7_worthOf cX7_worthOf 1 (some .int), Cond.methodLink RX7 67 yX7_lowestEmpty, Cond.instanceMethod yX7_lowestEmpty, Cond.selects RX7 yX7_lowestEmpty yX7_lowestEmpty, Cond.code yX7_lowestEmpty cX7_lowestEmpty 4 (some .int), Cond.methodLink RX7 70 yX7_why, Cond.instanceMethod yX7_why, Cond.selects RX7 yX7_why yX7_why, Cond.code yX7_why cX7_why 7 (some .int), Cond.methodLink RX7 60 yX7_puts, Cond.instanceMethod yX7_puts, Cond.selects RX7 yX7_puts yX7_puts, Cond.code yX7_puts cX7_puts 4 none, Cond.methodLink RX7 51 yX7_ticksOf, Cond.static yX7_ticksOf, Cond.code yX7_ticksOf cX7_ticksOf 1 (some .int), Cond.methodLink RX7 74 yX7_leaves, Cond.instanceMethod yX7_leaves, Cond.selects RX7 yX7_leaves yX7_leaves, Cond.code yX7_leaves cX7_leaves 5 (some .int), Cond.methodLink RX7 153 yX7_more]
def wsX7_bestFires_r4 : List Cond := [Cond.instanceMethod yX7_more, Cond.selects RX7 yX7_more yX7_more, Cond.code yX7_more cX7_more 2 (some .int)]
def wsX7_bestFires : List Cond := .code yX7_bestFires cX7_bestFires 8 (some .int) :: ((wsX7_bestFires_r1 ++ (wsX7_bestFires_r2 ++ (wsX7_bestFires_r3 ++ wsX7_bestFires_r4))) ++ wsX70)
def wsX7_loaded : List Cond := .code yX7_loaded cX7_loaded 3 (some .int) :: ([.fieldLink RX7 7 "SteamRationsModel" "s" "[I"] ++ wsX70)
def wsX7_count : List Cond := .code yX7_count cX7_count 2 (some .int) :: ([.fieldLink RX7 7 "SteamRationsModel" "s" "[I", .fieldLink RX7 24 "SteamRationsModel" "states" "I", .fieldLink RX7 114 "SteamRationsModel" "typed" "I", .methodLink RX7 156 yX7_loaded, .instanceMethod yX7_loaded, .selects RX7 yX7_loaded yX7_loaded, .initialized RX7, .code yX7_loaded cX7_loaded 3 (some .int), .methodLink RX7 41 yX7_pressure, .instanceMethod yX7_pressure, .selects RX7 yX7_pressure yX7_pressure, .code yX7_pressure cX7_pressure 2 (some .int)] ++ wsX70)
def wsJ9_min_7cf53 : List Cond := .code yJ9_min_7cf53 cJ9_min_7cf53 2 (some .int) :: ([])
end
section
theorem dX0_init_0 : decode cX0_init 0 = .ok (.aload_n 0, 1) := by decide +kernel
theorem dX0_init_1 : decode cX0_init 1 = .ok (.invokespecial 3, 3) := by decide +kernel
theorem dX0_init_4 : decode cX0_init 4 = .ok (.aload_n 0, 1) := by decide +kernel
theorem dX0_init_5 : decode cX0_init 5 = .ok (.bipush 100, 2) := by decide +kernel
theorem dX0_init_7 : decode cX0_init 7 = .ok (.putfield 9, 3) := by decide +kernel
theorem dX0_init_10 : decode cX0_init 10 = .ok (.return_, 1) := by decide +kernel
theorem dX0_copyFrom_0 : decode cX0_copyFrom 0 = .ok (.aload_n 0, 1) := by decide +kernel
theorem dX0_copyFrom_1 : decode cX0_copyFrom 1 = .ok (.aload_n 1, 1) := by decide +kernel
theorem dX0_copyFrom_2 : decode cX0_copyFrom 2 = .ok (.getfield 15, 3) := by decide +kernel
theorem dX0_copyFrom_5 : decode cX0_copyFrom 5 = .ok (.putfield 15, 3) := by decide +kernel
theorem dX0_copyFrom_8 : decode cX0_copyFrom 8 = .ok (.aload_n 0, 1) := by decide +kernel
theorem dX0_copyFrom_9 : decode cX0_copyFrom 9 = .ok (.aload_n 1, 1) := by decide +kernel
theorem dX0_copyFrom_10 : decode cX0_copyFrom 10 = .ok (.getfield 9, 3) := by decide +kernel
theorem dX0_copyFrom_13 : decode cX0_copyFrom 13 = .ok (.putfield 9, 3) := by decide +kernel
theorem dX0_copyFrom_16 : decode cX0_copyFrom 16 = .ok (.aload_n 0, 1) := by decide +kernel
theorem dX0_copyFrom_17 : decode cX0_copyFrom 17 = .ok (.aload_n 1, 1) := by decide +kernel
theorem dX0_copyFrom_18 : decode cX0_copyFrom 18 = .ok (.getfield 18, 3) := by decide +kernel
theorem dX0_copyFrom_21 : decode cX0_copyFrom 21 = .ok (.putfield 18, 3) := by decide +kernel
theorem dX0_copyFrom_24 : decode cX0_copyFrom 24 = .ok (.aload_n 0, 1) := by decide +kernel
theorem dX0_copyFrom_25 : decode cX0_copyFrom 25 = .ok (.aload_n 1, 1) := by decide +kernel
theorem dX0_copyFrom_26 : decode cX0_copyFrom 26 = .ok (.getfield 21, 3) := by decide +kernel
theorem dX0_copyFrom_29 : decode cX0_copyFrom 29 = .ok (.putfield 21, 3) := by decide +kernel
theorem dX0_copyFrom_32 : decode cX0_copyFrom 32 = .ok (.aload_n 0, 1) := by decide +kernel
theorem dX0_copyFrom_33 : decode cX0_copyFrom 33 = .ok (.aload_n 1, 1) := by decide +kernel
theorem dX0_copyFrom_34 : decode cX0_copyFrom 34 = .ok (.getfield 24, 3) := by decide +kernel
theorem dX0_copyFrom_37 : decode cX0_copyFrom 37 = .ok (.putfield 24, 3) := by decide +kernel
theorem dX0_copyFrom_40 : decode cX0_copyFrom 40 = .ok (.return_, 1) := by decide +kernel
theorem dX0_burn_0 : decode cX0_burn 0 = .ok (.aload_n 0, 1) := by decide +kernel
theorem dX0_burn_1 : decode cX0_burn 1 = .ok (.getfield 21, 3) := by decide +kernel
theorem dX0_burn_4 : decode cX0_burn 4 = .ok (.ifCond .le 15, 3) := by decide +kernel
theorem dX0_burn_7 : decode cX0_burn 7 = .ok (.aload_n 0, 1) := by decide +kernel
theorem dX0_burn_8 : decode cX0_burn 8 = .ok (.dup, 1) := by decide +kernel
theorem dX0_burn_9 : decode cX0_burn 9 = .ok (.getfield 21, 3) := by decide +kernel
theorem dX0_burn_12 : decode cX0_burn 12 = .ok (.iconst 1, 1) := by decide +kernel
theorem dX0_burn_13 : decode cX0_burn 13 = .ok (.isub, 1) := by decide +kernel
theorem dX0_burn_14 : decode cX0_burn 14 = .ok (.putfield 21, 3) := by decide +kernel
theorem dX0_burn_17 : decode cX0_burn 17 = .ok (.iconst 0, 1) := by decide +kernel
theorem dX0_burn_18 : decode cX0_burn 18 = .ok (.ireturn, 1) := by decide +kernel
theorem dX0_burn_19 : decode cX0_burn 19 = .ok (.iload_n 1, 1) := by decide +kernel
theorem dX0_burn_20 : decode cX0_burn 20 = .ok (.aload_n 0, 1) := by decide +kernel
theorem dX0_burn_21 : decode cX0_burn 21 = .ok (.getfield 15, 3) := by decide +kernel
theorem dX0_burn_24 : decode cX0_burn 24 = .ok (.if_icmp .lt 14, 3) := by decide +kernel
theorem dX0_burn_27 : decode cX0_burn 27 = .ok (.aload_n 0, 1) := by decide +kernel
theorem dX0_burn_28 : decode cX0_burn 28 = .ok (.getfield 9, 3) := by decide +kernel
theorem dX0_burn_31 : decode cX0_burn 31 = .ok (.aload_n 0, 1) := by decide +kernel
theorem dX0_burn_32 : decode cX0_burn 32 = .ok (.getfield 15, 3) := by decide +kernel
theorem dX0_burn_35 : decode cX0_burn 35 = .ok (.if_icmp .ge 10, 3) := by decide +kernel
theorem dX0_burn_38 : decode cX0_burn 38 = .ok (.aload_n 0, 1) := by decide +kernel
theorem dX0_burn_39 : decode cX0_burn 39 = .ok (.iconst 0, 1) := by decide +kernel
theorem dX0_burn_40 : decode cX0_burn 40 = .ok (.putfield 15, 3) := by decide +kernel
theorem dX0_burn_43 : decode cX0_burn 43 = .ok (.iconst 0, 1) := by decide +kernel
theorem dX0_burn_44 : decode cX0_burn 44 = .ok (.ireturn, 1) := by decide +kernel
theorem dX0_burn_45 : decode cX0_burn 45 = .ok (.aload_n 0, 1) := by decide +kernel
theorem dX0_burn_46 : decode cX0_burn 46 = .ok (.dup, 1) := by decide +kernel
theorem dX0_burn_47 : decode cX0_burn 47 = .ok (.getfield 9, 3) := by decide +kernel
theorem dX0_burn_50 : decode cX0_burn 50 = .ok (.aload_n 0, 1) := by decide +kernel
theorem dX0_burn_51 : decode cX0_burn 51 = .ok (.getfield 15, 3) := by decide +kernel
theorem dX0_burn_54 : decode cX0_burn 54 = .ok (.isub, 1) := by decide +kernel
theorem dX0_burn_55 : decode cX0_burn 55 = .ok (.putfield 9, 3) := by decide +kernel
theorem dX0_burn_58 : decode cX0_burn 58 = .ok (.aload_n 0, 1) := by decide +kernel
theorem dX0_burn_59 : decode cX0_burn 59 = .ok (.dup, 1) := by decide +kernel
theorem dX0_burn_60 : decode cX0_burn 60 = .ok (.getfield 18, 3) := by decide +kernel
theorem dX0_burn_63 : decode cX0_burn 63 = .ok (.iconst 3, 1) := by decide +kernel
theorem dX0_burn_64 : decode cX0_burn 64 = .ok (.aload_n 0, 1) := by decide +kernel
theorem dX0_burn_65 : decode cX0_burn 65 = .ok (.getfield 15, 3) := by decide +kernel
theorem dX0_burn_68 : decode cX0_burn 68 = .ok (.imul, 1) := by decide +kernel
theorem dX0_burn_69 : decode cX0_burn 69 = .ok (.iadd, 1) := by decide +kernel
theorem dX0_burn_70 : decode cX0_burn 70 = .ok (.putfield 18, 3) := by decide +kernel
theorem dX0_burn_73 : decode cX0_burn 73 = .ok (.aload_n 0, 1) := by decide +kernel
theorem dX0_burn_74 : decode cX0_burn 74 = .ok (.getfield 15, 3) := by decide +kernel
theorem dX0_burn_77 : decode cX0_burn 77 = .ok (.ireturn, 1) := by decide +kernel
theorem dX0_coolDown_0 : decode cX0_coolDown 0 = .ok (.aload_n 0, 1) := by decide +kernel
theorem dX0_coolDown_1 : decode cX0_coolDown 1 = .ok (.getfield 18, 3) := by decide +kernel
theorem dX0_coolDown_4 : decode cX0_coolDown 4 = .ok (.ifCond .le 13, 3) := by decide +kernel
theorem dX0_coolDown_7 : decode cX0_coolDown 7 = .ok (.aload_n 0, 1) := by decide +kernel
theorem dX0_coolDown_8 : decode cX0_coolDown 8 = .ok (.dup, 1) := by decide +kernel
theorem dX0_coolDown_9 : decode cX0_coolDown 9 = .ok (.getfield 18, 3) := by decide +kernel
theorem dX0_coolDown_12 : decode cX0_coolDown 12 = .ok (.iconst 1, 1) := by decide +kernel
theorem dX0_coolDown_13 : decode cX0_coolDown 13 = .ok (.isub, 1) := by decide +kernel
theorem dX0_coolDown_14 : decode cX0_coolDown 14 = .ok (.putfield 18, 3) := by decide +kernel
theorem dX0_coolDown_17 : decode cX0_coolDown 17 = .ok (.aload_n 0, 1) := by decide +kernel
theorem dX0_coolDown_18 : decode cX0_coolDown 18 = .ok (.getfield 18, 3) := by decide +kernel
theorem dX0_coolDown_21 : decode cX0_coolDown 21 = .ok (.bipush 70, 2) := by decide +kernel
theorem dX0_coolDown_23 : decode cX0_coolDown 23 = .ok (.if_icmp .le 30, 3) := by decide +kernel
theorem dX0_coolDown_26 : decode cX0_coolDown 26 = .ok (.aload_n 0, 1) := by decide +kernel
theorem dX0_coolDown_27 : decode cX0_coolDown 27 = .ok (.bipush 30, 2) := by decide +kernel
theorem dX0_coolDown_29 : decode cX0_coolDown 29 = .ok (.putfield 18, 3) := by decide +kernel
theorem dX0_coolDown_32 : decode cX0_coolDown 32 = .ok (.aload_n 0, 1) := by decide +kernel
theorem dX0_coolDown_33 : decode cX0_coolDown 33 = .ok (.iconst 0, 1) := by decide +kernel
theorem dX0_coolDown_34 : decode cX0_coolDown 34 = .ok (.putfield 15, 3) := by decide +kernel
theorem dX0_coolDown_37 : decode cX0_coolDown 37 = .ok (.aload_n 0, 1) := by decide +kernel
theorem dX0_coolDown_38 : decode cX0_coolDown 38 = .ok (.bipush 10, 2) := by decide +kernel
theorem dX0_coolDown_40 : decode cX0_coolDown 40 = .ok (.putfield 21, 3) := by decide +kernel
theorem dX0_coolDown_43 : decode cX0_coolDown 43 = .ok (.aload_n 0, 1) := by decide +kernel
theorem dX0_coolDown_44 : decode cX0_coolDown 44 = .ok (.dup, 1) := by decide +kernel
theorem dX0_coolDown_45 : decode cX0_coolDown 45 = .ok (.getfield 24, 3) := by decide +kernel
theorem dX0_coolDown_48 : decode cX0_coolDown 48 = .ok (.iconst 1, 1) := by decide +kernel
theorem dX0_coolDown_49 : decode cX0_coolDown 49 = .ok (.iadd, 1) := by decide +kernel
theorem dX0_coolDown_50 : decode cX0_coolDown 50 = .ok (.putfield 24, 3) := by decide +kernel
theorem dX0_coolDown_53 : decode cX0_coolDown 53 = .ok (.return_, 1) := by decide +kernel
set_option maxRecDepth 20000 in
theorem ggX1_init_X2_init : GoodIn wsX1_init wsX2_init := goodIn_r _ [10, 11, 2, 3, 12, 13, 14, 15, 16, 17, 18, 19, 20, 21, 22, 23, 24, 25, 26, 27, 28, 29, 30, 31, 32, 33, 34, 35, 36, 37, 38, 39, 40, 41, 58, 59, 60, 61, 62, 42, 43, 44, 45, 46, 47, 48, 49, 50, 51, 52, 53, 54, 55, 63, 64, 65, 66, 67] (by decide +kernel) (by decide +kernel)
set_option maxRecDepth 20000 in
theorem gX1_init_X2_init : GoodIn wsX1_init (wsX2_init) := ggX1_init_X2_init
theorem dX1_init_0 : decode cX1_init 0 = .ok (.aload_n 0, 1) := by decide +kernel
theorem dX1_init_1 : decode cX1_init 1 = .ok (.invokespecial 3, 3) := by decide +kernel
theorem dX1_init_4 : decode cX1_init 4 = .ok (.aload_n 0, 1) := by decide +kernel
theorem dX1_init_5 : decode cX1_init 5 = .ok (.iconst 4, 1) := by decide +kernel
theorem dX1_init_6 : decode cX1_init 6 = .ok (.anewarray 9, 3) := by decide +kernel
theorem dX1_init_9 : decode cX1_init 9 = .ok (.dup, 1) := by decide +kernel
theorem dX1_init_10 : decode cX1_init 10 = .ok (.iconst 0, 1) := by decide +kernel
theorem dX1_init_11 : decode cX1_init 11 = .ok (.new 9, 3) := by decide +kernel
theorem dX1_init_14 : decode cX1_init 14 = .ok (.dup, 1) := by decide +kernel
theorem dX1_init_15 : decode cX1_init 15 = .ok (.invokespecial 11, 3) := by decide +kernel
theorem dX1_init_18 : decode cX1_init 18 = .ok (.aastore, 1) := by decide +kernel
theorem dX1_init_19 : decode cX1_init 19 = .ok (.dup, 1) := by decide +kernel
theorem dX1_init_20 : decode cX1_init 20 = .ok (.iconst 1, 1) := by decide +kernel
theorem dX1_init_21 : decode cX1_init 21 = .ok (.new 9, 3) := by decide +kernel
theorem dX1_init_24 : decode cX1_init 24 = .ok (.dup, 1) := by decide +kernel
theorem dX1_init_25 : decode cX1_init 25 = .ok (.invokespecial 11, 3) := by decide +kernel
theorem dX1_init_28 : decode cX1_init 28 = .ok (.aastore, 1) := by decide +kernel
theorem dX1_init_29 : decode cX1_init 29 = .ok (.dup, 1) := by decide +kernel
theorem dX1_init_30 : decode cX1_init 30 = .ok (.iconst 2, 1) := by decide +kernel
theorem dX1_init_31 : decode cX1_init 31 = .ok (.new 9, 3) := by decide +kernel
theorem dX1_init_34 : decode cX1_init 34 = .ok (.dup, 1) := by decide +kernel
theorem dX1_init_35 : decode cX1_init 35 = .ok (.invokespecial 11, 3) := by decide +kernel
theorem dX1_init_38 : decode cX1_init 38 = .ok (.aastore, 1) := by decide +kernel
theorem dX1_init_39 : decode cX1_init 39 = .ok (.dup, 1) := by decide +kernel
theorem dX1_init_40 : decode cX1_init 40 = .ok (.iconst 3, 1) := by decide +kernel
theorem dX1_init_41 : decode cX1_init 41 = .ok (.new 9, 3) := by decide +kernel
theorem dX1_init_44 : decode cX1_init 44 = .ok (.dup, 1) := by decide +kernel
theorem dX1_init_45 : decode cX1_init 45 = .ok (.invokespecial 11, 3) := by decide +kernel
theorem dX1_init_48 : decode cX1_init 48 = .ok (.aastore, 1) := by decide +kernel
theorem dX1_init_49 : decode cX1_init 49 = .ok (.putfield 12, 3) := by decide +kernel
theorem dX1_init_52 : decode cX1_init 52 = .ok (.return_, 1) := by decide +kernel
set_option maxRecDepth 20000 in
theorem ggX1_push_X1_dropOldest : GoodIn wsX1_push wsX1_dropOldest := goodIn_r _ [7, 2, 1, 52, 53] (by decide +kernel) (by decide +kernel)
set_option maxRecDepth 20000 in
theorem gX1_push_X1_dropOldest : GoodIn wsX1_push (wsV RX1 22 RX1 yX1_dropOldest wsX1_dropOldest) := goodIn_app (goodIn_of _ (by decide +kernel)) ggX1_push_X1_dropOldest
set_option maxRecDepth 20000 in
theorem ggX1_push_X2_copyFrom : GoodIn wsX1_push wsX2_copyFrom := goodIn_r _ [12, 13, 14, 15, 16, 17, 18, 19, 20, 21, 22, 23, 24, 25, 26, 27, 28, 29, 30, 31, 32, 33, 34, 35, 36, 37, 38, 39, 40, 41, 42, 43, 44, 45, 46, 47, 48, 49, 50, 51, 54, 55, 56, 57, 58, 59, 60, 61, 62, 63, 64, 65, 66, 67, 68, 69, 70, 71, 72, 73, 74, 75, 76, 77] (by decide +kernel) (by decide +kernel)
set_option maxRecDepth 20000 in
theorem gX1_push_X2_copyFrom : GoodIn wsX1_push (wsV RX1 25 RX2 yX2_copyFrom wsX2_copyFrom) := goodIn_app (goodIn_of _ (by decide +kernel)) ggX1_push_X2_copyFrom
theorem dX1_push_0 : decode cX1_push 0 = .ok (.aload_n 0, 1) := by decide +kernel
theorem dX1_push_1 : decode cX1_push 1 = .ok (.getfield 18, 3) := by decide +kernel
theorem dX1_push_4 : decode cX1_push 4 = .ok (.aload_n 0, 1) := by decide +kernel
theorem dX1_push_5 : decode cX1_push 5 = .ok (.getfield 12, 3) := by decide +kernel
theorem dX1_push_8 : decode cX1_push 8 = .ok (.arraylength, 1) := by decide +kernel
theorem dX1_push_9 : decode cX1_push 9 = .ok (.if_icmp .lt 7, 3) := by decide +kernel
theorem dX1_push_12 : decode cX1_push 12 = .ok (.aload_n 0, 1) := by decide +kernel
theorem dX1_push_13 : decode cX1_push 13 = .ok (.invokevirtual 22, 3) := by decide +kernel
theorem dX1_push_16 : decode cX1_push 16 = .ok (.aload_n 0, 1) := by decide +kernel
theorem dX1_push_17 : decode cX1_push 17 = .ok (.getfield 18, 3) := by decide +kernel
theorem dX1_push_20 : decode cX1_push 20 = .ok (.ifCond .lt 38, 3) := by decide +kernel
theorem dX1_push_23 : decode cX1_push 23 = .ok (.aload_n 0, 1) := by decide +kernel
theorem dX1_push_24 : decode cX1_push 24 = .ok (.getfield 18, 3) := by decide +kernel
theorem dX1_push_27 : decode cX1_push 27 = .ok (.aload_n 0, 1) := by decide +kernel
theorem dX1_push_28 : decode cX1_push 28 = .ok (.getfield 12, 3) := by decide +kernel
theorem dX1_push_31 : decode cX1_push 31 = .ok (.arraylength, 1) := by decide +kernel
theorem dX1_push_32 : decode cX1_push 32 = .ok (.if_icmp .ge 26, 3) := by decide +kernel
theorem dX1_push_35 : decode cX1_push 35 = .ok (.aload_n 0, 1) := by decide +kernel
theorem dX1_push_36 : decode cX1_push 36 = .ok (.getfield 12, 3) := by decide +kernel
theorem dX1_push_39 : decode cX1_push 39 = .ok (.aload_n 0, 1) := by decide +kernel
theorem dX1_push_40 : decode cX1_push 40 = .ok (.getfield 18, 3) := by decide +kernel
theorem dX1_push_43 : decode cX1_push 43 = .ok (.aaload, 1) := by decide +kernel
theorem dX1_push_44 : decode cX1_push 44 = .ok (.aload_n 1, 1) := by decide +kernel
theorem dX1_push_45 : decode cX1_push 45 = .ok (.invokevirtual 25, 3) := by decide +kernel
theorem dX1_push_48 : decode cX1_push 48 = .ok (.aload_n 0, 1) := by decide +kernel
theorem dX1_push_49 : decode cX1_push 49 = .ok (.dup, 1) := by decide +kernel
theorem dX1_push_50 : decode cX1_push 50 = .ok (.getfield 18, 3) := by decide +kernel
theorem dX1_push_53 : decode cX1_push 53 = .ok (.iconst 1, 1) := by decide +kernel
theorem dX1_push_54 : decode cX1_push 54 = .ok (.iadd, 1) := by decide +kernel
theorem dX1_push_55 : decode cX1_push 55 = .ok (.putfield 18, 3) := by decide +kernel
theorem dX1_push_58 : decode cX1_push 58 = .ok (.return_, 1) := by decide +kernel
set_option maxRecDepth 20000 in
theorem ggX1_takeBack_X2_copyFrom : GoodIn wsX1_takeBack wsX2_copyFrom := goodIn_r _ [7, 8, 9, 10, 11, 12, 13, 14, 15, 16, 17, 18, 19, 20, 21, 22, 23, 24, 25, 26, 27, 28, 29, 30, 31, 32, 33, 34, 35, 36, 37, 38, 39, 40, 41, 42, 43, 44, 45, 46, 49, 50, 51, 52, 53, 54, 55, 56, 57, 58, 59, 60, 61, 62, 63, 64, 65, 66, 67, 68, 69, 70, 71, 72] (by decide +kernel) (by decide +kernel)
set_option maxRecDepth 20000 in
theorem gX1_takeBack_X2_copyFrom : GoodIn wsX1_takeBack (wsV RX1 25 RX2 yX2_copyFrom wsX2_copyFrom) := goodIn_app (goodIn_of _ (by decide +kernel)) ggX1_takeBack_X2_copyFrom
theorem dX1_takeBack_0 : decode cX1_takeBack 0 = .ok (.aload_n 0, 1) := by decide +kernel
theorem dX1_takeBack_1 : decode cX1_takeBack 1 = .ok (.getfield 18, 3) := by decide +kernel
theorem dX1_takeBack_4 : decode cX1_takeBack 4 = .ok (.iconst 1, 1) := by decide +kernel
theorem dX1_takeBack_5 : decode cX1_takeBack 5 = .ok (.if_icmp .lt 15, 3) := by decide +kernel
theorem dX1_takeBack_8 : decode cX1_takeBack 8 = .ok (.aload_n 0, 1) := by decide +kernel
theorem dX1_takeBack_9 : decode cX1_takeBack 9 = .ok (.getfield 18, 3) := by decide +kernel
theorem dX1_takeBack_12 : decode cX1_takeBack 12 = .ok (.aload_n 0, 1) := by decide +kernel
theorem dX1_takeBack_13 : decode cX1_takeBack 13 = .ok (.getfield 12, 3) := by decide +kernel
theorem dX1_takeBack_16 : decode cX1_takeBack 16 = .ok (.arraylength, 1) := by decide +kernel
theorem dX1_takeBack_17 : decode cX1_takeBack 17 = .ok (.if_icmp .le 6, 3) := by decide +kernel
theorem dX1_takeBack_20 : decode cX1_takeBack 20 = .ok (.bipush (-5), 2) := by decide +kernel
theorem dX1_takeBack_22 : decode cX1_takeBack 22 = .ok (.ireturn, 1) := by decide +kernel
theorem dX1_takeBack_23 : decode cX1_takeBack 23 = .ok (.aload_n 0, 1) := by decide +kernel
theorem dX1_takeBack_24 : decode cX1_takeBack 24 = .ok (.dup, 1) := by decide +kernel
theorem dX1_takeBack_25 : decode cX1_takeBack 25 = .ok (.getfield 18, 3) := by decide +kernel
theorem dX1_takeBack_28 : decode cX1_takeBack 28 = .ok (.iconst 1, 1) := by decide +kernel
theorem dX1_takeBack_29 : decode cX1_takeBack 29 = .ok (.isub, 1) := by decide +kernel
theorem dX1_takeBack_30 : decode cX1_takeBack 30 = .ok (.putfield 18, 3) := by decide +kernel
theorem dX1_takeBack_33 : decode cX1_takeBack 33 = .ok (.aload_n 1, 1) := by decide +kernel
theorem dX1_takeBack_34 : decode cX1_takeBack 34 = .ok (.aload_n 0, 1) := by decide +kernel
theorem dX1_takeBack_35 : decode cX1_takeBack 35 = .ok (.getfield 12, 3) := by decide +kernel
theorem dX1_takeBack_38 : decode cX1_takeBack 38 = .ok (.aload_n 0, 1) := by decide +kernel
theorem dX1_takeBack_39 : decode cX1_takeBack 39 = .ok (.getfield 18, 3) := by decide +kernel
theorem dX1_takeBack_42 : decode cX1_takeBack 42 = .ok (.aaload, 1) := by decide +kernel
theorem dX1_takeBack_43 : decode cX1_takeBack 43 = .ok (.invokevirtual 25, 3) := by decide +kernel
theorem dX1_takeBack_46 : decode cX1_takeBack 46 = .ok (.aload_n 0, 1) := by decide +kernel
theorem dX1_takeBack_47 : decode cX1_takeBack 47 = .ok (.getfield 18, 3) := by decide +kernel
theorem dX1_takeBack_50 : decode cX1_takeBack 50 = .ok (.ireturn, 1) := by decide +kernel
theorem dX1_dropOldest_0 : decode cX1_dropOldest 0 = .ok (.aload_n 0, 1) := by decide +kernel
theorem dX1_dropOldest_1 : decode cX1_dropOldest 1 = .ok (.getfield 12, 3) := by decide +kernel
theorem dX1_dropOldest_4 : decode cX1_dropOldest 4 = .ok (.arraylength, 1) := by decide +kernel
theorem dX1_dropOldest_5 : decode cX1_dropOldest 5 = .ok (.ifCond .ne 4, 3) := by decide +kernel
theorem dX1_dropOldest_8 : decode cX1_dropOldest 8 = .ok (.return_, 1) := by decide +kernel
theorem dX1_dropOldest_9 : decode cX1_dropOldest 9 = .ok (.aload_n 0, 1) := by decide +kernel
theorem dX1_dropOldest_10 : decode cX1_dropOldest 10 = .ok (.getfield 12, 3) := by decide +kernel
theorem dX1_dropOldest_13 : decode cX1_dropOldest 13 = .ok (.iconst 0, 1) := by decide +kernel
theorem dX1_dropOldest_14 : decode cX1_dropOldest 14 = .ok (.aaload, 1) := by decide +kernel
theorem dX1_dropOldest_15 : decode cX1_dropOldest 15 = .ok (.astore_n 1, 1) := by decide +kernel
theorem dX1_dropOldest_16 : decode cX1_dropOldest 16 = .ok (.iconst 1, 1) := by decide +kernel
theorem dX1_dropOldest_17 : decode cX1_dropOldest 17 = .ok (.istore_n 2, 1) := by decide +kernel
theorem dX1_dropOldest_18 : decode cX1_dropOldest 18 = .ok (.iload_n 2, 1) := by decide +kernel
theorem dX1_dropOldest_19 : decode cX1_dropOldest 19 = .ok (.aload_n 0, 1) := by decide +kernel
theorem dX1_dropOldest_20 : decode cX1_dropOldest 20 = .ok (.getfield 12, 3) := by decide +kernel
theorem dX1_dropOldest_23 : decode cX1_dropOldest 23 = .ok (.arraylength, 1) := by decide +kernel
theorem dX1_dropOldest_24 : decode cX1_dropOldest 24 = .ok (.if_icmp .ge 23, 3) := by decide +kernel
theorem dX1_dropOldest_27 : decode cX1_dropOldest 27 = .ok (.aload_n 0, 1) := by decide +kernel
theorem dX1_dropOldest_28 : decode cX1_dropOldest 28 = .ok (.getfield 12, 3) := by decide +kernel
theorem dX1_dropOldest_31 : decode cX1_dropOldest 31 = .ok (.iload_n 2, 1) := by decide +kernel
theorem dX1_dropOldest_32 : decode cX1_dropOldest 32 = .ok (.iconst 1, 1) := by decide +kernel
theorem dX1_dropOldest_33 : decode cX1_dropOldest 33 = .ok (.isub, 1) := by decide +kernel
theorem dX1_dropOldest_34 : decode cX1_dropOldest 34 = .ok (.aload_n 0, 1) := by decide +kernel
theorem dX1_dropOldest_35 : decode cX1_dropOldest 35 = .ok (.getfield 12, 3) := by decide +kernel
theorem dX1_dropOldest_38 : decode cX1_dropOldest 38 = .ok (.iload_n 2, 1) := by decide +kernel
theorem dX1_dropOldest_39 : decode cX1_dropOldest 39 = .ok (.aaload, 1) := by decide +kernel
theorem dX1_dropOldest_40 : decode cX1_dropOldest 40 = .ok (.aastore, 1) := by decide +kernel
theorem dX1_dropOldest_41 : decode cX1_dropOldest 41 = .ok (.iinc 2 1, 3) := by decide +kernel
theorem dX1_dropOldest_44 : decode cX1_dropOldest 44 = .ok (.goto (-26), 3) := by decide +kernel
theorem dX1_dropOldest_47 : decode cX1_dropOldest 47 = .ok (.aload_n 0, 1) := by decide +kernel
theorem dX1_dropOldest_48 : decode cX1_dropOldest 48 = .ok (.getfield 12, 3) := by decide +kernel
theorem dX1_dropOldest_51 : decode cX1_dropOldest 51 = .ok (.aload_n 0, 1) := by decide +kernel
theorem dX1_dropOldest_52 : decode cX1_dropOldest 52 = .ok (.getfield 12, 3) := by decide +kernel
theorem dX1_dropOldest_55 : decode cX1_dropOldest 55 = .ok (.arraylength, 1) := by decide +kernel
theorem dX1_dropOldest_56 : decode cX1_dropOldest 56 = .ok (.iconst 1, 1) := by decide +kernel
theorem dX1_dropOldest_57 : decode cX1_dropOldest 57 = .ok (.isub, 1) := by decide +kernel
theorem dX1_dropOldest_58 : decode cX1_dropOldest 58 = .ok (.aload_n 1, 1) := by decide +kernel
theorem dX1_dropOldest_59 : decode cX1_dropOldest 59 = .ok (.aastore, 1) := by decide +kernel
theorem dX1_dropOldest_60 : decode cX1_dropOldest 60 = .ok (.aload_n 0, 1) := by decide +kernel
theorem dX1_dropOldest_61 : decode cX1_dropOldest 61 = .ok (.dup, 1) := by decide +kernel
theorem dX1_dropOldest_62 : decode cX1_dropOldest 62 = .ok (.getfield 18, 3) := by decide +kernel
theorem dX1_dropOldest_65 : decode cX1_dropOldest 65 = .ok (.iconst 1, 1) := by decide +kernel
theorem dX1_dropOldest_66 : decode cX1_dropOldest 66 = .ok (.isub, 1) := by decide +kernel
theorem dX1_dropOldest_67 : decode cX1_dropOldest 67 = .ok (.putfield 18, 3) := by decide +kernel
theorem dX1_dropOldest_70 : decode cX1_dropOldest 70 = .ok (.return_, 1) := by decide +kernel
set_option maxRecDepth 20000 in
theorem ggX2_init_X0_init : GoodIn wsX2_init wsX0_init := goodIn_r _ [20, 21, 2, 3, 22, 34, 35, 36, 37, 38] (by decide +kernel) (by decide +kernel)
set_option maxRecDepth 20000 in
theorem gX2_init_X0_init : GoodIn wsX2_init (wsX0_init) := ggX2_init_X0_init
set_option maxRecDepth 20000 in
theorem ggX2_init_X3_init : GoodIn wsX2_init wsX3_init := goodIn_r _ [25, 26, 2, 3, 27, 53, 54, 55] (by decide +kernel) (by decide +kernel)
set_option maxRecDepth 20000 in
theorem gX2_init_X3_init : GoodIn wsX2_init (wsX3_init) := ggX2_init_X3_init
set_option maxRecDepth 20000 in
theorem ggX2_init_X5_init : GoodIn wsX2_init wsX5_init := goodIn_r _ [30, 31, 2, 3, 32, 33, 56, 57] (by decide +kernel) (by decide +kernel)
set_option maxRecDepth 20000 in
theorem gX2_init_X5_init : GoodIn wsX2_init (wsX5_init) := ggX2_init_X5_init
theorem dX2_init_0 : decode cX2_init 0 = .ok (.aload_n 0, 1) := by decide +kernel
theorem dX2_init_1 : decode cX2_init 1 = .ok (.invokespecial 3, 3) := by decide +kernel
theorem dX2_init_4 : decode cX2_init 4 = .ok (.aload_n 0, 1) := by decide +kernel
theorem dX2_init_5 : decode cX2_init 5 = .ok (.iconst 2, 1) := by decide +kernel
theorem dX2_init_6 : decode cX2_init 6 = .ok (.anewarray 9, 3) := by decide +kernel
theorem dX2_init_9 : decode cX2_init 9 = .ok (.dup, 1) := by decide +kernel
theorem dX2_init_10 : decode cX2_init 10 = .ok (.iconst 0, 1) := by decide +kernel
theorem dX2_init_11 : decode cX2_init 11 = .ok (.new 9, 3) := by decide +kernel
theorem dX2_init_14 : decode cX2_init 14 = .ok (.dup, 1) := by decide +kernel
theorem dX2_init_15 : decode cX2_init 15 = .ok (.invokespecial 11, 3) := by decide +kernel
theorem dX2_init_18 : decode cX2_init 18 = .ok (.aastore, 1) := by decide +kernel
theorem dX2_init_19 : decode cX2_init 19 = .ok (.dup, 1) := by decide +kernel
theorem dX2_init_20 : decode cX2_init 20 = .ok (.iconst 1, 1) := by decide +kernel
theorem dX2_init_21 : decode cX2_init 21 = .ok (.new 9, 3) := by decide +kernel
theorem dX2_init_24 : decode cX2_init 24 = .ok (.dup, 1) := by decide +kernel
theorem dX2_init_25 : decode cX2_init 25 = .ok (.invokespecial 11, 3) := by decide +kernel
theorem dX2_init_28 : decode cX2_init 28 = .ok (.aastore, 1) := by decide +kernel
theorem dX2_init_29 : decode cX2_init 29 = .ok (.putfield 12, 3) := by decide +kernel
theorem dX2_init_32 : decode cX2_init 32 = .ok (.aload_n 0, 1) := by decide +kernel
theorem dX2_init_33 : decode cX2_init 33 = .ok (.iconst 4, 1) := by decide +kernel
theorem dX2_init_34 : decode cX2_init 34 = .ok (.anewarray 18, 3) := by decide +kernel
theorem dX2_init_37 : decode cX2_init 37 = .ok (.dup, 1) := by decide +kernel
theorem dX2_init_38 : decode cX2_init 38 = .ok (.iconst 0, 1) := by decide +kernel
theorem dX2_init_39 : decode cX2_init 39 = .ok (.new 18, 3) := by decide +kernel
theorem dX2_init_42 : decode cX2_init 42 = .ok (.dup, 1) := by decide +kernel
theorem dX2_init_43 : decode cX2_init 43 = .ok (.invokespecial 20, 3) := by decide +kernel
theorem dX2_init_46 : decode cX2_init 46 = .ok (.aastore, 1) := by decide +kernel
theorem dX2_init_47 : decode cX2_init 47 = .ok (.dup, 1) := by decide +kernel
theorem dX2_init_48 : decode cX2_init 48 = .ok (.iconst 1, 1) := by decide +kernel
theorem dX2_init_49 : decode cX2_init 49 = .ok (.new 18, 3) := by decide +kernel
theorem dX2_init_52 : decode cX2_init 52 = .ok (.dup, 1) := by decide +kernel
theorem dX2_init_53 : decode cX2_init 53 = .ok (.invokespecial 20, 3) := by decide +kernel
theorem dX2_init_56 : decode cX2_init 56 = .ok (.aastore, 1) := by decide +kernel
theorem dX2_init_57 : decode cX2_init 57 = .ok (.dup, 1) := by decide +kernel
theorem dX2_init_58 : decode cX2_init 58 = .ok (.iconst 2, 1) := by decide +kernel
theorem dX2_init_59 : decode cX2_init 59 = .ok (.new 18, 3) := by decide +kernel
theorem dX2_init_62 : decode cX2_init 62 = .ok (.dup, 1) := by decide +kernel
theorem dX2_init_63 : decode cX2_init 63 = .ok (.invokespecial 20, 3) := by decide +kernel
theorem dX2_init_66 : decode cX2_init 66 = .ok (.aastore, 1) := by decide +kernel
theorem dX2_init_67 : decode cX2_init 67 = .ok (.dup, 1) := by decide +kernel
theorem dX2_init_68 : decode cX2_init 68 = .ok (.iconst 3, 1) := by decide +kernel
theorem dX2_init_69 : decode cX2_init 69 = .ok (.new 18, 3) := by decide +kernel
theorem dX2_init_72 : decode cX2_init 72 = .ok (.dup, 1) := by decide +kernel
theorem dX2_init_73 : decode cX2_init 73 = .ok (.invokespecial 20, 3) := by decide +kernel
theorem dX2_init_76 : decode cX2_init 76 = .ok (.aastore, 1) := by decide +kernel
theorem dX2_init_77 : decode cX2_init 77 = .ok (.putfield 21, 3) := by decide +kernel
theorem dX2_init_80 : decode cX2_init 80 = .ok (.aload_n 0, 1) := by decide +kernel
theorem dX2_init_81 : decode cX2_init 81 = .ok (.new 25, 3) := by decide +kernel
theorem dX2_init_84 : decode cX2_init 84 = .ok (.dup, 1) := by decide +kernel
theorem dX2_init_85 : decode cX2_init 85 = .ok (.invokespecial 27, 3) := by decide +kernel
theorem dX2_init_88 : decode cX2_init 88 = .ok (.putfield 28, 3) := by decide +kernel
theorem dX2_init_91 : decode cX2_init 91 = .ok (.aload_n 0, 1) := by decide +kernel
theorem dX2_init_92 : decode cX2_init 92 = .ok (.bipush 50, 2) := by decide +kernel
theorem dX2_init_94 : decode cX2_init 94 = .ok (.putfield 32, 3) := by decide +kernel
theorem dX2_init_97 : decode cX2_init 97 = .ok (.aload_n 0, 1) := by decide +kernel
theorem dX2_init_98 : decode cX2_init 98 = .ok (.bipush 40, 2) := by decide +kernel
theorem dX2_init_100 : decode cX2_init 100 = .ok (.putfield 36, 3) := by decide +kernel
theorem dX2_init_103 : decode cX2_init 103 = .ok (.return_, 1) := by decide +kernel
set_option maxRecDepth 20000 in
theorem ggX2_copyFrom_X0_copyFrom : GoodIn wsX2_copyFrom wsX0_copyFrom := goodIn_r _ [19, 20, 21, 22, 23, 24, 54, 55, 56, 57, 58] (by decide +kernel) (by decide +kernel)
set_option maxRecDepth 20000 in
theorem gX2_copyFrom_X0_copyFrom : GoodIn wsX2_copyFrom (wsV RX2 39 RX0 yX0_copyFrom wsX0_copyFrom) := goodIn_app (goodIn_of _ (by decide +kernel)) ggX2_copyFrom_X0_copyFrom
set_option maxRecDepth 20000 in
theorem ggX2_copyFrom_X3_copyFrom : GoodIn wsX2_copyFrom wsX3_copyFrom := goodIn_r _ [29, 30, 31, 32, 59, 60, 61] (by decide +kernel) (by decide +kernel)
set_option maxRecDepth 20000 in
theorem gX2_copyFrom_X3_copyFrom : GoodIn wsX2_copyFrom (wsV RX2 43 RX3 yX3_copyFrom wsX3_copyFrom) := goodIn_app (goodIn_of _ (by decide +kernel)) ggX2_copyFrom_X3_copyFrom
set_option maxRecDepth 20000 in
theorem ggX2_copyFrom_X5_copyFrom : GoodIn wsX2_copyFrom wsX5_copyFrom := goodIn_r _ [37, 38, 39, 62, 63] (by decide +kernel) (by decide +kernel)
set_option maxRecDepth 20000 in
theorem gX2_copyFrom_X5_copyFrom : GoodIn wsX2_copyFrom (wsV RX2 46 RX5 yX5_copyFrom wsX5_copyFrom) := goodIn_app (goodIn_of _ (by decide +kernel)) ggX2_copyFrom_X5_copyFrom
theorem dX2_copyFrom_0 : decode cX2_copyFrom 0 = .ok (.iconst 0, 1) := by decide +kernel
theorem dX2_copyFrom_1 : decode cX2_copyFrom 1 = .ok (.istore_n 2, 1) := by decide +kernel
theorem dX2_copyFrom_2 : decode cX2_copyFrom 2 = .ok (.iload_n 2, 1) := by decide +kernel
theorem dX2_copyFrom_3 : decode cX2_copyFrom 3 = .ok (.aload_n 0, 1) := by decide +kernel
theorem dX2_copyFrom_4 : decode cX2_copyFrom 4 = .ok (.getfield 12, 3) := by decide +kernel
theorem dX2_copyFrom_7 : decode cX2_copyFrom 7 = .ok (.arraylength, 1) := by decide +kernel
theorem dX2_copyFrom_8 : decode cX2_copyFrom 8 = .ok (.if_icmp .ge 33, 3) := by decide +kernel
theorem dX2_copyFrom_11 : decode cX2_copyFrom 11 = .ok (.iload_n 2, 1) := by decide +kernel
theorem dX2_copyFrom_12 : decode cX2_copyFrom 12 = .ok (.aload_n 1, 1) := by decide +kernel
theorem dX2_copyFrom_13 : decode cX2_copyFrom 13 = .ok (.getfield 12, 3) := by decide +kernel
theorem dX2_copyFrom_16 : decode cX2_copyFrom 16 = .ok (.arraylength, 1) := by decide +kernel
theorem dX2_copyFrom_17 : decode cX2_copyFrom 17 = .ok (.if_icmp .ge 24, 3) := by decide +kernel
theorem dX2_copyFrom_20 : decode cX2_copyFrom 20 = .ok (.aload_n 0, 1) := by decide +kernel
theorem dX2_copyFrom_21 : decode cX2_copyFrom 21 = .ok (.getfield 12, 3) := by decide +kernel
theorem dX2_copyFrom_24 : decode cX2_copyFrom 24 = .ok (.iload_n 2, 1) := by decide +kernel
theorem dX2_copyFrom_25 : decode cX2_copyFrom 25 = .ok (.aaload, 1) := by decide +kernel
theorem dX2_copyFrom_26 : decode cX2_copyFrom 26 = .ok (.aload_n 1, 1) := by decide +kernel
theorem dX2_copyFrom_27 : decode cX2_copyFrom 27 = .ok (.getfield 12, 3) := by decide +kernel
theorem dX2_copyFrom_30 : decode cX2_copyFrom 30 = .ok (.iload_n 2, 1) := by decide +kernel
theorem dX2_copyFrom_31 : decode cX2_copyFrom 31 = .ok (.aaload, 1) := by decide +kernel
theorem dX2_copyFrom_32 : decode cX2_copyFrom 32 = .ok (.invokevirtual 39, 3) := by decide +kernel
theorem dX2_copyFrom_35 : decode cX2_copyFrom 35 = .ok (.iinc 2 1, 3) := by decide +kernel
theorem dX2_copyFrom_38 : decode cX2_copyFrom 38 = .ok (.goto (-36), 3) := by decide +kernel
theorem dX2_copyFrom_41 : decode cX2_copyFrom 41 = .ok (.iconst 0, 1) := by decide +kernel
theorem dX2_copyFrom_42 : decode cX2_copyFrom 42 = .ok (.istore_n 2, 1) := by decide +kernel
theorem dX2_copyFrom_43 : decode cX2_copyFrom 43 = .ok (.iload_n 2, 1) := by decide +kernel
theorem dX2_copyFrom_44 : decode cX2_copyFrom 44 = .ok (.aload_n 0, 1) := by decide +kernel
theorem dX2_copyFrom_45 : decode cX2_copyFrom 45 = .ok (.getfield 21, 3) := by decide +kernel
theorem dX2_copyFrom_48 : decode cX2_copyFrom 48 = .ok (.arraylength, 1) := by decide +kernel
theorem dX2_copyFrom_49 : decode cX2_copyFrom 49 = .ok (.if_icmp .ge 33, 3) := by decide +kernel
theorem dX2_copyFrom_52 : decode cX2_copyFrom 52 = .ok (.iload_n 2, 1) := by decide +kernel
theorem dX2_copyFrom_53 : decode cX2_copyFrom 53 = .ok (.aload_n 1, 1) := by decide +kernel
theorem dX2_copyFrom_54 : decode cX2_copyFrom 54 = .ok (.getfield 21, 3) := by decide +kernel
theorem dX2_copyFrom_57 : decode cX2_copyFrom 57 = .ok (.arraylength, 1) := by decide +kernel
theorem dX2_copyFrom_58 : decode cX2_copyFrom 58 = .ok (.if_icmp .ge 24, 3) := by decide +kernel
theorem dX2_copyFrom_61 : decode cX2_copyFrom 61 = .ok (.aload_n 0, 1) := by decide +kernel
theorem dX2_copyFrom_62 : decode cX2_copyFrom 62 = .ok (.getfield 21, 3) := by decide +kernel
theorem dX2_copyFrom_65 : decode cX2_copyFrom 65 = .ok (.iload_n 2, 1) := by decide +kernel
theorem dX2_copyFrom_66 : decode cX2_copyFrom 66 = .ok (.aaload, 1) := by decide +kernel
theorem dX2_copyFrom_67 : decode cX2_copyFrom 67 = .ok (.aload_n 1, 1) := by decide +kernel
theorem dX2_copyFrom_68 : decode cX2_copyFrom 68 = .ok (.getfield 21, 3) := by decide +kernel
theorem dX2_copyFrom_71 : decode cX2_copyFrom 71 = .ok (.iload_n 2, 1) := by decide +kernel
theorem dX2_copyFrom_72 : decode cX2_copyFrom 72 = .ok (.aaload, 1) := by decide +kernel
theorem dX2_copyFrom_73 : decode cX2_copyFrom 73 = .ok (.invokevirtual 43, 3) := by decide +kernel
theorem dX2_copyFrom_76 : decode cX2_copyFrom 76 = .ok (.iinc 2 1, 3) := by decide +kernel
theorem dX2_copyFrom_79 : decode cX2_copyFrom 79 = .ok (.goto (-36), 3) := by decide +kernel
theorem dX2_copyFrom_82 : decode cX2_copyFrom 82 = .ok (.aload_n 0, 1) := by decide +kernel
theorem dX2_copyFrom_83 : decode cX2_copyFrom 83 = .ok (.getfield 28, 3) := by decide +kernel
theorem dX2_copyFrom_86 : decode cX2_copyFrom 86 = .ok (.aload_n 1, 1) := by decide +kernel
theorem dX2_copyFrom_87 : decode cX2_copyFrom 87 = .ok (.getfield 28, 3) := by decide +kernel
theorem dX2_copyFrom_90 : decode cX2_copyFrom 90 = .ok (.invokevirtual 46, 3) := by decide +kernel
theorem dX2_copyFrom_93 : decode cX2_copyFrom 93 = .ok (.aload_n 0, 1) := by decide +kernel
theorem dX2_copyFrom_94 : decode cX2_copyFrom 94 = .ok (.aload_n 1, 1) := by decide +kernel
theorem dX2_copyFrom_95 : decode cX2_copyFrom 95 = .ok (.getfield 49, 3) := by decide +kernel
theorem dX2_copyFrom_98 : decode cX2_copyFrom 98 = .ok (.putfield 49, 3) := by decide +kernel
theorem dX2_copyFrom_101 : decode cX2_copyFrom 101 = .ok (.aload_n 0, 1) := by decide +kernel
theorem dX2_copyFrom_102 : decode cX2_copyFrom 102 = .ok (.aload_n 1, 1) := by decide +kernel
theorem dX2_copyFrom_103 : decode cX2_copyFrom 103 = .ok (.getfield 52, 3) := by decide +kernel
theorem dX2_copyFrom_106 : decode cX2_copyFrom 106 = .ok (.putfield 52, 3) := by decide +kernel
theorem dX2_copyFrom_109 : decode cX2_copyFrom 109 = .ok (.aload_n 0, 1) := by decide +kernel
theorem dX2_copyFrom_110 : decode cX2_copyFrom 110 = .ok (.aload_n 1, 1) := by decide +kernel
theorem dX2_copyFrom_111 : decode cX2_copyFrom 111 = .ok (.getfield 55, 3) := by decide +kernel
theorem dX2_copyFrom_114 : decode cX2_copyFrom 114 = .ok (.putfield 55, 3) := by decide +kernel
theorem dX2_copyFrom_117 : decode cX2_copyFrom 117 = .ok (.aload_n 0, 1) := by decide +kernel
theorem dX2_copyFrom_118 : decode cX2_copyFrom 118 = .ok (.aload_n 1, 1) := by decide +kernel
theorem dX2_copyFrom_119 : decode cX2_copyFrom 119 = .ok (.getfield 58, 3) := by decide +kernel
theorem dX2_copyFrom_122 : decode cX2_copyFrom 122 = .ok (.putfield 58, 3) := by decide +kernel
theorem dX2_copyFrom_125 : decode cX2_copyFrom 125 = .ok (.aload_n 0, 1) := by decide +kernel
theorem dX2_copyFrom_126 : decode cX2_copyFrom 126 = .ok (.aload_n 1, 1) := by decide +kernel
theorem dX2_copyFrom_127 : decode cX2_copyFrom 127 = .ok (.getfield 32, 3) := by decide +kernel
theorem dX2_copyFrom_130 : decode cX2_copyFrom 130 = .ok (.putfield 32, 3) := by decide +kernel
theorem dX2_copyFrom_133 : decode cX2_copyFrom 133 = .ok (.aload_n 0, 1) := by decide +kernel
theorem dX2_copyFrom_134 : decode cX2_copyFrom 134 = .ok (.aload_n 1, 1) := by decide +kernel
theorem dX2_copyFrom_135 : decode cX2_copyFrom 135 = .ok (.getfield 36, 3) := by decide +kernel
theorem dX2_copyFrom_138 : decode cX2_copyFrom 138 = .ok (.putfield 36, 3) := by decide +kernel
theorem dX2_copyFrom_141 : decode cX2_copyFrom 141 = .ok (.aload_n 0, 1) := by decide +kernel
theorem dX2_copyFrom_142 : decode cX2_copyFrom 142 = .ok (.aload_n 1, 1) := by decide +kernel
theorem dX2_copyFrom_143 : decode cX2_copyFrom 143 = .ok (.getfield 61, 3) := by decide +kernel
theorem dX2_copyFrom_146 : decode cX2_copyFrom 146 = .ok (.putfield 61, 3) := by decide +kernel
theorem dX2_copyFrom_149 : decode cX2_copyFrom 149 = .ok (.aload_n 0, 1) := by decide +kernel
theorem dX2_copyFrom_150 : decode cX2_copyFrom 150 = .ok (.aload_n 1, 1) := by decide +kernel
theorem dX2_copyFrom_151 : decode cX2_copyFrom 151 = .ok (.getfield 64, 3) := by decide +kernel
theorem dX2_copyFrom_154 : decode cX2_copyFrom 154 = .ok (.putfield 64, 3) := by decide +kernel
theorem dX2_copyFrom_157 : decode cX2_copyFrom 157 = .ok (.aload_n 0, 1) := by decide +kernel
theorem dX2_copyFrom_158 : decode cX2_copyFrom 158 = .ok (.aload_n 1, 1) := by decide +kernel
theorem dX2_copyFrom_159 : decode cX2_copyFrom 159 = .ok (.getfield 67, 3) := by decide +kernel
theorem dX2_copyFrom_162 : decode cX2_copyFrom 162 = .ok (.putfield 67, 3) := by decide +kernel
theorem dX2_copyFrom_165 : decode cX2_copyFrom 165 = .ok (.aload_n 0, 1) := by decide +kernel
theorem dX2_copyFrom_166 : decode cX2_copyFrom 166 = .ok (.aload_n 1, 1) := by decide +kernel
theorem dX2_copyFrom_167 : decode cX2_copyFrom 167 = .ok (.getfield 70, 3) := by decide +kernel
theorem dX2_copyFrom_170 : decode cX2_copyFrom 170 = .ok (.putfield 70, 3) := by decide +kernel
theorem dX2_copyFrom_173 : decode cX2_copyFrom 173 = .ok (.aload_n 0, 1) := by decide +kernel
theorem dX2_copyFrom_174 : decode cX2_copyFrom 174 = .ok (.aload_n 1, 1) := by decide +kernel
theorem dX2_copyFrom_175 : decode cX2_copyFrom 175 = .ok (.getfield 73, 3) := by decide +kernel
theorem dX2_copyFrom_178 : decode cX2_copyFrom 178 = .ok (.putfield 73, 3) := by decide +kernel
theorem dX2_copyFrom_181 : decode cX2_copyFrom 181 = .ok (.return_, 1) := by decide +kernel
theorem dX2_boilerAt_0 : decode cX2_boilerAt 0 = .ok (.iload_n 1, 1) := by decide +kernel
theorem dX2_boilerAt_1 : decode cX2_boilerAt 1 = .ok (.ifCond .lt 21, 3) := by decide +kernel
theorem dX2_boilerAt_4 : decode cX2_boilerAt 4 = .ok (.iload_n 1, 1) := by decide +kernel
theorem dX2_boilerAt_5 : decode cX2_boilerAt 5 = .ok (.aload_n 0, 1) := by decide +kernel
theorem dX2_boilerAt_6 : decode cX2_boilerAt 6 = .ok (.getfield 12, 3) := by decide +kernel
theorem dX2_boilerAt_9 : decode cX2_boilerAt 9 = .ok (.arraylength, 1) := by decide +kernel
theorem dX2_boilerAt_10 : decode cX2_boilerAt 10 = .ok (.if_icmp .ge 12, 3) := by decide +kernel
theorem dX2_boilerAt_13 : decode cX2_boilerAt 13 = .ok (.aload_n 0, 1) := by decide +kernel
theorem dX2_boilerAt_14 : decode cX2_boilerAt 14 = .ok (.getfield 12, 3) := by decide +kernel
theorem dX2_boilerAt_17 : decode cX2_boilerAt 17 = .ok (.iload_n 1, 1) := by decide +kernel
theorem dX2_boilerAt_18 : decode cX2_boilerAt 18 = .ok (.aaload, 1) := by decide +kernel
theorem dX2_boilerAt_19 : decode cX2_boilerAt 19 = .ok (.goto 4, 3) := by decide +kernel
theorem dX2_boilerAt_22 : decode cX2_boilerAt 22 = .ok (.aconst_null, 1) := by decide +kernel
theorem dX2_boilerAt_23 : decode cX2_boilerAt 23 = .ok (.areturn, 1) := by decide +kernel
theorem dX2_machineAt_0 : decode cX2_machineAt 0 = .ok (.iload_n 1, 1) := by decide +kernel
theorem dX2_machineAt_1 : decode cX2_machineAt 1 = .ok (.ifCond .lt 21, 3) := by decide +kernel
theorem dX2_machineAt_4 : decode cX2_machineAt 4 = .ok (.iload_n 1, 1) := by decide +kernel
theorem dX2_machineAt_5 : decode cX2_machineAt 5 = .ok (.aload_n 0, 1) := by decide +kernel
theorem dX2_machineAt_6 : decode cX2_machineAt 6 = .ok (.getfield 21, 3) := by decide +kernel
theorem dX2_machineAt_9 : decode cX2_machineAt 9 = .ok (.arraylength, 1) := by decide +kernel
theorem dX2_machineAt_10 : decode cX2_machineAt 10 = .ok (.if_icmp .ge 12, 3) := by decide +kernel
theorem dX2_machineAt_13 : decode cX2_machineAt 13 = .ok (.aload_n 0, 1) := by decide +kernel
theorem dX2_machineAt_14 : decode cX2_machineAt 14 = .ok (.getfield 21, 3) := by decide +kernel
theorem dX2_machineAt_17 : decode cX2_machineAt 17 = .ok (.iload_n 1, 1) := by decide +kernel
theorem dX2_machineAt_18 : decode cX2_machineAt 18 = .ok (.aaload, 1) := by decide +kernel
theorem dX2_machineAt_19 : decode cX2_machineAt 19 = .ok (.goto 4, 3) := by decide +kernel
theorem dX2_machineAt_22 : decode cX2_machineAt 22 = .ok (.aconst_null, 1) := by decide +kernel
theorem dX2_machineAt_23 : decode cX2_machineAt 23 = .ok (.areturn, 1) := by decide +kernel
set_option maxRecDepth 20000 in
theorem ggX2_lowestEmptyMachine_X3_isEmpty : GoodIn wsX2_lowestEmptyMachine wsX3_isEmpty := goodIn_r _ [6, 7, 22, 23, 24] (by decide +kernel) (by decide +kernel)
set_option maxRecDepth 20000 in
theorem gX2_lowestEmptyMachine_X3_isEmpty : GoodIn wsX2_lowestEmptyMachine (wsV RX2 76 RX3 yX3_isEmpty wsX3_isEmpty) := goodIn_app (goodIn_of _ (by decide +kernel)) ggX2_lowestEmptyMachine_X3_isEmpty
theorem dX2_lowestEmptyMachine_0 : decode cX2_lowestEmptyMachine 0 = .ok (.aload_n 0, 1) := by decide +kernel
theorem dX2_lowestEmptyMachine_1 : decode cX2_lowestEmptyMachine 1 = .ok (.getfield 21, 3) := by decide +kernel
theorem dX2_lowestEmptyMachine_4 : decode cX2_lowestEmptyMachine 4 = .ok (.astore_n 1, 1) := by decide +kernel
theorem dX2_lowestEmptyMachine_5 : decode cX2_lowestEmptyMachine 5 = .ok (.aload_n 1, 1) := by decide +kernel
theorem dX2_lowestEmptyMachine_6 : decode cX2_lowestEmptyMachine 6 = .ok (.arraylength, 1) := by decide +kernel
theorem dX2_lowestEmptyMachine_7 : decode cX2_lowestEmptyMachine 7 = .ok (.istore_n 2, 1) := by decide +kernel
theorem dX2_lowestEmptyMachine_8 : decode cX2_lowestEmptyMachine 8 = .ok (.iconst 0, 1) := by decide +kernel
theorem dX2_lowestEmptyMachine_9 : decode cX2_lowestEmptyMachine 9 = .ok (.istore_n 3, 1) := by decide +kernel
theorem dX2_lowestEmptyMachine_10 : decode cX2_lowestEmptyMachine 10 = .ok (.iload_n 3, 1) := by decide +kernel
theorem dX2_lowestEmptyMachine_11 : decode cX2_lowestEmptyMachine 11 = .ok (.iload_n 2, 1) := by decide +kernel
theorem dX2_lowestEmptyMachine_12 : decode cX2_lowestEmptyMachine 12 = .ok (.if_icmp .ge 25, 3) := by decide +kernel
theorem dX2_lowestEmptyMachine_15 : decode cX2_lowestEmptyMachine 15 = .ok (.aload_n 1, 1) := by decide +kernel
theorem dX2_lowestEmptyMachine_16 : decode cX2_lowestEmptyMachine 16 = .ok (.iload_n 3, 1) := by decide +kernel
theorem dX2_lowestEmptyMachine_17 : decode cX2_lowestEmptyMachine 17 = .ok (.aaload, 1) := by decide +kernel
theorem dX2_lowestEmptyMachine_18 : decode cX2_lowestEmptyMachine 18 = .ok (.astore 4, 2) := by decide +kernel
theorem dX2_lowestEmptyMachine_20 : decode cX2_lowestEmptyMachine 20 = .ok (.aload 4, 2) := by decide +kernel
theorem dX2_lowestEmptyMachine_22 : decode cX2_lowestEmptyMachine 22 = .ok (.invokevirtual 76, 3) := by decide +kernel
theorem dX2_lowestEmptyMachine_25 : decode cX2_lowestEmptyMachine 25 = .ok (.ifCond .eq 6, 3) := by decide +kernel
theorem dX2_lowestEmptyMachine_28 : decode cX2_lowestEmptyMachine 28 = .ok (.aload 4, 2) := by decide +kernel
theorem dX2_lowestEmptyMachine_30 : decode cX2_lowestEmptyMachine 30 = .ok (.areturn, 1) := by decide +kernel
theorem dX2_lowestEmptyMachine_31 : decode cX2_lowestEmptyMachine 31 = .ok (.iinc 3 1, 3) := by decide +kernel
theorem dX2_lowestEmptyMachine_34 : decode cX2_lowestEmptyMachine 34 = .ok (.goto (-24), 3) := by decide +kernel
theorem dX2_lowestEmptyMachine_37 : decode cX2_lowestEmptyMachine 37 = .ok (.aconst_null, 1) := by decide +kernel
theorem dX2_lowestEmptyMachine_38 : decode cX2_lowestEmptyMachine 38 = .ok (.areturn, 1) := by decide +kernel
set_option maxRecDepth 20000 in
theorem ggX2_loadsInMachines_X3_isEmpty : GoodIn wsX2_loadsInMachines wsX3_isEmpty := goodIn_r _ [6, 7, 22, 23, 24] (by decide +kernel) (by decide +kernel)
set_option maxRecDepth 20000 in
theorem gX2_loadsInMachines_X3_isEmpty : GoodIn wsX2_loadsInMachines (wsV RX2 76 RX3 yX3_isEmpty wsX3_isEmpty) := goodIn_app (goodIn_of _ (by decide +kernel)) ggX2_loadsInMachines_X3_isEmpty
theorem dX2_loadsInMachines_0 : decode cX2_loadsInMachines 0 = .ok (.iconst 0, 1) := by decide +kernel
theorem dX2_loadsInMachines_1 : decode cX2_loadsInMachines 1 = .ok (.istore_n 1, 1) := by decide +kernel
theorem dX2_loadsInMachines_2 : decode cX2_loadsInMachines 2 = .ok (.aload_n 0, 1) := by decide +kernel
theorem dX2_loadsInMachines_3 : decode cX2_loadsInMachines 3 = .ok (.getfield 21, 3) := by decide +kernel
theorem dX2_loadsInMachines_6 : decode cX2_loadsInMachines 6 = .ok (.astore_n 2, 1) := by decide +kernel
theorem dX2_loadsInMachines_7 : decode cX2_loadsInMachines 7 = .ok (.aload_n 2, 1) := by decide +kernel
theorem dX2_loadsInMachines_8 : decode cX2_loadsInMachines 8 = .ok (.arraylength, 1) := by decide +kernel
theorem dX2_loadsInMachines_9 : decode cX2_loadsInMachines 9 = .ok (.istore_n 3, 1) := by decide +kernel
theorem dX2_loadsInMachines_10 : decode cX2_loadsInMachines 10 = .ok (.iconst 0, 1) := by decide +kernel
theorem dX2_loadsInMachines_11 : decode cX2_loadsInMachines 11 = .ok (.istore 4, 2) := by decide +kernel
theorem dX2_loadsInMachines_13 : decode cX2_loadsInMachines 13 = .ok (.iload 4, 2) := by decide +kernel
theorem dX2_loadsInMachines_15 : decode cX2_loadsInMachines 15 = .ok (.iload_n 3, 1) := by decide +kernel
theorem dX2_loadsInMachines_16 : decode cX2_loadsInMachines 16 = .ok (.if_icmp .ge 26, 3) := by decide +kernel
theorem dX2_loadsInMachines_19 : decode cX2_loadsInMachines 19 = .ok (.aload_n 2, 1) := by decide +kernel
theorem dX2_loadsInMachines_20 : decode cX2_loadsInMachines 20 = .ok (.iload 4, 2) := by decide +kernel
theorem dX2_loadsInMachines_22 : decode cX2_loadsInMachines 22 = .ok (.aaload, 1) := by decide +kernel
theorem dX2_loadsInMachines_23 : decode cX2_loadsInMachines 23 = .ok (.astore 5, 2) := by decide +kernel
theorem dX2_loadsInMachines_25 : decode cX2_loadsInMachines 25 = .ok (.aload 5, 2) := by decide +kernel
theorem dX2_loadsInMachines_27 : decode cX2_loadsInMachines 27 = .ok (.invokevirtual 76, 3) := by decide +kernel
theorem dX2_loadsInMachines_30 : decode cX2_loadsInMachines 30 = .ok (.ifCond .ne 6, 3) := by decide +kernel
theorem dX2_loadsInMachines_33 : decode cX2_loadsInMachines 33 = .ok (.iinc 1 1, 3) := by decide +kernel
theorem dX2_loadsInMachines_36 : decode cX2_loadsInMachines 36 = .ok (.iinc 4 1, 3) := by decide +kernel
theorem dX2_loadsInMachines_39 : decode cX2_loadsInMachines 39 = .ok (.goto (-26), 3) := by decide +kernel
theorem dX2_loadsInMachines_42 : decode cX2_loadsInMachines 42 = .ok (.iload_n 1, 1) := by decide +kernel
theorem dX2_loadsInMachines_43 : decode cX2_loadsInMachines 43 = .ok (.ireturn, 1) := by decide +kernel
set_option maxRecDepth 20000 in
theorem ggX2_isIdle_X2_loadsInMachines : GoodIn wsX2_isIdle wsX2_loadsInMachines := goodIn_r _ [7, 8, 9, 10, 11, 12, 13, 14, 15, 16, 17, 18, 19, 20, 21, 22, 23, 24, 25, 26, 27, 28, 31, 32, 33] (by decide +kernel) (by decide +kernel)
set_option maxRecDepth 20000 in
theorem gX2_isIdle_X2_loadsInMachines : GoodIn wsX2_isIdle (wsV RX2 83 RX2 yX2_loadsInMachines wsX2_loadsInMachines) := goodIn_app (goodIn_of _ (by decide +kernel)) ggX2_isIdle_X2_loadsInMachines
theorem dX2_isIdle_0 : decode cX2_isIdle 0 = .ok (.aload_n 0, 1) := by decide +kernel
theorem dX2_isIdle_1 : decode cX2_isIdle 1 = .ok (.getfield 28, 3) := by decide +kernel
theorem dX2_isIdle_4 : decode cX2_isIdle 4 = .ok (.getfield 80, 3) := by decide +kernel
theorem dX2_isIdle_7 : decode cX2_isIdle 7 = .ok (.ifCond .ne 14, 3) := by decide +kernel
theorem dX2_isIdle_10 : decode cX2_isIdle 10 = .ok (.aload_n 0, 1) := by decide +kernel
theorem dX2_isIdle_11 : decode cX2_isIdle 11 = .ok (.invokevirtual 83, 3) := by decide +kernel
theorem dX2_isIdle_14 : decode cX2_isIdle 14 = .ok (.ifCond .ne 7, 3) := by decide +kernel
theorem dX2_isIdle_17 : decode cX2_isIdle 17 = .ok (.iconst 1, 1) := by decide +kernel
theorem dX2_isIdle_18 : decode cX2_isIdle 18 = .ok (.goto 4, 3) := by decide +kernel
theorem dX2_isIdle_21 : decode cX2_isIdle 21 = .ok (.iconst 0, 1) := by decide +kernel
theorem dX2_isIdle_22 : decode cX2_isIdle 22 = .ok (.ireturn, 1) := by decide +kernel
theorem dX2_allPressure_0 : decode cX2_allPressure 0 = .ok (.iconst 0, 1) := by decide +kernel
theorem dX2_allPressure_1 : decode cX2_allPressure 1 = .ok (.istore_n 1, 1) := by decide +kernel
theorem dX2_allPressure_2 : decode cX2_allPressure 2 = .ok (.aload_n 0, 1) := by decide +kernel
theorem dX2_allPressure_3 : decode cX2_allPressure 3 = .ok (.getfield 12, 3) := by decide +kernel
theorem dX2_allPressure_6 : decode cX2_allPressure 6 = .ok (.astore_n 2, 1) := by decide +kernel
theorem dX2_allPressure_7 : decode cX2_allPressure 7 = .ok (.aload_n 2, 1) := by decide +kernel
theorem dX2_allPressure_8 : decode cX2_allPressure 8 = .ok (.arraylength, 1) := by decide +kernel
theorem dX2_allPressure_9 : decode cX2_allPressure 9 = .ok (.istore_n 3, 1) := by decide +kernel
theorem dX2_allPressure_10 : decode cX2_allPressure 10 = .ok (.iconst 0, 1) := by decide +kernel
theorem dX2_allPressure_11 : decode cX2_allPressure 11 = .ok (.istore 4, 2) := by decide +kernel
theorem dX2_allPressure_13 : decode cX2_allPressure 13 = .ok (.iload 4, 2) := by decide +kernel
theorem dX2_allPressure_15 : decode cX2_allPressure 15 = .ok (.iload_n 3, 1) := by decide +kernel
theorem dX2_allPressure_16 : decode cX2_allPressure 16 = .ok (.if_icmp .ge 23, 3) := by decide +kernel
theorem dX2_allPressure_19 : decode cX2_allPressure 19 = .ok (.aload_n 2, 1) := by decide +kernel
theorem dX2_allPressure_20 : decode cX2_allPressure 20 = .ok (.iload 4, 2) := by decide +kernel
theorem dX2_allPressure_22 : decode cX2_allPressure 22 = .ok (.aaload, 1) := by decide +kernel
theorem dX2_allPressure_23 : decode cX2_allPressure 23 = .ok (.astore 5, 2) := by decide +kernel
theorem dX2_allPressure_25 : decode cX2_allPressure 25 = .ok (.iload_n 1, 1) := by decide +kernel
theorem dX2_allPressure_26 : decode cX2_allPressure 26 = .ok (.aload 5, 2) := by decide +kernel
theorem dX2_allPressure_28 : decode cX2_allPressure 28 = .ok (.getfield 87, 3) := by decide +kernel
theorem dX2_allPressure_31 : decode cX2_allPressure 31 = .ok (.iadd, 1) := by decide +kernel
theorem dX2_allPressure_32 : decode cX2_allPressure 32 = .ok (.istore_n 1, 1) := by decide +kernel
theorem dX2_allPressure_33 : decode cX2_allPressure 33 = .ok (.iinc 4 1, 3) := by decide +kernel
theorem dX2_allPressure_36 : decode cX2_allPressure 36 = .ok (.goto (-23), 3) := by decide +kernel
theorem dX2_allPressure_39 : decode cX2_allPressure 39 = .ok (.iload_n 1, 1) := by decide +kernel
theorem dX2_allPressure_40 : decode cX2_allPressure 40 = .ok (.ireturn, 1) := by decide +kernel
theorem dX2_safetyStops_0 : decode cX2_safetyStops 0 = .ok (.iconst 0, 1) := by decide +kernel
theorem dX2_safetyStops_1 : decode cX2_safetyStops 1 = .ok (.istore_n 1, 1) := by decide +kernel
theorem dX2_safetyStops_2 : decode cX2_safetyStops 2 = .ok (.aload_n 0, 1) := by decide +kernel
theorem dX2_safetyStops_3 : decode cX2_safetyStops 3 = .ok (.getfield 12, 3) := by decide +kernel
theorem dX2_safetyStops_6 : decode cX2_safetyStops 6 = .ok (.astore_n 2, 1) := by decide +kernel
theorem dX2_safetyStops_7 : decode cX2_safetyStops 7 = .ok (.aload_n 2, 1) := by decide +kernel
theorem dX2_safetyStops_8 : decode cX2_safetyStops 8 = .ok (.arraylength, 1) := by decide +kernel
theorem dX2_safetyStops_9 : decode cX2_safetyStops 9 = .ok (.istore_n 3, 1) := by decide +kernel
theorem dX2_safetyStops_10 : decode cX2_safetyStops 10 = .ok (.iconst 0, 1) := by decide +kernel
theorem dX2_safetyStops_11 : decode cX2_safetyStops 11 = .ok (.istore 4, 2) := by decide +kernel
theorem dX2_safetyStops_13 : decode cX2_safetyStops 13 = .ok (.iload 4, 2) := by decide +kernel
theorem dX2_safetyStops_15 : decode cX2_safetyStops 15 = .ok (.iload_n 3, 1) := by decide +kernel
theorem dX2_safetyStops_16 : decode cX2_safetyStops 16 = .ok (.if_icmp .ge 23, 3) := by decide +kernel
theorem dX2_safetyStops_19 : decode cX2_safetyStops 19 = .ok (.aload_n 2, 1) := by decide +kernel
theorem dX2_safetyStops_20 : decode cX2_safetyStops 20 = .ok (.iload 4, 2) := by decide +kernel
theorem dX2_safetyStops_22 : decode cX2_safetyStops 22 = .ok (.aaload, 1) := by decide +kernel
theorem dX2_safetyStops_23 : decode cX2_safetyStops 23 = .ok (.astore 5, 2) := by decide +kernel
theorem dX2_safetyStops_25 : decode cX2_safetyStops 25 = .ok (.iload_n 1, 1) := by decide +kernel
theorem dX2_safetyStops_26 : decode cX2_safetyStops 26 = .ok (.aload 5, 2) := by decide +kernel
theorem dX2_safetyStops_28 : decode cX2_safetyStops 28 = .ok (.getfield 90, 3) := by decide +kernel
theorem dX2_safetyStops_31 : decode cX2_safetyStops 31 = .ok (.iadd, 1) := by decide +kernel
theorem dX2_safetyStops_32 : decode cX2_safetyStops 32 = .ok (.istore_n 1, 1) := by decide +kernel
theorem dX2_safetyStops_33 : decode cX2_safetyStops 33 = .ok (.iinc 4 1, 3) := by decide +kernel
theorem dX2_safetyStops_36 : decode cX2_safetyStops 36 = .ok (.goto (-23), 3) := by decide +kernel
theorem dX2_safetyStops_39 : decode cX2_safetyStops 39 = .ok (.iload_n 1, 1) := by decide +kernel
theorem dX2_safetyStops_40 : decode cX2_safetyStops 40 = .ok (.ireturn, 1) := by decide +kernel
set_option maxRecDepth 20000 in
theorem ggX2_account_X2_loadsInMachines : GoodIn wsX2_account wsX2_loadsInMachines := goodIn_r _ [18, 19, 20, 21, 22, 23, 24, 25, 32, 33, 34, 35, 36, 37, 38, 39, 40, 41, 42, 43, 44, 45, 48, 49, 50] (by decide +kernel) (by decide +kernel)
set_option maxRecDepth 20000 in
theorem gX2_account_X2_loadsInMachines : GoodIn wsX2_account (wsV RX2 83 RX2 yX2_loadsInMachines wsX2_loadsInMachines) := goodIn_app (goodIn_of _ (by decide +kernel)) ggX2_account_X2_loadsInMachines
set_option maxRecDepth 20000 in
theorem ggX2_account_X2_allPressure : GoodIn wsX2_account wsX2_allPressure := goodIn_r _ [29, 30, 31, 32, 33, 34, 35, 36, 37, 38, 39, 40, 41, 42, 43, 44, 45, 51, 52, 53, 54, 55] (by decide +kernel) (by decide +kernel)
set_option maxRecDepth 20000 in
theorem gX2_account_X2_allPressure : GoodIn wsX2_account (wsV RX2 93 RX2 yX2_allPressure wsX2_allPressure) := goodIn_app (goodIn_of _ (by decide +kernel)) ggX2_account_X2_allPressure
theorem dX2_account_0 : decode cX2_account 0 = .ok (.iload_n 1, 1) := by decide +kernel
theorem dX2_account_1 : decode cX2_account 1 = .ok (.tableswitch 144 0 13 #[71, 76, 81, 86, 91, 96, 101, 109, 114, 119, 124, 129, 134, 139], 71) := by decide +kernel
theorem dX2_account_72 : decode cX2_account 72 = .ok (.aload_n 0, 1) := by decide +kernel
theorem dX2_account_73 : decode cX2_account 73 = .ok (.getfield 49, 3) := by decide +kernel
theorem dX2_account_76 : decode cX2_account 76 = .ok (.ireturn, 1) := by decide +kernel
theorem dX2_account_77 : decode cX2_account 77 = .ok (.aload_n 0, 1) := by decide +kernel
theorem dX2_account_78 : decode cX2_account 78 = .ok (.getfield 32, 3) := by decide +kernel
theorem dX2_account_81 : decode cX2_account 81 = .ok (.ireturn, 1) := by decide +kernel
theorem dX2_account_82 : decode cX2_account 82 = .ok (.aload_n 0, 1) := by decide +kernel
theorem dX2_account_83 : decode cX2_account 83 = .ok (.getfield 58, 3) := by decide +kernel
theorem dX2_account_86 : decode cX2_account 86 = .ok (.ireturn, 1) := by decide +kernel
theorem dX2_account_87 : decode cX2_account 87 = .ok (.aload_n 0, 1) := by decide +kernel
theorem dX2_account_88 : decode cX2_account 88 = .ok (.getfield 61, 3) := by decide +kernel
theorem dX2_account_91 : decode cX2_account 91 = .ok (.ireturn, 1) := by decide +kernel
theorem dX2_account_92 : decode cX2_account 92 = .ok (.aload_n 0, 1) := by decide +kernel
theorem dX2_account_93 : decode cX2_account 93 = .ok (.getfield 36, 3) := by decide +kernel
theorem dX2_account_96 : decode cX2_account 96 = .ok (.ireturn, 1) := by decide +kernel
theorem dX2_account_97 : decode cX2_account 97 = .ok (.aload_n 0, 1) := by decide +kernel
theorem dX2_account_98 : decode cX2_account 98 = .ok (.invokevirtual 83, 3) := by decide +kernel
theorem dX2_account_101 : decode cX2_account 101 = .ok (.ireturn, 1) := by decide +kernel
theorem dX2_account_102 : decode cX2_account 102 = .ok (.aload_n 0, 1) := by decide +kernel
theorem dX2_account_103 : decode cX2_account 103 = .ok (.getfield 28, 3) := by decide +kernel
theorem dX2_account_106 : decode cX2_account 106 = .ok (.getfield 80, 3) := by decide +kernel
theorem dX2_account_109 : decode cX2_account 109 = .ok (.ireturn, 1) := by decide +kernel
theorem dX2_account_110 : decode cX2_account 110 = .ok (.aload_n 0, 1) := by decide +kernel
theorem dX2_account_111 : decode cX2_account 111 = .ok (.getfield 64, 3) := by decide +kernel
theorem dX2_account_114 : decode cX2_account 114 = .ok (.ireturn, 1) := by decide +kernel
theorem dX2_account_115 : decode cX2_account 115 = .ok (.aload_n 0, 1) := by decide +kernel
theorem dX2_account_116 : decode cX2_account 116 = .ok (.getfield 52, 3) := by decide +kernel
theorem dX2_account_119 : decode cX2_account 119 = .ok (.ireturn, 1) := by decide +kernel
theorem dX2_account_120 : decode cX2_account 120 = .ok (.aload_n 0, 1) := by decide +kernel
theorem dX2_account_121 : decode cX2_account 121 = .ok (.getfield 55, 3) := by decide +kernel
theorem dX2_account_124 : decode cX2_account 124 = .ok (.ireturn, 1) := by decide +kernel
theorem dX2_account_125 : decode cX2_account 125 = .ok (.aload_n 0, 1) := by decide +kernel
theorem dX2_account_126 : decode cX2_account 126 = .ok (.getfield 67, 3) := by decide +kernel
theorem dX2_account_129 : decode cX2_account 129 = .ok (.ireturn, 1) := by decide +kernel
theorem dX2_account_130 : decode cX2_account 130 = .ok (.aload_n 0, 1) := by decide +kernel
theorem dX2_account_131 : decode cX2_account 131 = .ok (.getfield 70, 3) := by decide +kernel
theorem dX2_account_134 : decode cX2_account 134 = .ok (.ireturn, 1) := by decide +kernel
theorem dX2_account_135 : decode cX2_account 135 = .ok (.aload_n 0, 1) := by decide +kernel
theorem dX2_account_136 : decode cX2_account 136 = .ok (.invokevirtual 93, 3) := by decide +kernel
theorem dX2_account_139 : decode cX2_account 139 = .ok (.ireturn, 1) := by decide +kernel
theorem dX2_account_140 : decode cX2_account 140 = .ok (.aload_n 0, 1) := by decide +kernel
theorem dX2_account_141 : decode cX2_account 141 = .ok (.getfield 73, 3) := by decide +kernel
theorem dX2_account_144 : decode cX2_account 144 = .ok (.ireturn, 1) := by decide +kernel
theorem dX2_account_145 : decode cX2_account 145 = .ok (.bipush (-2), 2) := by decide +kernel
theorem dX2_account_147 : decode cX2_account 147 = .ok (.ireturn, 1) := by decide +kernel
set_option maxRecDepth 20000 in
theorem ggX2_changeFire_X2_boilerAt : GoodIn wsX2_changeFire wsX2_boilerAt := goodIn_r _ [7, 8, 17, 18, 19, 20, 21, 22, 23, 24, 25, 26, 27, 28, 29, 30] (by decide +kernel) (by decide +kernel)
set_option maxRecDepth 20000 in
theorem gX2_changeFire_X2_boilerAt : GoodIn wsX2_changeFire (wsV RX2 96 RX2 yX2_boilerAt wsX2_boilerAt) := goodIn_app (goodIn_of _ (by decide +kernel)) ggX2_changeFire_X2_boilerAt
set_option maxRecDepth 20000 in
theorem ggX2_changeFire_X6_isWithin : GoodIn wsX2_changeFire wsX6_isWithin := goodIn_r _ [11] (by decide +kernel) (by decide +kernel)
set_option maxRecDepth 20000 in
theorem gX2_changeFire_X6_isWithin_n100 : GoodIn wsX2_changeFire (wsX6_isWithin) := ggX2_changeFire_X6_isWithin
theorem dX2_changeFire_0 : decode cX2_changeFire 0 = .ok (.aload_n 0, 1) := by decide +kernel
theorem dX2_changeFire_1 : decode cX2_changeFire 1 = .ok (.iload_n 1, 1) := by decide +kernel
theorem dX2_changeFire_2 : decode cX2_changeFire 2 = .ok (.invokevirtual 96, 3) := by decide +kernel
theorem dX2_changeFire_5 : decode cX2_changeFire 5 = .ok (.astore_n 3, 1) := by decide +kernel
theorem dX2_changeFire_6 : decode cX2_changeFire 6 = .ok (.aload_n 3, 1) := by decide +kernel
theorem dX2_changeFire_7 : decode cX2_changeFire 7 = .ok (.ifnonnull 5, 3) := by decide +kernel
theorem dX2_changeFire_10 : decode cX2_changeFire 10 = .ok (.iconst (-1), 1) := by decide +kernel
theorem dX2_changeFire_11 : decode cX2_changeFire 11 = .ok (.ireturn, 1) := by decide +kernel
theorem dX2_changeFire_12 : decode cX2_changeFire 12 = .ok (.iload_n 2, 1) := by decide +kernel
theorem dX2_changeFire_13 : decode cX2_changeFire 13 = .ok (.iconst 0, 1) := by decide +kernel
theorem dX2_changeFire_14 : decode cX2_changeFire 14 = .ok (.iconst 5, 1) := by decide +kernel
theorem dX2_changeFire_15 : decode cX2_changeFire 15 = .ok (.invokestatic 100, 3) := by decide +kernel
theorem dX2_changeFire_18 : decode cX2_changeFire 18 = .ok (.ifCond .ne 6, 3) := by decide +kernel
theorem dX2_changeFire_21 : decode cX2_changeFire 21 = .ok (.bipush (-2), 2) := by decide +kernel
theorem dX2_changeFire_23 : decode cX2_changeFire 23 = .ok (.ireturn, 1) := by decide +kernel
theorem dX2_changeFire_24 : decode cX2_changeFire 24 = .ok (.aload_n 3, 1) := by decide +kernel
theorem dX2_changeFire_25 : decode cX2_changeFire 25 = .ok (.getfield 104, 3) := by decide +kernel
theorem dX2_changeFire_28 : decode cX2_changeFire 28 = .ok (.ifCond .le 6, 3) := by decide +kernel
theorem dX2_changeFire_31 : decode cX2_changeFire 31 = .ok (.bipush (-4), 2) := by decide +kernel
theorem dX2_changeFire_33 : decode cX2_changeFire 33 = .ok (.ireturn, 1) := by decide +kernel
theorem dX2_changeFire_34 : decode cX2_changeFire 34 = .ok (.aload_n 3, 1) := by decide +kernel
theorem dX2_changeFire_35 : decode cX2_changeFire 35 = .ok (.getfield 107, 3) := by decide +kernel
theorem dX2_changeFire_38 : decode cX2_changeFire 38 = .ok (.iload_n 2, 1) := by decide +kernel
theorem dX2_changeFire_39 : decode cX2_changeFire 39 = .ok (.if_icmp .ne 6, 3) := by decide +kernel
theorem dX2_changeFire_42 : decode cX2_changeFire 42 = .ok (.bipush (-5), 2) := by decide +kernel
theorem dX2_changeFire_44 : decode cX2_changeFire 44 = .ok (.ireturn, 1) := by decide +kernel
theorem dX2_changeFire_45 : decode cX2_changeFire 45 = .ok (.aload_n 3, 1) := by decide +kernel
theorem dX2_changeFire_46 : decode cX2_changeFire 46 = .ok (.getfield 107, 3) := by decide +kernel
theorem dX2_changeFire_49 : decode cX2_changeFire 49 = .ok (.istore 4, 2) := by decide +kernel
theorem dX2_changeFire_51 : decode cX2_changeFire 51 = .ok (.aload_n 3, 1) := by decide +kernel
theorem dX2_changeFire_52 : decode cX2_changeFire 52 = .ok (.iload_n 2, 1) := by decide +kernel
theorem dX2_changeFire_53 : decode cX2_changeFire 53 = .ok (.putfield 107, 3) := by decide +kernel
theorem dX2_changeFire_56 : decode cX2_changeFire 56 = .ok (.iload 4, 2) := by decide +kernel
theorem dX2_changeFire_58 : decode cX2_changeFire 58 = .ok (.ireturn, 1) := by decide +kernel
set_option maxRecDepth 20000 in
theorem ggX2_letWaterIn_X2_boilerAt : GoodIn wsX2_letWaterIn wsX2_boilerAt := goodIn_r _ [6, 7, 16, 17, 18, 19, 20, 21, 22, 23, 24, 25, 26, 27, 28, 29] (by decide +kernel) (by decide +kernel)
set_option maxRecDepth 20000 in
theorem gX2_letWaterIn_X2_boilerAt : GoodIn wsX2_letWaterIn (wsV RX2 96 RX2 yX2_boilerAt wsX2_boilerAt) := goodIn_app (goodIn_of _ (by decide +kernel)) ggX2_letWaterIn_X2_boilerAt
set_option maxRecDepth 20000 in
theorem ggX2_letWaterIn_X6_isWithin : GoodIn wsX2_letWaterIn wsX6_isWithin := goodIn_r _ [10] (by decide +kernel) (by decide +kernel)
set_option maxRecDepth 20000 in
theorem gX2_letWaterIn_X6_isWithin_n100 : GoodIn wsX2_letWaterIn (wsX6_isWithin) := ggX2_letWaterIn_X6_isWithin
theorem dX2_letWaterIn_0 : decode cX2_letWaterIn 0 = .ok (.aload_n 0, 1) := by decide +kernel
theorem dX2_letWaterIn_1 : decode cX2_letWaterIn 1 = .ok (.iload_n 1, 1) := by decide +kernel
theorem dX2_letWaterIn_2 : decode cX2_letWaterIn 2 = .ok (.invokevirtual 96, 3) := by decide +kernel
theorem dX2_letWaterIn_5 : decode cX2_letWaterIn 5 = .ok (.astore_n 3, 1) := by decide +kernel
theorem dX2_letWaterIn_6 : decode cX2_letWaterIn 6 = .ok (.aload_n 3, 1) := by decide +kernel
theorem dX2_letWaterIn_7 : decode cX2_letWaterIn 7 = .ok (.ifnonnull 5, 3) := by decide +kernel
theorem dX2_letWaterIn_10 : decode cX2_letWaterIn 10 = .ok (.iconst (-1), 1) := by decide +kernel
theorem dX2_letWaterIn_11 : decode cX2_letWaterIn 11 = .ok (.ireturn, 1) := by decide +kernel
theorem dX2_letWaterIn_12 : decode cX2_letWaterIn 12 = .ok (.iload_n 2, 1) := by decide +kernel
theorem dX2_letWaterIn_13 : decode cX2_letWaterIn 13 = .ok (.iconst 1, 1) := by decide +kernel
theorem dX2_letWaterIn_14 : decode cX2_letWaterIn 14 = .ok (.sipush 200, 3) := by decide +kernel
theorem dX2_letWaterIn_17 : decode cX2_letWaterIn 17 = .ok (.invokestatic 100, 3) := by decide +kernel
theorem dX2_letWaterIn_20 : decode cX2_letWaterIn 20 = .ok (.ifCond .ne 6, 3) := by decide +kernel
theorem dX2_letWaterIn_23 : decode cX2_letWaterIn 23 = .ok (.bipush (-2), 2) := by decide +kernel
theorem dX2_letWaterIn_25 : decode cX2_letWaterIn 25 = .ok (.ireturn, 1) := by decide +kernel
theorem dX2_letWaterIn_26 : decode cX2_letWaterIn 26 = .ok (.aload_n 3, 1) := by decide +kernel
theorem dX2_letWaterIn_27 : decode cX2_letWaterIn 27 = .ok (.getfield 110, 3) := by decide +kernel
theorem dX2_letWaterIn_30 : decode cX2_letWaterIn 30 = .ok (.iload_n 2, 1) := by decide +kernel
theorem dX2_letWaterIn_31 : decode cX2_letWaterIn 31 = .ok (.iadd, 1) := by decide +kernel
theorem dX2_letWaterIn_32 : decode cX2_letWaterIn 32 = .ok (.sipush 200, 3) := by decide +kernel
theorem dX2_letWaterIn_35 : decode cX2_letWaterIn 35 = .ok (.if_icmp .le 6, 3) := by decide +kernel
theorem dX2_letWaterIn_38 : decode cX2_letWaterIn 38 = .ok (.bipush (-3), 2) := by decide +kernel
theorem dX2_letWaterIn_40 : decode cX2_letWaterIn 40 = .ok (.ireturn, 1) := by decide +kernel
theorem dX2_letWaterIn_41 : decode cX2_letWaterIn 41 = .ok (.aload_n 3, 1) := by decide +kernel
theorem dX2_letWaterIn_42 : decode cX2_letWaterIn 42 = .ok (.dup, 1) := by decide +kernel
theorem dX2_letWaterIn_43 : decode cX2_letWaterIn 43 = .ok (.getfield 110, 3) := by decide +kernel
theorem dX2_letWaterIn_46 : decode cX2_letWaterIn 46 = .ok (.iload_n 2, 1) := by decide +kernel
theorem dX2_letWaterIn_47 : decode cX2_letWaterIn 47 = .ok (.iadd, 1) := by decide +kernel
theorem dX2_letWaterIn_48 : decode cX2_letWaterIn 48 = .ok (.putfield 110, 3) := by decide +kernel
theorem dX2_letWaterIn_51 : decode cX2_letWaterIn 51 = .ok (.aload_n 3, 1) := by decide +kernel
theorem dX2_letWaterIn_52 : decode cX2_letWaterIn 52 = .ok (.getfield 110, 3) := by decide +kernel
theorem dX2_letWaterIn_55 : decode cX2_letWaterIn 55 = .ok (.ireturn, 1) := by decide +kernel
set_option maxRecDepth 20000 in
theorem ggX2_changeRation_X6_isWithin : GoodIn wsX2_changeRation wsX6_isWithin := goodIn_r _ [4] (by decide +kernel) (by decide +kernel)
set_option maxRecDepth 20000 in
theorem gX2_changeRation_X6_isWithin_n100 : GoodIn wsX2_changeRation (wsX6_isWithin) := ggX2_changeRation_X6_isWithin
theorem dX2_changeRation_0 : decode cX2_changeRation 0 = .ok (.iload_n 1, 1) := by decide +kernel
theorem dX2_changeRation_1 : decode cX2_changeRation 1 = .ok (.iconst 0, 1) := by decide +kernel
theorem dX2_changeRation_2 : decode cX2_changeRation 2 = .ok (.sipush 200, 3) := by decide +kernel
theorem dX2_changeRation_5 : decode cX2_changeRation 5 = .ok (.invokestatic 100, 3) := by decide +kernel
theorem dX2_changeRation_8 : decode cX2_changeRation 8 = .ok (.ifCond .ne 6, 3) := by decide +kernel
theorem dX2_changeRation_11 : decode cX2_changeRation 11 = .ok (.bipush (-2), 2) := by decide +kernel
theorem dX2_changeRation_13 : decode cX2_changeRation 13 = .ok (.ireturn, 1) := by decide +kernel
theorem dX2_changeRation_14 : decode cX2_changeRation 14 = .ok (.iload_n 1, 1) := by decide +kernel
theorem dX2_changeRation_15 : decode cX2_changeRation 15 = .ok (.aload_n 0, 1) := by decide +kernel
theorem dX2_changeRation_16 : decode cX2_changeRation 16 = .ok (.getfield 36, 3) := by decide +kernel
theorem dX2_changeRation_19 : decode cX2_changeRation 19 = .ok (.if_icmp .ne 6, 3) := by decide +kernel
theorem dX2_changeRation_22 : decode cX2_changeRation 22 = .ok (.bipush (-5), 2) := by decide +kernel
theorem dX2_changeRation_24 : decode cX2_changeRation 24 = .ok (.ireturn, 1) := by decide +kernel
theorem dX2_changeRation_25 : decode cX2_changeRation 25 = .ok (.aload_n 0, 1) := by decide +kernel
theorem dX2_changeRation_26 : decode cX2_changeRation 26 = .ok (.getfield 36, 3) := by decide +kernel
theorem dX2_changeRation_29 : decode cX2_changeRation 29 = .ok (.istore_n 2, 1) := by decide +kernel
theorem dX2_changeRation_30 : decode cX2_changeRation 30 = .ok (.aload_n 0, 1) := by decide +kernel
theorem dX2_changeRation_31 : decode cX2_changeRation 31 = .ok (.iload_n 1, 1) := by decide +kernel
theorem dX2_changeRation_32 : decode cX2_changeRation 32 = .ok (.putfield 36, 3) := by decide +kernel
theorem dX2_changeRation_35 : decode cX2_changeRation 35 = .ok (.iload_n 2, 1) := by decide +kernel
theorem dX2_changeRation_36 : decode cX2_changeRation 36 = .ok (.ireturn, 1) := by decide +kernel
set_option maxRecDepth 20000 in
theorem ggX2_startLoad_X2_machineAt : GoodIn wsX2_startLoad wsX2_machineAt := goodIn_r _ [7, 8, 122, 123, 124, 125, 126, 127, 128, 129, 130, 131, 132, 133, 134, 135] (by decide +kernel) (by decide +kernel)
set_option maxRecDepth 20000 in
theorem gX2_startLoad_X2_machineAt : GoodIn wsX2_startLoad (wsV RX2 113 RX2 yX2_machineAt wsX2_machineAt) := goodIn_app (goodIn_of _ (by decide +kernel)) ggX2_startLoad_X2_machineAt
set_option maxRecDepth 20000 in
theorem ggX2_startLoad_X6_isWithin : GoodIn wsX2_startLoad wsX6_isWithin := goodIn_r _ [11] (by decide +kernel) (by decide +kernel)
set_option maxRecDepth 20000 in
theorem gX2_startLoad_X6_isWithin_n100 : GoodIn wsX2_startLoad (wsX6_isWithin) := ggX2_startLoad_X6_isWithin
end
section
set_option maxRecDepth 20000 in
theorem ggX2_startLoad_X3_isEmpty : GoodIn wsX2_startLoad wsX3_isEmpty := goodIn_r _ [16, 17, 136, 137, 138] (by decide +kernel) (by decide +kernel)
set_option maxRecDepth 20000 in
theorem gX2_startLoad_X3_isEmpty : GoodIn wsX2_startLoad (wsV RX2 76 RX3 yX3_isEmpty wsX3_isEmpty) := goodIn_app (goodIn_of _ (by decide +kernel)) ggX2_startLoad_X3_isEmpty
set_option maxRecDepth 20000 in
theorem ggX2_startLoad_X2_reasonAgainst : GoodIn wsX2_startLoad wsX2_reasonAgainst := goodIn_r _ [21, 22, 23, 24, 6, 25, 8, 12, 13, 14, 15, 16, 17, 26, 27, 28, 29, 30, 31, 32, 33, 34, 35, 36, 37, 38, 39, 40, 41, 42, 43, 1, 44, 45, 46, 47, 48, 49, 50, 51, 52, 53, 54, 55, 56, 57, 58, 59, 60, 61, 62, 63, 64, 65, 66, 67, 68, 69, 70, 71, 72, 73, 74, 10, 75, 76, 77, 78, 79, 80, 81, 82, 83, 84, 85, 86, 87, 88, 89, 90, 91, 92, 93, 94, 95, 96, 97, 98, 99, 100, 101, 102, 103, 104, 105, 106, 107, 108, 109, 110, 111, 112, 113, 114, 115, 2, 116, 117, 118, 119, 120, 121, 122, 123, 124, 125, 126, 127, 128, 129, 130, 131, 132, 133, 134, 135, 136, 137, 138, 139, 140, 141, 142, 143, 144, 145] (by decide +kernel) (by decide +kernel)
set_option maxRecDepth 20000 in
theorem gX2_startLoad_X2_reasonAgainst : GoodIn wsX2_startLoad (wsV RX2 117 RX2 yX2_reasonAgainst wsX2_reasonAgainst) := goodIn_app (goodIn_of _ (by decide +kernel)) ggX2_startLoad_X2_reasonAgainst
set_option maxRecDepth 20000 in
theorem ggX2_startLoad_X3_put : GoodIn wsX2_startLoad wsX3_put := goodIn_r _ [73, 17, 61, 62, 74, 10, 75, 136, 137, 138] (by decide +kernel) (by decide +kernel)
set_option maxRecDepth 20000 in
theorem gX2_startLoad_X3_put : GoodIn wsX2_startLoad (wsV RX2 121 RX3 yX3_put wsX3_put) := goodIn_app (goodIn_of _ (by decide +kernel)) ggX2_startLoad_X3_put
theorem dX2_startLoad_0 : decode cX2_startLoad 0 = .ok (.aload_n 0, 1) := by decide +kernel
theorem dX2_startLoad_1 : decode cX2_startLoad 1 = .ok (.iload_n 1, 1) := by decide +kernel
theorem dX2_startLoad_2 : decode cX2_startLoad 2 = .ok (.invokevirtual 113, 3) := by decide +kernel
theorem dX2_startLoad_5 : decode cX2_startLoad 5 = .ok (.astore 4, 2) := by decide +kernel
theorem dX2_startLoad_7 : decode cX2_startLoad 7 = .ok (.aload 4, 2) := by decide +kernel
theorem dX2_startLoad_9 : decode cX2_startLoad 9 = .ok (.ifnull 12, 3) := by decide +kernel
theorem dX2_startLoad_12 : decode cX2_startLoad 12 = .ok (.iload_n 2, 1) := by decide +kernel
theorem dX2_startLoad_13 : decode cX2_startLoad 13 = .ok (.iconst 0, 1) := by decide +kernel
theorem dX2_startLoad_14 : decode cX2_startLoad 14 = .ok (.iconst 2, 1) := by decide +kernel
theorem dX2_startLoad_15 : decode cX2_startLoad 15 = .ok (.invokestatic 100, 3) := by decide +kernel
theorem dX2_startLoad_18 : decode cX2_startLoad 18 = .ok (.ifCond .ne 5, 3) := by decide +kernel
theorem dX2_startLoad_21 : decode cX2_startLoad 21 = .ok (.iconst (-1), 1) := by decide +kernel
theorem dX2_startLoad_22 : decode cX2_startLoad 22 = .ok (.ireturn, 1) := by decide +kernel
theorem dX2_startLoad_23 : decode cX2_startLoad 23 = .ok (.aload 4, 2) := by decide +kernel
theorem dX2_startLoad_25 : decode cX2_startLoad 25 = .ok (.invokevirtual 76, 3) := by decide +kernel
theorem dX2_startLoad_28 : decode cX2_startLoad 28 = .ok (.ifCond .eq 12, 3) := by decide +kernel
theorem dX2_startLoad_31 : decode cX2_startLoad 31 = .ok (.aload_n 0, 1) := by decide +kernel
theorem dX2_startLoad_32 : decode cX2_startLoad 32 = .ok (.iload_n 2, 1) := by decide +kernel
theorem dX2_startLoad_33 : decode cX2_startLoad 33 = .ok (.aload_n 3, 1) := by decide +kernel
theorem dX2_startLoad_34 : decode cX2_startLoad 34 = .ok (.invokevirtual 117, 3) := by decide +kernel
theorem dX2_startLoad_37 : decode cX2_startLoad 37 = .ok (.goto 4, 3) := by decide +kernel
theorem dX2_startLoad_40 : decode cX2_startLoad 40 = .ok (.iconst 1, 1) := by decide +kernel
theorem dX2_startLoad_41 : decode cX2_startLoad 41 = .ok (.istore 5, 2) := by decide +kernel
theorem dX2_startLoad_43 : decode cX2_startLoad 43 = .ok (.iload 5, 2) := by decide +kernel
theorem dX2_startLoad_45 : decode cX2_startLoad 45 = .ok (.ifCond .eq 9, 3) := by decide +kernel
theorem dX2_startLoad_48 : decode cX2_startLoad 48 = .ok (.bipush (-10), 2) := by decide +kernel
theorem dX2_startLoad_50 : decode cX2_startLoad 50 = .ok (.iload 5, 2) := by decide +kernel
theorem dX2_startLoad_52 : decode cX2_startLoad 52 = .ok (.isub, 1) := by decide +kernel
theorem dX2_startLoad_53 : decode cX2_startLoad 53 = .ok (.ireturn, 1) := by decide +kernel
theorem dX2_startLoad_54 : decode cX2_startLoad 54 = .ok (.aload 4, 2) := by decide +kernel
theorem dX2_startLoad_56 : decode cX2_startLoad 56 = .ok (.iload_n 2, 1) := by decide +kernel
theorem dX2_startLoad_57 : decode cX2_startLoad 57 = .ok (.invokevirtual 121, 3) := by decide +kernel
theorem dX2_startLoad_60 : decode cX2_startLoad 60 = .ok (.aload_n 0, 1) := by decide +kernel
theorem dX2_startLoad_61 : decode cX2_startLoad 61 = .ok (.dup, 1) := by decide +kernel
theorem dX2_startLoad_62 : decode cX2_startLoad 62 = .ok (.getfield 64, 3) := by decide +kernel
theorem dX2_startLoad_65 : decode cX2_startLoad 65 = .ok (.iconst 1, 1) := by decide +kernel
theorem dX2_startLoad_66 : decode cX2_startLoad 66 = .ok (.iadd, 1) := by decide +kernel
theorem dX2_startLoad_67 : decode cX2_startLoad 67 = .ok (.putfield 64, 3) := by decide +kernel
theorem dX2_startLoad_70 : decode cX2_startLoad 70 = .ok (.aload 4, 2) := by decide +kernel
theorem dX2_startLoad_72 : decode cX2_startLoad 72 = .ok (.getfield 125, 3) := by decide +kernel
theorem dX2_startLoad_75 : decode cX2_startLoad 75 = .ok (.ireturn, 1) := by decide +kernel
set_option maxRecDepth 20000 in
theorem ggX2_addToLine_X6_isWithin : GoodIn wsX2_addToLine wsX6_isWithin := goodIn_r _ [4] (by decide +kernel) (by decide +kernel)
set_option maxRecDepth 20000 in
theorem gX2_addToLine_X6_isWithin_n100 : GoodIn wsX2_addToLine (wsX6_isWithin) := ggX2_addToLine_X6_isWithin
set_option maxRecDepth 20000 in
theorem ggX2_addToLine_X5_add : GoodIn wsX2_addToLine wsX5_add := goodIn_r _ [9, 10, 11, 26, 27] (by decide +kernel) (by decide +kernel)
set_option maxRecDepth 20000 in
theorem gX2_addToLine_X5_add : GoodIn wsX2_addToLine (wsV RX2 128 RX5 yX5_add wsX5_add) := goodIn_app (goodIn_of _ (by decide +kernel)) ggX2_addToLine_X5_add
theorem dX2_addToLine_0 : decode cX2_addToLine 0 = .ok (.iload_n 1, 1) := by decide +kernel
theorem dX2_addToLine_1 : decode cX2_addToLine 1 = .ok (.iconst 0, 1) := by decide +kernel
theorem dX2_addToLine_2 : decode cX2_addToLine 2 = .ok (.iconst 2, 1) := by decide +kernel
theorem dX2_addToLine_3 : decode cX2_addToLine 3 = .ok (.invokestatic 100, 3) := by decide +kernel
theorem dX2_addToLine_6 : decode cX2_addToLine 6 = .ok (.ifCond .eq 14, 3) := by decide +kernel
theorem dX2_addToLine_9 : decode cX2_addToLine 9 = .ok (.aload_n 0, 1) := by decide +kernel
theorem dX2_addToLine_10 : decode cX2_addToLine 10 = .ok (.getfield 28, 3) := by decide +kernel
theorem dX2_addToLine_13 : decode cX2_addToLine 13 = .ok (.iload_n 1, 1) := by decide +kernel
theorem dX2_addToLine_14 : decode cX2_addToLine 14 = .ok (.invokevirtual 128, 3) := by decide +kernel
theorem dX2_addToLine_17 : decode cX2_addToLine 17 = .ok (.goto 4, 3) := by decide +kernel
theorem dX2_addToLine_20 : decode cX2_addToLine 20 = .ok (.iconst (-1), 1) := by decide +kernel
theorem dX2_addToLine_21 : decode cX2_addToLine 21 = .ok (.ireturn, 1) := by decide +kernel
set_option maxRecDepth 20000 in
theorem ggX2_removeFromLine_X5_remove : GoodIn wsX2_removeFromLine wsX5_remove := goodIn_r _ [6, 7, 8, 9, 10, 11, 5, 12, 27, 28] (by decide +kernel) (by decide +kernel)
set_option maxRecDepth 20000 in
theorem gX2_removeFromLine_X5_remove : GoodIn wsX2_removeFromLine (wsV RX2 132 RX5 yX5_remove wsX5_remove) := goodIn_app (goodIn_of _ (by decide +kernel)) ggX2_removeFromLine_X5_remove
theorem dX2_removeFromLine_0 : decode cX2_removeFromLine 0 = .ok (.aload_n 0, 1) := by decide +kernel
theorem dX2_removeFromLine_1 : decode cX2_removeFromLine 1 = .ok (.getfield 28, 3) := by decide +kernel
theorem dX2_removeFromLine_4 : decode cX2_removeFromLine 4 = .ok (.iload_n 1, 1) := by decide +kernel
theorem dX2_removeFromLine_5 : decode cX2_removeFromLine 5 = .ok (.invokevirtual 132, 3) := by decide +kernel
theorem dX2_removeFromLine_8 : decode cX2_removeFromLine 8 = .ok (.ireturn, 1) := by decide +kernel
set_option maxRecDepth 20000 in
theorem ggX2_unload_X2_machineAt : GoodIn wsX2_unload wsX2_machineAt := goodIn_r _ [7, 8, 24, 25, 26, 27, 28, 29, 30, 31, 32, 33, 34, 35, 36, 37] (by decide +kernel) (by decide +kernel)
set_option maxRecDepth 20000 in
theorem gX2_unload_X2_machineAt : GoodIn wsX2_unload (wsV RX2 113 RX2 yX2_machineAt wsX2_machineAt) := goodIn_app (goodIn_of _ (by decide +kernel)) ggX2_unload_X2_machineAt
set_option maxRecDepth 20000 in
theorem ggX2_unload_X3_isEmpty : GoodIn wsX2_unload wsX3_isEmpty := goodIn_r _ [13, 14, 21, 22, 23] (by decide +kernel) (by decide +kernel)
set_option maxRecDepth 20000 in
theorem gX2_unload_X3_isEmpty : GoodIn wsX2_unload (wsV RX2 76 RX3 yX3_isEmpty wsX3_isEmpty) := goodIn_app (goodIn_of _ (by decide +kernel)) ggX2_unload_X3_isEmpty
set_option maxRecDepth 20000 in
theorem ggX2_unload_X3_clear : GoodIn wsX2_unload wsX3_clear := goodIn_r _ [18, 14, 19, 20, 21, 22, 23] (by decide +kernel) (by decide +kernel)
set_option maxRecDepth 20000 in
theorem gX2_unload_X3_clear : GoodIn wsX2_unload (wsV RX2 135 RX3 yX3_clear wsX3_clear) := goodIn_app (goodIn_of _ (by decide +kernel)) ggX2_unload_X3_clear
theorem dX2_unload_0 : decode cX2_unload 0 = .ok (.aload_n 0, 1) := by decide +kernel
theorem dX2_unload_1 : decode cX2_unload 1 = .ok (.iload_n 1, 1) := by decide +kernel
theorem dX2_unload_2 : decode cX2_unload 2 = .ok (.invokevirtual 113, 3) := by decide +kernel
theorem dX2_unload_5 : decode cX2_unload 5 = .ok (.astore_n 2, 1) := by decide +kernel
theorem dX2_unload_6 : decode cX2_unload 6 = .ok (.aload_n 2, 1) := by decide +kernel
theorem dX2_unload_7 : decode cX2_unload 7 = .ok (.ifnonnull 5, 3) := by decide +kernel
theorem dX2_unload_10 : decode cX2_unload 10 = .ok (.iconst (-1), 1) := by decide +kernel
theorem dX2_unload_11 : decode cX2_unload 11 = .ok (.ireturn, 1) := by decide +kernel
theorem dX2_unload_12 : decode cX2_unload 12 = .ok (.aload_n 2, 1) := by decide +kernel
theorem dX2_unload_13 : decode cX2_unload 13 = .ok (.invokevirtual 76, 3) := by decide +kernel
theorem dX2_unload_16 : decode cX2_unload 16 = .ok (.ifCond .eq 6, 3) := by decide +kernel
theorem dX2_unload_19 : decode cX2_unload 19 = .ok (.bipush (-4), 2) := by decide +kernel
theorem dX2_unload_21 : decode cX2_unload 21 = .ok (.ireturn, 1) := by decide +kernel
theorem dX2_unload_22 : decode cX2_unload 22 = .ok (.aload_n 2, 1) := by decide +kernel
theorem dX2_unload_23 : decode cX2_unload 23 = .ok (.getfield 125, 3) := by decide +kernel
theorem dX2_unload_26 : decode cX2_unload 26 = .ok (.istore_n 3, 1) := by decide +kernel
theorem dX2_unload_27 : decode cX2_unload 27 = .ok (.aload_n 2, 1) := by decide +kernel
theorem dX2_unload_28 : decode cX2_unload 28 = .ok (.invokevirtual 135, 3) := by decide +kernel
theorem dX2_unload_31 : decode cX2_unload 31 = .ok (.aload_n 0, 1) := by decide +kernel
theorem dX2_unload_32 : decode cX2_unload 32 = .ok (.dup, 1) := by decide +kernel
theorem dX2_unload_33 : decode cX2_unload 33 = .ok (.getfield 67, 3) := by decide +kernel
theorem dX2_unload_36 : decode cX2_unload 36 = .ok (.iconst 1, 1) := by decide +kernel
theorem dX2_unload_37 : decode cX2_unload 37 = .ok (.iadd, 1) := by decide +kernel
theorem dX2_unload_38 : decode cX2_unload 38 = .ok (.putfield 67, 3) := by decide +kernel
theorem dX2_unload_41 : decode cX2_unload 41 = .ok (.iload_n 3, 1) := by decide +kernel
theorem dX2_unload_42 : decode cX2_unload 42 = .ok (.ireturn, 1) := by decide +kernel
set_option maxRecDepth 20000 in
theorem ggX2_letPass_X6_isWithin : GoodIn wsX2_letPass wsX6_isWithin := goodIn_r _ [6] (by decide +kernel) (by decide +kernel)
set_option maxRecDepth 20000 in
theorem gX2_letPass_X6_isWithin_n100 : GoodIn wsX2_letPass (wsX6_isWithin) := ggX2_letPass_X6_isWithin
set_option maxRecDepth 20000 in
theorem ggX2_letPass_X2_passTick : GoodIn wsX2_letPass wsX2_passTick := goodIn_r _ [11, 12, 13, 14, 15, 16, 10, 17, 1, 18, 19, 20, 21, 22, 23, 24, 25, 26, 27, 28, 29, 30, 31, 32, 33, 34, 35, 36, 37, 38, 39, 40, 41, 42, 43, 44, 45, 46, 5, 47, 48, 49, 50, 51, 52, 53, 54, 55, 56, 57, 58, 59, 60, 61, 62, 63, 64, 65, 66, 67, 68, 69, 70, 71, 72, 73, 74, 75, 76, 77, 78, 79, 80, 3, 81, 82, 83, 84, 85, 86, 87, 88, 89, 90, 91, 92, 93, 94, 95, 96, 97, 98, 99, 100, 101, 102, 103, 104, 105, 106, 107, 108, 109, 110, 111, 112, 113, 114, 115, 116, 117, 118, 119, 120, 121, 122, 123, 124, 125, 126, 127, 128, 129, 130, 131, 132, 133, 134, 135, 136, 137, 138, 139, 140, 141, 142, 143, 144, 145, 146, 147, 148, 149, 150, 151, 152, 153, 154, 155] (by decide +kernel) (by decide +kernel)
set_option maxRecDepth 20000 in
theorem gX2_letPass_X2_passTick : GoodIn wsX2_letPass (wsV RX2 139 RX2 yX2_passTick wsX2_passTick) := goodIn_app (goodIn_of _ (by decide +kernel)) ggX2_letPass_X2_passTick
theorem dX2_letPass_0 : decode cX2_letPass 0 = .ok (.iload_n 1, 1) := by decide +kernel
theorem dX2_letPass_1 : decode cX2_letPass 1 = .ok (.iconst 1, 1) := by decide +kernel
theorem dX2_letPass_2 : decode cX2_letPass 2 = .ok (.sipush 200, 3) := by decide +kernel
theorem dX2_letPass_5 : decode cX2_letPass 5 = .ok (.invokestatic 100, 3) := by decide +kernel
theorem dX2_letPass_8 : decode cX2_letPass 8 = .ok (.ifCond .ne 6, 3) := by decide +kernel
theorem dX2_letPass_11 : decode cX2_letPass 11 = .ok (.bipush (-2), 2) := by decide +kernel
theorem dX2_letPass_13 : decode cX2_letPass 13 = .ok (.ireturn, 1) := by decide +kernel
theorem dX2_letPass_14 : decode cX2_letPass 14 = .ok (.aload_n 0, 1) := by decide +kernel
theorem dX2_letPass_15 : decode cX2_letPass 15 = .ok (.getfield 49, 3) := by decide +kernel
theorem dX2_letPass_18 : decode cX2_letPass 18 = .ok (.iload_n 1, 1) := by decide +kernel
theorem dX2_letPass_19 : decode cX2_letPass 19 = .ok (.iadd, 1) := by decide +kernel
theorem dX2_letPass_20 : decode cX2_letPass 20 = .ok (.ldc 138, 2) := by decide +kernel
theorem dX2_letPass_22 : decode cX2_letPass 22 = .ok (.if_icmp .le 6, 3) := by decide +kernel
theorem dX2_letPass_25 : decode cX2_letPass 25 = .ok (.bipush (-3), 2) := by decide +kernel
theorem dX2_letPass_27 : decode cX2_letPass 27 = .ok (.ireturn, 1) := by decide +kernel
theorem dX2_letPass_28 : decode cX2_letPass 28 = .ok (.aload_n 0, 1) := by decide +kernel
theorem dX2_letPass_29 : decode cX2_letPass 29 = .ok (.getfield 52, 3) := by decide +kernel
theorem dX2_letPass_32 : decode cX2_letPass 32 = .ok (.istore_n 3, 1) := by decide +kernel
theorem dX2_letPass_33 : decode cX2_letPass 33 = .ok (.iconst 0, 1) := by decide +kernel
theorem dX2_letPass_34 : decode cX2_letPass 34 = .ok (.istore 4, 2) := by decide +kernel
theorem dX2_letPass_36 : decode cX2_letPass 36 = .ok (.iload 4, 2) := by decide +kernel
theorem dX2_letPass_38 : decode cX2_letPass 38 = .ok (.iload_n 1, 1) := by decide +kernel
theorem dX2_letPass_39 : decode cX2_letPass 39 = .ok (.if_icmp .ge 14, 3) := by decide +kernel
theorem dX2_letPass_42 : decode cX2_letPass 42 = .ok (.aload_n 0, 1) := by decide +kernel
theorem dX2_letPass_43 : decode cX2_letPass 43 = .ok (.aload_n 2, 1) := by decide +kernel
theorem dX2_letPass_44 : decode cX2_letPass 44 = .ok (.invokevirtual 139, 3) := by decide +kernel
theorem dX2_letPass_47 : decode cX2_letPass 47 = .ok (.iinc 4 1, 3) := by decide +kernel
theorem dX2_letPass_50 : decode cX2_letPass 50 = .ok (.goto (-14), 3) := by decide +kernel
theorem dX2_letPass_53 : decode cX2_letPass 53 = .ok (.aload_n 0, 1) := by decide +kernel
theorem dX2_letPass_54 : decode cX2_letPass 54 = .ok (.getfield 52, 3) := by decide +kernel
theorem dX2_letPass_57 : decode cX2_letPass 57 = .ok (.iload_n 3, 1) := by decide +kernel
theorem dX2_letPass_58 : decode cX2_letPass 58 = .ok (.isub, 1) := by decide +kernel
theorem dX2_letPass_59 : decode cX2_letPass 59 = .ok (.ireturn, 1) := by decide +kernel
set_option maxRecDepth 20000 in
theorem ggX2_lightFires_X2_boilerAt : GoodIn wsX2_lightFires wsX2_boilerAt := goodIn_r _ [6, 7, 13, 14, 15, 16, 17, 18, 19, 20, 21, 22, 23, 24, 25, 26] (by decide +kernel) (by decide +kernel)
set_option maxRecDepth 20000 in
theorem gX2_lightFires_X2_boilerAt : GoodIn wsX2_lightFires (wsV RX2 96 RX2 yX2_boilerAt wsX2_boilerAt) := goodIn_app (goodIn_of _ (by decide +kernel)) ggX2_lightFires_X2_boilerAt
theorem dX2_lightFires_0 : decode cX2_lightFires 0 = .ok (.aload_n 0, 1) := by decide +kernel
theorem dX2_lightFires_1 : decode cX2_lightFires 1 = .ok (.iconst 0, 1) := by decide +kernel
theorem dX2_lightFires_2 : decode cX2_lightFires 2 = .ok (.invokevirtual 96, 3) := by decide +kernel
theorem dX2_lightFires_5 : decode cX2_lightFires 5 = .ok (.astore_n 3, 1) := by decide +kernel
theorem dX2_lightFires_6 : decode cX2_lightFires 6 = .ok (.aload_n 0, 1) := by decide +kernel
theorem dX2_lightFires_7 : decode cX2_lightFires 7 = .ok (.iconst 1, 1) := by decide +kernel
theorem dX2_lightFires_8 : decode cX2_lightFires 8 = .ok (.invokevirtual 96, 3) := by decide +kernel
theorem dX2_lightFires_11 : decode cX2_lightFires 11 = .ok (.astore 4, 2) := by decide +kernel
theorem dX2_lightFires_13 : decode cX2_lightFires 13 = .ok (.aload_n 3, 1) := by decide +kernel
theorem dX2_lightFires_14 : decode cX2_lightFires 14 = .ok (.ifnull 19, 3) := by decide +kernel
theorem dX2_lightFires_17 : decode cX2_lightFires 17 = .ok (.aload 4, 2) := by decide +kernel
theorem dX2_lightFires_19 : decode cX2_lightFires 19 = .ok (.ifnull 14, 3) := by decide +kernel
theorem dX2_lightFires_22 : decode cX2_lightFires 22 = .ok (.aload_n 3, 1) := by decide +kernel
theorem dX2_lightFires_23 : decode cX2_lightFires 23 = .ok (.iload_n 1, 1) := by decide +kernel
theorem dX2_lightFires_24 : decode cX2_lightFires 24 = .ok (.putfield 107, 3) := by decide +kernel
theorem dX2_lightFires_27 : decode cX2_lightFires 27 = .ok (.aload 4, 2) := by decide +kernel
theorem dX2_lightFires_29 : decode cX2_lightFires 29 = .ok (.iload_n 2, 1) := by decide +kernel
theorem dX2_lightFires_30 : decode cX2_lightFires 30 = .ok (.putfield 107, 3) := by decide +kernel
theorem dX2_lightFires_33 : decode cX2_lightFires 33 = .ok (.return_, 1) := by decide +kernel
set_option maxRecDepth 20000 in
theorem ggX2_passTick_X2_workTick : GoodIn wsX2_passTick wsX2_workTick := goodIn_r _ [7, 8, 9, 10, 11, 12, 13, 14, 6, 15, 16, 17, 18, 19, 20, 21, 22, 23, 24, 25, 26, 27, 28, 29, 30, 31, 32, 33, 34, 35, 36, 37, 38, 39, 40, 41, 42, 43, 44, 45, 46, 47, 48, 49, 50, 51, 52, 53, 54, 55, 56, 57, 58, 59, 60, 61, 62, 63, 64, 65, 66, 67, 68, 69, 70, 71, 72, 73, 74, 75, 76, 77, 78, 79, 80, 81, 125, 126, 127, 128, 129, 130, 131, 132, 133, 134, 135, 136, 137, 138, 139, 140, 141, 142, 143, 144, 145, 146] (by decide +kernel) (by decide +kernel)
set_option maxRecDepth 20000 in
theorem gX2_passTick_X2_workTick : GoodIn wsX2_passTick (wsV RX2 143 RX2 yX2_workTick wsX2_workTick) := goodIn_app (goodIn_of _ (by decide +kernel)) ggX2_passTick_X2_workTick
set_option maxRecDepth 20000 in
theorem ggX2_passTick_X5_kindAt : GoodIn wsX2_passTick wsX5_kindAt := goodIn_r _ [86, 87, 88, 147, 148] (by decide +kernel) (by decide +kernel)
set_option maxRecDepth 20000 in
theorem gX2_passTick_X5_kindAt : GoodIn wsX2_passTick (wsV RX2 146 RX5 yX5_kindAt wsX5_kindAt) := goodIn_app (goodIn_of _ (by decide +kernel)) ggX2_passTick_X5_kindAt
set_option maxRecDepth 20000 in
theorem ggX2_passTick_X2_reasonAgainst : GoodIn wsX2_passTick wsX2_reasonAgainst := goodIn_r _ [92, 93, 94, 95, 6, 96, 35, 52, 53, 54, 55, 56, 57, 40, 41, 42, 43, 9, 44, 97, 98, 99, 100, 1, 8, 73, 51, 11, 10, 16, 21, 2, 101, 74, 49, 102, 103, 104, 25, 105, 28, 29, 30, 27, 81, 106, 107, 108, 109, 62, 63, 110, 111, 112, 85, 113, 87, 88, 114, 115, 116, 117, 118, 38, 119, 3, 4, 5, 7, 12, 13, 14, 15, 17, 18, 19, 20, 22, 23, 24, 26, 31, 32, 33, 34, 36, 37, 39, 45, 46, 47, 48, 50, 58, 59, 60, 61, 64, 65, 66, 67, 68, 69, 70, 71, 72, 75, 76, 77, 78, 79, 80, 125, 126, 127, 128, 129, 130, 131, 132, 133, 134, 135, 136, 137, 138, 144, 145, 146, 139, 140, 141, 142, 143, 147, 148] (by decide +kernel) (by decide +kernel)
set_option maxRecDepth 20000 in
theorem gX2_passTick_X2_reasonAgainst : GoodIn wsX2_passTick (wsV RX2 117 RX2 yX2_reasonAgainst wsX2_reasonAgainst) := goodIn_app (goodIn_of _ (by decide +kernel)) ggX2_passTick_X2_reasonAgainst
set_option maxRecDepth 20000 in
theorem ggX2_passTick_X2_lowestEmptyMachine : GoodIn wsX2_passTick wsX2_lowestEmptyMachine := goodIn_r _ [96, 35, 52, 53, 54, 55, 56, 57, 125, 126, 127, 128, 129, 130, 131, 132, 133, 134, 135, 136, 137, 138, 144, 145, 146] (by decide +kernel) (by decide +kernel)
set_option maxRecDepth 20000 in
theorem gX2_passTick_X2_lowestEmptyMachine : GoodIn wsX2_passTick (wsV RX2 149 RX2 yX2_lowestEmptyMachine wsX2_lowestEmptyMachine) := goodIn_app (goodIn_of _ (by decide +kernel)) ggX2_passTick_X2_lowestEmptyMachine
set_option maxRecDepth 20000 in
theorem ggX2_passTick_X5_remove : GoodIn wsX2_passTick wsX5_remove := goodIn_r _ [123, 87, 88, 124, 83, 84, 85, 86, 147, 148] (by decide +kernel) (by decide +kernel)
set_option maxRecDepth 20000 in
theorem gX2_passTick_X5_remove : GoodIn wsX2_passTick (wsV RX2 132 RX5 yX5_remove wsX5_remove) := goodIn_app (goodIn_of _ (by decide +kernel)) ggX2_passTick_X5_remove
set_option maxRecDepth 20000 in
theorem ggX2_passTick_X3_put : GoodIn wsX2_passTick wsX3_put := goodIn_r _ [117, 57, 62, 63, 118, 38, 119, 144, 145, 146] (by decide +kernel) (by decide +kernel)
set_option maxRecDepth 20000 in
theorem gX2_passTick_X3_put : GoodIn wsX2_passTick (wsV RX2 121 RX3 yX3_put wsX3_put) := goodIn_app (goodIn_of _ (by decide +kernel)) ggX2_passTick_X3_put
theorem dX2_passTick_0 : decode cX2_passTick 0 = .ok (.aload_n 0, 1) := by decide +kernel
theorem dX2_passTick_1 : decode cX2_passTick 1 = .ok (.invokevirtual 143, 3) := by decide +kernel
theorem dX2_passTick_4 : decode cX2_passTick 4 = .ok (.pop, 1) := by decide +kernel
theorem dX2_passTick_5 : decode cX2_passTick 5 = .ok (.aload_n 0, 1) := by decide +kernel
theorem dX2_passTick_6 : decode cX2_passTick 6 = .ok (.getfield 28, 3) := by decide +kernel
theorem dX2_passTick_9 : decode cX2_passTick 9 = .ok (.iconst 0, 1) := by decide +kernel
theorem dX2_passTick_10 : decode cX2_passTick 10 = .ok (.invokevirtual 146, 3) := by decide +kernel
theorem dX2_passTick_13 : decode cX2_passTick 13 = .ok (.istore_n 2, 1) := by decide +kernel
theorem dX2_passTick_14 : decode cX2_passTick 14 = .ok (.iload_n 2, 1) := by decide +kernel
theorem dX2_passTick_15 : decode cX2_passTick 15 = .ok (.bipush (-5), 2) := by decide +kernel
theorem dX2_passTick_17 : decode cX2_passTick 17 = .ok (.if_icmp .eq 12, 3) := by decide +kernel
theorem dX2_passTick_20 : decode cX2_passTick 20 = .ok (.aload_n 0, 1) := by decide +kernel
theorem dX2_passTick_21 : decode cX2_passTick 21 = .ok (.iload_n 2, 1) := by decide +kernel
theorem dX2_passTick_22 : decode cX2_passTick 22 = .ok (.aload_n 1, 1) := by decide +kernel
theorem dX2_passTick_23 : decode cX2_passTick 23 = .ok (.invokevirtual 117, 3) := by decide +kernel
theorem dX2_passTick_26 : decode cX2_passTick 26 = .ok (.ifCond .eq 4, 3) := by decide +kernel
theorem dX2_passTick_29 : decode cX2_passTick 29 = .ok (.return_, 1) := by decide +kernel
theorem dX2_passTick_30 : decode cX2_passTick 30 = .ok (.aload_n 0, 1) := by decide +kernel
theorem dX2_passTick_31 : decode cX2_passTick 31 = .ok (.invokevirtual 149, 3) := by decide +kernel
theorem dX2_passTick_34 : decode cX2_passTick 34 = .ok (.astore_n 3, 1) := by decide +kernel
theorem dX2_passTick_35 : decode cX2_passTick 35 = .ok (.aload_n 3, 1) := by decide +kernel
theorem dX2_passTick_36 : decode cX2_passTick 36 = .ok (.ifnull 27, 3) := by decide +kernel
theorem dX2_passTick_39 : decode cX2_passTick 39 = .ok (.aload_n 0, 1) := by decide +kernel
theorem dX2_passTick_40 : decode cX2_passTick 40 = .ok (.getfield 28, 3) := by decide +kernel
theorem dX2_passTick_43 : decode cX2_passTick 43 = .ok (.iconst 0, 1) := by decide +kernel
theorem dX2_passTick_44 : decode cX2_passTick 44 = .ok (.invokevirtual 132, 3) := by decide +kernel
theorem dX2_passTick_47 : decode cX2_passTick 47 = .ok (.pop, 1) := by decide +kernel
theorem dX2_passTick_48 : decode cX2_passTick 48 = .ok (.aload_n 3, 1) := by decide +kernel
theorem dX2_passTick_49 : decode cX2_passTick 49 = .ok (.iload_n 2, 1) := by decide +kernel
theorem dX2_passTick_50 : decode cX2_passTick 50 = .ok (.invokevirtual 121, 3) := by decide +kernel
theorem dX2_passTick_53 : decode cX2_passTick 53 = .ok (.aload_n 0, 1) := by decide +kernel
theorem dX2_passTick_54 : decode cX2_passTick 54 = .ok (.dup, 1) := by decide +kernel
theorem dX2_passTick_55 : decode cX2_passTick 55 = .ok (.getfield 64, 3) := by decide +kernel
theorem dX2_passTick_58 : decode cX2_passTick 58 = .ok (.iconst 1, 1) := by decide +kernel
theorem dX2_passTick_59 : decode cX2_passTick 59 = .ok (.iadd, 1) := by decide +kernel
theorem dX2_passTick_60 : decode cX2_passTick 60 = .ok (.putfield 64, 3) := by decide +kernel
theorem dX2_passTick_63 : decode cX2_passTick 63 = .ok (.return_, 1) := by decide +kernel
set_option maxRecDepth 20000 in
theorem ggX2_reasonAgainst_X2_lowestEmptyMachine : GoodIn wsX2_reasonAgainst wsX2_lowestEmptyMachine := goodIn_r _ [5, 6, 7, 8, 9, 10, 11, 12, 112, 113, 114, 115, 116, 117, 118, 119, 120, 121, 122, 123, 124, 125, 126, 127, 128] (by decide +kernel) (by decide +kernel)
set_option maxRecDepth 20000 in
theorem gX2_reasonAgainst_X2_lowestEmptyMachine : GoodIn wsX2_reasonAgainst (wsV RX2 149 RX2 yX2_lowestEmptyMachine wsX2_lowestEmptyMachine) := goodIn_app (goodIn_of _ (by decide +kernel)) ggX2_reasonAgainst_X2_lowestEmptyMachine
set_option maxRecDepth 20000 in
theorem ggX2_reasonAgainst_X2_allPressure : GoodIn wsX2_reasonAgainst wsX2_allPressure := goodIn_r _ [16, 17, 18, 112, 113, 114, 115, 116, 117, 118, 119, 120, 121, 122, 123, 124, 125, 129, 130, 131, 132, 133] (by decide +kernel) (by decide +kernel)
set_option maxRecDepth 20000 in
theorem gX2_reasonAgainst_X2_allPressure : GoodIn wsX2_reasonAgainst (wsV RX2 93 RX2 yX2_allPressure wsX2_allPressure) := goodIn_app (goodIn_of _ (by decide +kernel)) ggX2_reasonAgainst_X2_allPressure
set_option maxRecDepth 20000 in
theorem ggX2_reasonAgainst_X2_copyFrom : GoodIn wsX2_reasonAgainst wsX2_copyFrom := goodIn_r _ [22, 17, 6, 23, 24, 25, 26, 27, 28, 29, 30, 31, 32, 33, 34, 35, 36, 37, 38, 39, 40, 41, 42, 43, 44, 45, 46, 47, 10, 48, 12, 49, 50, 51, 52, 53, 54, 55, 56, 57, 112, 113, 114, 115, 116, 117, 118, 119, 120, 121, 122, 123, 124, 125, 129, 130, 131, 132, 133, 126, 127, 128, 134, 135] (by decide +kernel) (by decide +kernel)
set_option maxRecDepth 20000 in
theorem gX2_reasonAgainst_X2_copyFrom : GoodIn wsX2_reasonAgainst (wsV RX2 153 RX2 yX2_copyFrom wsX2_copyFrom) := goodIn_app (goodIn_of _ (by decide +kernel)) ggX2_reasonAgainst_X2_copyFrom
set_option maxRecDepth 20000 in
theorem ggX2_reasonAgainst_X3_put : GoodIn wsX2_reasonAgainst wsX3_put := goodIn_r _ [61, 12, 49, 50, 62, 63, 64, 126, 127, 128] (by decide +kernel) (by decide +kernel)
set_option maxRecDepth 20000 in
theorem gX2_reasonAgainst_X3_put : GoodIn wsX2_reasonAgainst (wsV RX2 121 RX3 yX3_put wsX3_put) := goodIn_app (goodIn_of _ (by decide +kernel)) ggX2_reasonAgainst_X3_put
set_option maxRecDepth 20000 in
theorem ggX2_reasonAgainst_X6_ticksOf : GoodIn wsX2_reasonAgainst wsX6_ticksOf := goodIn_r _ [64] (by decide +kernel) (by decide +kernel)
set_option maxRecDepth 20000 in
theorem gX2_reasonAgainst_X6_ticksOf_n155 : GoodIn wsX2_reasonAgainst (wsX6_ticksOf) := ggX2_reasonAgainst_X6_ticksOf
set_option maxRecDepth 20000 in
theorem ggX2_reasonAgainst_X2_workTick : GoodIn wsX2_reasonAgainst wsX2_workTick := goodIn_r _ [68, 24, 17, 28, 27, 69, 70, 71, 4, 72, 29, 73, 74, 75, 76, 30, 77, 78, 79, 38, 80, 43, 40, 41, 42, 81, 82, 83, 84, 6, 85, 86, 63, 87, 13, 14, 15, 16, 18, 88, 89, 90, 91, 34, 92, 26, 7, 8, 9, 10, 11, 12, 93, 94, 95, 96, 49, 50, 97, 98, 99, 100, 101, 102, 103, 104, 105, 25, 33, 106, 107, 108, 109, 110, 111, 44, 112, 113, 114, 115, 116, 117, 118, 119, 120, 121, 122, 123, 124, 125, 129, 130, 131, 132, 133, 126, 127, 128] (by decide +kernel) (by decide +kernel)
set_option maxRecDepth 20000 in
theorem gX2_reasonAgainst_X2_workTick : GoodIn wsX2_reasonAgainst (wsV RX2 143 RX2 yX2_workTick wsX2_workTick) := goodIn_app (goodIn_of _ (by decide +kernel)) ggX2_reasonAgainst_X2_workTick
theorem dX2_reasonAgainst_0 : decode cX2_reasonAgainst 0 = .ok (.aload_n 0, 1) := by decide +kernel
theorem dX2_reasonAgainst_1 : decode cX2_reasonAgainst 1 = .ok (.invokevirtual 149, 3) := by decide +kernel
theorem dX2_reasonAgainst_4 : decode cX2_reasonAgainst 4 = .ok (.ifnonnull 5, 3) := by decide +kernel
theorem dX2_reasonAgainst_7 : decode cX2_reasonAgainst 7 = .ok (.iconst 1, 1) := by decide +kernel
theorem dX2_reasonAgainst_8 : decode cX2_reasonAgainst 8 = .ok (.ireturn, 1) := by decide +kernel
theorem dX2_reasonAgainst_9 : decode cX2_reasonAgainst 9 = .ok (.aload_n 0, 1) := by decide +kernel
theorem dX2_reasonAgainst_10 : decode cX2_reasonAgainst 10 = .ok (.invokevirtual 93, 3) := by decide +kernel
theorem dX2_reasonAgainst_13 : decode cX2_reasonAgainst 13 = .ok (.bipush 10, 2) := by decide +kernel
theorem dX2_reasonAgainst_15 : decode cX2_reasonAgainst 15 = .ok (.if_icmp .ge 5, 3) := by decide +kernel
theorem dX2_reasonAgainst_18 : decode cX2_reasonAgainst 18 = .ok (.iconst 2, 1) := by decide +kernel
theorem dX2_reasonAgainst_19 : decode cX2_reasonAgainst 19 = .ok (.ireturn, 1) := by decide +kernel
theorem dX2_reasonAgainst_20 : decode cX2_reasonAgainst 20 = .ok (.aload_n 2, 1) := by decide +kernel
theorem dX2_reasonAgainst_21 : decode cX2_reasonAgainst 21 = .ok (.aload_n 0, 1) := by decide +kernel
theorem dX2_reasonAgainst_22 : decode cX2_reasonAgainst 22 = .ok (.invokevirtual 153, 3) := by decide +kernel
theorem dX2_reasonAgainst_25 : decode cX2_reasonAgainst 25 = .ok (.aload_n 2, 1) := by decide +kernel
theorem dX2_reasonAgainst_26 : decode cX2_reasonAgainst 26 = .ok (.invokevirtual 149, 3) := by decide +kernel
theorem dX2_reasonAgainst_29 : decode cX2_reasonAgainst 29 = .ok (.astore_n 3, 1) := by decide +kernel
theorem dX2_reasonAgainst_30 : decode cX2_reasonAgainst 30 = .ok (.aload_n 3, 1) := by decide +kernel
theorem dX2_reasonAgainst_31 : decode cX2_reasonAgainst 31 = .ok (.ifnonnull 5, 3) := by decide +kernel
theorem dX2_reasonAgainst_34 : decode cX2_reasonAgainst 34 = .ok (.iconst 1, 1) := by decide +kernel
theorem dX2_reasonAgainst_35 : decode cX2_reasonAgainst 35 = .ok (.ireturn, 1) := by decide +kernel
theorem dX2_reasonAgainst_36 : decode cX2_reasonAgainst 36 = .ok (.aload_n 3, 1) := by decide +kernel
theorem dX2_reasonAgainst_37 : decode cX2_reasonAgainst 37 = .ok (.iload_n 1, 1) := by decide +kernel
theorem dX2_reasonAgainst_38 : decode cX2_reasonAgainst 38 = .ok (.invokevirtual 121, 3) := by decide +kernel
theorem dX2_reasonAgainst_41 : decode cX2_reasonAgainst 41 = .ok (.iload_n 1, 1) := by decide +kernel
theorem dX2_reasonAgainst_42 : decode cX2_reasonAgainst 42 = .ok (.invokestatic 155, 3) := by decide +kernel
theorem dX2_reasonAgainst_45 : decode cX2_reasonAgainst 45 = .ok (.istore 4, 2) := by decide +kernel
theorem dX2_reasonAgainst_47 : decode cX2_reasonAgainst 47 = .ok (.iconst 0, 1) := by decide +kernel
theorem dX2_reasonAgainst_48 : decode cX2_reasonAgainst 48 = .ok (.istore 5, 2) := by decide +kernel
theorem dX2_reasonAgainst_50 : decode cX2_reasonAgainst 50 = .ok (.iload 5, 2) := by decide +kernel
theorem dX2_reasonAgainst_52 : decode cX2_reasonAgainst 52 = .ok (.iload 4, 2) := by decide +kernel
theorem dX2_reasonAgainst_54 : decode cX2_reasonAgainst 54 = .ok (.if_icmp .ge 18, 3) := by decide +kernel
theorem dX2_reasonAgainst_57 : decode cX2_reasonAgainst 57 = .ok (.aload_n 2, 1) := by decide +kernel
theorem dX2_reasonAgainst_58 : decode cX2_reasonAgainst 58 = .ok (.invokevirtual 143, 3) := by decide +kernel
theorem dX2_reasonAgainst_61 : decode cX2_reasonAgainst 61 = .ok (.ifCond .eq 5, 3) := by decide +kernel
theorem dX2_reasonAgainst_64 : decode cX2_reasonAgainst 64 = .ok (.iconst 3, 1) := by decide +kernel
theorem dX2_reasonAgainst_65 : decode cX2_reasonAgainst 65 = .ok (.ireturn, 1) := by decide +kernel
theorem dX2_reasonAgainst_66 : decode cX2_reasonAgainst 66 = .ok (.iinc 5 1, 3) := by decide +kernel
theorem dX2_reasonAgainst_69 : decode cX2_reasonAgainst 69 = .ok (.goto (-19), 3) := by decide +kernel
theorem dX2_reasonAgainst_72 : decode cX2_reasonAgainst 72 = .ok (.iconst 0, 1) := by decide +kernel
theorem dX2_reasonAgainst_73 : decode cX2_reasonAgainst 73 = .ok (.ireturn, 1) := by decide +kernel
set_option maxRecDepth 20000 in
theorem ggX2_workTick_X2_receiveRation : GoodIn wsX2_workTick wsX2_receiveRation := goodIn_r _ [9, 10, 3, 11, 12, 13, 14, 15, 76, 77, 78, 79, 80, 81, 82, 83, 84, 85, 86, 87, 88, 89] (by decide +kernel) (by decide +kernel)
set_option maxRecDepth 20000 in
theorem gX2_workTick_X2_receiveRation : GoodIn wsX2_workTick (wsV RX2 158 RX2 yX2_receiveRation wsX2_receiveRation) := goodIn_app (goodIn_of _ (by decide +kernel)) ggX2_workTick_X2_receiveRation
set_option maxRecDepth 20000 in
theorem ggX2_workTick_X0_burn : GoodIn wsX2_workTick wsX0_burn := goodIn_r _ [20, 21, 22, 23, 24, 90, 91, 92, 93, 94] (by decide +kernel) (by decide +kernel)
set_option maxRecDepth 20000 in
theorem gX2_workTick_X0_burn : GoodIn wsX2_workTick (wsV RX2 161 RX0 yX0_burn wsX0_burn) := goodIn_app (goodIn_of _ (by decide +kernel)) ggX2_workTick_X0_burn
set_option maxRecDepth 20000 in
theorem ggX2_workTick_X2_need : GoodIn wsX2_workTick wsX2_need := goodIn_r _ [28, 29, 30, 31, 32, 33, 76, 77, 78, 79, 80, 81, 82, 83, 84, 85, 86, 87, 88, 89, 95, 96, 97] (by decide +kernel) (by decide +kernel)
set_option maxRecDepth 20000 in
theorem gX2_workTick_X2_need : GoodIn wsX2_workTick (wsV RX2 164 RX2 yX2_need wsX2_need) := goodIn_app (goodIn_of _ (by decide +kernel)) ggX2_workTick_X2_need
set_option maxRecDepth 20000 in
theorem ggX2_workTick_X2_allPressure : GoodIn wsX2_workTick wsX2_allPressure := goodIn_r _ [37, 2, 38, 76, 77, 78, 79, 80, 81, 82, 83, 84, 85, 86, 87, 88, 89, 90, 91, 92, 93, 94] (by decide +kernel) (by decide +kernel)
set_option maxRecDepth 20000 in
theorem gX2_workTick_X2_allPressure : GoodIn wsX2_workTick (wsV RX2 93 RX2 yX2_allPressure wsX2_allPressure) := goodIn_app (goodIn_of _ (by decide +kernel)) ggX2_workTick_X2_allPressure
set_option maxRecDepth 20000 in
theorem ggX2_workTick_X2_holdLoads : GoodIn wsX2_workTick wsX2_holdLoads := goodIn_r _ [42, 43, 29, 44, 45, 46, 47, 48, 49, 50, 51, 52, 53, 54, 55, 56, 57, 76, 77, 78, 79, 80, 81, 82, 83, 84, 85, 86, 87, 88, 89, 95, 96, 97] (by decide +kernel) (by decide +kernel)
set_option maxRecDepth 20000 in
theorem gX2_workTick_X2_holdLoads : GoodIn wsX2_workTick (wsV RX2 167 RX2 yX2_holdLoads wsX2_holdLoads) := goodIn_app (goodIn_of _ (by decide +kernel)) ggX2_workTick_X2_holdLoads
set_option maxRecDepth 20000 in
theorem ggX2_workTick_X2_takeSteam : GoodIn wsX2_workTick wsX2_takeSteam := goodIn_r _ [61, 2, 38, 76, 77, 78, 79, 80, 81, 82, 83, 84, 85, 86, 87, 88, 89, 90, 91, 92, 93, 94] (by decide +kernel) (by decide +kernel)
set_option maxRecDepth 20000 in
theorem gX2_workTick_X2_takeSteam : GoodIn wsX2_workTick (wsV RX2 170 RX2 yX2_takeSteam wsX2_takeSteam) := goodIn_app (goodIn_of _ (by decide +kernel)) ggX2_workTick_X2_takeSteam
set_option maxRecDepth 20000 in
theorem ggX2_workTick_X2_workLoads : GoodIn wsX2_workTick wsX2_workLoads := goodIn_r _ [65, 29, 66, 67, 68, 30, 46, 47, 48, 49, 50, 51, 69, 32, 70, 52, 53, 54, 55, 56, 57, 76, 77, 78, 79, 80, 81, 82, 83, 84, 85, 86, 87, 88, 89, 95, 96, 97] (by decide +kernel) (by decide +kernel)
set_option maxRecDepth 20000 in
theorem gX2_workTick_X2_workLoads : GoodIn wsX2_workTick (wsV RX2 173 RX2 yX2_workLoads wsX2_workLoads) := goodIn_app (goodIn_of _ (by decide +kernel)) ggX2_workTick_X2_workLoads
set_option maxRecDepth 20000 in
theorem ggX2_workTick_X0_coolDown : GoodIn wsX2_workTick wsX0_coolDown := goodIn_r _ [74, 24, 22, 21, 75, 90, 91, 92, 93, 94] (by decide +kernel) (by decide +kernel)
set_option maxRecDepth 20000 in
theorem gX2_workTick_X0_coolDown : GoodIn wsX2_workTick (wsV RX2 176 RX0 yX0_coolDown wsX0_coolDown) := goodIn_app (goodIn_of _ (by decide +kernel)) ggX2_workTick_X0_coolDown
theorem dX2_workTick_0 : decode cX2_workTick 0 = .ok (.aload_n 0, 1) := by decide +kernel
theorem dX2_workTick_1 : decode cX2_workTick 1 = .ok (.dup, 1) := by decide +kernel
theorem dX2_workTick_2 : decode cX2_workTick 2 = .ok (.getfield 49, 3) := by decide +kernel
theorem dX2_workTick_5 : decode cX2_workTick 5 = .ok (.iconst 1, 1) := by decide +kernel
theorem dX2_workTick_6 : decode cX2_workTick 6 = .ok (.iadd, 1) := by decide +kernel
theorem dX2_workTick_7 : decode cX2_workTick 7 = .ok (.putfield 49, 3) := by decide +kernel
theorem dX2_workTick_10 : decode cX2_workTick 10 = .ok (.aload_n 0, 1) := by decide +kernel
theorem dX2_workTick_11 : decode cX2_workTick 11 = .ok (.getfield 49, 3) := by decide +kernel
theorem dX2_workTick_14 : decode cX2_workTick 14 = .ok (.bipush 60, 2) := by decide +kernel
theorem dX2_workTick_16 : decode cX2_workTick 16 = .ok (.irem, 1) := by decide +kernel
theorem dX2_workTick_17 : decode cX2_workTick 17 = .ok (.ifCond .ne 7, 3) := by decide +kernel
theorem dX2_workTick_20 : decode cX2_workTick 20 = .ok (.aload_n 0, 1) := by decide +kernel
theorem dX2_workTick_21 : decode cX2_workTick 21 = .ok (.invokevirtual 158, 3) := by decide +kernel
theorem dX2_workTick_24 : decode cX2_workTick 24 = .ok (.aload_n 0, 1) := by decide +kernel
theorem dX2_workTick_25 : decode cX2_workTick 25 = .ok (.getfield 12, 3) := by decide +kernel
theorem dX2_workTick_28 : decode cX2_workTick 28 = .ok (.astore_n 1, 1) := by decide +kernel
theorem dX2_workTick_29 : decode cX2_workTick 29 = .ok (.aload_n 1, 1) := by decide +kernel
theorem dX2_workTick_30 : decode cX2_workTick 30 = .ok (.arraylength, 1) := by decide +kernel
theorem dX2_workTick_31 : decode cX2_workTick 31 = .ok (.istore_n 2, 1) := by decide +kernel
theorem dX2_workTick_32 : decode cX2_workTick 32 = .ok (.iconst 0, 1) := by decide +kernel
theorem dX2_workTick_33 : decode cX2_workTick 33 = .ok (.istore_n 3, 1) := by decide +kernel
theorem dX2_workTick_34 : decode cX2_workTick 34 = .ok (.iload_n 3, 1) := by decide +kernel
theorem dX2_workTick_35 : decode cX2_workTick 35 = .ok (.iload_n 2, 1) := by decide +kernel
theorem dX2_workTick_36 : decode cX2_workTick 36 = .ok (.if_icmp .ge 47, 3) := by decide +kernel
theorem dX2_workTick_39 : decode cX2_workTick 39 = .ok (.aload_n 1, 1) := by decide +kernel
theorem dX2_workTick_40 : decode cX2_workTick 40 = .ok (.iload_n 3, 1) := by decide +kernel
theorem dX2_workTick_41 : decode cX2_workTick 41 = .ok (.aaload, 1) := by decide +kernel
theorem dX2_workTick_42 : decode cX2_workTick 42 = .ok (.astore 4, 2) := by decide +kernel
theorem dX2_workTick_44 : decode cX2_workTick 44 = .ok (.aload 4, 2) := by decide +kernel
theorem dX2_workTick_46 : decode cX2_workTick 46 = .ok (.aload_n 0, 1) := by decide +kernel
theorem dX2_workTick_47 : decode cX2_workTick 47 = .ok (.getfield 32, 3) := by decide +kernel
theorem dX2_workTick_50 : decode cX2_workTick 50 = .ok (.invokevirtual 161, 3) := by decide +kernel
theorem dX2_workTick_53 : decode cX2_workTick 53 = .ok (.istore 5, 2) := by decide +kernel
theorem dX2_workTick_55 : decode cX2_workTick 55 = .ok (.aload_n 0, 1) := by decide +kernel
theorem dX2_workTick_56 : decode cX2_workTick 56 = .ok (.dup, 1) := by decide +kernel
theorem dX2_workTick_57 : decode cX2_workTick 57 = .ok (.getfield 32, 3) := by decide +kernel
theorem dX2_workTick_60 : decode cX2_workTick 60 = .ok (.iload 5, 2) := by decide +kernel
theorem dX2_workTick_62 : decode cX2_workTick 62 = .ok (.isub, 1) := by decide +kernel
theorem dX2_workTick_63 : decode cX2_workTick 63 = .ok (.putfield 32, 3) := by decide +kernel
theorem dX2_workTick_66 : decode cX2_workTick 66 = .ok (.aload_n 0, 1) := by decide +kernel
theorem dX2_workTick_67 : decode cX2_workTick 67 = .ok (.dup, 1) := by decide +kernel
theorem dX2_workTick_68 : decode cX2_workTick 68 = .ok (.getfield 58, 3) := by decide +kernel
theorem dX2_workTick_71 : decode cX2_workTick 71 = .ok (.iload 5, 2) := by decide +kernel
theorem dX2_workTick_73 : decode cX2_workTick 73 = .ok (.iadd, 1) := by decide +kernel
theorem dX2_workTick_74 : decode cX2_workTick 74 = .ok (.putfield 58, 3) := by decide +kernel
theorem dX2_workTick_77 : decode cX2_workTick 77 = .ok (.iinc 3 1, 3) := by decide +kernel
theorem dX2_workTick_80 : decode cX2_workTick 80 = .ok (.goto (-46), 3) := by decide +kernel
theorem dX2_workTick_83 : decode cX2_workTick 83 = .ok (.aload_n 0, 1) := by decide +kernel
theorem dX2_workTick_84 : decode cX2_workTick 84 = .ok (.invokevirtual 164, 3) := by decide +kernel
theorem dX2_workTick_87 : decode cX2_workTick 87 = .ok (.istore_n 1, 1) := by decide +kernel
theorem dX2_workTick_88 : decode cX2_workTick 88 = .ok (.aload_n 0, 1) := by decide +kernel
theorem dX2_workTick_89 : decode cX2_workTick 89 = .ok (.invokevirtual 93, 3) := by decide +kernel
theorem dX2_workTick_92 : decode cX2_workTick 92 = .ok (.iload_n 1, 1) := by decide +kernel
theorem dX2_workTick_93 : decode cX2_workTick 93 = .ok (.if_icmp .ge 7, 3) := by decide +kernel
theorem dX2_workTick_96 : decode cX2_workTick 96 = .ok (.iconst 1, 1) := by decide +kernel
theorem dX2_workTick_97 : decode cX2_workTick 97 = .ok (.goto 4, 3) := by decide +kernel
theorem dX2_workTick_100 : decode cX2_workTick 100 = .ok (.iconst 0, 1) := by decide +kernel
theorem dX2_workTick_101 : decode cX2_workTick 101 = .ok (.istore_n 2, 1) := by decide +kernel
theorem dX2_workTick_102 : decode cX2_workTick 102 = .ok (.iload_n 2, 1) := by decide +kernel
theorem dX2_workTick_103 : decode cX2_workTick 103 = .ok (.ifCond .eq 10, 3) := by decide +kernel
theorem dX2_workTick_106 : decode cX2_workTick 106 = .ok (.aload_n 0, 1) := by decide +kernel
theorem dX2_workTick_107 : decode cX2_workTick 107 = .ok (.invokevirtual 167, 3) := by decide +kernel
theorem dX2_workTick_110 : decode cX2_workTick 110 = .ok (.goto 12, 3) := by decide +kernel
theorem dX2_workTick_113 : decode cX2_workTick 113 = .ok (.aload_n 0, 1) := by decide +kernel
theorem dX2_workTick_114 : decode cX2_workTick 114 = .ok (.iload_n 1, 1) := by decide +kernel
theorem dX2_workTick_115 : decode cX2_workTick 115 = .ok (.invokevirtual 170, 3) := by decide +kernel
theorem dX2_workTick_118 : decode cX2_workTick 118 = .ok (.aload_n 0, 1) := by decide +kernel
theorem dX2_workTick_119 : decode cX2_workTick 119 = .ok (.invokevirtual 173, 3) := by decide +kernel
theorem dX2_workTick_122 : decode cX2_workTick 122 = .ok (.aload_n 0, 1) := by decide +kernel
theorem dX2_workTick_123 : decode cX2_workTick 123 = .ok (.getfield 12, 3) := by decide +kernel
theorem dX2_workTick_126 : decode cX2_workTick 126 = .ok (.astore_n 3, 1) := by decide +kernel
theorem dX2_workTick_127 : decode cX2_workTick 127 = .ok (.aload_n 3, 1) := by decide +kernel
theorem dX2_workTick_128 : decode cX2_workTick 128 = .ok (.arraylength, 1) := by decide +kernel
theorem dX2_workTick_129 : decode cX2_workTick 129 = .ok (.istore 4, 2) := by decide +kernel
theorem dX2_workTick_131 : decode cX2_workTick 131 = .ok (.iconst 0, 1) := by decide +kernel
theorem dX2_workTick_132 : decode cX2_workTick 132 = .ok (.istore 5, 2) := by decide +kernel
theorem dX2_workTick_134 : decode cX2_workTick 134 = .ok (.iload 5, 2) := by decide +kernel
theorem dX2_workTick_136 : decode cX2_workTick 136 = .ok (.iload 4, 2) := by decide +kernel
theorem dX2_workTick_138 : decode cX2_workTick 138 = .ok (.if_icmp .ge 20, 3) := by decide +kernel
theorem dX2_workTick_141 : decode cX2_workTick 141 = .ok (.aload_n 3, 1) := by decide +kernel
theorem dX2_workTick_142 : decode cX2_workTick 142 = .ok (.iload 5, 2) := by decide +kernel
theorem dX2_workTick_144 : decode cX2_workTick 144 = .ok (.aaload, 1) := by decide +kernel
theorem dX2_workTick_145 : decode cX2_workTick 145 = .ok (.astore 6, 2) := by decide +kernel
theorem dX2_workTick_147 : decode cX2_workTick 147 = .ok (.aload 6, 2) := by decide +kernel
theorem dX2_workTick_149 : decode cX2_workTick 149 = .ok (.invokevirtual 176, 3) := by decide +kernel
theorem dX2_workTick_152 : decode cX2_workTick 152 = .ok (.iinc 5 1, 3) := by decide +kernel
theorem dX2_workTick_155 : decode cX2_workTick 155 = .ok (.goto (-21), 3) := by decide +kernel
theorem dX2_workTick_158 : decode cX2_workTick 158 = .ok (.iload_n 2, 1) := by decide +kernel
theorem dX2_workTick_159 : decode cX2_workTick 159 = .ok (.ireturn, 1) := by decide +kernel
theorem dX2_receiveRation_0 : decode cX2_receiveRation 0 = .ok (.aload_n 0, 1) := by decide +kernel
theorem dX2_receiveRation_1 : decode cX2_receiveRation 1 = .ok (.getfield 36, 3) := by decide +kernel
theorem dX2_receiveRation_4 : decode cX2_receiveRation 4 = .ok (.sipush 999, 3) := by decide +kernel
theorem dX2_receiveRation_7 : decode cX2_receiveRation 7 = .ok (.aload_n 0, 1) := by decide +kernel
theorem dX2_receiveRation_8 : decode cX2_receiveRation 8 = .ok (.getfield 32, 3) := by decide +kernel
theorem dX2_receiveRation_11 : decode cX2_receiveRation 11 = .ok (.isub, 1) := by decide +kernel
theorem dX2_receiveRation_12 : decode cX2_receiveRation 12 = .ok (.invokestatic 179, 3) := by decide +kernel
theorem dX2_receiveRation_15 : decode cX2_receiveRation 15 = .ok (.istore_n 1, 1) := by decide +kernel
theorem dX2_receiveRation_16 : decode cX2_receiveRation 16 = .ok (.aload_n 0, 1) := by decide +kernel
theorem dX2_receiveRation_17 : decode cX2_receiveRation 17 = .ok (.dup, 1) := by decide +kernel
theorem dX2_receiveRation_18 : decode cX2_receiveRation 18 = .ok (.getfield 32, 3) := by decide +kernel
theorem dX2_receiveRation_21 : decode cX2_receiveRation 21 = .ok (.iload_n 1, 1) := by decide +kernel
theorem dX2_receiveRation_22 : decode cX2_receiveRation 22 = .ok (.iadd, 1) := by decide +kernel
theorem dX2_receiveRation_23 : decode cX2_receiveRation 23 = .ok (.putfield 32, 3) := by decide +kernel
theorem dX2_receiveRation_26 : decode cX2_receiveRation 26 = .ok (.aload_n 0, 1) := by decide +kernel
theorem dX2_receiveRation_27 : decode cX2_receiveRation 27 = .ok (.dup, 1) := by decide +kernel
theorem dX2_receiveRation_28 : decode cX2_receiveRation 28 = .ok (.getfield 61, 3) := by decide +kernel
theorem dX2_receiveRation_31 : decode cX2_receiveRation 31 = .ok (.iload_n 1, 1) := by decide +kernel
theorem dX2_receiveRation_32 : decode cX2_receiveRation 32 = .ok (.iadd, 1) := by decide +kernel
theorem dX2_receiveRation_33 : decode cX2_receiveRation 33 = .ok (.putfield 61, 3) := by decide +kernel
theorem dX2_receiveRation_36 : decode cX2_receiveRation 36 = .ok (.return_, 1) := by decide +kernel
set_option maxRecDepth 20000 in
theorem ggX2_need_X6_steamOf : GoodIn wsX2_need wsX6_steamOf := goodIn_r _ [5] (by decide +kernel) (by decide +kernel)
set_option maxRecDepth 20000 in
theorem gX2_need_X6_steamOf_n188 : GoodIn wsX2_need (wsX6_steamOf) := ggX2_need_X6_steamOf
theorem dX2_need_0 : decode cX2_need 0 = .ok (.iconst 0, 1) := by decide +kernel
theorem dX2_need_1 : decode cX2_need 1 = .ok (.istore_n 1, 1) := by decide +kernel
theorem dX2_need_2 : decode cX2_need 2 = .ok (.aload_n 0, 1) := by decide +kernel
theorem dX2_need_3 : decode cX2_need 3 = .ok (.getfield 21, 3) := by decide +kernel
theorem dX2_need_6 : decode cX2_need 6 = .ok (.astore_n 2, 1) := by decide +kernel
theorem dX2_need_7 : decode cX2_need 7 = .ok (.aload_n 2, 1) := by decide +kernel
theorem dX2_need_8 : decode cX2_need 8 = .ok (.arraylength, 1) := by decide +kernel
theorem dX2_need_9 : decode cX2_need 9 = .ok (.istore_n 3, 1) := by decide +kernel
theorem dX2_need_10 : decode cX2_need 10 = .ok (.iconst 0, 1) := by decide +kernel
theorem dX2_need_11 : decode cX2_need 11 = .ok (.istore 4, 2) := by decide +kernel
theorem dX2_need_13 : decode cX2_need 13 = .ok (.iload 4, 2) := by decide +kernel
theorem dX2_need_15 : decode cX2_need 15 = .ok (.iload_n 3, 1) := by decide +kernel
theorem dX2_need_16 : decode cX2_need 16 = .ok (.if_icmp .ge 26, 3) := by decide +kernel
theorem dX2_need_19 : decode cX2_need 19 = .ok (.aload_n 2, 1) := by decide +kernel
theorem dX2_need_20 : decode cX2_need 20 = .ok (.iload 4, 2) := by decide +kernel
theorem dX2_need_22 : decode cX2_need 22 = .ok (.aaload, 1) := by decide +kernel
theorem dX2_need_23 : decode cX2_need 23 = .ok (.astore 5, 2) := by decide +kernel
theorem dX2_need_25 : decode cX2_need 25 = .ok (.iload_n 1, 1) := by decide +kernel
theorem dX2_need_26 : decode cX2_need 26 = .ok (.aload 5, 2) := by decide +kernel
theorem dX2_need_28 : decode cX2_need 28 = .ok (.getfield 185, 3) := by decide +kernel
theorem dX2_need_31 : decode cX2_need 31 = .ok (.invokestatic 188, 3) := by decide +kernel
theorem dX2_need_34 : decode cX2_need 34 = .ok (.iadd, 1) := by decide +kernel
theorem dX2_need_35 : decode cX2_need 35 = .ok (.istore_n 1, 1) := by decide +kernel
theorem dX2_need_36 : decode cX2_need 36 = .ok (.iinc 4 1, 3) := by decide +kernel
theorem dX2_need_39 : decode cX2_need 39 = .ok (.goto (-26), 3) := by decide +kernel
theorem dX2_need_42 : decode cX2_need 42 = .ok (.iload_n 1, 1) := by decide +kernel
theorem dX2_need_43 : decode cX2_need 43 = .ok (.ireturn, 1) := by decide +kernel
theorem dX2_takeSteam_0 : decode cX2_takeSteam 0 = .ok (.iconst 0, 1) := by decide +kernel
theorem dX2_takeSteam_1 : decode cX2_takeSteam 1 = .ok (.istore_n 2, 1) := by decide +kernel
theorem dX2_takeSteam_2 : decode cX2_takeSteam 2 = .ok (.iload_n 2, 1) := by decide +kernel
theorem dX2_takeSteam_3 : decode cX2_takeSteam 3 = .ok (.iload_n 1, 1) := by decide +kernel
theorem dX2_takeSteam_4 : decode cX2_takeSteam 4 = .ok (.if_icmp .ge 78, 3) := by decide +kernel
theorem dX2_takeSteam_7 : decode cX2_takeSteam 7 = .ok (.aconst_null, 1) := by decide +kernel
theorem dX2_takeSteam_8 : decode cX2_takeSteam 8 = .ok (.astore_n 3, 1) := by decide +kernel
theorem dX2_takeSteam_9 : decode cX2_takeSteam 9 = .ok (.aload_n 0, 1) := by decide +kernel
theorem dX2_takeSteam_10 : decode cX2_takeSteam 10 = .ok (.getfield 12, 3) := by decide +kernel
theorem dX2_takeSteam_13 : decode cX2_takeSteam 13 = .ok (.astore 4, 2) := by decide +kernel
theorem dX2_takeSteam_15 : decode cX2_takeSteam 15 = .ok (.aload 4, 2) := by decide +kernel
theorem dX2_takeSteam_17 : decode cX2_takeSteam 17 = .ok (.arraylength, 1) := by decide +kernel
theorem dX2_takeSteam_18 : decode cX2_takeSteam 18 = .ok (.istore 5, 2) := by decide +kernel
theorem dX2_takeSteam_20 : decode cX2_takeSteam 20 = .ok (.iconst 0, 1) := by decide +kernel
theorem dX2_takeSteam_21 : decode cX2_takeSteam 21 = .ok (.istore 6, 2) := by decide +kernel
theorem dX2_takeSteam_23 : decode cX2_takeSteam 23 = .ok (.iload 6, 2) := by decide +kernel
theorem dX2_takeSteam_25 : decode cX2_takeSteam 25 = .ok (.iload 5, 2) := by decide +kernel
theorem dX2_takeSteam_27 : decode cX2_takeSteam 27 = .ok (.if_icmp .ge 35, 3) := by decide +kernel
theorem dX2_takeSteam_30 : decode cX2_takeSteam 30 = .ok (.aload 4, 2) := by decide +kernel
theorem dX2_takeSteam_32 : decode cX2_takeSteam 32 = .ok (.iload 6, 2) := by decide +kernel
theorem dX2_takeSteam_34 : decode cX2_takeSteam 34 = .ok (.aaload, 1) := by decide +kernel
theorem dX2_takeSteam_35 : decode cX2_takeSteam 35 = .ok (.astore 7, 2) := by decide +kernel
theorem dX2_takeSteam_37 : decode cX2_takeSteam 37 = .ok (.aload_n 3, 1) := by decide +kernel
theorem dX2_takeSteam_38 : decode cX2_takeSteam 38 = .ok (.ifnull 15, 3) := by decide +kernel
theorem dX2_takeSteam_41 : decode cX2_takeSteam 41 = .ok (.aload 7, 2) := by decide +kernel
theorem dX2_takeSteam_43 : decode cX2_takeSteam 43 = .ok (.getfield 87, 3) := by decide +kernel
theorem dX2_takeSteam_46 : decode cX2_takeSteam 46 = .ok (.aload_n 3, 1) := by decide +kernel
theorem dX2_takeSteam_47 : decode cX2_takeSteam 47 = .ok (.getfield 87, 3) := by decide +kernel
theorem dX2_takeSteam_50 : decode cX2_takeSteam 50 = .ok (.if_icmp .le 6, 3) := by decide +kernel
theorem dX2_takeSteam_53 : decode cX2_takeSteam 53 = .ok (.aload 7, 2) := by decide +kernel
theorem dX2_takeSteam_55 : decode cX2_takeSteam 55 = .ok (.astore_n 3, 1) := by decide +kernel
theorem dX2_takeSteam_56 : decode cX2_takeSteam 56 = .ok (.iinc 6 1, 3) := by decide +kernel
theorem dX2_takeSteam_59 : decode cX2_takeSteam 59 = .ok (.goto (-36), 3) := by decide +kernel
theorem dX2_takeSteam_62 : decode cX2_takeSteam 62 = .ok (.aload_n 3, 1) := by decide +kernel
theorem dX2_takeSteam_63 : decode cX2_takeSteam 63 = .ok (.ifnull 13, 3) := by decide +kernel
theorem dX2_takeSteam_66 : decode cX2_takeSteam 66 = .ok (.aload_n 3, 1) := by decide +kernel
theorem dX2_takeSteam_67 : decode cX2_takeSteam 67 = .ok (.dup, 1) := by decide +kernel
theorem dX2_takeSteam_68 : decode cX2_takeSteam 68 = .ok (.getfield 87, 3) := by decide +kernel
theorem dX2_takeSteam_71 : decode cX2_takeSteam 71 = .ok (.iconst 1, 1) := by decide +kernel
theorem dX2_takeSteam_72 : decode cX2_takeSteam 72 = .ok (.isub, 1) := by decide +kernel
theorem dX2_takeSteam_73 : decode cX2_takeSteam 73 = .ok (.putfield 87, 3) := by decide +kernel
theorem dX2_takeSteam_76 : decode cX2_takeSteam 76 = .ok (.iinc 2 1, 3) := by decide +kernel
theorem dX2_takeSteam_79 : decode cX2_takeSteam 79 = .ok (.goto (-77), 3) := by decide +kernel
theorem dX2_takeSteam_82 : decode cX2_takeSteam 82 = .ok (.return_, 1) := by decide +kernel
set_option maxRecDepth 20000 in
theorem ggX2_workLoads_X3_isEmpty : GoodIn wsX2_workLoads wsX3_isEmpty := goodIn_r _ [10, 11, 35, 36, 37] (by decide +kernel) (by decide +kernel)
set_option maxRecDepth 20000 in
theorem gX2_workLoads_X3_isEmpty : GoodIn wsX2_workLoads (wsV RX2 76 RX3 yX3_isEmpty wsX3_isEmpty) := goodIn_app (goodIn_of _ (by decide +kernel)) ggX2_workLoads_X3_isEmpty
set_option maxRecDepth 20000 in
theorem ggX2_workLoads_X6_worthOf : GoodIn wsX2_workLoads wsX6_worthOf := goodIn_r _ [14] (by decide +kernel) (by decide +kernel)
set_option maxRecDepth 20000 in
theorem gX2_workLoads_X6_worthOf_n191 : GoodIn wsX2_workLoads (wsX6_worthOf) := ggX2_workLoads_X6_worthOf
set_option maxRecDepth 20000 in
theorem ggX2_workLoads_X3_clear : GoodIn wsX2_workLoads wsX3_clear := goodIn_r _ [18, 11, 19, 20, 35, 36, 37] (by decide +kernel) (by decide +kernel)
set_option maxRecDepth 20000 in
theorem gX2_workLoads_X3_clear : GoodIn wsX2_workLoads (wsV RX2 135 RX3 yX3_clear wsX3_clear) := goodIn_app (goodIn_of _ (by decide +kernel)) ggX2_workLoads_X3_clear
theorem dX2_workLoads_0 : decode cX2_workLoads 0 = .ok (.aload_n 0, 1) := by decide +kernel
theorem dX2_workLoads_1 : decode cX2_workLoads 1 = .ok (.getfield 21, 3) := by decide +kernel
theorem dX2_workLoads_4 : decode cX2_workLoads 4 = .ok (.astore_n 1, 1) := by decide +kernel
theorem dX2_workLoads_5 : decode cX2_workLoads 5 = .ok (.aload_n 1, 1) := by decide +kernel
theorem dX2_workLoads_6 : decode cX2_workLoads 6 = .ok (.arraylength, 1) := by decide +kernel
theorem dX2_workLoads_7 : decode cX2_workLoads 7 = .ok (.istore_n 2, 1) := by decide +kernel
theorem dX2_workLoads_8 : decode cX2_workLoads 8 = .ok (.iconst 0, 1) := by decide +kernel
theorem dX2_workLoads_9 : decode cX2_workLoads 9 = .ok (.istore_n 3, 1) := by decide +kernel
theorem dX2_workLoads_10 : decode cX2_workLoads 10 = .ok (.iload_n 3, 1) := by decide +kernel
theorem dX2_workLoads_11 : decode cX2_workLoads 11 = .ok (.iload_n 2, 1) := by decide +kernel
theorem dX2_workLoads_12 : decode cX2_workLoads 12 = .ok (.if_icmp .ge 76, 3) := by decide +kernel
theorem dX2_workLoads_15 : decode cX2_workLoads 15 = .ok (.aload_n 1, 1) := by decide +kernel
theorem dX2_workLoads_16 : decode cX2_workLoads 16 = .ok (.iload_n 3, 1) := by decide +kernel
theorem dX2_workLoads_17 : decode cX2_workLoads 17 = .ok (.aaload, 1) := by decide +kernel
theorem dX2_workLoads_18 : decode cX2_workLoads 18 = .ok (.astore 4, 2) := by decide +kernel
theorem dX2_workLoads_20 : decode cX2_workLoads 20 = .ok (.aload 4, 2) := by decide +kernel
theorem dX2_workLoads_22 : decode cX2_workLoads 22 = .ok (.invokevirtual 76, 3) := by decide +kernel
theorem dX2_workLoads_25 : decode cX2_workLoads 25 = .ok (.ifCond .eq 6, 3) := by decide +kernel
theorem dX2_workLoads_28 : decode cX2_workLoads 28 = .ok (.goto 54, 3) := by decide +kernel
theorem dX2_workLoads_31 : decode cX2_workLoads 31 = .ok (.aload 4, 2) := by decide +kernel
theorem dX2_workLoads_33 : decode cX2_workLoads 33 = .ok (.dup, 1) := by decide +kernel
theorem dX2_workLoads_34 : decode cX2_workLoads 34 = .ok (.getfield 125, 3) := by decide +kernel
theorem dX2_workLoads_37 : decode cX2_workLoads 37 = .ok (.iconst 1, 1) := by decide +kernel
theorem dX2_workLoads_38 : decode cX2_workLoads 38 = .ok (.isub, 1) := by decide +kernel
theorem dX2_workLoads_39 : decode cX2_workLoads 39 = .ok (.putfield 125, 3) := by decide +kernel
theorem dX2_workLoads_42 : decode cX2_workLoads 42 = .ok (.aload 4, 2) := by decide +kernel
theorem dX2_workLoads_44 : decode cX2_workLoads 44 = .ok (.getfield 125, 3) := by decide +kernel
theorem dX2_workLoads_47 : decode cX2_workLoads 47 = .ok (.ifCond .ne 35, 3) := by decide +kernel
theorem dX2_workLoads_50 : decode cX2_workLoads 50 = .ok (.aload_n 0, 1) := by decide +kernel
theorem dX2_workLoads_51 : decode cX2_workLoads 51 = .ok (.dup, 1) := by decide +kernel
theorem dX2_workLoads_52 : decode cX2_workLoads 52 = .ok (.getfield 52, 3) := by decide +kernel
theorem dX2_workLoads_55 : decode cX2_workLoads 55 = .ok (.iconst 1, 1) := by decide +kernel
theorem dX2_workLoads_56 : decode cX2_workLoads 56 = .ok (.iadd, 1) := by decide +kernel
theorem dX2_workLoads_57 : decode cX2_workLoads 57 = .ok (.putfield 52, 3) := by decide +kernel
theorem dX2_workLoads_60 : decode cX2_workLoads 60 = .ok (.aload_n 0, 1) := by decide +kernel
theorem dX2_workLoads_61 : decode cX2_workLoads 61 = .ok (.dup, 1) := by decide +kernel
theorem dX2_workLoads_62 : decode cX2_workLoads 62 = .ok (.getfield 70, 3) := by decide +kernel
theorem dX2_workLoads_65 : decode cX2_workLoads 65 = .ok (.aload 4, 2) := by decide +kernel
theorem dX2_workLoads_67 : decode cX2_workLoads 67 = .ok (.getfield 185, 3) := by decide +kernel
theorem dX2_workLoads_70 : decode cX2_workLoads 70 = .ok (.invokestatic 191, 3) := by decide +kernel
theorem dX2_workLoads_73 : decode cX2_workLoads 73 = .ok (.iadd, 1) := by decide +kernel
theorem dX2_workLoads_74 : decode cX2_workLoads 74 = .ok (.putfield 70, 3) := by decide +kernel
theorem dX2_workLoads_77 : decode cX2_workLoads 77 = .ok (.aload 4, 2) := by decide +kernel
theorem dX2_workLoads_79 : decode cX2_workLoads 79 = .ok (.invokevirtual 135, 3) := by decide +kernel
theorem dX2_workLoads_82 : decode cX2_workLoads 82 = .ok (.iinc 3 1, 3) := by decide +kernel
theorem dX2_workLoads_85 : decode cX2_workLoads 85 = .ok (.goto (-75), 3) := by decide +kernel
theorem dX2_workLoads_88 : decode cX2_workLoads 88 = .ok (.return_, 1) := by decide +kernel
set_option maxRecDepth 20000 in
theorem ggX2_holdLoads_X3_isEmpty : GoodIn wsX2_holdLoads wsX3_isEmpty := goodIn_r _ [9, 10, 31, 32, 33] (by decide +kernel) (by decide +kernel)
set_option maxRecDepth 20000 in
theorem gX2_holdLoads_X3_isEmpty : GoodIn wsX2_holdLoads (wsV RX2 76 RX3 yX3_isEmpty wsX3_isEmpty) := goodIn_app (goodIn_of _ (by decide +kernel)) ggX2_holdLoads_X3_isEmpty
set_option maxRecDepth 20000 in
theorem ggX2_holdLoads_X3_clear : GoodIn wsX2_holdLoads wsX3_clear := goodIn_r _ [14, 10, 15, 16, 31, 32, 33] (by decide +kernel) (by decide +kernel)
set_option maxRecDepth 20000 in
theorem gX2_holdLoads_X3_clear : GoodIn wsX2_holdLoads (wsV RX2 135 RX3 yX3_clear wsX3_clear) := goodIn_app (goodIn_of _ (by decide +kernel)) ggX2_holdLoads_X3_clear
theorem dX2_holdLoads_0 : decode cX2_holdLoads 0 = .ok (.aload_n 0, 1) := by decide +kernel
theorem dX2_holdLoads_1 : decode cX2_holdLoads 1 = .ok (.dup, 1) := by decide +kernel
theorem dX2_holdLoads_2 : decode cX2_holdLoads 2 = .ok (.getfield 73, 3) := by decide +kernel
theorem dX2_holdLoads_5 : decode cX2_holdLoads 5 = .ok (.iconst 1, 1) := by decide +kernel
theorem dX2_holdLoads_6 : decode cX2_holdLoads 6 = .ok (.iadd, 1) := by decide +kernel
theorem dX2_holdLoads_7 : decode cX2_holdLoads 7 = .ok (.putfield 73, 3) := by decide +kernel
theorem dX2_holdLoads_10 : decode cX2_holdLoads 10 = .ok (.aload_n 0, 1) := by decide +kernel
theorem dX2_holdLoads_11 : decode cX2_holdLoads 11 = .ok (.getfield 21, 3) := by decide +kernel
theorem dX2_holdLoads_14 : decode cX2_holdLoads 14 = .ok (.astore_n 1, 1) := by decide +kernel
theorem dX2_holdLoads_15 : decode cX2_holdLoads 15 = .ok (.aload_n 1, 1) := by decide +kernel
theorem dX2_holdLoads_16 : decode cX2_holdLoads 16 = .ok (.arraylength, 1) := by decide +kernel
theorem dX2_holdLoads_17 : decode cX2_holdLoads 17 = .ok (.istore_n 2, 1) := by decide +kernel
theorem dX2_holdLoads_18 : decode cX2_holdLoads 18 = .ok (.iconst 0, 1) := by decide +kernel
theorem dX2_holdLoads_19 : decode cX2_holdLoads 19 = .ok (.istore_n 3, 1) := by decide +kernel
theorem dX2_holdLoads_20 : decode cX2_holdLoads 20 = .ok (.iload_n 3, 1) := by decide +kernel
theorem dX2_holdLoads_21 : decode cX2_holdLoads 21 = .ok (.iload_n 2, 1) := by decide +kernel
theorem dX2_holdLoads_22 : decode cX2_holdLoads 22 = .ok (.if_icmp .ge 60, 3) := by decide +kernel
theorem dX2_holdLoads_25 : decode cX2_holdLoads 25 = .ok (.aload_n 1, 1) := by decide +kernel
theorem dX2_holdLoads_26 : decode cX2_holdLoads 26 = .ok (.iload_n 3, 1) := by decide +kernel
theorem dX2_holdLoads_27 : decode cX2_holdLoads 27 = .ok (.aaload, 1) := by decide +kernel
theorem dX2_holdLoads_28 : decode cX2_holdLoads 28 = .ok (.astore 4, 2) := by decide +kernel
theorem dX2_holdLoads_30 : decode cX2_holdLoads 30 = .ok (.aload 4, 2) := by decide +kernel
theorem dX2_holdLoads_32 : decode cX2_holdLoads 32 = .ok (.invokevirtual 76, 3) := by decide +kernel
theorem dX2_holdLoads_35 : decode cX2_holdLoads 35 = .ok (.ifCond .eq 6, 3) := by decide +kernel
theorem dX2_holdLoads_38 : decode cX2_holdLoads 38 = .ok (.goto 38, 3) := by decide +kernel
theorem dX2_holdLoads_41 : decode cX2_holdLoads 41 = .ok (.aload 4, 2) := by decide +kernel
theorem dX2_holdLoads_43 : decode cX2_holdLoads 43 = .ok (.dup, 1) := by decide +kernel
theorem dX2_holdLoads_44 : decode cX2_holdLoads 44 = .ok (.getfield 194, 3) := by decide +kernel
theorem dX2_holdLoads_47 : decode cX2_holdLoads 47 = .ok (.iconst 1, 1) := by decide +kernel
theorem dX2_holdLoads_48 : decode cX2_holdLoads 48 = .ok (.iadd, 1) := by decide +kernel
theorem dX2_holdLoads_49 : decode cX2_holdLoads 49 = .ok (.putfield 194, 3) := by decide +kernel
theorem dX2_holdLoads_52 : decode cX2_holdLoads 52 = .ok (.aload 4, 2) := by decide +kernel
theorem dX2_holdLoads_54 : decode cX2_holdLoads 54 = .ok (.getfield 194, 3) := by decide +kernel
theorem dX2_holdLoads_57 : decode cX2_holdLoads 57 = .ok (.iconst 3, 1) := by decide +kernel
theorem dX2_holdLoads_58 : decode cX2_holdLoads 58 = .ok (.if_icmp .ne 18, 3) := by decide +kernel
theorem dX2_holdLoads_61 : decode cX2_holdLoads 61 = .ok (.aload_n 0, 1) := by decide +kernel
theorem dX2_holdLoads_62 : decode cX2_holdLoads 62 = .ok (.dup, 1) := by decide +kernel
theorem dX2_holdLoads_63 : decode cX2_holdLoads 63 = .ok (.getfield 55, 3) := by decide +kernel
theorem dX2_holdLoads_66 : decode cX2_holdLoads 66 = .ok (.iconst 1, 1) := by decide +kernel
theorem dX2_holdLoads_67 : decode cX2_holdLoads 67 = .ok (.iadd, 1) := by decide +kernel
theorem dX2_holdLoads_68 : decode cX2_holdLoads 68 = .ok (.putfield 55, 3) := by decide +kernel
theorem dX2_holdLoads_71 : decode cX2_holdLoads 71 = .ok (.aload 4, 2) := by decide +kernel
theorem dX2_holdLoads_73 : decode cX2_holdLoads 73 = .ok (.invokevirtual 135, 3) := by decide +kernel
theorem dX2_holdLoads_76 : decode cX2_holdLoads 76 = .ok (.iinc 3 1, 3) := by decide +kernel
theorem dX2_holdLoads_79 : decode cX2_holdLoads 79 = .ok (.goto (-59), 3) := by decide +kernel
theorem dX2_holdLoads_82 : decode cX2_holdLoads 82 = .ok (.return_, 1) := by decide +kernel
theorem dX3_init_0 : decode cX3_init 0 = .ok (.aload_n 0, 1) := by decide +kernel
theorem dX3_init_1 : decode cX3_init 1 = .ok (.invokespecial 3, 3) := by decide +kernel
theorem dX3_init_4 : decode cX3_init 4 = .ok (.aload_n 0, 1) := by decide +kernel
theorem dX3_init_5 : decode cX3_init 5 = .ok (.bipush (-5), 2) := by decide +kernel
theorem dX3_init_7 : decode cX3_init 7 = .ok (.putfield 9, 3) := by decide +kernel
theorem dX3_init_10 : decode cX3_init 10 = .ok (.return_, 1) := by decide +kernel
theorem dX3_copyFrom_0 : decode cX3_copyFrom 0 = .ok (.aload_n 0, 1) := by decide +kernel
theorem dX3_copyFrom_1 : decode cX3_copyFrom 1 = .ok (.aload_n 1, 1) := by decide +kernel
theorem dX3_copyFrom_2 : decode cX3_copyFrom 2 = .ok (.getfield 9, 3) := by decide +kernel
theorem dX3_copyFrom_5 : decode cX3_copyFrom 5 = .ok (.putfield 9, 3) := by decide +kernel
theorem dX3_copyFrom_8 : decode cX3_copyFrom 8 = .ok (.aload_n 0, 1) := by decide +kernel
theorem dX3_copyFrom_9 : decode cX3_copyFrom 9 = .ok (.aload_n 1, 1) := by decide +kernel
theorem dX3_copyFrom_10 : decode cX3_copyFrom 10 = .ok (.getfield 15, 3) := by decide +kernel
theorem dX3_copyFrom_13 : decode cX3_copyFrom 13 = .ok (.putfield 15, 3) := by decide +kernel
theorem dX3_copyFrom_16 : decode cX3_copyFrom 16 = .ok (.aload_n 0, 1) := by decide +kernel
theorem dX3_copyFrom_17 : decode cX3_copyFrom 17 = .ok (.aload_n 1, 1) := by decide +kernel
theorem dX3_copyFrom_18 : decode cX3_copyFrom 18 = .ok (.getfield 18, 3) := by decide +kernel
theorem dX3_copyFrom_21 : decode cX3_copyFrom 21 = .ok (.putfield 18, 3) := by decide +kernel
theorem dX3_copyFrom_24 : decode cX3_copyFrom 24 = .ok (.return_, 1) := by decide +kernel
theorem dX3_isEmpty_0 : decode cX3_isEmpty 0 = .ok (.aload_n 0, 1) := by decide +kernel
theorem dX3_isEmpty_1 : decode cX3_isEmpty 1 = .ok (.getfield 9, 3) := by decide +kernel
theorem dX3_isEmpty_4 : decode cX3_isEmpty 4 = .ok (.bipush (-5), 2) := by decide +kernel
theorem dX3_isEmpty_6 : decode cX3_isEmpty 6 = .ok (.if_icmp .ne 7, 3) := by decide +kernel
theorem dX3_isEmpty_9 : decode cX3_isEmpty 9 = .ok (.iconst 1, 1) := by decide +kernel
theorem dX3_isEmpty_10 : decode cX3_isEmpty 10 = .ok (.goto 4, 3) := by decide +kernel
theorem dX3_isEmpty_13 : decode cX3_isEmpty 13 = .ok (.iconst 0, 1) := by decide +kernel
theorem dX3_isEmpty_14 : decode cX3_isEmpty 14 = .ok (.ireturn, 1) := by decide +kernel
set_option maxRecDepth 20000 in
theorem ggX3_put_X6_ticksOf : GoodIn wsX3_put wsX6_ticksOf := goodIn_r _ [6] (by decide +kernel) (by decide +kernel)
set_option maxRecDepth 20000 in
theorem gX3_put_X6_ticksOf_n21 : GoodIn wsX3_put (wsX6_ticksOf) := ggX3_put_X6_ticksOf
theorem dX3_put_0 : decode cX3_put 0 = .ok (.aload_n 0, 1) := by decide +kernel
theorem dX3_put_1 : decode cX3_put 1 = .ok (.iload_n 1, 1) := by decide +kernel
theorem dX3_put_2 : decode cX3_put 2 = .ok (.putfield 9, 3) := by decide +kernel
theorem dX3_put_5 : decode cX3_put 5 = .ok (.aload_n 0, 1) := by decide +kernel
theorem dX3_put_6 : decode cX3_put 6 = .ok (.iload_n 1, 1) := by decide +kernel
theorem dX3_put_7 : decode cX3_put 7 = .ok (.invokestatic 21, 3) := by decide +kernel
theorem dX3_put_10 : decode cX3_put 10 = .ok (.putfield 15, 3) := by decide +kernel
theorem dX3_put_13 : decode cX3_put 13 = .ok (.aload_n 0, 1) := by decide +kernel
theorem dX3_put_14 : decode cX3_put 14 = .ok (.iconst 0, 1) := by decide +kernel
theorem dX3_put_15 : decode cX3_put 15 = .ok (.putfield 18, 3) := by decide +kernel
theorem dX3_put_18 : decode cX3_put 18 = .ok (.return_, 1) := by decide +kernel
theorem dX3_clear_0 : decode cX3_clear 0 = .ok (.aload_n 0, 1) := by decide +kernel
theorem dX3_clear_1 : decode cX3_clear 1 = .ok (.bipush (-5), 2) := by decide +kernel
theorem dX3_clear_3 : decode cX3_clear 3 = .ok (.putfield 9, 3) := by decide +kernel
theorem dX3_clear_6 : decode cX3_clear 6 = .ok (.aload_n 0, 1) := by decide +kernel
theorem dX3_clear_7 : decode cX3_clear 7 = .ok (.iconst 0, 1) := by decide +kernel
theorem dX3_clear_8 : decode cX3_clear 8 = .ok (.putfield 15, 3) := by decide +kernel
theorem dX3_clear_11 : decode cX3_clear 11 = .ok (.aload_n 0, 1) := by decide +kernel
theorem dX3_clear_12 : decode cX3_clear 12 = .ok (.iconst 0, 1) := by decide +kernel
theorem dX3_clear_13 : decode cX3_clear 13 = .ok (.putfield 18, 3) := by decide +kernel
theorem dX3_clear_16 : decode cX3_clear 16 = .ok (.return_, 1) := by decide +kernel
theorem dX4_init_0 : decode cX4_init 0 = .ok (.aload_n 0, 1) := by decide +kernel
theorem dX4_init_1 : decode cX4_init 1 = .ok (.invokespecial 3, 3) := by decide +kernel
theorem dX4_init_4 : decode cX4_init 4 = .ok (.aload_n 0, 1) := by decide +kernel
theorem dX4_init_5 : decode cX4_init 5 = .ok (.bipush 80, 2) := by decide +kernel
theorem dX4_init_7 : decode cX4_init 7 = .ok (.newarray .char, 2) := by decide +kernel
theorem dX4_init_9 : decode cX4_init 9 = .ok (.putfield 9, 3) := by decide +kernel
theorem dX4_init_12 : decode cX4_init 12 = .ok (.return_, 1) := by decide +kernel
theorem dX4_add_0 : decode cX4_add 0 = .ok (.aload_n 0, 1) := by decide +kernel
theorem dX4_add_1 : decode cX4_add 1 = .ok (.getfield 15, 3) := by decide +kernel
theorem dX4_add_4 : decode cX4_add 4 = .ok (.ifCond .lt 15, 3) := by decide +kernel
theorem dX4_add_7 : decode cX4_add 7 = .ok (.aload_n 0, 1) := by decide +kernel
theorem dX4_add_8 : decode cX4_add 8 = .ok (.getfield 15, 3) := by decide +kernel
theorem dX4_add_11 : decode cX4_add 11 = .ok (.aload_n 0, 1) := by decide +kernel
theorem dX4_add_12 : decode cX4_add 12 = .ok (.getfield 9, 3) := by decide +kernel
theorem dX4_add_15 : decode cX4_add 15 = .ok (.arraylength, 1) := by decide +kernel
theorem dX4_add_16 : decode cX4_add 16 = .ok (.if_icmp .lt 6, 3) := by decide +kernel
theorem dX4_add_19 : decode cX4_add 19 = .ok (.bipush (-3), 2) := by decide +kernel
theorem dX4_add_21 : decode cX4_add 21 = .ok (.ireturn, 1) := by decide +kernel
theorem dX4_add_22 : decode cX4_add 22 = .ok (.aload_n 0, 1) := by decide +kernel
theorem dX4_add_23 : decode cX4_add 23 = .ok (.getfield 9, 3) := by decide +kernel
theorem dX4_add_26 : decode cX4_add 26 = .ok (.aload_n 0, 1) := by decide +kernel
theorem dX4_add_27 : decode cX4_add 27 = .ok (.getfield 15, 3) := by decide +kernel
theorem dX4_add_30 : decode cX4_add 30 = .ok (.iload_n 1, 1) := by decide +kernel
theorem dX4_add_31 : decode cX4_add 31 = .ok (.castore, 1) := by decide +kernel
theorem dX4_add_32 : decode cX4_add 32 = .ok (.aload_n 0, 1) := by decide +kernel
theorem dX4_add_33 : decode cX4_add 33 = .ok (.dup, 1) := by decide +kernel
theorem dX4_add_34 : decode cX4_add 34 = .ok (.getfield 15, 3) := by decide +kernel
theorem dX4_add_37 : decode cX4_add 37 = .ok (.iconst 1, 1) := by decide +kernel
theorem dX4_add_38 : decode cX4_add 38 = .ok (.iadd, 1) := by decide +kernel
theorem dX4_add_39 : decode cX4_add 39 = .ok (.putfield 15, 3) := by decide +kernel
theorem dX4_add_42 : decode cX4_add 42 = .ok (.aload_n 0, 1) := by decide +kernel
theorem dX4_add_43 : decode cX4_add 43 = .ok (.getfield 15, 3) := by decide +kernel
theorem dX4_add_46 : decode cX4_add 46 = .ok (.ireturn, 1) := by decide +kernel
theorem dX4_empty_0 : decode cX4_empty 0 = .ok (.aload_n 0, 1) := by decide +kernel
theorem dX4_empty_1 : decode cX4_empty 1 = .ok (.getfield 15, 3) := by decide +kernel
theorem dX4_empty_4 : decode cX4_empty 4 = .ok (.istore_n 1, 1) := by decide +kernel
theorem dX4_empty_5 : decode cX4_empty 5 = .ok (.aload_n 0, 1) := by decide +kernel
theorem dX4_empty_6 : decode cX4_empty 6 = .ok (.iconst 0, 1) := by decide +kernel
theorem dX4_empty_7 : decode cX4_empty 7 = .ok (.putfield 15, 3) := by decide +kernel
theorem dX4_empty_10 : decode cX4_empty 10 = .ok (.iload_n 1, 1) := by decide +kernel
theorem dX4_empty_11 : decode cX4_empty 11 = .ok (.ireturn, 1) := by decide +kernel
set_option maxRecDepth 20000 in
theorem ggX4_countOrders_X4_rewind : GoodIn wsX4_countOrders wsX4_rewind := goodIn_r _ [7, 1, 39, 40, 41, 42, 43, 44] (by decide +kernel) (by decide +kernel)
set_option maxRecDepth 20000 in
theorem gX4_countOrders_X4_rewind : GoodIn wsX4_countOrders (wsV RX4 19 RX4 yX4_rewind wsX4_rewind) := goodIn_app (goodIn_of _ (by decide +kernel)) ggX4_countOrders_X4_rewind
set_option maxRecDepth 20000 in
theorem ggX4_countOrders_X4_readOrder : GoodIn wsX4_countOrders wsX4_readOrder := goodIn_r _ [11, 12, 13, 14, 15, 6, 16, 1, 2, 17, 18, 19, 20, 21, 22, 23, 24, 25, 26, 27, 28, 29, 30, 31, 32, 33, 34, 35, 36, 37, 38, 39, 40, 41, 42, 43, 44] (by decide +kernel) (by decide +kernel)
set_option maxRecDepth 20000 in
theorem gX4_countOrders_X4_readOrder : GoodIn wsX4_countOrders (wsV RX4 22 RX4 yX4_readOrder wsX4_readOrder) := goodIn_app (goodIn_of _ (by decide +kernel)) ggX4_countOrders_X4_readOrder
set_option maxRecDepth 20000 in
theorem ggX4_countOrders_X4_accept : GoodIn wsX4_countOrders wsX4_accept := goodIn_r _ [21, 1, 13, 14, 15, 6, 16, 2, 17, 39, 40, 41, 42, 43, 44] (by decide +kernel) (by decide +kernel)
set_option maxRecDepth 20000 in
theorem gX4_countOrders_X4_accept : GoodIn wsX4_countOrders (wsV RX4 29 RX4 yX4_accept wsX4_accept) := goodIn_app (goodIn_of _ (by decide +kernel)) ggX4_countOrders_X4_accept
theorem dX4_countOrders_0 : decode cX4_countOrders 0 = .ok (.aload_n 0, 1) := by decide +kernel
theorem dX4_countOrders_1 : decode cX4_countOrders 1 = .ok (.invokevirtual 19, 3) := by decide +kernel
theorem dX4_countOrders_4 : decode cX4_countOrders 4 = .ok (.iconst 1, 1) := by decide +kernel
theorem dX4_countOrders_5 : decode cX4_countOrders 5 = .ok (.istore_n 1, 1) := by decide +kernel
theorem dX4_countOrders_6 : decode cX4_countOrders 6 = .ok (.iload_n 1, 1) := by decide +kernel
end
section
theorem dX4_countOrders_7 : decode cX4_countOrders 7 = .ok (.bipush 80, 2) := by decide +kernel
theorem dX4_countOrders_9 : decode cX4_countOrders 9 = .ok (.if_icmp .gt 54, 3) := by decide +kernel
theorem dX4_countOrders_12 : decode cX4_countOrders 12 = .ok (.aload_n 0, 1) := by decide +kernel
theorem dX4_countOrders_13 : decode cX4_countOrders 13 = .ok (.invokevirtual 22, 3) := by decide +kernel
theorem dX4_countOrders_16 : decode cX4_countOrders 16 = .ok (.ifCond .ne 11, 3) := by decide +kernel
theorem dX4_countOrders_19 : decode cX4_countOrders 19 = .ok (.bipush (-100), 2) := by decide +kernel
theorem dX4_countOrders_21 : decode cX4_countOrders 21 = .ok (.aload_n 0, 1) := by decide +kernel
theorem dX4_countOrders_22 : decode cX4_countOrders 22 = .ok (.getfield 26, 3) := by decide +kernel
theorem dX4_countOrders_25 : decode cX4_countOrders 25 = .ok (.isub, 1) := by decide +kernel
theorem dX4_countOrders_26 : decode cX4_countOrders 26 = .ok (.ireturn, 1) := by decide +kernel
theorem dX4_countOrders_27 : decode cX4_countOrders 27 = .ok (.aload_n 0, 1) := by decide +kernel
theorem dX4_countOrders_28 : decode cX4_countOrders 28 = .ok (.getfield 26, 3) := by decide +kernel
theorem dX4_countOrders_31 : decode cX4_countOrders 31 = .ok (.aload_n 0, 1) := by decide +kernel
theorem dX4_countOrders_32 : decode cX4_countOrders 32 = .ok (.getfield 15, 3) := by decide +kernel
theorem dX4_countOrders_35 : decode cX4_countOrders 35 = .ok (.if_icmp .ne 5, 3) := by decide +kernel
theorem dX4_countOrders_38 : decode cX4_countOrders 38 = .ok (.iload_n 1, 1) := by decide +kernel
theorem dX4_countOrders_39 : decode cX4_countOrders 39 = .ok (.ireturn, 1) := by decide +kernel
theorem dX4_countOrders_40 : decode cX4_countOrders 40 = .ok (.aload_n 0, 1) := by decide +kernel
theorem dX4_countOrders_41 : decode cX4_countOrders 41 = .ok (.bipush 44, 2) := by decide +kernel
theorem dX4_countOrders_43 : decode cX4_countOrders 43 = .ok (.invokevirtual 29, 3) := by decide +kernel
theorem dX4_countOrders_46 : decode cX4_countOrders 46 = .ok (.ifCond .ne 11, 3) := by decide +kernel
theorem dX4_countOrders_49 : decode cX4_countOrders 49 = .ok (.bipush (-100), 2) := by decide +kernel
theorem dX4_countOrders_51 : decode cX4_countOrders 51 = .ok (.aload_n 0, 1) := by decide +kernel
theorem dX4_countOrders_52 : decode cX4_countOrders 52 = .ok (.getfield 26, 3) := by decide +kernel
theorem dX4_countOrders_55 : decode cX4_countOrders 55 = .ok (.isub, 1) := by decide +kernel
theorem dX4_countOrders_56 : decode cX4_countOrders 56 = .ok (.ireturn, 1) := by decide +kernel
theorem dX4_countOrders_57 : decode cX4_countOrders 57 = .ok (.iinc 1 1, 3) := by decide +kernel
theorem dX4_countOrders_60 : decode cX4_countOrders 60 = .ok (.goto (-54), 3) := by decide +kernel
theorem dX4_countOrders_63 : decode cX4_countOrders 63 = .ok (.bipush (-100), 2) := by decide +kernel
theorem dX4_countOrders_65 : decode cX4_countOrders 65 = .ok (.aload_n 0, 1) := by decide +kernel
theorem dX4_countOrders_66 : decode cX4_countOrders 66 = .ok (.getfield 26, 3) := by decide +kernel
theorem dX4_countOrders_69 : decode cX4_countOrders 69 = .ok (.isub, 1) := by decide +kernel
theorem dX4_countOrders_70 : decode cX4_countOrders 70 = .ok (.ireturn, 1) := by decide +kernel
theorem dX4_rewind_0 : decode cX4_rewind 0 = .ok (.aload_n 0, 1) := by decide +kernel
theorem dX4_rewind_1 : decode cX4_rewind 1 = .ok (.iconst 0, 1) := by decide +kernel
theorem dX4_rewind_2 : decode cX4_rewind 2 = .ok (.putfield 26, 3) := by decide +kernel
theorem dX4_rewind_5 : decode cX4_rewind 5 = .ok (.return_, 1) := by decide +kernel
set_option maxRecDepth 20000 in
theorem ggX4_readNextOrder_X4_accept : GoodIn wsX4_readNextOrder wsX4_accept := goodIn_r _ [5, 6, 7, 8, 9, 4, 10, 11, 12, 35, 36, 37, 38, 39, 40] (by decide +kernel) (by decide +kernel)
set_option maxRecDepth 20000 in
theorem gX4_readNextOrder_X4_accept : GoodIn wsX4_readNextOrder (wsV RX4 29 RX4 yX4_accept wsX4_accept) := goodIn_app (goodIn_of _ (by decide +kernel)) ggX4_readNextOrder_X4_accept
set_option maxRecDepth 20000 in
theorem ggX4_readNextOrder_X4_readOrder : GoodIn wsX4_readNextOrder wsX4_readOrder := goodIn_r _ [16, 17, 7, 8, 9, 4, 10, 6, 11, 12, 1, 2, 3, 5, 18, 19, 20, 21, 22, 23, 24, 25, 26, 27, 28, 29, 30, 31, 32, 33, 34, 35, 36, 37, 38, 39, 40] (by decide +kernel) (by decide +kernel)
set_option maxRecDepth 20000 in
theorem gX4_readNextOrder_X4_readOrder : GoodIn wsX4_readNextOrder (wsV RX4 22 RX4 yX4_readOrder wsX4_readOrder) := goodIn_app (goodIn_of _ (by decide +kernel)) ggX4_readNextOrder_X4_readOrder
theorem dX4_readNextOrder_0 : decode cX4_readNextOrder 0 = .ok (.aload_n 0, 1) := by decide +kernel
theorem dX4_readNextOrder_1 : decode cX4_readNextOrder 1 = .ok (.bipush 44, 2) := by decide +kernel
theorem dX4_readNextOrder_3 : decode cX4_readNextOrder 3 = .ok (.invokevirtual 29, 3) := by decide +kernel
theorem dX4_readNextOrder_6 : decode cX4_readNextOrder 6 = .ok (.pop, 1) := by decide +kernel
theorem dX4_readNextOrder_7 : decode cX4_readNextOrder 7 = .ok (.aload_n 0, 1) := by decide +kernel
theorem dX4_readNextOrder_8 : decode cX4_readNextOrder 8 = .ok (.invokevirtual 22, 3) := by decide +kernel
theorem dX4_readNextOrder_11 : decode cX4_readNextOrder 11 = .ok (.pop, 1) := by decide +kernel
theorem dX4_readNextOrder_12 : decode cX4_readNextOrder 12 = .ok (.return_, 1) := by decide +kernel
set_option maxRecDepth 20000 in
theorem ggX4_readOrder_X4_here : GoodIn wsX4_readOrder wsX4_here := goodIn_r _ [6, 7, 8, 9, 31, 32, 33, 34, 35, 36] (by decide +kernel) (by decide +kernel)
set_option maxRecDepth 20000 in
theorem gX4_readOrder_X4_here : GoodIn wsX4_readOrder (wsV RX4 33 RX4 yX4_here wsX4_here) := goodIn_app (goodIn_of _ (by decide +kernel)) ggX4_readOrder_X4_here
set_option maxRecDepth 20000 in
theorem ggX4_readOrder_X4_accept : GoodIn wsX4_readOrder wsX4_accept := goodIn_r _ [13, 7, 2, 3, 4, 5, 6, 8, 9, 31, 32, 33, 34, 35, 36] (by decide +kernel) (by decide +kernel)
set_option maxRecDepth 20000 in
theorem gX4_readOrder_X4_accept : GoodIn wsX4_readOrder (wsV RX4 29 RX4 yX4_accept wsX4_accept) := goodIn_app (goodIn_of _ (by decide +kernel)) ggX4_readOrder_X4_accept
set_option maxRecDepth 20000 in
theorem ggX4_readOrder_X4_readTarget : GoodIn wsX4_readOrder wsX4_readTarget := goodIn_r _ [17, 18, 19, 20, 21, 22, 5, 23, 7, 24, 25, 26, 27, 2, 3, 4, 6, 8, 9, 28, 29, 30, 10, 11, 12, 13, 31, 32, 33, 34, 35, 36] (by decide +kernel) (by decide +kernel)
set_option maxRecDepth 20000 in
theorem gX4_readOrder_X4_readTarget : GoodIn wsX4_readOrder (wsV RX4 40 RX4 yX4_readTarget wsX4_readTarget) := goodIn_app (goodIn_of _ (by decide +kernel)) ggX4_readOrder_X4_readTarget
set_option maxRecDepth 20000 in
theorem ggX4_readOrder_X4_readValue : GoodIn wsX4_readOrder wsX4_readValue := goodIn_r _ [23, 18, 7, 24, 25, 26, 5, 27, 2, 3, 4, 6, 8, 9, 28, 29, 30, 31, 32, 33, 34, 35, 36] (by decide +kernel) (by decide +kernel)
set_option maxRecDepth 20000 in
theorem gX4_readOrder_X4_readValue : GoodIn wsX4_readOrder (wsV RX4 44 RX4 yX4_readValue wsX4_readValue) := goodIn_app (goodIn_of _ (by decide +kernel)) ggX4_readOrder_X4_readValue
theorem dX4_readOrder_0 : decode cX4_readOrder 0 = .ok (.aload_n 0, 1) := by decide +kernel
theorem dX4_readOrder_1 : decode cX4_readOrder 1 = .ok (.aload_n 0, 1) := by decide +kernel
theorem dX4_readOrder_2 : decode cX4_readOrder 2 = .ok (.invokevirtual 33, 3) := by decide +kernel
theorem dX4_readOrder_5 : decode cX4_readOrder 5 = .ok (.putfield 37, 3) := by decide +kernel
theorem dX4_readOrder_8 : decode cX4_readOrder 8 = .ok (.aload_n 0, 1) := by decide +kernel
theorem dX4_readOrder_9 : decode cX4_readOrder 9 = .ok (.bipush 102, 2) := by decide +kernel
theorem dX4_readOrder_11 : decode cX4_readOrder 11 = .ok (.invokevirtual 29, 3) := by decide +kernel
theorem dX4_readOrder_14 : decode cX4_readOrder 14 = .ok (.ifCond .eq 26, 3) := by decide +kernel
theorem dX4_readOrder_17 : decode cX4_readOrder 17 = .ok (.aload_n 0, 1) := by decide +kernel
theorem dX4_readOrder_18 : decode cX4_readOrder 18 = .ok (.iconst 1, 1) := by decide +kernel
theorem dX4_readOrder_19 : decode cX4_readOrder 19 = .ok (.invokevirtual 40, 3) := by decide +kernel
theorem dX4_readOrder_22 : decode cX4_readOrder 22 = .ok (.ifCond .eq 16, 3) := by decide +kernel
theorem dX4_readOrder_25 : decode cX4_readOrder 25 = .ok (.aload_n 0, 1) := by decide +kernel
theorem dX4_readOrder_26 : decode cX4_readOrder 26 = .ok (.iconst 0, 1) := by decide +kernel
theorem dX4_readOrder_27 : decode cX4_readOrder 27 = .ok (.iconst 5, 1) := by decide +kernel
theorem dX4_readOrder_28 : decode cX4_readOrder 28 = .ok (.invokevirtual 44, 3) := by decide +kernel
theorem dX4_readOrder_31 : decode cX4_readOrder 31 = .ok (.ifCond .eq 7, 3) := by decide +kernel
theorem dX4_readOrder_34 : decode cX4_readOrder 34 = .ok (.iconst 1, 1) := by decide +kernel
theorem dX4_readOrder_35 : decode cX4_readOrder 35 = .ok (.goto 4, 3) := by decide +kernel
theorem dX4_readOrder_38 : decode cX4_readOrder 38 = .ok (.iconst 0, 1) := by decide +kernel
theorem dX4_readOrder_39 : decode cX4_readOrder 39 = .ok (.ireturn, 1) := by decide +kernel
theorem dX4_readOrder_40 : decode cX4_readOrder 40 = .ok (.aload_n 0, 1) := by decide +kernel
theorem dX4_readOrder_41 : decode cX4_readOrder 41 = .ok (.bipush 119, 2) := by decide +kernel
theorem dX4_readOrder_43 : decode cX4_readOrder 43 = .ok (.invokevirtual 29, 3) := by decide +kernel
theorem dX4_readOrder_46 : decode cX4_readOrder 46 = .ok (.ifCond .eq 28, 3) := by decide +kernel
theorem dX4_readOrder_49 : decode cX4_readOrder 49 = .ok (.aload_n 0, 1) := by decide +kernel
theorem dX4_readOrder_50 : decode cX4_readOrder 50 = .ok (.iconst 1, 1) := by decide +kernel
theorem dX4_readOrder_51 : decode cX4_readOrder 51 = .ok (.invokevirtual 40, 3) := by decide +kernel
theorem dX4_readOrder_54 : decode cX4_readOrder 54 = .ok (.ifCond .eq 18, 3) := by decide +kernel
theorem dX4_readOrder_57 : decode cX4_readOrder 57 = .ok (.aload_n 0, 1) := by decide +kernel
theorem dX4_readOrder_58 : decode cX4_readOrder 58 = .ok (.iconst 1, 1) := by decide +kernel
theorem dX4_readOrder_59 : decode cX4_readOrder 59 = .ok (.sipush 200, 3) := by decide +kernel
theorem dX4_readOrder_62 : decode cX4_readOrder 62 = .ok (.invokevirtual 44, 3) := by decide +kernel
theorem dX4_readOrder_65 : decode cX4_readOrder 65 = .ok (.ifCond .eq 7, 3) := by decide +kernel
theorem dX4_readOrder_68 : decode cX4_readOrder 68 = .ok (.iconst 1, 1) := by decide +kernel
theorem dX4_readOrder_69 : decode cX4_readOrder 69 = .ok (.goto 4, 3) := by decide +kernel
theorem dX4_readOrder_72 : decode cX4_readOrder 72 = .ok (.iconst 0, 1) := by decide +kernel
theorem dX4_readOrder_73 : decode cX4_readOrder 73 = .ok (.ireturn, 1) := by decide +kernel
theorem dX4_readOrder_74 : decode cX4_readOrder 74 = .ok (.aload_n 0, 1) := by decide +kernel
theorem dX4_readOrder_75 : decode cX4_readOrder 75 = .ok (.bipush 109, 2) := by decide +kernel
theorem dX4_readOrder_77 : decode cX4_readOrder 77 = .ok (.invokevirtual 29, 3) := by decide +kernel
theorem dX4_readOrder_80 : decode cX4_readOrder 80 = .ok (.ifCond .eq 26, 3) := by decide +kernel
theorem dX4_readOrder_83 : decode cX4_readOrder 83 = .ok (.aload_n 0, 1) := by decide +kernel
theorem dX4_readOrder_84 : decode cX4_readOrder 84 = .ok (.iconst 3, 1) := by decide +kernel
theorem dX4_readOrder_85 : decode cX4_readOrder 85 = .ok (.invokevirtual 40, 3) := by decide +kernel
theorem dX4_readOrder_88 : decode cX4_readOrder 88 = .ok (.ifCond .eq 16, 3) := by decide +kernel
theorem dX4_readOrder_91 : decode cX4_readOrder 91 = .ok (.aload_n 0, 1) := by decide +kernel
theorem dX4_readOrder_92 : decode cX4_readOrder 92 = .ok (.iconst 0, 1) := by decide +kernel
theorem dX4_readOrder_93 : decode cX4_readOrder 93 = .ok (.iconst 2, 1) := by decide +kernel
theorem dX4_readOrder_94 : decode cX4_readOrder 94 = .ok (.invokevirtual 44, 3) := by decide +kernel
theorem dX4_readOrder_97 : decode cX4_readOrder 97 = .ok (.ifCond .eq 7, 3) := by decide +kernel
theorem dX4_readOrder_100 : decode cX4_readOrder 100 = .ok (.iconst 1, 1) := by decide +kernel
theorem dX4_readOrder_101 : decode cX4_readOrder 101 = .ok (.goto 4, 3) := by decide +kernel
theorem dX4_readOrder_104 : decode cX4_readOrder 104 = .ok (.iconst 0, 1) := by decide +kernel
theorem dX4_readOrder_105 : decode cX4_readOrder 105 = .ok (.ireturn, 1) := by decide +kernel
theorem dX4_readOrder_106 : decode cX4_readOrder 106 = .ok (.aload_n 0, 1) := by decide +kernel
theorem dX4_readOrder_107 : decode cX4_readOrder 107 = .ok (.bipush 108, 2) := by decide +kernel
theorem dX4_readOrder_109 : decode cX4_readOrder 109 = .ok (.invokevirtual 29, 3) := by decide +kernel
theorem dX4_readOrder_112 : decode cX4_readOrder 112 = .ok (.ifCond .eq 10, 3) := by decide +kernel
theorem dX4_readOrder_115 : decode cX4_readOrder 115 = .ok (.aload_n 0, 1) := by decide +kernel
theorem dX4_readOrder_116 : decode cX4_readOrder 116 = .ok (.iconst 0, 1) := by decide +kernel
theorem dX4_readOrder_117 : decode cX4_readOrder 117 = .ok (.iconst 2, 1) := by decide +kernel
theorem dX4_readOrder_118 : decode cX4_readOrder 118 = .ok (.invokevirtual 44, 3) := by decide +kernel
theorem dX4_readOrder_121 : decode cX4_readOrder 121 = .ok (.ireturn, 1) := by decide +kernel
theorem dX4_readOrder_122 : decode cX4_readOrder 122 = .ok (.aload_n 0, 1) := by decide +kernel
theorem dX4_readOrder_123 : decode cX4_readOrder 123 = .ok (.bipush 116, 2) := by decide +kernel
theorem dX4_readOrder_125 : decode cX4_readOrder 125 = .ok (.invokevirtual 29, 3) := by decide +kernel
theorem dX4_readOrder_128 : decode cX4_readOrder 128 = .ok (.ifCond .eq 18, 3) := by decide +kernel
theorem dX4_readOrder_131 : decode cX4_readOrder 131 = .ok (.aload_n 0, 1) := by decide +kernel
theorem dX4_readOrder_132 : decode cX4_readOrder 132 = .ok (.iconst 1, 1) := by decide +kernel
theorem dX4_readOrder_133 : decode cX4_readOrder 133 = .ok (.sipush 200, 3) := by decide +kernel
theorem dX4_readOrder_136 : decode cX4_readOrder 136 = .ok (.invokevirtual 44, 3) := by decide +kernel
theorem dX4_readOrder_139 : decode cX4_readOrder 139 = .ok (.ifCond .eq 7, 3) := by decide +kernel
theorem dX4_readOrder_142 : decode cX4_readOrder 142 = .ok (.iconst 1, 1) := by decide +kernel
theorem dX4_readOrder_143 : decode cX4_readOrder 143 = .ok (.goto 4, 3) := by decide +kernel
theorem dX4_readOrder_146 : decode cX4_readOrder 146 = .ok (.iconst 0, 1) := by decide +kernel
theorem dX4_readOrder_147 : decode cX4_readOrder 147 = .ok (.ireturn, 1) := by decide +kernel
set_option maxRecDepth 20000 in
theorem ggX4_readTarget_X4_readValue : GoodIn wsX4_readTarget wsX4_readValue := goodIn_r _ [7, 1, 8, 9, 10, 11, 6, 12, 13, 14, 15, 16, 17, 18, 19, 20, 21, 26, 27, 28, 29, 30, 31] (by decide +kernel) (by decide +kernel)
set_option maxRecDepth 20000 in
theorem gX4_readTarget_X4_readValue : GoodIn wsX4_readTarget (wsV RX4 44 RX4 yX4_readValue wsX4_readValue) := goodIn_app (goodIn_of _ (by decide +kernel)) ggX4_readTarget_X4_readValue
set_option maxRecDepth 20000 in
theorem ggX4_readTarget_X4_accept : GoodIn wsX4_readTarget wsX4_accept := goodIn_r _ [25, 8, 13, 14, 15, 6, 16, 17, 18, 26, 27, 28, 29, 30, 31] (by decide +kernel) (by decide +kernel)
set_option maxRecDepth 20000 in
theorem gX4_readTarget_X4_accept : GoodIn wsX4_readTarget (wsV RX4 29 RX4 yX4_accept wsX4_accept) := goodIn_app (goodIn_of _ (by decide +kernel)) ggX4_readTarget_X4_accept
theorem dX4_readTarget_0 : decode cX4_readTarget 0 = .ok (.aload_n 0, 1) := by decide +kernel
theorem dX4_readTarget_1 : decode cX4_readTarget 1 = .ok (.iconst 0, 1) := by decide +kernel
theorem dX4_readTarget_2 : decode cX4_readTarget 2 = .ok (.iload_n 1, 1) := by decide +kernel
theorem dX4_readTarget_3 : decode cX4_readTarget 3 = .ok (.invokevirtual 44, 3) := by decide +kernel
theorem dX4_readTarget_6 : decode cX4_readTarget 6 = .ok (.ifCond .ne 5, 3) := by decide +kernel
theorem dX4_readTarget_9 : decode cX4_readTarget 9 = .ok (.iconst 0, 1) := by decide +kernel
theorem dX4_readTarget_10 : decode cX4_readTarget 10 = .ok (.ireturn, 1) := by decide +kernel
theorem dX4_readTarget_11 : decode cX4_readTarget 11 = .ok (.aload_n 0, 1) := by decide +kernel
theorem dX4_readTarget_12 : decode cX4_readTarget 12 = .ok (.aload_n 0, 1) := by decide +kernel
theorem dX4_readTarget_13 : decode cX4_readTarget 13 = .ok (.getfield 48, 3) := by decide +kernel
theorem dX4_readTarget_16 : decode cX4_readTarget 16 = .ok (.putfield 51, 3) := by decide +kernel
theorem dX4_readTarget_19 : decode cX4_readTarget 19 = .ok (.aload_n 0, 1) := by decide +kernel
theorem dX4_readTarget_20 : decode cX4_readTarget 20 = .ok (.bipush 58, 2) := by decide +kernel
theorem dX4_readTarget_22 : decode cX4_readTarget 22 = .ok (.invokevirtual 29, 3) := by decide +kernel
theorem dX4_readTarget_25 : decode cX4_readTarget 25 = .ok (.ireturn, 1) := by decide +kernel
set_option maxRecDepth 20000 in
theorem ggX4_readValue_X4_digitHere : GoodIn wsX4_readValue wsX4_digitHere := goodIn_r _ [7, 8, 9, 10, 6, 11, 2, 12, 13, 14, 15, 16, 17, 18, 19, 20, 21, 22] (by decide +kernel) (by decide +kernel)
set_option maxRecDepth 20000 in
theorem gX4_readValue_X4_digitHere : GoodIn wsX4_readValue (wsV RX4 54 RX4 yX4_digitHere wsX4_digitHere) := goodIn_app (goodIn_of _ (by decide +kernel)) ggX4_readValue_X4_digitHere
set_option maxRecDepth 20000 in
theorem ggX4_readValue_X6_isWithin : GoodIn wsX4_readValue wsX6_isWithin := goodIn_r _ [16] (by decide +kernel) (by decide +kernel)
set_option maxRecDepth 20000 in
theorem gX4_readValue_X6_isWithin_n57 : GoodIn wsX4_readValue (wsX6_isWithin) := ggX4_readValue_X6_isWithin
theorem dX4_readValue_0 : decode cX4_readValue 0 = .ok (.aload_n 0, 1) := by decide +kernel
theorem dX4_readValue_1 : decode cX4_readValue 1 = .ok (.invokevirtual 54, 3) := by decide +kernel
theorem dX4_readValue_4 : decode cX4_readValue 4 = .ok (.istore_n 3, 1) := by decide +kernel
theorem dX4_readValue_5 : decode cX4_readValue 5 = .ok (.iload_n 3, 1) := by decide +kernel
theorem dX4_readValue_6 : decode cX4_readValue 6 = .ok (.iload_n 1, 1) := by decide +kernel
theorem dX4_readValue_7 : decode cX4_readValue 7 = .ok (.iload_n 2, 1) := by decide +kernel
theorem dX4_readValue_8 : decode cX4_readValue 8 = .ok (.invokestatic 57, 3) := by decide +kernel
theorem dX4_readValue_11 : decode cX4_readValue 11 = .ok (.ifCond .ne 5, 3) := by decide +kernel
theorem dX4_readValue_14 : decode cX4_readValue 14 = .ok (.iconst 0, 1) := by decide +kernel
theorem dX4_readValue_15 : decode cX4_readValue 15 = .ok (.ireturn, 1) := by decide +kernel
theorem dX4_readValue_16 : decode cX4_readValue 16 = .ok (.aload_n 0, 1) := by decide +kernel
theorem dX4_readValue_17 : decode cX4_readValue 17 = .ok (.iload_n 3, 1) := by decide +kernel
theorem dX4_readValue_18 : decode cX4_readValue 18 = .ok (.putfield 48, 3) := by decide +kernel
theorem dX4_readValue_21 : decode cX4_readValue 21 = .ok (.aload_n 0, 1) := by decide +kernel
theorem dX4_readValue_22 : decode cX4_readValue 22 = .ok (.dup, 1) := by decide +kernel
theorem dX4_readValue_23 : decode cX4_readValue 23 = .ok (.getfield 26, 3) := by decide +kernel
theorem dX4_readValue_26 : decode cX4_readValue 26 = .ok (.iconst 1, 1) := by decide +kernel
theorem dX4_readValue_27 : decode cX4_readValue 27 = .ok (.iadd, 1) := by decide +kernel
theorem dX4_readValue_28 : decode cX4_readValue 28 = .ok (.putfield 26, 3) := by decide +kernel
theorem dX4_readValue_31 : decode cX4_readValue 31 = .ok (.iconst 1, 1) := by decide +kernel
theorem dX4_readValue_32 : decode cX4_readValue 32 = .ok (.istore 4, 2) := by decide +kernel
theorem dX4_readValue_34 : decode cX4_readValue 34 = .ok (.iload 4, 2) := by decide +kernel
theorem dX4_readValue_36 : decode cX4_readValue 36 = .ok (.iconst 3, 1) := by decide +kernel
theorem dX4_readValue_37 : decode cX4_readValue 37 = .ok (.if_icmp .ge 64, 3) := by decide +kernel
theorem dX4_readValue_40 : decode cX4_readValue 40 = .ok (.aload_n 0, 1) := by decide +kernel
theorem dX4_readValue_41 : decode cX4_readValue 41 = .ok (.getfield 48, 3) := by decide +kernel
theorem dX4_readValue_44 : decode cX4_readValue 44 = .ok (.ifCond .le 57, 3) := by decide +kernel
theorem dX4_readValue_47 : decode cX4_readValue 47 = .ok (.aload_n 0, 1) := by decide +kernel
theorem dX4_readValue_48 : decode cX4_readValue 48 = .ok (.invokevirtual 54, 3) := by decide +kernel
theorem dX4_readValue_51 : decode cX4_readValue 51 = .ok (.istore_n 3, 1) := by decide +kernel
theorem dX4_readValue_52 : decode cX4_readValue 52 = .ok (.iload_n 3, 1) := by decide +kernel
theorem dX4_readValue_53 : decode cX4_readValue 53 = .ok (.iconst (-1), 1) := by decide +kernel
theorem dX4_readValue_54 : decode cX4_readValue 54 = .ok (.if_icmp .eq 16, 3) := by decide +kernel
theorem dX4_readValue_57 : decode cX4_readValue 57 = .ok (.bipush 10, 2) := by decide +kernel
theorem dX4_readValue_59 : decode cX4_readValue 59 = .ok (.aload_n 0, 1) := by decide +kernel
theorem dX4_readValue_60 : decode cX4_readValue 60 = .ok (.getfield 48, 3) := by decide +kernel
theorem dX4_readValue_63 : decode cX4_readValue 63 = .ok (.imul, 1) := by decide +kernel
theorem dX4_readValue_64 : decode cX4_readValue 64 = .ok (.iload_n 3, 1) := by decide +kernel
theorem dX4_readValue_65 : decode cX4_readValue 65 = .ok (.iadd, 1) := by decide +kernel
theorem dX4_readValue_66 : decode cX4_readValue 66 = .ok (.iload_n 2, 1) := by decide +kernel
theorem dX4_readValue_67 : decode cX4_readValue 67 = .ok (.if_icmp .le 5, 3) := by decide +kernel
theorem dX4_readValue_70 : decode cX4_readValue 70 = .ok (.iconst 1, 1) := by decide +kernel
theorem dX4_readValue_71 : decode cX4_readValue 71 = .ok (.ireturn, 1) := by decide +kernel
theorem dX4_readValue_72 : decode cX4_readValue 72 = .ok (.aload_n 0, 1) := by decide +kernel
theorem dX4_readValue_73 : decode cX4_readValue 73 = .ok (.bipush 10, 2) := by decide +kernel
theorem dX4_readValue_75 : decode cX4_readValue 75 = .ok (.aload_n 0, 1) := by decide +kernel
theorem dX4_readValue_76 : decode cX4_readValue 76 = .ok (.getfield 48, 3) := by decide +kernel
theorem dX4_readValue_79 : decode cX4_readValue 79 = .ok (.imul, 1) := by decide +kernel
theorem dX4_readValue_80 : decode cX4_readValue 80 = .ok (.iload_n 3, 1) := by decide +kernel
theorem dX4_readValue_81 : decode cX4_readValue 81 = .ok (.iadd, 1) := by decide +kernel
theorem dX4_readValue_82 : decode cX4_readValue 82 = .ok (.putfield 48, 3) := by decide +kernel
theorem dX4_readValue_85 : decode cX4_readValue 85 = .ok (.aload_n 0, 1) := by decide +kernel
theorem dX4_readValue_86 : decode cX4_readValue 86 = .ok (.dup, 1) := by decide +kernel
theorem dX4_readValue_87 : decode cX4_readValue 87 = .ok (.getfield 26, 3) := by decide +kernel
theorem dX4_readValue_90 : decode cX4_readValue 90 = .ok (.iconst 1, 1) := by decide +kernel
theorem dX4_readValue_91 : decode cX4_readValue 91 = .ok (.iadd, 1) := by decide +kernel
theorem dX4_readValue_92 : decode cX4_readValue 92 = .ok (.putfield 26, 3) := by decide +kernel
theorem dX4_readValue_95 : decode cX4_readValue 95 = .ok (.iinc 4 1, 3) := by decide +kernel
theorem dX4_readValue_98 : decode cX4_readValue 98 = .ok (.goto (-64), 3) := by decide +kernel
theorem dX4_readValue_101 : decode cX4_readValue 101 = .ok (.iconst 1, 1) := by decide +kernel
theorem dX4_readValue_102 : decode cX4_readValue 102 = .ok (.ireturn, 1) := by decide +kernel
set_option maxRecDepth 20000 in
theorem ggX4_accept_X4_here : GoodIn wsX4_accept wsX4_here := goodIn_r _ [6, 1, 7, 8, 9, 10, 11, 12, 13, 14] (by decide +kernel) (by decide +kernel)
set_option maxRecDepth 20000 in
theorem gX4_accept_X4_here : GoodIn wsX4_accept (wsV RX4 33 RX4 yX4_here wsX4_here) := goodIn_app (goodIn_of _ (by decide +kernel)) ggX4_accept_X4_here
theorem dX4_accept_0 : decode cX4_accept 0 = .ok (.aload_n 0, 1) := by decide +kernel
theorem dX4_accept_1 : decode cX4_accept 1 = .ok (.invokevirtual 33, 3) := by decide +kernel
theorem dX4_accept_4 : decode cX4_accept 4 = .ok (.iload_n 1, 1) := by decide +kernel
theorem dX4_accept_5 : decode cX4_accept 5 = .ok (.if_icmp .eq 5, 3) := by decide +kernel
theorem dX4_accept_8 : decode cX4_accept 8 = .ok (.iconst 0, 1) := by decide +kernel
theorem dX4_accept_9 : decode cX4_accept 9 = .ok (.ireturn, 1) := by decide +kernel
theorem dX4_accept_10 : decode cX4_accept 10 = .ok (.aload_n 0, 1) := by decide +kernel
theorem dX4_accept_11 : decode cX4_accept 11 = .ok (.dup, 1) := by decide +kernel
theorem dX4_accept_12 : decode cX4_accept 12 = .ok (.getfield 26, 3) := by decide +kernel
theorem dX4_accept_15 : decode cX4_accept 15 = .ok (.iconst 1, 1) := by decide +kernel
theorem dX4_accept_16 : decode cX4_accept 16 = .ok (.iadd, 1) := by decide +kernel
theorem dX4_accept_17 : decode cX4_accept 17 = .ok (.putfield 26, 3) := by decide +kernel
theorem dX4_accept_20 : decode cX4_accept 20 = .ok (.iconst 1, 1) := by decide +kernel
theorem dX4_accept_21 : decode cX4_accept 21 = .ok (.ireturn, 1) := by decide +kernel
set_option maxRecDepth 20000 in
theorem ggX4_digitHere_X4_here : GoodIn wsX4_digitHere wsX4_here := goodIn_r _ [5, 6, 7, 8, 12, 13, 14, 15, 16, 17] (by decide +kernel) (by decide +kernel)
set_option maxRecDepth 20000 in
theorem gX4_digitHere_X4_here : GoodIn wsX4_digitHere (wsV RX4 33 RX4 yX4_here wsX4_here) := goodIn_app (goodIn_of _ (by decide +kernel)) ggX4_digitHere_X4_here
set_option maxRecDepth 20000 in
theorem ggX4_digitHere_X6_isWithin : GoodIn wsX4_digitHere wsX6_isWithin := goodIn_r _ [11] (by decide +kernel) (by decide +kernel)
set_option maxRecDepth 20000 in
theorem gX4_digitHere_X6_isWithin_n57 : GoodIn wsX4_digitHere (wsX6_isWithin) := ggX4_digitHere_X6_isWithin
theorem dX4_digitHere_0 : decode cX4_digitHere 0 = .ok (.aload_n 0, 1) := by decide +kernel
theorem dX4_digitHere_1 : decode cX4_digitHere 1 = .ok (.invokevirtual 33, 3) := by decide +kernel
theorem dX4_digitHere_4 : decode cX4_digitHere 4 = .ok (.istore_n 1, 1) := by decide +kernel
theorem dX4_digitHere_5 : decode cX4_digitHere 5 = .ok (.iload_n 1, 1) := by decide +kernel
theorem dX4_digitHere_6 : decode cX4_digitHere 6 = .ok (.bipush 48, 2) := by decide +kernel
theorem dX4_digitHere_8 : decode cX4_digitHere 8 = .ok (.bipush 57, 2) := by decide +kernel
theorem dX4_digitHere_10 : decode cX4_digitHere 10 = .ok (.invokestatic 57, 3) := by decide +kernel
theorem dX4_digitHere_13 : decode cX4_digitHere 13 = .ok (.ifCond .eq 10, 3) := by decide +kernel
theorem dX4_digitHere_16 : decode cX4_digitHere 16 = .ok (.iload_n 1, 1) := by decide +kernel
theorem dX4_digitHere_17 : decode cX4_digitHere 17 = .ok (.bipush 48, 2) := by decide +kernel
theorem dX4_digitHere_19 : decode cX4_digitHere 19 = .ok (.isub, 1) := by decide +kernel
theorem dX4_digitHere_20 : decode cX4_digitHere 20 = .ok (.goto 4, 3) := by decide +kernel
theorem dX4_digitHere_23 : decode cX4_digitHere 23 = .ok (.iconst (-1), 1) := by decide +kernel
theorem dX4_digitHere_24 : decode cX4_digitHere 24 = .ok (.ireturn, 1) := by decide +kernel
theorem dX4_here_0 : decode cX4_here 0 = .ok (.aload_n 0, 1) := by decide +kernel
theorem dX4_here_1 : decode cX4_here 1 = .ok (.getfield 26, 3) := by decide +kernel
theorem dX4_here_4 : decode cX4_here 4 = .ok (.ifCond .lt 26, 3) := by decide +kernel
theorem dX4_here_7 : decode cX4_here 7 = .ok (.aload_n 0, 1) := by decide +kernel
theorem dX4_here_8 : decode cX4_here 8 = .ok (.getfield 26, 3) := by decide +kernel
theorem dX4_here_11 : decode cX4_here 11 = .ok (.aload_n 0, 1) := by decide +kernel
theorem dX4_here_12 : decode cX4_here 12 = .ok (.getfield 15, 3) := by decide +kernel
theorem dX4_here_15 : decode cX4_here 15 = .ok (.if_icmp .ge 15, 3) := by decide +kernel
theorem dX4_here_18 : decode cX4_here 18 = .ok (.aload_n 0, 1) := by decide +kernel
theorem dX4_here_19 : decode cX4_here 19 = .ok (.getfield 26, 3) := by decide +kernel
theorem dX4_here_22 : decode cX4_here 22 = .ok (.aload_n 0, 1) := by decide +kernel
theorem dX4_here_23 : decode cX4_here 23 = .ok (.getfield 9, 3) := by decide +kernel
theorem dX4_here_26 : decode cX4_here 26 = .ok (.arraylength, 1) := by decide +kernel
theorem dX4_here_27 : decode cX4_here 27 = .ok (.if_icmp .lt 5, 3) := by decide +kernel
theorem dX4_here_30 : decode cX4_here 30 = .ok (.iconst (-1), 1) := by decide +kernel
theorem dX4_here_31 : decode cX4_here 31 = .ok (.ireturn, 1) := by decide +kernel
theorem dX4_here_32 : decode cX4_here 32 = .ok (.aload_n 0, 1) := by decide +kernel
theorem dX4_here_33 : decode cX4_here 33 = .ok (.getfield 9, 3) := by decide +kernel
theorem dX4_here_36 : decode cX4_here 36 = .ok (.aload_n 0, 1) := by decide +kernel
theorem dX4_here_37 : decode cX4_here 37 = .ok (.getfield 26, 3) := by decide +kernel
theorem dX4_here_40 : decode cX4_here 40 = .ok (.caload, 1) := by decide +kernel
theorem dX4_here_41 : decode cX4_here 41 = .ok (.ireturn, 1) := by decide +kernel
theorem dX5_init_0 : decode cX5_init 0 = .ok (.aload_n 0, 1) := by decide +kernel
theorem dX5_init_1 : decode cX5_init 1 = .ok (.invokespecial 3, 3) := by decide +kernel
theorem dX5_init_4 : decode cX5_init 4 = .ok (.aload_n 0, 1) := by decide +kernel
theorem dX5_init_5 : decode cX5_init 5 = .ok (.bipush 12, 2) := by decide +kernel
theorem dX5_init_7 : decode cX5_init 7 = .ok (.newarray .int, 2) := by decide +kernel
theorem dX5_init_9 : decode cX5_init 9 = .ok (.putfield 9, 3) := by decide +kernel
theorem dX5_init_12 : decode cX5_init 12 = .ok (.return_, 1) := by decide +kernel
theorem dX5_copyFrom_0 : decode cX5_copyFrom 0 = .ok (.aload_n 0, 1) := by decide +kernel
theorem dX5_copyFrom_1 : decode cX5_copyFrom 1 = .ok (.aload_n 1, 1) := by decide +kernel
theorem dX5_copyFrom_2 : decode cX5_copyFrom 2 = .ok (.getfield 15, 3) := by decide +kernel
theorem dX5_copyFrom_5 : decode cX5_copyFrom 5 = .ok (.putfield 15, 3) := by decide +kernel
theorem dX5_copyFrom_8 : decode cX5_copyFrom 8 = .ok (.iconst 0, 1) := by decide +kernel
theorem dX5_copyFrom_9 : decode cX5_copyFrom 9 = .ok (.istore_n 2, 1) := by decide +kernel
theorem dX5_copyFrom_10 : decode cX5_copyFrom 10 = .ok (.iload_n 2, 1) := by decide +kernel
theorem dX5_copyFrom_11 : decode cX5_copyFrom 11 = .ok (.aload_n 0, 1) := by decide +kernel
theorem dX5_copyFrom_12 : decode cX5_copyFrom 12 = .ok (.getfield 9, 3) := by decide +kernel
theorem dX5_copyFrom_15 : decode cX5_copyFrom 15 = .ok (.arraylength, 1) := by decide +kernel
theorem dX5_copyFrom_16 : decode cX5_copyFrom 16 = .ok (.if_icmp .ge 30, 3) := by decide +kernel
theorem dX5_copyFrom_19 : decode cX5_copyFrom 19 = .ok (.iload_n 2, 1) := by decide +kernel
theorem dX5_copyFrom_20 : decode cX5_copyFrom 20 = .ok (.aload_n 1, 1) := by decide +kernel
theorem dX5_copyFrom_21 : decode cX5_copyFrom 21 = .ok (.getfield 9, 3) := by decide +kernel
theorem dX5_copyFrom_24 : decode cX5_copyFrom 24 = .ok (.arraylength, 1) := by decide +kernel
theorem dX5_copyFrom_25 : decode cX5_copyFrom 25 = .ok (.if_icmp .ge 21, 3) := by decide +kernel
theorem dX5_copyFrom_28 : decode cX5_copyFrom 28 = .ok (.aload_n 0, 1) := by decide +kernel
theorem dX5_copyFrom_29 : decode cX5_copyFrom 29 = .ok (.getfield 9, 3) := by decide +kernel
theorem dX5_copyFrom_32 : decode cX5_copyFrom 32 = .ok (.iload_n 2, 1) := by decide +kernel
theorem dX5_copyFrom_33 : decode cX5_copyFrom 33 = .ok (.aload_n 1, 1) := by decide +kernel
theorem dX5_copyFrom_34 : decode cX5_copyFrom 34 = .ok (.getfield 9, 3) := by decide +kernel
theorem dX5_copyFrom_37 : decode cX5_copyFrom 37 = .ok (.iload_n 2, 1) := by decide +kernel
theorem dX5_copyFrom_38 : decode cX5_copyFrom 38 = .ok (.iaload, 1) := by decide +kernel
theorem dX5_copyFrom_39 : decode cX5_copyFrom 39 = .ok (.iastore, 1) := by decide +kernel
theorem dX5_copyFrom_40 : decode cX5_copyFrom 40 = .ok (.iinc 2 1, 3) := by decide +kernel
theorem dX5_copyFrom_43 : decode cX5_copyFrom 43 = .ok (.goto (-33), 3) := by decide +kernel
theorem dX5_copyFrom_46 : decode cX5_copyFrom 46 = .ok (.return_, 1) := by decide +kernel
theorem dX5_kindAt_0 : decode cX5_kindAt 0 = .ok (.iload_n 1, 1) := by decide +kernel
theorem dX5_kindAt_1 : decode cX5_kindAt 1 = .ok (.ifCond .lt 29, 3) := by decide +kernel
theorem dX5_kindAt_4 : decode cX5_kindAt 4 = .ok (.iload_n 1, 1) := by decide +kernel
theorem dX5_kindAt_5 : decode cX5_kindAt 5 = .ok (.aload_n 0, 1) := by decide +kernel
theorem dX5_kindAt_6 : decode cX5_kindAt 6 = .ok (.getfield 15, 3) := by decide +kernel
theorem dX5_kindAt_9 : decode cX5_kindAt 9 = .ok (.if_icmp .ge 21, 3) := by decide +kernel
theorem dX5_kindAt_12 : decode cX5_kindAt 12 = .ok (.iload_n 1, 1) := by decide +kernel
theorem dX5_kindAt_13 : decode cX5_kindAt 13 = .ok (.aload_n 0, 1) := by decide +kernel
theorem dX5_kindAt_14 : decode cX5_kindAt 14 = .ok (.getfield 9, 3) := by decide +kernel
theorem dX5_kindAt_17 : decode cX5_kindAt 17 = .ok (.arraylength, 1) := by decide +kernel
theorem dX5_kindAt_18 : decode cX5_kindAt 18 = .ok (.if_icmp .ge 12, 3) := by decide +kernel
theorem dX5_kindAt_21 : decode cX5_kindAt 21 = .ok (.aload_n 0, 1) := by decide +kernel
theorem dX5_kindAt_22 : decode cX5_kindAt 22 = .ok (.getfield 9, 3) := by decide +kernel
theorem dX5_kindAt_25 : decode cX5_kindAt 25 = .ok (.iload_n 1, 1) := by decide +kernel
theorem dX5_kindAt_26 : decode cX5_kindAt 26 = .ok (.iaload, 1) := by decide +kernel
theorem dX5_kindAt_27 : decode cX5_kindAt 27 = .ok (.goto 5, 3) := by decide +kernel
theorem dX5_kindAt_30 : decode cX5_kindAt 30 = .ok (.bipush (-5), 2) := by decide +kernel
theorem dX5_kindAt_32 : decode cX5_kindAt 32 = .ok (.ireturn, 1) := by decide +kernel
theorem dX5_add_0 : decode cX5_add 0 = .ok (.aload_n 0, 1) := by decide +kernel
theorem dX5_add_1 : decode cX5_add 1 = .ok (.getfield 15, 3) := by decide +kernel
theorem dX5_add_4 : decode cX5_add 4 = .ok (.ifCond .lt 15, 3) := by decide +kernel
theorem dX5_add_7 : decode cX5_add 7 = .ok (.aload_n 0, 1) := by decide +kernel
theorem dX5_add_8 : decode cX5_add 8 = .ok (.getfield 15, 3) := by decide +kernel
theorem dX5_add_11 : decode cX5_add 11 = .ok (.aload_n 0, 1) := by decide +kernel
theorem dX5_add_12 : decode cX5_add 12 = .ok (.getfield 9, 3) := by decide +kernel
theorem dX5_add_15 : decode cX5_add 15 = .ok (.arraylength, 1) := by decide +kernel
theorem dX5_add_16 : decode cX5_add 16 = .ok (.if_icmp .lt 6, 3) := by decide +kernel
theorem dX5_add_19 : decode cX5_add 19 = .ok (.bipush (-3), 2) := by decide +kernel
theorem dX5_add_21 : decode cX5_add 21 = .ok (.ireturn, 1) := by decide +kernel
theorem dX5_add_22 : decode cX5_add 22 = .ok (.aload_n 0, 1) := by decide +kernel
theorem dX5_add_23 : decode cX5_add 23 = .ok (.getfield 9, 3) := by decide +kernel
theorem dX5_add_26 : decode cX5_add 26 = .ok (.aload_n 0, 1) := by decide +kernel
theorem dX5_add_27 : decode cX5_add 27 = .ok (.getfield 15, 3) := by decide +kernel
theorem dX5_add_30 : decode cX5_add 30 = .ok (.iload_n 1, 1) := by decide +kernel
theorem dX5_add_31 : decode cX5_add 31 = .ok (.iastore, 1) := by decide +kernel
theorem dX5_add_32 : decode cX5_add 32 = .ok (.aload_n 0, 1) := by decide +kernel
theorem dX5_add_33 : decode cX5_add 33 = .ok (.dup, 1) := by decide +kernel
theorem dX5_add_34 : decode cX5_add 34 = .ok (.getfield 15, 3) := by decide +kernel
theorem dX5_add_37 : decode cX5_add 37 = .ok (.iconst 1, 1) := by decide +kernel
theorem dX5_add_38 : decode cX5_add 38 = .ok (.iadd, 1) := by decide +kernel
theorem dX5_add_39 : decode cX5_add 39 = .ok (.putfield 15, 3) := by decide +kernel
theorem dX5_add_42 : decode cX5_add 42 = .ok (.aload_n 0, 1) := by decide +kernel
theorem dX5_add_43 : decode cX5_add 43 = .ok (.getfield 15, 3) := by decide +kernel
theorem dX5_add_46 : decode cX5_add 46 = .ok (.iconst 1, 1) := by decide +kernel
theorem dX5_add_47 : decode cX5_add 47 = .ok (.isub, 1) := by decide +kernel
theorem dX5_add_48 : decode cX5_add 48 = .ok (.ireturn, 1) := by decide +kernel
set_option maxRecDepth 20000 in
theorem ggX5_remove_X5_kindAt : GoodIn wsX5_remove wsX5_kindAt := goodIn_r _ [7, 1, 2, 8, 9] (by decide +kernel) (by decide +kernel)
set_option maxRecDepth 20000 in
theorem gX5_remove_X5_kindAt : GoodIn wsX5_remove (wsV RX5 19 RX5 yX5_kindAt wsX5_kindAt) := goodIn_app (goodIn_of _ (by decide +kernel)) ggX5_remove_X5_kindAt
theorem dX5_remove_0 : decode cX5_remove 0 = .ok (.iload_n 1, 1) := by decide +kernel
theorem dX5_remove_1 : decode cX5_remove 1 = .ok (.ifCond .lt 11, 3) := by decide +kernel
theorem dX5_remove_4 : decode cX5_remove 4 = .ok (.iload_n 1, 1) := by decide +kernel
theorem dX5_remove_5 : decode cX5_remove 5 = .ok (.aload_n 0, 1) := by decide +kernel
theorem dX5_remove_6 : decode cX5_remove 6 = .ok (.getfield 15, 3) := by decide +kernel
theorem dX5_remove_9 : decode cX5_remove 9 = .ok (.if_icmp .lt 5, 3) := by decide +kernel
theorem dX5_remove_12 : decode cX5_remove 12 = .ok (.iconst (-1), 1) := by decide +kernel
theorem dX5_remove_13 : decode cX5_remove 13 = .ok (.ireturn, 1) := by decide +kernel
theorem dX5_remove_14 : decode cX5_remove 14 = .ok (.aload_n 0, 1) := by decide +kernel
theorem dX5_remove_15 : decode cX5_remove 15 = .ok (.iload_n 1, 1) := by decide +kernel
theorem dX5_remove_16 : decode cX5_remove 16 = .ok (.invokevirtual 19, 3) := by decide +kernel
theorem dX5_remove_19 : decode cX5_remove 19 = .ok (.istore_n 2, 1) := by decide +kernel
theorem dX5_remove_20 : decode cX5_remove 20 = .ok (.iload_n 1, 1) := by decide +kernel
theorem dX5_remove_21 : decode cX5_remove 21 = .ok (.iconst 1, 1) := by decide +kernel
theorem dX5_remove_22 : decode cX5_remove 22 = .ok (.iadd, 1) := by decide +kernel
theorem dX5_remove_23 : decode cX5_remove 23 = .ok (.istore_n 3, 1) := by decide +kernel
theorem dX5_remove_24 : decode cX5_remove 24 = .ok (.iload_n 3, 1) := by decide +kernel
theorem dX5_remove_25 : decode cX5_remove 25 = .ok (.aload_n 0, 1) := by decide +kernel
theorem dX5_remove_26 : decode cX5_remove 26 = .ok (.getfield 15, 3) := by decide +kernel
theorem dX5_remove_29 : decode cX5_remove 29 = .ok (.if_icmp .ge 32, 3) := by decide +kernel
theorem dX5_remove_32 : decode cX5_remove 32 = .ok (.iload_n 3, 1) := by decide +kernel
theorem dX5_remove_33 : decode cX5_remove 33 = .ok (.aload_n 0, 1) := by decide +kernel
theorem dX5_remove_34 : decode cX5_remove 34 = .ok (.getfield 9, 3) := by decide +kernel
theorem dX5_remove_37 : decode cX5_remove 37 = .ok (.arraylength, 1) := by decide +kernel
theorem dX5_remove_38 : decode cX5_remove 38 = .ok (.if_icmp .ge 23, 3) := by decide +kernel
theorem dX5_remove_41 : decode cX5_remove 41 = .ok (.aload_n 0, 1) := by decide +kernel
theorem dX5_remove_42 : decode cX5_remove 42 = .ok (.getfield 9, 3) := by decide +kernel
theorem dX5_remove_45 : decode cX5_remove 45 = .ok (.iload_n 3, 1) := by decide +kernel
theorem dX5_remove_46 : decode cX5_remove 46 = .ok (.iconst 1, 1) := by decide +kernel
theorem dX5_remove_47 : decode cX5_remove 47 = .ok (.isub, 1) := by decide +kernel
theorem dX5_remove_48 : decode cX5_remove 48 = .ok (.aload_n 0, 1) := by decide +kernel
theorem dX5_remove_49 : decode cX5_remove 49 = .ok (.getfield 9, 3) := by decide +kernel
theorem dX5_remove_52 : decode cX5_remove 52 = .ok (.iload_n 3, 1) := by decide +kernel
theorem dX5_remove_53 : decode cX5_remove 53 = .ok (.iaload, 1) := by decide +kernel
theorem dX5_remove_54 : decode cX5_remove 54 = .ok (.iastore, 1) := by decide +kernel
theorem dX5_remove_55 : decode cX5_remove 55 = .ok (.iinc 3 1, 3) := by decide +kernel
theorem dX5_remove_58 : decode cX5_remove 58 = .ok (.goto (-34), 3) := by decide +kernel
theorem dX5_remove_61 : decode cX5_remove 61 = .ok (.aload_n 0, 1) := by decide +kernel
theorem dX5_remove_62 : decode cX5_remove 62 = .ok (.dup, 1) := by decide +kernel
theorem dX5_remove_63 : decode cX5_remove 63 = .ok (.getfield 15, 3) := by decide +kernel
theorem dX5_remove_66 : decode cX5_remove 66 = .ok (.iconst 1, 1) := by decide +kernel
theorem dX5_remove_67 : decode cX5_remove 67 = .ok (.isub, 1) := by decide +kernel
theorem dX5_remove_68 : decode cX5_remove 68 = .ok (.putfield 15, 3) := by decide +kernel
theorem dX5_remove_71 : decode cX5_remove 71 = .ok (.iload_n 2, 1) := by decide +kernel
theorem dX5_remove_72 : decode cX5_remove 72 = .ok (.ireturn, 1) := by decide +kernel
set_option maxRecDepth 20000 in
theorem ggX6_init_X2_init : GoodIn wsX6_init wsX2_init := goodIn_r _ [25, 26, 2, 3, 27, 28, 29, 30, 31, 32, 33, 34, 35, 36, 37, 38, 39, 40, 41, 42, 43, 44, 45, 46, 47, 48, 49, 50, 51, 52, 53, 54, 55, 56, 102, 103, 104, 105, 106, 70, 71, 72, 73, 74, 75, 76, 77, 78, 79, 80, 81, 82, 83, 107, 108, 109, 110, 111] (by decide +kernel) (by decide +kernel)
set_option maxRecDepth 20000 in
theorem gX6_init_X2_init : GoodIn wsX6_init (wsX2_init) := ggX6_init_X2_init
set_option maxRecDepth 20000 in
theorem ggX6_init_X1_init : GoodIn wsX6_init wsX1_init := goodIn_r _ [59, 60, 2, 3, 61, 5, 6, 62, 63, 24, 25, 26, 27, 28, 29, 30, 31, 32, 33, 34, 35, 36, 37, 38, 39, 40, 41, 42, 43, 44, 45, 46, 47, 48, 49, 50, 51, 52, 53, 54, 55, 56, 70, 71, 72, 73, 74, 75, 76, 77, 78, 79, 80, 81, 82, 83, 94, 95, 102, 103, 104, 105, 106, 107, 108, 109, 110, 111] (by decide +kernel) (by decide +kernel)
set_option maxRecDepth 20000 in
theorem gX6_init_X1_init : GoodIn wsX6_init (wsX1_init) := ggX6_init_X1_init
set_option maxRecDepth 20000 in
theorem ggX6_init_X4_init : GoodIn wsX6_init wsX4_init := goodIn_r _ [66, 67, 2, 3, 68, 69, 96, 97, 98, 99, 100, 101] (by decide +kernel) (by decide +kernel)
set_option maxRecDepth 20000 in
theorem gX6_init_X4_init : GoodIn wsX6_init (wsX4_init) := ggX6_init_X4_init
theorem dX6_init_0 : decode cX6_init 0 = .ok (.aload_n 0, 1) := by decide +kernel
theorem dX6_init_1 : decode cX6_init 1 = .ok (.invokespecial 1, 3) := by decide +kernel
theorem dX6_init_4 : decode cX6_init 4 = .ok (.aload_n 0, 1) := by decide +kernel
theorem dX6_init_5 : decode cX6_init 5 = .ok (.new 7, 3) := by decide +kernel
theorem dX6_init_8 : decode cX6_init 8 = .ok (.dup, 1) := by decide +kernel
theorem dX6_init_9 : decode cX6_init 9 = .ok (.invokespecial 9, 3) := by decide +kernel
theorem dX6_init_12 : decode cX6_init 12 = .ok (.putfield 10, 3) := by decide +kernel
theorem dX6_init_15 : decode cX6_init 15 = .ok (.aload_n 0, 1) := by decide +kernel
theorem dX6_init_16 : decode cX6_init 16 = .ok (.new 7, 3) := by decide +kernel
theorem dX6_init_19 : decode cX6_init 19 = .ok (.dup, 1) := by decide +kernel
theorem dX6_init_20 : decode cX6_init 20 = .ok (.invokespecial 9, 3) := by decide +kernel
theorem dX6_init_23 : decode cX6_init 23 = .ok (.putfield 16, 3) := by decide +kernel
theorem dX6_init_26 : decode cX6_init 26 = .ok (.aload_n 0, 1) := by decide +kernel
theorem dX6_init_27 : decode cX6_init 27 = .ok (.new 7, 3) := by decide +kernel
theorem dX6_init_30 : decode cX6_init 30 = .ok (.dup, 1) := by decide +kernel
theorem dX6_init_31 : decode cX6_init 31 = .ok (.invokespecial 9, 3) := by decide +kernel
theorem dX6_init_34 : decode cX6_init 34 = .ok (.putfield 19, 3) := by decide +kernel
theorem dX6_init_37 : decode cX6_init 37 = .ok (.aload_n 0, 1) := by decide +kernel
theorem dX6_init_38 : decode cX6_init 38 = .ok (.new 7, 3) := by decide +kernel
theorem dX6_init_41 : decode cX6_init 41 = .ok (.dup, 1) := by decide +kernel
theorem dX6_init_42 : decode cX6_init 42 = .ok (.invokespecial 9, 3) := by decide +kernel
theorem dX6_init_45 : decode cX6_init 45 = .ok (.putfield 22, 3) := by decide +kernel
theorem dX6_init_48 : decode cX6_init 48 = .ok (.aload_n 0, 1) := by decide +kernel
theorem dX6_init_49 : decode cX6_init 49 = .ok (.new 7, 3) := by decide +kernel
theorem dX6_init_52 : decode cX6_init 52 = .ok (.dup, 1) := by decide +kernel
theorem dX6_init_53 : decode cX6_init 53 = .ok (.invokespecial 9, 3) := by decide +kernel
theorem dX6_init_56 : decode cX6_init 56 = .ok (.putfield 25, 3) := by decide +kernel
theorem dX6_init_59 : decode cX6_init 59 = .ok (.aload_n 0, 1) := by decide +kernel
theorem dX6_init_60 : decode cX6_init 60 = .ok (.new 28, 3) := by decide +kernel
theorem dX6_init_63 : decode cX6_init 63 = .ok (.dup, 1) := by decide +kernel
theorem dX6_init_64 : decode cX6_init 64 = .ok (.invokespecial 30, 3) := by decide +kernel
theorem dX6_init_67 : decode cX6_init 67 = .ok (.putfield 31, 3) := by decide +kernel
theorem dX6_init_70 : decode cX6_init 70 = .ok (.aload_n 0, 1) := by decide +kernel
theorem dX6_init_71 : decode cX6_init 71 = .ok (.new 35, 3) := by decide +kernel
theorem dX6_init_74 : decode cX6_init 74 = .ok (.dup, 1) := by decide +kernel
theorem dX6_init_75 : decode cX6_init 75 = .ok (.invokespecial 37, 3) := by decide +kernel
theorem dX6_init_78 : decode cX6_init 78 = .ok (.putfield 38, 3) := by decide +kernel
theorem dX6_init_81 : decode cX6_init 81 = .ok (.aload_n 0, 1) := by decide +kernel
theorem dX6_init_82 : decode cX6_init 82 = .ok (.iconst 0, 1) := by decide +kernel
theorem dX6_init_83 : decode cX6_init 83 = .ok (.putfield 42, 3) := by decide +kernel
theorem dX6_init_86 : decode cX6_init 86 = .ok (.aload_n 0, 1) := by decide +kernel
theorem dX6_init_87 : decode cX6_init 87 = .ok (.bipush (-5), 2) := by decide +kernel
theorem dX6_init_89 : decode cX6_init 89 = .ok (.putfield 46, 3) := by decide +kernel
theorem dX6_init_92 : decode cX6_init 92 = .ok (.aload_n 0, 1) := by decide +kernel
theorem dX6_init_93 : decode cX6_init 93 = .ok (.bipush (-5), 2) := by decide +kernel
theorem dX6_init_95 : decode cX6_init 95 = .ok (.putfield 50, 3) := by decide +kernel
theorem dX6_init_98 : decode cX6_init 98 = .ok (.return_, 1) := by decide +kernel
set_option maxRecDepth 20000 in
theorem ggX6_setFire_X2_copyFrom : GoodIn wsX6_setFire wsX2_copyFrom := goodIn_r _ [7, 8, 9, 10, 11, 12, 13, 14, 15, 16, 17, 18, 19, 20, 21, 22, 23, 24, 25, 26, 27, 28, 29, 30, 31, 32, 33, 34, 35, 36, 37, 38, 39, 40, 41, 42, 43, 44, 45, 46, 87, 88, 89, 90, 91, 92, 93, 94, 95, 96, 97, 98, 99, 100, 101, 102, 103, 104, 105, 106, 107, 108, 109, 110] (by decide +kernel) (by decide +kernel)
set_option maxRecDepth 20000 in
theorem gX6_setFire_X2_copyFrom : GoodIn wsX6_setFire (wsV RX6 53 RX2 yX2_copyFrom wsX2_copyFrom) := goodIn_app (goodIn_of _ (by decide +kernel)) ggX6_setFire_X2_copyFrom
set_option maxRecDepth 20000 in
theorem ggX6_setFire_X2_changeFire : GoodIn wsX6_setFire wsX2_changeFire := goodIn_r _ [50, 51, 52, 53, 54, 55, 6, 56, 8, 57, 58, 59, 101, 102, 103, 104, 105, 87, 88, 89, 90, 91, 92, 93, 94, 95, 96, 97, 98, 99, 100] (by decide +kernel) (by decide +kernel)
set_option maxRecDepth 20000 in
theorem gX6_setFire_X2_changeFire : GoodIn wsX6_setFire (wsV RX6 57 RX2 yX2_changeFire wsX2_changeFire) := goodIn_app (goodIn_of _ (by decide +kernel)) ggX6_setFire_X2_changeFire
set_option maxRecDepth 20000 in
theorem ggX6_setFire_X6_recorded : GoodIn wsX6_setFire wsX6_recorded := goodIn_r _ [63, 64, 1, 65, 66, 67, 68, 69, 70, 71, 72, 73, 74, 75, 76, 4, 5, 6, 7, 8, 9, 10, 11, 12, 13, 14, 15, 16, 17, 18, 19, 20, 21, 22, 23, 24, 25, 26, 27, 28, 29, 30, 31, 32, 33, 34, 35, 36, 37, 38, 39, 40, 41, 42, 43, 44, 45, 46, 77, 78, 79, 80, 81, 82, 83, 84, 85, 86, 111, 112, 87, 88, 89, 90, 91, 92, 93, 94, 95, 96, 97, 98, 99, 100, 101, 102, 103, 104, 105, 106, 107, 108, 109, 110] (by decide +kernel) (by decide +kernel)
set_option maxRecDepth 20000 in
theorem gX6_setFire_X6_recorded : GoodIn wsX6_setFire (wsV RX6 61 RX6 yX6_recorded wsX6_recorded) := goodIn_app (goodIn_of _ (by decide +kernel)) ggX6_setFire_X6_recorded
theorem dX6_setFire_0 : decode cX6_setFire 0 = .ok (.aload_n 0, 1) := by decide +kernel
theorem dX6_setFire_1 : decode cX6_setFire 1 = .ok (.getfield 16, 3) := by decide +kernel
theorem dX6_setFire_4 : decode cX6_setFire 4 = .ok (.aload_n 0, 1) := by decide +kernel
theorem dX6_setFire_5 : decode cX6_setFire 5 = .ok (.getfield 10, 3) := by decide +kernel
theorem dX6_setFire_8 : decode cX6_setFire 8 = .ok (.invokevirtual 53, 3) := by decide +kernel
theorem dX6_setFire_11 : decode cX6_setFire 11 = .ok (.aload_n 0, 1) := by decide +kernel
theorem dX6_setFire_12 : decode cX6_setFire 12 = .ok (.aload_n 0, 1) := by decide +kernel
theorem dX6_setFire_13 : decode cX6_setFire 13 = .ok (.getfield 10, 3) := by decide +kernel
theorem dX6_setFire_16 : decode cX6_setFire 16 = .ok (.iload_n 1, 1) := by decide +kernel
theorem dX6_setFire_17 : decode cX6_setFire 17 = .ok (.iload_n 2, 1) := by decide +kernel
theorem dX6_setFire_18 : decode cX6_setFire 18 = .ok (.invokevirtual 57, 3) := by decide +kernel
theorem dX6_setFire_21 : decode cX6_setFire 21 = .ok (.invokevirtual 61, 3) := by decide +kernel
theorem dX6_setFire_24 : decode cX6_setFire 24 = .ok (.ireturn, 1) := by decide +kernel
set_option maxRecDepth 20000 in
theorem ggX6_fill_X2_copyFrom : GoodIn wsX6_fill wsX2_copyFrom := goodIn_r _ [7, 8, 9, 10, 11, 12, 13, 14, 15, 16, 17, 18, 19, 20, 21, 22, 23, 24, 25, 26, 27, 28, 29, 30, 31, 32, 33, 34, 35, 36, 37, 38, 39, 40, 41, 42, 43, 44, 45, 46, 86, 87, 88, 89, 90, 91, 92, 93, 94, 95, 96, 97, 98, 99, 100, 101, 102, 103, 104, 105, 106, 107, 108, 109] (by decide +kernel) (by decide +kernel)
set_option maxRecDepth 20000 in
theorem gX6_fill_X2_copyFrom : GoodIn wsX6_fill (wsV RX6 53 RX2 yX2_copyFrom wsX2_copyFrom) := goodIn_app (goodIn_of _ (by decide +kernel)) ggX6_fill_X2_copyFrom
set_option maxRecDepth 20000 in
theorem ggX6_fill_X2_letWaterIn : GoodIn wsX6_fill wsX2_letWaterIn := goodIn_r _ [50, 51, 52, 53, 54, 6, 55, 8, 56, 57, 58, 100, 101, 102, 103, 104, 86, 87, 88, 89, 90, 91, 92, 93, 94, 95, 96, 97, 98, 99] (by decide +kernel) (by decide +kernel)
set_option maxRecDepth 20000 in
theorem gX6_fill_X2_letWaterIn : GoodIn wsX6_fill (wsV RX6 65 RX2 yX2_letWaterIn wsX2_letWaterIn) := goodIn_app (goodIn_of _ (by decide +kernel)) ggX6_fill_X2_letWaterIn
set_option maxRecDepth 20000 in
theorem ggX6_fill_X6_recorded : GoodIn wsX6_fill wsX6_recorded := goodIn_r _ [62, 63, 1, 64, 65, 66, 67, 68, 69, 70, 71, 72, 73, 74, 75, 4, 5, 6, 7, 8, 9, 10, 11, 12, 13, 14, 15, 16, 17, 18, 19, 20, 21, 22, 23, 24, 25, 26, 27, 28, 29, 30, 31, 32, 33, 34, 35, 36, 37, 38, 39, 40, 41, 42, 43, 44, 45, 46, 76, 77, 78, 79, 80, 81, 82, 83, 84, 85, 110, 111, 86, 87, 88, 89, 90, 91, 92, 93, 94, 95, 96, 97, 98, 99, 100, 101, 102, 103, 104, 105, 106, 107, 108, 109] (by decide +kernel) (by decide +kernel)
set_option maxRecDepth 20000 in
theorem gX6_fill_X6_recorded : GoodIn wsX6_fill (wsV RX6 61 RX6 yX6_recorded wsX6_recorded) := goodIn_app (goodIn_of _ (by decide +kernel)) ggX6_fill_X6_recorded
theorem dX6_fill_0 : decode cX6_fill 0 = .ok (.aload_n 0, 1) := by decide +kernel
theorem dX6_fill_1 : decode cX6_fill 1 = .ok (.getfield 16, 3) := by decide +kernel
theorem dX6_fill_4 : decode cX6_fill 4 = .ok (.aload_n 0, 1) := by decide +kernel
theorem dX6_fill_5 : decode cX6_fill 5 = .ok (.getfield 10, 3) := by decide +kernel
theorem dX6_fill_8 : decode cX6_fill 8 = .ok (.invokevirtual 53, 3) := by decide +kernel
theorem dX6_fill_11 : decode cX6_fill 11 = .ok (.aload_n 0, 1) := by decide +kernel
theorem dX6_fill_12 : decode cX6_fill 12 = .ok (.aload_n 0, 1) := by decide +kernel
theorem dX6_fill_13 : decode cX6_fill 13 = .ok (.getfield 10, 3) := by decide +kernel
theorem dX6_fill_16 : decode cX6_fill 16 = .ok (.iload_n 1, 1) := by decide +kernel
theorem dX6_fill_17 : decode cX6_fill 17 = .ok (.iload_n 2, 1) := by decide +kernel
theorem dX6_fill_18 : decode cX6_fill 18 = .ok (.invokevirtual 65, 3) := by decide +kernel
theorem dX6_fill_21 : decode cX6_fill 21 = .ok (.invokevirtual 61, 3) := by decide +kernel
theorem dX6_fill_24 : decode cX6_fill 24 = .ok (.ireturn, 1) := by decide +kernel
set_option maxRecDepth 20000 in
theorem ggX6_setRation_X2_copyFrom : GoodIn wsX6_setRation wsX2_copyFrom := goodIn_r _ [7, 8, 9, 10, 11, 12, 13, 14, 15, 16, 17, 18, 19, 20, 21, 22, 23, 24, 25, 26, 27, 28, 29, 30, 31, 32, 33, 34, 35, 36, 37, 38, 39, 40, 41, 42, 43, 44, 45, 46, 81, 82, 83, 84, 85, 86, 87, 88, 89, 90, 91, 92, 93, 94, 95, 96, 97, 98, 99, 100, 101, 102, 103, 104] (by decide +kernel) (by decide +kernel)
set_option maxRecDepth 20000 in
theorem gX6_setRation_X2_copyFrom : GoodIn wsX6_setRation (wsV RX6 53 RX2 yX2_copyFrom wsX2_copyFrom) := goodIn_app (goodIn_of _ (by decide +kernel)) ggX6_setRation_X2_copyFrom
set_option maxRecDepth 20000 in
theorem ggX6_setRation_X2_changeRation : GoodIn wsX6_setRation wsX2_changeRation := goodIn_r _ [50, 16, 51, 52, 53, 81, 82, 83, 84, 85, 86, 87, 88, 89, 90, 91, 92, 93, 94] (by decide +kernel) (by decide +kernel)
set_option maxRecDepth 20000 in
theorem gX6_setRation_X2_changeRation : GoodIn wsX6_setRation (wsV RX6 68 RX2 yX2_changeRation wsX2_changeRation) := goodIn_app (goodIn_of _ (by decide +kernel)) ggX6_setRation_X2_changeRation
set_option maxRecDepth 20000 in
theorem ggX6_setRation_X6_recorded : GoodIn wsX6_setRation wsX6_recorded := goodIn_r _ [57, 58, 1, 59, 60, 61, 62, 63, 64, 65, 66, 67, 68, 69, 70, 4, 5, 6, 7, 8, 9, 10, 11, 12, 13, 14, 15, 16, 17, 18, 19, 20, 21, 22, 23, 24, 25, 26, 27, 28, 29, 30, 31, 32, 33, 34, 35, 36, 37, 38, 39, 40, 41, 42, 43, 44, 45, 46, 71, 72, 73, 74, 75, 76, 77, 78, 79, 80, 105, 106, 81, 82, 83, 84, 85, 86, 87, 88, 89, 90, 91, 92, 93, 94, 95, 96, 97, 98, 99, 100, 101, 102, 103, 104] (by decide +kernel) (by decide +kernel)
set_option maxRecDepth 20000 in
theorem gX6_setRation_X6_recorded : GoodIn wsX6_setRation (wsV RX6 61 RX6 yX6_recorded wsX6_recorded) := goodIn_app (goodIn_of _ (by decide +kernel)) ggX6_setRation_X6_recorded
theorem dX6_setRation_0 : decode cX6_setRation 0 = .ok (.aload_n 0, 1) := by decide +kernel
theorem dX6_setRation_1 : decode cX6_setRation 1 = .ok (.getfield 16, 3) := by decide +kernel
theorem dX6_setRation_4 : decode cX6_setRation 4 = .ok (.aload_n 0, 1) := by decide +kernel
theorem dX6_setRation_5 : decode cX6_setRation 5 = .ok (.getfield 10, 3) := by decide +kernel
theorem dX6_setRation_8 : decode cX6_setRation 8 = .ok (.invokevirtual 53, 3) := by decide +kernel
theorem dX6_setRation_11 : decode cX6_setRation 11 = .ok (.aload_n 0, 1) := by decide +kernel
theorem dX6_setRation_12 : decode cX6_setRation 12 = .ok (.aload_n 0, 1) := by decide +kernel
theorem dX6_setRation_13 : decode cX6_setRation 13 = .ok (.getfield 10, 3) := by decide +kernel
theorem dX6_setRation_16 : decode cX6_setRation 16 = .ok (.iload_n 1, 1) := by decide +kernel
theorem dX6_setRation_17 : decode cX6_setRation 17 = .ok (.invokevirtual 68, 3) := by decide +kernel
theorem dX6_setRation_20 : decode cX6_setRation 20 = .ok (.invokevirtual 61, 3) := by decide +kernel
theorem dX6_setRation_23 : decode cX6_setRation 23 = .ok (.ireturn, 1) := by decide +kernel
set_option maxRecDepth 20000 in
theorem ggX6_start_X2_copyFrom : GoodIn wsX6_start wsX2_copyFrom := goodIn_r _ [8, 9, 10, 11, 12, 13, 14, 15, 16, 17, 18, 19, 20, 21, 22, 23, 24, 25, 26, 27, 28, 29, 30, 31, 32, 33, 34, 35, 36, 37, 38, 39, 40, 41, 42, 43, 44, 45, 46, 47, 157, 158, 159, 160, 161, 162, 163, 164, 165, 166, 167, 168, 169, 170, 171, 172, 173, 174, 175, 176, 177, 178, 179, 180] (by decide +kernel) (by decide +kernel)
set_option maxRecDepth 20000 in
theorem gX6_start_X2_copyFrom : GoodIn wsX6_start (wsV RX6 53 RX2 yX2_copyFrom wsX2_copyFrom) := goodIn_app (goodIn_of _ (by decide +kernel)) ggX6_start_X2_copyFrom
set_option maxRecDepth 20000 in
theorem ggX6_start_X2_startLoad : GoodIn wsX6_start wsX2_startLoad := goodIn_r _ [51, 19, 52, 53, 54, 55, 7, 56, 10, 57, 58, 59, 60, 61, 62, 36, 63, 38, 64, 65, 66, 67, 68, 69, 70, 71, 72, 73, 74, 75, 9, 76, 77, 5, 6, 8, 11, 12, 13, 14, 15, 16, 17, 18, 20, 21, 22, 23, 24, 25, 26, 27, 28, 29, 30, 31, 32, 33, 34, 35, 37, 39, 40, 41, 42, 43, 44, 45, 46, 47, 78, 79, 80, 81, 82, 83, 84, 85, 86, 87, 88, 89, 90, 91, 92, 93, 94, 95, 96, 97, 98, 99, 100, 101, 102, 103, 104, 105, 106, 107, 108, 109, 110, 111, 112, 113, 114, 115, 116, 117, 118, 119, 120, 121, 122, 123, 124, 125, 126, 127, 128, 129, 157, 158, 159, 160, 161, 162, 163, 164, 165, 166, 167, 168, 169, 170, 176, 177, 178, 171, 172, 173, 174, 175, 179, 180] (by decide +kernel) (by decide +kernel)
set_option maxRecDepth 20000 in
theorem gX6_start_X2_startLoad : GoodIn wsX6_start (wsV RX6 71 RX2 yX2_startLoad wsX2_startLoad) := goodIn_app (goodIn_of _ (by decide +kernel)) ggX6_start_X2_startLoad
set_option maxRecDepth 20000 in
theorem ggX6_start_X6_recorded : GoodIn wsX6_start wsX6_recorded := goodIn_r _ [133, 134, 1, 135, 136, 137, 138, 139, 140, 141, 142, 143, 144, 145, 146, 5, 6, 7, 8, 9, 10, 11, 12, 13, 14, 15, 16, 17, 18, 19, 20, 21, 22, 23, 24, 25, 26, 27, 28, 29, 30, 31, 32, 33, 34, 35, 36, 37, 38, 39, 40, 41, 42, 43, 44, 45, 46, 47, 147, 148, 149, 150, 151, 152, 153, 154, 155, 156, 181, 182, 157, 158, 159, 160, 161, 162, 163, 164, 165, 166, 167, 168, 169, 170, 171, 172, 173, 174, 175, 176, 177, 178, 179, 180] (by decide +kernel) (by decide +kernel)
set_option maxRecDepth 20000 in
theorem gX6_start_X6_recorded : GoodIn wsX6_start (wsV RX6 61 RX6 yX6_recorded wsX6_recorded) := goodIn_app (goodIn_of _ (by decide +kernel)) ggX6_start_X6_recorded
theorem dX6_start_0 : decode cX6_start 0 = .ok (.aload_n 0, 1) := by decide +kernel
theorem dX6_start_1 : decode cX6_start 1 = .ok (.getfield 16, 3) := by decide +kernel
theorem dX6_start_4 : decode cX6_start 4 = .ok (.aload_n 0, 1) := by decide +kernel
theorem dX6_start_5 : decode cX6_start 5 = .ok (.getfield 10, 3) := by decide +kernel
theorem dX6_start_8 : decode cX6_start 8 = .ok (.invokevirtual 53, 3) := by decide +kernel
theorem dX6_start_11 : decode cX6_start 11 = .ok (.aload_n 0, 1) := by decide +kernel
theorem dX6_start_12 : decode cX6_start 12 = .ok (.aload_n 0, 1) := by decide +kernel
theorem dX6_start_13 : decode cX6_start 13 = .ok (.getfield 10, 3) := by decide +kernel
theorem dX6_start_16 : decode cX6_start 16 = .ok (.iload_n 1, 1) := by decide +kernel
theorem dX6_start_17 : decode cX6_start 17 = .ok (.iload_n 2, 1) := by decide +kernel
theorem dX6_start_18 : decode cX6_start 18 = .ok (.aload_n 0, 1) := by decide +kernel
theorem dX6_start_19 : decode cX6_start 19 = .ok (.getfield 22, 3) := by decide +kernel
theorem dX6_start_22 : decode cX6_start 22 = .ok (.invokevirtual 71, 3) := by decide +kernel
theorem dX6_start_25 : decode cX6_start 25 = .ok (.invokevirtual 61, 3) := by decide +kernel
theorem dX6_start_28 : decode cX6_start 28 = .ok (.ireturn, 1) := by decide +kernel
set_option maxRecDepth 20000 in
theorem ggX6_queue_X2_copyFrom : GoodIn wsX6_queue wsX2_copyFrom := goodIn_r _ [7, 8, 9, 10, 11, 12, 13, 14, 15, 16, 17, 18, 19, 20, 21, 22, 23, 24, 25, 26, 27, 28, 29, 30, 31, 32, 33, 34, 35, 36, 37, 38, 39, 40, 41, 42, 43, 44, 45, 46, 85, 86, 87, 88, 89, 90, 91, 92, 93, 94, 95, 96, 97, 98, 99, 100, 101, 102, 103, 104, 105, 106, 107, 108] (by decide +kernel) (by decide +kernel)
set_option maxRecDepth 20000 in
theorem gX6_queue_X2_copyFrom : GoodIn wsX6_queue (wsV RX6 53 RX2 yX2_copyFrom wsX2_copyFrom) := goodIn_app (goodIn_of _ (by decide +kernel)) ggX6_queue_X2_copyFrom
set_option maxRecDepth 20000 in
theorem ggX6_queue_X2_addToLine : GoodIn wsX6_queue wsX2_addToLine := goodIn_r _ [50, 10, 51, 52, 53, 54, 55, 56, 43, 57, 45, 46, 85, 86, 87, 88, 89, 90, 91, 92, 93, 94, 95, 96, 97, 98, 107, 108] (by decide +kernel) (by decide +kernel)
set_option maxRecDepth 20000 in
theorem gX6_queue_X2_addToLine : GoodIn wsX6_queue (wsV RX6 75 RX2 yX2_addToLine wsX2_addToLine) := goodIn_app (goodIn_of _ (by decide +kernel)) ggX6_queue_X2_addToLine
set_option maxRecDepth 20000 in
theorem ggX6_queue_X6_recorded : GoodIn wsX6_queue wsX6_recorded := goodIn_r _ [61, 62, 1, 63, 64, 65, 66, 67, 68, 69, 70, 71, 72, 73, 74, 4, 5, 6, 7, 8, 9, 10, 11, 12, 13, 14, 15, 16, 17, 18, 19, 20, 21, 22, 23, 24, 25, 26, 27, 28, 29, 30, 31, 32, 33, 34, 35, 36, 37, 38, 39, 40, 41, 42, 43, 44, 45, 46, 75, 76, 77, 78, 79, 80, 81, 82, 83, 84, 109, 110, 85, 86, 87, 88, 89, 90, 91, 92, 93, 94, 95, 96, 97, 98, 99, 100, 101, 102, 103, 104, 105, 106, 107, 108] (by decide +kernel) (by decide +kernel)
set_option maxRecDepth 20000 in
theorem gX6_queue_X6_recorded : GoodIn wsX6_queue (wsV RX6 61 RX6 yX6_recorded wsX6_recorded) := goodIn_app (goodIn_of _ (by decide +kernel)) ggX6_queue_X6_recorded
theorem dX6_queue_0 : decode cX6_queue 0 = .ok (.aload_n 0, 1) := by decide +kernel
theorem dX6_queue_1 : decode cX6_queue 1 = .ok (.getfield 16, 3) := by decide +kernel
theorem dX6_queue_4 : decode cX6_queue 4 = .ok (.aload_n 0, 1) := by decide +kernel
theorem dX6_queue_5 : decode cX6_queue 5 = .ok (.getfield 10, 3) := by decide +kernel
theorem dX6_queue_8 : decode cX6_queue 8 = .ok (.invokevirtual 53, 3) := by decide +kernel
theorem dX6_queue_11 : decode cX6_queue 11 = .ok (.aload_n 0, 1) := by decide +kernel
theorem dX6_queue_12 : decode cX6_queue 12 = .ok (.aload_n 0, 1) := by decide +kernel
theorem dX6_queue_13 : decode cX6_queue 13 = .ok (.getfield 10, 3) := by decide +kernel
theorem dX6_queue_16 : decode cX6_queue 16 = .ok (.iload_n 1, 1) := by decide +kernel
theorem dX6_queue_17 : decode cX6_queue 17 = .ok (.invokevirtual 75, 3) := by decide +kernel
theorem dX6_queue_20 : decode cX6_queue 20 = .ok (.invokevirtual 61, 3) := by decide +kernel
theorem dX6_queue_23 : decode cX6_queue 23 = .ok (.ireturn, 1) := by decide +kernel
set_option maxRecDepth 20000 in
theorem ggX6_unqueue_X2_copyFrom : GoodIn wsX6_unqueue wsX2_copyFrom := goodIn_r _ [7, 8, 9, 10, 11, 12, 13, 14, 15, 16, 17, 18, 19, 20, 21, 22, 23, 24, 25, 26, 27, 28, 29, 30, 31, 32, 33, 34, 35, 36, 37, 38, 39, 40, 41, 42, 43, 44, 45, 46, 87, 88, 89, 90, 91, 92, 93, 94, 95, 96, 97, 98, 99, 100, 101, 102, 103, 104, 105, 106, 107, 108, 109, 110] (by decide +kernel) (by decide +kernel)
set_option maxRecDepth 20000 in
theorem gX6_unqueue_X2_copyFrom : GoodIn wsX6_unqueue (wsV RX6 53 RX2 yX2_copyFrom wsX2_copyFrom) := goodIn_app (goodIn_of _ (by decide +kernel)) ggX6_unqueue_X2_copyFrom
set_option maxRecDepth 20000 in
theorem ggX6_unqueue_X2_removeFromLine : GoodIn wsX6_unqueue wsX2_removeFromLine := goodIn_r _ [50, 10, 51, 52, 53, 43, 54, 45, 46, 55, 56, 57, 58, 87, 88, 89, 90, 91, 92, 93, 94, 95, 96, 97, 98, 99, 100, 109, 110] (by decide +kernel) (by decide +kernel)
set_option maxRecDepth 20000 in
theorem gX6_unqueue_X2_removeFromLine : GoodIn wsX6_unqueue (wsV RX6 78 RX2 yX2_removeFromLine wsX2_removeFromLine) := goodIn_app (goodIn_of _ (by decide +kernel)) ggX6_unqueue_X2_removeFromLine
set_option maxRecDepth 20000 in
theorem ggX6_unqueue_X6_recorded : GoodIn wsX6_unqueue wsX6_recorded := goodIn_r _ [63, 64, 1, 65, 66, 67, 68, 69, 70, 71, 72, 73, 74, 75, 76, 4, 5, 6, 7, 8, 9, 10, 11, 12, 13, 14, 15, 16, 17, 18, 19, 20, 21, 22, 23, 24, 25, 26, 27, 28, 29, 30, 31, 32, 33, 34, 35, 36, 37, 38, 39, 40, 41, 42, 43, 44, 45, 46, 77, 78, 79, 80, 81, 82, 83, 84, 85, 86, 111, 112, 87, 88, 89, 90, 91, 92, 93, 94, 95, 96, 97, 98, 99, 100, 101, 102, 103, 104, 105, 106, 107, 108, 109, 110] (by decide +kernel) (by decide +kernel)
set_option maxRecDepth 20000 in
theorem gX6_unqueue_X6_recorded : GoodIn wsX6_unqueue (wsV RX6 61 RX6 yX6_recorded wsX6_recorded) := goodIn_app (goodIn_of _ (by decide +kernel)) ggX6_unqueue_X6_recorded
theorem dX6_unqueue_0 : decode cX6_unqueue 0 = .ok (.aload_n 0, 1) := by decide +kernel
theorem dX6_unqueue_1 : decode cX6_unqueue 1 = .ok (.getfield 16, 3) := by decide +kernel
theorem dX6_unqueue_4 : decode cX6_unqueue 4 = .ok (.aload_n 0, 1) := by decide +kernel
theorem dX6_unqueue_5 : decode cX6_unqueue 5 = .ok (.getfield 10, 3) := by decide +kernel
theorem dX6_unqueue_8 : decode cX6_unqueue 8 = .ok (.invokevirtual 53, 3) := by decide +kernel
theorem dX6_unqueue_11 : decode cX6_unqueue 11 = .ok (.aload_n 0, 1) := by decide +kernel
theorem dX6_unqueue_12 : decode cX6_unqueue 12 = .ok (.aload_n 0, 1) := by decide +kernel
theorem dX6_unqueue_13 : decode cX6_unqueue 13 = .ok (.getfield 10, 3) := by decide +kernel
theorem dX6_unqueue_16 : decode cX6_unqueue 16 = .ok (.iload_n 1, 1) := by decide +kernel
theorem dX6_unqueue_17 : decode cX6_unqueue 17 = .ok (.invokevirtual 78, 3) := by decide +kernel
theorem dX6_unqueue_20 : decode cX6_unqueue 20 = .ok (.invokevirtual 61, 3) := by decide +kernel
theorem dX6_unqueue_23 : decode cX6_unqueue 23 = .ok (.ireturn, 1) := by decide +kernel
set_option maxRecDepth 20000 in
theorem ggX6_takeOut_X2_copyFrom : GoodIn wsX6_takeOut wsX2_copyFrom := goodIn_r _ [7, 8, 9, 10, 11, 12, 13, 14, 15, 16, 17, 18, 19, 20, 21, 22, 23, 24, 25, 26, 27, 28, 29, 30, 31, 32, 33, 34, 35, 36, 37, 38, 39, 40, 41, 42, 43, 44, 45, 46, 92, 93, 94, 95, 96, 97, 98, 99, 100, 101, 102, 103, 104, 105, 106, 107, 108, 109, 110, 111, 112, 113, 114, 115] (by decide +kernel) (by decide +kernel)
set_option maxRecDepth 20000 in
theorem gX6_takeOut_X2_copyFrom : GoodIn wsX6_takeOut (wsV RX6 53 RX2 yX2_copyFrom wsX2_copyFrom) := goodIn_app (goodIn_of _ (by decide +kernel)) ggX6_takeOut_X2_copyFrom
set_option maxRecDepth 20000 in
theorem ggX6_takeOut_X2_unload : GoodIn wsX6_takeOut wsX2_unload := goodIn_r _ [50, 51, 19, 52, 53, 54, 6, 55, 9, 56, 57, 58, 35, 59, 37, 60, 61, 62, 63, 38, 39, 111, 112, 113, 92, 93, 94, 95, 96, 97, 98, 99, 100, 101, 102, 103, 104, 105] (by decide +kernel) (by decide +kernel)
set_option maxRecDepth 20000 in
theorem gX6_takeOut_X2_unload : GoodIn wsX6_takeOut (wsV RX6 81 RX2 yX2_unload wsX2_unload) := goodIn_app (goodIn_of _ (by decide +kernel)) ggX6_takeOut_X2_unload
set_option maxRecDepth 20000 in
theorem ggX6_takeOut_X6_recorded : GoodIn wsX6_takeOut wsX6_recorded := goodIn_r _ [68, 69, 1, 70, 71, 72, 73, 74, 75, 76, 77, 78, 79, 80, 81, 4, 5, 6, 7, 8, 9, 10, 11, 12, 13, 14, 15, 16, 17, 18, 19, 20, 21, 22, 23, 24, 25, 26, 27, 28, 29, 30, 31, 32, 33, 34, 35, 36, 37, 38, 39, 40, 41, 42, 43, 44, 45, 46, 82, 83, 84, 85, 86, 87, 88, 89, 90, 91, 116, 117, 92, 93, 94, 95, 96, 97, 98, 99, 100, 101, 102, 103, 104, 105, 106, 107, 108, 109, 110, 111, 112, 113, 114, 115] (by decide +kernel) (by decide +kernel)
set_option maxRecDepth 20000 in
theorem gX6_takeOut_X6_recorded : GoodIn wsX6_takeOut (wsV RX6 61 RX6 yX6_recorded wsX6_recorded) := goodIn_app (goodIn_of _ (by decide +kernel)) ggX6_takeOut_X6_recorded
theorem dX6_takeOut_0 : decode cX6_takeOut 0 = .ok (.aload_n 0, 1) := by decide +kernel
theorem dX6_takeOut_1 : decode cX6_takeOut 1 = .ok (.getfield 16, 3) := by decide +kernel
theorem dX6_takeOut_4 : decode cX6_takeOut 4 = .ok (.aload_n 0, 1) := by decide +kernel
theorem dX6_takeOut_5 : decode cX6_takeOut 5 = .ok (.getfield 10, 3) := by decide +kernel
theorem dX6_takeOut_8 : decode cX6_takeOut 8 = .ok (.invokevirtual 53, 3) := by decide +kernel
theorem dX6_takeOut_11 : decode cX6_takeOut 11 = .ok (.aload_n 0, 1) := by decide +kernel
theorem dX6_takeOut_12 : decode cX6_takeOut 12 = .ok (.aload_n 0, 1) := by decide +kernel
theorem dX6_takeOut_13 : decode cX6_takeOut 13 = .ok (.getfield 10, 3) := by decide +kernel
theorem dX6_takeOut_16 : decode cX6_takeOut 16 = .ok (.iload_n 1, 1) := by decide +kernel
theorem dX6_takeOut_17 : decode cX6_takeOut 17 = .ok (.invokevirtual 81, 3) := by decide +kernel
theorem dX6_takeOut_20 : decode cX6_takeOut 20 = .ok (.invokevirtual 61, 3) := by decide +kernel
theorem dX6_takeOut_23 : decode cX6_takeOut 23 = .ok (.ireturn, 1) := by decide +kernel
set_option maxRecDepth 20000 in
theorem ggX6_run_X2_copyFrom : GoodIn wsX6_run wsX2_copyFrom := goodIn_r _ [8, 9, 10, 11, 12, 13, 14, 15, 16, 17, 18, 19, 20, 21, 22, 23, 24, 25, 26, 27, 28, 29, 30, 31, 32, 33, 34, 35, 36, 37, 38, 39, 40, 41, 42, 43, 44, 45, 46, 47, 167, 168, 169, 170, 171, 172, 173, 174, 175, 176, 177, 178, 179, 180, 181, 182, 183, 184, 185, 186, 187, 188, 189, 190] (by decide +kernel) (by decide +kernel)
set_option maxRecDepth 20000 in
theorem gX6_run_X2_copyFrom : GoodIn wsX6_run (wsV RX6 53 RX2 yX2_copyFrom wsX2_copyFrom) := goodIn_app (goodIn_of _ (by decide +kernel)) ggX6_run_X2_copyFrom
set_option maxRecDepth 20000 in
theorem ggX6_run_X2_letPass : GoodIn wsX6_run wsX2_letPass := goodIn_r _ [51, 12, 52, 13, 53, 54, 55, 56, 57, 58, 7, 59, 11, 19, 60, 61, 62, 63, 9, 16, 15, 64, 65, 66, 67, 17, 68, 69, 70, 71, 18, 72, 73, 74, 26, 75, 31, 28, 29, 30, 76, 77, 78, 79, 10, 80, 81, 82, 83, 84, 85, 86, 87, 88, 89, 90, 91, 22, 92, 14, 93, 94, 95, 36, 96, 38, 97, 98, 99, 100, 39, 40, 101, 102, 103, 104, 105, 106, 107, 108, 109, 21, 110, 111, 112, 113, 114, 115, 32, 116, 117, 118, 44, 119, 46, 47, 120, 121, 122, 123, 124, 125, 126, 127, 128, 5, 6, 8, 20, 23, 24, 25, 27, 33, 34, 35, 37, 41, 42, 43, 45, 129, 130, 131, 132, 133, 134, 135, 136, 137, 138, 139, 167, 168, 169, 170, 171, 172, 173, 174, 175, 176, 177, 178, 179, 180, 181, 182, 183, 184, 185, 186, 187, 188, 189, 190] (by decide +kernel) (by decide +kernel)
set_option maxRecDepth 20000 in
theorem gX6_run_X2_letPass : GoodIn wsX6_run (wsV RX6 84 RX2 yX2_letPass wsX2_letPass) := goodIn_app (goodIn_of _ (by decide +kernel)) ggX6_run_X2_letPass
set_option maxRecDepth 20000 in
theorem ggX6_run_X6_recorded : GoodIn wsX6_run wsX6_recorded := goodIn_r _ [143, 144, 1, 145, 146, 147, 148, 149, 150, 151, 152, 153, 154, 155, 156, 5, 6, 7, 8, 9, 10, 11, 12, 13, 14, 15, 16, 17, 18, 19, 20, 21, 22, 23, 24, 25, 26, 27, 28, 29, 30, 31, 32, 33, 34, 35, 36, 37, 38, 39, 40, 41, 42, 43, 44, 45, 46, 47, 157, 158, 159, 160, 161, 162, 163, 164, 165, 166, 191, 192, 167, 168, 169, 170, 171, 172, 173, 174, 175, 176, 177, 178, 179, 180, 181, 182, 183, 184, 185, 186, 187, 188, 189, 190] (by decide +kernel) (by decide +kernel)
set_option maxRecDepth 20000 in
theorem gX6_run_X6_recorded : GoodIn wsX6_run (wsV RX6 61 RX6 yX6_recorded wsX6_recorded) := goodIn_app (goodIn_of _ (by decide +kernel)) ggX6_run_X6_recorded
theorem dX6_run_0 : decode cX6_run 0 = .ok (.aload_n 0, 1) := by decide +kernel
theorem dX6_run_1 : decode cX6_run 1 = .ok (.getfield 16, 3) := by decide +kernel
theorem dX6_run_4 : decode cX6_run 4 = .ok (.aload_n 0, 1) := by decide +kernel
theorem dX6_run_5 : decode cX6_run 5 = .ok (.getfield 10, 3) := by decide +kernel
theorem dX6_run_8 : decode cX6_run 8 = .ok (.invokevirtual 53, 3) := by decide +kernel
theorem dX6_run_11 : decode cX6_run 11 = .ok (.aload_n 0, 1) := by decide +kernel
theorem dX6_run_12 : decode cX6_run 12 = .ok (.aload_n 0, 1) := by decide +kernel
theorem dX6_run_13 : decode cX6_run 13 = .ok (.getfield 10, 3) := by decide +kernel
theorem dX6_run_16 : decode cX6_run 16 = .ok (.iload_n 1, 1) := by decide +kernel
theorem dX6_run_17 : decode cX6_run 17 = .ok (.aload_n 0, 1) := by decide +kernel
theorem dX6_run_18 : decode cX6_run 18 = .ok (.getfield 22, 3) := by decide +kernel
theorem dX6_run_21 : decode cX6_run 21 = .ok (.invokevirtual 84, 3) := by decide +kernel
theorem dX6_run_24 : decode cX6_run 24 = .ok (.invokevirtual 61, 3) := by decide +kernel
theorem dX6_run_27 : decode cX6_run 27 = .ok (.ireturn, 1) := by decide +kernel
set_option maxRecDepth 20000 in
theorem ggX6_type_X4_add : GoodIn wsX6_type wsX4_add := goodIn_r _ [6, 7, 8, 19, 20, 21, 22, 23, 24] (by decide +kernel) (by decide +kernel)
set_option maxRecDepth 20000 in
theorem gX6_type_X4_add : GoodIn wsX6_type (wsV RX6 88 RX4 yX4_add wsX4_add) := goodIn_app (goodIn_of _ (by decide +kernel)) ggX6_type_X4_add
theorem dX6_type_0 : decode cX6_type 0 = .ok (.aload_n 0, 1) := by decide +kernel
theorem dX6_type_1 : decode cX6_type 1 = .ok (.getfield 38, 3) := by decide +kernel
theorem dX6_type_4 : decode cX6_type 4 = .ok (.iload_n 1, 1) := by decide +kernel
theorem dX6_type_5 : decode cX6_type 5 = .ok (.invokevirtual 88, 3) := by decide +kernel
theorem dX6_type_8 : decode cX6_type 8 = .ok (.ireturn, 1) := by decide +kernel
set_option maxRecDepth 20000 in
theorem ggX6_clearText_X4_empty : GoodIn wsX6_clearText wsX4_empty := goodIn_r _ [6, 7, 18, 19, 20, 21, 22, 23] (by decide +kernel) (by decide +kernel)
set_option maxRecDepth 20000 in
theorem gX6_clearText_X4_empty : GoodIn wsX6_clearText (wsV RX6 92 RX4 yX4_empty wsX4_empty) := goodIn_app (goodIn_of _ (by decide +kernel)) ggX6_clearText_X4_empty
theorem dX6_clearText_0 : decode cX6_clearText 0 = .ok (.aload_n 0, 1) := by decide +kernel
theorem dX6_clearText_1 : decode cX6_clearText 1 = .ok (.getfield 38, 3) := by decide +kernel
theorem dX6_clearText_4 : decode cX6_clearText 4 = .ok (.invokevirtual 92, 3) := by decide +kernel
theorem dX6_clearText_7 : decode cX6_clearText 7 = .ok (.ireturn, 1) := by decide +kernel
set_option maxRecDepth 20000 in
theorem ggX6_perform_X4_countOrders : GoodIn wsX6_perform wsX4_countOrders := goodIn_r _ [10, 11, 12, 13, 14, 15, 9, 16, 17, 18, 19, 20, 21, 22, 23, 24, 25, 26, 27, 28, 29, 30, 31, 32, 33, 34, 35, 36, 37, 38, 39, 40, 41, 42, 43, 44, 45, 46, 47, 252, 253, 254, 255, 256, 257] (by decide +kernel) (by decide +kernel)
set_option maxRecDepth 20000 in
theorem gX6_perform_X4_countOrders : GoodIn wsX6_perform (wsV RX6 96 RX4 yX4_countOrders wsX4_countOrders) := goodIn_app (goodIn_of _ (by decide +kernel)) ggX6_perform_X4_countOrders
set_option maxRecDepth 20000 in
theorem ggX6_perform_X2_copyFrom : GoodIn wsX6_perform wsX2_copyFrom := goodIn_r _ [52, 53, 54, 55, 56, 57, 58, 59, 60, 61, 62, 63, 64, 65, 66, 67, 68, 69, 70, 71, 72, 73, 74, 75, 76, 77, 78, 79, 80, 81, 82, 83, 84, 85, 86, 87, 88, 89, 90, 91, 258, 259, 260, 261, 262, 263, 264, 265, 266, 267, 268, 269, 270, 271, 272, 273, 274, 275, 276, 277, 278, 279, 280, 281] (by decide +kernel) (by decide +kernel)
set_option maxRecDepth 20000 in
theorem gX6_perform_X2_copyFrom : GoodIn wsX6_perform (wsV RX6 53 RX2 yX2_copyFrom wsX2_copyFrom) := goodIn_app (goodIn_of _ (by decide +kernel)) ggX6_perform_X2_copyFrom
set_option maxRecDepth 20000 in
theorem ggX6_perform_X4_rewind : GoodIn wsX6_perform wsX4_rewind := goodIn_r _ [16, 11, 252, 253, 254, 255, 256, 257] (by decide +kernel) (by decide +kernel)
set_option maxRecDepth 20000 in
theorem gX6_perform_X4_rewind : GoodIn wsX6_perform (wsV RX6 99 RX4 yX4_rewind wsX4_rewind) := goodIn_app (goodIn_of _ (by decide +kernel)) ggX6_perform_X4_rewind
set_option maxRecDepth 20000 in
theorem ggX6_perform_X6_obeyNextOrder : GoodIn wsX6_perform wsX6_obeyNextOrder := goodIn_r _ [96, 1, 97, 3, 98, 99, 100, 101, 102, 103, 9, 104, 27, 28, 29, 30, 11, 22, 23, 24, 25, 12, 26, 17, 18, 19, 20, 21, 31, 32, 33, 34, 35, 36, 37, 38, 39, 40, 41, 42, 43, 44, 45, 46, 47, 105, 106, 107, 51, 108, 109, 110, 111, 112, 113, 114, 53, 115, 116, 117, 118, 119, 120, 121, 122, 123, 63, 124, 125, 126, 127, 128, 54, 129, 130, 131, 80, 132, 82, 133, 134, 135, 136, 137, 138, 139, 140, 141, 142, 143, 144, 145, 146, 49, 50, 52, 55, 56, 57, 58, 59, 60, 61, 62, 64, 65, 66, 67, 68, 69, 70, 71, 72, 73, 74, 75, 76, 77, 78, 79, 81, 83, 84, 85, 86, 87, 88, 89, 90, 91, 147, 148, 149, 150, 151, 152, 153, 154, 155, 156, 157, 158, 159, 160, 161, 162, 163, 164, 165, 166, 167, 168, 169, 170, 171, 172, 173, 174, 175, 176, 177, 178, 179, 180, 181, 182, 183, 184, 185, 186, 187, 188, 189, 190, 191, 192, 193, 194, 195, 196, 197, 198, 199, 200, 201, 202, 203, 204, 205, 206, 207, 208, 209, 210, 211, 212, 213, 214, 215, 216, 217, 218, 219, 220, 221, 222, 223, 224, 242, 243, 244, 245, 246, 247, 248, 249, 250, 251, 252, 253, 254, 255, 256, 257, 272, 273, 274, 275, 276, 258, 259, 260, 261, 262, 263, 264, 265, 266, 267, 268, 269, 270, 271, 277, 278, 279, 280, 281] (by decide +kernel) (by decide +kernel)
set_option maxRecDepth 20000 in
theorem gX6_perform_X6_obeyNextOrder : GoodIn wsX6_perform (wsV RX6 102 RX6 yX6_obeyNextOrder wsX6_obeyNextOrder) := goodIn_app (goodIn_of _ (by decide +kernel)) ggX6_perform_X6_obeyNextOrder
set_option maxRecDepth 20000 in
theorem ggX6_perform_X6_recorded : GoodIn wsX6_perform wsX6_recorded := goodIn_r _ [228, 229, 2, 230, 231, 232, 233, 234, 235, 236, 237, 238, 239, 240, 241, 49, 50, 51, 52, 53, 54, 55, 56, 57, 58, 59, 60, 61, 62, 63, 64, 65, 66, 67, 68, 69, 70, 71, 72, 73, 74, 75, 76, 77, 78, 79, 80, 81, 82, 83, 84, 85, 86, 87, 88, 89, 90, 91, 242, 243, 244, 245, 246, 247, 248, 249, 250, 251, 282, 283, 258, 259, 260, 261, 262, 263, 264, 265, 266, 267, 268, 269, 270, 271, 272, 273, 274, 275, 276, 277, 278, 279, 280, 281] (by decide +kernel) (by decide +kernel)
set_option maxRecDepth 20000 in
theorem gX6_perform_X6_recorded : GoodIn wsX6_perform (wsV RX6 61 RX6 yX6_recorded wsX6_recorded) := goodIn_app (goodIn_of _ (by decide +kernel)) ggX6_perform_X6_recorded
theorem dX6_perform_0 : decode cX6_perform 0 = .ok (.aload_n 0, 1) := by decide +kernel
theorem dX6_perform_1 : decode cX6_perform 1 = .ok (.getfield 38, 3) := by decide +kernel
theorem dX6_perform_4 : decode cX6_perform 4 = .ok (.invokevirtual 96, 3) := by decide +kernel
theorem dX6_perform_7 : decode cX6_perform 7 = .ok (.istore_n 1, 1) := by decide +kernel
theorem dX6_perform_8 : decode cX6_perform 8 = .ok (.iload_n 1, 1) := by decide +kernel
theorem dX6_perform_9 : decode cX6_perform 9 = .ok (.ifCond .ge 5, 3) := by decide +kernel
theorem dX6_perform_12 : decode cX6_perform 12 = .ok (.iload_n 1, 1) := by decide +kernel
theorem dX6_perform_13 : decode cX6_perform 13 = .ok (.ireturn, 1) := by decide +kernel
theorem dX6_perform_14 : decode cX6_perform 14 = .ok (.aload_n 0, 1) := by decide +kernel
theorem dX6_perform_15 : decode cX6_perform 15 = .ok (.getfield 16, 3) := by decide +kernel
theorem dX6_perform_18 : decode cX6_perform 18 = .ok (.aload_n 0, 1) := by decide +kernel
theorem dX6_perform_19 : decode cX6_perform 19 = .ok (.getfield 10, 3) := by decide +kernel
theorem dX6_perform_22 : decode cX6_perform 22 = .ok (.invokevirtual 53, 3) := by decide +kernel
theorem dX6_perform_25 : decode cX6_perform 25 = .ok (.aload_n 0, 1) := by decide +kernel
theorem dX6_perform_26 : decode cX6_perform 26 = .ok (.getfield 38, 3) := by decide +kernel
theorem dX6_perform_29 : decode cX6_perform 29 = .ok (.invokevirtual 99, 3) := by decide +kernel
theorem dX6_perform_32 : decode cX6_perform 32 = .ok (.iconst 0, 1) := by decide +kernel
theorem dX6_perform_33 : decode cX6_perform 33 = .ok (.istore_n 2, 1) := by decide +kernel
theorem dX6_perform_34 : decode cX6_perform 34 = .ok (.iload_n 2, 1) := by decide +kernel
theorem dX6_perform_35 : decode cX6_perform 35 = .ok (.iload_n 1, 1) := by decide +kernel
theorem dX6_perform_36 : decode cX6_perform 36 = .ok (.if_icmp .ge 48, 3) := by decide +kernel
theorem dX6_perform_39 : decode cX6_perform 39 = .ok (.aload_n 0, 1) := by decide +kernel
theorem dX6_perform_40 : decode cX6_perform 40 = .ok (.invokevirtual 102, 3) := by decide +kernel
theorem dX6_perform_43 : decode cX6_perform 43 = .ok (.istore_n 3, 1) := by decide +kernel
theorem dX6_perform_44 : decode cX6_perform 44 = .ok (.iload_n 3, 1) := by decide +kernel
theorem dX6_perform_45 : decode cX6_perform 45 = .ok (.ifCond .ge 33, 3) := by decide +kernel
end
section
theorem dX6_perform_48 : decode cX6_perform 48 = .ok (.iload_n 3, 1) := by decide +kernel
theorem dX6_perform_49 : decode cX6_perform 49 = .ok (.bipush (-5), 2) := by decide +kernel
theorem dX6_perform_51 : decode cX6_perform 51 = .ok (.if_icmp .eq 27, 3) := by decide +kernel
theorem dX6_perform_54 : decode cX6_perform 54 = .ok (.aload_n 0, 1) := by decide +kernel
theorem dX6_perform_55 : decode cX6_perform 55 = .ok (.getfield 10, 3) := by decide +kernel
theorem dX6_perform_58 : decode cX6_perform 58 = .ok (.aload_n 0, 1) := by decide +kernel
theorem dX6_perform_59 : decode cX6_perform 59 = .ok (.getfield 16, 3) := by decide +kernel
theorem dX6_perform_62 : decode cX6_perform 62 = .ok (.invokevirtual 53, 3) := by decide +kernel
theorem dX6_perform_65 : decode cX6_perform 65 = .ok (.aload_n 0, 1) := by decide +kernel
theorem dX6_perform_66 : decode cX6_perform 66 = .ok (.iload_n 2, 1) := by decide +kernel
theorem dX6_perform_67 : decode cX6_perform 67 = .ok (.putfield 46, 3) := by decide +kernel
theorem dX6_perform_70 : decode cX6_perform 70 = .ok (.aload_n 0, 1) := by decide +kernel
theorem dX6_perform_71 : decode cX6_perform 71 = .ok (.iload_n 3, 1) := by decide +kernel
theorem dX6_perform_72 : decode cX6_perform 72 = .ok (.putfield 50, 3) := by decide +kernel
theorem dX6_perform_75 : decode cX6_perform 75 = .ok (.bipush (-4), 2) := by decide +kernel
theorem dX6_perform_77 : decode cX6_perform 77 = .ok (.ireturn, 1) := by decide +kernel
theorem dX6_perform_78 : decode cX6_perform 78 = .ok (.iinc 2 1, 3) := by decide +kernel
theorem dX6_perform_81 : decode cX6_perform 81 = .ok (.goto (-47), 3) := by decide +kernel
theorem dX6_perform_84 : decode cX6_perform 84 = .ok (.aload_n 0, 1) := by decide +kernel
theorem dX6_perform_85 : decode cX6_perform 85 = .ok (.iload_n 1, 1) := by decide +kernel
theorem dX6_perform_86 : decode cX6_perform 86 = .ok (.invokevirtual 61, 3) := by decide +kernel
theorem dX6_perform_89 : decode cX6_perform 89 = .ok (.ireturn, 1) := by decide +kernel
theorem dX6_stopped_0 : decode cX6_stopped 0 = .ok (.iload_n 1, 1) := by decide +kernel
theorem dX6_stopped_1 : decode cX6_stopped 1 = .ok (.lookupswitch 37 #[(0, 27), (1, 32)], 27) := by decide +kernel
theorem dX6_stopped_28 : decode cX6_stopped 28 = .ok (.aload_n 0, 1) := by decide +kernel
theorem dX6_stopped_29 : decode cX6_stopped 29 = .ok (.getfield 46, 3) := by decide +kernel
theorem dX6_stopped_32 : decode cX6_stopped 32 = .ok (.ireturn, 1) := by decide +kernel
theorem dX6_stopped_33 : decode cX6_stopped 33 = .ok (.aload_n 0, 1) := by decide +kernel
theorem dX6_stopped_34 : decode cX6_stopped 34 = .ok (.getfield 50, 3) := by decide +kernel
theorem dX6_stopped_37 : decode cX6_stopped 37 = .ok (.ireturn, 1) := by decide +kernel
theorem dX6_stopped_38 : decode cX6_stopped 38 = .ok (.bipush (-2), 2) := by decide +kernel
theorem dX6_stopped_40 : decode cX6_stopped 40 = .ok (.ireturn, 1) := by decide +kernel
set_option maxRecDepth 20000 in
theorem ggX6_undo_X1_takeBack : GoodIn wsX6_undo wsX1_takeBack := goodIn_r _ [7, 8, 9, 10, 11, 12, 13, 14, 15, 16, 17, 18, 19, 20, 21, 22, 23, 24, 25, 26, 27, 28, 29, 30, 31, 32, 33, 34, 35, 36, 37, 38, 39, 40, 41, 42, 43, 44, 45, 46, 47, 48, 49, 50, 51, 52, 53, 64, 65, 66, 67, 68, 69, 70, 71, 72, 73, 74, 75, 76, 77, 78, 79, 80, 81, 82, 83, 84, 85, 86, 87, 88, 89] (by decide +kernel) (by decide +kernel)
set_option maxRecDepth 20000 in
theorem gX6_undo_X1_takeBack : GoodIn wsX6_undo (wsV RX6 105 RX1 yX1_takeBack wsX1_takeBack) := goodIn_app (goodIn_of _ (by decide +kernel)) ggX6_undo_X1_takeBack
theorem dX6_undo_0 : decode cX6_undo 0 = .ok (.aload_n 0, 1) := by decide +kernel
theorem dX6_undo_1 : decode cX6_undo 1 = .ok (.getfield 31, 3) := by decide +kernel
theorem dX6_undo_4 : decode cX6_undo 4 = .ok (.aload_n 0, 1) := by decide +kernel
theorem dX6_undo_5 : decode cX6_undo 5 = .ok (.getfield 10, 3) := by decide +kernel
theorem dX6_undo_8 : decode cX6_undo 8 = .ok (.invokevirtual 105, 3) := by decide +kernel
theorem dX6_undo_11 : decode cX6_undo 11 = .ok (.ireturn, 1) := by decide +kernel
set_option maxRecDepth 20000 in
theorem ggX6_keep_X2_copyFrom : GoodIn wsX6_keep wsX2_copyFrom := goodIn_r _ [9, 10, 11, 12, 13, 14, 15, 16, 17, 18, 19, 20, 21, 22, 23, 24, 25, 26, 27, 28, 29, 30, 31, 32, 33, 34, 35, 36, 37, 38, 39, 40, 41, 42, 43, 44, 45, 46, 47, 48, 59, 60, 61, 62, 63, 64, 65, 66, 67, 68, 69, 70, 71, 72, 73, 74, 75, 76, 77, 78, 79, 80, 81, 82] (by decide +kernel) (by decide +kernel)
set_option maxRecDepth 20000 in
theorem gX6_keep_X2_copyFrom : GoodIn wsX6_keep (wsV RX6 53 RX2 yX2_copyFrom wsX2_copyFrom) := goodIn_app (goodIn_of _ (by decide +kernel)) ggX6_keep_X2_copyFrom
theorem dX6_keep_0 : decode cX6_keep 0 = .ok (.aload_n 0, 1) := by decide +kernel
theorem dX6_keep_1 : decode cX6_keep 1 = .ok (.getfield 25, 3) := by decide +kernel
theorem dX6_keep_4 : decode cX6_keep 4 = .ok (.aload_n 0, 1) := by decide +kernel
theorem dX6_keep_5 : decode cX6_keep 5 = .ok (.getfield 10, 3) := by decide +kernel
theorem dX6_keep_8 : decode cX6_keep 8 = .ok (.invokevirtual 53, 3) := by decide +kernel
theorem dX6_keep_11 : decode cX6_keep 11 = .ok (.aload_n 0, 1) := by decide +kernel
theorem dX6_keep_12 : decode cX6_keep 12 = .ok (.iconst 1, 1) := by decide +kernel
theorem dX6_keep_13 : decode cX6_keep 13 = .ok (.putfield 42, 3) := by decide +kernel
theorem dX6_keep_16 : decode cX6_keep 16 = .ok (.aload_n 0, 1) := by decide +kernel
theorem dX6_keep_17 : decode cX6_keep 17 = .ok (.getfield 10, 3) := by decide +kernel
theorem dX6_keep_20 : decode cX6_keep 20 = .ok (.getfield 109, 3) := by decide +kernel
theorem dX6_keep_23 : decode cX6_keep 23 = .ok (.ireturn, 1) := by decide +kernel
set_option maxRecDepth 20000 in
theorem ggX6_restore_X2_copyFrom : GoodIn wsX6_restore wsX2_copyFrom := goodIn_r _ [10, 11, 12, 13, 14, 15, 16, 17, 18, 19, 20, 21, 22, 23, 24, 25, 26, 27, 28, 29, 30, 31, 32, 33, 34, 35, 36, 37, 38, 39, 40, 41, 42, 43, 44, 45, 46, 47, 48, 49, 78, 79, 80, 81, 82, 83, 84, 85, 86, 87, 88, 89, 90, 91, 92, 93, 94, 95, 96, 97, 98, 99, 100, 101] (by decide +kernel) (by decide +kernel)
set_option maxRecDepth 20000 in
theorem gX6_restore_X2_copyFrom : GoodIn wsX6_restore (wsV RX6 53 RX2 yX2_copyFrom wsX2_copyFrom) := goodIn_app (goodIn_of _ (by decide +kernel)) ggX6_restore_X2_copyFrom
set_option maxRecDepth 20000 in
theorem ggX6_restore_X6_recorded : GoodIn wsX6_restore wsX6_recorded := goodIn_r _ [54, 55, 2, 56, 57, 58, 59, 60, 61, 62, 63, 64, 65, 66, 67, 7, 8, 9, 10, 11, 12, 13, 14, 15, 16, 17, 18, 19, 20, 21, 22, 23, 24, 25, 26, 27, 28, 29, 30, 31, 32, 33, 34, 35, 36, 37, 38, 39, 40, 41, 42, 43, 44, 45, 46, 47, 48, 49, 68, 69, 70, 71, 72, 73, 74, 75, 76, 77, 102, 103, 78, 79, 80, 81, 82, 83, 84, 85, 86, 87, 88, 89, 90, 91, 92, 93, 94, 95, 96, 97, 98, 99, 100, 101] (by decide +kernel) (by decide +kernel)
set_option maxRecDepth 20000 in
theorem gX6_restore_X6_recorded : GoodIn wsX6_restore (wsV RX6 61 RX6 yX6_recorded wsX6_recorded) := goodIn_app (goodIn_of _ (by decide +kernel)) ggX6_restore_X6_recorded
theorem dX6_restore_0 : decode cX6_restore 0 = .ok (.aload_n 0, 1) := by decide +kernel
theorem dX6_restore_1 : decode cX6_restore 1 = .ok (.getfield 42, 3) := by decide +kernel
theorem dX6_restore_4 : decode cX6_restore 4 = .ok (.ifCond .ne 6, 3) := by decide +kernel
theorem dX6_restore_7 : decode cX6_restore 7 = .ok (.bipush (-5), 2) := by decide +kernel
theorem dX6_restore_9 : decode cX6_restore 9 = .ok (.ireturn, 1) := by decide +kernel
theorem dX6_restore_10 : decode cX6_restore 10 = .ok (.aload_n 0, 1) := by decide +kernel
theorem dX6_restore_11 : decode cX6_restore 11 = .ok (.getfield 16, 3) := by decide +kernel
theorem dX6_restore_14 : decode cX6_restore 14 = .ok (.aload_n 0, 1) := by decide +kernel
theorem dX6_restore_15 : decode cX6_restore 15 = .ok (.getfield 10, 3) := by decide +kernel
theorem dX6_restore_18 : decode cX6_restore 18 = .ok (.invokevirtual 53, 3) := by decide +kernel
theorem dX6_restore_21 : decode cX6_restore 21 = .ok (.aload_n 0, 1) := by decide +kernel
theorem dX6_restore_22 : decode cX6_restore 22 = .ok (.getfield 10, 3) := by decide +kernel
theorem dX6_restore_25 : decode cX6_restore 25 = .ok (.aload_n 0, 1) := by decide +kernel
theorem dX6_restore_26 : decode cX6_restore 26 = .ok (.getfield 25, 3) := by decide +kernel
theorem dX6_restore_29 : decode cX6_restore 29 = .ok (.invokevirtual 53, 3) := by decide +kernel
theorem dX6_restore_32 : decode cX6_restore 32 = .ok (.aload_n 0, 1) := by decide +kernel
theorem dX6_restore_33 : decode cX6_restore 33 = .ok (.aload_n 0, 1) := by decide +kernel
theorem dX6_restore_34 : decode cX6_restore 34 = .ok (.getfield 10, 3) := by decide +kernel
theorem dX6_restore_37 : decode cX6_restore 37 = .ok (.getfield 109, 3) := by decide +kernel
theorem dX6_restore_40 : decode cX6_restore 40 = .ok (.invokevirtual 61, 3) := by decide +kernel
theorem dX6_restore_43 : decode cX6_restore 43 = .ok (.ireturn, 1) := by decide +kernel
set_option maxRecDepth 20000 in
theorem ggX6_boiler_X2_boilerAt : GoodIn wsX6_boiler wsX2_boilerAt := goodIn_r _ [11, 12, 28, 29, 30, 31, 32, 33, 34, 35, 36, 37, 38, 39, 40, 41] (by decide +kernel) (by decide +kernel)
set_option maxRecDepth 20000 in
theorem gX6_boiler_X2_boilerAt : GoodIn wsX6_boiler (wsV RX6 112 RX2 yX2_boilerAt wsX2_boilerAt) := goodIn_app (goodIn_of _ (by decide +kernel)) ggX6_boiler_X2_boilerAt
theorem dX6_boiler_0 : decode cX6_boiler 0 = .ok (.aload_n 0, 1) := by decide +kernel
theorem dX6_boiler_1 : decode cX6_boiler 1 = .ok (.getfield 10, 3) := by decide +kernel
theorem dX6_boiler_4 : decode cX6_boiler 4 = .ok (.iload_n 1, 1) := by decide +kernel
theorem dX6_boiler_5 : decode cX6_boiler 5 = .ok (.invokevirtual 112, 3) := by decide +kernel
theorem dX6_boiler_8 : decode cX6_boiler 8 = .ok (.astore_n 3, 1) := by decide +kernel
theorem dX6_boiler_9 : decode cX6_boiler 9 = .ok (.aload_n 3, 1) := by decide +kernel
theorem dX6_boiler_10 : decode cX6_boiler 10 = .ok (.ifnonnull 5, 3) := by decide +kernel
theorem dX6_boiler_13 : decode cX6_boiler 13 = .ok (.iconst (-1), 1) := by decide +kernel
theorem dX6_boiler_14 : decode cX6_boiler 14 = .ok (.ireturn, 1) := by decide +kernel
theorem dX6_boiler_15 : decode cX6_boiler 15 = .ok (.iload_n 2, 1) := by decide +kernel
theorem dX6_boiler_16 : decode cX6_boiler 16 = .ok (.tableswitch 61 0 4 #[36, 41, 46, 51, 56], 36) := by decide +kernel
theorem dX6_boiler_52 : decode cX6_boiler 52 = .ok (.aload_n 3, 1) := by decide +kernel
theorem dX6_boiler_53 : decode cX6_boiler 53 = .ok (.getfield 116, 3) := by decide +kernel
theorem dX6_boiler_56 : decode cX6_boiler 56 = .ok (.ireturn, 1) := by decide +kernel
theorem dX6_boiler_57 : decode cX6_boiler 57 = .ok (.aload_n 3, 1) := by decide +kernel
theorem dX6_boiler_58 : decode cX6_boiler 58 = .ok (.getfield 121, 3) := by decide +kernel
theorem dX6_boiler_61 : decode cX6_boiler 61 = .ok (.ireturn, 1) := by decide +kernel
theorem dX6_boiler_62 : decode cX6_boiler 62 = .ok (.aload_n 3, 1) := by decide +kernel
theorem dX6_boiler_63 : decode cX6_boiler 63 = .ok (.getfield 124, 3) := by decide +kernel
theorem dX6_boiler_66 : decode cX6_boiler 66 = .ok (.ireturn, 1) := by decide +kernel
theorem dX6_boiler_67 : decode cX6_boiler 67 = .ok (.aload_n 3, 1) := by decide +kernel
theorem dX6_boiler_68 : decode cX6_boiler 68 = .ok (.getfield 127, 3) := by decide +kernel
theorem dX6_boiler_71 : decode cX6_boiler 71 = .ok (.ireturn, 1) := by decide +kernel
theorem dX6_boiler_72 : decode cX6_boiler 72 = .ok (.aload_n 3, 1) := by decide +kernel
theorem dX6_boiler_73 : decode cX6_boiler 73 = .ok (.getfield 130, 3) := by decide +kernel
theorem dX6_boiler_76 : decode cX6_boiler 76 = .ok (.ireturn, 1) := by decide +kernel
theorem dX6_boiler_77 : decode cX6_boiler 77 = .ok (.bipush (-2), 2) := by decide +kernel
theorem dX6_boiler_79 : decode cX6_boiler 79 = .ok (.ireturn, 1) := by decide +kernel
set_option maxRecDepth 20000 in
theorem ggX6_machine_X2_machineAt : GoodIn wsX6_machine wsX2_machineAt := goodIn_r _ [9, 10, 24, 25, 26, 27, 28, 29, 30, 31, 32, 33, 34, 35, 36, 37] (by decide +kernel) (by decide +kernel)
set_option maxRecDepth 20000 in
theorem gX6_machine_X2_machineAt : GoodIn wsX6_machine (wsV RX6 133 RX2 yX2_machineAt wsX2_machineAt) := goodIn_app (goodIn_of _ (by decide +kernel)) ggX6_machine_X2_machineAt
theorem dX6_machine_0 : decode cX6_machine 0 = .ok (.aload_n 0, 1) := by decide +kernel
theorem dX6_machine_1 : decode cX6_machine 1 = .ok (.getfield 10, 3) := by decide +kernel
theorem dX6_machine_4 : decode cX6_machine 4 = .ok (.iload_n 1, 1) := by decide +kernel
theorem dX6_machine_5 : decode cX6_machine 5 = .ok (.invokevirtual 133, 3) := by decide +kernel
theorem dX6_machine_8 : decode cX6_machine 8 = .ok (.astore_n 3, 1) := by decide +kernel
theorem dX6_machine_9 : decode cX6_machine 9 = .ok (.aload_n 3, 1) := by decide +kernel
theorem dX6_machine_10 : decode cX6_machine 10 = .ok (.ifnonnull 5, 3) := by decide +kernel
theorem dX6_machine_13 : decode cX6_machine 13 = .ok (.iconst (-1), 1) := by decide +kernel
theorem dX6_machine_14 : decode cX6_machine 14 = .ok (.ireturn, 1) := by decide +kernel
theorem dX6_machine_15 : decode cX6_machine 15 = .ok (.iload_n 2, 1) := by decide +kernel
theorem dX6_machine_16 : decode cX6_machine 16 = .ok (.tableswitch 43 0 2 #[28, 33, 38], 28) := by decide +kernel
theorem dX6_machine_44 : decode cX6_machine 44 = .ok (.aload_n 3, 1) := by decide +kernel
theorem dX6_machine_45 : decode cX6_machine 45 = .ok (.getfield 137, 3) := by decide +kernel
theorem dX6_machine_48 : decode cX6_machine 48 = .ok (.ireturn, 1) := by decide +kernel
theorem dX6_machine_49 : decode cX6_machine 49 = .ok (.aload_n 3, 1) := by decide +kernel
theorem dX6_machine_50 : decode cX6_machine 50 = .ok (.getfield 142, 3) := by decide +kernel
theorem dX6_machine_53 : decode cX6_machine 53 = .ok (.ireturn, 1) := by decide +kernel
theorem dX6_machine_54 : decode cX6_machine 54 = .ok (.aload_n 3, 1) := by decide +kernel
theorem dX6_machine_55 : decode cX6_machine 55 = .ok (.getfield 145, 3) := by decide +kernel
theorem dX6_machine_58 : decode cX6_machine 58 = .ok (.ireturn, 1) := by decide +kernel
theorem dX6_machine_59 : decode cX6_machine 59 = .ok (.bipush (-2), 2) := by decide +kernel
theorem dX6_machine_61 : decode cX6_machine 61 = .ok (.ireturn, 1) := by decide +kernel
set_option maxRecDepth 20000 in
theorem ggX6_line_X5_kindAt : GoodIn wsX6_line wsX5_kindAt := goodIn_r _ [7, 8, 9, 34, 35] (by decide +kernel) (by decide +kernel)
set_option maxRecDepth 20000 in
theorem gX6_line_X5_kindAt : GoodIn wsX6_line (wsV RX6 152 RX5 yX5_kindAt wsX5_kindAt) := goodIn_app (goodIn_of _ (by decide +kernel)) ggX6_line_X5_kindAt
theorem dX6_line_0 : decode cX6_line 0 = .ok (.iload_n 1, 1) := by decide +kernel
theorem dX6_line_1 : decode cX6_line 1 = .ok (.ifCond .ge 8, 3) := by decide +kernel
theorem dX6_line_4 : decode cX6_line 4 = .ok (.bipush (-2), 2) := by decide +kernel
theorem dX6_line_6 : decode cX6_line 6 = .ok (.goto 14, 3) := by decide +kernel
theorem dX6_line_9 : decode cX6_line 9 = .ok (.aload_n 0, 1) := by decide +kernel
theorem dX6_line_10 : decode cX6_line 10 = .ok (.getfield 10, 3) := by decide +kernel
theorem dX6_line_13 : decode cX6_line 13 = .ok (.getfield 148, 3) := by decide +kernel
theorem dX6_line_16 : decode cX6_line 16 = .ok (.iload_n 1, 1) := by decide +kernel
theorem dX6_line_17 : decode cX6_line 17 = .ok (.invokevirtual 152, 3) := by decide +kernel
theorem dX6_line_20 : decode cX6_line 20 = .ok (.ireturn, 1) := by decide +kernel
set_option maxRecDepth 20000 in
theorem ggX6_reason_X6_isWithin : GoodIn wsX6_reason wsX6_isWithin := goodIn_r _ [6] (by decide +kernel) (by decide +kernel)
set_option maxRecDepth 20000 in
theorem gX6_reason_X6_isWithin : GoodIn wsX6_reason (va_wsS RX6 157 yX6_isWithin wsX6_isWithin) := goodIn_app (goodIn_of _ (by decide +kernel)) ggX6_reason_X6_isWithin
set_option maxRecDepth 20000 in
theorem ggX6_reason_X2_reasonAgainst : GoodIn wsX6_reason wsX2_reasonAgainst := goodIn_r _ [11, 12, 13, 14, 10, 15, 16, 17, 18, 19, 20, 21, 22, 23, 24, 25, 26, 27, 28, 29, 30, 31, 32, 33, 34, 35, 36, 37, 38, 39, 40, 41, 42, 43, 44, 45, 46, 47, 48, 49, 50, 51, 52, 53, 54, 55, 56, 57, 58, 59, 60, 61, 62, 63, 64, 65, 66, 67, 68, 69, 70, 71, 72, 5, 73, 74, 75, 76, 77, 78, 79, 80, 81, 82, 83, 84, 85, 86, 87, 88, 89, 90, 91, 92, 93, 94, 95, 96, 97, 98, 99, 100, 101, 102, 103, 104, 105, 106, 107, 108, 109, 110, 111, 112, 113, 114, 115, 116, 117, 118, 119, 120, 131, 132, 133, 134, 135, 136, 137, 138, 139, 140, 141, 142, 143, 144, 145, 146, 147, 148, 149, 150, 151, 152, 153, 154] (by decide +kernel) (by decide +kernel)
set_option maxRecDepth 20000 in
theorem gX6_reason_X2_reasonAgainst : GoodIn wsX6_reason (wsV RX6 161 RX2 yX2_reasonAgainst wsX2_reasonAgainst) := goodIn_app (goodIn_of _ (by decide +kernel)) ggX6_reason_X2_reasonAgainst
theorem dX6_reason_0 : decode cX6_reason 0 = .ok (.iload_n 1, 1) := by decide +kernel
theorem dX6_reason_1 : decode cX6_reason 1 = .ok (.iconst 0, 1) := by decide +kernel
theorem dX6_reason_2 : decode cX6_reason 2 = .ok (.iconst 2, 1) := by decide +kernel
theorem dX6_reason_3 : decode cX6_reason 3 = .ok (.invokestatic 157, 3) := by decide +kernel
theorem dX6_reason_6 : decode cX6_reason 6 = .ok (.ifCond .eq 18, 3) := by decide +kernel
theorem dX6_reason_9 : decode cX6_reason 9 = .ok (.aload_n 0, 1) := by decide +kernel
theorem dX6_reason_10 : decode cX6_reason 10 = .ok (.getfield 10, 3) := by decide +kernel
theorem dX6_reason_13 : decode cX6_reason 13 = .ok (.iload_n 1, 1) := by decide +kernel
theorem dX6_reason_14 : decode cX6_reason 14 = .ok (.aload_n 0, 1) := by decide +kernel
theorem dX6_reason_15 : decode cX6_reason 15 = .ok (.getfield 22, 3) := by decide +kernel
theorem dX6_reason_18 : decode cX6_reason 18 = .ok (.invokevirtual 161, 3) := by decide +kernel
theorem dX6_reason_21 : decode cX6_reason 21 = .ok (.goto 4, 3) := by decide +kernel
theorem dX6_reason_24 : decode cX6_reason 24 = .ok (.iconst (-1), 1) := by decide +kernel
theorem dX6_reason_25 : decode cX6_reason 25 = .ok (.ireturn, 1) := by decide +kernel
set_option maxRecDepth 20000 in
theorem ggX6_doneIn_X2_copyFrom : GoodIn wsX6_doneIn wsX2_copyFrom := goodIn_r _ [8, 9, 10, 11, 12, 13, 14, 15, 16, 17, 18, 19, 20, 21, 22, 23, 24, 25, 26, 27, 28, 29, 30, 31, 32, 33, 34, 35, 36, 37, 38, 39, 40, 41, 42, 43, 44, 45, 46, 47, 152, 153, 154, 155, 156, 157, 158, 159, 160, 161, 162, 163, 164, 165, 166, 167, 168, 169, 170, 171, 172, 173, 174, 175] (by decide +kernel) (by decide +kernel)
set_option maxRecDepth 20000 in
theorem gX6_doneIn_X2_copyFrom : GoodIn wsX6_doneIn (wsV RX6 53 RX2 yX2_copyFrom wsX2_copyFrom) := goodIn_app (goodIn_of _ (by decide +kernel)) ggX6_doneIn_X2_copyFrom
set_option maxRecDepth 20000 in
theorem ggX6_doneIn_X2_isIdle : GoodIn wsX6_doneIn wsX2_isIdle := goodIn_r _ [51, 11, 52, 53, 54, 55, 7, 56, 10, 57, 58, 59, 36, 60, 38, 152, 153, 154, 155, 156, 157, 158, 159, 160, 161, 162, 163, 164, 165, 174, 175, 171, 172, 173] (by decide +kernel) (by decide +kernel)
set_option maxRecDepth 20000 in
theorem gX6_doneIn_X2_isIdle : GoodIn wsX6_doneIn (wsV RX6 164 RX2 yX2_isIdle wsX2_isIdle) := goodIn_app (goodIn_of _ (by decide +kernel)) ggX6_doneIn_X2_isIdle
set_option maxRecDepth 20000 in
theorem ggX6_doneIn_X2_passTick : GoodIn wsX6_doneIn wsX2_passTick := goodIn_r _ [64, 11, 19, 65, 66, 67, 7, 68, 12, 9, 16, 15, 69, 70, 71, 72, 17, 73, 74, 75, 76, 18, 77, 78, 79, 26, 80, 31, 28, 29, 30, 81, 82, 83, 84, 10, 85, 86, 87, 88, 89, 90, 91, 92, 93, 94, 95, 96, 97, 22, 98, 14, 57, 58, 59, 36, 60, 38, 99, 100, 101, 102, 39, 40, 103, 104, 105, 106, 107, 108, 109, 110, 111, 13, 21, 112, 113, 114, 115, 116, 117, 32, 118, 119, 120, 44, 121, 46, 47, 122, 123, 124, 125, 126, 127, 128, 129, 130, 5, 6, 8, 20, 23, 24, 25, 27, 33, 34, 35, 37, 41, 42, 43, 45, 131, 132, 133, 134, 135, 136, 137, 138, 139, 140, 141, 152, 153, 154, 155, 156, 157, 158, 159, 160, 161, 162, 163, 164, 165, 166, 167, 168, 169, 170, 171, 172, 173, 174, 175] (by decide +kernel) (by decide +kernel)
set_option maxRecDepth 20000 in
theorem gX6_doneIn_X2_passTick : GoodIn wsX6_doneIn (wsV RX6 168 RX2 yX2_passTick wsX2_passTick) := goodIn_app (goodIn_of _ (by decide +kernel)) ggX6_doneIn_X2_passTick
theorem dX6_doneIn_0 : decode cX6_doneIn 0 = .ok (.aload_n 0, 1) := by decide +kernel
theorem dX6_doneIn_1 : decode cX6_doneIn 1 = .ok (.getfield 19, 3) := by decide +kernel
theorem dX6_doneIn_4 : decode cX6_doneIn 4 = .ok (.aload_n 0, 1) := by decide +kernel
theorem dX6_doneIn_5 : decode cX6_doneIn 5 = .ok (.getfield 10, 3) := by decide +kernel
theorem dX6_doneIn_8 : decode cX6_doneIn 8 = .ok (.invokevirtual 53, 3) := by decide +kernel
theorem dX6_doneIn_11 : decode cX6_doneIn 11 = .ok (.iconst 0, 1) := by decide +kernel
theorem dX6_doneIn_12 : decode cX6_doneIn 12 = .ok (.istore_n 1, 1) := by decide +kernel
theorem dX6_doneIn_13 : decode cX6_doneIn 13 = .ok (.iload_n 1, 1) := by decide +kernel
theorem dX6_doneIn_14 : decode cX6_doneIn 14 = .ok (.sipush 400, 3) := by decide +kernel
theorem dX6_doneIn_17 : decode cX6_doneIn 17 = .ok (.if_icmp .gt 32, 3) := by decide +kernel
theorem dX6_doneIn_20 : decode cX6_doneIn 20 = .ok (.aload_n 0, 1) := by decide +kernel
theorem dX6_doneIn_21 : decode cX6_doneIn 21 = .ok (.getfield 19, 3) := by decide +kernel
theorem dX6_doneIn_24 : decode cX6_doneIn 24 = .ok (.invokevirtual 164, 3) := by decide +kernel
theorem dX6_doneIn_27 : decode cX6_doneIn 27 = .ok (.ifCond .eq 5, 3) := by decide +kernel
theorem dX6_doneIn_30 : decode cX6_doneIn 30 = .ok (.iload_n 1, 1) := by decide +kernel
theorem dX6_doneIn_31 : decode cX6_doneIn 31 = .ok (.ireturn, 1) := by decide +kernel
theorem dX6_doneIn_32 : decode cX6_doneIn 32 = .ok (.aload_n 0, 1) := by decide +kernel
theorem dX6_doneIn_33 : decode cX6_doneIn 33 = .ok (.getfield 19, 3) := by decide +kernel
theorem dX6_doneIn_36 : decode cX6_doneIn 36 = .ok (.aload_n 0, 1) := by decide +kernel
theorem dX6_doneIn_37 : decode cX6_doneIn 37 = .ok (.getfield 22, 3) := by decide +kernel
theorem dX6_doneIn_40 : decode cX6_doneIn 40 = .ok (.invokevirtual 168, 3) := by decide +kernel
theorem dX6_doneIn_43 : decode cX6_doneIn 43 = .ok (.iinc 1 1, 3) := by decide +kernel
theorem dX6_doneIn_46 : decode cX6_doneIn 46 = .ok (.goto (-33), 3) := by decide +kernel
theorem dX6_doneIn_49 : decode cX6_doneIn 49 = .ok (.bipush (-5), 2) := by decide +kernel
theorem dX6_doneIn_51 : decode cX6_doneIn 51 = .ok (.ireturn, 1) := by decide +kernel
set_option maxRecDepth 20000 in
theorem ggX6_ifFires_X6_isWithin : GoodIn wsX6_ifFires wsX6_isWithin := goodIn_r _ [9] (by decide +kernel) (by decide +kernel)
set_option maxRecDepth 20000 in
theorem gX6_ifFires_X6_isWithin : GoodIn wsX6_ifFires (va_wsS RX6 157 yX6_isWithin wsX6_isWithin) := goodIn_app (goodIn_of _ (by decide +kernel)) ggX6_ifFires_X6_isWithin
set_option maxRecDepth 20000 in
theorem ggX6_ifFires_X6_lookAhead : GoodIn wsX6_ifFires wsX6_lookAhead := goodIn_r _ [13, 1, 3, 14, 15, 16, 17, 18, 19, 20, 21, 22, 23, 24, 25, 26, 27, 28, 29, 30, 31, 32, 33, 34, 35, 36, 37, 38, 39, 40, 41, 42, 43, 44, 45, 46, 47, 48, 49, 50, 51, 52, 53, 54, 55, 56, 57, 58, 59, 60, 61, 62, 63, 64, 65, 66, 67, 68, 69, 70, 71, 72, 73, 74, 75, 76, 77, 78, 79, 80, 81, 82, 83, 84, 85, 86, 87, 88, 89, 90, 91, 92, 93, 8, 94, 95, 96, 97, 98, 99, 100, 101, 102, 103, 104, 105, 106, 107, 108, 109, 110, 111, 112, 113, 114, 115, 116, 117, 118, 119, 120, 121, 122, 123, 124, 125, 126, 127, 128, 129, 130, 131, 132, 133, 134, 135, 136, 137, 138, 139, 140, 141, 142, 143, 144, 145, 146, 147, 148, 149, 150, 151, 157, 158, 159, 160, 161, 162, 163, 164, 165, 166, 167, 168, 169, 170, 171, 172, 173, 174, 175, 176, 177, 178, 179, 180, 181, 182, 183, 184, 185, 186, 187, 188, 189, 190] (by decide +kernel) (by decide +kernel)
set_option maxRecDepth 20000 in
theorem gX6_ifFires_X6_lookAhead : GoodIn wsX6_ifFires (wsV RX6 171 RX6 yX6_lookAhead wsX6_lookAhead) := goodIn_app (goodIn_of _ (by decide +kernel)) ggX6_ifFires_X6_lookAhead
set_option maxRecDepth 20000 in
theorem ggX6_ifFires_X2_safetyStops : GoodIn wsX6_ifFires wsX2_safetyStops := goodIn_r _ [155, 20, 156, 167, 168, 169, 170, 171, 172, 173, 174, 175, 176, 177, 178, 179, 180, 181, 182, 183, 184, 185] (by decide +kernel) (by decide +kernel)
set_option maxRecDepth 20000 in
theorem gX6_ifFires_X2_safetyStops : GoodIn wsX6_ifFires (wsV RX6 184 RX2 yX2_safetyStops wsX2_safetyStops) := goodIn_app (goodIn_of _ (by decide +kernel)) ggX6_ifFires_X2_safetyStops
theorem dX6_ifFires_0 : decode cX6_ifFires 0 = .ok (.iload_n 1, 1) := by decide +kernel
theorem dX6_ifFires_1 : decode cX6_ifFires 1 = .ok (.iconst 0, 1) := by decide +kernel
theorem dX6_ifFires_2 : decode cX6_ifFires 2 = .ok (.iconst 5, 1) := by decide +kernel
theorem dX6_ifFires_3 : decode cX6_ifFires 3 = .ok (.invokestatic 157, 3) := by decide +kernel
theorem dX6_ifFires_6 : decode cX6_ifFires 6 = .ok (.ifCond .eq 12, 3) := by decide +kernel
theorem dX6_ifFires_9 : decode cX6_ifFires 9 = .ok (.iload_n 2, 1) := by decide +kernel
theorem dX6_ifFires_10 : decode cX6_ifFires 10 = .ok (.iconst 0, 1) := by decide +kernel
theorem dX6_ifFires_11 : decode cX6_ifFires 11 = .ok (.iconst 5, 1) := by decide +kernel
theorem dX6_ifFires_12 : decode cX6_ifFires 12 = .ok (.invokestatic 157, 3) := by decide +kernel
theorem dX6_ifFires_15 : decode cX6_ifFires 15 = .ok (.ifCond .ne 6, 3) := by decide +kernel
theorem dX6_ifFires_18 : decode cX6_ifFires 18 = .ok (.bipush (-2), 2) := by decide +kernel
theorem dX6_ifFires_20 : decode cX6_ifFires 20 = .ok (.ireturn, 1) := by decide +kernel
theorem dX6_ifFires_21 : decode cX6_ifFires 21 = .ok (.iload_n 3, 1) := by decide +kernel
theorem dX6_ifFires_22 : decode cX6_ifFires 22 = .ok (.iconst 1, 1) := by decide +kernel
theorem dX6_ifFires_23 : decode cX6_ifFires 23 = .ok (.sipush 200, 3) := by decide +kernel
theorem dX6_ifFires_26 : decode cX6_ifFires 26 = .ok (.invokestatic 157, 3) := by decide +kernel
theorem dX6_ifFires_29 : decode cX6_ifFires 29 = .ok (.ifCond .eq 13, 3) := by decide +kernel
theorem dX6_ifFires_32 : decode cX6_ifFires 32 = .ok (.iload 4, 2) := by decide +kernel
theorem dX6_ifFires_34 : decode cX6_ifFires 34 = .ok (.iconst 0, 1) := by decide +kernel
theorem dX6_ifFires_35 : decode cX6_ifFires 35 = .ok (.iconst 3, 1) := by decide +kernel
theorem dX6_ifFires_36 : decode cX6_ifFires 36 = .ok (.invokestatic 157, 3) := by decide +kernel
theorem dX6_ifFires_39 : decode cX6_ifFires 39 = .ok (.ifCond .ne 6, 3) := by decide +kernel
theorem dX6_ifFires_42 : decode cX6_ifFires 42 = .ok (.bipush (-2), 2) := by decide +kernel
theorem dX6_ifFires_44 : decode cX6_ifFires 44 = .ok (.ireturn, 1) := by decide +kernel
theorem dX6_ifFires_45 : decode cX6_ifFires 45 = .ok (.aload_n 0, 1) := by decide +kernel
theorem dX6_ifFires_46 : decode cX6_ifFires 46 = .ok (.iload_n 1, 1) := by decide +kernel
theorem dX6_ifFires_47 : decode cX6_ifFires 47 = .ok (.iload_n 2, 1) := by decide +kernel
theorem dX6_ifFires_48 : decode cX6_ifFires 48 = .ok (.iload_n 3, 1) := by decide +kernel
theorem dX6_ifFires_49 : decode cX6_ifFires 49 = .ok (.invokevirtual 171, 3) := by decide +kernel
theorem dX6_ifFires_52 : decode cX6_ifFires 52 = .ok (.iload 4, 2) := by decide +kernel
theorem dX6_ifFires_54 : decode cX6_ifFires 54 = .ok (.tableswitch 74 0 2 #[26, 42, 58], 26) := by decide +kernel
theorem dX6_ifFires_80 : decode cX6_ifFires 80 = .ok (.aload_n 0, 1) := by decide +kernel
theorem dX6_ifFires_81 : decode cX6_ifFires 81 = .ok (.getfield 19, 3) := by decide +kernel
theorem dX6_ifFires_84 : decode cX6_ifFires 84 = .ok (.getfield 175, 3) := by decide +kernel
theorem dX6_ifFires_87 : decode cX6_ifFires 87 = .ok (.aload_n 0, 1) := by decide +kernel
theorem dX6_ifFires_88 : decode cX6_ifFires 88 = .ok (.getfield 10, 3) := by decide +kernel
theorem dX6_ifFires_91 : decode cX6_ifFires 91 = .ok (.getfield 175, 3) := by decide +kernel
theorem dX6_ifFires_94 : decode cX6_ifFires 94 = .ok (.isub, 1) := by decide +kernel
theorem dX6_ifFires_95 : decode cX6_ifFires 95 = .ok (.ireturn, 1) := by decide +kernel
theorem dX6_ifFires_96 : decode cX6_ifFires 96 = .ok (.aload_n 0, 1) := by decide +kernel
theorem dX6_ifFires_97 : decode cX6_ifFires 97 = .ok (.getfield 19, 3) := by decide +kernel
theorem dX6_ifFires_100 : decode cX6_ifFires 100 = .ok (.getfield 178, 3) := by decide +kernel
theorem dX6_ifFires_103 : decode cX6_ifFires 103 = .ok (.aload_n 0, 1) := by decide +kernel
theorem dX6_ifFires_104 : decode cX6_ifFires 104 = .ok (.getfield 10, 3) := by decide +kernel
theorem dX6_ifFires_107 : decode cX6_ifFires 107 = .ok (.getfield 178, 3) := by decide +kernel
theorem dX6_ifFires_110 : decode cX6_ifFires 110 = .ok (.isub, 1) := by decide +kernel
theorem dX6_ifFires_111 : decode cX6_ifFires 111 = .ok (.ireturn, 1) := by decide +kernel
theorem dX6_ifFires_112 : decode cX6_ifFires 112 = .ok (.aload_n 0, 1) := by decide +kernel
theorem dX6_ifFires_113 : decode cX6_ifFires 113 = .ok (.getfield 19, 3) := by decide +kernel
theorem dX6_ifFires_116 : decode cX6_ifFires 116 = .ok (.getfield 181, 3) := by decide +kernel
theorem dX6_ifFires_119 : decode cX6_ifFires 119 = .ok (.aload_n 0, 1) := by decide +kernel
theorem dX6_ifFires_120 : decode cX6_ifFires 120 = .ok (.getfield 10, 3) := by decide +kernel
theorem dX6_ifFires_123 : decode cX6_ifFires 123 = .ok (.getfield 181, 3) := by decide +kernel
theorem dX6_ifFires_126 : decode cX6_ifFires 126 = .ok (.isub, 1) := by decide +kernel
theorem dX6_ifFires_127 : decode cX6_ifFires 127 = .ok (.ireturn, 1) := by decide +kernel
theorem dX6_ifFires_128 : decode cX6_ifFires 128 = .ok (.aload_n 0, 1) := by decide +kernel
theorem dX6_ifFires_129 : decode cX6_ifFires 129 = .ok (.getfield 19, 3) := by decide +kernel
theorem dX6_ifFires_132 : decode cX6_ifFires 132 = .ok (.invokevirtual 184, 3) := by decide +kernel
theorem dX6_ifFires_135 : decode cX6_ifFires 135 = .ok (.aload_n 0, 1) := by decide +kernel
theorem dX6_ifFires_136 : decode cX6_ifFires 136 = .ok (.getfield 10, 3) := by decide +kernel
theorem dX6_ifFires_139 : decode cX6_ifFires 139 = .ok (.invokevirtual 184, 3) := by decide +kernel
theorem dX6_ifFires_142 : decode cX6_ifFires 142 = .ok (.isub, 1) := by decide +kernel
theorem dX6_ifFires_143 : decode cX6_ifFires 143 = .ok (.ireturn, 1) := by decide +kernel
set_option maxRecDepth 20000 in
theorem ggX6_bestFires_X6_isWithin : GoodIn wsX6_bestFires wsX6_isWithin := goodIn_r _ [7] (by decide +kernel) (by decide +kernel)
set_option maxRecDepth 20000 in
theorem gX6_bestFires_X6_isWithin : GoodIn wsX6_bestFires (va_wsS RX6 157 yX6_isWithin wsX6_isWithin) := goodIn_app (goodIn_of _ (by decide +kernel)) ggX6_bestFires_X6_isWithin
set_option maxRecDepth 20000 in
theorem ggX6_bestFires_X6_lookAhead : GoodIn wsX6_bestFires wsX6_lookAhead := goodIn_r _ [11, 1, 12, 13, 14, 15, 16, 17, 18, 19, 20, 21, 22, 23, 24, 25, 26, 27, 28, 29, 30, 31, 32, 33, 34, 35, 36, 37, 38, 39, 40, 41, 42, 43, 44, 45, 46, 47, 48, 49, 50, 51, 52, 53, 54, 55, 56, 57, 58, 59, 60, 61, 62, 63, 64, 65, 66, 67, 68, 69, 70, 71, 72, 73, 74, 75, 76, 77, 78, 79, 80, 81, 82, 83, 84, 85, 86, 87, 88, 89, 90, 91, 92, 6, 93, 94, 95, 96, 97, 98, 99, 100, 101, 102, 103, 104, 105, 106, 107, 108, 109, 110, 111, 112, 113, 114, 115, 116, 117, 118, 119, 120, 121, 122, 123, 124, 125, 126, 127, 128, 129, 130, 131, 132, 133, 134, 135, 136, 137, 138, 139, 140, 141, 142, 143, 144, 145, 146, 147, 148, 149, 150, 151, 152, 153, 154, 155, 156, 157, 158, 159, 160, 161, 162, 163, 164, 165, 166, 167, 168, 169, 170, 171, 172, 173, 174, 175, 176, 177, 178, 179, 180, 181, 182, 183, 184] (by decide +kernel) (by decide +kernel)
set_option maxRecDepth 20000 in
theorem gX6_bestFires_X6_lookAhead : GoodIn wsX6_bestFires (wsV RX6 171 RX6 yX6_lookAhead wsX6_lookAhead) := goodIn_app (goodIn_of _ (by decide +kernel)) ggX6_bestFires_X6_lookAhead
theorem dX6_bestFires_0 : decode cX6_bestFires 0 = .ok (.iload_n 1, 1) := by decide +kernel
theorem dX6_bestFires_1 : decode cX6_bestFires 1 = .ok (.iconst 1, 1) := by decide +kernel
theorem dX6_bestFires_2 : decode cX6_bestFires 2 = .ok (.bipush 100, 2) := by decide +kernel
theorem dX6_bestFires_4 : decode cX6_bestFires 4 = .ok (.invokestatic 157, 3) := by decide +kernel
theorem dX6_bestFires_7 : decode cX6_bestFires 7 = .ok (.ifCond .ne 6, 3) := by decide +kernel
theorem dX6_bestFires_10 : decode cX6_bestFires 10 = .ok (.bipush (-2), 2) := by decide +kernel
theorem dX6_bestFires_12 : decode cX6_bestFires 12 = .ok (.ireturn, 1) := by decide +kernel
theorem dX6_bestFires_13 : decode cX6_bestFires 13 = .ok (.bipush (-5), 2) := by decide +kernel
theorem dX6_bestFires_15 : decode cX6_bestFires 15 = .ok (.istore_n 2, 1) := by decide +kernel
theorem dX6_bestFires_16 : decode cX6_bestFires 16 = .ok (.iconst 0, 1) := by decide +kernel
theorem dX6_bestFires_17 : decode cX6_bestFires 17 = .ok (.istore_n 3, 1) := by decide +kernel
theorem dX6_bestFires_18 : decode cX6_bestFires 18 = .ok (.iconst 0, 1) := by decide +kernel
theorem dX6_bestFires_19 : decode cX6_bestFires 19 = .ok (.istore 4, 2) := by decide +kernel
theorem dX6_bestFires_21 : decode cX6_bestFires 21 = .ok (.iconst 0, 1) := by decide +kernel
theorem dX6_bestFires_22 : decode cX6_bestFires 22 = .ok (.istore 5, 2) := by decide +kernel
theorem dX6_bestFires_24 : decode cX6_bestFires 24 = .ok (.iload 5, 2) := by decide +kernel
theorem dX6_bestFires_26 : decode cX6_bestFires 26 = .ok (.iconst 5, 1) := by decide +kernel
theorem dX6_bestFires_27 : decode cX6_bestFires 27 = .ok (.if_icmp .gt 111, 3) := by decide +kernel
theorem dX6_bestFires_30 : decode cX6_bestFires 30 = .ok (.iconst 0, 1) := by decide +kernel
theorem dX6_bestFires_31 : decode cX6_bestFires 31 = .ok (.istore 6, 2) := by decide +kernel
theorem dX6_bestFires_33 : decode cX6_bestFires 33 = .ok (.iload 6, 2) := by decide +kernel
theorem dX6_bestFires_35 : decode cX6_bestFires 35 = .ok (.iconst 5, 1) := by decide +kernel
theorem dX6_bestFires_36 : decode cX6_bestFires 36 = .ok (.if_icmp .gt 96, 3) := by decide +kernel
theorem dX6_bestFires_39 : decode cX6_bestFires 39 = .ok (.aload_n 0, 1) := by decide +kernel
theorem dX6_bestFires_40 : decode cX6_bestFires 40 = .ok (.iload 5, 2) := by decide +kernel
theorem dX6_bestFires_42 : decode cX6_bestFires 42 = .ok (.iload 6, 2) := by decide +kernel
theorem dX6_bestFires_44 : decode cX6_bestFires 44 = .ok (.iload_n 1, 1) := by decide +kernel
theorem dX6_bestFires_45 : decode cX6_bestFires 45 = .ok (.invokevirtual 171, 3) := by decide +kernel
theorem dX6_bestFires_48 : decode cX6_bestFires 48 = .ok (.aload_n 0, 1) := by decide +kernel
theorem dX6_bestFires_49 : decode cX6_bestFires 49 = .ok (.getfield 19, 3) := by decide +kernel
theorem dX6_bestFires_52 : decode cX6_bestFires 52 = .ok (.getfield 175, 3) := by decide +kernel
theorem dX6_bestFires_55 : decode cX6_bestFires 55 = .ok (.iload_n 3, 1) := by decide +kernel
theorem dX6_bestFires_56 : decode cX6_bestFires 56 = .ok (.if_icmp .ne 19, 3) := by decide +kernel
theorem dX6_bestFires_59 : decode cX6_bestFires 59 = .ok (.aload_n 0, 1) := by decide +kernel
theorem dX6_bestFires_60 : decode cX6_bestFires 60 = .ok (.getfield 19, 3) := by decide +kernel
theorem dX6_bestFires_63 : decode cX6_bestFires 63 = .ok (.getfield 181, 3) := by decide +kernel
theorem dX6_bestFires_66 : decode cX6_bestFires 66 = .ok (.iload 4, 2) := by decide +kernel
theorem dX6_bestFires_68 : decode cX6_bestFires 68 = .ok (.if_icmp .ge 7, 3) := by decide +kernel
theorem dX6_bestFires_71 : decode cX6_bestFires 71 = .ok (.iconst 1, 1) := by decide +kernel
theorem dX6_bestFires_72 : decode cX6_bestFires 72 = .ok (.goto 4, 3) := by decide +kernel
theorem dX6_bestFires_75 : decode cX6_bestFires 75 = .ok (.iconst 0, 1) := by decide +kernel
theorem dX6_bestFires_76 : decode cX6_bestFires 76 = .ok (.istore 7, 2) := by decide +kernel
theorem dX6_bestFires_78 : decode cX6_bestFires 78 = .ok (.iload_n 2, 1) := by decide +kernel
theorem dX6_bestFires_79 : decode cX6_bestFires 79 = .ok (.bipush (-5), 2) := by decide +kernel
theorem dX6_bestFires_81 : decode cX6_bestFires 81 = .ok (.if_icmp .eq 19, 3) := by decide +kernel
theorem dX6_bestFires_84 : decode cX6_bestFires 84 = .ok (.aload_n 0, 1) := by decide +kernel
theorem dX6_bestFires_85 : decode cX6_bestFires 85 = .ok (.getfield 19, 3) := by decide +kernel
theorem dX6_bestFires_88 : decode cX6_bestFires 88 = .ok (.getfield 175, 3) := by decide +kernel
theorem dX6_bestFires_91 : decode cX6_bestFires 91 = .ok (.iload_n 3, 1) := by decide +kernel
theorem dX6_bestFires_92 : decode cX6_bestFires 92 = .ok (.if_icmp .gt 8, 3) := by decide +kernel
theorem dX6_bestFires_95 : decode cX6_bestFires 95 = .ok (.iload 7, 2) := by decide +kernel
theorem dX6_bestFires_97 : decode cX6_bestFires 97 = .ok (.ifCond .eq 29, 3) := by decide +kernel
theorem dX6_bestFires_100 : decode cX6_bestFires 100 = .ok (.bipush 10, 2) := by decide +kernel
theorem dX6_bestFires_102 : decode cX6_bestFires 102 = .ok (.iload 5, 2) := by decide +kernel
theorem dX6_bestFires_104 : decode cX6_bestFires 104 = .ok (.imul, 1) := by decide +kernel
theorem dX6_bestFires_105 : decode cX6_bestFires 105 = .ok (.iload 6, 2) := by decide +kernel
theorem dX6_bestFires_107 : decode cX6_bestFires 107 = .ok (.iadd, 1) := by decide +kernel
theorem dX6_bestFires_108 : decode cX6_bestFires 108 = .ok (.istore_n 2, 1) := by decide +kernel
theorem dX6_bestFires_109 : decode cX6_bestFires 109 = .ok (.aload_n 0, 1) := by decide +kernel
theorem dX6_bestFires_110 : decode cX6_bestFires 110 = .ok (.getfield 19, 3) := by decide +kernel
theorem dX6_bestFires_113 : decode cX6_bestFires 113 = .ok (.getfield 175, 3) := by decide +kernel
theorem dX6_bestFires_116 : decode cX6_bestFires 116 = .ok (.istore_n 3, 1) := by decide +kernel
theorem dX6_bestFires_117 : decode cX6_bestFires 117 = .ok (.aload_n 0, 1) := by decide +kernel
theorem dX6_bestFires_118 : decode cX6_bestFires 118 = .ok (.getfield 19, 3) := by decide +kernel
theorem dX6_bestFires_121 : decode cX6_bestFires 121 = .ok (.getfield 181, 3) := by decide +kernel
theorem dX6_bestFires_124 : decode cX6_bestFires 124 = .ok (.istore 4, 2) := by decide +kernel
theorem dX6_bestFires_126 : decode cX6_bestFires 126 = .ok (.iinc 6 1, 3) := by decide +kernel
theorem dX6_bestFires_129 : decode cX6_bestFires 129 = .ok (.goto (-96), 3) := by decide +kernel
theorem dX6_bestFires_132 : decode cX6_bestFires 132 = .ok (.iinc 5 1, 3) := by decide +kernel
theorem dX6_bestFires_135 : decode cX6_bestFires 135 = .ok (.goto (-111), 3) := by decide +kernel
theorem dX6_bestFires_138 : decode cX6_bestFires 138 = .ok (.iload_n 2, 1) := by decide +kernel
theorem dX6_bestFires_139 : decode cX6_bestFires 139 = .ok (.ireturn, 1) := by decide +kernel
set_option maxRecDepth 20000 in
theorem ggX6_count_X2_account : GoodIn wsX6_count wsX2_account := goodIn_r _ [10, 11, 12, 13, 14, 15, 16, 17, 18, 19, 20, 21, 22, 23, 24, 25, 26, 9, 27, 28, 29, 30, 31, 32, 33, 34, 35, 36, 37, 38, 39, 40, 59, 60, 61, 62, 63, 64, 65, 66, 67, 68, 69, 70, 71, 72, 73, 74, 75, 76, 77, 78, 79, 80, 81, 82] (by decide +kernel) (by decide +kernel)
set_option maxRecDepth 20000 in
theorem gX6_count_X2_account : GoodIn wsX6_count (wsV RX6 193 RX2 yX2_account wsX2_account) := goodIn_app (goodIn_of _ (by decide +kernel)) ggX6_count_X2_account
theorem dX6_count_0 : decode cX6_count 0 = .ok (.iload_n 1, 1) := by decide +kernel
theorem dX6_count_1 : decode cX6_count 1 = .ok (.lookupswitch 43 #[(14, 27), (15, 35)], 27) := by decide +kernel
theorem dX6_count_28 : decode cX6_count 28 = .ok (.aload_n 0, 1) := by decide +kernel
theorem dX6_count_29 : decode cX6_count 29 = .ok (.getfield 31, 3) := by decide +kernel
theorem dX6_count_32 : decode cX6_count 32 = .ok (.getfield 187, 3) := by decide +kernel
theorem dX6_count_35 : decode cX6_count 35 = .ok (.ireturn, 1) := by decide +kernel
theorem dX6_count_36 : decode cX6_count 36 = .ok (.aload_n 0, 1) := by decide +kernel
theorem dX6_count_37 : decode cX6_count 37 = .ok (.getfield 38, 3) := by decide +kernel
theorem dX6_count_40 : decode cX6_count 40 = .ok (.getfield 190, 3) := by decide +kernel
theorem dX6_count_43 : decode cX6_count 43 = .ok (.ireturn, 1) := by decide +kernel
theorem dX6_count_44 : decode cX6_count 44 = .ok (.aload_n 0, 1) := by decide +kernel
theorem dX6_count_45 : decode cX6_count 45 = .ok (.getfield 10, 3) := by decide +kernel
theorem dX6_count_48 : decode cX6_count 48 = .ok (.iload_n 1, 1) := by decide +kernel
theorem dX6_count_49 : decode cX6_count 49 = .ok (.invokevirtual 193, 3) := by decide +kernel
theorem dX6_count_52 : decode cX6_count 52 = .ok (.ireturn, 1) := by decide +kernel
set_option maxRecDepth 20000 in
theorem ggX6_recorded_X1_push : GoodIn wsX6_recorded wsX1_push := goodIn_r _ [7, 8, 9, 10, 11, 12, 6, 13, 14, 15, 16, 17, 18, 19, 20, 21, 22, 23, 24, 25, 26, 27, 28, 29, 30, 31, 32, 33, 34, 35, 36, 37, 38, 39, 40, 41, 42, 43, 44, 45, 46, 47, 48, 49, 50, 51, 52, 53, 54, 55, 56, 57, 68, 69, 70, 71, 72, 73, 74, 75, 76, 77, 78, 79, 80, 81, 82, 83, 84, 85, 86, 87, 88, 89, 90, 91, 92, 93] (by decide +kernel) (by decide +kernel)
set_option maxRecDepth 20000 in
theorem gX6_recorded_X1_push : GoodIn wsX6_recorded (wsV RX6 196 RX1 yX1_push wsX1_push) := goodIn_app (goodIn_of _ (by decide +kernel)) ggX6_recorded_X1_push
theorem dX6_recorded_0 : decode cX6_recorded 0 = .ok (.iload_n 1, 1) := by decide +kernel
theorem dX6_recorded_1 : decode cX6_recorded 1 = .ok (.ifCond .lt 14, 3) := by decide +kernel
theorem dX6_recorded_4 : decode cX6_recorded 4 = .ok (.aload_n 0, 1) := by decide +kernel
theorem dX6_recorded_5 : decode cX6_recorded 5 = .ok (.getfield 31, 3) := by decide +kernel
theorem dX6_recorded_8 : decode cX6_recorded 8 = .ok (.aload_n 0, 1) := by decide +kernel
theorem dX6_recorded_9 : decode cX6_recorded 9 = .ok (.getfield 16, 3) := by decide +kernel
theorem dX6_recorded_12 : decode cX6_recorded 12 = .ok (.invokevirtual 196, 3) := by decide +kernel
theorem dX6_recorded_15 : decode cX6_recorded 15 = .ok (.iload_n 1, 1) := by decide +kernel
theorem dX6_recorded_16 : decode cX6_recorded 16 = .ok (.ireturn, 1) := by decide +kernel
set_option maxRecDepth 20000 in
theorem ggX6_obeyNextOrder_X4_readNextOrder : GoodIn wsX6_obeyNextOrder wsX4_readNextOrder := goodIn_r _ [11, 12, 13, 14, 10, 15, 16, 17, 18, 19, 20, 21, 22, 23, 24, 25, 26, 27, 28, 29, 30, 31, 32, 33, 34, 35, 36, 37, 38, 39, 40, 41, 42, 43, 44, 218, 219, 220, 221, 222, 223] (by decide +kernel) (by decide +kernel)
set_option maxRecDepth 20000 in
theorem gX6_obeyNextOrder_X4_readNextOrder : GoodIn wsX6_obeyNextOrder (wsV RX6 199 RX4 yX4_readNextOrder wsX4_readNextOrder) := goodIn_app (goodIn_of _ (by decide +kernel)) ggX6_obeyNextOrder_X4_readNextOrder
set_option maxRecDepth 20000 in
theorem ggX6_obeyNextOrder_X2_changeFire : GoodIn wsX6_obeyNextOrder wsX2_changeFire := goodIn_r _ [49, 50, 51, 52, 53, 54, 48, 55, 56, 42, 43, 44, 224, 225, 226, 227, 228, 229, 230, 231, 232, 233, 234, 235, 236, 237, 238, 239, 240, 241, 242] (by decide +kernel) (by decide +kernel)
set_option maxRecDepth 20000 in
theorem gX6_obeyNextOrder_X2_changeFire : GoodIn wsX6_obeyNextOrder (wsV RX6 57 RX2 yX2_changeFire wsX2_changeFire) := goodIn_app (goodIn_of _ (by decide +kernel)) ggX6_obeyNextOrder_X2_changeFire
set_option maxRecDepth 20000 in
theorem ggX6_obeyNextOrder_X2_letWaterIn : GoodIn wsX6_obeyNextOrder wsX2_letWaterIn := goodIn_r _ [60, 61, 52, 53, 54, 48, 55, 56, 42, 43, 44, 224, 225, 226, 227, 228, 229, 230, 231, 232, 233, 234, 235, 236, 237, 238, 239, 240, 241, 242] (by decide +kernel) (by decide +kernel)
set_option maxRecDepth 20000 in
theorem gX6_obeyNextOrder_X2_letWaterIn : GoodIn wsX6_obeyNextOrder (wsV RX6 65 RX2 yX2_letWaterIn wsX2_letWaterIn) := goodIn_app (goodIn_of _ (by decide +kernel)) ggX6_obeyNextOrder_X2_letWaterIn
set_option maxRecDepth 20000 in
theorem ggX6_obeyNextOrder_X2_startLoad : GoodIn wsX6_obeyNextOrder wsX2_startLoad := goodIn_r _ [65, 66, 67, 68, 69, 70, 48, 71, 72, 42, 43, 44, 73, 74, 75, 76, 77, 78, 79, 80, 81, 82, 83, 84, 85, 86, 87, 88, 89, 90, 56, 91, 92, 93, 94, 95, 96, 97, 98, 99, 100, 101, 102, 103, 104, 105, 106, 107, 108, 109, 110, 111, 112, 113, 114, 115, 116, 117, 118, 119, 120, 121, 122, 123, 124, 125, 126, 127, 128, 129, 130, 131, 132, 133, 134, 135, 136, 137, 138, 139, 140, 141, 142, 143, 144, 145, 146, 147, 148, 149, 150, 151, 152, 153, 154, 155, 156, 157, 158, 159, 160, 161, 162, 163, 164, 165, 166, 167, 168, 169, 170, 171, 172, 173, 174, 175, 176, 177, 178, 179, 180, 181, 229, 230, 231, 232, 233, 234, 235, 236, 237, 238, 239, 240, 241, 242, 243, 244, 245, 224, 225, 226, 227, 228, 246, 247] (by decide +kernel) (by decide +kernel)
set_option maxRecDepth 20000 in
theorem gX6_obeyNextOrder_X2_startLoad : GoodIn wsX6_obeyNextOrder (wsV RX6 71 RX2 yX2_startLoad wsX2_startLoad) := goodIn_app (goodIn_of _ (by decide +kernel)) ggX6_obeyNextOrder_X2_startLoad
set_option maxRecDepth 20000 in
theorem ggX6_obeyNextOrder_X2_addToLine : GoodIn wsX6_obeyNextOrder wsX2_addToLine := goodIn_r _ [185, 96, 42, 43, 44, 186, 187, 188, 126, 189, 128, 129, 229, 230, 231, 232, 233, 234, 235, 236, 237, 238, 239, 240, 241, 242, 246, 247] (by decide +kernel) (by decide +kernel)
set_option maxRecDepth 20000 in
theorem gX6_obeyNextOrder_X2_addToLine : GoodIn wsX6_obeyNextOrder (wsV RX6 75 RX2 yX2_addToLine wsX2_addToLine) := goodIn_app (goodIn_of _ (by decide +kernel)) ggX6_obeyNextOrder_X2_addToLine
set_option maxRecDepth 20000 in
theorem ggX6_obeyNextOrder_X2_letPass : GoodIn wsX6_obeyNextOrder wsX2_letPass := goodIn_r _ [193, 97, 194, 98, 42, 43, 44, 195, 196, 197, 48, 198, 96, 66, 136, 137, 138, 139, 56, 101, 100, 140, 141, 142, 143, 102, 144, 145, 146, 147, 103, 148, 149, 150, 110, 151, 115, 112, 113, 114, 152, 153, 154, 155, 72, 156, 157, 158, 87, 88, 89, 90, 91, 159, 160, 161, 162, 106, 163, 99, 73, 74, 75, 76, 77, 78, 164, 165, 166, 167, 121, 122, 168, 169, 170, 171, 172, 173, 174, 175, 67, 105, 176, 177, 178, 179, 180, 181, 116, 199, 200, 201, 126, 202, 128, 129, 79, 80, 81, 82, 83, 84, 85, 86, 92, 93, 94, 95, 104, 107, 108, 109, 111, 117, 118, 119, 120, 123, 124, 125, 127, 130, 131, 132, 133, 134, 135, 203, 204, 205, 206, 207, 229, 230, 231, 232, 233, 234, 235, 236, 237, 238, 239, 240, 241, 242, 224, 225, 226, 227, 228, 243, 244, 245, 246, 247] (by decide +kernel) (by decide +kernel)
set_option maxRecDepth 20000 in
theorem gX6_obeyNextOrder_X2_letPass : GoodIn wsX6_obeyNextOrder (wsV RX6 84 RX2 yX2_letPass wsX2_letPass) := goodIn_app (goodIn_of _ (by decide +kernel)) ggX6_obeyNextOrder_X2_letPass
theorem dX6_obeyNextOrder_0 : decode cX6_obeyNextOrder 0 = .ok (.aload_n 0, 1) := by decide +kernel
theorem dX6_obeyNextOrder_1 : decode cX6_obeyNextOrder 1 = .ok (.getfield 38, 3) := by decide +kernel
theorem dX6_obeyNextOrder_4 : decode cX6_obeyNextOrder 4 = .ok (.invokevirtual 199, 3) := by decide +kernel
theorem dX6_obeyNextOrder_7 : decode cX6_obeyNextOrder 7 = .ok (.aload_n 0, 1) := by decide +kernel
theorem dX6_obeyNextOrder_8 : decode cX6_obeyNextOrder 8 = .ok (.getfield 38, 3) := by decide +kernel
theorem dX6_obeyNextOrder_11 : decode cX6_obeyNextOrder 11 = .ok (.getfield 202, 3) := by decide +kernel
theorem dX6_obeyNextOrder_14 : decode cX6_obeyNextOrder 14 = .ok (.lookupswitch 127 #[(102, 42), (108, 112), (109, 86), (119, 64)], 42) := by decide +kernel
theorem dX6_obeyNextOrder_56 : decode cX6_obeyNextOrder 56 = .ok (.aload_n 0, 1) := by decide +kernel
theorem dX6_obeyNextOrder_57 : decode cX6_obeyNextOrder 57 = .ok (.getfield 10, 3) := by decide +kernel
theorem dX6_obeyNextOrder_60 : decode cX6_obeyNextOrder 60 = .ok (.aload_n 0, 1) := by decide +kernel
theorem dX6_obeyNextOrder_61 : decode cX6_obeyNextOrder 61 = .ok (.getfield 38, 3) := by decide +kernel
theorem dX6_obeyNextOrder_64 : decode cX6_obeyNextOrder 64 = .ok (.getfield 205, 3) := by decide +kernel
theorem dX6_obeyNextOrder_67 : decode cX6_obeyNextOrder 67 = .ok (.aload_n 0, 1) := by decide +kernel
theorem dX6_obeyNextOrder_68 : decode cX6_obeyNextOrder 68 = .ok (.getfield 38, 3) := by decide +kernel
theorem dX6_obeyNextOrder_71 : decode cX6_obeyNextOrder 71 = .ok (.getfield 208, 3) := by decide +kernel
theorem dX6_obeyNextOrder_74 : decode cX6_obeyNextOrder 74 = .ok (.invokevirtual 57, 3) := by decide +kernel
theorem dX6_obeyNextOrder_77 : decode cX6_obeyNextOrder 77 = .ok (.ireturn, 1) := by decide +kernel
theorem dX6_obeyNextOrder_78 : decode cX6_obeyNextOrder 78 = .ok (.aload_n 0, 1) := by decide +kernel
theorem dX6_obeyNextOrder_79 : decode cX6_obeyNextOrder 79 = .ok (.getfield 10, 3) := by decide +kernel
theorem dX6_obeyNextOrder_82 : decode cX6_obeyNextOrder 82 = .ok (.aload_n 0, 1) := by decide +kernel
theorem dX6_obeyNextOrder_83 : decode cX6_obeyNextOrder 83 = .ok (.getfield 38, 3) := by decide +kernel
theorem dX6_obeyNextOrder_86 : decode cX6_obeyNextOrder 86 = .ok (.getfield 205, 3) := by decide +kernel
theorem dX6_obeyNextOrder_89 : decode cX6_obeyNextOrder 89 = .ok (.aload_n 0, 1) := by decide +kernel
theorem dX6_obeyNextOrder_90 : decode cX6_obeyNextOrder 90 = .ok (.getfield 38, 3) := by decide +kernel
theorem dX6_obeyNextOrder_93 : decode cX6_obeyNextOrder 93 = .ok (.getfield 208, 3) := by decide +kernel
theorem dX6_obeyNextOrder_96 : decode cX6_obeyNextOrder 96 = .ok (.invokevirtual 65, 3) := by decide +kernel
theorem dX6_obeyNextOrder_99 : decode cX6_obeyNextOrder 99 = .ok (.ireturn, 1) := by decide +kernel
theorem dX6_obeyNextOrder_100 : decode cX6_obeyNextOrder 100 = .ok (.aload_n 0, 1) := by decide +kernel
theorem dX6_obeyNextOrder_101 : decode cX6_obeyNextOrder 101 = .ok (.getfield 10, 3) := by decide +kernel
theorem dX6_obeyNextOrder_104 : decode cX6_obeyNextOrder 104 = .ok (.aload_n 0, 1) := by decide +kernel
theorem dX6_obeyNextOrder_105 : decode cX6_obeyNextOrder 105 = .ok (.getfield 38, 3) := by decide +kernel
theorem dX6_obeyNextOrder_108 : decode cX6_obeyNextOrder 108 = .ok (.getfield 205, 3) := by decide +kernel
theorem dX6_obeyNextOrder_111 : decode cX6_obeyNextOrder 111 = .ok (.aload_n 0, 1) := by decide +kernel
theorem dX6_obeyNextOrder_112 : decode cX6_obeyNextOrder 112 = .ok (.getfield 38, 3) := by decide +kernel
theorem dX6_obeyNextOrder_115 : decode cX6_obeyNextOrder 115 = .ok (.getfield 208, 3) := by decide +kernel
theorem dX6_obeyNextOrder_118 : decode cX6_obeyNextOrder 118 = .ok (.aload_n 0, 1) := by decide +kernel
theorem dX6_obeyNextOrder_119 : decode cX6_obeyNextOrder 119 = .ok (.getfield 22, 3) := by decide +kernel
theorem dX6_obeyNextOrder_122 : decode cX6_obeyNextOrder 122 = .ok (.invokevirtual 71, 3) := by decide +kernel
theorem dX6_obeyNextOrder_125 : decode cX6_obeyNextOrder 125 = .ok (.ireturn, 1) := by decide +kernel
theorem dX6_obeyNextOrder_126 : decode cX6_obeyNextOrder 126 = .ok (.aload_n 0, 1) := by decide +kernel
theorem dX6_obeyNextOrder_127 : decode cX6_obeyNextOrder 127 = .ok (.getfield 10, 3) := by decide +kernel
theorem dX6_obeyNextOrder_130 : decode cX6_obeyNextOrder 130 = .ok (.aload_n 0, 1) := by decide +kernel
theorem dX6_obeyNextOrder_131 : decode cX6_obeyNextOrder 131 = .ok (.getfield 38, 3) := by decide +kernel
theorem dX6_obeyNextOrder_134 : decode cX6_obeyNextOrder 134 = .ok (.getfield 208, 3) := by decide +kernel
theorem dX6_obeyNextOrder_137 : decode cX6_obeyNextOrder 137 = .ok (.invokevirtual 75, 3) := by decide +kernel
theorem dX6_obeyNextOrder_140 : decode cX6_obeyNextOrder 140 = .ok (.ireturn, 1) := by decide +kernel
theorem dX6_obeyNextOrder_141 : decode cX6_obeyNextOrder 141 = .ok (.aload_n 0, 1) := by decide +kernel
theorem dX6_obeyNextOrder_142 : decode cX6_obeyNextOrder 142 = .ok (.getfield 10, 3) := by decide +kernel
theorem dX6_obeyNextOrder_145 : decode cX6_obeyNextOrder 145 = .ok (.aload_n 0, 1) := by decide +kernel
theorem dX6_obeyNextOrder_146 : decode cX6_obeyNextOrder 146 = .ok (.getfield 38, 3) := by decide +kernel
theorem dX6_obeyNextOrder_149 : decode cX6_obeyNextOrder 149 = .ok (.getfield 208, 3) := by decide +kernel
theorem dX6_obeyNextOrder_152 : decode cX6_obeyNextOrder 152 = .ok (.aload_n 0, 1) := by decide +kernel
theorem dX6_obeyNextOrder_153 : decode cX6_obeyNextOrder 153 = .ok (.getfield 22, 3) := by decide +kernel
theorem dX6_obeyNextOrder_156 : decode cX6_obeyNextOrder 156 = .ok (.invokevirtual 84, 3) := by decide +kernel
theorem dX6_obeyNextOrder_159 : decode cX6_obeyNextOrder 159 = .ok (.ireturn, 1) := by decide +kernel
set_option maxRecDepth 20000 in
theorem ggX6_lookAhead_X2_copyFrom : GoodIn wsX6_lookAhead wsX2_copyFrom := goodIn_r _ [8, 9, 10, 11, 12, 13, 14, 15, 16, 17, 18, 19, 20, 21, 22, 23, 24, 25, 26, 27, 28, 29, 30, 31, 32, 33, 34, 35, 36, 37, 38, 39, 40, 41, 42, 43, 44, 45, 46, 47, 152, 153, 154, 155, 156, 157, 158, 159, 160, 161, 162, 163, 164, 165, 166, 167, 168, 169, 170, 171, 172, 173, 174, 175] (by decide +kernel) (by decide +kernel)
set_option maxRecDepth 20000 in
theorem gX6_lookAhead_X2_copyFrom : GoodIn wsX6_lookAhead (wsV RX6 53 RX2 yX2_copyFrom wsX2_copyFrom) := goodIn_app (goodIn_of _ (by decide +kernel)) ggX6_lookAhead_X2_copyFrom
set_option maxRecDepth 20000 in
theorem ggX6_lookAhead_X2_lightFires : GoodIn wsX6_lookAhead wsX2_lightFires := goodIn_r _ [51, 52, 53, 54, 55, 7, 56, 9, 166, 167, 168, 169, 170, 152, 153, 154, 155, 156, 157, 158, 159, 160, 161, 162, 163, 164, 165] (by decide +kernel) (by decide +kernel)
set_option maxRecDepth 20000 in
theorem gX6_lookAhead_X2_lightFires : GoodIn wsX6_lookAhead (wsV RX6 211 RX2 yX2_lightFires wsX2_lightFires) := goodIn_app (goodIn_of _ (by decide +kernel)) ggX6_lookAhead_X2_lightFires
set_option maxRecDepth 20000 in
theorem ggX6_lookAhead_X2_passTick : GoodIn wsX6_lookAhead wsX2_passTick := goodIn_r _ [60, 11, 19, 61, 62, 63, 7, 64, 12, 9, 16, 15, 65, 66, 67, 68, 17, 69, 70, 71, 72, 18, 73, 74, 75, 26, 76, 31, 28, 29, 30, 77, 78, 79, 80, 10, 81, 82, 83, 84, 85, 86, 87, 88, 89, 90, 91, 92, 93, 22, 94, 14, 95, 96, 97, 36, 98, 38, 99, 100, 101, 102, 39, 40, 103, 104, 105, 106, 107, 108, 109, 110, 111, 13, 21, 112, 113, 114, 115, 116, 117, 32, 118, 119, 120, 44, 121, 46, 47, 122, 123, 124, 125, 126, 127, 128, 129, 130, 5, 6, 8, 20, 23, 24, 25, 27, 33, 34, 35, 37, 41, 42, 43, 45, 131, 132, 133, 134, 135, 136, 137, 138, 139, 140, 141, 152, 153, 154, 155, 156, 157, 158, 159, 160, 161, 162, 163, 164, 165, 166, 167, 168, 169, 170, 171, 172, 173, 174, 175] (by decide +kernel) (by decide +kernel)
set_option maxRecDepth 20000 in
theorem gX6_lookAhead_X2_passTick : GoodIn wsX6_lookAhead (wsV RX6 168 RX2 yX2_passTick wsX2_passTick) := goodIn_app (goodIn_of _ (by decide +kernel)) ggX6_lookAhead_X2_passTick
theorem dX6_lookAhead_0 : decode cX6_lookAhead 0 = .ok (.aload_n 0, 1) := by decide +kernel
theorem dX6_lookAhead_1 : decode cX6_lookAhead 1 = .ok (.getfield 19, 3) := by decide +kernel
theorem dX6_lookAhead_4 : decode cX6_lookAhead 4 = .ok (.aload_n 0, 1) := by decide +kernel
theorem dX6_lookAhead_5 : decode cX6_lookAhead 5 = .ok (.getfield 10, 3) := by decide +kernel
theorem dX6_lookAhead_8 : decode cX6_lookAhead 8 = .ok (.invokevirtual 53, 3) := by decide +kernel
theorem dX6_lookAhead_11 : decode cX6_lookAhead 11 = .ok (.aload_n 0, 1) := by decide +kernel
theorem dX6_lookAhead_12 : decode cX6_lookAhead 12 = .ok (.getfield 19, 3) := by decide +kernel
theorem dX6_lookAhead_15 : decode cX6_lookAhead 15 = .ok (.iload_n 1, 1) := by decide +kernel
theorem dX6_lookAhead_16 : decode cX6_lookAhead 16 = .ok (.iload_n 2, 1) := by decide +kernel
theorem dX6_lookAhead_17 : decode cX6_lookAhead 17 = .ok (.invokevirtual 211, 3) := by decide +kernel
theorem dX6_lookAhead_20 : decode cX6_lookAhead 20 = .ok (.iconst 0, 1) := by decide +kernel
theorem dX6_lookAhead_21 : decode cX6_lookAhead 21 = .ok (.istore 4, 2) := by decide +kernel
theorem dX6_lookAhead_23 : decode cX6_lookAhead 23 = .ok (.iload 4, 2) := by decide +kernel
theorem dX6_lookAhead_25 : decode cX6_lookAhead 25 = .ok (.iload_n 3, 1) := by decide +kernel
theorem dX6_lookAhead_26 : decode cX6_lookAhead 26 = .ok (.if_icmp .ge 20, 3) := by decide +kernel
theorem dX6_lookAhead_29 : decode cX6_lookAhead 29 = .ok (.aload_n 0, 1) := by decide +kernel
theorem dX6_lookAhead_30 : decode cX6_lookAhead 30 = .ok (.getfield 19, 3) := by decide +kernel
theorem dX6_lookAhead_33 : decode cX6_lookAhead 33 = .ok (.aload_n 0, 1) := by decide +kernel
theorem dX6_lookAhead_34 : decode cX6_lookAhead 34 = .ok (.getfield 22, 3) := by decide +kernel
theorem dX6_lookAhead_37 : decode cX6_lookAhead 37 = .ok (.invokevirtual 168, 3) := by decide +kernel
theorem dX6_lookAhead_40 : decode cX6_lookAhead 40 = .ok (.iinc 4 1, 3) := by decide +kernel
theorem dX6_lookAhead_43 : decode cX6_lookAhead 43 = .ok (.goto (-20), 3) := by decide +kernel
theorem dX6_lookAhead_46 : decode cX6_lookAhead 46 = .ok (.return_, 1) := by decide +kernel
theorem dX6_isWithin_0 : decode cX6_isWithin 0 = .ok (.iload_n 0, 1) := by decide +kernel
theorem dX6_isWithin_1 : decode cX6_isWithin 1 = .ok (.iload_n 1, 1) := by decide +kernel
theorem dX6_isWithin_2 : decode cX6_isWithin 2 = .ok (.if_icmp .lt 12, 3) := by decide +kernel
theorem dX6_isWithin_5 : decode cX6_isWithin 5 = .ok (.iload_n 0, 1) := by decide +kernel
theorem dX6_isWithin_6 : decode cX6_isWithin 6 = .ok (.iload_n 2, 1) := by decide +kernel
theorem dX6_isWithin_7 : decode cX6_isWithin 7 = .ok (.if_icmp .gt 7, 3) := by decide +kernel
theorem dX6_isWithin_10 : decode cX6_isWithin 10 = .ok (.iconst 1, 1) := by decide +kernel
theorem dX6_isWithin_11 : decode cX6_isWithin 11 = .ok (.goto 4, 3) := by decide +kernel
theorem dX6_isWithin_14 : decode cX6_isWithin 14 = .ok (.iconst 0, 1) := by decide +kernel
theorem dX6_isWithin_15 : decode cX6_isWithin 15 = .ok (.ireturn, 1) := by decide +kernel
theorem dX6_ticksOf_0 : decode cX6_ticksOf 0 = .ok (.iload_n 0, 1) := by decide +kernel
theorem dX6_ticksOf_1 : decode cX6_ticksOf 1 = .ok (.tableswitch 35 0 2 #[27, 29, 32], 27) := by decide +kernel
theorem dX6_ticksOf_28 : decode cX6_ticksOf 28 = .ok (.iconst 4, 1) := by decide +kernel
theorem dX6_ticksOf_29 : decode cX6_ticksOf 29 = .ok (.ireturn, 1) := by decide +kernel
theorem dX6_ticksOf_30 : decode cX6_ticksOf 30 = .ok (.bipush 6, 2) := by decide +kernel
theorem dX6_ticksOf_32 : decode cX6_ticksOf 32 = .ok (.ireturn, 1) := by decide +kernel
theorem dX6_ticksOf_33 : decode cX6_ticksOf 33 = .ok (.bipush 9, 2) := by decide +kernel
theorem dX6_ticksOf_35 : decode cX6_ticksOf 35 = .ok (.ireturn, 1) := by decide +kernel
theorem dX6_ticksOf_36 : decode cX6_ticksOf 36 = .ok (.iconst 0, 1) := by decide +kernel
theorem dX6_ticksOf_37 : decode cX6_ticksOf 37 = .ok (.ireturn, 1) := by decide +kernel
theorem dX6_steamOf_0 : decode cX6_steamOf 0 = .ok (.iload_n 0, 1) := by decide +kernel
theorem dX6_steamOf_1 : decode cX6_steamOf 1 = .ok (.tableswitch 34 0 2 #[27, 29, 31], 27) := by decide +kernel
theorem dX6_steamOf_28 : decode cX6_steamOf 28 = .ok (.iconst 2, 1) := by decide +kernel
theorem dX6_steamOf_29 : decode cX6_steamOf 29 = .ok (.ireturn, 1) := by decide +kernel
theorem dX6_steamOf_30 : decode cX6_steamOf 30 = .ok (.iconst 4, 1) := by decide +kernel
theorem dX6_steamOf_31 : decode cX6_steamOf 31 = .ok (.ireturn, 1) := by decide +kernel
theorem dX6_steamOf_32 : decode cX6_steamOf 32 = .ok (.bipush 6, 2) := by decide +kernel
theorem dX6_steamOf_34 : decode cX6_steamOf 34 = .ok (.ireturn, 1) := by decide +kernel
theorem dX6_steamOf_35 : decode cX6_steamOf 35 = .ok (.iconst 0, 1) := by decide +kernel
theorem dX6_steamOf_36 : decode cX6_steamOf 36 = .ok (.ireturn, 1) := by decide +kernel
theorem dX6_worthOf_0 : decode cX6_worthOf 0 = .ok (.iload_n 0, 1) := by decide +kernel
theorem dX6_worthOf_1 : decode cX6_worthOf 1 = .ok (.tableswitch 34 0 2 #[27, 29, 31], 27) := by decide +kernel
theorem dX6_worthOf_28 : decode cX6_worthOf 28 = .ok (.iconst 3, 1) := by decide +kernel
theorem dX6_worthOf_29 : decode cX6_worthOf 29 = .ok (.ireturn, 1) := by decide +kernel
theorem dX6_worthOf_30 : decode cX6_worthOf 30 = .ok (.iconst 5, 1) := by decide +kernel
theorem dX6_worthOf_31 : decode cX6_worthOf 31 = .ok (.ireturn, 1) := by decide +kernel
theorem dX6_worthOf_32 : decode cX6_worthOf 32 = .ok (.bipush 9, 2) := by decide +kernel
theorem dX6_worthOf_34 : decode cX6_worthOf 34 = .ok (.ireturn, 1) := by decide +kernel
theorem dX6_worthOf_35 : decode cX6_worthOf 35 = .ok (.iconst 0, 1) := by decide +kernel
theorem dX6_worthOf_36 : decode cX6_worthOf 36 = .ok (.ireturn, 1) := by decide +kernel
theorem dX7_init_0 : decode cX7_init 0 = .ok (.aload_n 0, 1) := by decide +kernel
theorem dX7_init_1 : decode cX7_init 1 = .ok (.invokespecial 1, 3) := by decide +kernel
theorem dX7_init_4 : decode cX7_init 4 = .ok (.aload_n 0, 1) := by decide +kernel
theorem dX7_init_5 : decode cX7_init 5 = .ok (.sipush 368, 3) := by decide +kernel
theorem dX7_init_8 : decode cX7_init 8 = .ok (.newarray .int, 2) := by decide +kernel
theorem dX7_init_10 : decode cX7_init 10 = .ok (.putfield 7, 3) := by decide +kernel
theorem dX7_init_13 : decode cX7_init 13 = .ok (.aload_n 0, 1) := by decide +kernel
theorem dX7_init_14 : decode cX7_init 14 = .ok (.bipush 80, 2) := by decide +kernel
theorem dX7_init_16 : decode cX7_init 16 = .ok (.newarray .char, 2) := by decide +kernel
theorem dX7_init_18 : decode cX7_init 18 = .ok (.putfield 13, 3) := by decide +kernel
theorem dX7_init_21 : decode cX7_init 21 = .ok (.aload_n 0, 1) := by decide +kernel
theorem dX7_init_22 : decode cX7_init 22 = .ok (.bipush 123, 2) := by decide +kernel
theorem dX7_init_24 : decode cX7_init 24 = .ok (.newarray .int, 2) := by decide +kernel
theorem dX7_init_26 : decode cX7_init 26 = .ok (.putfield 17, 3) := by decide +kernel
theorem dX7_init_29 : decode cX7_init 29 = .ok (.aload_n 0, 1) := by decide +kernel
theorem dX7_init_30 : decode cX7_init 30 = .ok (.iconst (-1), 1) := by decide +kernel
theorem dX7_init_31 : decode cX7_init 31 = .ok (.putfield 20, 3) := by decide +kernel
theorem dX7_init_34 : decode cX7_init 34 = .ok (.aload_n 0, 1) := by decide +kernel
theorem dX7_init_35 : decode cX7_init 35 = .ok (.getfield 7, 3) := by decide +kernel
theorem dX7_init_38 : decode cX7_init 38 = .ok (.iconst 2, 1) := by decide +kernel
theorem dX7_init_39 : decode cX7_init 39 = .ok (.bipush 100, 2) := by decide +kernel
theorem dX7_init_41 : decode cX7_init 41 = .ok (.iastore, 1) := by decide +kernel
theorem dX7_init_42 : decode cX7_init 42 = .ok (.aload_n 0, 1) := by decide +kernel
theorem dX7_init_43 : decode cX7_init 43 = .ok (.getfield 7, 3) := by decide +kernel
theorem dX7_init_46 : decode cX7_init 46 = .ok (.iconst 3, 1) := by decide +kernel
theorem dX7_init_47 : decode cX7_init 47 = .ok (.bipush 100, 2) := by decide +kernel
theorem dX7_init_49 : decode cX7_init 49 = .ok (.iastore, 1) := by decide +kernel
theorem dX7_init_50 : decode cX7_init 50 = .ok (.aload_n 0, 1) := by decide +kernel
theorem dX7_init_51 : decode cX7_init 51 = .ok (.getfield 7, 3) := by decide +kernel
theorem dX7_init_54 : decode cX7_init 54 = .ok (.bipush 10, 2) := by decide +kernel
theorem dX7_init_56 : decode cX7_init 56 = .ok (.bipush 50, 2) := by decide +kernel
theorem dX7_init_58 : decode cX7_init 58 = .ok (.iastore, 1) := by decide +kernel
theorem dX7_init_59 : decode cX7_init 59 = .ok (.aload_n 0, 1) := by decide +kernel
theorem dX7_init_60 : decode cX7_init 60 = .ok (.getfield 7, 3) := by decide +kernel
theorem dX7_init_63 : decode cX7_init 63 = .ok (.bipush 11, 2) := by decide +kernel
theorem dX7_init_65 : decode cX7_init 65 = .ok (.bipush 40, 2) := by decide +kernel
theorem dX7_init_67 : decode cX7_init 67 = .ok (.iastore, 1) := by decide +kernel
theorem dX7_init_68 : decode cX7_init 68 = .ok (.iconst 0, 1) := by decide +kernel
theorem dX7_init_69 : decode cX7_init 69 = .ok (.istore_n 1, 1) := by decide +kernel
theorem dX7_init_70 : decode cX7_init 70 = .ok (.iload_n 1, 1) := by decide +kernel
theorem dX7_init_71 : decode cX7_init 71 = .ok (.iconst 4, 1) := by decide +kernel
theorem dX7_init_72 : decode cX7_init 72 = .ok (.if_icmp .ge 19, 3) := by decide +kernel
theorem dX7_init_75 : decode cX7_init 75 = .ok (.aload_n 0, 1) := by decide +kernel
theorem dX7_init_76 : decode cX7_init 76 = .ok (.getfield 7, 3) := by decide +kernel
theorem dX7_init_79 : decode cX7_init 79 = .ok (.bipush 13, 2) := by decide +kernel
theorem dX7_init_81 : decode cX7_init 81 = .ok (.iload_n 1, 1) := by decide +kernel
theorem dX7_init_82 : decode cX7_init 82 = .ok (.iadd, 1) := by decide +kernel
theorem dX7_init_83 : decode cX7_init 83 = .ok (.iconst (-1), 1) := by decide +kernel
theorem dX7_init_84 : decode cX7_init 84 = .ok (.iastore, 1) := by decide +kernel
theorem dX7_init_85 : decode cX7_init 85 = .ok (.iinc 1 1, 3) := by decide +kernel
theorem dX7_init_88 : decode cX7_init 88 = .ok (.goto (-18), 3) := by decide +kernel
theorem dX7_init_91 : decode cX7_init 91 = .ok (.return_, 1) := by decide +kernel
theorem dX7_in_0 : decode cX7_in 0 = .ok (.iload_n 0, 1) := by decide +kernel
theorem dX7_in_1 : decode cX7_in 1 = .ok (.iload_n 1, 1) := by decide +kernel
theorem dX7_in_2 : decode cX7_in 2 = .ok (.if_icmp .lt 12, 3) := by decide +kernel
theorem dX7_in_5 : decode cX7_in 5 = .ok (.iload_n 0, 1) := by decide +kernel
theorem dX7_in_6 : decode cX7_in 6 = .ok (.iload_n 2, 1) := by decide +kernel
theorem dX7_in_7 : decode cX7_in 7 = .ok (.if_icmp .gt 7, 3) := by decide +kernel
theorem dX7_in_10 : decode cX7_in 10 = .ok (.iconst 1, 1) := by decide +kernel
theorem dX7_in_11 : decode cX7_in 11 = .ok (.goto 4, 3) := by decide +kernel
theorem dX7_in_14 : decode cX7_in 14 = .ok (.iconst 0, 1) := by decide +kernel
theorem dX7_in_15 : decode cX7_in 15 = .ok (.ireturn, 1) := by decide +kernel
theorem dX7_ticksOf_0 : decode cX7_ticksOf 0 = .ok (.iload_n 0, 1) := by decide +kernel
theorem dX7_ticksOf_1 : decode cX7_ticksOf 1 = .ok (.ifCond .ne 7, 3) := by decide +kernel
theorem dX7_ticksOf_4 : decode cX7_ticksOf 4 = .ok (.iconst 4, 1) := by decide +kernel
theorem dX7_ticksOf_5 : decode cX7_ticksOf 5 = .ok (.goto 15, 3) := by decide +kernel
theorem dX7_ticksOf_8 : decode cX7_ticksOf 8 = .ok (.iload_n 0, 1) := by decide +kernel
theorem dX7_ticksOf_9 : decode cX7_ticksOf 9 = .ok (.iconst 1, 1) := by decide +kernel
theorem dX7_ticksOf_10 : decode cX7_ticksOf 10 = .ok (.if_icmp .ne 8, 3) := by decide +kernel
theorem dX7_ticksOf_13 : decode cX7_ticksOf 13 = .ok (.bipush 6, 2) := by decide +kernel
theorem dX7_ticksOf_15 : decode cX7_ticksOf 15 = .ok (.goto 5, 3) := by decide +kernel
theorem dX7_ticksOf_18 : decode cX7_ticksOf 18 = .ok (.bipush 9, 2) := by decide +kernel
theorem dX7_ticksOf_20 : decode cX7_ticksOf 20 = .ok (.ireturn, 1) := by decide +kernel
theorem dX7_worthOf_0 : decode cX7_worthOf 0 = .ok (.iload_n 0, 1) := by decide +kernel
theorem dX7_worthOf_1 : decode cX7_worthOf 1 = .ok (.ifCond .ne 7, 3) := by decide +kernel
theorem dX7_worthOf_4 : decode cX7_worthOf 4 = .ok (.iconst 3, 1) := by decide +kernel
theorem dX7_worthOf_5 : decode cX7_worthOf 5 = .ok (.goto 14, 3) := by decide +kernel
theorem dX7_worthOf_8 : decode cX7_worthOf 8 = .ok (.iload_n 0, 1) := by decide +kernel
theorem dX7_worthOf_9 : decode cX7_worthOf 9 = .ok (.iconst 1, 1) := by decide +kernel
theorem dX7_worthOf_10 : decode cX7_worthOf 10 = .ok (.if_icmp .ne 7, 3) := by decide +kernel
theorem dX7_worthOf_13 : decode cX7_worthOf 13 = .ok (.iconst 5, 1) := by decide +kernel
theorem dX7_worthOf_14 : decode cX7_worthOf 14 = .ok (.goto 5, 3) := by decide +kernel
theorem dX7_worthOf_17 : decode cX7_worthOf 17 = .ok (.bipush 9, 2) := by decide +kernel
theorem dX7_worthOf_19 : decode cX7_worthOf 19 = .ok (.ireturn, 1) := by decide +kernel
theorem dX7_copies_0 : decode cX7_copies 0 = .ok (.iconst 0, 1) := by decide +kernel
theorem dX7_copies_1 : decode cX7_copies 1 = .ok (.istore_n 3, 1) := by decide +kernel
theorem dX7_copies_2 : decode cX7_copies 2 = .ok (.iload_n 3, 1) := by decide +kernel
theorem dX7_copies_3 : decode cX7_copies 3 = .ok (.bipush 46, 2) := by decide +kernel
theorem dX7_copies_5 : decode cX7_copies 5 = .ok (.if_icmp .ge 31, 3) := by decide +kernel
theorem dX7_copies_8 : decode cX7_copies 8 = .ok (.aload_n 0, 1) := by decide +kernel
theorem dX7_copies_9 : decode cX7_copies 9 = .ok (.getfield 7, 3) := by decide +kernel
theorem dX7_copies_12 : decode cX7_copies 12 = .ok (.bipush 46, 2) := by decide +kernel
theorem dX7_copies_14 : decode cX7_copies 14 = .ok (.iload_n 2, 1) := by decide +kernel
theorem dX7_copies_15 : decode cX7_copies 15 = .ok (.imul, 1) := by decide +kernel
theorem dX7_copies_16 : decode cX7_copies 16 = .ok (.iload_n 3, 1) := by decide +kernel
theorem dX7_copies_17 : decode cX7_copies 17 = .ok (.iadd, 1) := by decide +kernel
theorem dX7_copies_18 : decode cX7_copies 18 = .ok (.aload_n 0, 1) := by decide +kernel
theorem dX7_copies_19 : decode cX7_copies 19 = .ok (.getfield 7, 3) := by decide +kernel
theorem dX7_copies_22 : decode cX7_copies 22 = .ok (.bipush 46, 2) := by decide +kernel
theorem dX7_copies_24 : decode cX7_copies 24 = .ok (.iload_n 1, 1) := by decide +kernel
theorem dX7_copies_25 : decode cX7_copies 25 = .ok (.imul, 1) := by decide +kernel
theorem dX7_copies_26 : decode cX7_copies 26 = .ok (.iload_n 3, 1) := by decide +kernel
theorem dX7_copies_27 : decode cX7_copies 27 = .ok (.iadd, 1) := by decide +kernel
theorem dX7_copies_28 : decode cX7_copies 28 = .ok (.iaload, 1) := by decide +kernel
theorem dX7_copies_29 : decode cX7_copies 29 = .ok (.iastore, 1) := by decide +kernel
theorem dX7_copies_30 : decode cX7_copies 30 = .ok (.iinc 3 1, 3) := by decide +kernel
theorem dX7_copies_33 : decode cX7_copies 33 = .ok (.goto (-31), 3) := by decide +kernel
theorem dX7_copies_36 : decode cX7_copies 36 = .ok (.return_, 1) := by decide +kernel
set_option maxRecDepth 20000 in
theorem ggX7_records_X7_copies : GoodIn wsX7_records wsX7_copies := goodIn_r _ [6, 7, 8, 9, 10, 11, 12, 13, 14, 15, 16, 17, 18] (by decide +kernel) (by decide +kernel)
set_option maxRecDepth 20000 in
theorem gX7_records_X7_copies : GoodIn wsX7_records (wsV RX7 27 RX7 yX7_copies wsX7_copies) := goodIn_app (goodIn_of _ (by decide +kernel)) ggX7_records_X7_copies
theorem dX7_records_0 : decode cX7_records 0 = .ok (.aload_n 0, 1) := by decide +kernel
theorem dX7_records_1 : decode cX7_records 1 = .ok (.getfield 24, 3) := by decide +kernel
theorem dX7_records_4 : decode cX7_records 4 = .ok (.iconst 4, 1) := by decide +kernel
theorem dX7_records_5 : decode cX7_records 5 = .ok (.if_icmp .ne 34, 3) := by decide +kernel
theorem dX7_records_8 : decode cX7_records 8 = .ok (.iconst 1, 1) := by decide +kernel
theorem dX7_records_9 : decode cX7_records 9 = .ok (.istore_n 1, 1) := by decide +kernel
theorem dX7_records_10 : decode cX7_records 10 = .ok (.iload_n 1, 1) := by decide +kernel
theorem dX7_records_11 : decode cX7_records 11 = .ok (.iconst 4, 1) := by decide +kernel
theorem dX7_records_12 : decode cX7_records 12 = .ok (.if_icmp .ge 17, 3) := by decide +kernel
theorem dX7_records_15 : decode cX7_records 15 = .ok (.aload_n 0, 1) := by decide +kernel
theorem dX7_records_16 : decode cX7_records 16 = .ok (.iload_n 1, 1) := by decide +kernel
theorem dX7_records_17 : decode cX7_records 17 = .ok (.iconst 1, 1) := by decide +kernel
theorem dX7_records_18 : decode cX7_records 18 = .ok (.iadd, 1) := by decide +kernel
theorem dX7_records_19 : decode cX7_records 19 = .ok (.iload_n 1, 1) := by decide +kernel
theorem dX7_records_20 : decode cX7_records 20 = .ok (.invokevirtual 27, 3) := by decide +kernel
theorem dX7_records_23 : decode cX7_records 23 = .ok (.iinc 1 1, 3) := by decide +kernel
theorem dX7_records_26 : decode cX7_records 26 = .ok (.goto (-16), 3) := by decide +kernel
theorem dX7_records_29 : decode cX7_records 29 = .ok (.aload_n 0, 1) := by decide +kernel
theorem dX7_records_30 : decode cX7_records 30 = .ok (.dup, 1) := by decide +kernel
theorem dX7_records_31 : decode cX7_records 31 = .ok (.getfield 24, 3) := by decide +kernel
theorem dX7_records_34 : decode cX7_records 34 = .ok (.iconst 1, 1) := by decide +kernel
theorem dX7_records_35 : decode cX7_records 35 = .ok (.isub, 1) := by decide +kernel
theorem dX7_records_36 : decode cX7_records 36 = .ok (.putfield 24, 3) := by decide +kernel
theorem dX7_records_39 : decode cX7_records 39 = .ok (.aload_n 0, 1) := by decide +kernel
theorem dX7_records_40 : decode cX7_records 40 = .ok (.dup, 1) := by decide +kernel
theorem dX7_records_41 : decode cX7_records 41 = .ok (.getfield 24, 3) := by decide +kernel
theorem dX7_records_44 : decode cX7_records 44 = .ok (.iconst 1, 1) := by decide +kernel
theorem dX7_records_45 : decode cX7_records 45 = .ok (.iadd, 1) := by decide +kernel
theorem dX7_records_46 : decode cX7_records 46 = .ok (.putfield 24, 3) := by decide +kernel
theorem dX7_records_49 : decode cX7_records 49 = .ok (.aload_n 0, 1) := by decide +kernel
theorem dX7_records_50 : decode cX7_records 50 = .ok (.iconst 0, 1) := by decide +kernel
theorem dX7_records_51 : decode cX7_records 51 = .ok (.aload_n 0, 1) := by decide +kernel
theorem dX7_records_52 : decode cX7_records 52 = .ok (.getfield 24, 3) := by decide +kernel
theorem dX7_records_55 : decode cX7_records 55 = .ok (.invokevirtual 27, 3) := by decide +kernel
theorem dX7_records_58 : decode cX7_records 58 = .ok (.return_, 1) := by decide +kernel
theorem dX7_fires_0 : decode cX7_fires 0 = .ok (.iload_n 1, 1) := by decide +kernel
theorem dX7_fires_1 : decode cX7_fires 1 = .ok (.iload_n 2, 1) := by decide +kernel
theorem dX7_fires_2 : decode cX7_fires 2 = .ok (.iadd, 1) := by decide +kernel
theorem dX7_fires_3 : decode cX7_fires 3 = .ok (.istore_n 3, 1) := by decide +kernel
theorem dX7_fires_4 : decode cX7_fires 4 = .ok (.aload_n 0, 1) := by decide +kernel
theorem dX7_fires_5 : decode cX7_fires 5 = .ok (.getfield 7, 3) := by decide +kernel
theorem dX7_fires_8 : decode cX7_fires 8 = .ok (.iload_n 3, 1) := by decide +kernel
theorem dX7_fires_9 : decode cX7_fires 9 = .ok (.bipush 6, 2) := by decide +kernel
theorem dX7_fires_11 : decode cX7_fires 11 = .ok (.iadd, 1) := by decide +kernel
theorem dX7_fires_12 : decode cX7_fires 12 = .ok (.iaload, 1) := by decide +kernel
theorem dX7_fires_13 : decode cX7_fires 13 = .ok (.ifCond .le 19, 3) := by decide +kernel
theorem dX7_fires_16 : decode cX7_fires 16 = .ok (.aload_n 0, 1) := by decide +kernel
theorem dX7_fires_17 : decode cX7_fires 17 = .ok (.getfield 7, 3) := by decide +kernel
theorem dX7_fires_20 : decode cX7_fires 20 = .ok (.iload_n 3, 1) := by decide +kernel
theorem dX7_fires_21 : decode cX7_fires 21 = .ok (.bipush 6, 2) := by decide +kernel
theorem dX7_fires_23 : decode cX7_fires 23 = .ok (.iadd, 1) := by decide +kernel
theorem dX7_fires_24 : decode cX7_fires 24 = .ok (.dup2, 1) := by decide +kernel
theorem dX7_fires_25 : decode cX7_fires 25 = .ok (.iaload, 1) := by decide +kernel
theorem dX7_fires_26 : decode cX7_fires 26 = .ok (.iconst 1, 1) := by decide +kernel
theorem dX7_fires_27 : decode cX7_fires 27 = .ok (.isub, 1) := by decide +kernel
theorem dX7_fires_28 : decode cX7_fires 28 = .ok (.iastore, 1) := by decide +kernel
theorem dX7_fires_29 : decode cX7_fires 29 = .ok (.goto 129, 3) := by decide +kernel
theorem dX7_fires_32 : decode cX7_fires 32 = .ok (.aload_n 0, 1) := by decide +kernel
theorem dX7_fires_33 : decode cX7_fires 33 = .ok (.getfield 7, 3) := by decide +kernel
theorem dX7_fires_36 : decode cX7_fires 36 = .ok (.iload_n 3, 1) := by decide +kernel
theorem dX7_fires_37 : decode cX7_fires 37 = .ok (.iaload, 1) := by decide +kernel
theorem dX7_fires_38 : decode cX7_fires 38 = .ok (.ifCond .le 113, 3) := by decide +kernel
theorem dX7_fires_41 : decode cX7_fires 41 = .ok (.aload_n 0, 1) := by decide +kernel
theorem dX7_fires_42 : decode cX7_fires 42 = .ok (.getfield 7, 3) := by decide +kernel
theorem dX7_fires_45 : decode cX7_fires 45 = .ok (.iload_n 1, 1) := by decide +kernel
theorem dX7_fires_46 : decode cX7_fires 46 = .ok (.bipush 10, 2) := by decide +kernel
theorem dX7_fires_48 : decode cX7_fires 48 = .ok (.iadd, 1) := by decide +kernel
theorem dX7_fires_49 : decode cX7_fires 49 = .ok (.iaload, 1) := by decide +kernel
theorem dX7_fires_50 : decode cX7_fires 50 = .ok (.aload_n 0, 1) := by decide +kernel
theorem dX7_fires_51 : decode cX7_fires 51 = .ok (.getfield 7, 3) := by decide +kernel
theorem dX7_fires_54 : decode cX7_fires 54 = .ok (.iload_n 3, 1) := by decide +kernel
theorem dX7_fires_55 : decode cX7_fires 55 = .ok (.iaload, 1) := by decide +kernel
theorem dX7_fires_56 : decode cX7_fires 56 = .ok (.if_icmp .lt 95, 3) := by decide +kernel
theorem dX7_fires_59 : decode cX7_fires 59 = .ok (.aload_n 0, 1) := by decide +kernel
theorem dX7_fires_60 : decode cX7_fires 60 = .ok (.getfield 7, 3) := by decide +kernel
theorem dX7_fires_63 : decode cX7_fires 63 = .ok (.iload_n 3, 1) := by decide +kernel
theorem dX7_fires_64 : decode cX7_fires 64 = .ok (.iconst 2, 1) := by decide +kernel
theorem dX7_fires_65 : decode cX7_fires 65 = .ok (.iadd, 1) := by decide +kernel
theorem dX7_fires_66 : decode cX7_fires 66 = .ok (.iaload, 1) := by decide +kernel
end
section
theorem dX7_fires_67 : decode cX7_fires 67 = .ok (.aload_n 0, 1) := by decide +kernel
theorem dX7_fires_68 : decode cX7_fires 68 = .ok (.getfield 7, 3) := by decide +kernel
theorem dX7_fires_71 : decode cX7_fires 71 = .ok (.iload_n 3, 1) := by decide +kernel
theorem dX7_fires_72 : decode cX7_fires 72 = .ok (.iaload, 1) := by decide +kernel
theorem dX7_fires_73 : decode cX7_fires 73 = .ok (.if_icmp .lt 78, 3) := by decide +kernel
theorem dX7_fires_76 : decode cX7_fires 76 = .ok (.aload_n 0, 1) := by decide +kernel
theorem dX7_fires_77 : decode cX7_fires 77 = .ok (.getfield 7, 3) := by decide +kernel
theorem dX7_fires_80 : decode cX7_fires 80 = .ok (.iload_n 1, 1) := by decide +kernel
theorem dX7_fires_81 : decode cX7_fires 81 = .ok (.bipush 10, 2) := by decide +kernel
theorem dX7_fires_83 : decode cX7_fires 83 = .ok (.iadd, 1) := by decide +kernel
theorem dX7_fires_84 : decode cX7_fires 84 = .ok (.dup2, 1) := by decide +kernel
theorem dX7_fires_85 : decode cX7_fires 85 = .ok (.iaload, 1) := by decide +kernel
theorem dX7_fires_86 : decode cX7_fires 86 = .ok (.aload_n 0, 1) := by decide +kernel
theorem dX7_fires_87 : decode cX7_fires 87 = .ok (.getfield 7, 3) := by decide +kernel
theorem dX7_fires_90 : decode cX7_fires 90 = .ok (.iload_n 3, 1) := by decide +kernel
theorem dX7_fires_91 : decode cX7_fires 91 = .ok (.iaload, 1) := by decide +kernel
theorem dX7_fires_92 : decode cX7_fires 92 = .ok (.isub, 1) := by decide +kernel
theorem dX7_fires_93 : decode cX7_fires 93 = .ok (.iastore, 1) := by decide +kernel
theorem dX7_fires_94 : decode cX7_fires 94 = .ok (.aload_n 0, 1) := by decide +kernel
theorem dX7_fires_95 : decode cX7_fires 95 = .ok (.getfield 7, 3) := by decide +kernel
theorem dX7_fires_98 : decode cX7_fires 98 = .ok (.iload_n 1, 1) := by decide +kernel
theorem dX7_fires_99 : decode cX7_fires 99 = .ok (.bipush 38, 2) := by decide +kernel
theorem dX7_fires_101 : decode cX7_fires 101 = .ok (.iadd, 1) := by decide +kernel
theorem dX7_fires_102 : decode cX7_fires 102 = .ok (.dup2, 1) := by decide +kernel
theorem dX7_fires_103 : decode cX7_fires 103 = .ok (.iaload, 1) := by decide +kernel
theorem dX7_fires_104 : decode cX7_fires 104 = .ok (.aload_n 0, 1) := by decide +kernel
theorem dX7_fires_105 : decode cX7_fires 105 = .ok (.getfield 7, 3) := by decide +kernel
theorem dX7_fires_108 : decode cX7_fires 108 = .ok (.iload_n 3, 1) := by decide +kernel
theorem dX7_fires_109 : decode cX7_fires 109 = .ok (.iaload, 1) := by decide +kernel
theorem dX7_fires_110 : decode cX7_fires 110 = .ok (.iadd, 1) := by decide +kernel
theorem dX7_fires_111 : decode cX7_fires 111 = .ok (.iastore, 1) := by decide +kernel
theorem dX7_fires_112 : decode cX7_fires 112 = .ok (.aload_n 0, 1) := by decide +kernel
theorem dX7_fires_113 : decode cX7_fires 113 = .ok (.getfield 7, 3) := by decide +kernel
theorem dX7_fires_116 : decode cX7_fires 116 = .ok (.iload_n 3, 1) := by decide +kernel
theorem dX7_fires_117 : decode cX7_fires 117 = .ok (.iconst 2, 1) := by decide +kernel
theorem dX7_fires_118 : decode cX7_fires 118 = .ok (.iadd, 1) := by decide +kernel
theorem dX7_fires_119 : decode cX7_fires 119 = .ok (.dup2, 1) := by decide +kernel
theorem dX7_fires_120 : decode cX7_fires 120 = .ok (.iaload, 1) := by decide +kernel
theorem dX7_fires_121 : decode cX7_fires 121 = .ok (.aload_n 0, 1) := by decide +kernel
theorem dX7_fires_122 : decode cX7_fires 122 = .ok (.getfield 7, 3) := by decide +kernel
theorem dX7_fires_125 : decode cX7_fires 125 = .ok (.iload_n 3, 1) := by decide +kernel
theorem dX7_fires_126 : decode cX7_fires 126 = .ok (.iaload, 1) := by decide +kernel
theorem dX7_fires_127 : decode cX7_fires 127 = .ok (.isub, 1) := by decide +kernel
theorem dX7_fires_128 : decode cX7_fires 128 = .ok (.iastore, 1) := by decide +kernel
theorem dX7_fires_129 : decode cX7_fires 129 = .ok (.aload_n 0, 1) := by decide +kernel
theorem dX7_fires_130 : decode cX7_fires 130 = .ok (.getfield 7, 3) := by decide +kernel
theorem dX7_fires_133 : decode cX7_fires 133 = .ok (.iload_n 3, 1) := by decide +kernel
theorem dX7_fires_134 : decode cX7_fires 134 = .ok (.iconst 4, 1) := by decide +kernel
theorem dX7_fires_135 : decode cX7_fires 135 = .ok (.iadd, 1) := by decide +kernel
theorem dX7_fires_136 : decode cX7_fires 136 = .ok (.dup2, 1) := by decide +kernel
theorem dX7_fires_137 : decode cX7_fires 137 = .ok (.iaload, 1) := by decide +kernel
theorem dX7_fires_138 : decode cX7_fires 138 = .ok (.iconst 3, 1) := by decide +kernel
theorem dX7_fires_139 : decode cX7_fires 139 = .ok (.aload_n 0, 1) := by decide +kernel
theorem dX7_fires_140 : decode cX7_fires 140 = .ok (.getfield 7, 3) := by decide +kernel
theorem dX7_fires_143 : decode cX7_fires 143 = .ok (.iload_n 3, 1) := by decide +kernel
theorem dX7_fires_144 : decode cX7_fires 144 = .ok (.iaload, 1) := by decide +kernel
theorem dX7_fires_145 : decode cX7_fires 145 = .ok (.imul, 1) := by decide +kernel
theorem dX7_fires_146 : decode cX7_fires 146 = .ok (.iadd, 1) := by decide +kernel
theorem dX7_fires_147 : decode cX7_fires 147 = .ok (.iastore, 1) := by decide +kernel
theorem dX7_fires_148 : decode cX7_fires 148 = .ok (.goto 10, 3) := by decide +kernel
theorem dX7_fires_151 : decode cX7_fires 151 = .ok (.aload_n 0, 1) := by decide +kernel
theorem dX7_fires_152 : decode cX7_fires 152 = .ok (.getfield 7, 3) := by decide +kernel
theorem dX7_fires_155 : decode cX7_fires 155 = .ok (.iload_n 3, 1) := by decide +kernel
theorem dX7_fires_156 : decode cX7_fires 156 = .ok (.iconst 0, 1) := by decide +kernel
theorem dX7_fires_157 : decode cX7_fires 157 = .ok (.iastore, 1) := by decide +kernel
theorem dX7_fires_158 : decode cX7_fires 158 = .ok (.return_, 1) := by decide +kernel
theorem dX7_need_0 : decode cX7_need 0 = .ok (.iconst 0, 1) := by decide +kernel
theorem dX7_need_1 : decode cX7_need 1 = .ok (.istore_n 2, 1) := by decide +kernel
theorem dX7_need_2 : decode cX7_need 2 = .ok (.iconst 0, 1) := by decide +kernel
theorem dX7_need_3 : decode cX7_need 3 = .ok (.istore_n 3, 1) := by decide +kernel
theorem dX7_need_4 : decode cX7_need 4 = .ok (.iload_n 3, 1) := by decide +kernel
theorem dX7_need_5 : decode cX7_need 5 = .ok (.iconst 4, 1) := by decide +kernel
theorem dX7_need_6 : decode cX7_need 6 = .ok (.if_icmp .ge 45, 3) := by decide +kernel
theorem dX7_need_9 : decode cX7_need 9 = .ok (.iload_n 2, 1) := by decide +kernel
theorem dX7_need_10 : decode cX7_need 10 = .ok (.aload_n 0, 1) := by decide +kernel
theorem dX7_need_11 : decode cX7_need 11 = .ok (.getfield 7, 3) := by decide +kernel
theorem dX7_need_14 : decode cX7_need 14 = .ok (.iload_n 1, 1) := by decide +kernel
theorem dX7_need_15 : decode cX7_need 15 = .ok (.bipush 13, 2) := by decide +kernel
theorem dX7_need_17 : decode cX7_need 17 = .ok (.iadd, 1) := by decide +kernel
theorem dX7_need_18 : decode cX7_need 18 = .ok (.iload_n 3, 1) := by decide +kernel
theorem dX7_need_19 : decode cX7_need 19 = .ok (.iadd, 1) := by decide +kernel
theorem dX7_need_20 : decode cX7_need 20 = .ok (.iaload, 1) := by decide +kernel
theorem dX7_need_21 : decode cX7_need 21 = .ok (.ifCond .ge 7, 3) := by decide +kernel
theorem dX7_need_24 : decode cX7_need 24 = .ok (.iconst 0, 1) := by decide +kernel
theorem dX7_need_25 : decode cX7_need 25 = .ok (.goto 18, 3) := by decide +kernel
theorem dX7_need_28 : decode cX7_need 28 = .ok (.iconst 2, 1) := by decide +kernel
theorem dX7_need_29 : decode cX7_need 29 = .ok (.aload_n 0, 1) := by decide +kernel
theorem dX7_need_30 : decode cX7_need 30 = .ok (.getfield 7, 3) := by decide +kernel
theorem dX7_need_33 : decode cX7_need 33 = .ok (.iload_n 1, 1) := by decide +kernel
theorem dX7_need_34 : decode cX7_need 34 = .ok (.bipush 13, 2) := by decide +kernel
theorem dX7_need_36 : decode cX7_need 36 = .ok (.iadd, 1) := by decide +kernel
theorem dX7_need_37 : decode cX7_need 37 = .ok (.iload_n 3, 1) := by decide +kernel
theorem dX7_need_38 : decode cX7_need 38 = .ok (.iadd, 1) := by decide +kernel
theorem dX7_need_39 : decode cX7_need 39 = .ok (.iaload, 1) := by decide +kernel
theorem dX7_need_40 : decode cX7_need 40 = .ok (.imul, 1) := by decide +kernel
theorem dX7_need_41 : decode cX7_need 41 = .ok (.iconst 2, 1) := by decide +kernel
theorem dX7_need_42 : decode cX7_need 42 = .ok (.iadd, 1) := by decide +kernel
theorem dX7_need_43 : decode cX7_need 43 = .ok (.iadd, 1) := by decide +kernel
theorem dX7_need_44 : decode cX7_need 44 = .ok (.istore_n 2, 1) := by decide +kernel
theorem dX7_need_45 : decode cX7_need 45 = .ok (.iinc 3 1, 3) := by decide +kernel
theorem dX7_need_48 : decode cX7_need 48 = .ok (.goto (-44), 3) := by decide +kernel
theorem dX7_need_51 : decode cX7_need 51 = .ok (.iload_n 2, 1) := by decide +kernel
theorem dX7_need_52 : decode cX7_need 52 = .ok (.ireturn, 1) := by decide +kernel
theorem dX7_pressure_0 : decode cX7_pressure 0 = .ok (.aload_n 0, 1) := by decide +kernel
theorem dX7_pressure_1 : decode cX7_pressure 1 = .ok (.getfield 7, 3) := by decide +kernel
theorem dX7_pressure_4 : decode cX7_pressure 4 = .ok (.iload_n 1, 1) := by decide +kernel
theorem dX7_pressure_5 : decode cX7_pressure 5 = .ok (.iconst 4, 1) := by decide +kernel
theorem dX7_pressure_6 : decode cX7_pressure 6 = .ok (.iadd, 1) := by decide +kernel
theorem dX7_pressure_7 : decode cX7_pressure 7 = .ok (.iaload, 1) := by decide +kernel
theorem dX7_pressure_8 : decode cX7_pressure 8 = .ok (.aload_n 0, 1) := by decide +kernel
theorem dX7_pressure_9 : decode cX7_pressure 9 = .ok (.getfield 7, 3) := by decide +kernel
theorem dX7_pressure_12 : decode cX7_pressure 12 = .ok (.iload_n 1, 1) := by decide +kernel
theorem dX7_pressure_13 : decode cX7_pressure 13 = .ok (.iconst 4, 1) := by decide +kernel
theorem dX7_pressure_14 : decode cX7_pressure 14 = .ok (.iadd, 1) := by decide +kernel
theorem dX7_pressure_15 : decode cX7_pressure 15 = .ok (.iconst 1, 1) := by decide +kernel
theorem dX7_pressure_16 : decode cX7_pressure 16 = .ok (.iadd, 1) := by decide +kernel
theorem dX7_pressure_17 : decode cX7_pressure 17 = .ok (.iaload, 1) := by decide +kernel
theorem dX7_pressure_18 : decode cX7_pressure 18 = .ok (.iadd, 1) := by decide +kernel
theorem dX7_pressure_19 : decode cX7_pressure 19 = .ok (.ireturn, 1) := by decide +kernel
theorem dX7_empties_0 : decode cX7_empties 0 = .ok (.aload_n 0, 1) := by decide +kernel
theorem dX7_empties_1 : decode cX7_empties 1 = .ok (.getfield 7, 3) := by decide +kernel
theorem dX7_empties_4 : decode cX7_empties 4 = .ok (.iload_n 1, 1) := by decide +kernel
theorem dX7_empties_5 : decode cX7_empties 5 = .ok (.bipush 13, 2) := by decide +kernel
theorem dX7_empties_7 : decode cX7_empties 7 = .ok (.iadd, 1) := by decide +kernel
theorem dX7_empties_8 : decode cX7_empties 8 = .ok (.iload_n 2, 1) := by decide +kernel
theorem dX7_empties_9 : decode cX7_empties 9 = .ok (.iadd, 1) := by decide +kernel
theorem dX7_empties_10 : decode cX7_empties 10 = .ok (.iconst (-1), 1) := by decide +kernel
theorem dX7_empties_11 : decode cX7_empties 11 = .ok (.iastore, 1) := by decide +kernel
theorem dX7_empties_12 : decode cX7_empties 12 = .ok (.aload_n 0, 1) := by decide +kernel
theorem dX7_empties_13 : decode cX7_empties 13 = .ok (.getfield 7, 3) := by decide +kernel
theorem dX7_empties_16 : decode cX7_empties 16 = .ok (.iload_n 1, 1) := by decide +kernel
theorem dX7_empties_17 : decode cX7_empties 17 = .ok (.bipush 17, 2) := by decide +kernel
theorem dX7_empties_19 : decode cX7_empties 19 = .ok (.iadd, 1) := by decide +kernel
theorem dX7_empties_20 : decode cX7_empties 20 = .ok (.iload_n 2, 1) := by decide +kernel
theorem dX7_empties_21 : decode cX7_empties 21 = .ok (.iadd, 1) := by decide +kernel
theorem dX7_empties_22 : decode cX7_empties 22 = .ok (.iconst 0, 1) := by decide +kernel
theorem dX7_empties_23 : decode cX7_empties 23 = .ok (.iastore, 1) := by decide +kernel
theorem dX7_empties_24 : decode cX7_empties 24 = .ok (.aload_n 0, 1) := by decide +kernel
theorem dX7_empties_25 : decode cX7_empties 25 = .ok (.getfield 7, 3) := by decide +kernel
theorem dX7_empties_28 : decode cX7_empties 28 = .ok (.iload_n 1, 1) := by decide +kernel
theorem dX7_empties_29 : decode cX7_empties 29 = .ok (.bipush 21, 2) := by decide +kernel
theorem dX7_empties_31 : decode cX7_empties 31 = .ok (.iadd, 1) := by decide +kernel
theorem dX7_empties_32 : decode cX7_empties 32 = .ok (.iload_n 2, 1) := by decide +kernel
theorem dX7_empties_33 : decode cX7_empties 33 = .ok (.iadd, 1) := by decide +kernel
theorem dX7_empties_34 : decode cX7_empties 34 = .ok (.iconst 0, 1) := by decide +kernel
theorem dX7_empties_35 : decode cX7_empties 35 = .ok (.iastore, 1) := by decide +kernel
theorem dX7_empties_36 : decode cX7_empties 36 = .ok (.return_, 1) := by decide +kernel
set_option maxRecDepth 20000 in
theorem ggX7_washes_X7_worthOf : GoodIn wsX7_washes wsX7_worthOf := goodIn_r _ [5] (by decide +kernel) (by decide +kernel)
set_option maxRecDepth 20000 in
theorem gX7_washes_X7_worthOf : GoodIn wsX7_washes (va_wsS RX7 31 yX7_worthOf wsX7_worthOf) := goodIn_app (goodIn_of _ (by decide +kernel)) ggX7_washes_X7_worthOf
set_option maxRecDepth 20000 in
theorem ggX7_washes_X7_empties : GoodIn wsX7_washes wsX7_empties := goodIn_r _ [9, 1, 10, 11, 12, 13, 14, 15, 16, 17, 18, 19, 20] (by decide +kernel) (by decide +kernel)
set_option maxRecDepth 20000 in
theorem gX7_washes_X7_empties : GoodIn wsX7_washes (wsV RX7 35 RX7 yX7_empties wsX7_empties) := goodIn_app (goodIn_of _ (by decide +kernel)) ggX7_washes_X7_empties
theorem dX7_washes_0 : decode cX7_washes 0 = .ok (.iconst 0, 1) := by decide +kernel
theorem dX7_washes_1 : decode cX7_washes 1 = .ok (.istore_n 2, 1) := by decide +kernel
theorem dX7_washes_2 : decode cX7_washes 2 = .ok (.iload_n 2, 1) := by decide +kernel
theorem dX7_washes_3 : decode cX7_washes 3 = .ok (.iconst 4, 1) := by decide +kernel
theorem dX7_washes_4 : decode cX7_washes 4 = .ok (.if_icmp .ge 89, 3) := by decide +kernel
theorem dX7_washes_7 : decode cX7_washes 7 = .ok (.aload_n 0, 1) := by decide +kernel
theorem dX7_washes_8 : decode cX7_washes 8 = .ok (.getfield 7, 3) := by decide +kernel
theorem dX7_washes_11 : decode cX7_washes 11 = .ok (.iload_n 1, 1) := by decide +kernel
theorem dX7_washes_12 : decode cX7_washes 12 = .ok (.bipush 13, 2) := by decide +kernel
theorem dX7_washes_14 : decode cX7_washes 14 = .ok (.iadd, 1) := by decide +kernel
theorem dX7_washes_15 : decode cX7_washes 15 = .ok (.iload_n 2, 1) := by decide +kernel
theorem dX7_washes_16 : decode cX7_washes 16 = .ok (.iadd, 1) := by decide +kernel
theorem dX7_washes_17 : decode cX7_washes 17 = .ok (.iaload, 1) := by decide +kernel
theorem dX7_washes_18 : decode cX7_washes 18 = .ok (.istore_n 3, 1) := by decide +kernel
theorem dX7_washes_19 : decode cX7_washes 19 = .ok (.iload_n 3, 1) := by decide +kernel
theorem dX7_washes_20 : decode cX7_washes 20 = .ok (.ifCond .lt 67, 3) := by decide +kernel
theorem dX7_washes_23 : decode cX7_washes 23 = .ok (.aload_n 0, 1) := by decide +kernel
theorem dX7_washes_24 : decode cX7_washes 24 = .ok (.getfield 7, 3) := by decide +kernel
theorem dX7_washes_27 : decode cX7_washes 27 = .ok (.iload_n 1, 1) := by decide +kernel
theorem dX7_washes_28 : decode cX7_washes 28 = .ok (.bipush 17, 2) := by decide +kernel
theorem dX7_washes_30 : decode cX7_washes 30 = .ok (.iadd, 1) := by decide +kernel
theorem dX7_washes_31 : decode cX7_washes 31 = .ok (.iload_n 2, 1) := by decide +kernel
theorem dX7_washes_32 : decode cX7_washes 32 = .ok (.iadd, 1) := by decide +kernel
theorem dX7_washes_33 : decode cX7_washes 33 = .ok (.dup2, 1) := by decide +kernel
theorem dX7_washes_34 : decode cX7_washes 34 = .ok (.iaload, 1) := by decide +kernel
theorem dX7_washes_35 : decode cX7_washes 35 = .ok (.iconst 1, 1) := by decide +kernel
theorem dX7_washes_36 : decode cX7_washes 36 = .ok (.isub, 1) := by decide +kernel
theorem dX7_washes_37 : decode cX7_washes 37 = .ok (.iastore, 1) := by decide +kernel
theorem dX7_washes_38 : decode cX7_washes 38 = .ok (.aload_n 0, 1) := by decide +kernel
theorem dX7_washes_39 : decode cX7_washes 39 = .ok (.getfield 7, 3) := by decide +kernel
theorem dX7_washes_42 : decode cX7_washes 42 = .ok (.iload_n 1, 1) := by decide +kernel
theorem dX7_washes_43 : decode cX7_washes 43 = .ok (.bipush 17, 2) := by decide +kernel
theorem dX7_washes_45 : decode cX7_washes 45 = .ok (.iadd, 1) := by decide +kernel
theorem dX7_washes_46 : decode cX7_washes 46 = .ok (.iload_n 2, 1) := by decide +kernel
theorem dX7_washes_47 : decode cX7_washes 47 = .ok (.iadd, 1) := by decide +kernel
theorem dX7_washes_48 : decode cX7_washes 48 = .ok (.iaload, 1) := by decide +kernel
theorem dX7_washes_49 : decode cX7_washes 49 = .ok (.ifCond .ne 38, 3) := by decide +kernel
theorem dX7_washes_52 : decode cX7_washes 52 = .ok (.aload_n 0, 1) := by decide +kernel
theorem dX7_washes_53 : decode cX7_washes 53 = .ok (.getfield 7, 3) := by decide +kernel
theorem dX7_washes_56 : decode cX7_washes 56 = .ok (.iload_n 1, 1) := by decide +kernel
theorem dX7_washes_57 : decode cX7_washes 57 = .ok (.bipush 41, 2) := by decide +kernel
theorem dX7_washes_59 : decode cX7_washes 59 = .ok (.iadd, 1) := by decide +kernel
theorem dX7_washes_60 : decode cX7_washes 60 = .ok (.dup2, 1) := by decide +kernel
theorem dX7_washes_61 : decode cX7_washes 61 = .ok (.iaload, 1) := by decide +kernel
theorem dX7_washes_62 : decode cX7_washes 62 = .ok (.iconst 1, 1) := by decide +kernel
theorem dX7_washes_63 : decode cX7_washes 63 = .ok (.iadd, 1) := by decide +kernel
theorem dX7_washes_64 : decode cX7_washes 64 = .ok (.iastore, 1) := by decide +kernel
theorem dX7_washes_65 : decode cX7_washes 65 = .ok (.aload_n 0, 1) := by decide +kernel
theorem dX7_washes_66 : decode cX7_washes 66 = .ok (.getfield 7, 3) := by decide +kernel
theorem dX7_washes_69 : decode cX7_washes 69 = .ok (.iload_n 1, 1) := by decide +kernel
theorem dX7_washes_70 : decode cX7_washes 70 = .ok (.bipush 44, 2) := by decide +kernel
theorem dX7_washes_72 : decode cX7_washes 72 = .ok (.iadd, 1) := by decide +kernel
theorem dX7_washes_73 : decode cX7_washes 73 = .ok (.dup2, 1) := by decide +kernel
theorem dX7_washes_74 : decode cX7_washes 74 = .ok (.iaload, 1) := by decide +kernel
theorem dX7_washes_75 : decode cX7_washes 75 = .ok (.iload_n 3, 1) := by decide +kernel
theorem dX7_washes_76 : decode cX7_washes 76 = .ok (.invokestatic 31, 3) := by decide +kernel
theorem dX7_washes_79 : decode cX7_washes 79 = .ok (.iadd, 1) := by decide +kernel
theorem dX7_washes_80 : decode cX7_washes 80 = .ok (.iastore, 1) := by decide +kernel
theorem dX7_washes_81 : decode cX7_washes 81 = .ok (.aload_n 0, 1) := by decide +kernel
theorem dX7_washes_82 : decode cX7_washes 82 = .ok (.iload_n 1, 1) := by decide +kernel
theorem dX7_washes_83 : decode cX7_washes 83 = .ok (.iload_n 2, 1) := by decide +kernel
theorem dX7_washes_84 : decode cX7_washes 84 = .ok (.invokevirtual 35, 3) := by decide +kernel
theorem dX7_washes_87 : decode cX7_washes 87 = .ok (.iinc 2 1, 3) := by decide +kernel
theorem dX7_washes_90 : decode cX7_washes 90 = .ok (.goto (-88), 3) := by decide +kernel
theorem dX7_washes_93 : decode cX7_washes 93 = .ok (.return_, 1) := by decide +kernel
set_option maxRecDepth 20000 in
theorem ggX7_waits_X7_empties : GoodIn wsX7_waits wsX7_empties := goodIn_r _ [6, 1, 7, 8, 9, 10, 11, 12, 13, 14, 15, 16, 17] (by decide +kernel) (by decide +kernel)
set_option maxRecDepth 20000 in
theorem gX7_waits_X7_empties : GoodIn wsX7_waits (wsV RX7 35 RX7 yX7_empties wsX7_empties) := goodIn_app (goodIn_of _ (by decide +kernel)) ggX7_waits_X7_empties
theorem dX7_waits_0 : decode cX7_waits 0 = .ok (.aload_n 0, 1) := by decide +kernel
theorem dX7_waits_1 : decode cX7_waits 1 = .ok (.getfield 7, 3) := by decide +kernel
theorem dX7_waits_4 : decode cX7_waits 4 = .ok (.iload_n 1, 1) := by decide +kernel
theorem dX7_waits_5 : decode cX7_waits 5 = .ok (.bipush 45, 2) := by decide +kernel
theorem dX7_waits_7 : decode cX7_waits 7 = .ok (.iadd, 1) := by decide +kernel
theorem dX7_waits_8 : decode cX7_waits 8 = .ok (.dup2, 1) := by decide +kernel
theorem dX7_waits_9 : decode cX7_waits 9 = .ok (.iaload, 1) := by decide +kernel
theorem dX7_waits_10 : decode cX7_waits 10 = .ok (.iconst 1, 1) := by decide +kernel
theorem dX7_waits_11 : decode cX7_waits 11 = .ok (.iadd, 1) := by decide +kernel
theorem dX7_waits_12 : decode cX7_waits 12 = .ok (.iastore, 1) := by decide +kernel
theorem dX7_waits_13 : decode cX7_waits 13 = .ok (.iconst 0, 1) := by decide +kernel
theorem dX7_waits_14 : decode cX7_waits 14 = .ok (.istore_n 2, 1) := by decide +kernel
theorem dX7_waits_15 : decode cX7_waits 15 = .ok (.iload_n 2, 1) := by decide +kernel
theorem dX7_waits_16 : decode cX7_waits 16 = .ok (.iconst 4, 1) := by decide +kernel
theorem dX7_waits_17 : decode cX7_waits 17 = .ok (.if_icmp .ge 72, 3) := by decide +kernel
theorem dX7_waits_20 : decode cX7_waits 20 = .ok (.aload_n 0, 1) := by decide +kernel
theorem dX7_waits_21 : decode cX7_waits 21 = .ok (.getfield 7, 3) := by decide +kernel
theorem dX7_waits_24 : decode cX7_waits 24 = .ok (.iload_n 1, 1) := by decide +kernel
theorem dX7_waits_25 : decode cX7_waits 25 = .ok (.bipush 13, 2) := by decide +kernel
theorem dX7_waits_27 : decode cX7_waits 27 = .ok (.iadd, 1) := by decide +kernel
theorem dX7_waits_28 : decode cX7_waits 28 = .ok (.iload_n 2, 1) := by decide +kernel
theorem dX7_waits_29 : decode cX7_waits 29 = .ok (.iadd, 1) := by decide +kernel
theorem dX7_waits_30 : decode cX7_waits 30 = .ok (.iaload, 1) := by decide +kernel
theorem dX7_waits_31 : decode cX7_waits 31 = .ok (.ifCond .lt 52, 3) := by decide +kernel
theorem dX7_waits_34 : decode cX7_waits 34 = .ok (.aload_n 0, 1) := by decide +kernel
theorem dX7_waits_35 : decode cX7_waits 35 = .ok (.getfield 7, 3) := by decide +kernel
theorem dX7_waits_38 : decode cX7_waits 38 = .ok (.iload_n 1, 1) := by decide +kernel
theorem dX7_waits_39 : decode cX7_waits 39 = .ok (.bipush 21, 2) := by decide +kernel
theorem dX7_waits_41 : decode cX7_waits 41 = .ok (.iadd, 1) := by decide +kernel
theorem dX7_waits_42 : decode cX7_waits 42 = .ok (.iload_n 2, 1) := by decide +kernel
theorem dX7_waits_43 : decode cX7_waits 43 = .ok (.iadd, 1) := by decide +kernel
theorem dX7_waits_44 : decode cX7_waits 44 = .ok (.dup2, 1) := by decide +kernel
theorem dX7_waits_45 : decode cX7_waits 45 = .ok (.iaload, 1) := by decide +kernel
theorem dX7_waits_46 : decode cX7_waits 46 = .ok (.iconst 1, 1) := by decide +kernel
theorem dX7_waits_47 : decode cX7_waits 47 = .ok (.iadd, 1) := by decide +kernel
theorem dX7_waits_48 : decode cX7_waits 48 = .ok (.iastore, 1) := by decide +kernel
theorem dX7_waits_49 : decode cX7_waits 49 = .ok (.aload_n 0, 1) := by decide +kernel
theorem dX7_waits_50 : decode cX7_waits 50 = .ok (.getfield 7, 3) := by decide +kernel
theorem dX7_waits_53 : decode cX7_waits 53 = .ok (.iload_n 1, 1) := by decide +kernel
theorem dX7_waits_54 : decode cX7_waits 54 = .ok (.bipush 21, 2) := by decide +kernel
theorem dX7_waits_56 : decode cX7_waits 56 = .ok (.iadd, 1) := by decide +kernel
theorem dX7_waits_57 : decode cX7_waits 57 = .ok (.iload_n 2, 1) := by decide +kernel
theorem dX7_waits_58 : decode cX7_waits 58 = .ok (.iadd, 1) := by decide +kernel
theorem dX7_waits_59 : decode cX7_waits 59 = .ok (.iaload, 1) := by decide +kernel
theorem dX7_waits_60 : decode cX7_waits 60 = .ok (.iconst 3, 1) := by decide +kernel
theorem dX7_waits_61 : decode cX7_waits 61 = .ok (.if_icmp .ne 22, 3) := by decide +kernel
theorem dX7_waits_64 : decode cX7_waits 64 = .ok (.aload_n 0, 1) := by decide +kernel
theorem dX7_waits_65 : decode cX7_waits 65 = .ok (.getfield 7, 3) := by decide +kernel
theorem dX7_waits_68 : decode cX7_waits 68 = .ok (.iload_n 1, 1) := by decide +kernel
theorem dX7_waits_69 : decode cX7_waits 69 = .ok (.bipush 42, 2) := by decide +kernel
theorem dX7_waits_71 : decode cX7_waits 71 = .ok (.iadd, 1) := by decide +kernel
theorem dX7_waits_72 : decode cX7_waits 72 = .ok (.dup2, 1) := by decide +kernel
theorem dX7_waits_73 : decode cX7_waits 73 = .ok (.iaload, 1) := by decide +kernel
theorem dX7_waits_74 : decode cX7_waits 74 = .ok (.iconst 1, 1) := by decide +kernel
theorem dX7_waits_75 : decode cX7_waits 75 = .ok (.iadd, 1) := by decide +kernel
theorem dX7_waits_76 : decode cX7_waits 76 = .ok (.iastore, 1) := by decide +kernel
theorem dX7_waits_77 : decode cX7_waits 77 = .ok (.aload_n 0, 1) := by decide +kernel
theorem dX7_waits_78 : decode cX7_waits 78 = .ok (.iload_n 1, 1) := by decide +kernel
theorem dX7_waits_79 : decode cX7_waits 79 = .ok (.iload_n 2, 1) := by decide +kernel
theorem dX7_waits_80 : decode cX7_waits 80 = .ok (.invokevirtual 35, 3) := by decide +kernel
theorem dX7_waits_83 : decode cX7_waits 83 = .ok (.iinc 2 1, 3) := by decide +kernel
theorem dX7_waits_86 : decode cX7_waits 86 = .ok (.goto (-71), 3) := by decide +kernel
theorem dX7_waits_89 : decode cX7_waits 89 = .ok (.return_, 1) := by decide +kernel
set_option maxRecDepth 20000 in
theorem ggX7_works_X7_need : GoodIn wsX7_works wsX7_need := goodIn_r _ [6, 1, 26, 27, 28, 29, 30, 31, 32, 33, 34, 35, 36] (by decide +kernel) (by decide +kernel)
set_option maxRecDepth 20000 in
theorem gX7_works_X7_need : GoodIn wsX7_works (wsV RX7 38 RX7 yX7_need wsX7_need) := goodIn_app (goodIn_of _ (by decide +kernel)) ggX7_works_X7_need
set_option maxRecDepth 20000 in
theorem ggX7_works_X7_pressure : GoodIn wsX7_works wsX7_pressure := goodIn_r _ [10, 1, 26, 27, 28, 29, 30, 31, 32, 33, 34, 35, 36] (by decide +kernel) (by decide +kernel)
set_option maxRecDepth 20000 in
theorem gX7_works_X7_pressure : GoodIn wsX7_works (wsV RX7 41 RX7 yX7_pressure wsX7_pressure) := goodIn_app (goodIn_of _ (by decide +kernel)) ggX7_works_X7_pressure
set_option maxRecDepth 20000 in
theorem ggX7_works_X7_waits : GoodIn wsX7_works wsX7_waits := goodIn_r _ [14, 1, 15, 16, 17, 5, 18, 26, 27, 28, 29, 30, 31, 32, 33, 34, 35, 36] (by decide +kernel) (by decide +kernel)
set_option maxRecDepth 20000 in
theorem gX7_works_X7_waits : GoodIn wsX7_works (wsV RX7 44 RX7 yX7_waits wsX7_waits) := goodIn_app (goodIn_of _ (by decide +kernel)) ggX7_works_X7_waits
set_option maxRecDepth 20000 in
theorem ggX7_works_X7_washes : GoodIn wsX7_works wsX7_washes := goodIn_r _ [22, 1, 23, 24, 5, 25, 15, 16, 17, 18, 26, 27, 28, 29, 30, 31, 32, 33, 34, 35, 36] (by decide +kernel) (by decide +kernel)
set_option maxRecDepth 20000 in
theorem gX7_works_X7_washes : GoodIn wsX7_works (wsV RX7 48 RX7 yX7_washes wsX7_washes) := goodIn_app (goodIn_of _ (by decide +kernel)) ggX7_works_X7_washes
theorem dX7_works_0 : decode cX7_works 0 = .ok (.aload_n 0, 1) := by decide +kernel
theorem dX7_works_1 : decode cX7_works 1 = .ok (.iload_n 1, 1) := by decide +kernel
theorem dX7_works_2 : decode cX7_works 2 = .ok (.invokevirtual 38, 3) := by decide +kernel
theorem dX7_works_5 : decode cX7_works 5 = .ok (.istore_n 2, 1) := by decide +kernel
theorem dX7_works_6 : decode cX7_works 6 = .ok (.aload_n 0, 1) := by decide +kernel
theorem dX7_works_7 : decode cX7_works 7 = .ok (.iload_n 1, 1) := by decide +kernel
theorem dX7_works_8 : decode cX7_works 8 = .ok (.invokevirtual 41, 3) := by decide +kernel
theorem dX7_works_11 : decode cX7_works 11 = .ok (.iload_n 2, 1) := by decide +kernel
theorem dX7_works_12 : decode cX7_works 12 = .ok (.if_icmp .ge 9, 3) := by decide +kernel
theorem dX7_works_15 : decode cX7_works 15 = .ok (.aload_n 0, 1) := by decide +kernel
theorem dX7_works_16 : decode cX7_works 16 = .ok (.iload_n 1, 1) := by decide +kernel
theorem dX7_works_17 : decode cX7_works 17 = .ok (.invokevirtual 44, 3) := by decide +kernel
theorem dX7_works_20 : decode cX7_works 20 = .ok (.return_, 1) := by decide +kernel
theorem dX7_works_21 : decode cX7_works 21 = .ok (.iconst 0, 1) := by decide +kernel
theorem dX7_works_22 : decode cX7_works 22 = .ok (.istore_n 3, 1) := by decide +kernel
theorem dX7_works_23 : decode cX7_works 23 = .ok (.iload_n 3, 1) := by decide +kernel
theorem dX7_works_24 : decode cX7_works 24 = .ok (.iload_n 2, 1) := by decide +kernel
theorem dX7_works_25 : decode cX7_works 25 = .ok (.if_icmp .ge 52, 3) := by decide +kernel
theorem dX7_works_28 : decode cX7_works 28 = .ok (.aload_n 0, 1) := by decide +kernel
theorem dX7_works_29 : decode cX7_works 29 = .ok (.getfield 7, 3) := by decide +kernel
theorem dX7_works_32 : decode cX7_works 32 = .ok (.iload_n 1, 1) := by decide +kernel
theorem dX7_works_33 : decode cX7_works 33 = .ok (.iconst 4, 1) := by decide +kernel
theorem dX7_works_34 : decode cX7_works 34 = .ok (.iadd, 1) := by decide +kernel
theorem dX7_works_35 : decode cX7_works 35 = .ok (.iaload, 1) := by decide +kernel
theorem dX7_works_36 : decode cX7_works 36 = .ok (.aload_n 0, 1) := by decide +kernel
theorem dX7_works_37 : decode cX7_works 37 = .ok (.getfield 7, 3) := by decide +kernel
theorem dX7_works_40 : decode cX7_works 40 = .ok (.iload_n 1, 1) := by decide +kernel
theorem dX7_works_41 : decode cX7_works 41 = .ok (.iconst 4, 1) := by decide +kernel
theorem dX7_works_42 : decode cX7_works 42 = .ok (.iadd, 1) := by decide +kernel
theorem dX7_works_43 : decode cX7_works 43 = .ok (.iconst 1, 1) := by decide +kernel
theorem dX7_works_44 : decode cX7_works 44 = .ok (.iadd, 1) := by decide +kernel
theorem dX7_works_45 : decode cX7_works 45 = .ok (.iaload, 1) := by decide +kernel
theorem dX7_works_46 : decode cX7_works 46 = .ok (.if_icmp .lt 7, 3) := by decide +kernel
theorem dX7_works_49 : decode cX7_works 49 = .ok (.iconst 0, 1) := by decide +kernel
theorem dX7_works_50 : decode cX7_works 50 = .ok (.goto 4, 3) := by decide +kernel
theorem dX7_works_53 : decode cX7_works 53 = .ok (.iconst 1, 1) := by decide +kernel
theorem dX7_works_54 : decode cX7_works 54 = .ok (.istore 4, 2) := by decide +kernel
theorem dX7_works_56 : decode cX7_works 56 = .ok (.aload_n 0, 1) := by decide +kernel
theorem dX7_works_57 : decode cX7_works 57 = .ok (.getfield 7, 3) := by decide +kernel
theorem dX7_works_60 : decode cX7_works 60 = .ok (.iload_n 1, 1) := by decide +kernel
theorem dX7_works_61 : decode cX7_works 61 = .ok (.iconst 4, 1) := by decide +kernel
theorem dX7_works_62 : decode cX7_works 62 = .ok (.iadd, 1) := by decide +kernel
theorem dX7_works_63 : decode cX7_works 63 = .ok (.iload 4, 2) := by decide +kernel
theorem dX7_works_65 : decode cX7_works 65 = .ok (.iadd, 1) := by decide +kernel
theorem dX7_works_66 : decode cX7_works 66 = .ok (.dup2, 1) := by decide +kernel
theorem dX7_works_67 : decode cX7_works 67 = .ok (.iaload, 1) := by decide +kernel
theorem dX7_works_68 : decode cX7_works 68 = .ok (.iconst 1, 1) := by decide +kernel
theorem dX7_works_69 : decode cX7_works 69 = .ok (.isub, 1) := by decide +kernel
theorem dX7_works_70 : decode cX7_works 70 = .ok (.iastore, 1) := by decide +kernel
theorem dX7_works_71 : decode cX7_works 71 = .ok (.iinc 3 1, 3) := by decide +kernel
theorem dX7_works_74 : decode cX7_works 74 = .ok (.goto (-51), 3) := by decide +kernel
theorem dX7_works_77 : decode cX7_works 77 = .ok (.aload_n 0, 1) := by decide +kernel
theorem dX7_works_78 : decode cX7_works 78 = .ok (.iload_n 1, 1) := by decide +kernel
theorem dX7_works_79 : decode cX7_works 79 = .ok (.invokevirtual 48, 3) := by decide +kernel
theorem dX7_works_82 : decode cX7_works 82 = .ok (.return_, 1) := by decide +kernel
theorem dX7_lowestEmpty_0 : decode cX7_lowestEmpty 0 = .ok (.iconst (-1), 1) := by decide +kernel
theorem dX7_lowestEmpty_1 : decode cX7_lowestEmpty 1 = .ok (.istore_n 2, 1) := by decide +kernel
theorem dX7_lowestEmpty_2 : decode cX7_lowestEmpty 2 = .ok (.iconst 3, 1) := by decide +kernel
theorem dX7_lowestEmpty_3 : decode cX7_lowestEmpty 3 = .ok (.istore_n 3, 1) := by decide +kernel
theorem dX7_lowestEmpty_4 : decode cX7_lowestEmpty 4 = .ok (.iload_n 3, 1) := by decide +kernel
theorem dX7_lowestEmpty_5 : decode cX7_lowestEmpty 5 = .ok (.ifCond .lt 29, 3) := by decide +kernel
theorem dX7_lowestEmpty_8 : decode cX7_lowestEmpty 8 = .ok (.aload_n 0, 1) := by decide +kernel
theorem dX7_lowestEmpty_9 : decode cX7_lowestEmpty 9 = .ok (.getfield 7, 3) := by decide +kernel
theorem dX7_lowestEmpty_12 : decode cX7_lowestEmpty 12 = .ok (.iload_n 1, 1) := by decide +kernel
theorem dX7_lowestEmpty_13 : decode cX7_lowestEmpty 13 = .ok (.bipush 13, 2) := by decide +kernel
theorem dX7_lowestEmpty_15 : decode cX7_lowestEmpty 15 = .ok (.iadd, 1) := by decide +kernel
theorem dX7_lowestEmpty_16 : decode cX7_lowestEmpty 16 = .ok (.iload_n 3, 1) := by decide +kernel
theorem dX7_lowestEmpty_17 : decode cX7_lowestEmpty 17 = .ok (.iadd, 1) := by decide +kernel
theorem dX7_lowestEmpty_18 : decode cX7_lowestEmpty 18 = .ok (.iaload, 1) := by decide +kernel
theorem dX7_lowestEmpty_19 : decode cX7_lowestEmpty 19 = .ok (.ifCond .ge 7, 3) := by decide +kernel
theorem dX7_lowestEmpty_22 : decode cX7_lowestEmpty 22 = .ok (.iload_n 3, 1) := by decide +kernel
theorem dX7_lowestEmpty_23 : decode cX7_lowestEmpty 23 = .ok (.goto 4, 3) := by decide +kernel
theorem dX7_lowestEmpty_26 : decode cX7_lowestEmpty 26 = .ok (.iload_n 2, 1) := by decide +kernel
theorem dX7_lowestEmpty_27 : decode cX7_lowestEmpty 27 = .ok (.istore_n 2, 1) := by decide +kernel
theorem dX7_lowestEmpty_28 : decode cX7_lowestEmpty 28 = .ok (.iinc 3 (-1), 3) := by decide +kernel
theorem dX7_lowestEmpty_31 : decode cX7_lowestEmpty 31 = .ok (.goto (-27), 3) := by decide +kernel
theorem dX7_lowestEmpty_34 : decode cX7_lowestEmpty 34 = .ok (.iload_n 2, 1) := by decide +kernel
theorem dX7_lowestEmpty_35 : decode cX7_lowestEmpty 35 = .ok (.ireturn, 1) := by decide +kernel
set_option maxRecDepth 20000 in
theorem ggX7_puts_X7_ticksOf : GoodIn wsX7_puts wsX7_ticksOf := goodIn_r _ [5] (by decide +kernel) (by decide +kernel)
set_option maxRecDepth 20000 in
theorem gX7_puts_X7_ticksOf : GoodIn wsX7_puts (va_wsS RX7 51 yX7_ticksOf wsX7_ticksOf) := goodIn_app (goodIn_of _ (by decide +kernel)) ggX7_puts_X7_ticksOf
theorem dX7_puts_0 : decode cX7_puts 0 = .ok (.aload_n 0, 1) := by decide +kernel
theorem dX7_puts_1 : decode cX7_puts 1 = .ok (.getfield 7, 3) := by decide +kernel
theorem dX7_puts_4 : decode cX7_puts 4 = .ok (.iload_n 1, 1) := by decide +kernel
theorem dX7_puts_5 : decode cX7_puts 5 = .ok (.bipush 13, 2) := by decide +kernel
theorem dX7_puts_7 : decode cX7_puts 7 = .ok (.iadd, 1) := by decide +kernel
theorem dX7_puts_8 : decode cX7_puts 8 = .ok (.iload_n 2, 1) := by decide +kernel
theorem dX7_puts_9 : decode cX7_puts 9 = .ok (.iadd, 1) := by decide +kernel
theorem dX7_puts_10 : decode cX7_puts 10 = .ok (.iload_n 3, 1) := by decide +kernel
theorem dX7_puts_11 : decode cX7_puts 11 = .ok (.iastore, 1) := by decide +kernel
theorem dX7_puts_12 : decode cX7_puts 12 = .ok (.aload_n 0, 1) := by decide +kernel
theorem dX7_puts_13 : decode cX7_puts 13 = .ok (.getfield 7, 3) := by decide +kernel
theorem dX7_puts_16 : decode cX7_puts 16 = .ok (.iload_n 1, 1) := by decide +kernel
theorem dX7_puts_17 : decode cX7_puts 17 = .ok (.bipush 17, 2) := by decide +kernel
theorem dX7_puts_19 : decode cX7_puts 19 = .ok (.iadd, 1) := by decide +kernel
theorem dX7_puts_20 : decode cX7_puts 20 = .ok (.iload_n 2, 1) := by decide +kernel
theorem dX7_puts_21 : decode cX7_puts 21 = .ok (.iadd, 1) := by decide +kernel
theorem dX7_puts_22 : decode cX7_puts 22 = .ok (.iload_n 3, 1) := by decide +kernel
theorem dX7_puts_23 : decode cX7_puts 23 = .ok (.invokestatic 51, 3) := by decide +kernel
theorem dX7_puts_26 : decode cX7_puts 26 = .ok (.iastore, 1) := by decide +kernel
theorem dX7_puts_27 : decode cX7_puts 27 = .ok (.aload_n 0, 1) := by decide +kernel
theorem dX7_puts_28 : decode cX7_puts 28 = .ok (.getfield 7, 3) := by decide +kernel
theorem dX7_puts_31 : decode cX7_puts 31 = .ok (.iload_n 1, 1) := by decide +kernel
theorem dX7_puts_32 : decode cX7_puts 32 = .ok (.bipush 21, 2) := by decide +kernel
theorem dX7_puts_34 : decode cX7_puts 34 = .ok (.iadd, 1) := by decide +kernel
theorem dX7_puts_35 : decode cX7_puts 35 = .ok (.iload_n 2, 1) := by decide +kernel
theorem dX7_puts_36 : decode cX7_puts 36 = .ok (.iadd, 1) := by decide +kernel
theorem dX7_puts_37 : decode cX7_puts 37 = .ok (.iconst 0, 1) := by decide +kernel
theorem dX7_puts_38 : decode cX7_puts 38 = .ok (.iastore, 1) := by decide +kernel
theorem dX7_puts_39 : decode cX7_puts 39 = .ok (.aload_n 0, 1) := by decide +kernel
theorem dX7_puts_40 : decode cX7_puts 40 = .ok (.getfield 7, 3) := by decide +kernel
theorem dX7_puts_43 : decode cX7_puts 43 = .ok (.iload_n 1, 1) := by decide +kernel
theorem dX7_puts_44 : decode cX7_puts 44 = .ok (.bipush 40, 2) := by decide +kernel
theorem dX7_puts_46 : decode cX7_puts 46 = .ok (.iadd, 1) := by decide +kernel
theorem dX7_puts_47 : decode cX7_puts 47 = .ok (.dup2, 1) := by decide +kernel
theorem dX7_puts_48 : decode cX7_puts 48 = .ok (.iaload, 1) := by decide +kernel
theorem dX7_puts_49 : decode cX7_puts 49 = .ok (.iconst 1, 1) := by decide +kernel
theorem dX7_puts_50 : decode cX7_puts 50 = .ok (.iadd, 1) := by decide +kernel
theorem dX7_puts_51 : decode cX7_puts 51 = .ok (.iastore, 1) := by decide +kernel
theorem dX7_puts_52 : decode cX7_puts 52 = .ok (.return_, 1) := by decide +kernel
set_option maxRecDepth 20000 in
theorem ggX7_passes_X7_fires : GoodIn wsX7_passes wsX7_fires := goodIn_r _ [6, 1, 34, 35, 36, 37, 38, 39, 40, 41, 42, 43, 44] (by decide +kernel) (by decide +kernel)
set_option maxRecDepth 20000 in
theorem gX7_passes_X7_fires : GoodIn wsX7_passes (wsV RX7 54 RX7 yX7_fires wsX7_fires) := goodIn_app (goodIn_of _ (by decide +kernel)) ggX7_passes_X7_fires
set_option maxRecDepth 20000 in
theorem ggX7_passes_X7_works : GoodIn wsX7_passes wsX7_works := goodIn_r _ [10, 1, 11, 12, 13, 5, 14, 15, 16, 17, 18, 19, 20, 21, 22, 23, 24, 25, 26, 27, 28, 29, 30, 31, 32, 33, 34, 35, 36, 37, 38, 39, 40, 41, 42, 43, 44] (by decide +kernel) (by decide +kernel)
set_option maxRecDepth 20000 in
theorem gX7_passes_X7_works : GoodIn wsX7_passes (wsV RX7 57 RX7 yX7_works wsX7_works) := goodIn_app (goodIn_of _ (by decide +kernel)) ggX7_passes_X7_works
theorem dX7_passes_0 : decode cX7_passes 0 = .ok (.aload_n 0, 1) := by decide +kernel
theorem dX7_passes_1 : decode cX7_passes 1 = .ok (.getfield 7, 3) := by decide +kernel
theorem dX7_passes_4 : decode cX7_passes 4 = .ok (.iload_n 1, 1) := by decide +kernel
theorem dX7_passes_5 : decode cX7_passes 5 = .ok (.bipush 12, 2) := by decide +kernel
theorem dX7_passes_7 : decode cX7_passes 7 = .ok (.iadd, 1) := by decide +kernel
theorem dX7_passes_8 : decode cX7_passes 8 = .ok (.dup2, 1) := by decide +kernel
theorem dX7_passes_9 : decode cX7_passes 9 = .ok (.iaload, 1) := by decide +kernel
theorem dX7_passes_10 : decode cX7_passes 10 = .ok (.iconst 1, 1) := by decide +kernel
theorem dX7_passes_11 : decode cX7_passes 11 = .ok (.iadd, 1) := by decide +kernel
theorem dX7_passes_12 : decode cX7_passes 12 = .ok (.iastore, 1) := by decide +kernel
theorem dX7_passes_13 : decode cX7_passes 13 = .ok (.aload_n 0, 1) := by decide +kernel
theorem dX7_passes_14 : decode cX7_passes 14 = .ok (.getfield 7, 3) := by decide +kernel
theorem dX7_passes_17 : decode cX7_passes 17 = .ok (.iload_n 1, 1) := by decide +kernel
theorem dX7_passes_18 : decode cX7_passes 18 = .ok (.bipush 12, 2) := by decide +kernel
theorem dX7_passes_20 : decode cX7_passes 20 = .ok (.iadd, 1) := by decide +kernel
theorem dX7_passes_21 : decode cX7_passes 21 = .ok (.iaload, 1) := by decide +kernel
theorem dX7_passes_22 : decode cX7_passes 22 = .ok (.bipush 60, 2) := by decide +kernel
theorem dX7_passes_24 : decode cX7_passes 24 = .ok (.irem, 1) := by decide +kernel
theorem dX7_passes_25 : decode cX7_passes 25 = .ok (.ifCond .ne 70, 3) := by decide +kernel
theorem dX7_passes_28 : decode cX7_passes 28 = .ok (.sipush 999, 3) := by decide +kernel
theorem dX7_passes_31 : decode cX7_passes 31 = .ok (.aload_n 0, 1) := by decide +kernel
theorem dX7_passes_32 : decode cX7_passes 32 = .ok (.getfield 7, 3) := by decide +kernel
theorem dX7_passes_35 : decode cX7_passes 35 = .ok (.iload_n 1, 1) := by decide +kernel
theorem dX7_passes_36 : decode cX7_passes 36 = .ok (.bipush 10, 2) := by decide +kernel
theorem dX7_passes_38 : decode cX7_passes 38 = .ok (.iadd, 1) := by decide +kernel
theorem dX7_passes_39 : decode cX7_passes 39 = .ok (.iaload, 1) := by decide +kernel
theorem dX7_passes_40 : decode cX7_passes 40 = .ok (.isub, 1) := by decide +kernel
theorem dX7_passes_41 : decode cX7_passes 41 = .ok (.istore_n 2, 1) := by decide +kernel
theorem dX7_passes_42 : decode cX7_passes 42 = .ok (.aload_n 0, 1) := by decide +kernel
theorem dX7_passes_43 : decode cX7_passes 43 = .ok (.getfield 7, 3) := by decide +kernel
theorem dX7_passes_46 : decode cX7_passes 46 = .ok (.iload_n 1, 1) := by decide +kernel
theorem dX7_passes_47 : decode cX7_passes 47 = .ok (.bipush 11, 2) := by decide +kernel
theorem dX7_passes_49 : decode cX7_passes 49 = .ok (.iadd, 1) := by decide +kernel
theorem dX7_passes_50 : decode cX7_passes 50 = .ok (.iaload, 1) := by decide +kernel
theorem dX7_passes_51 : decode cX7_passes 51 = .ok (.iload_n 2, 1) := by decide +kernel
theorem dX7_passes_52 : decode cX7_passes 52 = .ok (.if_icmp .ge 15, 3) := by decide +kernel
theorem dX7_passes_55 : decode cX7_passes 55 = .ok (.aload_n 0, 1) := by decide +kernel
theorem dX7_passes_56 : decode cX7_passes 56 = .ok (.getfield 7, 3) := by decide +kernel
theorem dX7_passes_59 : decode cX7_passes 59 = .ok (.iload_n 1, 1) := by decide +kernel
theorem dX7_passes_60 : decode cX7_passes 60 = .ok (.bipush 11, 2) := by decide +kernel
theorem dX7_passes_62 : decode cX7_passes 62 = .ok (.iadd, 1) := by decide +kernel
theorem dX7_passes_63 : decode cX7_passes 63 = .ok (.iaload, 1) := by decide +kernel
theorem dX7_passes_64 : decode cX7_passes 64 = .ok (.goto 4, 3) := by decide +kernel
theorem dX7_passes_67 : decode cX7_passes 67 = .ok (.iload_n 2, 1) := by decide +kernel
theorem dX7_passes_68 : decode cX7_passes 68 = .ok (.istore_n 3, 1) := by decide +kernel
theorem dX7_passes_69 : decode cX7_passes 69 = .ok (.aload_n 0, 1) := by decide +kernel
theorem dX7_passes_70 : decode cX7_passes 70 = .ok (.getfield 7, 3) := by decide +kernel
theorem dX7_passes_73 : decode cX7_passes 73 = .ok (.iload_n 1, 1) := by decide +kernel
theorem dX7_passes_74 : decode cX7_passes 74 = .ok (.bipush 10, 2) := by decide +kernel
theorem dX7_passes_76 : decode cX7_passes 76 = .ok (.iadd, 1) := by decide +kernel
theorem dX7_passes_77 : decode cX7_passes 77 = .ok (.dup2, 1) := by decide +kernel
theorem dX7_passes_78 : decode cX7_passes 78 = .ok (.iaload, 1) := by decide +kernel
theorem dX7_passes_79 : decode cX7_passes 79 = .ok (.iload_n 3, 1) := by decide +kernel
theorem dX7_passes_80 : decode cX7_passes 80 = .ok (.iadd, 1) := by decide +kernel
theorem dX7_passes_81 : decode cX7_passes 81 = .ok (.iastore, 1) := by decide +kernel
theorem dX7_passes_82 : decode cX7_passes 82 = .ok (.aload_n 0, 1) := by decide +kernel
theorem dX7_passes_83 : decode cX7_passes 83 = .ok (.getfield 7, 3) := by decide +kernel
theorem dX7_passes_86 : decode cX7_passes 86 = .ok (.iload_n 1, 1) := by decide +kernel
theorem dX7_passes_87 : decode cX7_passes 87 = .ok (.bipush 39, 2) := by decide +kernel
theorem dX7_passes_89 : decode cX7_passes 89 = .ok (.iadd, 1) := by decide +kernel
theorem dX7_passes_90 : decode cX7_passes 90 = .ok (.dup2, 1) := by decide +kernel
theorem dX7_passes_91 : decode cX7_passes 91 = .ok (.iaload, 1) := by decide +kernel
theorem dX7_passes_92 : decode cX7_passes 92 = .ok (.iload_n 3, 1) := by decide +kernel
theorem dX7_passes_93 : decode cX7_passes 93 = .ok (.iadd, 1) := by decide +kernel
theorem dX7_passes_94 : decode cX7_passes 94 = .ok (.iastore, 1) := by decide +kernel
theorem dX7_passes_95 : decode cX7_passes 95 = .ok (.aload_n 0, 1) := by decide +kernel
theorem dX7_passes_96 : decode cX7_passes 96 = .ok (.iload_n 1, 1) := by decide +kernel
theorem dX7_passes_97 : decode cX7_passes 97 = .ok (.iconst 0, 1) := by decide +kernel
theorem dX7_passes_98 : decode cX7_passes 98 = .ok (.invokevirtual 54, 3) := by decide +kernel
theorem dX7_passes_101 : decode cX7_passes 101 = .ok (.aload_n 0, 1) := by decide +kernel
theorem dX7_passes_102 : decode cX7_passes 102 = .ok (.iload_n 1, 1) := by decide +kernel
theorem dX7_passes_103 : decode cX7_passes 103 = .ok (.iconst 1, 1) := by decide +kernel
theorem dX7_passes_104 : decode cX7_passes 104 = .ok (.invokevirtual 54, 3) := by decide +kernel
theorem dX7_passes_107 : decode cX7_passes 107 = .ok (.aload_n 0, 1) := by decide +kernel
theorem dX7_passes_108 : decode cX7_passes 108 = .ok (.iload_n 1, 1) := by decide +kernel
theorem dX7_passes_109 : decode cX7_passes 109 = .ok (.invokevirtual 57, 3) := by decide +kernel
theorem dX7_passes_112 : decode cX7_passes 112 = .ok (.iconst 0, 1) := by decide +kernel
theorem dX7_passes_113 : decode cX7_passes 113 = .ok (.istore_n 2, 1) := by decide +kernel
theorem dX7_passes_114 : decode cX7_passes 114 = .ok (.iload_n 2, 1) := by decide +kernel
theorem dX7_passes_115 : decode cX7_passes 115 = .ok (.iconst 2, 1) := by decide +kernel
theorem dX7_passes_116 : decode cX7_passes 116 = .ok (.if_icmp .ge 94, 3) := by decide +kernel
theorem dX7_passes_119 : decode cX7_passes 119 = .ok (.iload_n 1, 1) := by decide +kernel
theorem dX7_passes_120 : decode cX7_passes 120 = .ok (.iconst 4, 1) := by decide +kernel
theorem dX7_passes_121 : decode cX7_passes 121 = .ok (.iadd, 1) := by decide +kernel
theorem dX7_passes_122 : decode cX7_passes 122 = .ok (.iload_n 2, 1) := by decide +kernel
theorem dX7_passes_123 : decode cX7_passes 123 = .ok (.iadd, 1) := by decide +kernel
theorem dX7_passes_124 : decode cX7_passes 124 = .ok (.istore_n 3, 1) := by decide +kernel
theorem dX7_passes_125 : decode cX7_passes 125 = .ok (.aload_n 0, 1) := by decide +kernel
theorem dX7_passes_126 : decode cX7_passes 126 = .ok (.getfield 7, 3) := by decide +kernel
theorem dX7_passes_129 : decode cX7_passes 129 = .ok (.iload_n 3, 1) := by decide +kernel
theorem dX7_passes_130 : decode cX7_passes 130 = .ok (.dup2, 1) := by decide +kernel
theorem dX7_passes_131 : decode cX7_passes 131 = .ok (.iaload, 1) := by decide +kernel
theorem dX7_passes_132 : decode cX7_passes 132 = .ok (.aload_n 0, 1) := by decide +kernel
theorem dX7_passes_133 : decode cX7_passes 133 = .ok (.getfield 7, 3) := by decide +kernel
theorem dX7_passes_136 : decode cX7_passes 136 = .ok (.iload_n 3, 1) := by decide +kernel
theorem dX7_passes_137 : decode cX7_passes 137 = .ok (.iaload, 1) := by decide +kernel
theorem dX7_passes_138 : decode cX7_passes 138 = .ok (.ifCond .le 7, 3) := by decide +kernel
theorem dX7_passes_141 : decode cX7_passes 141 = .ok (.iconst 1, 1) := by decide +kernel
theorem dX7_passes_142 : decode cX7_passes 142 = .ok (.goto 4, 3) := by decide +kernel
theorem dX7_passes_145 : decode cX7_passes 145 = .ok (.iconst 0, 1) := by decide +kernel
theorem dX7_passes_146 : decode cX7_passes 146 = .ok (.isub, 1) := by decide +kernel
theorem dX7_passes_147 : decode cX7_passes 147 = .ok (.iastore, 1) := by decide +kernel
theorem dX7_passes_148 : decode cX7_passes 148 = .ok (.aload_n 0, 1) := by decide +kernel
theorem dX7_passes_149 : decode cX7_passes 149 = .ok (.getfield 7, 3) := by decide +kernel
theorem dX7_passes_152 : decode cX7_passes 152 = .ok (.iload_n 3, 1) := by decide +kernel
theorem dX7_passes_153 : decode cX7_passes 153 = .ok (.iaload, 1) := by decide +kernel
theorem dX7_passes_154 : decode cX7_passes 154 = .ok (.bipush 70, 2) := by decide +kernel
theorem dX7_passes_156 : decode cX7_passes 156 = .ok (.if_icmp .le 48, 3) := by decide +kernel
theorem dX7_passes_159 : decode cX7_passes 159 = .ok (.aload_n 0, 1) := by decide +kernel
theorem dX7_passes_160 : decode cX7_passes 160 = .ok (.getfield 7, 3) := by decide +kernel
theorem dX7_passes_163 : decode cX7_passes 163 = .ok (.iload_n 3, 1) := by decide +kernel
theorem dX7_passes_164 : decode cX7_passes 164 = .ok (.bipush 30, 2) := by decide +kernel
theorem dX7_passes_166 : decode cX7_passes 166 = .ok (.iastore, 1) := by decide +kernel
theorem dX7_passes_167 : decode cX7_passes 167 = .ok (.aload_n 0, 1) := by decide +kernel
theorem dX7_passes_168 : decode cX7_passes 168 = .ok (.getfield 7, 3) := by decide +kernel
theorem dX7_passes_171 : decode cX7_passes 171 = .ok (.iload_n 1, 1) := by decide +kernel
theorem dX7_passes_172 : decode cX7_passes 172 = .ok (.iload_n 2, 1) := by decide +kernel
theorem dX7_passes_173 : decode cX7_passes 173 = .ok (.iadd, 1) := by decide +kernel
theorem dX7_passes_174 : decode cX7_passes 174 = .ok (.iconst 0, 1) := by decide +kernel
theorem dX7_passes_175 : decode cX7_passes 175 = .ok (.iastore, 1) := by decide +kernel
theorem dX7_passes_176 : decode cX7_passes 176 = .ok (.aload_n 0, 1) := by decide +kernel
theorem dX7_passes_177 : decode cX7_passes 177 = .ok (.getfield 7, 3) := by decide +kernel
theorem dX7_passes_180 : decode cX7_passes 180 = .ok (.iload_n 1, 1) := by decide +kernel
theorem dX7_passes_181 : decode cX7_passes 181 = .ok (.bipush 6, 2) := by decide +kernel
theorem dX7_passes_183 : decode cX7_passes 183 = .ok (.iadd, 1) := by decide +kernel
theorem dX7_passes_184 : decode cX7_passes 184 = .ok (.iload_n 2, 1) := by decide +kernel
theorem dX7_passes_185 : decode cX7_passes 185 = .ok (.iadd, 1) := by decide +kernel
theorem dX7_passes_186 : decode cX7_passes 186 = .ok (.bipush 10, 2) := by decide +kernel
theorem dX7_passes_188 : decode cX7_passes 188 = .ok (.iastore, 1) := by decide +kernel
theorem dX7_passes_189 : decode cX7_passes 189 = .ok (.aload_n 0, 1) := by decide +kernel
theorem dX7_passes_190 : decode cX7_passes 190 = .ok (.getfield 7, 3) := by decide +kernel
theorem dX7_passes_193 : decode cX7_passes 193 = .ok (.iload_n 1, 1) := by decide +kernel
theorem dX7_passes_194 : decode cX7_passes 194 = .ok (.bipush 8, 2) := by decide +kernel
theorem dX7_passes_196 : decode cX7_passes 196 = .ok (.iadd, 1) := by decide +kernel
theorem dX7_passes_197 : decode cX7_passes 197 = .ok (.iload_n 2, 1) := by decide +kernel
theorem dX7_passes_198 : decode cX7_passes 198 = .ok (.iadd, 1) := by decide +kernel
theorem dX7_passes_199 : decode cX7_passes 199 = .ok (.dup2, 1) := by decide +kernel
theorem dX7_passes_200 : decode cX7_passes 200 = .ok (.iaload, 1) := by decide +kernel
theorem dX7_passes_201 : decode cX7_passes 201 = .ok (.iconst 1, 1) := by decide +kernel
theorem dX7_passes_202 : decode cX7_passes 202 = .ok (.iadd, 1) := by decide +kernel
theorem dX7_passes_203 : decode cX7_passes 203 = .ok (.iastore, 1) := by decide +kernel
theorem dX7_passes_204 : decode cX7_passes 204 = .ok (.iinc 2 1, 3) := by decide +kernel
theorem dX7_passes_207 : decode cX7_passes 207 = .ok (.goto (-93), 3) := by decide +kernel
theorem dX7_passes_210 : decode cX7_passes 210 = .ok (.return_, 1) := by decide +kernel
set_option maxRecDepth 20000 in
theorem ggX7_why_X7_pressure : GoodIn wsX7_why wsX7_pressure := goodIn_r _ [6, 1, 49, 50, 51, 52, 53, 54, 55, 56, 57, 58, 59] (by decide +kernel) (by decide +kernel)
set_option maxRecDepth 20000 in
theorem gX7_why_X7_pressure : GoodIn wsX7_why (wsV RX7 41 RX7 yX7_pressure wsX7_pressure) := goodIn_app (goodIn_of _ (by decide +kernel)) ggX7_why_X7_pressure
set_option maxRecDepth 20000 in
theorem ggX7_why_X7_copies : GoodIn wsX7_why wsX7_copies := goodIn_r _ [10, 1, 49, 50, 51, 52, 53, 54, 55, 56, 57, 58, 59] (by decide +kernel) (by decide +kernel)
set_option maxRecDepth 20000 in
theorem gX7_why_X7_copies : GoodIn wsX7_why (wsV RX7 27 RX7 yX7_copies wsX7_copies) := goodIn_app (goodIn_of _ (by decide +kernel)) ggX7_why_X7_copies
set_option maxRecDepth 20000 in
theorem ggX7_why_X7_puts : GoodIn wsX7_why wsX7_puts := goodIn_r _ [14, 1, 15, 16, 5, 17, 49, 50, 51, 52, 53, 54, 55, 56, 57, 58, 59] (by decide +kernel) (by decide +kernel)
set_option maxRecDepth 20000 in
theorem gX7_why_X7_puts : GoodIn wsX7_why (wsV RX7 60 RX7 yX7_puts wsX7_puts) := goodIn_app (goodIn_of _ (by decide +kernel)) ggX7_why_X7_puts
set_option maxRecDepth 20000 in
theorem ggX7_why_X7_passes : GoodIn wsX7_why wsX7_passes := goodIn_r _ [21, 1, 22, 23, 24, 5, 25, 26, 27, 28, 29, 30, 31, 32, 33, 2, 3, 4, 6, 34, 35, 36, 37, 38, 39, 40, 41, 42, 43, 44, 45, 46, 47, 48, 49, 50, 51, 52, 53, 54, 55, 56, 57, 58, 59] (by decide +kernel) (by decide +kernel)
set_option maxRecDepth 20000 in
theorem gX7_why_X7_passes : GoodIn wsX7_why (wsV RX7 64 RX7 yX7_passes wsX7_passes) := goodIn_app (goodIn_of _ (by decide +kernel)) ggX7_why_X7_passes
theorem dX7_why_0 : decode cX7_why 0 = .ok (.bipush 46, 2) := by decide +kernel
theorem dX7_why_2 : decode cX7_why 2 = .ok (.iload_n 1, 1) := by decide +kernel
theorem dX7_why_3 : decode cX7_why 3 = .ok (.imul, 1) := by decide +kernel
theorem dX7_why_4 : decode cX7_why 4 = .ok (.istore 4, 2) := by decide +kernel
theorem dX7_why_6 : decode cX7_why 6 = .ok (.iload_n 2, 1) := by decide +kernel
theorem dX7_why_7 : decode cX7_why 7 = .ok (.ifCond .lt 18, 3) := by decide +kernel
theorem dX7_why_10 : decode cX7_why 10 = .ok (.aload_n 0, 1) := by decide +kernel
theorem dX7_why_11 : decode cX7_why 11 = .ok (.getfield 7, 3) := by decide +kernel
theorem dX7_why_14 : decode cX7_why 14 = .ok (.iload 4, 2) := by decide +kernel
theorem dX7_why_16 : decode cX7_why 16 = .ok (.bipush 13, 2) := by decide +kernel
theorem dX7_why_18 : decode cX7_why 18 = .ok (.iadd, 1) := by decide +kernel
theorem dX7_why_19 : decode cX7_why 19 = .ok (.iload_n 2, 1) := by decide +kernel
theorem dX7_why_20 : decode cX7_why 20 = .ok (.iadd, 1) := by decide +kernel
theorem dX7_why_21 : decode cX7_why 21 = .ok (.iaload, 1) := by decide +kernel
theorem dX7_why_22 : decode cX7_why 22 = .ok (.ifCond .lt 5, 3) := by decide +kernel
theorem dX7_why_25 : decode cX7_why 25 = .ok (.iconst 1, 1) := by decide +kernel
theorem dX7_why_26 : decode cX7_why 26 = .ok (.ireturn, 1) := by decide +kernel
theorem dX7_why_27 : decode cX7_why 27 = .ok (.aload_n 0, 1) := by decide +kernel
theorem dX7_why_28 : decode cX7_why 28 = .ok (.iload 4, 2) := by decide +kernel
theorem dX7_why_30 : decode cX7_why 30 = .ok (.invokevirtual 41, 3) := by decide +kernel
theorem dX7_why_33 : decode cX7_why 33 = .ok (.bipush 10, 2) := by decide +kernel
theorem dX7_why_35 : decode cX7_why 35 = .ok (.if_icmp .ge 5, 3) := by decide +kernel
theorem dX7_why_38 : decode cX7_why 38 = .ok (.iconst 2, 1) := by decide +kernel
theorem dX7_why_39 : decode cX7_why 39 = .ok (.ireturn, 1) := by decide +kernel
theorem dX7_why_40 : decode cX7_why 40 = .ok (.aload_n 0, 1) := by decide +kernel
theorem dX7_why_41 : decode cX7_why 41 = .ok (.iload_n 1, 1) := by decide +kernel
theorem dX7_why_42 : decode cX7_why 42 = .ok (.bipush 7, 2) := by decide +kernel
theorem dX7_why_44 : decode cX7_why 44 = .ok (.invokevirtual 27, 3) := by decide +kernel
theorem dX7_why_47 : decode cX7_why 47 = .ok (.sipush 322, 3) := by decide +kernel
theorem dX7_why_50 : decode cX7_why 50 = .ok (.istore 5, 2) := by decide +kernel
theorem dX7_why_52 : decode cX7_why 52 = .ok (.aload_n 0, 1) := by decide +kernel
theorem dX7_why_53 : decode cX7_why 53 = .ok (.iload 5, 2) := by decide +kernel
theorem dX7_why_55 : decode cX7_why 55 = .ok (.iload_n 2, 1) := by decide +kernel
theorem dX7_why_56 : decode cX7_why 56 = .ok (.iload_n 3, 1) := by decide +kernel
theorem dX7_why_57 : decode cX7_why 57 = .ok (.invokevirtual 60, 3) := by decide +kernel
theorem dX7_why_60 : decode cX7_why 60 = .ok (.aload_n 0, 1) := by decide +kernel
theorem dX7_why_61 : decode cX7_why 61 = .ok (.getfield 7, 3) := by decide +kernel
theorem dX7_why_64 : decode cX7_why 64 = .ok (.iload 5, 2) := by decide +kernel
theorem dX7_why_66 : decode cX7_why 66 = .ok (.bipush 45, 2) := by decide +kernel
theorem dX7_why_68 : decode cX7_why 68 = .ok (.iadd, 1) := by decide +kernel
theorem dX7_why_69 : decode cX7_why 69 = .ok (.iaload, 1) := by decide +kernel
theorem dX7_why_70 : decode cX7_why 70 = .ok (.istore 6, 2) := by decide +kernel
theorem dX7_why_72 : decode cX7_why 72 = .ok (.aload_n 0, 1) := by decide +kernel
theorem dX7_why_73 : decode cX7_why 73 = .ok (.getfield 7, 3) := by decide +kernel
theorem dX7_why_76 : decode cX7_why 76 = .ok (.iload 5, 2) := by decide +kernel
theorem dX7_why_78 : decode cX7_why 78 = .ok (.bipush 13, 2) := by decide +kernel
theorem dX7_why_80 : decode cX7_why 80 = .ok (.iadd, 1) := by decide +kernel
theorem dX7_why_81 : decode cX7_why 81 = .ok (.iload_n 2, 1) := by decide +kernel
theorem dX7_why_82 : decode cX7_why 82 = .ok (.iadd, 1) := by decide +kernel
theorem dX7_why_83 : decode cX7_why 83 = .ok (.iaload, 1) := by decide +kernel
theorem dX7_why_84 : decode cX7_why 84 = .ok (.ifCond .lt 27, 3) := by decide +kernel
theorem dX7_why_87 : decode cX7_why 87 = .ok (.aload_n 0, 1) := by decide +kernel
theorem dX7_why_88 : decode cX7_why 88 = .ok (.getfield 7, 3) := by decide +kernel
theorem dX7_why_91 : decode cX7_why 91 = .ok (.iload 5, 2) := by decide +kernel
theorem dX7_why_93 : decode cX7_why 93 = .ok (.bipush 45, 2) := by decide +kernel
theorem dX7_why_95 : decode cX7_why 95 = .ok (.iadd, 1) := by decide +kernel
theorem dX7_why_96 : decode cX7_why 96 = .ok (.iaload, 1) := by decide +kernel
theorem dX7_why_97 : decode cX7_why 97 = .ok (.iload 6, 2) := by decide +kernel
theorem dX7_why_99 : decode cX7_why 99 = .ok (.if_icmp .ne 12, 3) := by decide +kernel
theorem dX7_why_102 : decode cX7_why 102 = .ok (.aload_n 0, 1) := by decide +kernel
theorem dX7_why_103 : decode cX7_why 103 = .ok (.iload 5, 2) := by decide +kernel
theorem dX7_why_105 : decode cX7_why 105 = .ok (.invokevirtual 64, 3) := by decide +kernel
theorem dX7_why_108 : decode cX7_why 108 = .ok (.goto (-36), 3) := by decide +kernel
theorem dX7_why_111 : decode cX7_why 111 = .ok (.aload_n 0, 1) := by decide +kernel
theorem dX7_why_112 : decode cX7_why 112 = .ok (.getfield 7, 3) := by decide +kernel
theorem dX7_why_115 : decode cX7_why 115 = .ok (.iload 5, 2) := by decide +kernel
theorem dX7_why_117 : decode cX7_why 117 = .ok (.bipush 45, 2) := by decide +kernel
theorem dX7_why_119 : decode cX7_why 119 = .ok (.iadd, 1) := by decide +kernel
theorem dX7_why_120 : decode cX7_why 120 = .ok (.iaload, 1) := by decide +kernel
theorem dX7_why_121 : decode cX7_why 121 = .ok (.iload 6, 2) := by decide +kernel
theorem dX7_why_123 : decode cX7_why 123 = .ok (.if_icmp .ne 7, 3) := by decide +kernel
theorem dX7_why_126 : decode cX7_why 126 = .ok (.iconst 0, 1) := by decide +kernel
theorem dX7_why_127 : decode cX7_why 127 = .ok (.goto 4, 3) := by decide +kernel
theorem dX7_why_130 : decode cX7_why 130 = .ok (.iconst 3, 1) := by decide +kernel
theorem dX7_why_131 : decode cX7_why 131 = .ok (.ireturn, 1) := by decide +kernel
theorem dX7_leaves_0 : decode cX7_leaves 0 = .ok (.aload_n 0, 1) := by decide +kernel
theorem dX7_leaves_1 : decode cX7_leaves 1 = .ok (.getfield 7, 3) := by decide +kernel
theorem dX7_leaves_4 : decode cX7_leaves 4 = .ok (.iload_n 1, 1) := by decide +kernel
theorem dX7_leaves_5 : decode cX7_leaves 5 = .ok (.bipush 26, 2) := by decide +kernel
theorem dX7_leaves_7 : decode cX7_leaves 7 = .ok (.iadd, 1) := by decide +kernel
theorem dX7_leaves_8 : decode cX7_leaves 8 = .ok (.iload_n 2, 1) := by decide +kernel
theorem dX7_leaves_9 : decode cX7_leaves 9 = .ok (.iadd, 1) := by decide +kernel
theorem dX7_leaves_10 : decode cX7_leaves 10 = .ok (.iaload, 1) := by decide +kernel
theorem dX7_leaves_11 : decode cX7_leaves 11 = .ok (.istore_n 3, 1) := by decide +kernel
theorem dX7_leaves_12 : decode cX7_leaves 12 = .ok (.iload_n 2, 1) := by decide +kernel
theorem dX7_leaves_13 : decode cX7_leaves 13 = .ok (.istore 4, 2) := by decide +kernel
theorem dX7_leaves_15 : decode cX7_leaves 15 = .ok (.iload 4, 2) := by decide +kernel
theorem dX7_leaves_17 : decode cX7_leaves 17 = .ok (.iconst 1, 1) := by decide +kernel
theorem dX7_leaves_18 : decode cX7_leaves 18 = .ok (.iadd, 1) := by decide +kernel
theorem dX7_leaves_19 : decode cX7_leaves 19 = .ok (.aload_n 0, 1) := by decide +kernel
theorem dX7_leaves_20 : decode cX7_leaves 20 = .ok (.getfield 7, 3) := by decide +kernel
theorem dX7_leaves_23 : decode cX7_leaves 23 = .ok (.iload_n 1, 1) := by decide +kernel
theorem dX7_leaves_24 : decode cX7_leaves 24 = .ok (.bipush 25, 2) := by decide +kernel
theorem dX7_leaves_26 : decode cX7_leaves 26 = .ok (.iadd, 1) := by decide +kernel
theorem dX7_leaves_27 : decode cX7_leaves 27 = .ok (.iaload, 1) := by decide +kernel
theorem dX7_leaves_28 : decode cX7_leaves 28 = .ok (.if_icmp .ge 35, 3) := by decide +kernel
theorem dX7_leaves_31 : decode cX7_leaves 31 = .ok (.aload_n 0, 1) := by decide +kernel
theorem dX7_leaves_32 : decode cX7_leaves 32 = .ok (.getfield 7, 3) := by decide +kernel
theorem dX7_leaves_35 : decode cX7_leaves 35 = .ok (.iload_n 1, 1) := by decide +kernel
theorem dX7_leaves_36 : decode cX7_leaves 36 = .ok (.bipush 26, 2) := by decide +kernel
theorem dX7_leaves_38 : decode cX7_leaves 38 = .ok (.iadd, 1) := by decide +kernel
theorem dX7_leaves_39 : decode cX7_leaves 39 = .ok (.iload 4, 2) := by decide +kernel
theorem dX7_leaves_41 : decode cX7_leaves 41 = .ok (.iadd, 1) := by decide +kernel
theorem dX7_leaves_42 : decode cX7_leaves 42 = .ok (.aload_n 0, 1) := by decide +kernel
theorem dX7_leaves_43 : decode cX7_leaves 43 = .ok (.getfield 7, 3) := by decide +kernel
theorem dX7_leaves_46 : decode cX7_leaves 46 = .ok (.iload_n 1, 1) := by decide +kernel
theorem dX7_leaves_47 : decode cX7_leaves 47 = .ok (.bipush 26, 2) := by decide +kernel
theorem dX7_leaves_49 : decode cX7_leaves 49 = .ok (.iadd, 1) := by decide +kernel
theorem dX7_leaves_50 : decode cX7_leaves 50 = .ok (.iload 4, 2) := by decide +kernel
theorem dX7_leaves_52 : decode cX7_leaves 52 = .ok (.iadd, 1) := by decide +kernel
theorem dX7_leaves_53 : decode cX7_leaves 53 = .ok (.iconst 1, 1) := by decide +kernel
theorem dX7_leaves_54 : decode cX7_leaves 54 = .ok (.iadd, 1) := by decide +kernel
theorem dX7_leaves_55 : decode cX7_leaves 55 = .ok (.iaload, 1) := by decide +kernel
theorem dX7_leaves_56 : decode cX7_leaves 56 = .ok (.iastore, 1) := by decide +kernel
theorem dX7_leaves_57 : decode cX7_leaves 57 = .ok (.iinc 4 1, 3) := by decide +kernel
theorem dX7_leaves_60 : decode cX7_leaves 60 = .ok (.goto (-45), 3) := by decide +kernel
theorem dX7_leaves_63 : decode cX7_leaves 63 = .ok (.aload_n 0, 1) := by decide +kernel
theorem dX7_leaves_64 : decode cX7_leaves 64 = .ok (.getfield 7, 3) := by decide +kernel
theorem dX7_leaves_67 : decode cX7_leaves 67 = .ok (.iload_n 1, 1) := by decide +kernel
theorem dX7_leaves_68 : decode cX7_leaves 68 = .ok (.bipush 25, 2) := by decide +kernel
theorem dX7_leaves_70 : decode cX7_leaves 70 = .ok (.iadd, 1) := by decide +kernel
theorem dX7_leaves_71 : decode cX7_leaves 71 = .ok (.dup2, 1) := by decide +kernel
theorem dX7_leaves_72 : decode cX7_leaves 72 = .ok (.iaload, 1) := by decide +kernel
theorem dX7_leaves_73 : decode cX7_leaves 73 = .ok (.iconst 1, 1) := by decide +kernel
theorem dX7_leaves_74 : decode cX7_leaves 74 = .ok (.isub, 1) := by decide +kernel
theorem dX7_leaves_75 : decode cX7_leaves 75 = .ok (.iastore, 1) := by decide +kernel
theorem dX7_leaves_76 : decode cX7_leaves 76 = .ok (.iload_n 3, 1) := by decide +kernel
theorem dX7_leaves_77 : decode cX7_leaves 77 = .ok (.ireturn, 1) := by decide +kernel
set_option maxRecDepth 20000 in
theorem ggX7_ticks_X7_passes : GoodIn wsX7_ticks wsX7_passes := goodIn_r _ [6, 1, 7, 8, 9, 5, 10, 11, 12, 13, 14, 15, 16, 17, 18, 19, 20, 21, 22, 23, 24, 25, 26, 27, 28, 29, 30, 31, 32, 33, 34, 35, 36, 37, 61, 62, 63, 64, 65, 66, 67, 68, 69, 70, 71] (by decide +kernel) (by decide +kernel)
set_option maxRecDepth 20000 in
theorem gX7_ticks_X7_passes : GoodIn wsX7_ticks (wsV RX7 64 RX7 yX7_passes wsX7_passes) := goodIn_app (goodIn_of _ (by decide +kernel)) ggX7_ticks_X7_passes
set_option maxRecDepth 20000 in
theorem ggX7_ticks_X7_lowestEmpty : GoodIn wsX7_ticks wsX7_lowestEmpty := goodIn_r _ [41, 1, 61, 62, 63, 64, 65, 66, 67, 68, 69, 70, 71] (by decide +kernel) (by decide +kernel)
set_option maxRecDepth 20000 in
theorem gX7_ticks_X7_lowestEmpty : GoodIn wsX7_ticks (wsV RX7 67 RX7 yX7_lowestEmpty wsX7_lowestEmpty) := goodIn_app (goodIn_of _ (by decide +kernel)) ggX7_ticks_X7_lowestEmpty
set_option maxRecDepth 20000 in
theorem ggX7_ticks_X7_why : GoodIn wsX7_ticks wsX7_why := goodIn_r _ [45, 1, 19, 20, 21, 5, 22, 46, 47, 48, 49, 50, 51, 52, 53, 54, 55, 56, 2, 3, 4, 6, 7, 8, 9, 10, 11, 12, 13, 14, 15, 16, 17, 18, 23, 24, 25, 26, 27, 28, 29, 30, 31, 32, 33, 34, 35, 36, 37, 61, 62, 63, 64, 65, 66, 67, 68, 69, 70, 71] (by decide +kernel) (by decide +kernel)
set_option maxRecDepth 20000 in
theorem gX7_ticks_X7_why : GoodIn wsX7_ticks (wsV RX7 70 RX7 yX7_why wsX7_why) := goodIn_app (goodIn_of _ (by decide +kernel)) ggX7_ticks_X7_why
set_option maxRecDepth 20000 in
theorem ggX7_ticks_X7_leaves : GoodIn wsX7_ticks wsX7_leaves := goodIn_r _ [60, 1, 61, 62, 63, 64, 65, 66, 67, 68, 69, 70, 71] (by decide +kernel) (by decide +kernel)
set_option maxRecDepth 20000 in
theorem gX7_ticks_X7_leaves : GoodIn wsX7_ticks (wsV RX7 74 RX7 yX7_leaves wsX7_leaves) := goodIn_app (goodIn_of _ (by decide +kernel)) ggX7_ticks_X7_leaves
set_option maxRecDepth 20000 in
theorem ggX7_ticks_X7_puts : GoodIn wsX7_ticks wsX7_puts := goodIn_r _ [53, 1, 54, 55, 5, 56, 61, 62, 63, 64, 65, 66, 67, 68, 69, 70, 71] (by decide +kernel) (by decide +kernel)
set_option maxRecDepth 20000 in
theorem gX7_ticks_X7_puts : GoodIn wsX7_ticks (wsV RX7 60 RX7 yX7_puts wsX7_puts) := goodIn_app (goodIn_of _ (by decide +kernel)) ggX7_ticks_X7_puts
theorem dX7_ticks_0 : decode cX7_ticks 0 = .ok (.bipush 46, 2) := by decide +kernel
theorem dX7_ticks_2 : decode cX7_ticks 2 = .ok (.iload_n 1, 1) := by decide +kernel
theorem dX7_ticks_3 : decode cX7_ticks 3 = .ok (.imul, 1) := by decide +kernel
theorem dX7_ticks_4 : decode cX7_ticks 4 = .ok (.istore_n 3, 1) := by decide +kernel
theorem dX7_ticks_5 : decode cX7_ticks 5 = .ok (.iconst 0, 1) := by decide +kernel
theorem dX7_ticks_6 : decode cX7_ticks 6 = .ok (.istore 4, 2) := by decide +kernel
theorem dX7_ticks_8 : decode cX7_ticks 8 = .ok (.iload 4, 2) := by decide +kernel
theorem dX7_ticks_10 : decode cX7_ticks 10 = .ok (.iload_n 2, 1) := by decide +kernel
theorem dX7_ticks_11 : decode cX7_ticks 11 = .ok (.if_icmp .ge 65, 3) := by decide +kernel
theorem dX7_ticks_14 : decode cX7_ticks 14 = .ok (.aload_n 0, 1) := by decide +kernel
end
section
theorem dX7_ticks_15 : decode cX7_ticks 15 = .ok (.iload_n 3, 1) := by decide +kernel
theorem dX7_ticks_16 : decode cX7_ticks 16 = .ok (.invokevirtual 64, 3) := by decide +kernel
theorem dX7_ticks_19 : decode cX7_ticks 19 = .ok (.aload_n 0, 1) := by decide +kernel
theorem dX7_ticks_20 : decode cX7_ticks 20 = .ok (.iload_n 3, 1) := by decide +kernel
theorem dX7_ticks_21 : decode cX7_ticks 21 = .ok (.invokevirtual 67, 3) := by decide +kernel
theorem dX7_ticks_24 : decode cX7_ticks 24 = .ok (.istore 5, 2) := by decide +kernel
theorem dX7_ticks_26 : decode cX7_ticks 26 = .ok (.aload_n 0, 1) := by decide +kernel
theorem dX7_ticks_27 : decode cX7_ticks 27 = .ok (.getfield 7, 3) := by decide +kernel
theorem dX7_ticks_30 : decode cX7_ticks 30 = .ok (.iload_n 3, 1) := by decide +kernel
theorem dX7_ticks_31 : decode cX7_ticks 31 = .ok (.bipush 25, 2) := by decide +kernel
theorem dX7_ticks_33 : decode cX7_ticks 33 = .ok (.iadd, 1) := by decide +kernel
theorem dX7_ticks_34 : decode cX7_ticks 34 = .ok (.iaload, 1) := by decide +kernel
theorem dX7_ticks_35 : decode cX7_ticks 35 = .ok (.ifCond .le 35, 3) := by decide +kernel
theorem dX7_ticks_38 : decode cX7_ticks 38 = .ok (.aload_n 0, 1) := by decide +kernel
theorem dX7_ticks_39 : decode cX7_ticks 39 = .ok (.iload_n 1, 1) := by decide +kernel
theorem dX7_ticks_40 : decode cX7_ticks 40 = .ok (.iload 5, 2) := by decide +kernel
theorem dX7_ticks_42 : decode cX7_ticks 42 = .ok (.aload_n 0, 1) := by decide +kernel
theorem dX7_ticks_43 : decode cX7_ticks 43 = .ok (.getfield 7, 3) := by decide +kernel
theorem dX7_ticks_46 : decode cX7_ticks 46 = .ok (.iload_n 3, 1) := by decide +kernel
theorem dX7_ticks_47 : decode cX7_ticks 47 = .ok (.bipush 26, 2) := by decide +kernel
theorem dX7_ticks_49 : decode cX7_ticks 49 = .ok (.iadd, 1) := by decide +kernel
theorem dX7_ticks_50 : decode cX7_ticks 50 = .ok (.iaload, 1) := by decide +kernel
theorem dX7_ticks_51 : decode cX7_ticks 51 = .ok (.invokevirtual 70, 3) := by decide +kernel
theorem dX7_ticks_54 : decode cX7_ticks 54 = .ok (.ifCond .ne 16, 3) := by decide +kernel
theorem dX7_ticks_57 : decode cX7_ticks 57 = .ok (.aload_n 0, 1) := by decide +kernel
theorem dX7_ticks_58 : decode cX7_ticks 58 = .ok (.iload_n 3, 1) := by decide +kernel
theorem dX7_ticks_59 : decode cX7_ticks 59 = .ok (.iload 5, 2) := by decide +kernel
theorem dX7_ticks_61 : decode cX7_ticks 61 = .ok (.aload_n 0, 1) := by decide +kernel
theorem dX7_ticks_62 : decode cX7_ticks 62 = .ok (.iload_n 3, 1) := by decide +kernel
theorem dX7_ticks_63 : decode cX7_ticks 63 = .ok (.iconst 0, 1) := by decide +kernel
theorem dX7_ticks_64 : decode cX7_ticks 64 = .ok (.invokevirtual 74, 3) := by decide +kernel
theorem dX7_ticks_67 : decode cX7_ticks 67 = .ok (.invokevirtual 60, 3) := by decide +kernel
theorem dX7_ticks_70 : decode cX7_ticks 70 = .ok (.iinc 4 1, 3) := by decide +kernel
theorem dX7_ticks_73 : decode cX7_ticks 73 = .ok (.goto (-65), 3) := by decide +kernel
theorem dX7_ticks_76 : decode cX7_ticks 76 = .ok (.return_, 1) := by decide +kernel
set_option maxRecDepth 20000 in
theorem ggX7_sets_X7_in : GoodIn wsX7_sets wsX7_in := goodIn_r _ [5] (by decide +kernel) (by decide +kernel)
set_option maxRecDepth 20000 in
theorem gX7_sets_X7_in : GoodIn wsX7_sets (va_wsS RX7 78 yX7_in wsX7_in) := goodIn_app (goodIn_of _ (by decide +kernel)) ggX7_sets_X7_in
theorem dX7_sets_0 : decode cX7_sets 0 = .ok (.iload_n 2, 1) := by decide +kernel
theorem dX7_sets_1 : decode cX7_sets 1 = .ok (.iconst 0, 1) := by decide +kernel
theorem dX7_sets_2 : decode cX7_sets 2 = .ok (.iconst 1, 1) := by decide +kernel
theorem dX7_sets_3 : decode cX7_sets 3 = .ok (.invokestatic 78, 3) := by decide +kernel
theorem dX7_sets_6 : decode cX7_sets 6 = .ok (.ifCond .ne 5, 3) := by decide +kernel
theorem dX7_sets_9 : decode cX7_sets 9 = .ok (.iconst (-1), 1) := by decide +kernel
theorem dX7_sets_10 : decode cX7_sets 10 = .ok (.ireturn, 1) := by decide +kernel
theorem dX7_sets_11 : decode cX7_sets 11 = .ok (.iload_n 3, 1) := by decide +kernel
theorem dX7_sets_12 : decode cX7_sets 12 = .ok (.iconst 0, 1) := by decide +kernel
theorem dX7_sets_13 : decode cX7_sets 13 = .ok (.iconst 5, 1) := by decide +kernel
theorem dX7_sets_14 : decode cX7_sets 14 = .ok (.invokestatic 78, 3) := by decide +kernel
theorem dX7_sets_17 : decode cX7_sets 17 = .ok (.ifCond .ne 6, 3) := by decide +kernel
theorem dX7_sets_20 : decode cX7_sets 20 = .ok (.bipush (-2), 2) := by decide +kernel
theorem dX7_sets_22 : decode cX7_sets 22 = .ok (.ireturn, 1) := by decide +kernel
theorem dX7_sets_23 : decode cX7_sets 23 = .ok (.bipush 46, 2) := by decide +kernel
theorem dX7_sets_25 : decode cX7_sets 25 = .ok (.iload_n 1, 1) := by decide +kernel
theorem dX7_sets_26 : decode cX7_sets 26 = .ok (.imul, 1) := by decide +kernel
theorem dX7_sets_27 : decode cX7_sets 27 = .ok (.iload_n 2, 1) := by decide +kernel
theorem dX7_sets_28 : decode cX7_sets 28 = .ok (.iadd, 1) := by decide +kernel
theorem dX7_sets_29 : decode cX7_sets 29 = .ok (.istore 4, 2) := by decide +kernel
theorem dX7_sets_31 : decode cX7_sets 31 = .ok (.aload_n 0, 1) := by decide +kernel
theorem dX7_sets_32 : decode cX7_sets 32 = .ok (.getfield 7, 3) := by decide +kernel
theorem dX7_sets_35 : decode cX7_sets 35 = .ok (.iload 4, 2) := by decide +kernel
theorem dX7_sets_37 : decode cX7_sets 37 = .ok (.bipush 6, 2) := by decide +kernel
theorem dX7_sets_39 : decode cX7_sets 39 = .ok (.iadd, 1) := by decide +kernel
theorem dX7_sets_40 : decode cX7_sets 40 = .ok (.iaload, 1) := by decide +kernel
theorem dX7_sets_41 : decode cX7_sets 41 = .ok (.ifCond .le 6, 3) := by decide +kernel
theorem dX7_sets_44 : decode cX7_sets 44 = .ok (.bipush (-4), 2) := by decide +kernel
theorem dX7_sets_46 : decode cX7_sets 46 = .ok (.ireturn, 1) := by decide +kernel
theorem dX7_sets_47 : decode cX7_sets 47 = .ok (.aload_n 0, 1) := by decide +kernel
theorem dX7_sets_48 : decode cX7_sets 48 = .ok (.getfield 7, 3) := by decide +kernel
theorem dX7_sets_51 : decode cX7_sets 51 = .ok (.iload 4, 2) := by decide +kernel
theorem dX7_sets_53 : decode cX7_sets 53 = .ok (.iaload, 1) := by decide +kernel
theorem dX7_sets_54 : decode cX7_sets 54 = .ok (.istore 5, 2) := by decide +kernel
theorem dX7_sets_56 : decode cX7_sets 56 = .ok (.iload 5, 2) := by decide +kernel
theorem dX7_sets_58 : decode cX7_sets 58 = .ok (.iload_n 3, 1) := by decide +kernel
theorem dX7_sets_59 : decode cX7_sets 59 = .ok (.if_icmp .ne 6, 3) := by decide +kernel
theorem dX7_sets_62 : decode cX7_sets 62 = .ok (.bipush (-5), 2) := by decide +kernel
theorem dX7_sets_64 : decode cX7_sets 64 = .ok (.ireturn, 1) := by decide +kernel
theorem dX7_sets_65 : decode cX7_sets 65 = .ok (.aload_n 0, 1) := by decide +kernel
theorem dX7_sets_66 : decode cX7_sets 66 = .ok (.getfield 7, 3) := by decide +kernel
theorem dX7_sets_69 : decode cX7_sets 69 = .ok (.iload 4, 2) := by decide +kernel
theorem dX7_sets_71 : decode cX7_sets 71 = .ok (.iload_n 3, 1) := by decide +kernel
theorem dX7_sets_72 : decode cX7_sets 72 = .ok (.iastore, 1) := by decide +kernel
theorem dX7_sets_73 : decode cX7_sets 73 = .ok (.iload 5, 2) := by decide +kernel
theorem dX7_sets_75 : decode cX7_sets 75 = .ok (.ireturn, 1) := by decide +kernel
set_option maxRecDepth 20000 in
theorem ggX7_fills_X7_in : GoodIn wsX7_fills wsX7_in := goodIn_r _ [5] (by decide +kernel) (by decide +kernel)
set_option maxRecDepth 20000 in
theorem gX7_fills_X7_in : GoodIn wsX7_fills (va_wsS RX7 78 yX7_in wsX7_in) := goodIn_app (goodIn_of _ (by decide +kernel)) ggX7_fills_X7_in
theorem dX7_fills_0 : decode cX7_fills 0 = .ok (.iload_n 2, 1) := by decide +kernel
theorem dX7_fills_1 : decode cX7_fills 1 = .ok (.iconst 0, 1) := by decide +kernel
theorem dX7_fills_2 : decode cX7_fills 2 = .ok (.iconst 1, 1) := by decide +kernel
theorem dX7_fills_3 : decode cX7_fills 3 = .ok (.invokestatic 78, 3) := by decide +kernel
theorem dX7_fills_6 : decode cX7_fills 6 = .ok (.ifCond .ne 5, 3) := by decide +kernel
theorem dX7_fills_9 : decode cX7_fills 9 = .ok (.iconst (-1), 1) := by decide +kernel
theorem dX7_fills_10 : decode cX7_fills 10 = .ok (.ireturn, 1) := by decide +kernel
theorem dX7_fills_11 : decode cX7_fills 11 = .ok (.iload_n 3, 1) := by decide +kernel
theorem dX7_fills_12 : decode cX7_fills 12 = .ok (.iconst 1, 1) := by decide +kernel
theorem dX7_fills_13 : decode cX7_fills 13 = .ok (.sipush 200, 3) := by decide +kernel
theorem dX7_fills_16 : decode cX7_fills 16 = .ok (.invokestatic 78, 3) := by decide +kernel
theorem dX7_fills_19 : decode cX7_fills 19 = .ok (.ifCond .ne 6, 3) := by decide +kernel
theorem dX7_fills_22 : decode cX7_fills 22 = .ok (.bipush (-2), 2) := by decide +kernel
theorem dX7_fills_24 : decode cX7_fills 24 = .ok (.ireturn, 1) := by decide +kernel
theorem dX7_fills_25 : decode cX7_fills 25 = .ok (.bipush 46, 2) := by decide +kernel
theorem dX7_fills_27 : decode cX7_fills 27 = .ok (.iload_n 1, 1) := by decide +kernel
theorem dX7_fills_28 : decode cX7_fills 28 = .ok (.imul, 1) := by decide +kernel
theorem dX7_fills_29 : decode cX7_fills 29 = .ok (.iconst 2, 1) := by decide +kernel
theorem dX7_fills_30 : decode cX7_fills 30 = .ok (.iadd, 1) := by decide +kernel
theorem dX7_fills_31 : decode cX7_fills 31 = .ok (.iload_n 2, 1) := by decide +kernel
theorem dX7_fills_32 : decode cX7_fills 32 = .ok (.iadd, 1) := by decide +kernel
theorem dX7_fills_33 : decode cX7_fills 33 = .ok (.istore 4, 2) := by decide +kernel
theorem dX7_fills_35 : decode cX7_fills 35 = .ok (.aload_n 0, 1) := by decide +kernel
theorem dX7_fills_36 : decode cX7_fills 36 = .ok (.getfield 7, 3) := by decide +kernel
theorem dX7_fills_39 : decode cX7_fills 39 = .ok (.iload 4, 2) := by decide +kernel
theorem dX7_fills_41 : decode cX7_fills 41 = .ok (.iaload, 1) := by decide +kernel
theorem dX7_fills_42 : decode cX7_fills 42 = .ok (.sipush 200, 3) := by decide +kernel
theorem dX7_fills_45 : decode cX7_fills 45 = .ok (.iload_n 3, 1) := by decide +kernel
theorem dX7_fills_46 : decode cX7_fills 46 = .ok (.isub, 1) := by decide +kernel
theorem dX7_fills_47 : decode cX7_fills 47 = .ok (.if_icmp .le 6, 3) := by decide +kernel
theorem dX7_fills_50 : decode cX7_fills 50 = .ok (.bipush (-3), 2) := by decide +kernel
theorem dX7_fills_52 : decode cX7_fills 52 = .ok (.ireturn, 1) := by decide +kernel
theorem dX7_fills_53 : decode cX7_fills 53 = .ok (.aload_n 0, 1) := by decide +kernel
theorem dX7_fills_54 : decode cX7_fills 54 = .ok (.getfield 7, 3) := by decide +kernel
theorem dX7_fills_57 : decode cX7_fills 57 = .ok (.iload 4, 2) := by decide +kernel
theorem dX7_fills_59 : decode cX7_fills 59 = .ok (.dup2, 1) := by decide +kernel
theorem dX7_fills_60 : decode cX7_fills 60 = .ok (.iaload, 1) := by decide +kernel
theorem dX7_fills_61 : decode cX7_fills 61 = .ok (.iload_n 3, 1) := by decide +kernel
theorem dX7_fills_62 : decode cX7_fills 62 = .ok (.iadd, 1) := by decide +kernel
theorem dX7_fills_63 : decode cX7_fills 63 = .ok (.iastore, 1) := by decide +kernel
theorem dX7_fills_64 : decode cX7_fills 64 = .ok (.aload_n 0, 1) := by decide +kernel
theorem dX7_fills_65 : decode cX7_fills 65 = .ok (.getfield 7, 3) := by decide +kernel
theorem dX7_fills_68 : decode cX7_fills 68 = .ok (.iload 4, 2) := by decide +kernel
theorem dX7_fills_70 : decode cX7_fills 70 = .ok (.iaload, 1) := by decide +kernel
theorem dX7_fills_71 : decode cX7_fills 71 = .ok (.ireturn, 1) := by decide +kernel
set_option maxRecDepth 20000 in
theorem ggX7_starts_X7_in : GoodIn wsX7_starts wsX7_in := goodIn_r _ [4] (by decide +kernel) (by decide +kernel)
set_option maxRecDepth 20000 in
theorem gX7_starts_X7_in : GoodIn wsX7_starts (va_wsS RX7 78 yX7_in wsX7_in) := goodIn_app (goodIn_of _ (by decide +kernel)) ggX7_starts_X7_in
set_option maxRecDepth 20000 in
theorem ggX7_starts_X7_why : GoodIn wsX7_starts wsX7_why := goodIn_r _ [8, 9, 10, 11, 12, 3, 13, 14, 15, 16, 17, 18, 19, 20, 21, 22, 23, 24, 25, 26, 27, 28, 29, 30, 31, 32, 33, 34, 35, 36, 37, 38, 39, 40, 41, 42, 43, 44, 45, 46, 47, 48, 49, 50, 51, 52, 53, 54, 55, 56, 57, 58, 59, 60, 61, 62, 63, 64, 65, 66] (by decide +kernel) (by decide +kernel)
set_option maxRecDepth 20000 in
theorem gX7_starts_X7_why : GoodIn wsX7_starts (wsV RX7 70 RX7 yX7_why wsX7_why) := goodIn_app (goodIn_of _ (by decide +kernel)) ggX7_starts_X7_why
set_option maxRecDepth 20000 in
theorem ggX7_starts_X7_puts : GoodIn wsX7_starts wsX7_puts := goodIn_r _ [21, 9, 22, 23, 3, 24, 56, 57, 58, 59, 60, 61, 62, 63, 64, 65, 66] (by decide +kernel) (by decide +kernel)
set_option maxRecDepth 20000 in
theorem gX7_starts_X7_puts : GoodIn wsX7_starts (wsV RX7 60 RX7 yX7_puts wsX7_puts) := goodIn_app (goodIn_of _ (by decide +kernel)) ggX7_starts_X7_puts
set_option maxRecDepth 20000 in
theorem ggX7_starts_X7_ticksOf : GoodIn wsX7_starts wsX7_ticksOf := goodIn_r _ [24] (by decide +kernel) (by decide +kernel)
set_option maxRecDepth 20000 in
theorem gX7_starts_X7_ticksOf : GoodIn wsX7_starts (va_wsS RX7 51 yX7_ticksOf wsX7_ticksOf) := goodIn_app (goodIn_of _ (by decide +kernel)) ggX7_starts_X7_ticksOf
theorem dX7_starts_0 : decode cX7_starts 0 = .ok (.iload_n 2, 1) := by decide +kernel
theorem dX7_starts_1 : decode cX7_starts 1 = .ok (.iconst 0, 1) := by decide +kernel
theorem dX7_starts_2 : decode cX7_starts 2 = .ok (.iconst 3, 1) := by decide +kernel
theorem dX7_starts_3 : decode cX7_starts 3 = .ok (.invokestatic 78, 3) := by decide +kernel
theorem dX7_starts_6 : decode cX7_starts 6 = .ok (.ifCond .eq 12, 3) := by decide +kernel
theorem dX7_starts_9 : decode cX7_starts 9 = .ok (.iload_n 3, 1) := by decide +kernel
theorem dX7_starts_10 : decode cX7_starts 10 = .ok (.iconst 0, 1) := by decide +kernel
theorem dX7_starts_11 : decode cX7_starts 11 = .ok (.iconst 2, 1) := by decide +kernel
theorem dX7_starts_12 : decode cX7_starts 12 = .ok (.invokestatic 78, 3) := by decide +kernel
theorem dX7_starts_15 : decode cX7_starts 15 = .ok (.ifCond .ne 5, 3) := by decide +kernel
theorem dX7_starts_18 : decode cX7_starts 18 = .ok (.iconst (-1), 1) := by decide +kernel
theorem dX7_starts_19 : decode cX7_starts 19 = .ok (.ireturn, 1) := by decide +kernel
theorem dX7_starts_20 : decode cX7_starts 20 = .ok (.aload_n 0, 1) := by decide +kernel
theorem dX7_starts_21 : decode cX7_starts 21 = .ok (.iload_n 1, 1) := by decide +kernel
theorem dX7_starts_22 : decode cX7_starts 22 = .ok (.iload_n 2, 1) := by decide +kernel
theorem dX7_starts_23 : decode cX7_starts 23 = .ok (.iload_n 3, 1) := by decide +kernel
theorem dX7_starts_24 : decode cX7_starts 24 = .ok (.invokevirtual 70, 3) := by decide +kernel
theorem dX7_starts_27 : decode cX7_starts 27 = .ok (.istore 4, 2) := by decide +kernel
theorem dX7_starts_29 : decode cX7_starts 29 = .ok (.iload 4, 2) := by decide +kernel
theorem dX7_starts_31 : decode cX7_starts 31 = .ok (.ifCond .le 9, 3) := by decide +kernel
theorem dX7_starts_34 : decode cX7_starts 34 = .ok (.bipush (-10), 2) := by decide +kernel
theorem dX7_starts_36 : decode cX7_starts 36 = .ok (.iload 4, 2) := by decide +kernel
theorem dX7_starts_38 : decode cX7_starts 38 = .ok (.isub, 1) := by decide +kernel
theorem dX7_starts_39 : decode cX7_starts 39 = .ok (.ireturn, 1) := by decide +kernel
theorem dX7_starts_40 : decode cX7_starts 40 = .ok (.aload_n 0, 1) := by decide +kernel
theorem dX7_starts_41 : decode cX7_starts 41 = .ok (.bipush 46, 2) := by decide +kernel
theorem dX7_starts_43 : decode cX7_starts 43 = .ok (.iload_n 1, 1) := by decide +kernel
theorem dX7_starts_44 : decode cX7_starts 44 = .ok (.imul, 1) := by decide +kernel
theorem dX7_starts_45 : decode cX7_starts 45 = .ok (.iload_n 2, 1) := by decide +kernel
theorem dX7_starts_46 : decode cX7_starts 46 = .ok (.iload_n 3, 1) := by decide +kernel
theorem dX7_starts_47 : decode cX7_starts 47 = .ok (.invokevirtual 60, 3) := by decide +kernel
theorem dX7_starts_50 : decode cX7_starts 50 = .ok (.iload_n 3, 1) := by decide +kernel
theorem dX7_starts_51 : decode cX7_starts 51 = .ok (.invokestatic 51, 3) := by decide +kernel
theorem dX7_starts_54 : decode cX7_starts 54 = .ok (.ireturn, 1) := by decide +kernel
set_option maxRecDepth 20000 in
theorem ggX7_queues_X7_in : GoodIn wsX7_queues wsX7_in := goodIn_r _ [5] (by decide +kernel) (by decide +kernel)
set_option maxRecDepth 20000 in
theorem gX7_queues_X7_in : GoodIn wsX7_queues (va_wsS RX7 78 yX7_in wsX7_in) := goodIn_app (goodIn_of _ (by decide +kernel)) ggX7_queues_X7_in
theorem dX7_queues_0 : decode cX7_queues 0 = .ok (.iload_n 2, 1) := by decide +kernel
theorem dX7_queues_1 : decode cX7_queues 1 = .ok (.iconst 0, 1) := by decide +kernel
theorem dX7_queues_2 : decode cX7_queues 2 = .ok (.iconst 2, 1) := by decide +kernel
theorem dX7_queues_3 : decode cX7_queues 3 = .ok (.invokestatic 78, 3) := by decide +kernel
theorem dX7_queues_6 : decode cX7_queues 6 = .ok (.ifCond .ne 5, 3) := by decide +kernel
theorem dX7_queues_9 : decode cX7_queues 9 = .ok (.iconst (-1), 1) := by decide +kernel
theorem dX7_queues_10 : decode cX7_queues 10 = .ok (.ireturn, 1) := by decide +kernel
theorem dX7_queues_11 : decode cX7_queues 11 = .ok (.bipush 46, 2) := by decide +kernel
theorem dX7_queues_13 : decode cX7_queues 13 = .ok (.iload_n 1, 1) := by decide +kernel
theorem dX7_queues_14 : decode cX7_queues 14 = .ok (.imul, 1) := by decide +kernel
theorem dX7_queues_15 : decode cX7_queues 15 = .ok (.istore_n 3, 1) := by decide +kernel
theorem dX7_queues_16 : decode cX7_queues 16 = .ok (.aload_n 0, 1) := by decide +kernel
theorem dX7_queues_17 : decode cX7_queues 17 = .ok (.getfield 7, 3) := by decide +kernel
theorem dX7_queues_20 : decode cX7_queues 20 = .ok (.iload_n 3, 1) := by decide +kernel
theorem dX7_queues_21 : decode cX7_queues 21 = .ok (.bipush 25, 2) := by decide +kernel
theorem dX7_queues_23 : decode cX7_queues 23 = .ok (.iadd, 1) := by decide +kernel
theorem dX7_queues_24 : decode cX7_queues 24 = .ok (.iaload, 1) := by decide +kernel
theorem dX7_queues_25 : decode cX7_queues 25 = .ok (.bipush 12, 2) := by decide +kernel
theorem dX7_queues_27 : decode cX7_queues 27 = .ok (.if_icmp .ne 6, 3) := by decide +kernel
theorem dX7_queues_30 : decode cX7_queues 30 = .ok (.bipush (-3), 2) := by decide +kernel
theorem dX7_queues_32 : decode cX7_queues 32 = .ok (.ireturn, 1) := by decide +kernel
theorem dX7_queues_33 : decode cX7_queues 33 = .ok (.aload_n 0, 1) := by decide +kernel
theorem dX7_queues_34 : decode cX7_queues 34 = .ok (.getfield 7, 3) := by decide +kernel
theorem dX7_queues_37 : decode cX7_queues 37 = .ok (.iload_n 3, 1) := by decide +kernel
theorem dX7_queues_38 : decode cX7_queues 38 = .ok (.bipush 26, 2) := by decide +kernel
theorem dX7_queues_40 : decode cX7_queues 40 = .ok (.iadd, 1) := by decide +kernel
theorem dX7_queues_41 : decode cX7_queues 41 = .ok (.aload_n 0, 1) := by decide +kernel
theorem dX7_queues_42 : decode cX7_queues 42 = .ok (.getfield 7, 3) := by decide +kernel
theorem dX7_queues_45 : decode cX7_queues 45 = .ok (.iload_n 3, 1) := by decide +kernel
theorem dX7_queues_46 : decode cX7_queues 46 = .ok (.bipush 25, 2) := by decide +kernel
theorem dX7_queues_48 : decode cX7_queues 48 = .ok (.iadd, 1) := by decide +kernel
theorem dX7_queues_49 : decode cX7_queues 49 = .ok (.iaload, 1) := by decide +kernel
theorem dX7_queues_50 : decode cX7_queues 50 = .ok (.iadd, 1) := by decide +kernel
theorem dX7_queues_51 : decode cX7_queues 51 = .ok (.iload_n 2, 1) := by decide +kernel
theorem dX7_queues_52 : decode cX7_queues 52 = .ok (.iastore, 1) := by decide +kernel
theorem dX7_queues_53 : decode cX7_queues 53 = .ok (.aload_n 0, 1) := by decide +kernel
theorem dX7_queues_54 : decode cX7_queues 54 = .ok (.getfield 7, 3) := by decide +kernel
theorem dX7_queues_57 : decode cX7_queues 57 = .ok (.iload_n 3, 1) := by decide +kernel
theorem dX7_queues_58 : decode cX7_queues 58 = .ok (.bipush 25, 2) := by decide +kernel
theorem dX7_queues_60 : decode cX7_queues 60 = .ok (.iadd, 1) := by decide +kernel
theorem dX7_queues_61 : decode cX7_queues 61 = .ok (.dup2, 1) := by decide +kernel
theorem dX7_queues_62 : decode cX7_queues 62 = .ok (.iaload, 1) := by decide +kernel
theorem dX7_queues_63 : decode cX7_queues 63 = .ok (.iconst 1, 1) := by decide +kernel
theorem dX7_queues_64 : decode cX7_queues 64 = .ok (.iadd, 1) := by decide +kernel
theorem dX7_queues_65 : decode cX7_queues 65 = .ok (.iastore, 1) := by decide +kernel
theorem dX7_queues_66 : decode cX7_queues 66 = .ok (.aload_n 0, 1) := by decide +kernel
theorem dX7_queues_67 : decode cX7_queues 67 = .ok (.getfield 7, 3) := by decide +kernel
theorem dX7_queues_70 : decode cX7_queues 70 = .ok (.iload_n 3, 1) := by decide +kernel
theorem dX7_queues_71 : decode cX7_queues 71 = .ok (.bipush 25, 2) := by decide +kernel
theorem dX7_queues_73 : decode cX7_queues 73 = .ok (.iadd, 1) := by decide +kernel
theorem dX7_queues_74 : decode cX7_queues 74 = .ok (.iaload, 1) := by decide +kernel
theorem dX7_queues_75 : decode cX7_queues 75 = .ok (.iconst 1, 1) := by decide +kernel
theorem dX7_queues_76 : decode cX7_queues 76 = .ok (.isub, 1) := by decide +kernel
theorem dX7_queues_77 : decode cX7_queues 77 = .ok (.ireturn, 1) := by decide +kernel
set_option maxRecDepth 20000 in
theorem ggX7_runs_X7_in : GoodIn wsX7_runs wsX7_in := goodIn_r _ [6] (by decide +kernel) (by decide +kernel)
set_option maxRecDepth 20000 in
theorem gX7_runs_X7_in : GoodIn wsX7_runs (va_wsS RX7 78 yX7_in wsX7_in) := goodIn_app (goodIn_of _ (by decide +kernel)) ggX7_runs_X7_in
set_option maxRecDepth 20000 in
theorem ggX7_runs_X7_ticks : GoodIn wsX7_runs wsX7_ticks := goodIn_r _ [10, 1, 11, 12, 13, 5, 14, 15, 16, 17, 18, 19, 20, 21, 22, 23, 24, 25, 26, 27, 28, 29, 30, 31, 32, 33, 34, 35, 36, 37, 38, 39, 40, 41, 42, 43, 44, 45, 46, 47, 48, 49, 50, 51, 52, 53, 54, 55, 56, 57, 58, 59, 60, 61, 62, 63, 64, 65, 66, 67, 68, 69, 70, 71, 72, 73, 74, 75, 76, 77, 78, 79] (by decide +kernel) (by decide +kernel)
set_option maxRecDepth 20000 in
theorem gX7_runs_X7_ticks : GoodIn wsX7_runs (wsV RX7 83 RX7 yX7_ticks wsX7_ticks) := goodIn_app (goodIn_of _ (by decide +kernel)) ggX7_runs_X7_ticks
theorem dX7_runs_0 : decode cX7_runs 0 = .ok (.iload_n 2, 1) := by decide +kernel
theorem dX7_runs_1 : decode cX7_runs 1 = .ok (.iconst 1, 1) := by decide +kernel
theorem dX7_runs_2 : decode cX7_runs 2 = .ok (.sipush 200, 3) := by decide +kernel
theorem dX7_runs_5 : decode cX7_runs 5 = .ok (.invokestatic 78, 3) := by decide +kernel
theorem dX7_runs_8 : decode cX7_runs 8 = .ok (.ifCond .ne 6, 3) := by decide +kernel
theorem dX7_runs_11 : decode cX7_runs 11 = .ok (.bipush (-2), 2) := by decide +kernel
theorem dX7_runs_13 : decode cX7_runs 13 = .ok (.ireturn, 1) := by decide +kernel
theorem dX7_runs_14 : decode cX7_runs 14 = .ok (.bipush 46, 2) := by decide +kernel
theorem dX7_runs_16 : decode cX7_runs 16 = .ok (.iload_n 1, 1) := by decide +kernel
theorem dX7_runs_17 : decode cX7_runs 17 = .ok (.imul, 1) := by decide +kernel
theorem dX7_runs_18 : decode cX7_runs 18 = .ok (.istore_n 3, 1) := by decide +kernel
theorem dX7_runs_19 : decode cX7_runs 19 = .ok (.aload_n 0, 1) := by decide +kernel
theorem dX7_runs_20 : decode cX7_runs 20 = .ok (.getfield 7, 3) := by decide +kernel
theorem dX7_runs_23 : decode cX7_runs 23 = .ok (.iload_n 3, 1) := by decide +kernel
theorem dX7_runs_24 : decode cX7_runs 24 = .ok (.bipush 12, 2) := by decide +kernel
theorem dX7_runs_26 : decode cX7_runs 26 = .ok (.iadd, 1) := by decide +kernel
theorem dX7_runs_27 : decode cX7_runs 27 = .ok (.iaload, 1) := by decide +kernel
theorem dX7_runs_28 : decode cX7_runs 28 = .ok (.ldc 82, 2) := by decide +kernel
theorem dX7_runs_30 : decode cX7_runs 30 = .ok (.iload_n 2, 1) := by decide +kernel
theorem dX7_runs_31 : decode cX7_runs 31 = .ok (.isub, 1) := by decide +kernel
theorem dX7_runs_32 : decode cX7_runs 32 = .ok (.if_icmp .le 6, 3) := by decide +kernel
theorem dX7_runs_35 : decode cX7_runs 35 = .ok (.bipush (-3), 2) := by decide +kernel
theorem dX7_runs_37 : decode cX7_runs 37 = .ok (.ireturn, 1) := by decide +kernel
theorem dX7_runs_38 : decode cX7_runs 38 = .ok (.aload_n 0, 1) := by decide +kernel
theorem dX7_runs_39 : decode cX7_runs 39 = .ok (.getfield 7, 3) := by decide +kernel
theorem dX7_runs_42 : decode cX7_runs 42 = .ok (.iload_n 3, 1) := by decide +kernel
theorem dX7_runs_43 : decode cX7_runs 43 = .ok (.bipush 41, 2) := by decide +kernel
theorem dX7_runs_45 : decode cX7_runs 45 = .ok (.iadd, 1) := by decide +kernel
theorem dX7_runs_46 : decode cX7_runs 46 = .ok (.iaload, 1) := by decide +kernel
theorem dX7_runs_47 : decode cX7_runs 47 = .ok (.istore 4, 2) := by decide +kernel
theorem dX7_runs_49 : decode cX7_runs 49 = .ok (.aload_n 0, 1) := by decide +kernel
theorem dX7_runs_50 : decode cX7_runs 50 = .ok (.iload_n 1, 1) := by decide +kernel
theorem dX7_runs_51 : decode cX7_runs 51 = .ok (.iload_n 2, 1) := by decide +kernel
theorem dX7_runs_52 : decode cX7_runs 52 = .ok (.invokevirtual 83, 3) := by decide +kernel
theorem dX7_runs_55 : decode cX7_runs 55 = .ok (.aload_n 0, 1) := by decide +kernel
theorem dX7_runs_56 : decode cX7_runs 56 = .ok (.getfield 7, 3) := by decide +kernel
theorem dX7_runs_59 : decode cX7_runs 59 = .ok (.iload_n 3, 1) := by decide +kernel
theorem dX7_runs_60 : decode cX7_runs 60 = .ok (.bipush 41, 2) := by decide +kernel
theorem dX7_runs_62 : decode cX7_runs 62 = .ok (.iadd, 1) := by decide +kernel
theorem dX7_runs_63 : decode cX7_runs 63 = .ok (.iaload, 1) := by decide +kernel
theorem dX7_runs_64 : decode cX7_runs 64 = .ok (.iload 4, 2) := by decide +kernel
theorem dX7_runs_66 : decode cX7_runs 66 = .ok (.isub, 1) := by decide +kernel
theorem dX7_runs_67 : decode cX7_runs 67 = .ok (.ireturn, 1) := by decide +kernel
set_option maxRecDepth 20000 in
theorem ggX7_settles_X7_records : GoodIn wsX7_settles wsX7_records := goodIn_r _ [5, 6, 7, 8, 9, 4, 10, 11, 12, 13, 14, 15, 16, 17, 18, 19, 20, 21, 22] (by decide +kernel) (by decide +kernel)
set_option maxRecDepth 20000 in
theorem gX7_settles_X7_records : GoodIn wsX7_settles (wsV RX7 86 RX7 yX7_records wsX7_records) := goodIn_app (goodIn_of _ (by decide +kernel)) ggX7_settles_X7_records
set_option maxRecDepth 20000 in
theorem ggX7_settles_X7_copies : GoodIn wsX7_settles wsX7_copies := goodIn_r _ [10, 11, 12, 13, 14, 15, 16, 17, 18, 19, 20, 21, 22] (by decide +kernel) (by decide +kernel)
set_option maxRecDepth 20000 in
theorem gX7_settles_X7_copies : GoodIn wsX7_settles (wsV RX7 27 RX7 yX7_copies wsX7_copies) := goodIn_app (goodIn_of _ (by decide +kernel)) ggX7_settles_X7_copies
theorem dX7_settles_0 : decode cX7_settles 0 = .ok (.iload_n 1, 1) := by decide +kernel
theorem dX7_settles_1 : decode cX7_settles 1 = .ok (.ifCond .lt 14, 3) := by decide +kernel
theorem dX7_settles_4 : decode cX7_settles 4 = .ok (.aload_n 0, 1) := by decide +kernel
theorem dX7_settles_5 : decode cX7_settles 5 = .ok (.invokevirtual 86, 3) := by decide +kernel
theorem dX7_settles_8 : decode cX7_settles 8 = .ok (.aload_n 0, 1) := by decide +kernel
theorem dX7_settles_9 : decode cX7_settles 9 = .ok (.bipush 6, 2) := by decide +kernel
theorem dX7_settles_11 : decode cX7_settles 11 = .ok (.iconst 0, 1) := by decide +kernel
theorem dX7_settles_12 : decode cX7_settles 12 = .ok (.invokevirtual 27, 3) := by decide +kernel
theorem dX7_settles_15 : decode cX7_settles 15 = .ok (.iload_n 1, 1) := by decide +kernel
theorem dX7_settles_16 : decode cX7_settles 16 = .ok (.ireturn, 1) := by decide +kernel
set_option maxRecDepth 20000 in
theorem ggX7_setFire_X7_copies : GoodIn wsX7_setFire wsX7_copies := goodIn_r _ [5, 6, 23, 24, 25, 26, 27, 28, 29, 30, 31, 32, 33] (by decide +kernel) (by decide +kernel)
set_option maxRecDepth 20000 in
theorem gX7_setFire_X7_copies : GoodIn wsX7_setFire (wsV RX7 27 RX7 yX7_copies wsX7_copies) := goodIn_app (goodIn_of _ (by decide +kernel)) ggX7_setFire_X7_copies
set_option maxRecDepth 20000 in
theorem ggX7_setFire_X7_sets : GoodIn wsX7_setFire wsX7_sets := goodIn_r _ [10, 6, 11, 12, 4, 13, 23, 24, 25, 26, 27, 28, 29, 30, 31, 32, 33] (by decide +kernel) (by decide +kernel)
set_option maxRecDepth 20000 in
theorem gX7_setFire_X7_sets : GoodIn wsX7_setFire (wsV RX7 89 RX7 yX7_sets wsX7_sets) := goodIn_app (goodIn_of _ (by decide +kernel)) ggX7_setFire_X7_sets
set_option maxRecDepth 20000 in
theorem ggX7_setFire_X7_settles : GoodIn wsX7_setFire wsX7_settles := goodIn_r _ [17, 18, 19, 20, 4, 21, 22, 1, 2, 3, 5, 6, 23, 24, 25, 26, 27, 28, 29, 30, 31, 32, 33] (by decide +kernel) (by decide +kernel)
set_option maxRecDepth 20000 in
theorem gX7_setFire_X7_settles : GoodIn wsX7_setFire (wsV RX7 92 RX7 yX7_settles wsX7_settles) := goodIn_app (goodIn_of _ (by decide +kernel)) ggX7_setFire_X7_settles
theorem dX7_setFire_0 : decode cX7_setFire 0 = .ok (.aload_n 0, 1) := by decide +kernel
theorem dX7_setFire_1 : decode cX7_setFire 1 = .ok (.iconst 0, 1) := by decide +kernel
theorem dX7_setFire_2 : decode cX7_setFire 2 = .ok (.bipush 6, 2) := by decide +kernel
theorem dX7_setFire_4 : decode cX7_setFire 4 = .ok (.invokevirtual 27, 3) := by decide +kernel
theorem dX7_setFire_7 : decode cX7_setFire 7 = .ok (.aload_n 0, 1) := by decide +kernel
theorem dX7_setFire_8 : decode cX7_setFire 8 = .ok (.aload_n 0, 1) := by decide +kernel
theorem dX7_setFire_9 : decode cX7_setFire 9 = .ok (.bipush 6, 2) := by decide +kernel
theorem dX7_setFire_11 : decode cX7_setFire 11 = .ok (.iload_n 1, 1) := by decide +kernel
theorem dX7_setFire_12 : decode cX7_setFire 12 = .ok (.iload_n 2, 1) := by decide +kernel
theorem dX7_setFire_13 : decode cX7_setFire 13 = .ok (.invokevirtual 89, 3) := by decide +kernel
theorem dX7_setFire_16 : decode cX7_setFire 16 = .ok (.invokevirtual 92, 3) := by decide +kernel
theorem dX7_setFire_19 : decode cX7_setFire 19 = .ok (.ireturn, 1) := by decide +kernel
set_option maxRecDepth 20000 in
theorem ggX7_fill_X7_copies : GoodIn wsX7_fill wsX7_copies := goodIn_r _ [5, 6, 23, 24, 25, 26, 27, 28, 29, 30, 31, 32, 33] (by decide +kernel) (by decide +kernel)
set_option maxRecDepth 20000 in
theorem gX7_fill_X7_copies : GoodIn wsX7_fill (wsV RX7 27 RX7 yX7_copies wsX7_copies) := goodIn_app (goodIn_of _ (by decide +kernel)) ggX7_fill_X7_copies
set_option maxRecDepth 20000 in
theorem ggX7_fill_X7_fills : GoodIn wsX7_fill wsX7_fills := goodIn_r _ [10, 6, 11, 12, 4, 13, 23, 24, 25, 26, 27, 28, 29, 30, 31, 32, 33] (by decide +kernel) (by decide +kernel)
set_option maxRecDepth 20000 in
theorem gX7_fill_X7_fills : GoodIn wsX7_fill (wsV RX7 95 RX7 yX7_fills wsX7_fills) := goodIn_app (goodIn_of _ (by decide +kernel)) ggX7_fill_X7_fills
set_option maxRecDepth 20000 in
theorem ggX7_fill_X7_settles : GoodIn wsX7_fill wsX7_settles := goodIn_r _ [17, 18, 19, 20, 4, 21, 22, 1, 2, 3, 5, 6, 23, 24, 25, 26, 27, 28, 29, 30, 31, 32, 33] (by decide +kernel) (by decide +kernel)
set_option maxRecDepth 20000 in
theorem gX7_fill_X7_settles : GoodIn wsX7_fill (wsV RX7 92 RX7 yX7_settles wsX7_settles) := goodIn_app (goodIn_of _ (by decide +kernel)) ggX7_fill_X7_settles
theorem dX7_fill_0 : decode cX7_fill 0 = .ok (.aload_n 0, 1) := by decide +kernel
theorem dX7_fill_1 : decode cX7_fill 1 = .ok (.iconst 0, 1) := by decide +kernel
theorem dX7_fill_2 : decode cX7_fill 2 = .ok (.bipush 6, 2) := by decide +kernel
theorem dX7_fill_4 : decode cX7_fill 4 = .ok (.invokevirtual 27, 3) := by decide +kernel
theorem dX7_fill_7 : decode cX7_fill 7 = .ok (.aload_n 0, 1) := by decide +kernel
theorem dX7_fill_8 : decode cX7_fill 8 = .ok (.aload_n 0, 1) := by decide +kernel
theorem dX7_fill_9 : decode cX7_fill 9 = .ok (.bipush 6, 2) := by decide +kernel
theorem dX7_fill_11 : decode cX7_fill 11 = .ok (.iload_n 1, 1) := by decide +kernel
theorem dX7_fill_12 : decode cX7_fill 12 = .ok (.iload_n 2, 1) := by decide +kernel
theorem dX7_fill_13 : decode cX7_fill 13 = .ok (.invokevirtual 95, 3) := by decide +kernel
theorem dX7_fill_16 : decode cX7_fill 16 = .ok (.invokevirtual 92, 3) := by decide +kernel
theorem dX7_fill_19 : decode cX7_fill 19 = .ok (.ireturn, 1) := by decide +kernel
set_option maxRecDepth 20000 in
theorem ggX7_setRation_X7_in : GoodIn wsX7_setRation wsX7_in := goodIn_r _ [5] (by decide +kernel) (by decide +kernel)
set_option maxRecDepth 20000 in
theorem gX7_setRation_X7_in : GoodIn wsX7_setRation (va_wsS RX7 78 yX7_in wsX7_in) := goodIn_app (goodIn_of _ (by decide +kernel)) ggX7_setRation_X7_in
set_option maxRecDepth 20000 in
theorem ggX7_setRation_X7_records : GoodIn wsX7_setRation wsX7_records := goodIn_r _ [9, 10, 11, 12, 13, 4, 14, 1, 15, 16, 17, 18, 19, 20, 21, 22, 23, 24, 25] (by decide +kernel) (by decide +kernel)
set_option maxRecDepth 20000 in
theorem gX7_setRation_X7_records : GoodIn wsX7_setRation (wsV RX7 86 RX7 yX7_records wsX7_records) := goodIn_app (goodIn_of _ (by decide +kernel)) ggX7_setRation_X7_records
theorem dX7_setRation_0 : decode cX7_setRation 0 = .ok (.iload_n 1, 1) := by decide +kernel
theorem dX7_setRation_1 : decode cX7_setRation 1 = .ok (.iconst 0, 1) := by decide +kernel
theorem dX7_setRation_2 : decode cX7_setRation 2 = .ok (.sipush 200, 3) := by decide +kernel
theorem dX7_setRation_5 : decode cX7_setRation 5 = .ok (.invokestatic 78, 3) := by decide +kernel
theorem dX7_setRation_8 : decode cX7_setRation 8 = .ok (.ifCond .ne 6, 3) := by decide +kernel
theorem dX7_setRation_11 : decode cX7_setRation 11 = .ok (.bipush (-2), 2) := by decide +kernel
theorem dX7_setRation_13 : decode cX7_setRation 13 = .ok (.ireturn, 1) := by decide +kernel
theorem dX7_setRation_14 : decode cX7_setRation 14 = .ok (.aload_n 0, 1) := by decide +kernel
theorem dX7_setRation_15 : decode cX7_setRation 15 = .ok (.getfield 7, 3) := by decide +kernel
theorem dX7_setRation_18 : decode cX7_setRation 18 = .ok (.bipush 11, 2) := by decide +kernel
theorem dX7_setRation_20 : decode cX7_setRation 20 = .ok (.iaload, 1) := by decide +kernel
theorem dX7_setRation_21 : decode cX7_setRation 21 = .ok (.iload_n 1, 1) := by decide +kernel
theorem dX7_setRation_22 : decode cX7_setRation 22 = .ok (.if_icmp .ne 6, 3) := by decide +kernel
theorem dX7_setRation_25 : decode cX7_setRation 25 = .ok (.bipush (-5), 2) := by decide +kernel
theorem dX7_setRation_27 : decode cX7_setRation 27 = .ok (.ireturn, 1) := by decide +kernel
theorem dX7_setRation_28 : decode cX7_setRation 28 = .ok (.aload_n 0, 1) := by decide +kernel
theorem dX7_setRation_29 : decode cX7_setRation 29 = .ok (.invokevirtual 86, 3) := by decide +kernel
theorem dX7_setRation_32 : decode cX7_setRation 32 = .ok (.aload_n 0, 1) := by decide +kernel
theorem dX7_setRation_33 : decode cX7_setRation 33 = .ok (.getfield 7, 3) := by decide +kernel
theorem dX7_setRation_36 : decode cX7_setRation 36 = .ok (.bipush 11, 2) := by decide +kernel
theorem dX7_setRation_38 : decode cX7_setRation 38 = .ok (.iaload, 1) := by decide +kernel
theorem dX7_setRation_39 : decode cX7_setRation 39 = .ok (.istore_n 2, 1) := by decide +kernel
theorem dX7_setRation_40 : decode cX7_setRation 40 = .ok (.aload_n 0, 1) := by decide +kernel
theorem dX7_setRation_41 : decode cX7_setRation 41 = .ok (.getfield 7, 3) := by decide +kernel
theorem dX7_setRation_44 : decode cX7_setRation 44 = .ok (.bipush 11, 2) := by decide +kernel
theorem dX7_setRation_46 : decode cX7_setRation 46 = .ok (.iload_n 1, 1) := by decide +kernel
theorem dX7_setRation_47 : decode cX7_setRation 47 = .ok (.iastore, 1) := by decide +kernel
theorem dX7_setRation_48 : decode cX7_setRation 48 = .ok (.iload_n 2, 1) := by decide +kernel
theorem dX7_setRation_49 : decode cX7_setRation 49 = .ok (.ireturn, 1) := by decide +kernel
set_option maxRecDepth 20000 in
theorem ggX7_start_X7_copies : GoodIn wsX7_start wsX7_copies := goodIn_r _ [5, 6, 69, 70, 71, 72, 73, 74, 75, 76, 77, 78, 79] (by decide +kernel) (by decide +kernel)
set_option maxRecDepth 20000 in
theorem gX7_start_X7_copies : GoodIn wsX7_start (wsV RX7 27 RX7 yX7_copies wsX7_copies) := goodIn_app (goodIn_of _ (by decide +kernel)) ggX7_start_X7_copies
set_option maxRecDepth 20000 in
theorem ggX7_start_X7_starts : GoodIn wsX7_start wsX7_starts := goodIn_r _ [10, 11, 12, 4, 13, 14, 15, 16, 17, 6, 18, 19, 20, 21, 1, 2, 3, 5, 22, 23, 24, 25, 26, 27, 28, 29, 30, 31, 32, 33, 34, 35, 36, 37, 38, 39, 40, 41, 42, 43, 44, 45, 46, 47, 48, 49, 50, 51, 52, 53, 54, 55, 56, 57, 58, 59, 69, 70, 71, 72, 73, 74, 75, 76, 77, 78, 79] (by decide +kernel) (by decide +kernel)
set_option maxRecDepth 20000 in
theorem gX7_start_X7_starts : GoodIn wsX7_start (wsV RX7 98 RX7 yX7_starts wsX7_starts) := goodIn_app (goodIn_of _ (by decide +kernel)) ggX7_start_X7_starts
set_option maxRecDepth 20000 in
theorem ggX7_start_X7_settles : GoodIn wsX7_start wsX7_settles := goodIn_r _ [63, 64, 65, 66, 4, 67, 68, 1, 2, 3, 5, 6, 69, 70, 71, 72, 73, 74, 75, 76, 77, 78, 79] (by decide +kernel) (by decide +kernel)
set_option maxRecDepth 20000 in
theorem gX7_start_X7_settles : GoodIn wsX7_start (wsV RX7 92 RX7 yX7_settles wsX7_settles) := goodIn_app (goodIn_of _ (by decide +kernel)) ggX7_start_X7_settles
theorem dX7_start_0 : decode cX7_start 0 = .ok (.aload_n 0, 1) := by decide +kernel
theorem dX7_start_1 : decode cX7_start 1 = .ok (.iconst 0, 1) := by decide +kernel
theorem dX7_start_2 : decode cX7_start 2 = .ok (.bipush 6, 2) := by decide +kernel
theorem dX7_start_4 : decode cX7_start 4 = .ok (.invokevirtual 27, 3) := by decide +kernel
theorem dX7_start_7 : decode cX7_start 7 = .ok (.aload_n 0, 1) := by decide +kernel
theorem dX7_start_8 : decode cX7_start 8 = .ok (.aload_n 0, 1) := by decide +kernel
theorem dX7_start_9 : decode cX7_start 9 = .ok (.bipush 6, 2) := by decide +kernel
theorem dX7_start_11 : decode cX7_start 11 = .ok (.iload_n 1, 1) := by decide +kernel
theorem dX7_start_12 : decode cX7_start 12 = .ok (.iload_n 2, 1) := by decide +kernel
theorem dX7_start_13 : decode cX7_start 13 = .ok (.invokevirtual 98, 3) := by decide +kernel
theorem dX7_start_16 : decode cX7_start 16 = .ok (.invokevirtual 92, 3) := by decide +kernel
theorem dX7_start_19 : decode cX7_start 19 = .ok (.ireturn, 1) := by decide +kernel
set_option maxRecDepth 20000 in
theorem ggX7_queue_X7_copies : GoodIn wsX7_queue wsX7_copies := goodIn_r _ [5, 6, 23, 24, 25, 26, 27, 28, 29, 30, 31, 32, 33] (by decide +kernel) (by decide +kernel)
set_option maxRecDepth 20000 in
theorem gX7_queue_X7_copies : GoodIn wsX7_queue (wsV RX7 27 RX7 yX7_copies wsX7_copies) := goodIn_app (goodIn_of _ (by decide +kernel)) ggX7_queue_X7_copies
set_option maxRecDepth 20000 in
theorem ggX7_queue_X7_queues : GoodIn wsX7_queue wsX7_queues := goodIn_r _ [10, 6, 11, 12, 4, 13, 23, 24, 25, 26, 27, 28, 29, 30, 31, 32, 33] (by decide +kernel) (by decide +kernel)
set_option maxRecDepth 20000 in
theorem gX7_queue_X7_queues : GoodIn wsX7_queue (wsV RX7 101 RX7 yX7_queues wsX7_queues) := goodIn_app (goodIn_of _ (by decide +kernel)) ggX7_queue_X7_queues
set_option maxRecDepth 20000 in
theorem ggX7_queue_X7_settles : GoodIn wsX7_queue wsX7_settles := goodIn_r _ [17, 18, 19, 20, 4, 21, 22, 1, 2, 3, 5, 6, 23, 24, 25, 26, 27, 28, 29, 30, 31, 32, 33] (by decide +kernel) (by decide +kernel)
set_option maxRecDepth 20000 in
theorem gX7_queue_X7_settles : GoodIn wsX7_queue (wsV RX7 92 RX7 yX7_settles wsX7_settles) := goodIn_app (goodIn_of _ (by decide +kernel)) ggX7_queue_X7_settles
theorem dX7_queue_0 : decode cX7_queue 0 = .ok (.aload_n 0, 1) := by decide +kernel
theorem dX7_queue_1 : decode cX7_queue 1 = .ok (.iconst 0, 1) := by decide +kernel
theorem dX7_queue_2 : decode cX7_queue 2 = .ok (.bipush 6, 2) := by decide +kernel
theorem dX7_queue_4 : decode cX7_queue 4 = .ok (.invokevirtual 27, 3) := by decide +kernel
theorem dX7_queue_7 : decode cX7_queue 7 = .ok (.aload_n 0, 1) := by decide +kernel
theorem dX7_queue_8 : decode cX7_queue 8 = .ok (.aload_n 0, 1) := by decide +kernel
theorem dX7_queue_9 : decode cX7_queue 9 = .ok (.bipush 6, 2) := by decide +kernel
theorem dX7_queue_11 : decode cX7_queue 11 = .ok (.iload_n 1, 1) := by decide +kernel
theorem dX7_queue_12 : decode cX7_queue 12 = .ok (.invokevirtual 101, 3) := by decide +kernel
theorem dX7_queue_15 : decode cX7_queue 15 = .ok (.invokevirtual 92, 3) := by decide +kernel
theorem dX7_queue_18 : decode cX7_queue 18 = .ok (.ireturn, 1) := by decide +kernel
set_option maxRecDepth 20000 in
theorem ggX7_unqueue_X7_in : GoodIn wsX7_unqueue wsX7_in := goodIn_r _ [5] (by decide +kernel) (by decide +kernel)
set_option maxRecDepth 20000 in
theorem gX7_unqueue_X7_in : GoodIn wsX7_unqueue (va_wsS RX7 78 yX7_in wsX7_in) := goodIn_app (goodIn_of _ (by decide +kernel)) ggX7_unqueue_X7_in
set_option maxRecDepth 20000 in
theorem ggX7_unqueue_X7_records : GoodIn wsX7_unqueue wsX7_records := goodIn_r _ [9, 10, 11, 12, 13, 4, 14, 1, 19, 20, 21, 22, 23, 24, 25, 26, 27, 28, 29] (by decide +kernel) (by decide +kernel)
set_option maxRecDepth 20000 in
theorem gX7_unqueue_X7_records : GoodIn wsX7_unqueue (wsV RX7 86 RX7 yX7_records wsX7_records) := goodIn_app (goodIn_of _ (by decide +kernel)) ggX7_unqueue_X7_records
set_option maxRecDepth 20000 in
theorem ggX7_unqueue_X7_leaves : GoodIn wsX7_unqueue wsX7_leaves := goodIn_r _ [18, 1, 19, 20, 21, 22, 23, 24, 25, 26, 27, 28, 29] (by decide +kernel) (by decide +kernel)
set_option maxRecDepth 20000 in
theorem gX7_unqueue_X7_leaves : GoodIn wsX7_unqueue (wsV RX7 74 RX7 yX7_leaves wsX7_leaves) := goodIn_app (goodIn_of _ (by decide +kernel)) ggX7_unqueue_X7_leaves
theorem dX7_unqueue_0 : decode cX7_unqueue 0 = .ok (.iload_n 1, 1) := by decide +kernel
theorem dX7_unqueue_1 : decode cX7_unqueue 1 = .ok (.iconst 0, 1) := by decide +kernel
theorem dX7_unqueue_2 : decode cX7_unqueue 2 = .ok (.aload_n 0, 1) := by decide +kernel
theorem dX7_unqueue_3 : decode cX7_unqueue 3 = .ok (.getfield 7, 3) := by decide +kernel
theorem dX7_unqueue_6 : decode cX7_unqueue 6 = .ok (.bipush 25, 2) := by decide +kernel
theorem dX7_unqueue_8 : decode cX7_unqueue 8 = .ok (.iaload, 1) := by decide +kernel
theorem dX7_unqueue_9 : decode cX7_unqueue 9 = .ok (.iconst 1, 1) := by decide +kernel
theorem dX7_unqueue_10 : decode cX7_unqueue 10 = .ok (.isub, 1) := by decide +kernel
theorem dX7_unqueue_11 : decode cX7_unqueue 11 = .ok (.invokestatic 78, 3) := by decide +kernel
theorem dX7_unqueue_14 : decode cX7_unqueue 14 = .ok (.ifCond .ne 5, 3) := by decide +kernel
theorem dX7_unqueue_17 : decode cX7_unqueue 17 = .ok (.iconst (-1), 1) := by decide +kernel
theorem dX7_unqueue_18 : decode cX7_unqueue 18 = .ok (.ireturn, 1) := by decide +kernel
theorem dX7_unqueue_19 : decode cX7_unqueue 19 = .ok (.aload_n 0, 1) := by decide +kernel
theorem dX7_unqueue_20 : decode cX7_unqueue 20 = .ok (.invokevirtual 86, 3) := by decide +kernel
theorem dX7_unqueue_23 : decode cX7_unqueue 23 = .ok (.aload_n 0, 1) := by decide +kernel
theorem dX7_unqueue_24 : decode cX7_unqueue 24 = .ok (.iconst 0, 1) := by decide +kernel
theorem dX7_unqueue_25 : decode cX7_unqueue 25 = .ok (.iload_n 1, 1) := by decide +kernel
theorem dX7_unqueue_26 : decode cX7_unqueue 26 = .ok (.invokevirtual 74, 3) := by decide +kernel
theorem dX7_unqueue_29 : decode cX7_unqueue 29 = .ok (.ireturn, 1) := by decide +kernel
set_option maxRecDepth 20000 in
theorem ggX7_takeOut_X7_in : GoodIn wsX7_takeOut wsX7_in := goodIn_r _ [5] (by decide +kernel) (by decide +kernel)
set_option maxRecDepth 20000 in
theorem gX7_takeOut_X7_in : GoodIn wsX7_takeOut (va_wsS RX7 78 yX7_in wsX7_in) := goodIn_app (goodIn_of _ (by decide +kernel)) ggX7_takeOut_X7_in
set_option maxRecDepth 20000 in
theorem ggX7_takeOut_X7_records : GoodIn wsX7_takeOut wsX7_records := goodIn_r _ [9, 10, 11, 12, 13, 4, 14, 1, 19, 20, 21, 22, 23, 24, 25, 26, 27, 28, 29] (by decide +kernel) (by decide +kernel)
set_option maxRecDepth 20000 in
theorem gX7_takeOut_X7_records : GoodIn wsX7_takeOut (wsV RX7 86 RX7 yX7_records wsX7_records) := goodIn_app (goodIn_of _ (by decide +kernel)) ggX7_takeOut_X7_records
set_option maxRecDepth 20000 in
theorem ggX7_takeOut_X7_empties : GoodIn wsX7_takeOut wsX7_empties := goodIn_r _ [18, 1, 19, 20, 21, 22, 23, 24, 25, 26, 27, 28, 29] (by decide +kernel) (by decide +kernel)
set_option maxRecDepth 20000 in
theorem gX7_takeOut_X7_empties : GoodIn wsX7_takeOut (wsV RX7 35 RX7 yX7_empties wsX7_empties) := goodIn_app (goodIn_of _ (by decide +kernel)) ggX7_takeOut_X7_empties
theorem dX7_takeOut_0 : decode cX7_takeOut 0 = .ok (.iload_n 1, 1) := by decide +kernel
theorem dX7_takeOut_1 : decode cX7_takeOut 1 = .ok (.iconst 0, 1) := by decide +kernel
theorem dX7_takeOut_2 : decode cX7_takeOut 2 = .ok (.iconst 3, 1) := by decide +kernel
theorem dX7_takeOut_3 : decode cX7_takeOut 3 = .ok (.invokestatic 78, 3) := by decide +kernel
theorem dX7_takeOut_6 : decode cX7_takeOut 6 = .ok (.ifCond .ne 5, 3) := by decide +kernel
theorem dX7_takeOut_9 : decode cX7_takeOut 9 = .ok (.iconst (-1), 1) := by decide +kernel
theorem dX7_takeOut_10 : decode cX7_takeOut 10 = .ok (.ireturn, 1) := by decide +kernel
theorem dX7_takeOut_11 : decode cX7_takeOut 11 = .ok (.aload_n 0, 1) := by decide +kernel
theorem dX7_takeOut_12 : decode cX7_takeOut 12 = .ok (.getfield 7, 3) := by decide +kernel
theorem dX7_takeOut_15 : decode cX7_takeOut 15 = .ok (.bipush 13, 2) := by decide +kernel
theorem dX7_takeOut_17 : decode cX7_takeOut 17 = .ok (.iload_n 1, 1) := by decide +kernel
theorem dX7_takeOut_18 : decode cX7_takeOut 18 = .ok (.iadd, 1) := by decide +kernel
theorem dX7_takeOut_19 : decode cX7_takeOut 19 = .ok (.iaload, 1) := by decide +kernel
theorem dX7_takeOut_20 : decode cX7_takeOut 20 = .ok (.ifCond .ge 6, 3) := by decide +kernel
theorem dX7_takeOut_23 : decode cX7_takeOut 23 = .ok (.bipush (-4), 2) := by decide +kernel
theorem dX7_takeOut_25 : decode cX7_takeOut 25 = .ok (.ireturn, 1) := by decide +kernel
theorem dX7_takeOut_26 : decode cX7_takeOut 26 = .ok (.aload_n 0, 1) := by decide +kernel
theorem dX7_takeOut_27 : decode cX7_takeOut 27 = .ok (.invokevirtual 86, 3) := by decide +kernel
theorem dX7_takeOut_30 : decode cX7_takeOut 30 = .ok (.aload_n 0, 1) := by decide +kernel
theorem dX7_takeOut_31 : decode cX7_takeOut 31 = .ok (.getfield 7, 3) := by decide +kernel
theorem dX7_takeOut_34 : decode cX7_takeOut 34 = .ok (.bipush 17, 2) := by decide +kernel
theorem dX7_takeOut_36 : decode cX7_takeOut 36 = .ok (.iload_n 1, 1) := by decide +kernel
theorem dX7_takeOut_37 : decode cX7_takeOut 37 = .ok (.iadd, 1) := by decide +kernel
theorem dX7_takeOut_38 : decode cX7_takeOut 38 = .ok (.iaload, 1) := by decide +kernel
theorem dX7_takeOut_39 : decode cX7_takeOut 39 = .ok (.istore_n 2, 1) := by decide +kernel
theorem dX7_takeOut_40 : decode cX7_takeOut 40 = .ok (.aload_n 0, 1) := by decide +kernel
theorem dX7_takeOut_41 : decode cX7_takeOut 41 = .ok (.iconst 0, 1) := by decide +kernel
theorem dX7_takeOut_42 : decode cX7_takeOut 42 = .ok (.iload_n 1, 1) := by decide +kernel
theorem dX7_takeOut_43 : decode cX7_takeOut 43 = .ok (.invokevirtual 35, 3) := by decide +kernel
theorem dX7_takeOut_46 : decode cX7_takeOut 46 = .ok (.aload_n 0, 1) := by decide +kernel
theorem dX7_takeOut_47 : decode cX7_takeOut 47 = .ok (.getfield 7, 3) := by decide +kernel
theorem dX7_takeOut_50 : decode cX7_takeOut 50 = .ok (.bipush 43, 2) := by decide +kernel
theorem dX7_takeOut_52 : decode cX7_takeOut 52 = .ok (.dup2, 1) := by decide +kernel
theorem dX7_takeOut_53 : decode cX7_takeOut 53 = .ok (.iaload, 1) := by decide +kernel
theorem dX7_takeOut_54 : decode cX7_takeOut 54 = .ok (.iconst 1, 1) := by decide +kernel
theorem dX7_takeOut_55 : decode cX7_takeOut 55 = .ok (.iadd, 1) := by decide +kernel
theorem dX7_takeOut_56 : decode cX7_takeOut 56 = .ok (.iastore, 1) := by decide +kernel
theorem dX7_takeOut_57 : decode cX7_takeOut 57 = .ok (.iload_n 2, 1) := by decide +kernel
theorem dX7_takeOut_58 : decode cX7_takeOut 58 = .ok (.ireturn, 1) := by decide +kernel
set_option maxRecDepth 20000 in
theorem ggX7_run_X7_copies : GoodIn wsX7_run wsX7_copies := goodIn_r _ [5, 6, 82, 83, 84, 85, 86, 87, 88, 89, 90, 91, 92] (by decide +kernel) (by decide +kernel)
set_option maxRecDepth 20000 in
theorem gX7_run_X7_copies : GoodIn wsX7_run (wsV RX7 27 RX7 yX7_copies wsX7_copies) := goodIn_app (goodIn_of _ (by decide +kernel)) ggX7_run_X7_copies
set_option maxRecDepth 20000 in
theorem ggX7_run_X7_runs : GoodIn wsX7_run wsX7_runs := goodIn_r _ [10, 6, 11, 12, 13, 4, 14, 15, 16, 17, 18, 19, 20, 21, 22, 23, 24, 25, 26, 27, 28, 29, 30, 31, 32, 33, 34, 35, 36, 37, 38, 39, 40, 41, 42, 43, 44, 45, 46, 47, 48, 49, 50, 51, 52, 53, 54, 55, 56, 57, 58, 59, 60, 61, 1, 2, 3, 5, 62, 63, 64, 65, 66, 67, 68, 69, 70, 71, 72, 82, 83, 84, 85, 86, 87, 88, 89, 90, 91, 92] (by decide +kernel) (by decide +kernel)
set_option maxRecDepth 20000 in
theorem gX7_run_X7_runs : GoodIn wsX7_run (wsV RX7 104 RX7 yX7_runs wsX7_runs) := goodIn_app (goodIn_of _ (by decide +kernel)) ggX7_run_X7_runs
set_option maxRecDepth 20000 in
theorem ggX7_run_X7_settles : GoodIn wsX7_run wsX7_settles := goodIn_r _ [76, 77, 78, 79, 4, 80, 81, 1, 2, 3, 5, 6, 82, 83, 84, 85, 86, 87, 88, 89, 90, 91, 92] (by decide +kernel) (by decide +kernel)
set_option maxRecDepth 20000 in
theorem gX7_run_X7_settles : GoodIn wsX7_run (wsV RX7 92 RX7 yX7_settles wsX7_settles) := goodIn_app (goodIn_of _ (by decide +kernel)) ggX7_run_X7_settles
theorem dX7_run_0 : decode cX7_run 0 = .ok (.aload_n 0, 1) := by decide +kernel
theorem dX7_run_1 : decode cX7_run 1 = .ok (.iconst 0, 1) := by decide +kernel
theorem dX7_run_2 : decode cX7_run 2 = .ok (.bipush 6, 2) := by decide +kernel
theorem dX7_run_4 : decode cX7_run 4 = .ok (.invokevirtual 27, 3) := by decide +kernel
theorem dX7_run_7 : decode cX7_run 7 = .ok (.aload_n 0, 1) := by decide +kernel
theorem dX7_run_8 : decode cX7_run 8 = .ok (.aload_n 0, 1) := by decide +kernel
theorem dX7_run_9 : decode cX7_run 9 = .ok (.bipush 6, 2) := by decide +kernel
theorem dX7_run_11 : decode cX7_run 11 = .ok (.iload_n 1, 1) := by decide +kernel
theorem dX7_run_12 : decode cX7_run 12 = .ok (.invokevirtual 104, 3) := by decide +kernel
theorem dX7_run_15 : decode cX7_run 15 = .ok (.invokevirtual 92, 3) := by decide +kernel
theorem dX7_run_18 : decode cX7_run 18 = .ok (.ireturn, 1) := by decide +kernel
set_option maxRecDepth 20000 in
theorem ggX7_isNext_X7_in : GoodIn wsX7_isNext wsX7_in := goodIn_r _ [8] (by decide +kernel) (by decide +kernel)
set_option maxRecDepth 20000 in
theorem gX7_isNext_X7_in : GoodIn wsX7_isNext (va_wsS RX7 78 yX7_in wsX7_in) := goodIn_app (goodIn_of _ (by decide +kernel)) ggX7_isNext_X7_in
theorem dX7_isNext_0 : decode cX7_isNext 0 = .ok (.aload_n 0, 1) := by decide +kernel
theorem dX7_isNext_1 : decode cX7_isNext 1 = .ok (.getfield 107, 3) := by decide +kernel
theorem dX7_isNext_4 : decode cX7_isNext 4 = .ok (.ifCond .eq 35, 3) := by decide +kernel
theorem dX7_isNext_7 : decode cX7_isNext 7 = .ok (.aload_n 0, 1) := by decide +kernel
theorem dX7_isNext_8 : decode cX7_isNext 8 = .ok (.getfield 111, 3) := by decide +kernel
theorem dX7_isNext_11 : decode cX7_isNext 11 = .ok (.aload_n 0, 1) := by decide +kernel
theorem dX7_isNext_12 : decode cX7_isNext 12 = .ok (.getfield 114, 3) := by decide +kernel
theorem dX7_isNext_15 : decode cX7_isNext 15 = .ok (.if_icmp .ge 24, 3) := by decide +kernel
theorem dX7_isNext_18 : decode cX7_isNext 18 = .ok (.aload_n 0, 1) := by decide +kernel
theorem dX7_isNext_19 : decode cX7_isNext 19 = .ok (.getfield 13, 3) := by decide +kernel
theorem dX7_isNext_22 : decode cX7_isNext 22 = .ok (.aload_n 0, 1) := by decide +kernel
theorem dX7_isNext_23 : decode cX7_isNext 23 = .ok (.getfield 111, 3) := by decide +kernel
theorem dX7_isNext_26 : decode cX7_isNext 26 = .ok (.caload, 1) := by decide +kernel
theorem dX7_isNext_27 : decode cX7_isNext 27 = .ok (.iload_n 1, 1) := by decide +kernel
theorem dX7_isNext_28 : decode cX7_isNext 28 = .ok (.iload_n 2, 1) := by decide +kernel
theorem dX7_isNext_29 : decode cX7_isNext 29 = .ok (.invokestatic 78, 3) := by decide +kernel
theorem dX7_isNext_32 : decode cX7_isNext 32 = .ok (.ifCond .eq 7, 3) := by decide +kernel
theorem dX7_isNext_35 : decode cX7_isNext 35 = .ok (.iconst 1, 1) := by decide +kernel
theorem dX7_isNext_36 : decode cX7_isNext 36 = .ok (.goto 4, 3) := by decide +kernel
theorem dX7_isNext_39 : decode cX7_isNext 39 = .ok (.iconst 0, 1) := by decide +kernel
theorem dX7_isNext_40 : decode cX7_isNext 40 = .ok (.ireturn, 1) := by decide +kernel
set_option maxRecDepth 20000 in
theorem ggX7_digit_X7_isNext : GoodIn wsX7_digit wsX7_isNext := goodIn_r _ [8, 1, 2, 9, 3, 10, 11, 7, 12, 13, 14, 15, 16, 17, 18, 19, 20, 21, 22, 23] (by decide +kernel) (by decide +kernel)
set_option maxRecDepth 20000 in
theorem gX7_digit_X7_isNext : GoodIn wsX7_digit (wsV RX7 117 RX7 yX7_isNext wsX7_isNext) := goodIn_app (goodIn_of _ (by decide +kernel)) ggX7_digit_X7_isNext
theorem dX7_digit_0 : decode cX7_digit 0 = .ok (.aload_n 0, 1) := by decide +kernel
theorem dX7_digit_1 : decode cX7_digit 1 = .ok (.aload_n 0, 1) := by decide +kernel
theorem dX7_digit_2 : decode cX7_digit 2 = .ok (.bipush 48, 2) := by decide +kernel
theorem dX7_digit_4 : decode cX7_digit 4 = .ok (.bipush 48, 2) := by decide +kernel
theorem dX7_digit_6 : decode cX7_digit 6 = .ok (.iload_n 1, 1) := by decide +kernel
theorem dX7_digit_7 : decode cX7_digit 7 = .ok (.iadd, 1) := by decide +kernel
theorem dX7_digit_8 : decode cX7_digit 8 = .ok (.invokevirtual 117, 3) := by decide +kernel
theorem dX7_digit_11 : decode cX7_digit 11 = .ok (.putfield 107, 3) := by decide +kernel
theorem dX7_digit_14 : decode cX7_digit 14 = .ok (.aload_n 0, 1) := by decide +kernel
theorem dX7_digit_15 : decode cX7_digit 15 = .ok (.dup, 1) := by decide +kernel
theorem dX7_digit_16 : decode cX7_digit 16 = .ok (.getfield 111, 3) := by decide +kernel
theorem dX7_digit_19 : decode cX7_digit 19 = .ok (.aload_n 0, 1) := by decide +kernel
theorem dX7_digit_20 : decode cX7_digit 20 = .ok (.getfield 107, 3) := by decide +kernel
theorem dX7_digit_23 : decode cX7_digit 23 = .ok (.ifCond .eq 7, 3) := by decide +kernel
theorem dX7_digit_26 : decode cX7_digit 26 = .ok (.iconst 1, 1) := by decide +kernel
theorem dX7_digit_27 : decode cX7_digit 27 = .ok (.goto 4, 3) := by decide +kernel
theorem dX7_digit_30 : decode cX7_digit 30 = .ok (.iconst 0, 1) := by decide +kernel
theorem dX7_digit_31 : decode cX7_digit 31 = .ok (.iadd, 1) := by decide +kernel
theorem dX7_digit_32 : decode cX7_digit 32 = .ok (.putfield 111, 3) := by decide +kernel
theorem dX7_digit_35 : decode cX7_digit 35 = .ok (.aload_n 0, 1) := by decide +kernel
theorem dX7_digit_36 : decode cX7_digit 36 = .ok (.getfield 107, 3) := by decide +kernel
theorem dX7_digit_39 : decode cX7_digit 39 = .ok (.ifCond .eq 20, 3) := by decide +kernel
theorem dX7_digit_42 : decode cX7_digit 42 = .ok (.aload_n 0, 1) := by decide +kernel
theorem dX7_digit_43 : decode cX7_digit 43 = .ok (.getfield 13, 3) := by decide +kernel
theorem dX7_digit_46 : decode cX7_digit 46 = .ok (.aload_n 0, 1) := by decide +kernel
theorem dX7_digit_47 : decode cX7_digit 47 = .ok (.getfield 111, 3) := by decide +kernel
theorem dX7_digit_50 : decode cX7_digit 50 = .ok (.iconst 1, 1) := by decide +kernel
theorem dX7_digit_51 : decode cX7_digit 51 = .ok (.isub, 1) := by decide +kernel
theorem dX7_digit_52 : decode cX7_digit 52 = .ok (.caload, 1) := by decide +kernel
theorem dX7_digit_53 : decode cX7_digit 53 = .ok (.bipush 48, 2) := by decide +kernel
theorem dX7_digit_55 : decode cX7_digit 55 = .ok (.isub, 1) := by decide +kernel
theorem dX7_digit_56 : decode cX7_digit 56 = .ok (.goto 4, 3) := by decide +kernel
theorem dX7_digit_59 : decode cX7_digit 59 = .ok (.iconst 0, 1) := by decide +kernel
theorem dX7_digit_60 : decode cX7_digit 60 = .ok (.ireturn, 1) := by decide +kernel
set_option maxRecDepth 20000 in
theorem ggX7_number_X7_isNext : GoodIn wsX7_number wsX7_isNext := goodIn_r _ [8, 1, 3, 9, 2, 10, 11, 7, 12, 13, 14, 15, 16, 17, 18, 19, 20, 21, 22, 23] (by decide +kernel) (by decide +kernel)
set_option maxRecDepth 20000 in
theorem gX7_number_X7_isNext : GoodIn wsX7_number (wsV RX7 117 RX7 yX7_isNext wsX7_isNext) := goodIn_app (goodIn_of _ (by decide +kernel)) ggX7_number_X7_isNext
theorem dX7_number_0 : decode cX7_number 0 = .ok (.aload_n 0, 1) := by decide +kernel
theorem dX7_number_1 : decode cX7_number 1 = .ok (.aload_n 0, 1) := by decide +kernel
theorem dX7_number_2 : decode cX7_number 2 = .ok (.bipush 49, 2) := by decide +kernel
theorem dX7_number_4 : decode cX7_number 4 = .ok (.bipush 57, 2) := by decide +kernel
theorem dX7_number_6 : decode cX7_number 6 = .ok (.invokevirtual 117, 3) := by decide +kernel
theorem dX7_number_9 : decode cX7_number 9 = .ok (.putfield 107, 3) := by decide +kernel
theorem dX7_number_12 : decode cX7_number 12 = .ok (.iconst 0, 1) := by decide +kernel
theorem dX7_number_13 : decode cX7_number 13 = .ok (.istore_n 1, 1) := by decide +kernel
theorem dX7_number_14 : decode cX7_number 14 = .ok (.aload_n 0, 1) := by decide +kernel
theorem dX7_number_15 : decode cX7_number 15 = .ok (.bipush 48, 2) := by decide +kernel
theorem dX7_number_17 : decode cX7_number 17 = .ok (.bipush 57, 2) := by decide +kernel
theorem dX7_number_19 : decode cX7_number 19 = .ok (.invokevirtual 117, 3) := by decide +kernel
theorem dX7_number_22 : decode cX7_number 22 = .ok (.ifCond .eq 57, 3) := by decide +kernel
theorem dX7_number_25 : decode cX7_number 25 = .ok (.bipush 10, 2) := by decide +kernel
theorem dX7_number_27 : decode cX7_number 27 = .ok (.iload_n 1, 1) := by decide +kernel
theorem dX7_number_28 : decode cX7_number 28 = .ok (.imul, 1) := by decide +kernel
theorem dX7_number_29 : decode cX7_number 29 = .ok (.aload_n 0, 1) := by decide +kernel
theorem dX7_number_30 : decode cX7_number 30 = .ok (.getfield 13, 3) := by decide +kernel
theorem dX7_number_33 : decode cX7_number 33 = .ok (.aload_n 0, 1) := by decide +kernel
theorem dX7_number_34 : decode cX7_number 34 = .ok (.getfield 111, 3) := by decide +kernel
theorem dX7_number_37 : decode cX7_number 37 = .ok (.caload, 1) := by decide +kernel
theorem dX7_number_38 : decode cX7_number 38 = .ok (.iadd, 1) := by decide +kernel
theorem dX7_number_39 : decode cX7_number 39 = .ok (.bipush 48, 2) := by decide +kernel
theorem dX7_number_41 : decode cX7_number 41 = .ok (.isub, 1) := by decide +kernel
theorem dX7_number_42 : decode cX7_number 42 = .ok (.sipush 200, 3) := by decide +kernel
theorem dX7_number_45 : decode cX7_number 45 = .ok (.if_icmp .gt 34, 3) := by decide +kernel
theorem dX7_number_48 : decode cX7_number 48 = .ok (.bipush 10, 2) := by decide +kernel
theorem dX7_number_50 : decode cX7_number 50 = .ok (.iload_n 1, 1) := by decide +kernel
theorem dX7_number_51 : decode cX7_number 51 = .ok (.imul, 1) := by decide +kernel
theorem dX7_number_52 : decode cX7_number 52 = .ok (.aload_n 0, 1) := by decide +kernel
theorem dX7_number_53 : decode cX7_number 53 = .ok (.getfield 13, 3) := by decide +kernel
theorem dX7_number_56 : decode cX7_number 56 = .ok (.aload_n 0, 1) := by decide +kernel
theorem dX7_number_57 : decode cX7_number 57 = .ok (.getfield 111, 3) := by decide +kernel
theorem dX7_number_60 : decode cX7_number 60 = .ok (.caload, 1) := by decide +kernel
theorem dX7_number_61 : decode cX7_number 61 = .ok (.iadd, 1) := by decide +kernel
theorem dX7_number_62 : decode cX7_number 62 = .ok (.bipush 48, 2) := by decide +kernel
theorem dX7_number_64 : decode cX7_number 64 = .ok (.isub, 1) := by decide +kernel
theorem dX7_number_65 : decode cX7_number 65 = .ok (.istore_n 1, 1) := by decide +kernel
theorem dX7_number_66 : decode cX7_number 66 = .ok (.aload_n 0, 1) := by decide +kernel
theorem dX7_number_67 : decode cX7_number 67 = .ok (.dup, 1) := by decide +kernel
theorem dX7_number_68 : decode cX7_number 68 = .ok (.getfield 111, 3) := by decide +kernel
theorem dX7_number_71 : decode cX7_number 71 = .ok (.iconst 1, 1) := by decide +kernel
theorem dX7_number_72 : decode cX7_number 72 = .ok (.iadd, 1) := by decide +kernel
theorem dX7_number_73 : decode cX7_number 73 = .ok (.putfield 111, 3) := by decide +kernel
theorem dX7_number_76 : decode cX7_number 76 = .ok (.goto (-62), 3) := by decide +kernel
theorem dX7_number_79 : decode cX7_number 79 = .ok (.iload_n 1, 1) := by decide +kernel
theorem dX7_number_80 : decode cX7_number 80 = .ok (.ireturn, 1) := by decide +kernel
set_option maxRecDepth 20000 in
theorem ggX7_reads_X7_number : GoodIn wsX7_reads wsX7_number := goodIn_r _ [11, 1, 4, 2, 12, 13, 14, 10, 15, 3, 16, 17, 18, 23, 24, 25, 26, 27, 28, 29, 30, 31, 32, 33] (by decide +kernel) (by decide +kernel)
set_option maxRecDepth 20000 in
theorem gX7_reads_X7_number : GoodIn wsX7_reads (wsV RX7 121 RX7 yX7_number wsX7_number) := goodIn_app (goodIn_of _ (by decide +kernel)) ggX7_reads_X7_number
set_option maxRecDepth 20000 in
theorem ggX7_reads_X7_digit : GoodIn wsX7_reads wsX7_digit := goodIn_r _ [22, 1, 2, 4, 12, 13, 14, 10, 15, 3, 16, 17, 18, 23, 24, 25, 26, 27, 28, 29, 30, 31, 32, 33] (by decide +kernel) (by decide +kernel)
set_option maxRecDepth 20000 in
theorem gX7_reads_X7_digit : GoodIn wsX7_reads (wsV RX7 125 RX7 yX7_digit wsX7_digit) := goodIn_app (goodIn_of _ (by decide +kernel)) ggX7_reads_X7_digit
set_option maxRecDepth 20000 in
theorem ggX7_reads_X7_isNext : GoodIn wsX7_reads wsX7_isNext := goodIn_r _ [15, 1, 2, 3, 4, 16, 17, 10, 18, 23, 24, 25, 26, 27, 28, 29, 30, 31, 32, 33] (by decide +kernel) (by decide +kernel)
set_option maxRecDepth 20000 in
theorem gX7_reads_X7_isNext : GoodIn wsX7_reads (wsV RX7 117 RX7 yX7_isNext wsX7_isNext) := goodIn_app (goodIn_of _ (by decide +kernel)) ggX7_reads_X7_isNext
theorem dX7_reads_0 : decode cX7_reads 0 = .ok (.aload_n 0, 1) := by decide +kernel
theorem dX7_reads_1 : decode cX7_reads 1 = .ok (.getfield 107, 3) := by decide +kernel
theorem dX7_reads_4 : decode cX7_reads 4 = .ok (.ifCond .eq 26, 3) := by decide +kernel
theorem dX7_reads_7 : decode cX7_reads 7 = .ok (.aload_n 0, 1) := by decide +kernel
theorem dX7_reads_8 : decode cX7_reads 8 = .ok (.getfield 111, 3) := by decide +kernel
theorem dX7_reads_11 : decode cX7_reads 11 = .ok (.aload_n 0, 1) := by decide +kernel
theorem dX7_reads_12 : decode cX7_reads 12 = .ok (.getfield 114, 3) := by decide +kernel
theorem dX7_reads_15 : decode cX7_reads 15 = .ok (.if_icmp .ge 15, 3) := by decide +kernel
theorem dX7_reads_18 : decode cX7_reads 18 = .ok (.aload_n 0, 1) := by decide +kernel
theorem dX7_reads_19 : decode cX7_reads 19 = .ok (.getfield 13, 3) := by decide +kernel
theorem dX7_reads_22 : decode cX7_reads 22 = .ok (.aload_n 0, 1) := by decide +kernel
theorem dX7_reads_23 : decode cX7_reads 23 = .ok (.getfield 111, 3) := by decide +kernel
theorem dX7_reads_26 : decode cX7_reads 26 = .ok (.caload, 1) := by decide +kernel
theorem dX7_reads_27 : decode cX7_reads 27 = .ok (.goto 4, 3) := by decide +kernel
theorem dX7_reads_30 : decode cX7_reads 30 = .ok (.iconst 0, 1) := by decide +kernel
theorem dX7_reads_31 : decode cX7_reads 31 = .ok (.istore_n 1, 1) := by decide +kernel
theorem dX7_reads_32 : decode cX7_reads 32 = .ok (.aload_n 0, 1) := by decide +kernel
theorem dX7_reads_33 : decode cX7_reads 33 = .ok (.aload_n 0, 1) := by decide +kernel
theorem dX7_reads_34 : decode cX7_reads 34 = .ok (.getfield 107, 3) := by decide +kernel
theorem dX7_reads_37 : decode cX7_reads 37 = .ok (.ifCond .eq 37, 3) := by decide +kernel
theorem dX7_reads_40 : decode cX7_reads 40 = .ok (.iload_n 1, 1) := by decide +kernel
theorem dX7_reads_41 : decode cX7_reads 41 = .ok (.bipush 102, 2) := by decide +kernel
theorem dX7_reads_43 : decode cX7_reads 43 = .ok (.if_icmp .eq 27, 3) := by decide +kernel
theorem dX7_reads_46 : decode cX7_reads 46 = .ok (.iload_n 1, 1) := by decide +kernel
theorem dX7_reads_47 : decode cX7_reads 47 = .ok (.bipush 119, 2) := by decide +kernel
theorem dX7_reads_49 : decode cX7_reads 49 = .ok (.if_icmp .eq 21, 3) := by decide +kernel
theorem dX7_reads_52 : decode cX7_reads 52 = .ok (.iload_n 1, 1) := by decide +kernel
theorem dX7_reads_53 : decode cX7_reads 53 = .ok (.bipush 109, 2) := by decide +kernel
theorem dX7_reads_55 : decode cX7_reads 55 = .ok (.if_icmp .eq 15, 3) := by decide +kernel
theorem dX7_reads_58 : decode cX7_reads 58 = .ok (.iload_n 1, 1) := by decide +kernel
theorem dX7_reads_59 : decode cX7_reads 59 = .ok (.bipush 108, 2) := by decide +kernel
theorem dX7_reads_61 : decode cX7_reads 61 = .ok (.if_icmp .eq 9, 3) := by decide +kernel
theorem dX7_reads_64 : decode cX7_reads 64 = .ok (.iload_n 1, 1) := by decide +kernel
theorem dX7_reads_65 : decode cX7_reads 65 = .ok (.bipush 116, 2) := by decide +kernel
theorem dX7_reads_67 : decode cX7_reads 67 = .ok (.if_icmp .ne 7, 3) := by decide +kernel
theorem dX7_reads_70 : decode cX7_reads 70 = .ok (.iconst 1, 1) := by decide +kernel
theorem dX7_reads_71 : decode cX7_reads 71 = .ok (.goto 4, 3) := by decide +kernel
theorem dX7_reads_74 : decode cX7_reads 74 = .ok (.iconst 0, 1) := by decide +kernel
theorem dX7_reads_75 : decode cX7_reads 75 = .ok (.putfield 107, 3) := by decide +kernel
theorem dX7_reads_78 : decode cX7_reads 78 = .ok (.aload_n 0, 1) := by decide +kernel
theorem dX7_reads_79 : decode cX7_reads 79 = .ok (.dup, 1) := by decide +kernel
theorem dX7_reads_80 : decode cX7_reads 80 = .ok (.getfield 111, 3) := by decide +kernel
theorem dX7_reads_83 : decode cX7_reads 83 = .ok (.aload_n 0, 1) := by decide +kernel
theorem dX7_reads_84 : decode cX7_reads 84 = .ok (.getfield 107, 3) := by decide +kernel
theorem dX7_reads_87 : decode cX7_reads 87 = .ok (.ifCond .eq 7, 3) := by decide +kernel
theorem dX7_reads_90 : decode cX7_reads 90 = .ok (.iconst 1, 1) := by decide +kernel
theorem dX7_reads_91 : decode cX7_reads 91 = .ok (.goto 4, 3) := by decide +kernel
theorem dX7_reads_94 : decode cX7_reads 94 = .ok (.iconst 0, 1) := by decide +kernel
theorem dX7_reads_95 : decode cX7_reads 95 = .ok (.iadd, 1) := by decide +kernel
theorem dX7_reads_96 : decode cX7_reads 96 = .ok (.putfield 111, 3) := by decide +kernel
theorem dX7_reads_99 : decode cX7_reads 99 = .ok (.iload_n 1, 1) := by decide +kernel
theorem dX7_reads_100 : decode cX7_reads 100 = .ok (.bipush 116, 2) := by decide +kernel
theorem dX7_reads_102 : decode cX7_reads 102 = .ok (.if_icmp .ne 10, 3) := by decide +kernel
theorem dX7_reads_105 : decode cX7_reads 105 = .ok (.aload_n 0, 1) := by decide +kernel
theorem dX7_reads_106 : decode cX7_reads 106 = .ok (.invokevirtual 121, 3) := by decide +kernel
theorem dX7_reads_109 : decode cX7_reads 109 = .ok (.goto 28, 3) := by decide +kernel
theorem dX7_reads_112 : decode cX7_reads 112 = .ok (.aload_n 0, 1) := by decide +kernel
theorem dX7_reads_113 : decode cX7_reads 113 = .ok (.iload_n 1, 1) := by decide +kernel
theorem dX7_reads_114 : decode cX7_reads 114 = .ok (.bipush 109, 2) := by decide +kernel
theorem dX7_reads_116 : decode cX7_reads 116 = .ok (.if_icmp .ne 7, 3) := by decide +kernel
theorem dX7_reads_119 : decode cX7_reads 119 = .ok (.iconst 3, 1) := by decide +kernel
theorem dX7_reads_120 : decode cX7_reads 120 = .ok (.goto 14, 3) := by decide +kernel
theorem dX7_reads_123 : decode cX7_reads 123 = .ok (.iload_n 1, 1) := by decide +kernel
theorem dX7_reads_124 : decode cX7_reads 124 = .ok (.bipush 108, 2) := by decide +kernel
theorem dX7_reads_126 : decode cX7_reads 126 = .ok (.if_icmp .ne 7, 3) := by decide +kernel
theorem dX7_reads_129 : decode cX7_reads 129 = .ok (.iconst 2, 1) := by decide +kernel
theorem dX7_reads_130 : decode cX7_reads 130 = .ok (.goto 4, 3) := by decide +kernel
theorem dX7_reads_133 : decode cX7_reads 133 = .ok (.iconst 1, 1) := by decide +kernel
theorem dX7_reads_134 : decode cX7_reads 134 = .ok (.invokevirtual 125, 3) := by decide +kernel
theorem dX7_reads_137 : decode cX7_reads 137 = .ok (.istore_n 2, 1) := by decide +kernel
theorem dX7_reads_138 : decode cX7_reads 138 = .ok (.iconst 0, 1) := by decide +kernel
theorem dX7_reads_139 : decode cX7_reads 139 = .ok (.istore_n 3, 1) := by decide +kernel
theorem dX7_reads_140 : decode cX7_reads 140 = .ok (.iload_n 1, 1) := by decide +kernel
theorem dX7_reads_141 : decode cX7_reads 141 = .ok (.bipush 102, 2) := by decide +kernel
theorem dX7_reads_143 : decode cX7_reads 143 = .ok (.if_icmp .eq 15, 3) := by decide +kernel
theorem dX7_reads_146 : decode cX7_reads 146 = .ok (.iload_n 1, 1) := by decide +kernel
end
section
theorem dX7_reads_147 : decode cX7_reads 147 = .ok (.bipush 119, 2) := by decide +kernel
theorem dX7_reads_149 : decode cX7_reads 149 = .ok (.if_icmp .eq 9, 3) := by decide +kernel
theorem dX7_reads_152 : decode cX7_reads 152 = .ok (.iload_n 1, 1) := by decide +kernel
theorem dX7_reads_153 : decode cX7_reads 153 = .ok (.bipush 109, 2) := by decide +kernel
theorem dX7_reads_155 : decode cX7_reads 155 = .ok (.if_icmp .ne 65, 3) := by decide +kernel
theorem dX7_reads_158 : decode cX7_reads 158 = .ok (.aload_n 0, 1) := by decide +kernel
theorem dX7_reads_159 : decode cX7_reads 159 = .ok (.aload_n 0, 1) := by decide +kernel
theorem dX7_reads_160 : decode cX7_reads 160 = .ok (.bipush 58, 2) := by decide +kernel
theorem dX7_reads_162 : decode cX7_reads 162 = .ok (.bipush 58, 2) := by decide +kernel
theorem dX7_reads_164 : decode cX7_reads 164 = .ok (.invokevirtual 117, 3) := by decide +kernel
theorem dX7_reads_167 : decode cX7_reads 167 = .ok (.putfield 107, 3) := by decide +kernel
theorem dX7_reads_170 : decode cX7_reads 170 = .ok (.aload_n 0, 1) := by decide +kernel
theorem dX7_reads_171 : decode cX7_reads 171 = .ok (.dup, 1) := by decide +kernel
theorem dX7_reads_172 : decode cX7_reads 172 = .ok (.getfield 111, 3) := by decide +kernel
theorem dX7_reads_175 : decode cX7_reads 175 = .ok (.aload_n 0, 1) := by decide +kernel
theorem dX7_reads_176 : decode cX7_reads 176 = .ok (.getfield 107, 3) := by decide +kernel
theorem dX7_reads_179 : decode cX7_reads 179 = .ok (.ifCond .eq 7, 3) := by decide +kernel
theorem dX7_reads_182 : decode cX7_reads 182 = .ok (.iconst 1, 1) := by decide +kernel
theorem dX7_reads_183 : decode cX7_reads 183 = .ok (.goto 4, 3) := by decide +kernel
theorem dX7_reads_186 : decode cX7_reads 186 = .ok (.iconst 0, 1) := by decide +kernel
theorem dX7_reads_187 : decode cX7_reads 187 = .ok (.iadd, 1) := by decide +kernel
theorem dX7_reads_188 : decode cX7_reads 188 = .ok (.putfield 111, 3) := by decide +kernel
theorem dX7_reads_191 : decode cX7_reads 191 = .ok (.iload_n 1, 1) := by decide +kernel
theorem dX7_reads_192 : decode cX7_reads 192 = .ok (.bipush 119, 2) := by decide +kernel
theorem dX7_reads_194 : decode cX7_reads 194 = .ok (.if_icmp .ne 10, 3) := by decide +kernel
theorem dX7_reads_197 : decode cX7_reads 197 = .ok (.aload_n 0, 1) := by decide +kernel
theorem dX7_reads_198 : decode cX7_reads 198 = .ok (.invokevirtual 121, 3) := by decide +kernel
theorem dX7_reads_201 : decode cX7_reads 201 = .ok (.goto 18, 3) := by decide +kernel
theorem dX7_reads_204 : decode cX7_reads 204 = .ok (.aload_n 0, 1) := by decide +kernel
theorem dX7_reads_205 : decode cX7_reads 205 = .ok (.iload_n 1, 1) := by decide +kernel
theorem dX7_reads_206 : decode cX7_reads 206 = .ok (.bipush 102, 2) := by decide +kernel
theorem dX7_reads_208 : decode cX7_reads 208 = .ok (.if_icmp .ne 7, 3) := by decide +kernel
theorem dX7_reads_211 : decode cX7_reads 211 = .ok (.iconst 5, 1) := by decide +kernel
theorem dX7_reads_212 : decode cX7_reads 212 = .ok (.goto 4, 3) := by decide +kernel
theorem dX7_reads_215 : decode cX7_reads 215 = .ok (.iconst 2, 1) := by decide +kernel
theorem dX7_reads_216 : decode cX7_reads 216 = .ok (.invokevirtual 125, 3) := by decide +kernel
theorem dX7_reads_219 : decode cX7_reads 219 = .ok (.istore_n 3, 1) := by decide +kernel
theorem dX7_reads_220 : decode cX7_reads 220 = .ok (.aload_n 0, 1) := by decide +kernel
theorem dX7_reads_221 : decode cX7_reads 221 = .ok (.getfield 107, 3) := by decide +kernel
theorem dX7_reads_224 : decode cX7_reads 224 = .ok (.ifCond .eq 53, 3) := by decide +kernel
theorem dX7_reads_227 : decode cX7_reads 227 = .ok (.aload_n 0, 1) := by decide +kernel
theorem dX7_reads_228 : decode cX7_reads 228 = .ok (.getfield 17, 3) := by decide +kernel
theorem dX7_reads_231 : decode cX7_reads 231 = .ok (.iconst 3, 1) := by decide +kernel
theorem dX7_reads_232 : decode cX7_reads 232 = .ok (.aload_n 0, 1) := by decide +kernel
theorem dX7_reads_233 : decode cX7_reads 233 = .ok (.getfield 128, 3) := by decide +kernel
theorem dX7_reads_236 : decode cX7_reads 236 = .ok (.imul, 1) := by decide +kernel
theorem dX7_reads_237 : decode cX7_reads 237 = .ok (.iload_n 1, 1) := by decide +kernel
theorem dX7_reads_238 : decode cX7_reads 238 = .ok (.iastore, 1) := by decide +kernel
theorem dX7_reads_239 : decode cX7_reads 239 = .ok (.aload_n 0, 1) := by decide +kernel
theorem dX7_reads_240 : decode cX7_reads 240 = .ok (.getfield 17, 3) := by decide +kernel
theorem dX7_reads_243 : decode cX7_reads 243 = .ok (.iconst 3, 1) := by decide +kernel
theorem dX7_reads_244 : decode cX7_reads 244 = .ok (.aload_n 0, 1) := by decide +kernel
theorem dX7_reads_245 : decode cX7_reads 245 = .ok (.getfield 128, 3) := by decide +kernel
theorem dX7_reads_248 : decode cX7_reads 248 = .ok (.imul, 1) := by decide +kernel
theorem dX7_reads_249 : decode cX7_reads 249 = .ok (.iconst 1, 1) := by decide +kernel
theorem dX7_reads_250 : decode cX7_reads 250 = .ok (.iadd, 1) := by decide +kernel
theorem dX7_reads_251 : decode cX7_reads 251 = .ok (.iload_n 2, 1) := by decide +kernel
theorem dX7_reads_252 : decode cX7_reads 252 = .ok (.iastore, 1) := by decide +kernel
theorem dX7_reads_253 : decode cX7_reads 253 = .ok (.aload_n 0, 1) := by decide +kernel
theorem dX7_reads_254 : decode cX7_reads 254 = .ok (.getfield 17, 3) := by decide +kernel
theorem dX7_reads_257 : decode cX7_reads 257 = .ok (.iconst 3, 1) := by decide +kernel
theorem dX7_reads_258 : decode cX7_reads 258 = .ok (.aload_n 0, 1) := by decide +kernel
theorem dX7_reads_259 : decode cX7_reads 259 = .ok (.getfield 128, 3) := by decide +kernel
theorem dX7_reads_262 : decode cX7_reads 262 = .ok (.imul, 1) := by decide +kernel
theorem dX7_reads_263 : decode cX7_reads 263 = .ok (.iconst 2, 1) := by decide +kernel
theorem dX7_reads_264 : decode cX7_reads 264 = .ok (.iadd, 1) := by decide +kernel
theorem dX7_reads_265 : decode cX7_reads 265 = .ok (.iload_n 3, 1) := by decide +kernel
theorem dX7_reads_266 : decode cX7_reads 266 = .ok (.iastore, 1) := by decide +kernel
theorem dX7_reads_267 : decode cX7_reads 267 = .ok (.aload_n 0, 1) := by decide +kernel
theorem dX7_reads_268 : decode cX7_reads 268 = .ok (.dup, 1) := by decide +kernel
theorem dX7_reads_269 : decode cX7_reads 269 = .ok (.getfield 128, 3) := by decide +kernel
theorem dX7_reads_272 : decode cX7_reads 272 = .ok (.iconst 1, 1) := by decide +kernel
theorem dX7_reads_273 : decode cX7_reads 273 = .ok (.iadd, 1) := by decide +kernel
theorem dX7_reads_274 : decode cX7_reads 274 = .ok (.putfield 128, 3) := by decide +kernel
theorem dX7_reads_277 : decode cX7_reads 277 = .ok (.return_, 1) := by decide +kernel
set_option maxRecDepth 20000 in
theorem ggX7_fault_X7_reads : GoodIn wsX7_fault wsX7_reads := goodIn_r _ [10, 2, 1, 4, 5, 11, 3, 12, 13, 14, 9, 15, 16, 17, 18, 19, 20, 21, 22, 23, 24, 25, 26, 27, 28, 29, 30, 31, 32, 33, 34, 35, 36, 37] (by decide +kernel) (by decide +kernel)
set_option maxRecDepth 20000 in
theorem gX7_fault_X7_reads : GoodIn wsX7_fault (wsV RX7 131 RX7 yX7_reads wsX7_reads) := goodIn_app (goodIn_of _ (by decide +kernel)) ggX7_fault_X7_reads
theorem dX7_fault_0 : decode cX7_fault 0 = .ok (.aload_n 0, 1) := by decide +kernel
theorem dX7_fault_1 : decode cX7_fault 1 = .ok (.iconst 0, 1) := by decide +kernel
theorem dX7_fault_2 : decode cX7_fault 2 = .ok (.putfield 111, 3) := by decide +kernel
theorem dX7_fault_5 : decode cX7_fault 5 = .ok (.aload_n 0, 1) := by decide +kernel
theorem dX7_fault_6 : decode cX7_fault 6 = .ok (.iconst 1, 1) := by decide +kernel
theorem dX7_fault_7 : decode cX7_fault 7 = .ok (.putfield 107, 3) := by decide +kernel
theorem dX7_fault_10 : decode cX7_fault 10 = .ok (.aload_n 0, 1) := by decide +kernel
theorem dX7_fault_11 : decode cX7_fault 11 = .ok (.iconst 0, 1) := by decide +kernel
theorem dX7_fault_12 : decode cX7_fault 12 = .ok (.putfield 128, 3) := by decide +kernel
theorem dX7_fault_15 : decode cX7_fault 15 = .ok (.aload_n 0, 1) := by decide +kernel
theorem dX7_fault_16 : decode cX7_fault 16 = .ok (.invokevirtual 131, 3) := by decide +kernel
theorem dX7_fault_19 : decode cX7_fault 19 = .ok (.aload_n 0, 1) := by decide +kernel
theorem dX7_fault_20 : decode cX7_fault 20 = .ok (.getfield 107, 3) := by decide +kernel
theorem dX7_fault_23 : decode cX7_fault 23 = .ok (.ifCond .eq 72, 3) := by decide +kernel
theorem dX7_fault_26 : decode cX7_fault 26 = .ok (.aload_n 0, 1) := by decide +kernel
theorem dX7_fault_27 : decode cX7_fault 27 = .ok (.getfield 111, 3) := by decide +kernel
theorem dX7_fault_30 : decode cX7_fault 30 = .ok (.aload_n 0, 1) := by decide +kernel
theorem dX7_fault_31 : decode cX7_fault 31 = .ok (.getfield 114, 3) := by decide +kernel
theorem dX7_fault_34 : decode cX7_fault 34 = .ok (.if_icmp .ge 61, 3) := by decide +kernel
theorem dX7_fault_37 : decode cX7_fault 37 = .ok (.aload_n 0, 1) := by decide +kernel
theorem dX7_fault_38 : decode cX7_fault 38 = .ok (.aload_n 0, 1) := by decide +kernel
theorem dX7_fault_39 : decode cX7_fault 39 = .ok (.getfield 13, 3) := by decide +kernel
theorem dX7_fault_42 : decode cX7_fault 42 = .ok (.aload_n 0, 1) := by decide +kernel
theorem dX7_fault_43 : decode cX7_fault 43 = .ok (.getfield 111, 3) := by decide +kernel
theorem dX7_fault_46 : decode cX7_fault 46 = .ok (.caload, 1) := by decide +kernel
theorem dX7_fault_47 : decode cX7_fault 47 = .ok (.bipush 44, 2) := by decide +kernel
theorem dX7_fault_49 : decode cX7_fault 49 = .ok (.if_icmp .ne 7, 3) := by decide +kernel
theorem dX7_fault_52 : decode cX7_fault 52 = .ok (.iconst 1, 1) := by decide +kernel
theorem dX7_fault_53 : decode cX7_fault 53 = .ok (.goto 4, 3) := by decide +kernel
theorem dX7_fault_56 : decode cX7_fault 56 = .ok (.iconst 0, 1) := by decide +kernel
theorem dX7_fault_57 : decode cX7_fault 57 = .ok (.putfield 107, 3) := by decide +kernel
theorem dX7_fault_60 : decode cX7_fault 60 = .ok (.aload_n 0, 1) := by decide +kernel
theorem dX7_fault_61 : decode cX7_fault 61 = .ok (.dup, 1) := by decide +kernel
theorem dX7_fault_62 : decode cX7_fault 62 = .ok (.getfield 111, 3) := by decide +kernel
theorem dX7_fault_65 : decode cX7_fault 65 = .ok (.aload_n 0, 1) := by decide +kernel
theorem dX7_fault_66 : decode cX7_fault 66 = .ok (.getfield 107, 3) := by decide +kernel
theorem dX7_fault_69 : decode cX7_fault 69 = .ok (.ifCond .eq 7, 3) := by decide +kernel
theorem dX7_fault_72 : decode cX7_fault 72 = .ok (.iconst 1, 1) := by decide +kernel
theorem dX7_fault_73 : decode cX7_fault 73 = .ok (.goto 4, 3) := by decide +kernel
theorem dX7_fault_76 : decode cX7_fault 76 = .ok (.iconst 0, 1) := by decide +kernel
theorem dX7_fault_77 : decode cX7_fault 77 = .ok (.iadd, 1) := by decide +kernel
theorem dX7_fault_78 : decode cX7_fault 78 = .ok (.putfield 111, 3) := by decide +kernel
theorem dX7_fault_81 : decode cX7_fault 81 = .ok (.aload_n 0, 1) := by decide +kernel
theorem dX7_fault_82 : decode cX7_fault 82 = .ok (.getfield 107, 3) := by decide +kernel
theorem dX7_fault_85 : decode cX7_fault 85 = .ok (.ifCond .eq (-66), 3) := by decide +kernel
theorem dX7_fault_88 : decode cX7_fault 88 = .ok (.aload_n 0, 1) := by decide +kernel
theorem dX7_fault_89 : decode cX7_fault 89 = .ok (.invokevirtual 131, 3) := by decide +kernel
theorem dX7_fault_92 : decode cX7_fault 92 = .ok (.goto (-73), 3) := by decide +kernel
theorem dX7_fault_95 : decode cX7_fault 95 = .ok (.aload_n 0, 1) := by decide +kernel
theorem dX7_fault_96 : decode cX7_fault 96 = .ok (.getfield 107, 3) := by decide +kernel
theorem dX7_fault_99 : decode cX7_fault 99 = .ok (.ifCond .eq 7, 3) := by decide +kernel
theorem dX7_fault_102 : decode cX7_fault 102 = .ok (.iconst (-1), 1) := by decide +kernel
theorem dX7_fault_103 : decode cX7_fault 103 = .ok (.goto 7, 3) := by decide +kernel
theorem dX7_fault_106 : decode cX7_fault 106 = .ok (.aload_n 0, 1) := by decide +kernel
theorem dX7_fault_107 : decode cX7_fault 107 = .ok (.getfield 111, 3) := by decide +kernel
theorem dX7_fault_110 : decode cX7_fault 110 = .ok (.ireturn, 1) := by decide +kernel
set_option maxRecDepth 20000 in
theorem ggX7_does_X7_sets : GoodIn wsX7_does wsX7_sets := goodIn_r _ [6, 7, 8, 9, 5, 10, 90, 91, 92, 93, 94, 95, 96, 97, 98, 99, 100] (by decide +kernel) (by decide +kernel)
set_option maxRecDepth 20000 in
theorem gX7_does_X7_sets : GoodIn wsX7_does (wsV RX7 89 RX7 yX7_sets wsX7_sets) := goodIn_app (goodIn_of _ (by decide +kernel)) ggX7_does_X7_sets
set_option maxRecDepth 20000 in
theorem ggX7_does_X7_fills : GoodIn wsX7_does wsX7_fills := goodIn_r _ [14, 7, 8, 9, 5, 10, 90, 91, 92, 93, 94, 95, 96, 97, 98, 99, 100] (by decide +kernel) (by decide +kernel)
set_option maxRecDepth 20000 in
theorem gX7_does_X7_fills : GoodIn wsX7_does (wsV RX7 95 RX7 yX7_fills wsX7_fills) := goodIn_app (goodIn_of _ (by decide +kernel)) ggX7_does_X7_fills
set_option maxRecDepth 20000 in
theorem ggX7_does_X7_starts : GoodIn wsX7_does wsX7_starts := goodIn_r _ [18, 8, 9, 5, 10, 19, 20, 21, 22, 7, 23, 24, 25, 26, 27, 28, 29, 30, 31, 32, 33, 34, 35, 36, 37, 38, 39, 40, 41, 42, 43, 44, 45, 46, 47, 48, 49, 50, 51, 52, 53, 54, 55, 56, 57, 58, 59, 60, 61, 62, 63, 64, 65, 66, 67, 68, 90, 91, 92, 93, 94, 95, 96, 97, 98, 99, 100] (by decide +kernel) (by decide +kernel)
set_option maxRecDepth 20000 in
theorem gX7_does_X7_starts : GoodIn wsX7_does (wsV RX7 98 RX7 yX7_starts wsX7_starts) := goodIn_app (goodIn_of _ (by decide +kernel)) ggX7_does_X7_starts
set_option maxRecDepth 20000 in
theorem ggX7_does_X7_queues : GoodIn wsX7_does wsX7_queues := goodIn_r _ [72, 7, 8, 9, 5, 10, 90, 91, 92, 93, 94, 95, 96, 97, 98, 99, 100] (by decide +kernel) (by decide +kernel)
set_option maxRecDepth 20000 in
theorem gX7_does_X7_queues : GoodIn wsX7_does (wsV RX7 101 RX7 yX7_queues wsX7_queues) := goodIn_app (goodIn_of _ (by decide +kernel)) ggX7_does_X7_queues
set_option maxRecDepth 20000 in
theorem ggX7_does_X7_runs : GoodIn wsX7_does wsX7_runs := goodIn_r _ [76, 7, 77, 8, 9, 5, 10, 78, 79, 80, 81, 38, 39, 40, 41, 42, 43, 44, 45, 46, 47, 48, 49, 50, 51, 52, 53, 23, 24, 25, 26, 54, 55, 56, 57, 58, 59, 60, 61, 62, 63, 64, 65, 66, 67, 68, 82, 83, 84, 85, 19, 20, 21, 22, 27, 28, 29, 30, 31, 32, 33, 34, 35, 36, 37, 86, 87, 88, 89, 90, 91, 92, 93, 94, 95, 96, 97, 98, 99, 100] (by decide +kernel) (by decide +kernel)
set_option maxRecDepth 20000 in
theorem gX7_does_X7_runs : GoodIn wsX7_does (wsV RX7 104 RX7 yX7_runs wsX7_runs) := goodIn_app (goodIn_of _ (by decide +kernel)) ggX7_does_X7_runs
theorem dX7_does_0 : decode cX7_does 0 = .ok (.aload_n 0, 1) := by decide +kernel
theorem dX7_does_1 : decode cX7_does 1 = .ok (.getfield 17, 3) := by decide +kernel
theorem dX7_does_4 : decode cX7_does 4 = .ok (.iconst 3, 1) := by decide +kernel
theorem dX7_does_5 : decode cX7_does 5 = .ok (.iload_n 1, 1) := by decide +kernel
theorem dX7_does_6 : decode cX7_does 6 = .ok (.imul, 1) := by decide +kernel
theorem dX7_does_7 : decode cX7_does 7 = .ok (.iconst 1, 1) := by decide +kernel
theorem dX7_does_8 : decode cX7_does 8 = .ok (.iadd, 1) := by decide +kernel
theorem dX7_does_9 : decode cX7_does 9 = .ok (.iaload, 1) := by decide +kernel
theorem dX7_does_10 : decode cX7_does 10 = .ok (.istore_n 2, 1) := by decide +kernel
theorem dX7_does_11 : decode cX7_does 11 = .ok (.aload_n 0, 1) := by decide +kernel
theorem dX7_does_12 : decode cX7_does 12 = .ok (.getfield 17, 3) := by decide +kernel
theorem dX7_does_15 : decode cX7_does 15 = .ok (.iconst 3, 1) := by decide +kernel
theorem dX7_does_16 : decode cX7_does 16 = .ok (.iload_n 1, 1) := by decide +kernel
theorem dX7_does_17 : decode cX7_does 17 = .ok (.imul, 1) := by decide +kernel
theorem dX7_does_18 : decode cX7_does 18 = .ok (.iconst 2, 1) := by decide +kernel
theorem dX7_does_19 : decode cX7_does 19 = .ok (.iadd, 1) := by decide +kernel
theorem dX7_does_20 : decode cX7_does 20 = .ok (.iaload, 1) := by decide +kernel
theorem dX7_does_21 : decode cX7_does 21 = .ok (.istore_n 3, 1) := by decide +kernel
theorem dX7_does_22 : decode cX7_does 22 = .ok (.aload_n 0, 1) := by decide +kernel
theorem dX7_does_23 : decode cX7_does 23 = .ok (.getfield 17, 3) := by decide +kernel
theorem dX7_does_26 : decode cX7_does 26 = .ok (.iconst 3, 1) := by decide +kernel
theorem dX7_does_27 : decode cX7_does 27 = .ok (.iload_n 1, 1) := by decide +kernel
theorem dX7_does_28 : decode cX7_does 28 = .ok (.imul, 1) := by decide +kernel
theorem dX7_does_29 : decode cX7_does 29 = .ok (.iaload, 1) := by decide +kernel
theorem dX7_does_30 : decode cX7_does 30 = .ok (.lookupswitch 77 #[(102, 42), (108, 69), (109, 60), (119, 51)], 42) := by decide +kernel
theorem dX7_does_72 : decode cX7_does 72 = .ok (.aload_n 0, 1) := by decide +kernel
theorem dX7_does_73 : decode cX7_does 73 = .ok (.bipush 6, 2) := by decide +kernel
theorem dX7_does_75 : decode cX7_does 75 = .ok (.iload_n 2, 1) := by decide +kernel
theorem dX7_does_76 : decode cX7_does 76 = .ok (.iload_n 3, 1) := by decide +kernel
theorem dX7_does_77 : decode cX7_does 77 = .ok (.invokevirtual 89, 3) := by decide +kernel
theorem dX7_does_80 : decode cX7_does 80 = .ok (.ireturn, 1) := by decide +kernel
theorem dX7_does_81 : decode cX7_does 81 = .ok (.aload_n 0, 1) := by decide +kernel
theorem dX7_does_82 : decode cX7_does 82 = .ok (.bipush 6, 2) := by decide +kernel
theorem dX7_does_84 : decode cX7_does 84 = .ok (.iload_n 2, 1) := by decide +kernel
theorem dX7_does_85 : decode cX7_does 85 = .ok (.iload_n 3, 1) := by decide +kernel
theorem dX7_does_86 : decode cX7_does 86 = .ok (.invokevirtual 95, 3) := by decide +kernel
theorem dX7_does_89 : decode cX7_does 89 = .ok (.ireturn, 1) := by decide +kernel
theorem dX7_does_90 : decode cX7_does 90 = .ok (.aload_n 0, 1) := by decide +kernel
theorem dX7_does_91 : decode cX7_does 91 = .ok (.bipush 6, 2) := by decide +kernel
theorem dX7_does_93 : decode cX7_does 93 = .ok (.iload_n 2, 1) := by decide +kernel
theorem dX7_does_94 : decode cX7_does 94 = .ok (.iload_n 3, 1) := by decide +kernel
theorem dX7_does_95 : decode cX7_does 95 = .ok (.invokevirtual 98, 3) := by decide +kernel
theorem dX7_does_98 : decode cX7_does 98 = .ok (.ireturn, 1) := by decide +kernel
theorem dX7_does_99 : decode cX7_does 99 = .ok (.aload_n 0, 1) := by decide +kernel
theorem dX7_does_100 : decode cX7_does 100 = .ok (.bipush 6, 2) := by decide +kernel
theorem dX7_does_102 : decode cX7_does 102 = .ok (.iload_n 2, 1) := by decide +kernel
theorem dX7_does_103 : decode cX7_does 103 = .ok (.invokevirtual 101, 3) := by decide +kernel
theorem dX7_does_106 : decode cX7_does 106 = .ok (.ireturn, 1) := by decide +kernel
theorem dX7_does_107 : decode cX7_does 107 = .ok (.aload_n 0, 1) := by decide +kernel
theorem dX7_does_108 : decode cX7_does 108 = .ok (.bipush 6, 2) := by decide +kernel
theorem dX7_does_110 : decode cX7_does 110 = .ok (.iload_n 2, 1) := by decide +kernel
theorem dX7_does_111 : decode cX7_does 111 = .ok (.invokevirtual 104, 3) := by decide +kernel
theorem dX7_does_114 : decode cX7_does 114 = .ok (.ireturn, 1) := by decide +kernel
set_option maxRecDepth 20000 in
theorem ggX7_perform_X7_fault : GoodIn wsX7_perform wsX7_fault := goodIn_r _ [8, 9, 10, 1, 11, 12, 13, 14, 15, 7, 16, 17, 18, 19, 20, 21, 22, 23, 24, 25, 26, 27, 28, 29, 30, 31, 32, 130, 131, 132, 133, 134, 135, 136, 137, 138, 139, 140] (by decide +kernel) (by decide +kernel)
set_option maxRecDepth 20000 in
theorem gX7_perform_X7_fault : GoodIn wsX7_perform (wsV RX7 134 RX7 yX7_fault wsX7_fault) := goodIn_app (goodIn_of _ (by decide +kernel)) ggX7_perform_X7_fault
set_option maxRecDepth 20000 in
theorem ggX7_perform_X7_copies : GoodIn wsX7_perform wsX7_copies := goodIn_r _ [36, 37, 130, 131, 132, 133, 134, 135, 136, 137, 138, 139, 140] (by decide +kernel) (by decide +kernel)
set_option maxRecDepth 20000 in
theorem gX7_perform_X7_copies : GoodIn wsX7_perform (wsV RX7 27 RX7 yX7_copies wsX7_copies) := goodIn_app (goodIn_of _ (by decide +kernel)) ggX7_perform_X7_copies
set_option maxRecDepth 20000 in
theorem ggX7_perform_X7_does : GoodIn wsX7_perform wsX7_does := goodIn_r _ [41, 17, 42, 43, 44, 7, 45, 37, 26, 27, 28, 46, 47, 48, 49, 50, 51, 52, 53, 54, 55, 56, 57, 58, 59, 60, 61, 33, 34, 35, 36, 62, 63, 64, 65, 66, 67, 68, 69, 70, 71, 72, 73, 74, 75, 76, 77, 78, 79, 80, 81, 82, 83, 84, 85, 86, 87, 88, 89, 90, 91, 92, 93, 94, 95, 96, 97, 98, 99, 100, 101, 102, 103, 104, 105, 106, 107, 108, 109, 110, 111, 112, 113, 114, 115, 116, 117, 118, 119, 120, 130, 131, 132, 133, 134, 135, 136, 137, 138, 139, 140] (by decide +kernel) (by decide +kernel)
set_option maxRecDepth 20000 in
theorem gX7_perform_X7_does : GoodIn wsX7_perform (wsV RX7 137 RX7 yX7_does wsX7_does) := goodIn_app (goodIn_of _ (by decide +kernel)) ggX7_perform_X7_does
set_option maxRecDepth 20000 in
theorem ggX7_perform_X7_settles : GoodIn wsX7_perform wsX7_settles := goodIn_r _ [124, 125, 126, 127, 7, 128, 129, 33, 34, 35, 36, 37, 130, 131, 132, 133, 134, 135, 136, 137, 138, 139, 140] (by decide +kernel) (by decide +kernel)
set_option maxRecDepth 20000 in
theorem gX7_perform_X7_settles : GoodIn wsX7_perform (wsV RX7 92 RX7 yX7_settles wsX7_settles) := goodIn_app (goodIn_of _ (by decide +kernel)) ggX7_perform_X7_settles
theorem dX7_perform_0 : decode cX7_perform 0 = .ok (.aload_n 0, 1) := by decide +kernel
theorem dX7_perform_1 : decode cX7_perform 1 = .ok (.invokevirtual 134, 3) := by decide +kernel
theorem dX7_perform_4 : decode cX7_perform 4 = .ok (.istore_n 1, 1) := by decide +kernel
theorem dX7_perform_5 : decode cX7_perform 5 = .ok (.iload_n 1, 1) := by decide +kernel
theorem dX7_perform_6 : decode cX7_perform 6 = .ok (.ifCond .lt 8, 3) := by decide +kernel
theorem dX7_perform_9 : decode cX7_perform 9 = .ok (.bipush (-100), 2) := by decide +kernel
theorem dX7_perform_11 : decode cX7_perform 11 = .ok (.iload_n 1, 1) := by decide +kernel
theorem dX7_perform_12 : decode cX7_perform 12 = .ok (.isub, 1) := by decide +kernel
theorem dX7_perform_13 : decode cX7_perform 13 = .ok (.ireturn, 1) := by decide +kernel
theorem dX7_perform_14 : decode cX7_perform 14 = .ok (.aload_n 0, 1) := by decide +kernel
theorem dX7_perform_15 : decode cX7_perform 15 = .ok (.iconst 0, 1) := by decide +kernel
theorem dX7_perform_16 : decode cX7_perform 16 = .ok (.bipush 6, 2) := by decide +kernel
theorem dX7_perform_18 : decode cX7_perform 18 = .ok (.invokevirtual 27, 3) := by decide +kernel
theorem dX7_perform_21 : decode cX7_perform 21 = .ok (.iconst 0, 1) := by decide +kernel
theorem dX7_perform_22 : decode cX7_perform 22 = .ok (.istore_n 2, 1) := by decide +kernel
theorem dX7_perform_23 : decode cX7_perform 23 = .ok (.iload_n 2, 1) := by decide +kernel
theorem dX7_perform_24 : decode cX7_perform 24 = .ok (.aload_n 0, 1) := by decide +kernel
theorem dX7_perform_25 : decode cX7_perform 25 = .ok (.getfield 128, 3) := by decide +kernel
theorem dX7_perform_28 : decode cX7_perform 28 = .ok (.if_icmp .ge 38, 3) := by decide +kernel
theorem dX7_perform_31 : decode cX7_perform 31 = .ok (.aload_n 0, 1) := by decide +kernel
theorem dX7_perform_32 : decode cX7_perform 32 = .ok (.iload_n 2, 1) := by decide +kernel
theorem dX7_perform_33 : decode cX7_perform 33 = .ok (.invokevirtual 137, 3) := by decide +kernel
theorem dX7_perform_36 : decode cX7_perform 36 = .ok (.istore_n 3, 1) := by decide +kernel
theorem dX7_perform_37 : decode cX7_perform 37 = .ok (.iload_n 3, 1) := by decide +kernel
theorem dX7_perform_38 : decode cX7_perform 38 = .ok (.ifCond .ge 22, 3) := by decide +kernel
theorem dX7_perform_41 : decode cX7_perform 41 = .ok (.iload_n 3, 1) := by decide +kernel
theorem dX7_perform_42 : decode cX7_perform 42 = .ok (.bipush (-5), 2) := by decide +kernel
theorem dX7_perform_44 : decode cX7_perform 44 = .ok (.if_icmp .eq 16, 3) := by decide +kernel
theorem dX7_perform_47 : decode cX7_perform 47 = .ok (.aload_n 0, 1) := by decide +kernel
theorem dX7_perform_48 : decode cX7_perform 48 = .ok (.iload_n 2, 1) := by decide +kernel
theorem dX7_perform_49 : decode cX7_perform 49 = .ok (.putfield 20, 3) := by decide +kernel
theorem dX7_perform_52 : decode cX7_perform 52 = .ok (.aload_n 0, 1) := by decide +kernel
theorem dX7_perform_53 : decode cX7_perform 53 = .ok (.iload_n 3, 1) := by decide +kernel
theorem dX7_perform_54 : decode cX7_perform 54 = .ok (.putfield 140, 3) := by decide +kernel
theorem dX7_perform_57 : decode cX7_perform 57 = .ok (.bipush (-4), 2) := by decide +kernel
theorem dX7_perform_59 : decode cX7_perform 59 = .ok (.ireturn, 1) := by decide +kernel
theorem dX7_perform_60 : decode cX7_perform 60 = .ok (.iinc 2 1, 3) := by decide +kernel
theorem dX7_perform_63 : decode cX7_perform 63 = .ok (.goto (-40), 3) := by decide +kernel
theorem dX7_perform_66 : decode cX7_perform 66 = .ok (.aload_n 0, 1) := by decide +kernel
theorem dX7_perform_67 : decode cX7_perform 67 = .ok (.aload_n 0, 1) := by decide +kernel
theorem dX7_perform_68 : decode cX7_perform 68 = .ok (.getfield 128, 3) := by decide +kernel
theorem dX7_perform_71 : decode cX7_perform 71 = .ok (.invokevirtual 92, 3) := by decide +kernel
theorem dX7_perform_74 : decode cX7_perform 74 = .ok (.ireturn, 1) := by decide +kernel
set_option maxRecDepth 20000 in
theorem ggX7_stopped_X7_in : GoodIn wsX7_stopped wsX7_in := goodIn_r _ [6] (by decide +kernel) (by decide +kernel)
set_option maxRecDepth 20000 in
theorem gX7_stopped_X7_in : GoodIn wsX7_stopped (va_wsS RX7 78 yX7_in wsX7_in) := goodIn_app (goodIn_of _ (by decide +kernel)) ggX7_stopped_X7_in
theorem dX7_stopped_0 : decode cX7_stopped 0 = .ok (.iload_n 1, 1) := by decide +kernel
theorem dX7_stopped_1 : decode cX7_stopped 1 = .ok (.iconst 0, 1) := by decide +kernel
theorem dX7_stopped_2 : decode cX7_stopped 2 = .ok (.iconst 1, 1) := by decide +kernel
theorem dX7_stopped_3 : decode cX7_stopped 3 = .ok (.invokestatic 78, 3) := by decide +kernel
theorem dX7_stopped_6 : decode cX7_stopped 6 = .ok (.ifCond .ne 6, 3) := by decide +kernel
theorem dX7_stopped_9 : decode cX7_stopped 9 = .ok (.bipush (-2), 2) := by decide +kernel
theorem dX7_stopped_11 : decode cX7_stopped 11 = .ok (.ireturn, 1) := by decide +kernel
theorem dX7_stopped_12 : decode cX7_stopped 12 = .ok (.aload_n 0, 1) := by decide +kernel
theorem dX7_stopped_13 : decode cX7_stopped 13 = .ok (.getfield 20, 3) := by decide +kernel
theorem dX7_stopped_16 : decode cX7_stopped 16 = .ok (.ifCond .ge 8, 3) := by decide +kernel
theorem dX7_stopped_19 : decode cX7_stopped 19 = .ok (.bipush (-5), 2) := by decide +kernel
theorem dX7_stopped_21 : decode cX7_stopped 21 = .ok (.goto 18, 3) := by decide +kernel
theorem dX7_stopped_24 : decode cX7_stopped 24 = .ok (.iload_n 1, 1) := by decide +kernel
theorem dX7_stopped_25 : decode cX7_stopped 25 = .ok (.ifCond .ne 10, 3) := by decide +kernel
theorem dX7_stopped_28 : decode cX7_stopped 28 = .ok (.aload_n 0, 1) := by decide +kernel
theorem dX7_stopped_29 : decode cX7_stopped 29 = .ok (.getfield 20, 3) := by decide +kernel
theorem dX7_stopped_32 : decode cX7_stopped 32 = .ok (.goto 7, 3) := by decide +kernel
theorem dX7_stopped_35 : decode cX7_stopped 35 = .ok (.aload_n 0, 1) := by decide +kernel
theorem dX7_stopped_36 : decode cX7_stopped 36 = .ok (.getfield 140, 3) := by decide +kernel
theorem dX7_stopped_39 : decode cX7_stopped 39 = .ok (.ireturn, 1) := by decide +kernel
theorem dX7_type_0 : decode cX7_type 0 = .ok (.aload_n 0, 1) := by decide +kernel
theorem dX7_type_1 : decode cX7_type 1 = .ok (.getfield 114, 3) := by decide +kernel
theorem dX7_type_4 : decode cX7_type 4 = .ok (.bipush 80, 2) := by decide +kernel
theorem dX7_type_6 : decode cX7_type 6 = .ok (.if_icmp .ne 6, 3) := by decide +kernel
theorem dX7_type_9 : decode cX7_type 9 = .ok (.bipush (-3), 2) := by decide +kernel
theorem dX7_type_11 : decode cX7_type 11 = .ok (.ireturn, 1) := by decide +kernel
theorem dX7_type_12 : decode cX7_type 12 = .ok (.aload_n 0, 1) := by decide +kernel
theorem dX7_type_13 : decode cX7_type 13 = .ok (.getfield 13, 3) := by decide +kernel
theorem dX7_type_16 : decode cX7_type 16 = .ok (.aload_n 0, 1) := by decide +kernel
theorem dX7_type_17 : decode cX7_type 17 = .ok (.getfield 114, 3) := by decide +kernel
theorem dX7_type_20 : decode cX7_type 20 = .ok (.iload_n 1, 1) := by decide +kernel
theorem dX7_type_21 : decode cX7_type 21 = .ok (.castore, 1) := by decide +kernel
theorem dX7_type_22 : decode cX7_type 22 = .ok (.aload_n 0, 1) := by decide +kernel
theorem dX7_type_23 : decode cX7_type 23 = .ok (.dup, 1) := by decide +kernel
theorem dX7_type_24 : decode cX7_type 24 = .ok (.getfield 114, 3) := by decide +kernel
theorem dX7_type_27 : decode cX7_type 27 = .ok (.iconst 1, 1) := by decide +kernel
theorem dX7_type_28 : decode cX7_type 28 = .ok (.iadd, 1) := by decide +kernel
theorem dX7_type_29 : decode cX7_type 29 = .ok (.putfield 114, 3) := by decide +kernel
theorem dX7_type_32 : decode cX7_type 32 = .ok (.aload_n 0, 1) := by decide +kernel
theorem dX7_type_33 : decode cX7_type 33 = .ok (.getfield 114, 3) := by decide +kernel
theorem dX7_type_36 : decode cX7_type 36 = .ok (.ireturn, 1) := by decide +kernel
theorem dX7_clearText_0 : decode cX7_clearText 0 = .ok (.aload_n 0, 1) := by decide +kernel
theorem dX7_clearText_1 : decode cX7_clearText 1 = .ok (.getfield 114, 3) := by decide +kernel
theorem dX7_clearText_4 : decode cX7_clearText 4 = .ok (.istore_n 1, 1) := by decide +kernel
theorem dX7_clearText_5 : decode cX7_clearText 5 = .ok (.aload_n 0, 1) := by decide +kernel
theorem dX7_clearText_6 : decode cX7_clearText 6 = .ok (.iconst 0, 1) := by decide +kernel
theorem dX7_clearText_7 : decode cX7_clearText 7 = .ok (.putfield 114, 3) := by decide +kernel
theorem dX7_clearText_10 : decode cX7_clearText 10 = .ok (.iload_n 1, 1) := by decide +kernel
theorem dX7_clearText_11 : decode cX7_clearText 11 = .ok (.ireturn, 1) := by decide +kernel
set_option maxRecDepth 20000 in
theorem ggX7_undo_X7_copies : GoodIn wsX7_undo wsX7_copies := goodIn_r _ [6, 7, 8, 9, 10, 11, 12, 13, 14, 15, 16, 17, 18] (by decide +kernel) (by decide +kernel)
set_option maxRecDepth 20000 in
theorem gX7_undo_X7_copies : GoodIn wsX7_undo (wsV RX7 27 RX7 yX7_copies wsX7_copies) := goodIn_app (goodIn_of _ (by decide +kernel)) ggX7_undo_X7_copies
theorem dX7_undo_0 : decode cX7_undo 0 = .ok (.aload_n 0, 1) := by decide +kernel
theorem dX7_undo_1 : decode cX7_undo 1 = .ok (.getfield 24, 3) := by decide +kernel
theorem dX7_undo_4 : decode cX7_undo 4 = .ok (.ifCond .ne 6, 3) := by decide +kernel
theorem dX7_undo_7 : decode cX7_undo 7 = .ok (.bipush (-5), 2) := by decide +kernel
theorem dX7_undo_9 : decode cX7_undo 9 = .ok (.ireturn, 1) := by decide +kernel
theorem dX7_undo_10 : decode cX7_undo 10 = .ok (.aload_n 0, 1) := by decide +kernel
theorem dX7_undo_11 : decode cX7_undo 11 = .ok (.aload_n 0, 1) := by decide +kernel
theorem dX7_undo_12 : decode cX7_undo 12 = .ok (.getfield 24, 3) := by decide +kernel
theorem dX7_undo_15 : decode cX7_undo 15 = .ok (.iconst 0, 1) := by decide +kernel
theorem dX7_undo_16 : decode cX7_undo 16 = .ok (.invokevirtual 27, 3) := by decide +kernel
theorem dX7_undo_19 : decode cX7_undo 19 = .ok (.aload_n 0, 1) := by decide +kernel
theorem dX7_undo_20 : decode cX7_undo 20 = .ok (.dup, 1) := by decide +kernel
theorem dX7_undo_21 : decode cX7_undo 21 = .ok (.getfield 24, 3) := by decide +kernel
theorem dX7_undo_24 : decode cX7_undo 24 = .ok (.iconst 1, 1) := by decide +kernel
theorem dX7_undo_25 : decode cX7_undo 25 = .ok (.isub, 1) := by decide +kernel
theorem dX7_undo_26 : decode cX7_undo 26 = .ok (.putfield 24, 3) := by decide +kernel
theorem dX7_undo_29 : decode cX7_undo 29 = .ok (.aload_n 0, 1) := by decide +kernel
theorem dX7_undo_30 : decode cX7_undo 30 = .ok (.getfield 24, 3) := by decide +kernel
theorem dX7_undo_33 : decode cX7_undo 33 = .ok (.ireturn, 1) := by decide +kernel
set_option maxRecDepth 20000 in
theorem ggX7_keep_X7_copies : GoodIn wsX7_keep wsX7_copies := goodIn_r _ [7, 2, 8, 9, 10, 11, 12, 13, 14, 15, 16, 17, 18] (by decide +kernel) (by decide +kernel)
set_option maxRecDepth 20000 in
theorem gX7_keep_X7_copies : GoodIn wsX7_keep (wsV RX7 27 RX7 yX7_copies wsX7_copies) := goodIn_app (goodIn_of _ (by decide +kernel)) ggX7_keep_X7_copies
theorem dX7_keep_0 : decode cX7_keep 0 = .ok (.aload_n 0, 1) := by decide +kernel
theorem dX7_keep_1 : decode cX7_keep 1 = .ok (.iconst 0, 1) := by decide +kernel
theorem dX7_keep_2 : decode cX7_keep 2 = .ok (.iconst 5, 1) := by decide +kernel
theorem dX7_keep_3 : decode cX7_keep 3 = .ok (.invokevirtual 27, 3) := by decide +kernel
theorem dX7_keep_6 : decode cX7_keep 6 = .ok (.aload_n 0, 1) := by decide +kernel
theorem dX7_keep_7 : decode cX7_keep 7 = .ok (.iconst 1, 1) := by decide +kernel
theorem dX7_keep_8 : decode cX7_keep 8 = .ok (.putfield 143, 3) := by decide +kernel
theorem dX7_keep_11 : decode cX7_keep 11 = .ok (.aload_n 0, 1) := by decide +kernel
theorem dX7_keep_12 : decode cX7_keep 12 = .ok (.getfield 7, 3) := by decide +kernel
theorem dX7_keep_15 : decode cX7_keep 15 = .ok (.bipush 12, 2) := by decide +kernel
theorem dX7_keep_17 : decode cX7_keep 17 = .ok (.iaload, 1) := by decide +kernel
theorem dX7_keep_18 : decode cX7_keep 18 = .ok (.ireturn, 1) := by decide +kernel
set_option maxRecDepth 20000 in
theorem ggX7_restore_X7_records : GoodIn wsX7_restore wsX7_records := goodIn_r _ [7, 8, 9, 10, 11, 6, 12, 2, 13, 14, 15, 16, 17, 18, 19, 20, 21, 22, 23] (by decide +kernel) (by decide +kernel)
set_option maxRecDepth 20000 in
theorem gX7_restore_X7_records : GoodIn wsX7_restore (wsV RX7 86 RX7 yX7_records wsX7_records) := goodIn_app (goodIn_of _ (by decide +kernel)) ggX7_restore_X7_records
set_option maxRecDepth 20000 in
theorem ggX7_restore_X7_copies : GoodIn wsX7_restore wsX7_copies := goodIn_r _ [12, 2, 13, 14, 15, 16, 17, 18, 19, 20, 21, 22, 23] (by decide +kernel) (by decide +kernel)
set_option maxRecDepth 20000 in
theorem gX7_restore_X7_copies : GoodIn wsX7_restore (wsV RX7 27 RX7 yX7_copies wsX7_copies) := goodIn_app (goodIn_of _ (by decide +kernel)) ggX7_restore_X7_copies
theorem dX7_restore_0 : decode cX7_restore 0 = .ok (.aload_n 0, 1) := by decide +kernel
theorem dX7_restore_1 : decode cX7_restore 1 = .ok (.getfield 143, 3) := by decide +kernel
theorem dX7_restore_4 : decode cX7_restore 4 = .ok (.ifCond .ne 6, 3) := by decide +kernel
theorem dX7_restore_7 : decode cX7_restore 7 = .ok (.bipush (-5), 2) := by decide +kernel
theorem dX7_restore_9 : decode cX7_restore 9 = .ok (.ireturn, 1) := by decide +kernel
theorem dX7_restore_10 : decode cX7_restore 10 = .ok (.aload_n 0, 1) := by decide +kernel
theorem dX7_restore_11 : decode cX7_restore 11 = .ok (.invokevirtual 86, 3) := by decide +kernel
theorem dX7_restore_14 : decode cX7_restore 14 = .ok (.aload_n 0, 1) := by decide +kernel
theorem dX7_restore_15 : decode cX7_restore 15 = .ok (.iconst 5, 1) := by decide +kernel
theorem dX7_restore_16 : decode cX7_restore 16 = .ok (.iconst 0, 1) := by decide +kernel
theorem dX7_restore_17 : decode cX7_restore 17 = .ok (.invokevirtual 27, 3) := by decide +kernel
theorem dX7_restore_20 : decode cX7_restore 20 = .ok (.aload_n 0, 1) := by decide +kernel
theorem dX7_restore_21 : decode cX7_restore 21 = .ok (.getfield 7, 3) := by decide +kernel
theorem dX7_restore_24 : decode cX7_restore 24 = .ok (.bipush 12, 2) := by decide +kernel
theorem dX7_restore_26 : decode cX7_restore 26 = .ok (.iaload, 1) := by decide +kernel
theorem dX7_restore_27 : decode cX7_restore 27 = .ok (.ireturn, 1) := by decide +kernel
set_option maxRecDepth 20000 in
theorem ggX7_boiler_X7_in : GoodIn wsX7_boiler wsX7_in := goodIn_r _ [5] (by decide +kernel) (by decide +kernel)
set_option maxRecDepth 20000 in
theorem gX7_boiler_X7_in : GoodIn wsX7_boiler (va_wsS RX7 78 yX7_in wsX7_in) := goodIn_app (goodIn_of _ (by decide +kernel)) ggX7_boiler_X7_in
theorem dX7_boiler_0 : decode cX7_boiler 0 = .ok (.iload_n 1, 1) := by decide +kernel
theorem dX7_boiler_1 : decode cX7_boiler 1 = .ok (.iconst 0, 1) := by decide +kernel
theorem dX7_boiler_2 : decode cX7_boiler 2 = .ok (.iconst 1, 1) := by decide +kernel
theorem dX7_boiler_3 : decode cX7_boiler 3 = .ok (.invokestatic 78, 3) := by decide +kernel
theorem dX7_boiler_6 : decode cX7_boiler 6 = .ok (.ifCond .ne 5, 3) := by decide +kernel
theorem dX7_boiler_9 : decode cX7_boiler 9 = .ok (.iconst (-1), 1) := by decide +kernel
theorem dX7_boiler_10 : decode cX7_boiler 10 = .ok (.ireturn, 1) := by decide +kernel
theorem dX7_boiler_11 : decode cX7_boiler 11 = .ok (.iload_n 2, 1) := by decide +kernel
theorem dX7_boiler_12 : decode cX7_boiler 12 = .ok (.iconst 0, 1) := by decide +kernel
theorem dX7_boiler_13 : decode cX7_boiler 13 = .ok (.iconst 4, 1) := by decide +kernel
theorem dX7_boiler_14 : decode cX7_boiler 14 = .ok (.invokestatic 78, 3) := by decide +kernel
theorem dX7_boiler_17 : decode cX7_boiler 17 = .ok (.ifCond .eq 16, 3) := by decide +kernel
theorem dX7_boiler_20 : decode cX7_boiler 20 = .ok (.aload_n 0, 1) := by decide +kernel
theorem dX7_boiler_21 : decode cX7_boiler 21 = .ok (.getfield 7, 3) := by decide +kernel
theorem dX7_boiler_24 : decode cX7_boiler 24 = .ok (.iconst 2, 1) := by decide +kernel
theorem dX7_boiler_25 : decode cX7_boiler 25 = .ok (.iload_n 2, 1) := by decide +kernel
theorem dX7_boiler_26 : decode cX7_boiler 26 = .ok (.imul, 1) := by decide +kernel
theorem dX7_boiler_27 : decode cX7_boiler 27 = .ok (.iload_n 1, 1) := by decide +kernel
theorem dX7_boiler_28 : decode cX7_boiler 28 = .ok (.iadd, 1) := by decide +kernel
theorem dX7_boiler_29 : decode cX7_boiler 29 = .ok (.iaload, 1) := by decide +kernel
theorem dX7_boiler_30 : decode cX7_boiler 30 = .ok (.goto 5, 3) := by decide +kernel
theorem dX7_boiler_33 : decode cX7_boiler 33 = .ok (.bipush (-2), 2) := by decide +kernel
theorem dX7_boiler_35 : decode cX7_boiler 35 = .ok (.ireturn, 1) := by decide +kernel
set_option maxRecDepth 20000 in
theorem ggX7_machine_X7_in : GoodIn wsX7_machine wsX7_in := goodIn_r _ [5] (by decide +kernel) (by decide +kernel)
set_option maxRecDepth 20000 in
theorem gX7_machine_X7_in : GoodIn wsX7_machine (va_wsS RX7 78 yX7_in wsX7_in) := goodIn_app (goodIn_of _ (by decide +kernel)) ggX7_machine_X7_in
theorem dX7_machine_0 : decode cX7_machine 0 = .ok (.iload_n 1, 1) := by decide +kernel
theorem dX7_machine_1 : decode cX7_machine 1 = .ok (.iconst 0, 1) := by decide +kernel
theorem dX7_machine_2 : decode cX7_machine 2 = .ok (.iconst 3, 1) := by decide +kernel
theorem dX7_machine_3 : decode cX7_machine 3 = .ok (.invokestatic 78, 3) := by decide +kernel
theorem dX7_machine_6 : decode cX7_machine 6 = .ok (.ifCond .ne 5, 3) := by decide +kernel
theorem dX7_machine_9 : decode cX7_machine 9 = .ok (.iconst (-1), 1) := by decide +kernel
theorem dX7_machine_10 : decode cX7_machine 10 = .ok (.ireturn, 1) := by decide +kernel
theorem dX7_machine_11 : decode cX7_machine 11 = .ok (.iload_n 2, 1) := by decide +kernel
theorem dX7_machine_12 : decode cX7_machine 12 = .ok (.iconst 0, 1) := by decide +kernel
theorem dX7_machine_13 : decode cX7_machine 13 = .ok (.iconst 2, 1) := by decide +kernel
theorem dX7_machine_14 : decode cX7_machine 14 = .ok (.invokestatic 78, 3) := by decide +kernel
theorem dX7_machine_17 : decode cX7_machine 17 = .ok (.ifCond .ne 6, 3) := by decide +kernel
theorem dX7_machine_20 : decode cX7_machine 20 = .ok (.bipush (-2), 2) := by decide +kernel
theorem dX7_machine_22 : decode cX7_machine 22 = .ok (.ireturn, 1) := by decide +kernel
theorem dX7_machine_23 : decode cX7_machine 23 = .ok (.aload_n 0, 1) := by decide +kernel
theorem dX7_machine_24 : decode cX7_machine 24 = .ok (.getfield 7, 3) := by decide +kernel
theorem dX7_machine_27 : decode cX7_machine 27 = .ok (.bipush 13, 2) := by decide +kernel
theorem dX7_machine_29 : decode cX7_machine 29 = .ok (.iconst 4, 1) := by decide +kernel
theorem dX7_machine_30 : decode cX7_machine 30 = .ok (.iload_n 2, 1) := by decide +kernel
theorem dX7_machine_31 : decode cX7_machine 31 = .ok (.imul, 1) := by decide +kernel
theorem dX7_machine_32 : decode cX7_machine 32 = .ok (.iadd, 1) := by decide +kernel
theorem dX7_machine_33 : decode cX7_machine 33 = .ok (.iload_n 1, 1) := by decide +kernel
theorem dX7_machine_34 : decode cX7_machine 34 = .ok (.iadd, 1) := by decide +kernel
theorem dX7_machine_35 : decode cX7_machine 35 = .ok (.iaload, 1) := by decide +kernel
theorem dX7_machine_36 : decode cX7_machine 36 = .ok (.istore_n 3, 1) := by decide +kernel
theorem dX7_machine_37 : decode cX7_machine 37 = .ok (.iload_n 3, 1) := by decide +kernel
theorem dX7_machine_38 : decode cX7_machine 38 = .ok (.ifCond .ge 8, 3) := by decide +kernel
theorem dX7_machine_41 : decode cX7_machine 41 = .ok (.bipush (-5), 2) := by decide +kernel
theorem dX7_machine_43 : decode cX7_machine 43 = .ok (.goto 4, 3) := by decide +kernel
theorem dX7_machine_46 : decode cX7_machine 46 = .ok (.iload_n 3, 1) := by decide +kernel
theorem dX7_machine_47 : decode cX7_machine 47 = .ok (.ireturn, 1) := by decide +kernel
theorem dX7_line_0 : decode cX7_line 0 = .ok (.iload_n 1, 1) := by decide +kernel
theorem dX7_line_1 : decode cX7_line 1 = .ok (.ifCond .ge 6, 3) := by decide +kernel
theorem dX7_line_4 : decode cX7_line 4 = .ok (.bipush (-2), 2) := by decide +kernel
theorem dX7_line_6 : decode cX7_line 6 = .ok (.ireturn, 1) := by decide +kernel
theorem dX7_line_7 : decode cX7_line 7 = .ok (.iload_n 1, 1) := by decide +kernel
theorem dX7_line_8 : decode cX7_line 8 = .ok (.aload_n 0, 1) := by decide +kernel
theorem dX7_line_9 : decode cX7_line 9 = .ok (.getfield 7, 3) := by decide +kernel
theorem dX7_line_12 : decode cX7_line 12 = .ok (.bipush 25, 2) := by decide +kernel
theorem dX7_line_14 : decode cX7_line 14 = .ok (.iaload, 1) := by decide +kernel
theorem dX7_line_15 : decode cX7_line 15 = .ok (.if_icmp .ge 15, 3) := by decide +kernel
theorem dX7_line_18 : decode cX7_line 18 = .ok (.aload_n 0, 1) := by decide +kernel
theorem dX7_line_19 : decode cX7_line 19 = .ok (.getfield 7, 3) := by decide +kernel
theorem dX7_line_22 : decode cX7_line 22 = .ok (.bipush 26, 2) := by decide +kernel
theorem dX7_line_24 : decode cX7_line 24 = .ok (.iload_n 1, 1) := by decide +kernel
theorem dX7_line_25 : decode cX7_line 25 = .ok (.iadd, 1) := by decide +kernel
theorem dX7_line_26 : decode cX7_line 26 = .ok (.iaload, 1) := by decide +kernel
theorem dX7_line_27 : decode cX7_line 27 = .ok (.goto 5, 3) := by decide +kernel
theorem dX7_line_30 : decode cX7_line 30 = .ok (.bipush (-5), 2) := by decide +kernel
theorem dX7_line_32 : decode cX7_line 32 = .ok (.ireturn, 1) := by decide +kernel
set_option maxRecDepth 20000 in
theorem ggX7_reason_X7_in : GoodIn wsX7_reason wsX7_in := goodIn_r _ [4] (by decide +kernel) (by decide +kernel)
set_option maxRecDepth 20000 in
theorem gX7_reason_X7_in : GoodIn wsX7_reason (va_wsS RX7 78 yX7_in wsX7_in) := goodIn_app (goodIn_of _ (by decide +kernel)) ggX7_reason_X7_in
set_option maxRecDepth 20000 in
theorem ggX7_reason_X7_lowestEmpty : GoodIn wsX7_reason wsX7_lowestEmpty := goodIn_r _ [8, 9, 60, 61, 62, 63, 64, 65, 66, 67, 68, 69, 70] (by decide +kernel) (by decide +kernel)
set_option maxRecDepth 20000 in
theorem gX7_reason_X7_lowestEmpty : GoodIn wsX7_reason (wsV RX7 67 RX7 yX7_lowestEmpty wsX7_lowestEmpty) := goodIn_app (goodIn_of _ (by decide +kernel)) ggX7_reason_X7_lowestEmpty
set_option maxRecDepth 20000 in
theorem ggX7_reason_X7_why : GoodIn wsX7_reason wsX7_why := goodIn_r _ [13, 9, 14, 15, 16, 3, 17, 18, 19, 20, 21, 22, 23, 24, 25, 26, 27, 28, 29, 30, 31, 32, 33, 34, 35, 36, 37, 38, 39, 40, 41, 42, 43, 44, 45, 46, 47, 48, 49, 50, 51, 52, 53, 54, 55, 56, 57, 58, 59, 60, 61, 62, 63, 64, 65, 66, 67, 68, 69, 70] (by decide +kernel) (by decide +kernel)
set_option maxRecDepth 20000 in
theorem gX7_reason_X7_why : GoodIn wsX7_reason (wsV RX7 70 RX7 yX7_why wsX7_why) := goodIn_app (goodIn_of _ (by decide +kernel)) ggX7_reason_X7_why
theorem dX7_reason_0 : decode cX7_reason 0 = .ok (.iload_n 1, 1) := by decide +kernel
theorem dX7_reason_1 : decode cX7_reason 1 = .ok (.iconst 0, 1) := by decide +kernel
theorem dX7_reason_2 : decode cX7_reason 2 = .ok (.iconst 2, 1) := by decide +kernel
theorem dX7_reason_3 : decode cX7_reason 3 = .ok (.invokestatic 78, 3) := by decide +kernel
theorem dX7_reason_6 : decode cX7_reason 6 = .ok (.ifCond .eq 17, 3) := by decide +kernel
theorem dX7_reason_9 : decode cX7_reason 9 = .ok (.aload_n 0, 1) := by decide +kernel
theorem dX7_reason_10 : decode cX7_reason 10 = .ok (.iconst 0, 1) := by decide +kernel
theorem dX7_reason_11 : decode cX7_reason 11 = .ok (.aload_n 0, 1) := by decide +kernel
theorem dX7_reason_12 : decode cX7_reason 12 = .ok (.iconst 0, 1) := by decide +kernel
theorem dX7_reason_13 : decode cX7_reason 13 = .ok (.invokevirtual 67, 3) := by decide +kernel
theorem dX7_reason_16 : decode cX7_reason 16 = .ok (.iload_n 1, 1) := by decide +kernel
theorem dX7_reason_17 : decode cX7_reason 17 = .ok (.invokevirtual 70, 3) := by decide +kernel
theorem dX7_reason_20 : decode cX7_reason 20 = .ok (.goto 4, 3) := by decide +kernel
theorem dX7_reason_23 : decode cX7_reason 23 = .ok (.iconst (-1), 1) := by decide +kernel
theorem dX7_reason_24 : decode cX7_reason 24 = .ok (.ireturn, 1) := by decide +kernel
set_option maxRecDepth 20000 in
theorem ggX7_isDone_X7_need : GoodIn wsX7_isDone wsX7_need := goodIn_r _ [6, 1, 7, 8, 9, 10, 11, 12, 13, 14, 15, 16, 17] (by decide +kernel) (by decide +kernel)
set_option maxRecDepth 20000 in
theorem gX7_isDone_X7_need : GoodIn wsX7_isDone (wsV RX7 38 RX7 yX7_need wsX7_need) := goodIn_app (goodIn_of _ (by decide +kernel)) ggX7_isDone_X7_need
theorem dX7_isDone_0 : decode cX7_isDone 0 = .ok (.aload_n 0, 1) := by decide +kernel
theorem dX7_isDone_1 : decode cX7_isDone 1 = .ok (.getfield 7, 3) := by decide +kernel
theorem dX7_isDone_4 : decode cX7_isDone 4 = .ok (.iload_n 1, 1) := by decide +kernel
theorem dX7_isDone_5 : decode cX7_isDone 5 = .ok (.bipush 25, 2) := by decide +kernel
theorem dX7_isDone_7 : decode cX7_isDone 7 = .ok (.iadd, 1) := by decide +kernel
theorem dX7_isDone_8 : decode cX7_isDone 8 = .ok (.iaload, 1) := by decide +kernel
theorem dX7_isDone_9 : decode cX7_isDone 9 = .ok (.ifCond .ne 15, 3) := by decide +kernel
theorem dX7_isDone_12 : decode cX7_isDone 12 = .ok (.aload_n 0, 1) := by decide +kernel
theorem dX7_isDone_13 : decode cX7_isDone 13 = .ok (.iload_n 1, 1) := by decide +kernel
theorem dX7_isDone_14 : decode cX7_isDone 14 = .ok (.invokevirtual 38, 3) := by decide +kernel
theorem dX7_isDone_17 : decode cX7_isDone 17 = .ok (.ifCond .ne 7, 3) := by decide +kernel
theorem dX7_isDone_20 : decode cX7_isDone 20 = .ok (.iconst 1, 1) := by decide +kernel
theorem dX7_isDone_21 : decode cX7_isDone 21 = .ok (.goto 4, 3) := by decide +kernel
theorem dX7_isDone_24 : decode cX7_isDone 24 = .ok (.iconst 0, 1) := by decide +kernel
theorem dX7_isDone_25 : decode cX7_isDone 25 = .ok (.ireturn, 1) := by decide +kernel
set_option maxRecDepth 20000 in
theorem ggX7_doneIn_X7_copies : GoodIn wsX7_doneIn wsX7_copies := goodIn_r _ [5, 6, 69, 70, 71, 72, 73, 74, 75, 76, 77, 78, 79] (by decide +kernel) (by decide +kernel)
set_option maxRecDepth 20000 in
theorem gX7_doneIn_X7_copies : GoodIn wsX7_doneIn (wsV RX7 27 RX7 yX7_copies wsX7_copies) := goodIn_app (goodIn_of _ (by decide +kernel)) ggX7_doneIn_X7_copies
set_option maxRecDepth 20000 in
theorem ggX7_doneIn_X7_isDone : GoodIn wsX7_doneIn wsX7_isDone := goodIn_r _ [10, 6, 11, 12, 13, 4, 14, 69, 70, 71, 72, 73, 74, 75, 76, 77, 78, 79] (by decide +kernel) (by decide +kernel)
set_option maxRecDepth 20000 in
theorem gX7_doneIn_X7_isDone : GoodIn wsX7_doneIn (wsV RX7 146 RX7 yX7_isDone wsX7_isDone) := goodIn_app (goodIn_of _ (by decide +kernel)) ggX7_doneIn_X7_isDone
set_option maxRecDepth 20000 in
theorem ggX7_doneIn_X7_ticks : GoodIn wsX7_doneIn wsX7_ticks := goodIn_r _ [18, 6, 19, 20, 21, 4, 22, 23, 24, 25, 26, 27, 28, 29, 30, 11, 12, 13, 14, 31, 32, 33, 34, 35, 36, 37, 38, 39, 40, 41, 42, 43, 44, 45, 46, 47, 48, 49, 50, 51, 52, 53, 54, 55, 56, 57, 1, 2, 3, 5, 58, 59, 60, 61, 62, 63, 64, 65, 66, 67, 68, 69, 70, 71, 72, 73, 74, 75, 76, 77, 78, 79] (by decide +kernel) (by decide +kernel)
set_option maxRecDepth 20000 in
theorem gX7_doneIn_X7_ticks : GoodIn wsX7_doneIn (wsV RX7 83 RX7 yX7_ticks wsX7_ticks) := goodIn_app (goodIn_of _ (by decide +kernel)) ggX7_doneIn_X7_ticks
theorem dX7_doneIn_0 : decode cX7_doneIn 0 = .ok (.aload_n 0, 1) := by decide +kernel
theorem dX7_doneIn_1 : decode cX7_doneIn 1 = .ok (.iconst 0, 1) := by decide +kernel
theorem dX7_doneIn_2 : decode cX7_doneIn 2 = .ok (.bipush 6, 2) := by decide +kernel
theorem dX7_doneIn_4 : decode cX7_doneIn 4 = .ok (.invokevirtual 27, 3) := by decide +kernel
theorem dX7_doneIn_7 : decode cX7_doneIn 7 = .ok (.iconst 0, 1) := by decide +kernel
theorem dX7_doneIn_8 : decode cX7_doneIn 8 = .ok (.istore_n 1, 1) := by decide +kernel
theorem dX7_doneIn_9 : decode cX7_doneIn 9 = .ok (.aload_n 0, 1) := by decide +kernel
theorem dX7_doneIn_10 : decode cX7_doneIn 10 = .ok (.sipush 276, 3) := by decide +kernel
theorem dX7_doneIn_13 : decode cX7_doneIn 13 = .ok (.invokevirtual 146, 3) := by decide +kernel
theorem dX7_doneIn_16 : decode cX7_doneIn 16 = .ok (.ifCond .ne 23, 3) := by decide +kernel
theorem dX7_doneIn_19 : decode cX7_doneIn 19 = .ok (.iload_n 1, 1) := by decide +kernel
theorem dX7_doneIn_20 : decode cX7_doneIn 20 = .ok (.sipush 400, 3) := by decide +kernel
theorem dX7_doneIn_23 : decode cX7_doneIn 23 = .ok (.if_icmp .ge 16, 3) := by decide +kernel
theorem dX7_doneIn_26 : decode cX7_doneIn 26 = .ok (.aload_n 0, 1) := by decide +kernel
theorem dX7_doneIn_27 : decode cX7_doneIn 27 = .ok (.bipush 6, 2) := by decide +kernel
theorem dX7_doneIn_29 : decode cX7_doneIn 29 = .ok (.iconst 1, 1) := by decide +kernel
theorem dX7_doneIn_30 : decode cX7_doneIn 30 = .ok (.invokevirtual 83, 3) := by decide +kernel
theorem dX7_doneIn_33 : decode cX7_doneIn 33 = .ok (.iinc 1 1, 3) := by decide +kernel
theorem dX7_doneIn_36 : decode cX7_doneIn 36 = .ok (.goto (-27), 3) := by decide +kernel
theorem dX7_doneIn_39 : decode cX7_doneIn 39 = .ok (.aload_n 0, 1) := by decide +kernel
theorem dX7_doneIn_40 : decode cX7_doneIn 40 = .ok (.sipush 276, 3) := by decide +kernel
theorem dX7_doneIn_43 : decode cX7_doneIn 43 = .ok (.invokevirtual 146, 3) := by decide +kernel
theorem dX7_doneIn_46 : decode cX7_doneIn 46 = .ok (.ifCond .eq 7, 3) := by decide +kernel
theorem dX7_doneIn_49 : decode cX7_doneIn 49 = .ok (.iload_n 1, 1) := by decide +kernel
theorem dX7_doneIn_50 : decode cX7_doneIn 50 = .ok (.goto 5, 3) := by decide +kernel
theorem dX7_doneIn_53 : decode cX7_doneIn 53 = .ok (.bipush (-5), 2) := by decide +kernel
theorem dX7_doneIn_55 : decode cX7_doneIn 55 = .ok (.ireturn, 1) := by decide +kernel
set_option maxRecDepth 20000 in
theorem ggX7_tries_X7_copies : GoodIn wsX7_tries wsX7_copies := goodIn_r _ [6, 1, 65, 66, 67, 68, 69, 70, 71, 72, 73, 74, 75] (by decide +kernel) (by decide +kernel)
set_option maxRecDepth 20000 in
theorem gX7_tries_X7_copies : GoodIn wsX7_tries (wsV RX7 27 RX7 yX7_copies wsX7_copies) := goodIn_app (goodIn_of _ (by decide +kernel)) ggX7_tries_X7_copies
set_option maxRecDepth 20000 in
theorem ggX7_tries_X7_ticks : GoodIn wsX7_tries wsX7_ticks := goodIn_r _ [10, 1, 11, 12, 13, 5, 14, 15, 16, 17, 18, 19, 20, 21, 22, 23, 24, 25, 26, 27, 28, 29, 30, 31, 32, 33, 34, 35, 36, 37, 38, 39, 40, 41, 42, 43, 44, 45, 46, 47, 48, 49, 50, 51, 52, 53, 2, 3, 4, 6, 54, 55, 56, 57, 58, 59, 60, 61, 62, 63, 64, 65, 66, 67, 68, 69, 70, 71, 72, 73, 74, 75] (by decide +kernel) (by decide +kernel)
set_option maxRecDepth 20000 in
theorem gX7_tries_X7_ticks : GoodIn wsX7_tries (wsV RX7 83 RX7 yX7_ticks wsX7_ticks) := goodIn_app (goodIn_of _ (by decide +kernel)) ggX7_tries_X7_ticks
theorem dX7_tries_0 : decode cX7_tries 0 = .ok (.aload_n 0, 1) := by decide +kernel
theorem dX7_tries_1 : decode cX7_tries 1 = .ok (.iconst 0, 1) := by decide +kernel
theorem dX7_tries_2 : decode cX7_tries 2 = .ok (.bipush 6, 2) := by decide +kernel
theorem dX7_tries_4 : decode cX7_tries 4 = .ok (.invokevirtual 27, 3) := by decide +kernel
theorem dX7_tries_7 : decode cX7_tries 7 = .ok (.aload_n 0, 1) := by decide +kernel
theorem dX7_tries_8 : decode cX7_tries 8 = .ok (.getfield 7, 3) := by decide +kernel
theorem dX7_tries_11 : decode cX7_tries 11 = .ok (.sipush 276, 3) := by decide +kernel
theorem dX7_tries_14 : decode cX7_tries 14 = .ok (.iload_n 1, 1) := by decide +kernel
theorem dX7_tries_15 : decode cX7_tries 15 = .ok (.iastore, 1) := by decide +kernel
theorem dX7_tries_16 : decode cX7_tries 16 = .ok (.aload_n 0, 1) := by decide +kernel
theorem dX7_tries_17 : decode cX7_tries 17 = .ok (.getfield 7, 3) := by decide +kernel
theorem dX7_tries_20 : decode cX7_tries 20 = .ok (.sipush 277, 3) := by decide +kernel
theorem dX7_tries_23 : decode cX7_tries 23 = .ok (.iload_n 2, 1) := by decide +kernel
theorem dX7_tries_24 : decode cX7_tries 24 = .ok (.iastore, 1) := by decide +kernel
theorem dX7_tries_25 : decode cX7_tries 25 = .ok (.aload_n 0, 1) := by decide +kernel
theorem dX7_tries_26 : decode cX7_tries 26 = .ok (.bipush 6, 2) := by decide +kernel
theorem dX7_tries_28 : decode cX7_tries 28 = .ok (.iload_n 3, 1) := by decide +kernel
theorem dX7_tries_29 : decode cX7_tries 29 = .ok (.invokevirtual 83, 3) := by decide +kernel
theorem dX7_tries_32 : decode cX7_tries 32 = .ok (.return_, 1) := by decide +kernel
theorem dX7_more_0 : decode cX7_more 0 = .ok (.aload_n 0, 1) := by decide +kernel
theorem dX7_more_1 : decode cX7_more 1 = .ok (.getfield 7, 3) := by decide +kernel
theorem dX7_more_4 : decode cX7_more 4 = .ok (.sipush 276, 3) := by decide +kernel
theorem dX7_more_7 : decode cX7_more 7 = .ok (.iload_n 1, 1) := by decide +kernel
theorem dX7_more_8 : decode cX7_more 8 = .ok (.iadd, 1) := by decide +kernel
theorem dX7_more_9 : decode cX7_more 9 = .ok (.iaload, 1) := by decide +kernel
theorem dX7_more_10 : decode cX7_more 10 = .ok (.aload_n 0, 1) := by decide +kernel
theorem dX7_more_11 : decode cX7_more 11 = .ok (.getfield 7, 3) := by decide +kernel
theorem dX7_more_14 : decode cX7_more 14 = .ok (.iload_n 1, 1) := by decide +kernel
theorem dX7_more_15 : decode cX7_more 15 = .ok (.iaload, 1) := by decide +kernel
theorem dX7_more_16 : decode cX7_more 16 = .ok (.isub, 1) := by decide +kernel
theorem dX7_more_17 : decode cX7_more 17 = .ok (.ireturn, 1) := by decide +kernel
set_option maxRecDepth 20000 in
theorem ggX7_ifFires_X7_in : GoodIn wsX7_ifFires wsX7_in := goodIn_r _ [4] (by decide +kernel) (by decide +kernel)
set_option maxRecDepth 20000 in
theorem gX7_ifFires_X7_in : GoodIn wsX7_ifFires (va_wsS RX7 78 yX7_in wsX7_in) := goodIn_app (goodIn_of _ (by decide +kernel)) ggX7_ifFires_X7_in
set_option maxRecDepth 20000 in
theorem ggX7_ifFires_X7_tries : GoodIn wsX7_ifFires wsX7_tries := goodIn_r _ [8, 9, 10, 11, 12, 3, 13, 14, 15, 16, 17, 18, 19, 20, 21, 22, 23, 24, 25, 26, 27, 28, 29, 30, 31, 32, 33, 34, 35, 36, 37, 38, 39, 40, 41, 42, 43, 44, 45, 46, 47, 48, 49, 50, 51, 52, 53, 54, 55, 56, 57, 58, 59, 60, 61, 62, 63, 64, 65, 66, 67, 68, 69, 70, 71, 76, 77, 78, 79, 80, 81, 82, 83, 84, 85, 86] (by decide +kernel) (by decide +kernel)
set_option maxRecDepth 20000 in
theorem gX7_ifFires_X7_tries : GoodIn wsX7_ifFires (wsV RX7 150 RX7 yX7_tries wsX7_tries) := goodIn_app (goodIn_of _ (by decide +kernel)) ggX7_ifFires_X7_tries
set_option maxRecDepth 20000 in
theorem ggX7_ifFires_X7_more : GoodIn wsX7_ifFires wsX7_more := goodIn_r _ [75, 9, 76, 77, 78, 79, 80, 81, 82, 83, 84, 85, 86] (by decide +kernel) (by decide +kernel)
set_option maxRecDepth 20000 in
theorem gX7_ifFires_X7_more : GoodIn wsX7_ifFires (wsV RX7 153 RX7 yX7_more wsX7_more) := goodIn_app (goodIn_of _ (by decide +kernel)) ggX7_ifFires_X7_more
theorem dX7_ifFires_0 : decode cX7_ifFires 0 = .ok (.iload_n 1, 1) := by decide +kernel
theorem dX7_ifFires_1 : decode cX7_ifFires 1 = .ok (.iconst 0, 1) := by decide +kernel
theorem dX7_ifFires_2 : decode cX7_ifFires 2 = .ok (.iconst 5, 1) := by decide +kernel
theorem dX7_ifFires_3 : decode cX7_ifFires 3 = .ok (.invokestatic 78, 3) := by decide +kernel
theorem dX7_ifFires_6 : decode cX7_ifFires 6 = .ok (.ifCond .eq 33, 3) := by decide +kernel
theorem dX7_ifFires_9 : decode cX7_ifFires 9 = .ok (.iload_n 2, 1) := by decide +kernel
theorem dX7_ifFires_10 : decode cX7_ifFires 10 = .ok (.iconst 0, 1) := by decide +kernel
theorem dX7_ifFires_11 : decode cX7_ifFires 11 = .ok (.iconst 5, 1) := by decide +kernel
theorem dX7_ifFires_12 : decode cX7_ifFires 12 = .ok (.invokestatic 78, 3) := by decide +kernel
theorem dX7_ifFires_15 : decode cX7_ifFires 15 = .ok (.ifCond .eq 24, 3) := by decide +kernel
theorem dX7_ifFires_18 : decode cX7_ifFires 18 = .ok (.iload_n 3, 1) := by decide +kernel
theorem dX7_ifFires_19 : decode cX7_ifFires 19 = .ok (.iconst 1, 1) := by decide +kernel
theorem dX7_ifFires_20 : decode cX7_ifFires 20 = .ok (.sipush 200, 3) := by decide +kernel
theorem dX7_ifFires_23 : decode cX7_ifFires 23 = .ok (.invokestatic 78, 3) := by decide +kernel
theorem dX7_ifFires_26 : decode cX7_ifFires 26 = .ok (.ifCond .eq 13, 3) := by decide +kernel
theorem dX7_ifFires_29 : decode cX7_ifFires 29 = .ok (.iload 4, 2) := by decide +kernel
theorem dX7_ifFires_31 : decode cX7_ifFires 31 = .ok (.iconst 0, 1) := by decide +kernel
theorem dX7_ifFires_32 : decode cX7_ifFires 32 = .ok (.iconst 3, 1) := by decide +kernel
theorem dX7_ifFires_33 : decode cX7_ifFires 33 = .ok (.invokestatic 78, 3) := by decide +kernel
theorem dX7_ifFires_36 : decode cX7_ifFires 36 = .ok (.ifCond .ne 6, 3) := by decide +kernel
theorem dX7_ifFires_39 : decode cX7_ifFires 39 = .ok (.bipush (-2), 2) := by decide +kernel
theorem dX7_ifFires_41 : decode cX7_ifFires 41 = .ok (.ireturn, 1) := by decide +kernel
theorem dX7_ifFires_42 : decode cX7_ifFires 42 = .ok (.aload_n 0, 1) := by decide +kernel
theorem dX7_ifFires_43 : decode cX7_ifFires 43 = .ok (.iload_n 1, 1) := by decide +kernel
theorem dX7_ifFires_44 : decode cX7_ifFires 44 = .ok (.iload_n 2, 1) := by decide +kernel
theorem dX7_ifFires_45 : decode cX7_ifFires 45 = .ok (.iload_n 3, 1) := by decide +kernel
theorem dX7_ifFires_46 : decode cX7_ifFires 46 = .ok (.invokevirtual 150, 3) := by decide +kernel
theorem dX7_ifFires_49 : decode cX7_ifFires 49 = .ok (.iload 4, 2) := by decide +kernel
theorem dX7_ifFires_51 : decode cX7_ifFires 51 = .ok (.ifCond .ne 12, 3) := by decide +kernel
theorem dX7_ifFires_54 : decode cX7_ifFires 54 = .ok (.aload_n 0, 1) := by decide +kernel
theorem dX7_ifFires_55 : decode cX7_ifFires 55 = .ok (.bipush 41, 2) := by decide +kernel
theorem dX7_ifFires_57 : decode cX7_ifFires 57 = .ok (.invokevirtual 153, 3) := by decide +kernel
theorem dX7_ifFires_60 : decode cX7_ifFires 60 = .ok (.goto 46, 3) := by decide +kernel
theorem dX7_ifFires_63 : decode cX7_ifFires 63 = .ok (.iload 4, 2) := by decide +kernel
theorem dX7_ifFires_65 : decode cX7_ifFires 65 = .ok (.iconst 1, 1) := by decide +kernel
theorem dX7_ifFires_66 : decode cX7_ifFires 66 = .ok (.if_icmp .ne 12, 3) := by decide +kernel
theorem dX7_ifFires_69 : decode cX7_ifFires 69 = .ok (.aload_n 0, 1) := by decide +kernel
theorem dX7_ifFires_70 : decode cX7_ifFires 70 = .ok (.bipush 42, 2) := by decide +kernel
theorem dX7_ifFires_72 : decode cX7_ifFires 72 = .ok (.invokevirtual 153, 3) := by decide +kernel
theorem dX7_ifFires_75 : decode cX7_ifFires 75 = .ok (.goto 31, 3) := by decide +kernel
theorem dX7_ifFires_78 : decode cX7_ifFires 78 = .ok (.iload 4, 2) := by decide +kernel
theorem dX7_ifFires_80 : decode cX7_ifFires 80 = .ok (.iconst 2, 1) := by decide +kernel
theorem dX7_ifFires_81 : decode cX7_ifFires 81 = .ok (.if_icmp .ne 12, 3) := by decide +kernel
theorem dX7_ifFires_84 : decode cX7_ifFires 84 = .ok (.aload_n 0, 1) := by decide +kernel
theorem dX7_ifFires_85 : decode cX7_ifFires 85 = .ok (.bipush 38, 2) := by decide +kernel
theorem dX7_ifFires_87 : decode cX7_ifFires 87 = .ok (.invokevirtual 153, 3) := by decide +kernel
theorem dX7_ifFires_90 : decode cX7_ifFires 90 = .ok (.goto 16, 3) := by decide +kernel
theorem dX7_ifFires_93 : decode cX7_ifFires 93 = .ok (.aload_n 0, 1) := by decide +kernel
theorem dX7_ifFires_94 : decode cX7_ifFires 94 = .ok (.bipush 8, 2) := by decide +kernel
theorem dX7_ifFires_96 : decode cX7_ifFires 96 = .ok (.invokevirtual 153, 3) := by decide +kernel
theorem dX7_ifFires_99 : decode cX7_ifFires 99 = .ok (.aload_n 0, 1) := by decide +kernel
theorem dX7_ifFires_100 : decode cX7_ifFires 100 = .ok (.bipush 9, 2) := by decide +kernel
theorem dX7_ifFires_102 : decode cX7_ifFires 102 = .ok (.invokevirtual 153, 3) := by decide +kernel
theorem dX7_ifFires_105 : decode cX7_ifFires 105 = .ok (.iadd, 1) := by decide +kernel
theorem dX7_ifFires_106 : decode cX7_ifFires 106 = .ok (.ireturn, 1) := by decide +kernel
set_option maxRecDepth 20000 in
theorem ggX7_bestFires_X7_in : GoodIn wsX7_bestFires wsX7_in := goodIn_r _ [4] (by decide +kernel) (by decide +kernel)
set_option maxRecDepth 20000 in
theorem gX7_bestFires_X7_in : GoodIn wsX7_bestFires (va_wsS RX7 78 yX7_in wsX7_in) := goodIn_app (goodIn_of _ (by decide +kernel)) ggX7_bestFires_X7_in
set_option maxRecDepth 20000 in
theorem ggX7_bestFires_X7_tries : GoodIn wsX7_bestFires wsX7_tries := goodIn_r _ [8, 9, 10, 11, 12, 3, 13, 14, 15, 16, 17, 18, 19, 20, 21, 22, 23, 24, 25, 26, 27, 28, 29, 30, 31, 32, 33, 34, 35, 36, 37, 38, 39, 40, 41, 42, 43, 44, 45, 46, 47, 48, 49, 50, 51, 52, 53, 54, 55, 56, 57, 58, 59, 60, 61, 62, 63, 64, 65, 66, 67, 68, 69, 70, 71, 76, 77, 78, 79, 80, 81, 82, 83, 84, 85, 86] (by decide +kernel) (by decide +kernel)
set_option maxRecDepth 20000 in
theorem gX7_bestFires_X7_tries : GoodIn wsX7_bestFires (wsV RX7 150 RX7 yX7_tries wsX7_tries) := goodIn_app (goodIn_of _ (by decide +kernel)) ggX7_bestFires_X7_tries
set_option maxRecDepth 20000 in
theorem ggX7_bestFires_X7_more : GoodIn wsX7_bestFires wsX7_more := goodIn_r _ [75, 9, 76, 77, 78, 79, 80, 81, 82, 83, 84, 85, 86] (by decide +kernel) (by decide +kernel)
set_option maxRecDepth 20000 in
theorem gX7_bestFires_X7_more : GoodIn wsX7_bestFires (wsV RX7 153 RX7 yX7_more wsX7_more) := goodIn_app (goodIn_of _ (by decide +kernel)) ggX7_bestFires_X7_more
theorem dX7_bestFires_0 : decode cX7_bestFires 0 = .ok (.iload_n 1, 1) := by decide +kernel
theorem dX7_bestFires_1 : decode cX7_bestFires 1 = .ok (.iconst 1, 1) := by decide +kernel
theorem dX7_bestFires_2 : decode cX7_bestFires 2 = .ok (.bipush 100, 2) := by decide +kernel
theorem dX7_bestFires_4 : decode cX7_bestFires 4 = .ok (.invokestatic 78, 3) := by decide +kernel
theorem dX7_bestFires_7 : decode cX7_bestFires 7 = .ok (.ifCond .ne 6, 3) := by decide +kernel
theorem dX7_bestFires_10 : decode cX7_bestFires 10 = .ok (.bipush (-2), 2) := by decide +kernel
theorem dX7_bestFires_12 : decode cX7_bestFires 12 = .ok (.ireturn, 1) := by decide +kernel
theorem dX7_bestFires_13 : decode cX7_bestFires 13 = .ok (.iconst 0, 1) := by decide +kernel
theorem dX7_bestFires_14 : decode cX7_bestFires 14 = .ok (.istore_n 2, 1) := by decide +kernel
theorem dX7_bestFires_15 : decode cX7_bestFires 15 = .ok (.iconst (-1), 1) := by decide +kernel
theorem dX7_bestFires_16 : decode cX7_bestFires 16 = .ok (.istore_n 3, 1) := by decide +kernel
theorem dX7_bestFires_17 : decode cX7_bestFires 17 = .ok (.iconst 0, 1) := by decide +kernel
theorem dX7_bestFires_18 : decode cX7_bestFires 18 = .ok (.istore 4, 2) := by decide +kernel
theorem dX7_bestFires_20 : decode cX7_bestFires 20 = .ok (.iconst 0, 1) := by decide +kernel
theorem dX7_bestFires_21 : decode cX7_bestFires 21 = .ok (.istore 5, 2) := by decide +kernel
theorem dX7_bestFires_23 : decode cX7_bestFires 23 = .ok (.iload 5, 2) := by decide +kernel
theorem dX7_bestFires_25 : decode cX7_bestFires 25 = .ok (.bipush 36, 2) := by decide +kernel
theorem dX7_bestFires_27 : decode cX7_bestFires 27 = .ok (.if_icmp .ge 81, 3) := by decide +kernel
theorem dX7_bestFires_30 : decode cX7_bestFires 30 = .ok (.aload_n 0, 1) := by decide +kernel
theorem dX7_bestFires_31 : decode cX7_bestFires 31 = .ok (.iload 5, 2) := by decide +kernel
theorem dX7_bestFires_33 : decode cX7_bestFires 33 = .ok (.bipush 6, 2) := by decide +kernel
theorem dX7_bestFires_35 : decode cX7_bestFires 35 = .ok (.idiv, 1) := by decide +kernel
theorem dX7_bestFires_36 : decode cX7_bestFires 36 = .ok (.iload 5, 2) := by decide +kernel
theorem dX7_bestFires_38 : decode cX7_bestFires 38 = .ok (.bipush 6, 2) := by decide +kernel
theorem dX7_bestFires_40 : decode cX7_bestFires 40 = .ok (.irem, 1) := by decide +kernel
theorem dX7_bestFires_41 : decode cX7_bestFires 41 = .ok (.iload_n 1, 1) := by decide +kernel
theorem dX7_bestFires_42 : decode cX7_bestFires 42 = .ok (.invokevirtual 150, 3) := by decide +kernel
theorem dX7_bestFires_45 : decode cX7_bestFires 45 = .ok (.aload_n 0, 1) := by decide +kernel
theorem dX7_bestFires_46 : decode cX7_bestFires 46 = .ok (.bipush 41, 2) := by decide +kernel
theorem dX7_bestFires_48 : decode cX7_bestFires 48 = .ok (.invokevirtual 153, 3) := by decide +kernel
theorem dX7_bestFires_51 : decode cX7_bestFires 51 = .ok (.istore 6, 2) := by decide +kernel
theorem dX7_bestFires_53 : decode cX7_bestFires 53 = .ok (.aload_n 0, 1) := by decide +kernel
theorem dX7_bestFires_54 : decode cX7_bestFires 54 = .ok (.bipush 38, 2) := by decide +kernel
theorem dX7_bestFires_56 : decode cX7_bestFires 56 = .ok (.invokevirtual 153, 3) := by decide +kernel
theorem dX7_bestFires_59 : decode cX7_bestFires 59 = .ok (.istore 7, 2) := by decide +kernel
theorem dX7_bestFires_61 : decode cX7_bestFires 61 = .ok (.iload 6, 2) := by decide +kernel
theorem dX7_bestFires_63 : decode cX7_bestFires 63 = .ok (.iload_n 3, 1) := by decide +kernel
theorem dX7_bestFires_64 : decode cX7_bestFires 64 = .ok (.if_icmp .gt 16, 3) := by decide +kernel
theorem dX7_bestFires_67 : decode cX7_bestFires 67 = .ok (.iload 6, 2) := by decide +kernel
theorem dX7_bestFires_69 : decode cX7_bestFires 69 = .ok (.iload_n 3, 1) := by decide +kernel
theorem dX7_bestFires_70 : decode cX7_bestFires 70 = .ok (.if_icmp .ne 32, 3) := by decide +kernel
theorem dX7_bestFires_73 : decode cX7_bestFires 73 = .ok (.iload 7, 2) := by decide +kernel
theorem dX7_bestFires_75 : decode cX7_bestFires 75 = .ok (.iload 4, 2) := by decide +kernel
theorem dX7_bestFires_77 : decode cX7_bestFires 77 = .ok (.if_icmp .ge 25, 3) := by decide +kernel
theorem dX7_bestFires_80 : decode cX7_bestFires 80 = .ok (.bipush 10, 2) := by decide +kernel
theorem dX7_bestFires_82 : decode cX7_bestFires 82 = .ok (.iload 5, 2) := by decide +kernel
theorem dX7_bestFires_84 : decode cX7_bestFires 84 = .ok (.bipush 6, 2) := by decide +kernel
theorem dX7_bestFires_86 : decode cX7_bestFires 86 = .ok (.idiv, 1) := by decide +kernel
theorem dX7_bestFires_87 : decode cX7_bestFires 87 = .ok (.imul, 1) := by decide +kernel
theorem dX7_bestFires_88 : decode cX7_bestFires 88 = .ok (.iload 5, 2) := by decide +kernel
theorem dX7_bestFires_90 : decode cX7_bestFires 90 = .ok (.bipush 6, 2) := by decide +kernel
theorem dX7_bestFires_92 : decode cX7_bestFires 92 = .ok (.irem, 1) := by decide +kernel
theorem dX7_bestFires_93 : decode cX7_bestFires 93 = .ok (.iadd, 1) := by decide +kernel
theorem dX7_bestFires_94 : decode cX7_bestFires 94 = .ok (.istore_n 2, 1) := by decide +kernel
theorem dX7_bestFires_95 : decode cX7_bestFires 95 = .ok (.iload 6, 2) := by decide +kernel
theorem dX7_bestFires_97 : decode cX7_bestFires 97 = .ok (.istore_n 3, 1) := by decide +kernel
theorem dX7_bestFires_98 : decode cX7_bestFires 98 = .ok (.iload 7, 2) := by decide +kernel
theorem dX7_bestFires_100 : decode cX7_bestFires 100 = .ok (.istore 4, 2) := by decide +kernel
theorem dX7_bestFires_102 : decode cX7_bestFires 102 = .ok (.iinc 5 1, 3) := by decide +kernel
theorem dX7_bestFires_105 : decode cX7_bestFires 105 = .ok (.goto (-82), 3) := by decide +kernel
theorem dX7_bestFires_108 : decode cX7_bestFires 108 = .ok (.iload_n 2, 1) := by decide +kernel
theorem dX7_bestFires_109 : decode cX7_bestFires 109 = .ok (.ireturn, 1) := by decide +kernel
theorem dX7_loaded_0 : decode cX7_loaded 0 = .ok (.iconst 0, 1) := by decide +kernel
theorem dX7_loaded_1 : decode cX7_loaded 1 = .ok (.istore_n 1, 1) := by decide +kernel
theorem dX7_loaded_2 : decode cX7_loaded 2 = .ok (.iconst 0, 1) := by decide +kernel
theorem dX7_loaded_3 : decode cX7_loaded 3 = .ok (.istore_n 2, 1) := by decide +kernel
theorem dX7_loaded_4 : decode cX7_loaded 4 = .ok (.iload_n 2, 1) := by decide +kernel
theorem dX7_loaded_5 : decode cX7_loaded 5 = .ok (.iconst 4, 1) := by decide +kernel
theorem dX7_loaded_6 : decode cX7_loaded 6 = .ok (.if_icmp .ge 29, 3) := by decide +kernel
theorem dX7_loaded_9 : decode cX7_loaded 9 = .ok (.iload_n 1, 1) := by decide +kernel
theorem dX7_loaded_10 : decode cX7_loaded 10 = .ok (.aload_n 0, 1) := by decide +kernel
theorem dX7_loaded_11 : decode cX7_loaded 11 = .ok (.getfield 7, 3) := by decide +kernel
theorem dX7_loaded_14 : decode cX7_loaded 14 = .ok (.bipush 13, 2) := by decide +kernel
theorem dX7_loaded_16 : decode cX7_loaded 16 = .ok (.iload_n 2, 1) := by decide +kernel
theorem dX7_loaded_17 : decode cX7_loaded 17 = .ok (.iadd, 1) := by decide +kernel
theorem dX7_loaded_18 : decode cX7_loaded 18 = .ok (.iaload, 1) := by decide +kernel
theorem dX7_loaded_19 : decode cX7_loaded 19 = .ok (.ifCond .ge 7, 3) := by decide +kernel
theorem dX7_loaded_22 : decode cX7_loaded 22 = .ok (.iconst 0, 1) := by decide +kernel
theorem dX7_loaded_23 : decode cX7_loaded 23 = .ok (.goto 4, 3) := by decide +kernel
theorem dX7_loaded_26 : decode cX7_loaded 26 = .ok (.iconst 1, 1) := by decide +kernel
theorem dX7_loaded_27 : decode cX7_loaded 27 = .ok (.iadd, 1) := by decide +kernel
theorem dX7_loaded_28 : decode cX7_loaded 28 = .ok (.istore_n 1, 1) := by decide +kernel
theorem dX7_loaded_29 : decode cX7_loaded 29 = .ok (.iinc 2 1, 3) := by decide +kernel
end
section
theorem dX7_loaded_32 : decode cX7_loaded 32 = .ok (.goto (-28), 3) := by decide +kernel
theorem dX7_loaded_35 : decode cX7_loaded 35 = .ok (.iload_n 1, 1) := by decide +kernel
theorem dX7_loaded_36 : decode cX7_loaded 36 = .ok (.ireturn, 1) := by decide +kernel
set_option maxRecDepth 20000 in
theorem ggX7_count_X7_loaded : GoodIn wsX7_count wsX7_loaded := goodIn_r _ [8, 1, 13, 14, 15, 16, 17, 18, 19, 20, 21, 22, 23] (by decide +kernel) (by decide +kernel)
set_option maxRecDepth 20000 in
theorem gX7_count_X7_loaded : GoodIn wsX7_count (wsV RX7 156 RX7 yX7_loaded wsX7_loaded) := goodIn_app (goodIn_of _ (by decide +kernel)) ggX7_count_X7_loaded
set_option maxRecDepth 20000 in
theorem ggX7_count_X7_pressure : GoodIn wsX7_count wsX7_pressure := goodIn_r _ [12, 1, 13, 14, 15, 16, 17, 18, 19, 20, 21, 22, 23] (by decide +kernel) (by decide +kernel)
set_option maxRecDepth 20000 in
theorem gX7_count_X7_pressure : GoodIn wsX7_count (wsV RX7 41 RX7 yX7_pressure wsX7_pressure) := goodIn_app (goodIn_of _ (by decide +kernel)) ggX7_count_X7_pressure
theorem dX7_count_0 : decode cX7_count 0 = .ok (.iload_n 1, 1) := by decide +kernel
theorem dX7_count_1 : decode cX7_count 1 = .ok (.tableswitch 169 0 15 #[79, 87, 95, 103, 111, 119, 124, 132, 132, 132, 132, 132, 145, 151, 159, 164], 79) := by decide +kernel
theorem dX7_count_80 : decode cX7_count 80 = .ok (.aload_n 0, 1) := by decide +kernel
theorem dX7_count_81 : decode cX7_count 81 = .ok (.getfield 7, 3) := by decide +kernel
theorem dX7_count_84 : decode cX7_count 84 = .ok (.bipush 12, 2) := by decide +kernel
theorem dX7_count_86 : decode cX7_count 86 = .ok (.iaload, 1) := by decide +kernel
theorem dX7_count_87 : decode cX7_count 87 = .ok (.ireturn, 1) := by decide +kernel
theorem dX7_count_88 : decode cX7_count 88 = .ok (.aload_n 0, 1) := by decide +kernel
theorem dX7_count_89 : decode cX7_count 89 = .ok (.getfield 7, 3) := by decide +kernel
theorem dX7_count_92 : decode cX7_count 92 = .ok (.bipush 10, 2) := by decide +kernel
theorem dX7_count_94 : decode cX7_count 94 = .ok (.iaload, 1) := by decide +kernel
theorem dX7_count_95 : decode cX7_count 95 = .ok (.ireturn, 1) := by decide +kernel
theorem dX7_count_96 : decode cX7_count 96 = .ok (.aload_n 0, 1) := by decide +kernel
theorem dX7_count_97 : decode cX7_count 97 = .ok (.getfield 7, 3) := by decide +kernel
theorem dX7_count_100 : decode cX7_count 100 = .ok (.bipush 38, 2) := by decide +kernel
theorem dX7_count_102 : decode cX7_count 102 = .ok (.iaload, 1) := by decide +kernel
theorem dX7_count_103 : decode cX7_count 103 = .ok (.ireturn, 1) := by decide +kernel
theorem dX7_count_104 : decode cX7_count 104 = .ok (.aload_n 0, 1) := by decide +kernel
theorem dX7_count_105 : decode cX7_count 105 = .ok (.getfield 7, 3) := by decide +kernel
theorem dX7_count_108 : decode cX7_count 108 = .ok (.bipush 39, 2) := by decide +kernel
theorem dX7_count_110 : decode cX7_count 110 = .ok (.iaload, 1) := by decide +kernel
theorem dX7_count_111 : decode cX7_count 111 = .ok (.ireturn, 1) := by decide +kernel
theorem dX7_count_112 : decode cX7_count 112 = .ok (.aload_n 0, 1) := by decide +kernel
theorem dX7_count_113 : decode cX7_count 113 = .ok (.getfield 7, 3) := by decide +kernel
theorem dX7_count_116 : decode cX7_count 116 = .ok (.bipush 11, 2) := by decide +kernel
theorem dX7_count_118 : decode cX7_count 118 = .ok (.iaload, 1) := by decide +kernel
theorem dX7_count_119 : decode cX7_count 119 = .ok (.ireturn, 1) := by decide +kernel
theorem dX7_count_120 : decode cX7_count 120 = .ok (.aload_n 0, 1) := by decide +kernel
theorem dX7_count_121 : decode cX7_count 121 = .ok (.invokevirtual 156, 3) := by decide +kernel
theorem dX7_count_124 : decode cX7_count 124 = .ok (.ireturn, 1) := by decide +kernel
theorem dX7_count_125 : decode cX7_count 125 = .ok (.aload_n 0, 1) := by decide +kernel
theorem dX7_count_126 : decode cX7_count 126 = .ok (.getfield 7, 3) := by decide +kernel
theorem dX7_count_129 : decode cX7_count 129 = .ok (.bipush 25, 2) := by decide +kernel
theorem dX7_count_131 : decode cX7_count 131 = .ok (.iaload, 1) := by decide +kernel
theorem dX7_count_132 : decode cX7_count 132 = .ok (.ireturn, 1) := by decide +kernel
theorem dX7_count_133 : decode cX7_count 133 = .ok (.aload_n 0, 1) := by decide +kernel
theorem dX7_count_134 : decode cX7_count 134 = .ok (.getfield 7, 3) := by decide +kernel
theorem dX7_count_137 : decode cX7_count 137 = .ok (.bipush 40, 2) := by decide +kernel
theorem dX7_count_139 : decode cX7_count 139 = .ok (.iload_n 1, 1) := by decide +kernel
theorem dX7_count_140 : decode cX7_count 140 = .ok (.iadd, 1) := by decide +kernel
theorem dX7_count_141 : decode cX7_count 141 = .ok (.bipush 7, 2) := by decide +kernel
theorem dX7_count_143 : decode cX7_count 143 = .ok (.isub, 1) := by decide +kernel
theorem dX7_count_144 : decode cX7_count 144 = .ok (.iaload, 1) := by decide +kernel
theorem dX7_count_145 : decode cX7_count 145 = .ok (.ireturn, 1) := by decide +kernel
theorem dX7_count_146 : decode cX7_count 146 = .ok (.aload_n 0, 1) := by decide +kernel
theorem dX7_count_147 : decode cX7_count 147 = .ok (.iconst 0, 1) := by decide +kernel
theorem dX7_count_148 : decode cX7_count 148 = .ok (.invokevirtual 41, 3) := by decide +kernel
theorem dX7_count_151 : decode cX7_count 151 = .ok (.ireturn, 1) := by decide +kernel
theorem dX7_count_152 : decode cX7_count 152 = .ok (.aload_n 0, 1) := by decide +kernel
theorem dX7_count_153 : decode cX7_count 153 = .ok (.getfield 7, 3) := by decide +kernel
theorem dX7_count_156 : decode cX7_count 156 = .ok (.bipush 45, 2) := by decide +kernel
theorem dX7_count_158 : decode cX7_count 158 = .ok (.iaload, 1) := by decide +kernel
theorem dX7_count_159 : decode cX7_count 159 = .ok (.ireturn, 1) := by decide +kernel
theorem dX7_count_160 : decode cX7_count 160 = .ok (.aload_n 0, 1) := by decide +kernel
theorem dX7_count_161 : decode cX7_count 161 = .ok (.getfield 24, 3) := by decide +kernel
theorem dX7_count_164 : decode cX7_count 164 = .ok (.ireturn, 1) := by decide +kernel
theorem dX7_count_165 : decode cX7_count 165 = .ok (.aload_n 0, 1) := by decide +kernel
theorem dX7_count_166 : decode cX7_count 166 = .ok (.getfield 114, 3) := by decide +kernel
theorem dX7_count_169 : decode cX7_count 169 = .ok (.ireturn, 1) := by decide +kernel
theorem dX7_count_170 : decode cX7_count 170 = .ok (.bipush (-2), 2) := by decide +kernel
theorem dX7_count_172 : decode cX7_count 172 = .ok (.ireturn, 1) := by decide +kernel
theorem dJ9_min_7cf53_0 : decode cJ9_min_7cf53 0 = .ok (.iload_n 0, 1) := by decide +kernel
theorem dJ9_min_7cf53_1 : decode cJ9_min_7cf53 1 = .ok (.iload_n 1, 1) := by decide +kernel
theorem dJ9_min_7cf53_2 : decode cJ9_min_7cf53 2 = .ok (.if_icmp .gt 7, 3) := by decide +kernel
theorem dJ9_min_7cf53_5 : decode cJ9_min_7cf53 5 = .ok (.iload_n 0, 1) := by decide +kernel
theorem dJ9_min_7cf53_6 : decode cJ9_min_7cf53 6 = .ok (.goto 4, 3) := by decide +kernel
theorem dJ9_min_7cf53_9 : decode cJ9_min_7cf53 9 = .ok (.iload_n 1, 1) := by decide +kernel
theorem dJ9_min_7cf53_10 : decode cJ9_min_7cf53 10 = .ok (.ireturn, 1) := by decide +kernel
abbrev vwCl : List vw_C := [(RX0, TX0, 5), (RX1, TX1, 2), (RX2, TX2, 14), (RX3, TX3, 3), (RX4, TX4, 6), (RX5, TX5, 2), (RX6, TX6, 10), (RX7, TX7, 11)]
/-! ===== END printed: names ===== -/
end
section
/-! own rows: worlds with a fixed list of array types, calls that put the callee's cells back in place -/
abbrev GG : Type := va_G × (Nat → Nat)
abbrev TYG (G : GG) : List (ClassId × FieldType) := [(G.2 0, .int), (G.2 1, .char), (G.2 2, .object "SteamRations$Boiler"), (G.2 3, .object "SteamRations$Machine"), (G.2 4, .object "SteamRations$Laundry")]
def NWs (U : State) : Prop := va_Nw (.methodLinkNest RX2 100 yX6_isWithin RX6) U ∧ va_Nw (.methodLinkNest RX3 21 yX6_ticksOf RX6) U ∧ va_Nw (.methodLinkNest RX2 155 yX6_ticksOf RX6) U ∧ va_Nw (.methodLinkNest RX2 188 yX6_steamOf RX6) U ∧ va_Nw (.methodLinkNest RX2 191 yX6_worthOf RX6) U ∧ va_Nw (.methodLinkNest RX4 57 yX6_isWithin RX6) U
theorem NWs.warm {s U : State} (hW : s.WarmedH U.vm) (h : NWs s) : NWs U := ⟨h.1.warmM hW, h.2.1.warmM hW, h.2.2.1.warmM hW, h.2.2.2.1.warmM hW, h.2.2.2.2.1.warmM hW, h.2.2.2.2.2.warmM hW⟩
theorem NWs.same {u U : State} (e : u.vm = U.vm) (h : NWs u) : NWs U := ⟨h.1.same rfl e, h.2.1.same rfl e, h.2.2.1.same rfl e, h.2.2.2.1.same rfl e, h.2.2.2.2.1.same rfl e, h.2.2.2.2.2.same rfl e⟩
def KN (G : GG) (U : State) : Prop := va_K G.1 vwCl (TYG G) U ∧ NWs U
theorem KN.warm {G : GG} {s U : State} (hW : s.WarmedH U.vm) (h : KN G s) : KN G U := ⟨va_K.moved hW.alike h.1, h.2.warm hW⟩
theorem KN.same {G : GG} {u U : State} (e : u.vm = U.vm) (h : KN G u) : KN G U := ⟨va_K.moved (by rw [e]; exact Vm.Alike.refl _) h.1, h.2.same e⟩
/-- a method's start: its words apart, the cells ws, at heap size sz -/
def Pre (G : GG) (av : List Value) (ws : va_W) (sz : Nat) : Array Value → State → Prop := va_Pc av (fun U => U.heap.size = sz ∧ va_P G.1 vwCl ws U.heap ∧ KN G U ∧ va_D (fun _ => True) ws)
def PI (G : GG) (A : Nat → Prop) {S : Type} (post : Int32 → S → Prop) (cs : S → va_W) : Array Value → State → Outcome → State → Prop := va_Qi post (fun u t => va_P G.1 vwCl (cs u) t.heap ∧ va_D A (cs u)) A
def PV (G : GG) (A : Nat → Prop) {S : Type} (post : S → Prop) (cs : S → va_W) : Array Value → State → Outcome → State → Prop := va_Qv post (fun u t => va_P G.1 vwCl (cs u) t.heap ∧ va_D A (cs u)) A
def PQ (G : GG) (A : Nat → Prop) {S : Type} (post : Option Nat → S → Prop) (cs : S → va_W) : Array Value → State → Outcome → State → Prop := va_Qq post (fun u t => va_P G.1 vwCl (cs u) t.heap ∧ va_D A (cs u)) A
theorem Pre.blind {G : GG} {av : List Value} {ws : va_W} {sz : Nat} : FrameBlind (Pre G av ws sz) := by
  intro a U g mk q
  obtain ⟨q0, q1, qP, qK, qD⟩ := q
  exact ⟨q0, q1, qP, KN.same (u := U) (U := U.calling g mk a) rfl qK, qD⟩
/-- what a method's walk stands on -/
def Cx (p : Program) (s : State) (m : MethodId) (args : Array Value) (meth : Method) (c : Code) (cc : ByteArray) (nL : Nat) (Ts : List Cond) (own : String) (ret : Option FieldType) : Prop :=
  p.tables.exec = Jvm.exec ∧ c.code = cc ∧ meth.sig.returnType = ret ∧ c.maxLocals = nL ∧ s.vm.findClass own = some m.cls ∧ (∀ w ∈ Ts, w.before args s = true) ∧ meth.locks = false
theorem Met.walk {l : Launch} {y : MethodName} {wsy ws' : List Cond} {rm : Room} {G : GG} {av : List Value} {ws : va_W} {sz : Nat} {cc : ByteArray} {maxL : Nat} {ret : Option FieldType} {mc ms : Nat} {Qc : (Nat → Prop) → Array Value → State → Outcome → State → Prop}
    (hy : plainName y.cls = true) (hw : wsy = Cond.code y cc maxL ret :: ws') (hlen : (lg_sl av).length ≤ maxL)
    (body : ∀ (p : Program) (e : Env) (s : State) (m : MethodId) (below : List Frame) (meth : Method) (c : Code) (A : Nat → Prop) (H : Heap), Cx p s m av.toArray meth c cc maxL wsy y.cls ret → (y.name = "<init>" → meth.name = "<init>") → KN G s → s.heap.size = sz → va_P G.1 vwCl ws H → va_D A ws → (∀ q : Nat, s.heap.size ≤ q → A q) → va_S A s.heap H [] → ∀ ls : Array Slot, lv_has ls maxL (lv_args 0 av) →
      W p l e rm s m av.toArray below meth c H [] 0 0 (MQ below (Qc A) av.toArray s mc ms A) (F0 m 0 ls [])) : Met l y wsy rm (Pre G av ws sz) (Qc (va_A ws sz)) mc ms (va_A ws sz) := by
  refine Met.ofW (cc := cc) (maxL := maxL) (ret := ret) hy hw ?_
  intro p e s m args below meth c s₁ B hml hv
  obtain ⟨rfl, hsz, hP, hK, hD0⟩ := hv
  have hts := atoms_spec (ws := wsy) B.pre
  have hD : va_D (va_A ws sz) ws := hD0.self (sz := sz)
  have hA : ∀ q : Nat, s.heap.size ≤ q → va_A ws sz q := fun q h => Or.inr (by rw [← hsz]; exact h)
  have hl := lv_entry av (n := maxL) hlen
  rw [lg_entry_eq]
  exact body p e s m below meth c (va_A ws sz) s.heap ⟨B.exec, B.bytes, B.returns, hml, findClass_of_methodNamed B.named, hts, B.notSynchronized⟩ (fun e1 => (name_of_methodNamed B.named B.method).1.trans e1) hK hsz hP hD hA va_S.rf _ hl
/-- cells put back at their places -/
def putb : va_W → List Nat → va_W → va_W
  | ws, [], _ => ws
  | ws, _ :: _, [] => ws
  | ws, i :: is, x :: xs => putb (ws.set i x) is xs
theorem putb_spec : ∀ (is : List Nat) (w1 ws : va_W), is.length = w1.length → va_nd is = true → (∀ i ∈ is, i < ws.length) → ∀ (k : Nat) (q : Nat × va_E), (putb ws is w1)[k]? = some q → (∃ j : Nat, is[j]? = some k ∧ w1[j]? = some q) ∨ (k ∉ is ∧ ws[k]? = some q)
  | [], w1, ws, _, _, _, k, q, h => Or.inr ⟨List.not_mem_nil, by simpa [putb] using h⟩
  | i :: is, [], ws, hl, _, _, k, q, h => by simp at hl
  | i :: is, x :: xs, ws, hl, hn, hr, k, q, h => by
    simp only [va_nd, Bool.and_eq_true, decide_eq_true_eq] at hn
    have h2 := putb_spec is xs (ws.set i x) (by simpa using hl) hn.2 (fun j hj => by rw [List.length_set]; exact hr j (List.mem_cons_of_mem _ hj)) k q h
    rcases h2 with ⟨j, h3, h4⟩ | ⟨h3, h4⟩
    · exact Or.inl ⟨j + 1, by simpa using h3, by simpa using h4⟩
    · by_cases hk : k = i
      · subst hk
        rw [List.getElem?_set_self (hr k List.mem_cons_self)] at h4
        exact Or.inl ⟨0, rfl, by simpa using h4⟩
      · rw [List.getElem?_set_ne (Ne.symm hk)] at h4
        exact Or.inr ⟨fun z => (List.mem_cons.mp z).elim hk h3, h4⟩
theorem va_back {A0 : Nat → Prop} {D : va_G} {cl : List vw_C} {ws wc w1 : va_W} {H H1 : Heap} (hP : va_P D cl ws H) (hD : va_D A0 ws) (isC : List Nat) (hC : isC.map (fun i => ws[i]?) = wc.map some) (hn : va_nd isC = true) (hlen : isC.length = w1.length)
    (hk : ∀ q : Nat, q < H.size → ¬ va_A wc H.size q → H1[q]? = H[q]?) (hF : ∀ q, va_A wc H.size q → A0 q) (hP1 : va_P D cl w1 H1) (hD1 : va_D (va_A wc H.size) w1) : va_P D cl (putb ws isC w1) H1 ∧ va_D A0 (putb ws isC w1) := by
  have hr : ∀ i ∈ isC, i < ws.length := by
    intro i hi
    obtain ⟨j, hj⟩ := List.getElem?_of_mem hi
    have h1 : (isC.map (fun i => ws[i]?))[j]? = some (ws[i]?) := by rw [List.getElem?_map, hj]; rfl
    rw [hC, List.getElem?_map] at h1
    cases hw : wc[j]? with
    | none => rw [hw] at h1; cases h1
    | some q =>
      rw [hw] at h1
      exact (List.getElem?_eq_some_iff.mp (Option.some.inj h1).symm).1
  have key := putb_spec isC w1 ws hlen hn hr
  have apart : ∀ (k : Nat) (q : Nat × va_E), k ∉ isC → ws[k]? = some q → q.1 < H.size ∧ ¬ va_A wc H.size q.1 := by
    intro k q hk2 hq
    have hl := (hP k q hq).lt
    refine ⟨hl, fun h => ?_⟩
    rcases h with ⟨k2, e, h⟩ | h
    · have h1 : (isC.map (fun i => ws[i]?))[k2]? = some (some (q.1, e)) := by rw [hC, List.getElem?_map, h]; rfl
      rw [List.getElem?_map] at h1
      cases hi : isC[k2]? with
      | none => rw [hi] at h1; cases h1
      | some j =>
        rw [hi] at h1
        have h4 : ws[j]? = some (q.1, e) := Option.some.inj h1
        have hij := hD.1 k j q (q.1, e) hq h4 rfl
        subst hij
        exact hk2 (List.mem_of_getElem? hi)
    · omega
  refine ⟨fun k q hq => ?_, fun i j x y hi hj hxy => ?_, fun k q hq => ?_⟩
  · rcases key k q hq with ⟨j, -, h2⟩ | ⟨h1, h2⟩
    · exact hP1 j q h2
    · obtain ⟨g1, g2⟩ := apart k q h1 h2
      exact (hP k q h2).kept (hk q.1 g1 g2)
  · rcases key i x hi with ⟨i1, a1, a2⟩ | ⟨a1, a2⟩ <;> rcases key j y hj with ⟨j1, b1, b2⟩ | ⟨b1, b2⟩
    · have e1 := hD1.1 i1 j1 x y a2 b2 hxy
      subst e1
      exact Option.some.inj (a1.symm.trans b1)
    · exact absurd (by rw [← hxy]; exact hD1.2 i1 x a2) (apart j y b1 b2).2
    · exact absurd (by rw [hxy]; exact hD1.2 j1 y b2) (apart i x a1 a2).2
    · exact hD.1 i j x y a2 b2 hxy
  · rcases key k q hq with ⟨j, -, h2⟩ | ⟨-, h2⟩
    · exact hF _ (hD1.2 j q h2)
    · exact hD.2 k q h2
theorem pre_ok {G : GG} {s : State} {H : Heap} {A : Nat → Prop} {wc : va_W} {av : List Value} (hK : KN G s) (hPc : va_P G.1 vwCl wc H) (hDc : va_D A wc) : ∀ U : State, U.heap = H → s.WarmedH U.vm → Pre G av wc H.size av.toArray U :=
  fun U hU hW => ⟨rfl, by rw [hU], by rw [hU]; exact hPc, hK.warm hW, hDc.weaken (fun _ _ _ _ => trivial)⟩
theorem sub_of {ws wc : va_W} {isC : List Nat} (h : isC.map (fun i => ws[i]?) = wc.map some) : isC.filterMap (fun i => ws[i]?) = wc := by
  have h1 : (isC.map (fun i => ws[i]?)).filterMap id = (wc.map some).filterMap id := by rw [h]
  rw [List.filterMap_map, List.filterMap_map] at h1
  simpa using h1
section OWN
variable {p : Program} {l : Launch} {e : Env} {R : Room} {s : State} {m : MethodId} {args : Array Value} {below : List Frame} {meth : Method} {c : Code} {H : Heap} {locs : List Loc} {cells slots : Nat} {Q : State → Prop}
variable {pc : Nat} {ls : Array Slot} {rest st0 : List Value} {a : Array Value} {A : Nat → Prop} {H0 : Heap} {mc ms : Nat} {G : GG} {ws wc : va_W}
theorem gcall_I {S : Type} {post : Int32 → S → Prop} {cs : S → va_W} (hr : va_Run p l e R s m args below meth c H locs cells slots mc ms (F0 m pc ls st0) rest (PI G (va_A wc H.size) post cs a) (va_A wc H.size)) (hP : va_P G.1 vwCl ws H) (hD : va_D A ws) (hS : va_S A H0 H locs) (hA : ∀ q, H0.size ≤ q → A q) (isC : List Nat) (hC : isC.map (fun i => ws[i]?) = wc.map some) (hn : va_nd isC = true) (hlen : ∀ u, isC.length = (cs u).length)
    (kk : ∀ (r : Int32) (u : S) (H1 : Heap) (locs1 : List Loc), post r u → va_P G.1 vwCl (putb ws isC (cs u)) H1 → va_D A (putb ws isC (cs u)) → va_S A H0 H1 locs1 → W p l e R s m args below meth c H1 locs1 (cells + mc) (slots + ms) Q (F0 m (pc + 3) ls (.int r :: rest))) : W p l e R s m args below meth c H locs cells slots Q (F0 m pc ls st0) := by
  have hF := va_free hD hS hA isC hC
  refine va_calli hr hS (fun q _ h => hF q h) hF (fun r u t H1 locs1 ht _ hw hB _ hk1 hS1 => ?_)
  obtain ⟨hP1, hD1⟩ := hB
  rw [ht] at hP1
  obtain ⟨g1, g2⟩ := va_back hP hD isC hC hn (hlen u) hk1 hF hP1 hD1
  exact kk r u H1 locs1 hw g1 g2 hS1
theorem gcall_V {S : Type} {post : S → Prop} {cs : S → va_W} (hr : va_Run p l e R s m args below meth c H locs cells slots mc ms (F0 m pc ls st0) rest (PV G (va_A wc H.size) post cs a) (va_A wc H.size)) (hP : va_P G.1 vwCl ws H) (hD : va_D A ws) (hS : va_S A H0 H locs) (hA : ∀ q, H0.size ≤ q → A q) (isC : List Nat) (hC : isC.map (fun i => ws[i]?) = wc.map some) (hn : va_nd isC = true) (hlen : ∀ u, isC.length = (cs u).length)
    (kk : ∀ (u : S) (H1 : Heap) (locs1 : List Loc), post u → va_P G.1 vwCl (putb ws isC (cs u)) H1 → va_D A (putb ws isC (cs u)) → va_S A H0 H1 locs1 → W p l e R s m args below meth c H1 locs1 (cells + mc) (slots + ms) Q (F0 m (pc + 3) ls rest)) : W p l e R s m args below meth c H locs cells slots Q (F0 m pc ls st0) := by
  have hF := va_free hD hS hA isC hC
  refine va_callv hr hS (fun q _ h => hF q h) hF (fun u t H1 locs1 ht _ hw hB _ hk1 hS1 => ?_)
  obtain ⟨hP1, hD1⟩ := hB
  rw [ht] at hP1
  obtain ⟨g1, g2⟩ := va_back hP hD isC hC hn (hlen u) hk1 hF hP1 hD1
  exact kk u H1 locs1 hw g1 g2 hS1
theorem gcall_Q {S : Type} {post : Option Nat → S → Prop} {cs : S → va_W} (hr : va_Run p l e R s m args below meth c H locs cells slots mc ms (F0 m pc ls st0) rest (PQ G (va_A wc H.size) post cs a) (va_A wc H.size)) (hP : va_P G.1 vwCl ws H) (hD : va_D A ws) (hS : va_S A H0 H locs) (hA : ∀ q, H0.size ≤ q → A q) (isC : List Nat) (hC : isC.map (fun i => ws[i]?) = wc.map some) (hn : va_nd isC = true) (hlen : ∀ u, isC.length = (cs u).length)
    (kk : ∀ (r : Option Nat) (u : S) (H1 : Heap) (locs1 : List Loc), post r u → va_P G.1 vwCl (putb ws isC (cs u)) H1 → va_D A (putb ws isC (cs u)) → va_S A H0 H1 locs1 → W p l e R s m args below meth c H1 locs1 (cells + mc) (slots + ms) Q (F0 m (pc + 3) ls (va_rf r :: rest))) : W p l e R s m args below meth c H locs cells slots Q (F0 m pc ls st0) := by
  have hF := va_free hD hS hA isC hC
  refine va_callq hr hS (fun q _ h => hF q h) hF (fun r u t H1 locs1 ht _ hw hB _ hk1 hS1 => ?_)
  obtain ⟨hP1, hD1⟩ := hB
  rw [ht] at hP1
  obtain ⟨g1, g2⟩ := va_back hP hD isC hC hn (hlen u) hk1 hF hP1 hD1
  exact kk r u H1 locs1 hw g1 g2 hS1
/-- the three ways to start a method: on an object, as a static one, as a static one of the nest -/
theorem run_V {y : MethodName} {bytes cc : ByteArray} {maxL nL n index : Nat} {ret ret0 : Option FieldType} {wsy : List Cond} {rm : Room} {Qc : Array Value → State → Outcome → State → Prop} {Ts : List Cond} {own Cn : String} {b : Addr} {As : List Value}
    (X : Cx p s m args meth c cc nL Ts own ret0) (hK : KN G s) (hP : va_P G.1 vwCl ws H) (hD : va_D A ws) (hM : Met l y wsy rm (Pre G (.ref b :: As) wc H.size) Qc mc ms (va_A wc H.size)) (cw : CallW R s args own Cn index y bytes maxL ret wsy rm mc ms n) (isC : List Nat) (hC : isC.map (fun i => ws[i]?) = wc.map some) (hn : va_nd isC = true)
    (q0 : Nat) {ci : Nat} {q : vw_C} {fs : List Value} (he : ws[q0]? = some (b, .inr (ci, fs))) (hc : vwCl[ci]? = some q) (hq : q.1 = Cn) (hAs : As.length = n) (hsize : ls.size = nL) (hst : st0 = As.reverse ++ .ref b :: rest) (hW : (rest.map fun v => v.category).sum ≤ 8) (hdg : decode cc pc = .ok (.invokevirtual index, 3)) (hf : cells + mc ≤ R.cells ∧ slots + ms ≤ R.slots) :
    va_Run p l e R s m args below meth c H locs cells slots mc ms (F0 m pc ls st0) rest (Qc (Value.ref b :: As).toArray) (va_A wc H.size) := by
  subst hq
  exact va_runV (g := F0 m pc ls st0) ⟨X.1, X.2.1, X.2.2.2.1, X.2.2.2.2.1, X.2.2.2.2.2.1⟩ hM cw ⟨Pre.blind, va_recv hK.1 hP hc he, pre_ok hK (hP.sub isC (sub_of hC)) (hD.sub isC hn hC)⟩ rfl hAs hsize hst (lv_room (ls := ls) (pc := pc) (m := m) hW) hdg hf
theorem run_S {y : MethodName} {bytes cc : ByteArray} {maxL nL n index : Nat} {ret ret0 : Option FieldType} {wsy : List Cond} {rm : Room} {Qc : Array Value → State → Outcome → State → Prop} {Ts : List Cond} {own : String} {As : List Value}
    (X : Cx p s m args meth c cc nL Ts own ret0) (hK : KN G s) (hP : va_P G.1 vwCl ws H) (hD : va_D A ws) (hM : Met l y wsy rm (Pre G As wc H.size) Qc mc ms (va_A wc H.size)) (cw : CallB R s args own index y bytes maxL ret wsy rm mc ms n ∧ (Cond.static y).before args s = true) (isC : List Nat) (hC : isC.map (fun i => ws[i]?) = wc.map some) (hn : va_nd isC = true)
    (hAs : As.length = n) (hsize : ls.size = nL) (hst : st0 = As.reverse ++ rest) (hW : (rest.map fun v => v.category).sum ≤ 8) (hdg : decode cc pc = .ok (.invokestatic index, 3)) (hf : cells + mc ≤ R.cells ∧ slots + ms ≤ R.slots) :
    va_Run p l e R s m args below meth c H locs cells slots mc ms (F0 m pc ls st0) rest (Qc As.toArray) (va_A wc H.size) :=
  va_runS (g := F0 m pc ls st0) ⟨X.1, X.2.1, X.2.2.2.1, X.2.2.2.2.1, X.2.2.2.2.2.1⟩ hM cw ⟨Pre.blind, pre_ok hK (hP.sub isC (sub_of hC)) (hD.sub isC hn hC)⟩ rfl hAs hsize hst (lv_room (ls := ls) (pc := pc) (m := m) hW) hdg hf
theorem run_SN {y : MethodName} {bytes cc : ByteArray} {maxL nL n index : Nat} {ret ret0 : Option FieldType} {wsy : List Cond} {rm : Room} {Qc : Array Value → State → Outcome → State → Prop} {Ts : List Cond} {own host : String} {As : List Value}
    (X : Cx p s m args meth c cc nL Ts own ret0) (hK : KN G s) (hP : va_P G.1 vwCl ws H) (hD : va_D A ws) (hM : Met l y wsy rm (Pre G As wc H.size) Qc mc ms (va_A wc H.size)) (cw : va_CN R s args own index y host bytes maxL ret wsy rm mc ms n) (hstat : (Cond.static y).before args s = true) (isC : List Nat) (hC : isC.map (fun i => ws[i]?) = wc.map some) (hn : va_nd isC = true)
    (hAs : As.length = n) (hsize : ls.size = nL) (hst : st0 = As.reverse ++ rest) (hW : (rest.map fun v => v.category).sum ≤ 8) (hdg : decode cc pc = .ok (.invokestatic index, 3)) (hf : cells + mc ≤ R.cells ∧ slots + ms ≤ R.slots) :
    va_Run p l e R s m args below meth c H locs cells slots mc ms (F0 m pc ls st0) rest (Qc As.toArray) (va_A wc H.size) :=
  va_runSN (g := F0 m pc ls st0) ⟨X.1, X.2.1, X.2.2.2.1, X.2.2.2.2.1, X.2.2.2.2.2.1⟩ hM ⟨cw, hstat, trivial⟩ ⟨Pre.blind, pre_ok hK (hP.sub isC (sub_of hC)) (hD.sub isC hn hC)⟩ rfl hAs hsize hst (lv_room (ls := ls) (pc := pc) (m := m) hW) hdg hf
/-- ends -/
theorem end_I {cc : ByteArray} {nL : Nat} {Ts : List Cond} {own : String} {S : Type} {post : Int32 → S → Prop} {cs : S → va_W} {r : Int32} (X : Cx p s m args meth c cc nL Ts own (some .int)) (hP : va_P G.1 vwCl ws H) (hD : va_D A ws) (hS : va_S A s.heap H locs) (u : S) (hp : post r u) (hu : cs u = ws) (hdg : decode cc pc = .ok (.ireturn, 1)) : W p l e R s m args below meth c H locs cells slots (MQ below (PI G A post cs) args s cells slots A) (F0 m pc ls [.int r]) := by
  obtain ⟨hx, hb, hr, -, -, -, hlocks⟩ := X
  subst hu
  exact W.iret hx hb hr (fun t ht hW => ⟨⟨r, u, rfl, hp, by rw [ht]; exact hP, hD⟩, hS.F ht⟩) hS.2.2 hdg
theorem end_Z {cc : ByteArray} {nL : Nat} {Ts : List Cond} {own : String} {S : Type} {post : Int32 → S → Prop} {cs : S → va_W} {r : Int32} (X : Cx p s m args meth c cc nL Ts own (some .boolean)) (hn : narrow .boolean (.int r) = .int r) (hP : va_P G.1 vwCl ws H) (hD : va_D A ws) (hS : va_S A s.heap H locs) (u : S) (hp : post r u) (hu : cs u = ws) (hdg : decode cc pc = .ok (.ireturn, 1)) : W p l e R s m args below meth c H locs cells slots (MQ below (PI G A post cs) args s cells slots A) (F0 m pc ls [.int r]) := by
  obtain ⟨hx, hb, hr, -, -, -, hlocks⟩ := X
  subst hu
  exact W.zret hx hb hr hn (fun t ht hW => ⟨⟨r, u, rfl, hp, by rw [ht]; exact hP, hD⟩, hS.F ht⟩) hS.2.2 hdg
theorem end_V {cc : ByteArray} {nL : Nat} {Ts : List Cond} {own : String} {S : Type} {post : S → Prop} {cs : S → va_W} (X : Cx p s m args meth c cc nL Ts own none) (hP : va_P G.1 vwCl ws H) (hD : va_D A ws) (hS : va_S A s.heap H locs) (u : S) (hp : post u) (hu : cs u = ws) (hdg : decode cc pc = .ok (.return_, 1)) : W p l e R s m args below meth c H locs cells slots (MQ below (PV G A post cs) args s cells slots A) (F0 m pc ls []) := by
  obtain ⟨hx, hb, hr, -, -, -, hlocks⟩ := X
  subst hu
  exact W.vret hx hb hr (fun t ht hW => ⟨⟨u, rfl, hp, by rw [ht]; exact hP, hD⟩, hS.F ht⟩) hS.2.2 hdg
theorem end_Q {cc : ByteArray} {nL : Nat} {Ts : List Cond} {own : String} {S : Type} {post : Option Nat → S → Prop} {cs : S → va_W} {r : Option Nat} {v : Value} {nm : String} (X : Cx p s m args meth c cc nL Ts own (some (.object nm))) (hv : va_rf r = v) (hP : va_P G.1 vwCl ws H) (hD : va_D A ws) (hS : va_S A s.heap H locs) (u : S) (hp : post r u) (hu : cs u = ws) (hdg : decode cc pc = .ok (.areturn, 1)) : W p l e R s m args below meth c H locs cells slots (MQ below (PQ G A post cs) args s cells slots A) (F0 m pc ls [v]) := by
  obtain ⟨hx, hb, hr, -, -, -, hlocks⟩ := X
  subst hu
  subst hv
  exact W.aret hx hb hr (Or.inl ⟨nm, rfl⟩) (va_rf_or r) (fun t ht hW => ⟨⟨r, u, rfl, hp, by rw [ht]; exact hP, hD⟩, hS.F ht⟩) hS.2.2 hdg
/-- arrays at a known place -/
theorem n_iald {cc : ByteArray} (hx : p.tables.exec = Jvm.exec) (hb : c.code = cc) (hK : KN G s) (hP : va_P G.1 vwCl ws H) (q0 : Nat) {b n : Nat} {f : Nat → Int32} (ha : ws[q0]? = some (b, .inl (G.2 0, n, .inl f))) {j : Nat} (hj : j < n) (hn : n < 2 ^ 31) (hdg : decode cc pc = .ok (.iaload, 1))
    (kk : W p l e R s m args below meth c H locs cells slots Q (F0 m (pc + 1) ls (.int (f j) :: rest))) : W p l e R s m args below meth c H locs cells slots Q (F0 m pc ls (.int (nI j) :: .ref b :: rest)) := by
  refine va_iald hx hb hK.1 hP q0 0 ha rfl (vp_in_nI hj hn) hdg ?_
  rw [nI_clamp (Nat.lt_trans hj hn)]
  exact kk
theorem n_cald {cc : ByteArray} (hx : p.tables.exec = Jvm.exec) (hb : c.code = cc) (hK : KN G s) (hP : va_P G.1 vwCl ws H) (q0 : Nat) {b n : Nat} {f : Nat → Int32} (ha : ws[q0]? = some (b, .inl (G.2 1, n, .inl f))) {j : Nat} (hj : j < n) (hn : n < 2 ^ 31) (hdg : decode cc pc = .ok (.caload, 1))
    (kk : W p l e R s m args below meth c H locs cells slots Q (F0 m (pc + 1) ls (.int (f j) :: rest))) : W p l e R s m args below meth c H locs cells slots Q (F0 m pc ls (.int (nI j) :: .ref b :: rest)) := by
  refine va_cald hx hb hK.1 hP q0 1 ha rfl (vp_in_nI hj hn) hdg ?_
  rw [nI_clamp (Nat.lt_trans hj hn)]
  exact kk
theorem n_iast {cc : ByteArray} (hx : p.tables.exec = Jvm.exec) (hb : c.code = cc) (hK : KN G s) (hP : va_P G.1 vwCl ws H) (hD : va_D A ws) (hS : va_S A H0 H locs) (q0 : Nat) {b n : Nat} {f : Nat → Int32} (ha : ws[q0]? = some (b, .inl (G.2 0, n, .inl f))) {j : Nat} (hj : j < n) (hn : n < 2 ^ 31) {x : Int32} (hdg : decode cc pc = .ok (.iastore, 1))
    (kk : ∀ (H1 : Heap) (locs1 : List Loc), va_P G.1 vwCl (ws.set q0 (b, .inl (G.2 0, n, .inl (upd f j x)))) H1 → va_D A (ws.set q0 (b, .inl (G.2 0, n, .inl (upd f j x)))) → va_S A H0 H1 locs1 → W p l e R s m args below meth c H1 locs1 cells slots Q (F0 m (pc + 1) ls rest)) : W p l e R s m args below meth c H locs cells slots Q (F0 m pc ls (.int x :: .int (nI j) :: .ref b :: rest)) := by
  refine va_iast hx hb hK.1 hP hD hS q0 0 ha rfl (vp_in_nI hj hn) hdg (fun H1 locs1 h1 h2 h3 => ?_)
  rw [nI_clamp (Nat.lt_trans hj hn)] at h1 h2
  exact kk H1 locs1 h1 h2 h3
theorem n_aald {cc : ByteArray} (hx : p.tables.exec = Jvm.exec) (hb : c.code = cc) (hK : KN G s) (hP : va_P G.1 vwCl ws H) (q0 t0 : Nat) {Cn : String} {b n : Nat} {f : Nat → Option Nat} (ha : ws[q0]? = some (b, .inl (G.2 t0, n, .inr (.inr (.inr (.inr f)))))) (ht : (TYG G)[t0]? = some (G.2 t0, .object Cn)) {j : Nat} (hj : j < n) (hn : n < 2 ^ 31) {v : Value} (hv : va_rf (f j) = v) (hdg : decode cc pc = .ok (.aaload, 1))
    (kk : W p l e R s m args below meth c H locs cells slots Q (F0 m (pc + 1) ls (v :: rest))) : W p l e R s m args below meth c H locs cells slots Q (F0 m pc ls (.int (nI j) :: .ref b :: rest)) := by
  refine va_aldq hx hb hK.1 hP q0 t0 ha ht (vp_in_nI hj hn) hdg ?_
  rw [nI_clamp (Nat.lt_trans hj hn), hv]
  exact kk
theorem n_alen {cc : ByteArray} (hx : p.tables.exec = Jvm.exec) (hb : c.code = cc) (hK : KN G s) (hP : va_P G.1 vwCl ws H) (q0 t0 : Nat) {b n : Nat} {y} (ha : ws[q0]? = some (b, .inl (G.2 t0, n, y))) {ty : FieldType} (ht : (TYG G)[t0]? = some (G.2 t0, ty)) (hdg : decode cc pc = .ok (.arraylength, 1))
    (kk : W p l e R s m args below meth c H locs cells slots Q (F0 m (pc + 1) ls (.int (nI n) :: rest))) : W p l e R s m args below meth c H locs cells slots Q (F0 m pc ls (.ref b :: rest)) :=
  va_alen hx hb hK.1 hP q0 t0 ha ht rfl hdg kk
/-- sums of numbers that are known to be natural -/
theorem n_iadd {cc : ByteArray} (hx : p.tables.exec = Jvm.exec) (hb : c.code = cc) {i j : Nat} (hdg : decode cc pc = .ok (.iadd, 1)) (k : W p l e R s m args below meth c H locs cells slots Q (F0 m (pc + 1) ls (.int (nI (i + j)) :: rest))) : W p l e R s m args below meth c H locs cells slots Q (F0 m pc ls (.int (nI j) :: .int (nI i) :: rest)) := by
  refine lv_iadd hx hb hdg ?_
  rw [nI_add]
  exact k
theorem n_imul {cc : ByteArray} (hx : p.tables.exec = Jvm.exec) (hb : c.code = cc) {i j : Nat} (hdg : decode cc pc = .ok (.imul, 1)) (k : W p l e R s m args below meth c H locs cells slots Q (F0 m (pc + 1) ls (.int (nI (i * j)) :: rest))) : W p l e R s m args below meth c H locs cells slots Q (F0 m pc ls (.int (nI j) :: .int (nI i) :: rest)) := by
  refine lv_imul hx hb hdg ?_
  rw [pk_mul]
  exact k
theorem n_isub {cc : ByteArray} (hx : p.tables.exec = Jvm.exec) (hb : c.code = cc) {i j : Nat} (hij : j ≤ i) (hdg : decode cc pc = .ok (.isub, 1)) (k : W p l e R s m args below meth c H locs cells slots Q (F0 m (pc + 1) ls (.int (nI (i - j)) :: rest))) : W p l e R s m args below meth c H locs cells slots Q (F0 m pc ls (.int (nI j) :: .int (nI i) :: rest)) := by
  refine lv_isub hx hb hdg ?_
  rw [pk_sub hij]
  exact k
end OWN
end
section
/-! what the cells are: v, the numbers of a laundry (0 1 fires, 2 3 water, 4 5 pressure, 6 7 stops left, 8 9 stops, 10 coal, 11 ration, 12 ticks, 13..16 kinds, 17..20 left, 21..24 waits, 25 length of the line, 38 burnt, 39 came, 40 started, 41 washed, 42 spoiled, 43 taken out, 44 worth, 45 waited), q the line -/
theorem inc1 (i : Nat) : nI i + Int32.ofInt 1 = nI (i + 1) := by
  rw [show Int32.ofInt 1 = nI 1 from by decide +kernel]
  exact nI_add i 1
theorem nar_bool {r : Int32} (h : r = nI 0 ∨ r = nI 1) : narrow .boolean (.int r) = .int r := by
  rcases h with rfl | rfl <;> decide
theorem natOf {x : Int32} (h : ¬ x < 0) : x = nI x.toNatClampNeg := by
  obtain ⟨j, hj, e⟩ := nI_of h
  rw [e, nI_clamp hj]
theorem natLt {x : Int32} {n : Nat} (h : ¬ x < 0) (h2 : ¬ nI n ≤ x) (hn : n < 2 ^ 31) : x.toNatClampNeg < n := by
  obtain ⟨j, hj, e⟩ := nI_of h
  rw [e, nI_clamp hj]
  rw [e, nI_leI hn hj] at h2
  omega
theorem vinOf {x : Int32} {n : Nat} (h : ¬ x < 0) (h2 : ¬ nI n ≤ x) (hn : n < 2 ^ 31) : vp_in x n := by
  have h1 := natLt h h2 hn
  rw [natOf h]
  exact vp_in_nI h1 hn
abbrev BL (h : Nat) (bf bw bp bl bs : Int32) : va_W := [(h, .inr (0, [.int bf, .int bw, .int bp, .int bl, .int bs]))]
abbrev MA (h : Nat) (mk mt mw : Int32) : va_W := [(h, .inr (3, [.int mk, .int mt, .int mw]))]
abbrev LN (G : GG) (h k : Nat) (ln : Int32) (q : Nat → Int32) : va_W := [(h, .inr (5, [.ref k, .int ln])), (k, .inl (G.2 0, 12, .inl q))]
def bref (a : Nat → Nat) : Nat → Option Nat := fun j => if j = 0 then some (a 2) else some (a 3)
def mref (a : Nat → Nat) : Nat → Option Nat := fun j => if j = 0 then some (a 5) else if j = 1 then some (a 6) else if j = 2 then some (a 7) else some (a 8)
abbrev LC (G : GG) (a : Nat → Nat) (v q : Nat → Int32) : va_W := [(a 0, .inr (2, [.ref (a 1), .ref (a 4), .ref (a 9), .int (v 12), .int (v 41), .int (v 42), .int (v 38), .int (v 10), .int (v 11), .int (v 39), .int (v 40), .int (v 43), .int (v 44), .int (v 45)])),
  (a 1, .inl (G.2 2, 2, .inr (.inr (.inr (.inr (bref a)))))), (a 2, .inr (0, [.int (v 0), .int (v 2), .int (v 4), .int (v 6), .int (v 8)])), (a 3, .inr (0, [.int (v 1), .int (v 3), .int (v 5), .int (v 7), .int (v 9)])),
  (a 4, .inl (G.2 3, 4, .inr (.inr (.inr (.inr (mref a)))))), (a 5, .inr (3, [.int (v 13), .int (v 17), .int (v 21)])), (a 6, .inr (3, [.int (v 14), .int (v 18), .int (v 22)])), (a 7, .inr (3, [.int (v 15), .int (v 19), .int (v 23)])), (a 8, .inr (3, [.int (v 16), .int (v 20), .int (v 24)])),
  (a 9, .inr (5, [.ref (a 10), .int (v 25)])), (a 10, .inl (G.2 0, 12, .inl q))]
abbrev OT (G : GG) (h k : Nat) (tp tl tr tg tv : Int32) (T : Nat → Int32) : va_W := [(h, .inr (4, [.ref k, .int tp, .int tl, .int tr, .int tg, .int tv])), (k, .inl (G.2 1, 80, .inl T))]
abbrev MC (G : GG) (a : Nat → Nat) (g M T Y : Nat → Int32) : va_W := [(a 0, .inr (7, [.ref (a 1), .int (g 0), .int (g 1), .ref (a 2), .int (g 2), .int (g 3), .int (g 4), .ref (a 3), .int (g 5), .int (g 6), .int (g 7)])), (a 1, .inl (G.2 0, 368, .inl M)), (a 2, .inl (G.2 1, 80, .inl T)), (a 3, .inl (G.2 0, 123, .inl Y))]
theorem natSucc {x y : Int32} (h : ¬ x < 0) (h2 : x < y) : x.toNatClampNeg + 1 < 2 ^ 31 := by
  obtain ⟨j, hj, e⟩ := nI_of h
  have hy : ¬ y < 0 := by
    intro hy
    rw [Int32.lt_iff_toInt_lt] at h2 hy
    rw [e, nI_toInt hj] at h2
    have : (0 : Int32).toInt = 0 := by decide
    omega
  obtain ⟨k, hk, e2⟩ := nI_of hy
  rw [e, e2, nI_ltI hj hk] at h2
  rw [e, nI_clamp hj]
  omega
theorem ltOf {x y : Int32} (h : x < y) : ¬ y ≤ x := by
  rw [Int32.lt_iff_toInt_lt] at h
  rw [Int32.le_iff_toInt_le]
  omega
theorem va_P_arr {D : va_G} {cl : List vw_C} {ws ws' : va_W} {H : Heap} {k a n : Nat} {cA : ClassId} {f g : Nat → Int32} (hfg : ∀ j, j < n → f j = g j) (h : va_P D cl ws H) (he : ws[k]? = some (a, .inl (cA, n, .inl f))) (hw : ws.set k (a, .inl (cA, n, .inl g)) = ws') : va_P D cl ws' H := by
  subst hw
  have hl := (List.getElem?_eq_some_iff.mp he).1
  intro i q hq
  by_cases hi : i = k
  · subst hi
    rw [List.getElem?_set_self hl] at hq
    cases hq
    have h1 : va_at D cl (a, .inl (cA, n, .inl f)) H := h i _ he
    show H[a]? = some (vp_cell cA (n, .inl g))
    have h2 : H[a]? = some (vp_cell cA (n, .inl f)) := h1
    rw [h2, vp_cell_i, vp_cell_i]
    have e : (Array.ofFn (n := n) fun j => Value.int (f j.val)) = Array.ofFn (n := n) fun j => Value.int (g j.val) := by
      congr 1
      funext j
      rw [hfg j.val j.isLt]
    unfold arrV
    rw [e]
  · rw [List.getElem?_set_ne (Ne.symm hi)] at hq
    exact h i q hq
theorem va_D_arr {A : Nat → Prop} {ws ws' : va_W} {k a : Nat} {e0 e : va_E} (h : va_D A ws) (he : ws[k]? = some (a, e0)) (hw : ws.set k (a, e) = ws') : va_D A ws' := by
  subst hw
  exact h.set he
theorem upd_copied {q o : Nat → Int32} {i : Nat} (h : ∀ j, j < i → q j = o j) : ∀ j, j < i + 1 → upd q i (o i) j = o j := by
  intro j hj
  by_cases e : j = i
  · subst e
    exact pk_us
  · rw [pk_un e]
    exact h j (by omega)
theorem ltNat {x : Int32} {i : Nat} (h : ¬ x ≤ nI i) (hi : i < 2 ^ 31) : i < x.toNatClampNeg := by
  by_cases hx : x < 0
  · exfalso
    apply h
    rw [Int32.le_iff_toInt_le]
    rw [Int32.lt_iff_toInt_lt] at hx
    have h0 : (0 : Int32).toInt = 0 := by decide
    rw [nI_toInt hi]
    omega
  · obtain ⟨j, hj, e⟩ := nI_of hx
    rw [e, nI_clamp hj]
    rw [e, nI_leI hj hi] at h
    omega
theorem natBig (x : Int32) : x.toNatClampNeg < 2 ^ 31 := by
  by_cases hx : x < 0
  · rw [Int32.lt_iff_toInt_lt] at hx
    have h0 : (0 : Int32).toInt = 0 := by decide
    have : x.toNatClampNeg = x.toInt.toNat := rfl
    omega
  · obtain ⟨j, hj, e⟩ := nI_of hx
    rw [e, nI_clamp hj]
    exact hj
end
section
def f_X6_isWithin (p0 : Int32) (p1 : Int32) (p2 : Int32) : Int32 :=
  if p0 < p1 then
    (nI 0)
  else
    if p2 < p0 then
      (nI 0)
    else
      (nI 1)
theorem cd2_X6_isWithin : yX6_isWithin.cls ≠ "java/lang/invoke/MethodHandle" ∧ yX6_isWithin.cls ≠ "java/lang/invoke/VarHandle" ∧ (parseMethodDescriptor yX6_isWithin.desc).map (fun d => d.parameters.length) = some 3 := by decide +kernel
set_option maxHeartbeats 4000000 in
set_option maxRecDepth 100000 in
theorem c_X6_isWithin (l : Launch) (G : GG)   (sz : Nat) (p0 : Int32) (p1 : Int32) (p2 : Int32)  : Met l yX6_isWithin wsX6_isWithin ({ frames := 0, cells := 0, slots := 0, locals := 0 }) (Pre G [.int p0, .int p1, .int p2] (([] : va_W)) sz) (PI G (va_A (([] : va_W)) sz) (fun r (u : Unit) => f_X6_isWithin p0 p1 p2 = r ∧ (r = nI 0 ∨ r = nI 1)) (fun _ : Unit => ([] : va_W))) 0 0 (va_A (([] : va_W)) sz) := by
  refine Met.walk (cc := cX6_isWithin) (maxL := 3) (ret := (some .boolean)) (Qc := fun A => PI G A (fun r (u : Unit) => f_X6_isWithin p0 p1 p2 = r ∧ (r = nI 0 ∨ r = nI 1)) (fun _ : Unit => ([] : va_W))) (by decide) rfl (Nat.le_of_ble_eq_true rfl) ?_
  intro p e s m below meth c A H C0 _ hK hsz hP hD hA hS ls hl
  have hx := C0.1
  have hb := C0.2.1
  have hown : s.vm.findClass RX6 = some m.cls := C0.2.2.2.2.1
  have hml := C0.2.2.2.1
  have hts : ∀ w ∈ wsX6_isWithin, w.before [.int p0, .int p1, .int p2].toArray s = true := C0.2.2.2.2.2.1
  have hl : lv_has ls 3 [(0, .int p0), (1, .int p1), (2, .int p2)] := hl
  refine lv_iload_n hx hb dX6_isWithin_0 rfl (lv_at hl 0 rfl) ?_
  refine lv_iload_n hx hb dX6_isWithin_1 rfl (lv_at hl 1 rfl) ?_
  refine lv_icmp_lt (tgt := 14) hx hb dX6_isWithin_2 (by decide) (fun c_1 => ?_) (fun c_1 => ?_)
  · refine lv_iconst (v := (nI 0)) hx hb dX6_isWithin_14 (by decide) ?_
    exact end_Z C0 (by decide) hP hD hS () ⟨(by simp only [f_X6_isWithin, if_pos c_1]), by decide⟩ rfl dX6_isWithin_15
  · refine lv_iload_n hx hb dX6_isWithin_5 rfl (lv_at hl 0 rfl) ?_
    refine lv_iload_n hx hb dX6_isWithin_6 rfl (lv_at hl 2 rfl) ?_
    refine lv_icmp_gt (tgt := 14) hx hb dX6_isWithin_7 (by decide) (fun c_2 => ?_) (fun c_2 => ?_)
    · refine lv_iconst (v := (nI 0)) hx hb dX6_isWithin_14 (by decide) ?_
      exact end_Z C0 (by decide) hP hD hS () ⟨(by simp only [f_X6_isWithin, if_neg c_1, if_pos c_2]), by decide⟩ rfl dX6_isWithin_15
    · refine lv_iconst (v := (nI 1)) hx hb dX6_isWithin_10 (by decide) ?_
      refine lv_goto (tgt := 15) hx hb dX6_isWithin_11 (by decide) ?_
      exact end_Z C0 (by decide) hP hD hS () ⟨(by simp only [f_X6_isWithin, if_neg c_1, if_neg c_2]), by decide⟩ rfl dX6_isWithin_15

def f_X7_in (p0 : Int32) (p1 : Int32) (p2 : Int32) : Int32 :=
  if p0 < p1 then
    (nI 0)
  else
    if p2 < p0 then
      (nI 0)
    else
      (nI 1)
theorem cd2_X7_in : yX7_in.cls ≠ "java/lang/invoke/MethodHandle" ∧ yX7_in.cls ≠ "java/lang/invoke/VarHandle" ∧ (parseMethodDescriptor yX7_in.desc).map (fun d => d.parameters.length) = some 3 := by decide +kernel
set_option maxHeartbeats 4000000 in
set_option maxRecDepth 100000 in
theorem c_X7_in (l : Launch) (G : GG)   (sz : Nat) (p0 : Int32) (p1 : Int32) (p2 : Int32)  : Met l yX7_in wsX7_in ({ frames := 0, cells := 0, slots := 0, locals := 0 }) (Pre G [.int p0, .int p1, .int p2] (([] : va_W)) sz) (PI G (va_A (([] : va_W)) sz) (fun r (u : Unit) => f_X7_in p0 p1 p2 = r ∧ (r = nI 0 ∨ r = nI 1)) (fun _ : Unit => ([] : va_W))) 0 0 (va_A (([] : va_W)) sz) := by
  refine Met.walk (cc := cX7_in) (maxL := 3) (ret := (some .boolean)) (Qc := fun A => PI G A (fun r (u : Unit) => f_X7_in p0 p1 p2 = r ∧ (r = nI 0 ∨ r = nI 1)) (fun _ : Unit => ([] : va_W))) (by decide) rfl (Nat.le_of_ble_eq_true rfl) ?_
  intro p e s m below meth c A H C0 _ hK hsz hP hD hA hS ls hl
  have hx := C0.1
  have hb := C0.2.1
  have hown : s.vm.findClass RX7 = some m.cls := C0.2.2.2.2.1
  have hml := C0.2.2.2.1
  have hts : ∀ w ∈ wsX7_in, w.before [.int p0, .int p1, .int p2].toArray s = true := C0.2.2.2.2.2.1
  have hl : lv_has ls 3 [(0, .int p0), (1, .int p1), (2, .int p2)] := hl
  refine lv_iload_n hx hb dX7_in_0 rfl (lv_at hl 0 rfl) ?_
  refine lv_iload_n hx hb dX7_in_1 rfl (lv_at hl 1 rfl) ?_
  refine lv_icmp_lt (tgt := 14) hx hb dX7_in_2 (by decide) (fun c_1 => ?_) (fun c_1 => ?_)
  · refine lv_iconst (v := (nI 0)) hx hb dX7_in_14 (by decide) ?_
    exact end_Z C0 (by decide) hP hD hS () ⟨(by simp only [f_X7_in, if_pos c_1]), by decide⟩ rfl dX7_in_15
  · refine lv_iload_n hx hb dX7_in_5 rfl (lv_at hl 0 rfl) ?_
    refine lv_iload_n hx hb dX7_in_6 rfl (lv_at hl 2 rfl) ?_
    refine lv_icmp_gt (tgt := 14) hx hb dX7_in_7 (by decide) (fun c_2 => ?_) (fun c_2 => ?_)
    · refine lv_iconst (v := (nI 0)) hx hb dX7_in_14 (by decide) ?_
      exact end_Z C0 (by decide) hP hD hS () ⟨(by simp only [f_X7_in, if_neg c_1, if_pos c_2]), by decide⟩ rfl dX7_in_15
    · refine lv_iconst (v := (nI 1)) hx hb dX7_in_10 (by decide) ?_
      refine lv_goto (tgt := 15) hx hb dX7_in_11 (by decide) ?_
      exact end_Z C0 (by decide) hP hD hS () ⟨(by simp only [f_X7_in, if_neg c_1, if_neg c_2]), by decide⟩ rfl dX7_in_15

def f_X6_ticksOf (p0 : Int32) : Int32 :=
  if p0 = nI 0 then
    (nI 4)
  else
    if p0 = nI 1 then
      (nI 6)
    else
      if p0 = nI 2 then
        (nI 9)
      else
        (nI 0)
theorem cd2_X6_ticksOf : yX6_ticksOf.cls ≠ "java/lang/invoke/MethodHandle" ∧ yX6_ticksOf.cls ≠ "java/lang/invoke/VarHandle" ∧ (parseMethodDescriptor yX6_ticksOf.desc).map (fun d => d.parameters.length) = some 1 := by decide +kernel
set_option maxHeartbeats 4000000 in
set_option maxRecDepth 100000 in
theorem c_X6_ticksOf (l : Launch) (G : GG)   (sz : Nat) (p0 : Int32)  : Met l yX6_ticksOf wsX6_ticksOf ({ frames := 0, cells := 0, slots := 0, locals := 0 }) (Pre G [.int p0] (([] : va_W)) sz) (PI G (va_A (([] : va_W)) sz) (fun r (_ : Unit) => f_X6_ticksOf p0 = r) (fun _ : Unit => ([] : va_W))) 0 0 (va_A (([] : va_W)) sz) := by
  refine Met.walk (cc := cX6_ticksOf) (maxL := 1) (ret := (some .int)) (Qc := fun A => PI G A (fun r (_ : Unit) => f_X6_ticksOf p0 = r) (fun _ : Unit => ([] : va_W))) (by decide) rfl (Nat.le_of_ble_eq_true rfl) ?_
  intro p e s m below meth c A H C0 _ hK hsz hP hD hA hS ls hl
  have hx := C0.1
  have hb := C0.2.1
  have hown : s.vm.findClass RX6 = some m.cls := C0.2.2.2.2.1
  have hml := C0.2.2.2.1
  have hts : ∀ w ∈ wsX6_ticksOf, w.before [.int p0].toArray s = true := C0.2.2.2.2.2.1
  have hl : lv_has ls 1 [(0, .int p0)] := hl
  refine lv_iload_n hx hb dX6_ticksOf_0 rfl (lv_at hl 0 rfl) ?_
  by_cases c_1 : p0 = nI 0
  · refine lv_tableIn (tgt := 28) hx hb dX6_ticksOf_1 (by rw [c_1]; decide +kernel) (by rw [c_1]; decide +kernel) (by rw [c_1]; rfl) (by decide) ?_
    refine lv_iconst (v := (nI 4)) hx hb dX6_ticksOf_28 (by decide) ?_
    exact end_I C0 hP hD hS () (by simp only [f_X6_ticksOf, if_pos c_1]) rfl dX6_ticksOf_29
  · by_cases c_2 : p0 = nI 1
    · refine lv_tableIn (tgt := 30) hx hb dX6_ticksOf_1 (by rw [c_2]; decide +kernel) (by rw [c_2]; decide +kernel) (by rw [c_2]; rfl) (by decide) ?_
      refine lv_bipush (v := (nI 6)) hx hb dX6_ticksOf_30 (by decide) ?_
      exact end_I C0 hP hD hS () (by simp only [f_X6_ticksOf, if_neg c_1, if_pos c_2]) rfl dX6_ticksOf_32
    · by_cases c_3 : p0 = nI 2
      · refine lv_tableIn (tgt := 33) hx hb dX6_ticksOf_1 (by rw [c_3]; decide +kernel) (by rw [c_3]; decide +kernel) (by rw [c_3]; rfl) (by decide) ?_
        refine lv_bipush (v := (nI 9)) hx hb dX6_ticksOf_33 (by decide) ?_
        exact end_I C0 hP hD hS () (by simp only [f_X6_ticksOf, if_neg c_1, if_neg c_2, if_pos c_3]) rfl dX6_ticksOf_35
      · have z_c_1 := lv_neT c_1 (show (nI 0).toInt = 0 from by decide +kernel)
        have z_c_2 := lv_neT c_2 (show (nI 1).toInt = 1 from by decide +kernel)
        have z_c_3 := lv_neT c_3 (show (nI 2).toInt = 2 from by decide +kernel)
        refine lv_tableOut (tgt := 36) hx hb dX6_ticksOf_1 (by omega) (by decide) ?_
        refine lv_iconst (v := (nI 0)) hx hb dX6_ticksOf_36 (by decide) ?_
        exact end_I C0 hP hD hS () (by simp only [f_X6_ticksOf, if_neg c_1, if_neg c_2, if_neg c_3]) rfl dX6_ticksOf_37

def f_X6_steamOf (p0 : Int32) : Int32 :=
  if p0 = nI 0 then
    (nI 2)
  else
    if p0 = nI 1 then
      (nI 4)
    else
      if p0 = nI 2 then
        (nI 6)
      else
        (nI 0)
theorem cd2_X6_steamOf : yX6_steamOf.cls ≠ "java/lang/invoke/MethodHandle" ∧ yX6_steamOf.cls ≠ "java/lang/invoke/VarHandle" ∧ (parseMethodDescriptor yX6_steamOf.desc).map (fun d => d.parameters.length) = some 1 := by decide +kernel
set_option maxHeartbeats 4000000 in
set_option maxRecDepth 100000 in
theorem c_X6_steamOf (l : Launch) (G : GG)   (sz : Nat) (p0 : Int32)  : Met l yX6_steamOf wsX6_steamOf ({ frames := 0, cells := 0, slots := 0, locals := 0 }) (Pre G [.int p0] (([] : va_W)) sz) (PI G (va_A (([] : va_W)) sz) (fun r (_ : Unit) => f_X6_steamOf p0 = r) (fun _ : Unit => ([] : va_W))) 0 0 (va_A (([] : va_W)) sz) := by
  refine Met.walk (cc := cX6_steamOf) (maxL := 1) (ret := (some .int)) (Qc := fun A => PI G A (fun r (_ : Unit) => f_X6_steamOf p0 = r) (fun _ : Unit => ([] : va_W))) (by decide) rfl (Nat.le_of_ble_eq_true rfl) ?_
  intro p e s m below meth c A H C0 _ hK hsz hP hD hA hS ls hl
  have hx := C0.1
  have hb := C0.2.1
  have hown : s.vm.findClass RX6 = some m.cls := C0.2.2.2.2.1
  have hml := C0.2.2.2.1
  have hts : ∀ w ∈ wsX6_steamOf, w.before [.int p0].toArray s = true := C0.2.2.2.2.2.1
  have hl : lv_has ls 1 [(0, .int p0)] := hl
  refine lv_iload_n hx hb dX6_steamOf_0 rfl (lv_at hl 0 rfl) ?_
  by_cases c_1 : p0 = nI 0
  · refine lv_tableIn (tgt := 28) hx hb dX6_steamOf_1 (by rw [c_1]; decide +kernel) (by rw [c_1]; decide +kernel) (by rw [c_1]; rfl) (by decide) ?_
    refine lv_iconst (v := (nI 2)) hx hb dX6_steamOf_28 (by decide) ?_
    exact end_I C0 hP hD hS () (by simp only [f_X6_steamOf, if_pos c_1]) rfl dX6_steamOf_29
  · by_cases c_2 : p0 = nI 1
    · refine lv_tableIn (tgt := 30) hx hb dX6_steamOf_1 (by rw [c_2]; decide +kernel) (by rw [c_2]; decide +kernel) (by rw [c_2]; rfl) (by decide) ?_
      refine lv_iconst (v := (nI 4)) hx hb dX6_steamOf_30 (by decide) ?_
      exact end_I C0 hP hD hS () (by simp only [f_X6_steamOf, if_neg c_1, if_pos c_2]) rfl dX6_steamOf_31
    · by_cases c_3 : p0 = nI 2
      · refine lv_tableIn (tgt := 32) hx hb dX6_steamOf_1 (by rw [c_3]; decide +kernel) (by rw [c_3]; decide +kernel) (by rw [c_3]; rfl) (by decide) ?_
        refine lv_bipush (v := (nI 6)) hx hb dX6_steamOf_32 (by decide) ?_
        exact end_I C0 hP hD hS () (by simp only [f_X6_steamOf, if_neg c_1, if_neg c_2, if_pos c_3]) rfl dX6_steamOf_34
      · have z_c_1 := lv_neT c_1 (show (nI 0).toInt = 0 from by decide +kernel)
        have z_c_2 := lv_neT c_2 (show (nI 1).toInt = 1 from by decide +kernel)
        have z_c_3 := lv_neT c_3 (show (nI 2).toInt = 2 from by decide +kernel)
        refine lv_tableOut (tgt := 35) hx hb dX6_steamOf_1 (by omega) (by decide) ?_
        refine lv_iconst (v := (nI 0)) hx hb dX6_steamOf_35 (by decide) ?_
        exact end_I C0 hP hD hS () (by simp only [f_X6_steamOf, if_neg c_1, if_neg c_2, if_neg c_3]) rfl dX6_steamOf_36

def f_X6_worthOf (p0 : Int32) : Int32 :=
  if p0 = nI 0 then
    (nI 3)
  else
    if p0 = nI 1 then
      (nI 5)
    else
      if p0 = nI 2 then
        (nI 9)
      else
        (nI 0)
theorem cd2_X6_worthOf : yX6_worthOf.cls ≠ "java/lang/invoke/MethodHandle" ∧ yX6_worthOf.cls ≠ "java/lang/invoke/VarHandle" ∧ (parseMethodDescriptor yX6_worthOf.desc).map (fun d => d.parameters.length) = some 1 := by decide +kernel
set_option maxHeartbeats 4000000 in
set_option maxRecDepth 100000 in
theorem c_X6_worthOf (l : Launch) (G : GG)   (sz : Nat) (p0 : Int32)  : Met l yX6_worthOf wsX6_worthOf ({ frames := 0, cells := 0, slots := 0, locals := 0 }) (Pre G [.int p0] (([] : va_W)) sz) (PI G (va_A (([] : va_W)) sz) (fun r (_ : Unit) => f_X6_worthOf p0 = r) (fun _ : Unit => ([] : va_W))) 0 0 (va_A (([] : va_W)) sz) := by
  refine Met.walk (cc := cX6_worthOf) (maxL := 1) (ret := (some .int)) (Qc := fun A => PI G A (fun r (_ : Unit) => f_X6_worthOf p0 = r) (fun _ : Unit => ([] : va_W))) (by decide) rfl (Nat.le_of_ble_eq_true rfl) ?_
  intro p e s m below meth c A H C0 _ hK hsz hP hD hA hS ls hl
  have hx := C0.1
  have hb := C0.2.1
  have hown : s.vm.findClass RX6 = some m.cls := C0.2.2.2.2.1
  have hml := C0.2.2.2.1
  have hts : ∀ w ∈ wsX6_worthOf, w.before [.int p0].toArray s = true := C0.2.2.2.2.2.1
  have hl : lv_has ls 1 [(0, .int p0)] := hl
  refine lv_iload_n hx hb dX6_worthOf_0 rfl (lv_at hl 0 rfl) ?_
  by_cases c_1 : p0 = nI 0
  · refine lv_tableIn (tgt := 28) hx hb dX6_worthOf_1 (by rw [c_1]; decide +kernel) (by rw [c_1]; decide +kernel) (by rw [c_1]; rfl) (by decide) ?_
    refine lv_iconst (v := (nI 3)) hx hb dX6_worthOf_28 (by decide) ?_
    exact end_I C0 hP hD hS () (by simp only [f_X6_worthOf, if_pos c_1]) rfl dX6_worthOf_29
  · by_cases c_2 : p0 = nI 1
    · refine lv_tableIn (tgt := 30) hx hb dX6_worthOf_1 (by rw [c_2]; decide +kernel) (by rw [c_2]; decide +kernel) (by rw [c_2]; rfl) (by decide) ?_
      refine lv_iconst (v := (nI 5)) hx hb dX6_worthOf_30 (by decide) ?_
      exact end_I C0 hP hD hS () (by simp only [f_X6_worthOf, if_neg c_1, if_pos c_2]) rfl dX6_worthOf_31
    · by_cases c_3 : p0 = nI 2
      · refine lv_tableIn (tgt := 32) hx hb dX6_worthOf_1 (by rw [c_3]; decide +kernel) (by rw [c_3]; decide +kernel) (by rw [c_3]; rfl) (by decide) ?_
        refine lv_bipush (v := (nI 9)) hx hb dX6_worthOf_32 (by decide) ?_
        exact end_I C0 hP hD hS () (by simp only [f_X6_worthOf, if_neg c_1, if_neg c_2, if_pos c_3]) rfl dX6_worthOf_34
      · have z_c_1 := lv_neT c_1 (show (nI 0).toInt = 0 from by decide +kernel)
        have z_c_2 := lv_neT c_2 (show (nI 1).toInt = 1 from by decide +kernel)
        have z_c_3 := lv_neT c_3 (show (nI 2).toInt = 2 from by decide +kernel)
        refine lv_tableOut (tgt := 35) hx hb dX6_worthOf_1 (by omega) (by decide) ?_
        refine lv_iconst (v := (nI 0)) hx hb dX6_worthOf_35 (by decide) ?_
        exact end_I C0 hP hD hS () (by simp only [f_X6_worthOf, if_neg c_1, if_neg c_2, if_neg c_3]) rfl dX6_worthOf_36

def f_X7_ticksOf (p0 : Int32) : Int32 :=
  if p0 = 0 then
    (nI 4)
  else
    if p0 = (nI 1) then
      (nI 6)
    else
      (nI 9)
theorem cd2_X7_ticksOf : yX7_ticksOf.cls ≠ "java/lang/invoke/MethodHandle" ∧ yX7_ticksOf.cls ≠ "java/lang/invoke/VarHandle" ∧ (parseMethodDescriptor yX7_ticksOf.desc).map (fun d => d.parameters.length) = some 1 := by decide +kernel
set_option maxHeartbeats 4000000 in
set_option maxRecDepth 100000 in
theorem c_X7_ticksOf (l : Launch) (G : GG)   (sz : Nat) (p0 : Int32)  : Met l yX7_ticksOf wsX7_ticksOf ({ frames := 0, cells := 0, slots := 0, locals := 0 }) (Pre G [.int p0] (([] : va_W)) sz) (PI G (va_A (([] : va_W)) sz) (fun r (_ : Unit) => f_X7_ticksOf p0 = r) (fun _ : Unit => ([] : va_W))) 0 0 (va_A (([] : va_W)) sz) := by
  refine Met.walk (cc := cX7_ticksOf) (maxL := 1) (ret := (some .int)) (Qc := fun A => PI G A (fun r (_ : Unit) => f_X7_ticksOf p0 = r) (fun _ : Unit => ([] : va_W))) (by decide) rfl (Nat.le_of_ble_eq_true rfl) ?_
  intro p e s m below meth c A H C0 _ hK hsz hP hD hA hS ls hl
  have hx := C0.1
  have hb := C0.2.1
  have hown : s.vm.findClass RX7 = some m.cls := C0.2.2.2.2.1
  have hml := C0.2.2.2.1
  have hts : ∀ w ∈ wsX7_ticksOf, w.before [.int p0].toArray s = true := C0.2.2.2.2.2.1
  have hl : lv_has ls 1 [(0, .int p0)] := hl
  refine lv_iload_n hx hb dX7_ticksOf_0 rfl (lv_at hl 0 rfl) ?_
  refine lv_if_ne (tgt := 8) hx hb dX7_ticksOf_1 (by decide) (fun c_1 => ?_) (fun c_1 => ?_)
  · refine lv_iload_n hx hb dX7_ticksOf_8 rfl (lv_at hl 0 rfl) ?_
    refine lv_iconst (v := (nI 1)) hx hb dX7_ticksOf_9 (by decide) ?_
    refine lv_icmp_ne (tgt := 18) hx hb dX7_ticksOf_10 (by decide) (fun c_2 => ?_) (fun c_2 => ?_)
    · refine lv_bipush (v := (nI 9)) hx hb dX7_ticksOf_18 (by decide) ?_
      exact end_I C0 hP hD hS () (by simp only [f_X7_ticksOf, if_neg c_1, if_neg c_2]) rfl dX7_ticksOf_20
    · refine lv_bipush (v := (nI 6)) hx hb dX7_ticksOf_13 (by decide) ?_
      refine lv_goto (tgt := 20) hx hb dX7_ticksOf_15 (by decide) ?_
      exact end_I C0 hP hD hS () (by simp only [f_X7_ticksOf, if_neg c_1, if_pos c_2]) rfl dX7_ticksOf_20
  · refine lv_iconst (v := (nI 4)) hx hb dX7_ticksOf_4 (by decide) ?_
    refine lv_goto (tgt := 20) hx hb dX7_ticksOf_5 (by decide) ?_
    exact end_I C0 hP hD hS () (by simp only [f_X7_ticksOf, if_pos c_1]) rfl dX7_ticksOf_20

def f_X7_worthOf (p0 : Int32) : Int32 :=
  if p0 = 0 then
    (nI 3)
  else
    if p0 = (nI 1) then
      (nI 5)
    else
      (nI 9)
theorem cd2_X7_worthOf : yX7_worthOf.cls ≠ "java/lang/invoke/MethodHandle" ∧ yX7_worthOf.cls ≠ "java/lang/invoke/VarHandle" ∧ (parseMethodDescriptor yX7_worthOf.desc).map (fun d => d.parameters.length) = some 1 := by decide +kernel
set_option maxHeartbeats 4000000 in
set_option maxRecDepth 100000 in
theorem c_X7_worthOf (l : Launch) (G : GG)   (sz : Nat) (p0 : Int32)  : Met l yX7_worthOf wsX7_worthOf ({ frames := 0, cells := 0, slots := 0, locals := 0 }) (Pre G [.int p0] (([] : va_W)) sz) (PI G (va_A (([] : va_W)) sz) (fun r (_ : Unit) => f_X7_worthOf p0 = r) (fun _ : Unit => ([] : va_W))) 0 0 (va_A (([] : va_W)) sz) := by
  refine Met.walk (cc := cX7_worthOf) (maxL := 1) (ret := (some .int)) (Qc := fun A => PI G A (fun r (_ : Unit) => f_X7_worthOf p0 = r) (fun _ : Unit => ([] : va_W))) (by decide) rfl (Nat.le_of_ble_eq_true rfl) ?_
  intro p e s m below meth c A H C0 _ hK hsz hP hD hA hS ls hl
  have hx := C0.1
  have hb := C0.2.1
  have hown : s.vm.findClass RX7 = some m.cls := C0.2.2.2.2.1
  have hml := C0.2.2.2.1
  have hts : ∀ w ∈ wsX7_worthOf, w.before [.int p0].toArray s = true := C0.2.2.2.2.2.1
  have hl : lv_has ls 1 [(0, .int p0)] := hl
  refine lv_iload_n hx hb dX7_worthOf_0 rfl (lv_at hl 0 rfl) ?_
  refine lv_if_ne (tgt := 8) hx hb dX7_worthOf_1 (by decide) (fun c_1 => ?_) (fun c_1 => ?_)
  · refine lv_iload_n hx hb dX7_worthOf_8 rfl (lv_at hl 0 rfl) ?_
    refine lv_iconst (v := (nI 1)) hx hb dX7_worthOf_9 (by decide) ?_
    refine lv_icmp_ne (tgt := 17) hx hb dX7_worthOf_10 (by decide) (fun c_2 => ?_) (fun c_2 => ?_)
    · refine lv_bipush (v := (nI 9)) hx hb dX7_worthOf_17 (by decide) ?_
      exact end_I C0 hP hD hS () (by simp only [f_X7_worthOf, if_neg c_1, if_neg c_2]) rfl dX7_worthOf_19
    · refine lv_iconst (v := (nI 5)) hx hb dX7_worthOf_13 (by decide) ?_
      refine lv_goto (tgt := 19) hx hb dX7_worthOf_14 (by decide) ?_
      exact end_I C0 hP hD hS () (by simp only [f_X7_worthOf, if_neg c_1, if_pos c_2]) rfl dX7_worthOf_19
  · refine lv_iconst (v := (nI 3)) hx hb dX7_worthOf_4 (by decide) ?_
    refine lv_goto (tgt := 19) hx hb dX7_worthOf_5 (by decide) ?_
    exact end_I C0 hP hD hS () (by simp only [f_X7_worthOf, if_pos c_1]) rfl dX7_worthOf_19

def f_X0_burn (bf : Int32) (bw : Int32) (bp : Int32) (bl : Int32) (bs : Int32) (p0 : Int32) : Int32 × Int32 × Int32 × Int32 × Int32 :=
  if bl ≤ 0 then
    if p0 < bf then
      ((nI 0), (nI 0), bw, bp, bl)
    else
      if bf ≤ bw then
        (bf, bf, (bw - bf), (bp + ((nI 3) * bf)), bl)
      else
        ((nI 0), (nI 0), bw, bp, bl)
  else
    ((nI 0), bf, bw, bp, (bl - (nI 1)))
set_option maxRecDepth 20000 in
theorem k_X0_burn_f15 : Cond.fieldLink RX0 15 "SteamRations$Boiler" "fire" "I" ∈ wsX0_burn := by decide +kernel
set_option maxRecDepth 20000 in
theorem k_X0_burn_f18 : Cond.fieldLink RX0 18 "SteamRations$Boiler" "pressure" "I" ∈ wsX0_burn := by decide +kernel
set_option maxRecDepth 20000 in
theorem k_X0_burn_f21 : Cond.fieldLink RX0 21 "SteamRations$Boiler" "stopLeft" "I" ∈ wsX0_burn := by decide +kernel
set_option maxRecDepth 20000 in
theorem k_X0_burn_f9 : Cond.fieldLink RX0 9 "SteamRations$Boiler" "water" "I" ∈ wsX0_burn := by decide +kernel
set_option maxRecDepth 20000 in
theorem in_X0_burn_RX0 : ∀ w ∈ u_ws RX0 TX0 5, w ∈ wsX0_burn := by decide +kernel
theorem cd_X0_burn : yX0_burn.cls = RX0 ∧ yX0_burn.cls ≠ "java/lang/invoke/MethodHandle" ∧ yX0_burn.cls ≠ "java/lang/invoke/VarHandle" ∧ (parseMethodDescriptor yX0_burn.desc).map (fun d => d.parameters.length) = some 1 := by decide +kernel
set_option maxHeartbeats 4000000 in
set_option maxRecDepth 100000 in
theorem c_X0_burn (l : Launch) (G : GG) (h0 : Nat) (bf : Int32) (bw : Int32) (bp : Int32) (bl : Int32) (bs : Int32) (sz : Nat) (p0 : Int32)  : Met l yX0_burn wsX0_burn ({ frames := 0, cells := 0, slots := 0, locals := 0 }) (Pre G [.ref h0, .int p0] (BL h0 bf bw bp bl bs) sz) (PI G (va_A (BL h0 bf bw bp bl bs) sz) (fun r (u : Int32 × Int32 × Int32 × Int32) => f_X0_burn bf bw bp bl bs p0 = (r, u)) (fun u : Int32 × Int32 × Int32 × Int32 => BL h0 u.1 u.2.1 u.2.2.1 u.2.2.2 bs)) 0 0 (va_A (BL h0 bf bw bp bl bs) sz) := by
  refine Met.walk (cc := cX0_burn) (maxL := 2) (ret := (some .int)) (Qc := fun A => PI G A (fun r (u : Int32 × Int32 × Int32 × Int32) => f_X0_burn bf bw bp bl bs p0 = (r, u)) (fun u : Int32 × Int32 × Int32 × Int32 => BL h0 u.1 u.2.1 u.2.2.1 u.2.2.2 bs)) (by decide) rfl (Nat.le_of_ble_eq_true rfl) ?_
  intro p e s m below meth c A H C0 _ hK hsz hP hD hA hS ls hl
  have hx := C0.1
  have hb := C0.2.1
  have hown : s.vm.findClass RX0 = some m.cls := C0.2.2.2.2.1
  have hml := C0.2.2.2.1
  have hts : ∀ w ∈ wsX0_burn, w.before [.ref h0, .int p0].toArray s = true := C0.2.2.2.2.2.1
  have hl : lv_has ls 2 [(0, .ref h0), (1, .int p0)] := hl
  refine lv_aload_n hx hb dX0_burn_0 rfl (lv_at hl 0 rfl) ?_
  refine va_get (D := G.1) (ci := 0) (v := .int bl) (C := RX0) (T := TX0) (N := 5) hx hb hts in_X0_burn_RX0 hown hK.1 hP 0 rfl rfl 3 (by decide) (hts _ k_X0_burn_f21) (fun _ h9 => h9) rfl dX0_burn_1 ?_
  refine lv_if_le (tgt := 19) hx hb dX0_burn_4 (by decide) (fun c_1 => ?_) (fun c_1 => ?_)
  · refine lv_iload_n hx hb dX0_burn_19 rfl (lv_at hl 1 rfl) ?_
    refine lv_aload_n hx hb dX0_burn_20 rfl (lv_at hl 0 rfl) ?_
    refine va_get (D := G.1) (ci := 0) (v := .int bf) (C := RX0) (T := TX0) (N := 5) hx hb hts in_X0_burn_RX0 hown hK.1 hP 0 rfl rfl 0 (by decide) (hts _ k_X0_burn_f15) (fun _ h9 => h9) rfl dX0_burn_21 ?_
    refine lv_icmp_lt (tgt := 38) hx hb dX0_burn_24 (by decide) (fun c_2 => ?_) (fun c_2 => ?_)
    · refine lv_aload_n hx hb dX0_burn_38 rfl (lv_at hl 0 rfl) ?_
      refine lv_iconst (v := (nI 0)) hx hb dX0_burn_39 (by decide) ?_
      refine va_put (D := G.1) (ci := 0) (v := .int (nI 0)) (ty := .int) (C := RX0) (T := TX0) (N := 5) hx hb hts in_X0_burn_RX0 tyX0 tyX0_ok nmX0 hown hK.1 hP hD hS 0 rfl rfl 0 (by decide) (hts _ k_X0_burn_f15) (fun _ h9 => h9) rfl (by decide +kernel) rfl rfl (Nat.le_of_ble_eq_true rfl) dX0_burn_40 (fun H locs hP hD hS => ?_)
      have hP : va_P G.1 vwCl (BL h0 (nI 0) bw bp bl bs) H := hP
      have hD : va_D A (BL h0 (nI 0) bw bp bl bs) := hD
      refine lv_iconst (v := (nI 0)) hx hb dX0_burn_43 (by decide) ?_
      exact end_I C0 hP hD hS ((nI 0), bw, bp, bl) (by simp only [f_X0_burn, if_pos c_1, if_pos c_2]) rfl dX0_burn_44
    · refine lv_aload_n hx hb dX0_burn_27 rfl (lv_at hl 0 rfl) ?_
      refine va_get (D := G.1) (ci := 0) (v := .int bw) (C := RX0) (T := TX0) (N := 5) hx hb hts in_X0_burn_RX0 hown hK.1 hP 0 rfl rfl 1 (by decide) (hts _ k_X0_burn_f9) (fun _ h9 => h9) rfl dX0_burn_28 ?_
      refine lv_aload_n hx hb dX0_burn_31 rfl (lv_at hl 0 rfl) ?_
      refine va_get (D := G.1) (ci := 0) (v := .int bf) (C := RX0) (T := TX0) (N := 5) hx hb hts in_X0_burn_RX0 hown hK.1 hP 0 rfl rfl 0 (by decide) (hts _ k_X0_burn_f15) (fun _ h9 => h9) rfl dX0_burn_32 ?_
      refine lv_icmp_ge (tgt := 45) hx hb dX0_burn_35 (by decide) (fun c_3 => ?_) (fun c_3 => ?_)
      · refine lv_aload_n hx hb dX0_burn_45 rfl (lv_at hl 0 rfl) ?_
        refine lv_dup hx hb dX0_burn_46 rfl ?_
        refine va_get (D := G.1) (ci := 0) (v := .int bw) (C := RX0) (T := TX0) (N := 5) hx hb hts in_X0_burn_RX0 hown hK.1 hP 0 rfl rfl 1 (by decide) (hts _ k_X0_burn_f9) (fun _ h9 => h9) rfl dX0_burn_47 ?_
        refine lv_aload_n hx hb dX0_burn_50 rfl (lv_at hl 0 rfl) ?_
        refine va_get (D := G.1) (ci := 0) (v := .int bf) (C := RX0) (T := TX0) (N := 5) hx hb hts in_X0_burn_RX0 hown hK.1 hP 0 rfl rfl 0 (by decide) (hts _ k_X0_burn_f15) (fun _ h9 => h9) rfl dX0_burn_51 ?_
        refine lv_isub hx hb dX0_burn_54 ?_
        refine va_put (D := G.1) (ci := 0) (v := .int (bw - bf)) (ty := .int) (C := RX0) (T := TX0) (N := 5) hx hb hts in_X0_burn_RX0 tyX0 tyX0_ok nmX0 hown hK.1 hP hD hS 0 rfl rfl 1 (by decide) (hts _ k_X0_burn_f9) (fun _ h9 => h9) rfl (by decide +kernel) rfl rfl (Nat.le_of_ble_eq_true rfl) dX0_burn_55 (fun H locs hP hD hS => ?_)
        have hP : va_P G.1 vwCl (BL h0 bf (bw - bf) bp bl bs) H := hP
        have hD : va_D A (BL h0 bf (bw - bf) bp bl bs) := hD
        refine lv_aload_n hx hb dX0_burn_58 rfl (lv_at hl 0 rfl) ?_
        refine lv_dup hx hb dX0_burn_59 rfl ?_
        refine va_get (D := G.1) (ci := 0) (v := .int bp) (C := RX0) (T := TX0) (N := 5) hx hb hts in_X0_burn_RX0 hown hK.1 hP 0 rfl rfl 2 (by decide) (hts _ k_X0_burn_f18) (fun _ h9 => h9) rfl dX0_burn_60 ?_
        refine lv_iconst (v := (nI 3)) hx hb dX0_burn_63 (by decide) ?_
        refine lv_aload_n hx hb dX0_burn_64 rfl (lv_at hl 0 rfl) ?_
        refine va_get (D := G.1) (ci := 0) (v := .int bf) (C := RX0) (T := TX0) (N := 5) hx hb hts in_X0_burn_RX0 hown hK.1 hP 0 rfl rfl 0 (by decide) (hts _ k_X0_burn_f15) (fun _ h9 => h9) rfl dX0_burn_65 ?_
        refine lv_imul hx hb dX0_burn_68 ?_
        refine lv_iadd hx hb dX0_burn_69 ?_
        refine va_put (D := G.1) (ci := 0) (v := .int (bp + ((nI 3) * bf))) (ty := .int) (C := RX0) (T := TX0) (N := 5) hx hb hts in_X0_burn_RX0 tyX0 tyX0_ok nmX0 hown hK.1 hP hD hS 0 rfl rfl 2 (by decide) (hts _ k_X0_burn_f18) (fun _ h9 => h9) rfl (by decide +kernel) rfl rfl (Nat.le_of_ble_eq_true rfl) dX0_burn_70 (fun H locs hP hD hS => ?_)
        have hP : va_P G.1 vwCl (BL h0 bf (bw - bf) (bp + ((nI 3) * bf)) bl bs) H := hP
        have hD : va_D A (BL h0 bf (bw - bf) (bp + ((nI 3) * bf)) bl bs) := hD
        refine lv_aload_n hx hb dX0_burn_73 rfl (lv_at hl 0 rfl) ?_
        refine va_get (D := G.1) (ci := 0) (v := .int bf) (C := RX0) (T := TX0) (N := 5) hx hb hts in_X0_burn_RX0 hown hK.1 hP 0 rfl rfl 0 (by decide) (hts _ k_X0_burn_f15) (fun _ h9 => h9) rfl dX0_burn_74 ?_
        exact end_I C0 hP hD hS (bf, (bw - bf), (bp + ((nI 3) * bf)), bl) (by simp only [f_X0_burn, if_pos c_1, if_neg c_2, if_pos c_3]) rfl dX0_burn_77
      · refine lv_aload_n hx hb dX0_burn_38 rfl (lv_at hl 0 rfl) ?_
        refine lv_iconst (v := (nI 0)) hx hb dX0_burn_39 (by decide) ?_
        refine va_put (D := G.1) (ci := 0) (v := .int (nI 0)) (ty := .int) (C := RX0) (T := TX0) (N := 5) hx hb hts in_X0_burn_RX0 tyX0 tyX0_ok nmX0 hown hK.1 hP hD hS 0 rfl rfl 0 (by decide) (hts _ k_X0_burn_f15) (fun _ h9 => h9) rfl (by decide +kernel) rfl rfl (Nat.le_of_ble_eq_true rfl) dX0_burn_40 (fun H locs hP hD hS => ?_)
        have hP : va_P G.1 vwCl (BL h0 (nI 0) bw bp bl bs) H := hP
        have hD : va_D A (BL h0 (nI 0) bw bp bl bs) := hD
        refine lv_iconst (v := (nI 0)) hx hb dX0_burn_43 (by decide) ?_
        exact end_I C0 hP hD hS ((nI 0), bw, bp, bl) (by simp only [f_X0_burn, if_pos c_1, if_neg c_2, if_neg c_3]) rfl dX0_burn_44
  · refine lv_aload_n hx hb dX0_burn_7 rfl (lv_at hl 0 rfl) ?_
    refine lv_dup hx hb dX0_burn_8 rfl ?_
    refine va_get (D := G.1) (ci := 0) (v := .int bl) (C := RX0) (T := TX0) (N := 5) hx hb hts in_X0_burn_RX0 hown hK.1 hP 0 rfl rfl 3 (by decide) (hts _ k_X0_burn_f21) (fun _ h9 => h9) rfl dX0_burn_9 ?_
    refine lv_iconst (v := (nI 1)) hx hb dX0_burn_12 (by decide) ?_
    refine lv_isub hx hb dX0_burn_13 ?_
    refine va_put (D := G.1) (ci := 0) (v := .int (bl - (nI 1))) (ty := .int) (C := RX0) (T := TX0) (N := 5) hx hb hts in_X0_burn_RX0 tyX0 tyX0_ok nmX0 hown hK.1 hP hD hS 0 rfl rfl 3 (by decide) (hts _ k_X0_burn_f21) (fun _ h9 => h9) rfl (by decide +kernel) rfl rfl (Nat.le_of_ble_eq_true rfl) dX0_burn_14 (fun H locs hP hD hS => ?_)
    have hP : va_P G.1 vwCl (BL h0 bf bw bp (bl - (nI 1)) bs) H := hP
    have hD : va_D A (BL h0 bf bw bp (bl - (nI 1)) bs) := hD
    refine lv_iconst (v := (nI 0)) hx hb dX0_burn_17 (by decide) ?_
    exact end_I C0 hP hD hS (bf, bw, bp, (bl - (nI 1))) (by simp only [f_X0_burn, if_neg c_1]) rfl dX0_burn_18

def f_X0_coolDown (bf : Int32) (bw : Int32) (bp : Int32) (bl : Int32) (bs : Int32) : Int32 × Int32 × Int32 × Int32 :=
  if bp ≤ 0 then
    if bp ≤ (nI 70) then
      (bf, bp, bl, bs)
    else
      ((nI 0), (nI 30), (nI 10), (bs + (nI 1)))
  else
    if (bp - (nI 1)) ≤ (nI 70) then
      (bf, (bp - (nI 1)), bl, bs)
    else
      ((nI 0), (nI 30), (nI 10), (bs + (nI 1)))
set_option maxRecDepth 20000 in
theorem k_X0_coolDown_f15 : Cond.fieldLink RX0 15 "SteamRations$Boiler" "fire" "I" ∈ wsX0_coolDown := by decide +kernel
set_option maxRecDepth 20000 in
theorem k_X0_coolDown_f18 : Cond.fieldLink RX0 18 "SteamRations$Boiler" "pressure" "I" ∈ wsX0_coolDown := by decide +kernel
set_option maxRecDepth 20000 in
theorem k_X0_coolDown_f21 : Cond.fieldLink RX0 21 "SteamRations$Boiler" "stopLeft" "I" ∈ wsX0_coolDown := by decide +kernel
set_option maxRecDepth 20000 in
theorem k_X0_coolDown_f24 : Cond.fieldLink RX0 24 "SteamRations$Boiler" "stops" "I" ∈ wsX0_coolDown := by decide +kernel
set_option maxRecDepth 20000 in
theorem in_X0_coolDown_RX0 : ∀ w ∈ u_ws RX0 TX0 5, w ∈ wsX0_coolDown := by decide +kernel
theorem cd_X0_coolDown : yX0_coolDown.cls = RX0 ∧ yX0_coolDown.cls ≠ "java/lang/invoke/MethodHandle" ∧ yX0_coolDown.cls ≠ "java/lang/invoke/VarHandle" ∧ (parseMethodDescriptor yX0_coolDown.desc).map (fun d => d.parameters.length) = some 0 := by decide +kernel
set_option maxHeartbeats 4000000 in
set_option maxRecDepth 100000 in
theorem c_X0_coolDown (l : Launch) (G : GG) (h0 : Nat) (bf : Int32) (bw : Int32) (bp : Int32) (bl : Int32) (bs : Int32) (sz : Nat)   : Met l yX0_coolDown wsX0_coolDown ({ frames := 0, cells := 0, slots := 0, locals := 0 }) (Pre G [.ref h0] (BL h0 bf bw bp bl bs) sz) (PV G (va_A (BL h0 bf bw bp bl bs) sz) (fun u : Int32 × Int32 × Int32 × Int32 => f_X0_coolDown bf bw bp bl bs = u) (fun u : Int32 × Int32 × Int32 × Int32 => BL h0 u.1 bw u.2.1 u.2.2.1 u.2.2.2)) 0 0 (va_A (BL h0 bf bw bp bl bs) sz) := by
  refine Met.walk (cc := cX0_coolDown) (maxL := 1) (ret := none) (Qc := fun A => PV G A (fun u : Int32 × Int32 × Int32 × Int32 => f_X0_coolDown bf bw bp bl bs = u) (fun u : Int32 × Int32 × Int32 × Int32 => BL h0 u.1 bw u.2.1 u.2.2.1 u.2.2.2)) (by decide) rfl (Nat.le_of_ble_eq_true rfl) ?_
  intro p e s m below meth c A H C0 _ hK hsz hP hD hA hS ls hl
  have hx := C0.1
  have hb := C0.2.1
  have hown : s.vm.findClass RX0 = some m.cls := C0.2.2.2.2.1
  have hml := C0.2.2.2.1
  have hts : ∀ w ∈ wsX0_coolDown, w.before [.ref h0].toArray s = true := C0.2.2.2.2.2.1
  have hl : lv_has ls 1 [(0, .ref h0)] := hl
  refine lv_aload_n hx hb dX0_coolDown_0 rfl (lv_at hl 0 rfl) ?_
  refine va_get (D := G.1) (ci := 0) (v := .int bp) (C := RX0) (T := TX0) (N := 5) hx hb hts in_X0_coolDown_RX0 hown hK.1 hP 0 rfl rfl 2 (by decide) (hts _ k_X0_coolDown_f18) (fun _ h9 => h9) rfl dX0_coolDown_1 ?_
  refine lv_if_le (tgt := 17) hx hb dX0_coolDown_4 (by decide) (fun c_1 => ?_) (fun c_1 => ?_)
  · refine lv_aload_n hx hb dX0_coolDown_17 rfl (lv_at hl 0 rfl) ?_
    refine va_get (D := G.1) (ci := 0) (v := .int bp) (C := RX0) (T := TX0) (N := 5) hx hb hts in_X0_coolDown_RX0 hown hK.1 hP 0 rfl rfl 2 (by decide) (hts _ k_X0_coolDown_f18) (fun _ h9 => h9) rfl dX0_coolDown_18 ?_
    refine lv_bipush (v := (nI 70)) hx hb dX0_coolDown_21 (by decide) ?_
    refine lv_icmp_le (tgt := 53) hx hb dX0_coolDown_23 (by decide) (fun c_2 => ?_) (fun c_2 => ?_)
    · exact end_V C0 hP hD hS (bf, bp, bl, bs) (by simp only [f_X0_coolDown, if_pos c_1, if_pos c_2]) rfl dX0_coolDown_53
    · refine lv_aload_n hx hb dX0_coolDown_26 rfl (lv_at hl 0 rfl) ?_
      refine lv_bipush (v := (nI 30)) hx hb dX0_coolDown_27 (by decide) ?_
      refine va_put (D := G.1) (ci := 0) (v := .int (nI 30)) (ty := .int) (C := RX0) (T := TX0) (N := 5) hx hb hts in_X0_coolDown_RX0 tyX0 tyX0_ok nmX0 hown hK.1 hP hD hS 0 rfl rfl 2 (by decide) (hts _ k_X0_coolDown_f18) (fun _ h9 => h9) rfl (by decide +kernel) rfl rfl (Nat.le_of_ble_eq_true rfl) dX0_coolDown_29 (fun H locs hP hD hS => ?_)
      have hP : va_P G.1 vwCl (BL h0 bf bw (nI 30) bl bs) H := hP
      have hD : va_D A (BL h0 bf bw (nI 30) bl bs) := hD
      refine lv_aload_n hx hb dX0_coolDown_32 rfl (lv_at hl 0 rfl) ?_
      refine lv_iconst (v := (nI 0)) hx hb dX0_coolDown_33 (by decide) ?_
      refine va_put (D := G.1) (ci := 0) (v := .int (nI 0)) (ty := .int) (C := RX0) (T := TX0) (N := 5) hx hb hts in_X0_coolDown_RX0 tyX0 tyX0_ok nmX0 hown hK.1 hP hD hS 0 rfl rfl 0 (by decide) (hts _ k_X0_coolDown_f15) (fun _ h9 => h9) rfl (by decide +kernel) rfl rfl (Nat.le_of_ble_eq_true rfl) dX0_coolDown_34 (fun H locs hP hD hS => ?_)
      have hP : va_P G.1 vwCl (BL h0 (nI 0) bw (nI 30) bl bs) H := hP
      have hD : va_D A (BL h0 (nI 0) bw (nI 30) bl bs) := hD
      refine lv_aload_n hx hb dX0_coolDown_37 rfl (lv_at hl 0 rfl) ?_
      refine lv_bipush (v := (nI 10)) hx hb dX0_coolDown_38 (by decide) ?_
      refine va_put (D := G.1) (ci := 0) (v := .int (nI 10)) (ty := .int) (C := RX0) (T := TX0) (N := 5) hx hb hts in_X0_coolDown_RX0 tyX0 tyX0_ok nmX0 hown hK.1 hP hD hS 0 rfl rfl 3 (by decide) (hts _ k_X0_coolDown_f21) (fun _ h9 => h9) rfl (by decide +kernel) rfl rfl (Nat.le_of_ble_eq_true rfl) dX0_coolDown_40 (fun H locs hP hD hS => ?_)
      have hP : va_P G.1 vwCl (BL h0 (nI 0) bw (nI 30) (nI 10) bs) H := hP
      have hD : va_D A (BL h0 (nI 0) bw (nI 30) (nI 10) bs) := hD
      refine lv_aload_n hx hb dX0_coolDown_43 rfl (lv_at hl 0 rfl) ?_
      refine lv_dup hx hb dX0_coolDown_44 rfl ?_
      refine va_get (D := G.1) (ci := 0) (v := .int bs) (C := RX0) (T := TX0) (N := 5) hx hb hts in_X0_coolDown_RX0 hown hK.1 hP 0 rfl rfl 4 (by decide) (hts _ k_X0_coolDown_f24) (fun _ h9 => h9) rfl dX0_coolDown_45 ?_
      refine lv_iconst (v := (nI 1)) hx hb dX0_coolDown_48 (by decide) ?_
      refine lv_iadd hx hb dX0_coolDown_49 ?_
      refine va_put (D := G.1) (ci := 0) (v := .int (bs + (nI 1))) (ty := .int) (C := RX0) (T := TX0) (N := 5) hx hb hts in_X0_coolDown_RX0 tyX0 tyX0_ok nmX0 hown hK.1 hP hD hS 0 rfl rfl 4 (by decide) (hts _ k_X0_coolDown_f24) (fun _ h9 => h9) rfl (by decide +kernel) rfl rfl (Nat.le_of_ble_eq_true rfl) dX0_coolDown_50 (fun H locs hP hD hS => ?_)
      have hP : va_P G.1 vwCl (BL h0 (nI 0) bw (nI 30) (nI 10) (bs + (nI 1))) H := hP
      have hD : va_D A (BL h0 (nI 0) bw (nI 30) (nI 10) (bs + (nI 1))) := hD
      exact end_V C0 hP hD hS ((nI 0), (nI 30), (nI 10), (bs + (nI 1))) (by simp only [f_X0_coolDown, if_pos c_1, if_neg c_2]) rfl dX0_coolDown_53
  · refine lv_aload_n hx hb dX0_coolDown_7 rfl (lv_at hl 0 rfl) ?_
    refine lv_dup hx hb dX0_coolDown_8 rfl ?_
    refine va_get (D := G.1) (ci := 0) (v := .int bp) (C := RX0) (T := TX0) (N := 5) hx hb hts in_X0_coolDown_RX0 hown hK.1 hP 0 rfl rfl 2 (by decide) (hts _ k_X0_coolDown_f18) (fun _ h9 => h9) rfl dX0_coolDown_9 ?_
    refine lv_iconst (v := (nI 1)) hx hb dX0_coolDown_12 (by decide) ?_
    refine lv_isub hx hb dX0_coolDown_13 ?_
    refine va_put (D := G.1) (ci := 0) (v := .int (bp - (nI 1))) (ty := .int) (C := RX0) (T := TX0) (N := 5) hx hb hts in_X0_coolDown_RX0 tyX0 tyX0_ok nmX0 hown hK.1 hP hD hS 0 rfl rfl 2 (by decide) (hts _ k_X0_coolDown_f18) (fun _ h9 => h9) rfl (by decide +kernel) rfl rfl (Nat.le_of_ble_eq_true rfl) dX0_coolDown_14 (fun H locs hP hD hS => ?_)
    have hP : va_P G.1 vwCl (BL h0 bf bw (bp - (nI 1)) bl bs) H := hP
    have hD : va_D A (BL h0 bf bw (bp - (nI 1)) bl bs) := hD
    refine lv_aload_n hx hb dX0_coolDown_17 rfl (lv_at hl 0 rfl) ?_
    refine va_get (D := G.1) (ci := 0) (v := .int (bp - (nI 1))) (C := RX0) (T := TX0) (N := 5) hx hb hts in_X0_coolDown_RX0 hown hK.1 hP 0 rfl rfl 2 (by decide) (hts _ k_X0_coolDown_f18) (fun _ h9 => h9) rfl dX0_coolDown_18 ?_
    refine lv_bipush (v := (nI 70)) hx hb dX0_coolDown_21 (by decide) ?_
    refine lv_icmp_le (tgt := 53) hx hb dX0_coolDown_23 (by decide) (fun c_3 => ?_) (fun c_3 => ?_)
    · exact end_V C0 hP hD hS (bf, (bp - (nI 1)), bl, bs) (by simp only [f_X0_coolDown, if_neg c_1, if_pos c_3]) rfl dX0_coolDown_53
    · refine lv_aload_n hx hb dX0_coolDown_26 rfl (lv_at hl 0 rfl) ?_
      refine lv_bipush (v := (nI 30)) hx hb dX0_coolDown_27 (by decide) ?_
      refine va_put (D := G.1) (ci := 0) (v := .int (nI 30)) (ty := .int) (C := RX0) (T := TX0) (N := 5) hx hb hts in_X0_coolDown_RX0 tyX0 tyX0_ok nmX0 hown hK.1 hP hD hS 0 rfl rfl 2 (by decide) (hts _ k_X0_coolDown_f18) (fun _ h9 => h9) rfl (by decide +kernel) rfl rfl (Nat.le_of_ble_eq_true rfl) dX0_coolDown_29 (fun H locs hP hD hS => ?_)
      have hP : va_P G.1 vwCl (BL h0 bf bw (nI 30) bl bs) H := hP
      have hD : va_D A (BL h0 bf bw (nI 30) bl bs) := hD
      refine lv_aload_n hx hb dX0_coolDown_32 rfl (lv_at hl 0 rfl) ?_
      refine lv_iconst (v := (nI 0)) hx hb dX0_coolDown_33 (by decide) ?_
      refine va_put (D := G.1) (ci := 0) (v := .int (nI 0)) (ty := .int) (C := RX0) (T := TX0) (N := 5) hx hb hts in_X0_coolDown_RX0 tyX0 tyX0_ok nmX0 hown hK.1 hP hD hS 0 rfl rfl 0 (by decide) (hts _ k_X0_coolDown_f15) (fun _ h9 => h9) rfl (by decide +kernel) rfl rfl (Nat.le_of_ble_eq_true rfl) dX0_coolDown_34 (fun H locs hP hD hS => ?_)
      have hP : va_P G.1 vwCl (BL h0 (nI 0) bw (nI 30) bl bs) H := hP
      have hD : va_D A (BL h0 (nI 0) bw (nI 30) bl bs) := hD
      refine lv_aload_n hx hb dX0_coolDown_37 rfl (lv_at hl 0 rfl) ?_
      refine lv_bipush (v := (nI 10)) hx hb dX0_coolDown_38 (by decide) ?_
      refine va_put (D := G.1) (ci := 0) (v := .int (nI 10)) (ty := .int) (C := RX0) (T := TX0) (N := 5) hx hb hts in_X0_coolDown_RX0 tyX0 tyX0_ok nmX0 hown hK.1 hP hD hS 0 rfl rfl 3 (by decide) (hts _ k_X0_coolDown_f21) (fun _ h9 => h9) rfl (by decide +kernel) rfl rfl (Nat.le_of_ble_eq_true rfl) dX0_coolDown_40 (fun H locs hP hD hS => ?_)
      have hP : va_P G.1 vwCl (BL h0 (nI 0) bw (nI 30) (nI 10) bs) H := hP
      have hD : va_D A (BL h0 (nI 0) bw (nI 30) (nI 10) bs) := hD
      refine lv_aload_n hx hb dX0_coolDown_43 rfl (lv_at hl 0 rfl) ?_
      refine lv_dup hx hb dX0_coolDown_44 rfl ?_
      refine va_get (D := G.1) (ci := 0) (v := .int bs) (C := RX0) (T := TX0) (N := 5) hx hb hts in_X0_coolDown_RX0 hown hK.1 hP 0 rfl rfl 4 (by decide) (hts _ k_X0_coolDown_f24) (fun _ h9 => h9) rfl dX0_coolDown_45 ?_
      refine lv_iconst (v := (nI 1)) hx hb dX0_coolDown_48 (by decide) ?_
      refine lv_iadd hx hb dX0_coolDown_49 ?_
      refine va_put (D := G.1) (ci := 0) (v := .int (bs + (nI 1))) (ty := .int) (C := RX0) (T := TX0) (N := 5) hx hb hts in_X0_coolDown_RX0 tyX0 tyX0_ok nmX0 hown hK.1 hP hD hS 0 rfl rfl 4 (by decide) (hts _ k_X0_coolDown_f24) (fun _ h9 => h9) rfl (by decide +kernel) rfl rfl (Nat.le_of_ble_eq_true rfl) dX0_coolDown_50 (fun H locs hP hD hS => ?_)
      have hP : va_P G.1 vwCl (BL h0 (nI 0) bw (nI 30) (nI 10) (bs + (nI 1))) H := hP
      have hD : va_D A (BL h0 (nI 0) bw (nI 30) (nI 10) (bs + (nI 1))) := hD
      exact end_V C0 hP hD hS ((nI 0), (nI 30), (nI 10), (bs + (nI 1))) (by simp only [f_X0_coolDown, if_neg c_1, if_neg c_3]) rfl dX0_coolDown_53

def f_X0_copyFrom (bf : Int32) (bw : Int32) (bp : Int32) (bl : Int32) (bs : Int32) (obf : Int32) (obw : Int32) (obp : Int32) (obl : Int32) (obs : Int32) : Int32 × Int32 × Int32 × Int32 × Int32 :=
  (obf, obw, obp, obl, obs)
set_option maxRecDepth 20000 in
theorem k_X0_copyFrom_f15 : Cond.fieldLink RX0 15 "SteamRations$Boiler" "fire" "I" ∈ wsX0_copyFrom := by decide +kernel
set_option maxRecDepth 20000 in
theorem k_X0_copyFrom_f18 : Cond.fieldLink RX0 18 "SteamRations$Boiler" "pressure" "I" ∈ wsX0_copyFrom := by decide +kernel
set_option maxRecDepth 20000 in
theorem k_X0_copyFrom_f21 : Cond.fieldLink RX0 21 "SteamRations$Boiler" "stopLeft" "I" ∈ wsX0_copyFrom := by decide +kernel
set_option maxRecDepth 20000 in
theorem k_X0_copyFrom_f24 : Cond.fieldLink RX0 24 "SteamRations$Boiler" "stops" "I" ∈ wsX0_copyFrom := by decide +kernel
set_option maxRecDepth 20000 in
theorem k_X0_copyFrom_f9 : Cond.fieldLink RX0 9 "SteamRations$Boiler" "water" "I" ∈ wsX0_copyFrom := by decide +kernel
set_option maxRecDepth 20000 in
theorem in_X0_copyFrom_RX0 : ∀ w ∈ u_ws RX0 TX0 5, w ∈ wsX0_copyFrom := by decide +kernel
theorem cd_X0_copyFrom : yX0_copyFrom.cls = RX0 ∧ yX0_copyFrom.cls ≠ "java/lang/invoke/MethodHandle" ∧ yX0_copyFrom.cls ≠ "java/lang/invoke/VarHandle" ∧ (parseMethodDescriptor yX0_copyFrom.desc).map (fun d => d.parameters.length) = some 1 := by decide +kernel
set_option maxHeartbeats 4000000 in
set_option maxRecDepth 100000 in
theorem c_X0_copyFrom (l : Launch) (G : GG) (h0 : Nat) (h1 : Nat) (bf : Int32) (bw : Int32) (bp : Int32) (bl : Int32) (bs : Int32) (obf : Int32) (obw : Int32) (obp : Int32) (obl : Int32) (obs : Int32) (sz : Nat)   : Met l yX0_copyFrom wsX0_copyFrom ({ frames := 0, cells := 0, slots := 0, locals := 0 }) (Pre G [.ref h0, .ref h1] (BL h0 bf bw bp bl bs ++ BL h1 obf obw obp obl obs) sz) (PV G (va_A (BL h0 bf bw bp bl bs ++ BL h1 obf obw obp obl obs) sz) (fun u : Int32 × Int32 × Int32 × Int32 × Int32 => f_X0_copyFrom bf bw bp bl bs obf obw obp obl obs = u) (fun u : Int32 × Int32 × Int32 × Int32 × Int32 => BL h0 u.1 u.2.1 u.2.2.1 u.2.2.2.1 u.2.2.2.2 ++ BL h1 obf obw obp obl obs)) 0 0 (va_A (BL h0 bf bw bp bl bs ++ BL h1 obf obw obp obl obs) sz) := by
  refine Met.walk (cc := cX0_copyFrom) (maxL := 2) (ret := none) (Qc := fun A => PV G A (fun u : Int32 × Int32 × Int32 × Int32 × Int32 => f_X0_copyFrom bf bw bp bl bs obf obw obp obl obs = u) (fun u : Int32 × Int32 × Int32 × Int32 × Int32 => BL h0 u.1 u.2.1 u.2.2.1 u.2.2.2.1 u.2.2.2.2 ++ BL h1 obf obw obp obl obs)) (by decide) rfl (Nat.le_of_ble_eq_true rfl) ?_
  intro p e s m below meth c A H C0 _ hK hsz hP hD hA hS ls hl
  have hx := C0.1
  have hb := C0.2.1
  have hown : s.vm.findClass RX0 = some m.cls := C0.2.2.2.2.1
  have hml := C0.2.2.2.1
  have hts : ∀ w ∈ wsX0_copyFrom, w.before [.ref h0, .ref h1].toArray s = true := C0.2.2.2.2.2.1
  have hl : lv_has ls 2 [(0, .ref h0), (1, .ref h1)] := hl
  refine lv_aload_n hx hb dX0_copyFrom_0 rfl (lv_at hl 0 rfl) ?_
  refine lv_aload_n hx hb dX0_copyFrom_1 rfl (lv_at hl 1 rfl) ?_
  refine va_get (D := G.1) (ci := 0) (v := .int obf) (C := RX0) (T := TX0) (N := 5) hx hb hts in_X0_copyFrom_RX0 hown hK.1 hP 1 rfl rfl 0 (by decide) (hts _ k_X0_copyFrom_f15) (fun _ h9 => h9) rfl dX0_copyFrom_2 ?_
  refine va_put (D := G.1) (ci := 0) (v := .int obf) (ty := .int) (C := RX0) (T := TX0) (N := 5) hx hb hts in_X0_copyFrom_RX0 tyX0 tyX0_ok nmX0 hown hK.1 hP hD hS 0 rfl rfl 0 (by decide) (hts _ k_X0_copyFrom_f15) (fun _ h9 => h9) rfl (by decide +kernel) rfl rfl (Nat.le_of_ble_eq_true rfl) dX0_copyFrom_5 (fun H locs hP hD hS => ?_)
  have hP : va_P G.1 vwCl (BL h0 obf bw bp bl bs ++ BL h1 obf obw obp obl obs) H := hP
  have hD : va_D A (BL h0 obf bw bp bl bs ++ BL h1 obf obw obp obl obs) := hD
  refine lv_aload_n hx hb dX0_copyFrom_8 rfl (lv_at hl 0 rfl) ?_
  refine lv_aload_n hx hb dX0_copyFrom_9 rfl (lv_at hl 1 rfl) ?_
  refine va_get (D := G.1) (ci := 0) (v := .int obw) (C := RX0) (T := TX0) (N := 5) hx hb hts in_X0_copyFrom_RX0 hown hK.1 hP 1 rfl rfl 1 (by decide) (hts _ k_X0_copyFrom_f9) (fun _ h9 => h9) rfl dX0_copyFrom_10 ?_
  refine va_put (D := G.1) (ci := 0) (v := .int obw) (ty := .int) (C := RX0) (T := TX0) (N := 5) hx hb hts in_X0_copyFrom_RX0 tyX0 tyX0_ok nmX0 hown hK.1 hP hD hS 0 rfl rfl 1 (by decide) (hts _ k_X0_copyFrom_f9) (fun _ h9 => h9) rfl (by decide +kernel) rfl rfl (Nat.le_of_ble_eq_true rfl) dX0_copyFrom_13 (fun H locs hP hD hS => ?_)
  have hP : va_P G.1 vwCl (BL h0 obf obw bp bl bs ++ BL h1 obf obw obp obl obs) H := hP
  have hD : va_D A (BL h0 obf obw bp bl bs ++ BL h1 obf obw obp obl obs) := hD
  refine lv_aload_n hx hb dX0_copyFrom_16 rfl (lv_at hl 0 rfl) ?_
  refine lv_aload_n hx hb dX0_copyFrom_17 rfl (lv_at hl 1 rfl) ?_
  refine va_get (D := G.1) (ci := 0) (v := .int obp) (C := RX0) (T := TX0) (N := 5) hx hb hts in_X0_copyFrom_RX0 hown hK.1 hP 1 rfl rfl 2 (by decide) (hts _ k_X0_copyFrom_f18) (fun _ h9 => h9) rfl dX0_copyFrom_18 ?_
  refine va_put (D := G.1) (ci := 0) (v := .int obp) (ty := .int) (C := RX0) (T := TX0) (N := 5) hx hb hts in_X0_copyFrom_RX0 tyX0 tyX0_ok nmX0 hown hK.1 hP hD hS 0 rfl rfl 2 (by decide) (hts _ k_X0_copyFrom_f18) (fun _ h9 => h9) rfl (by decide +kernel) rfl rfl (Nat.le_of_ble_eq_true rfl) dX0_copyFrom_21 (fun H locs hP hD hS => ?_)
  have hP : va_P G.1 vwCl (BL h0 obf obw obp bl bs ++ BL h1 obf obw obp obl obs) H := hP
  have hD : va_D A (BL h0 obf obw obp bl bs ++ BL h1 obf obw obp obl obs) := hD
  refine lv_aload_n hx hb dX0_copyFrom_24 rfl (lv_at hl 0 rfl) ?_
  refine lv_aload_n hx hb dX0_copyFrom_25 rfl (lv_at hl 1 rfl) ?_
  refine va_get (D := G.1) (ci := 0) (v := .int obl) (C := RX0) (T := TX0) (N := 5) hx hb hts in_X0_copyFrom_RX0 hown hK.1 hP 1 rfl rfl 3 (by decide) (hts _ k_X0_copyFrom_f21) (fun _ h9 => h9) rfl dX0_copyFrom_26 ?_
  refine va_put (D := G.1) (ci := 0) (v := .int obl) (ty := .int) (C := RX0) (T := TX0) (N := 5) hx hb hts in_X0_copyFrom_RX0 tyX0 tyX0_ok nmX0 hown hK.1 hP hD hS 0 rfl rfl 3 (by decide) (hts _ k_X0_copyFrom_f21) (fun _ h9 => h9) rfl (by decide +kernel) rfl rfl (Nat.le_of_ble_eq_true rfl) dX0_copyFrom_29 (fun H locs hP hD hS => ?_)
  have hP : va_P G.1 vwCl (BL h0 obf obw obp obl bs ++ BL h1 obf obw obp obl obs) H := hP
  have hD : va_D A (BL h0 obf obw obp obl bs ++ BL h1 obf obw obp obl obs) := hD
  refine lv_aload_n hx hb dX0_copyFrom_32 rfl (lv_at hl 0 rfl) ?_
  refine lv_aload_n hx hb dX0_copyFrom_33 rfl (lv_at hl 1 rfl) ?_
  refine va_get (D := G.1) (ci := 0) (v := .int obs) (C := RX0) (T := TX0) (N := 5) hx hb hts in_X0_copyFrom_RX0 hown hK.1 hP 1 rfl rfl 4 (by decide) (hts _ k_X0_copyFrom_f24) (fun _ h9 => h9) rfl dX0_copyFrom_34 ?_
  refine va_put (D := G.1) (ci := 0) (v := .int obs) (ty := .int) (C := RX0) (T := TX0) (N := 5) hx hb hts in_X0_copyFrom_RX0 tyX0 tyX0_ok nmX0 hown hK.1 hP hD hS 0 rfl rfl 4 (by decide) (hts _ k_X0_copyFrom_f24) (fun _ h9 => h9) rfl (by decide +kernel) rfl rfl (Nat.le_of_ble_eq_true rfl) dX0_copyFrom_37 (fun H locs hP hD hS => ?_)
  have hP : va_P G.1 vwCl (BL h0 obf obw obp obl obs ++ BL h1 obf obw obp obl obs) H := hP
  have hD : va_D A (BL h0 obf obw obp obl obs ++ BL h1 obf obw obp obl obs) := hD
  exact end_V C0 hP hD hS (obf, obw, obp, obl, obs) (by simp only [f_X0_copyFrom]) rfl dX0_copyFrom_40

def f_X3_isEmpty (mk : Int32) (mt : Int32) (mw : Int32) : Int32 :=
  if mk = (-5) then
    (nI 1)
  else
    (nI 0)
set_option maxRecDepth 20000 in
theorem k_X3_isEmpty_f9 : Cond.fieldLink RX3 9 "SteamRations$Machine" "kind" "I" ∈ wsX3_isEmpty := by decide +kernel
set_option maxRecDepth 20000 in
theorem in_X3_isEmpty_RX3 : ∀ w ∈ u_ws RX3 TX3 3, w ∈ wsX3_isEmpty := by decide +kernel
theorem cd_X3_isEmpty : yX3_isEmpty.cls = RX3 ∧ yX3_isEmpty.cls ≠ "java/lang/invoke/MethodHandle" ∧ yX3_isEmpty.cls ≠ "java/lang/invoke/VarHandle" ∧ (parseMethodDescriptor yX3_isEmpty.desc).map (fun d => d.parameters.length) = some 0 := by decide +kernel
set_option maxHeartbeats 4000000 in
set_option maxRecDepth 100000 in
theorem c_X3_isEmpty (l : Launch) (G : GG) (h0 : Nat) (mk : Int32) (mt : Int32) (mw : Int32) (sz : Nat)   : Met l yX3_isEmpty wsX3_isEmpty ({ frames := 0, cells := 0, slots := 0, locals := 0 }) (Pre G [.ref h0] (MA h0 mk mt mw) sz) (PI G (va_A (MA h0 mk mt mw) sz) (fun r (u : Unit) => f_X3_isEmpty mk mt mw = r ∧ (r = nI 0 ∨ r = nI 1)) (fun _ : Unit => MA h0 mk mt mw)) 0 0 (va_A (MA h0 mk mt mw) sz) := by
  refine Met.walk (cc := cX3_isEmpty) (maxL := 1) (ret := (some .boolean)) (Qc := fun A => PI G A (fun r (u : Unit) => f_X3_isEmpty mk mt mw = r ∧ (r = nI 0 ∨ r = nI 1)) (fun _ : Unit => MA h0 mk mt mw)) (by decide) rfl (Nat.le_of_ble_eq_true rfl) ?_
  intro p e s m below meth c A H C0 _ hK hsz hP hD hA hS ls hl
  have hx := C0.1
  have hb := C0.2.1
  have hown : s.vm.findClass RX3 = some m.cls := C0.2.2.2.2.1
  have hml := C0.2.2.2.1
  have hts : ∀ w ∈ wsX3_isEmpty, w.before [.ref h0].toArray s = true := C0.2.2.2.2.2.1
  have hl : lv_has ls 1 [(0, .ref h0)] := hl
  refine lv_aload_n hx hb dX3_isEmpty_0 rfl (lv_at hl 0 rfl) ?_
  refine va_get (D := G.1) (ci := 3) (v := .int mk) (C := RX3) (T := TX3) (N := 3) hx hb hts in_X3_isEmpty_RX3 hown hK.1 hP 0 rfl rfl 0 (by decide) (hts _ k_X3_isEmpty_f9) (fun _ h9 => h9) rfl dX3_isEmpty_1 ?_
  refine lv_bipush (v := (-5)) hx hb dX3_isEmpty_4 (by decide) ?_
  refine lv_icmp_ne (tgt := 13) hx hb dX3_isEmpty_6 (by decide) (fun c_1 => ?_) (fun c_1 => ?_)
  · refine lv_iconst (v := (nI 0)) hx hb dX3_isEmpty_13 (by decide) ?_
    exact end_Z C0 (by decide) hP hD hS () ⟨(by simp only [f_X3_isEmpty, if_neg c_1]), by decide⟩ rfl dX3_isEmpty_14
  · refine lv_iconst (v := (nI 1)) hx hb dX3_isEmpty_9 (by decide) ?_
    refine lv_goto (tgt := 14) hx hb dX3_isEmpty_10 (by decide) ?_
    exact end_Z C0 (by decide) hP hD hS () ⟨(by simp only [f_X3_isEmpty, if_pos c_1]), by decide⟩ rfl dX3_isEmpty_14

def f_X3_put (mk : Int32) (mt : Int32) (mw : Int32) (p0 : Int32) : Int32 × Int32 × Int32 :=
  (p0, (f_X6_ticksOf p0), (nI 0))
set_option maxRecDepth 20000 in
theorem k_X3_put_f15 : Cond.fieldLink RX3 15 "SteamRations$Machine" "left" "I" ∈ wsX3_put := by decide +kernel
set_option maxRecDepth 20000 in
theorem k_X3_put_f18 : Cond.fieldLink RX3 18 "SteamRations$Machine" "waits" "I" ∈ wsX3_put := by decide +kernel
set_option maxRecDepth 20000 in
theorem k_X3_put_f9 : Cond.fieldLink RX3 9 "SteamRations$Machine" "kind" "I" ∈ wsX3_put := by decide +kernel
set_option maxRecDepth 20000 in
theorem in_X3_put_RX3 : ∀ w ∈ u_ws RX3 TX3 3, w ∈ wsX3_put := by decide +kernel
theorem cd_X3_put : yX3_put.cls = RX3 ∧ yX3_put.cls ≠ "java/lang/invoke/MethodHandle" ∧ yX3_put.cls ≠ "java/lang/invoke/VarHandle" ∧ (parseMethodDescriptor yX3_put.desc).map (fun d => d.parameters.length) = some 1 := by decide +kernel
set_option maxHeartbeats 4000000 in
set_option maxRecDepth 100000 in
theorem c_X3_put (l : Launch) (G : GG) (h0 : Nat) (mk : Int32) (mt : Int32) (mw : Int32) (sz : Nat) (p0 : Int32)  : Met l yX3_put wsX3_put ({ frames := 1, cells := 0, slots := 0, locals := 20 }) (Pre G [.ref h0, .int p0] (MA h0 mk mt mw) sz) (PV G (va_A (MA h0 mk mt mw) sz) (fun u : Int32 × Int32 × Int32 => f_X3_put mk mt mw p0 = u) (fun u : Int32 × Int32 × Int32 => MA h0 u.1 u.2.1 u.2.2)) 0 0 (va_A (MA h0 mk mt mw) sz) := by
  refine Met.walk (cc := cX3_put) (maxL := 2) (ret := none) (Qc := fun A => PV G A (fun u : Int32 × Int32 × Int32 => f_X3_put mk mt mw p0 = u) (fun u : Int32 × Int32 × Int32 => MA h0 u.1 u.2.1 u.2.2)) (by decide) rfl (Nat.le_of_ble_eq_true rfl) ?_
  intro p e s m below meth c A H C0 _ hK hsz hP hD hA hS ls hl
  have hx := C0.1
  have hb := C0.2.1
  have hown : s.vm.findClass RX3 = some m.cls := C0.2.2.2.2.1
  have hml := C0.2.2.2.1
  have hts : ∀ w ∈ wsX3_put, w.before [.ref h0, .int p0].toArray s = true := C0.2.2.2.2.2.1
  have hl : lv_has ls 2 [(0, .ref h0), (1, .int p0)] := hl
  refine lv_aload_n hx hb dX3_put_0 rfl (lv_at hl 0 rfl) ?_
  refine lv_iload_n hx hb dX3_put_1 rfl (lv_at hl 1 rfl) ?_
  refine va_put (D := G.1) (ci := 3) (v := .int p0) (ty := .int) (C := RX3) (T := TX3) (N := 3) hx hb hts in_X3_put_RX3 tyX3 tyX3_ok nmX3 hown hK.1 hP hD hS 0 rfl rfl 0 (by decide) (hts _ k_X3_put_f9) (fun _ h9 => h9) rfl (by decide +kernel) rfl rfl (Nat.le_of_ble_eq_true rfl) dX3_put_2 (fun H locs hP hD hS => ?_)
  have hP : va_P G.1 vwCl (MA h0 p0 mt mw) H := hP
  have hD : va_D A (MA h0 p0 mt mw) := hD
  refine lv_aload_n hx hb dX3_put_5 rfl (lv_at hl 0 rfl) ?_
  refine lv_iload_n hx hb dX3_put_6 rfl (lv_at hl 1 rfl) ?_
  refine gcall_I (run_SN (As := [.int p0]) (rest := [.ref h0]) C0 hK hP hD (c_X6_ticksOf l G   H.size p0) (va_cnB 1 hts gX3_put_X6_ticksOf_n21 rfl rfl rfl hK.2.2.1 (hts _ (by decide +kernel)) cd2_X6_ticksOf ⟨Nat.le_of_ble_eq_true rfl, Nat.le_of_ble_eq_true rfl⟩) (hts _ (by decide +kernel)) [] rfl rfl rfl hl.1 rfl (by decide) dX3_put_7 ⟨Nat.le_of_ble_eq_true rfl, Nat.le_of_ble_eq_true rfl⟩) hP hD hS hA [] rfl rfl (fun _ => rfl) (fun r_1 _ H locs hw_1 hP hD hS => ?_)
  subst hw_1
  have hP : va_P G.1 vwCl (MA h0 p0 mt mw) H := hP
  have hD : va_D A (MA h0 p0 mt mw) := hD
  refine va_put (D := G.1) (ci := 3) (v := .int (f_X6_ticksOf p0)) (ty := .int) (C := RX3) (T := TX3) (N := 3) hx hb hts in_X3_put_RX3 tyX3 tyX3_ok nmX3 hown hK.1 hP hD hS 0 rfl rfl 1 (by decide) (hts _ k_X3_put_f15) (fun _ h9 => h9) rfl (by decide +kernel) rfl rfl (Nat.le_of_ble_eq_true rfl) dX3_put_10 (fun H locs hP hD hS => ?_)
  have hP : va_P G.1 vwCl (MA h0 p0 (f_X6_ticksOf p0) mw) H := hP
  have hD : va_D A (MA h0 p0 (f_X6_ticksOf p0) mw) := hD
  refine lv_aload_n hx hb dX3_put_13 rfl (lv_at hl 0 rfl) ?_
  refine lv_iconst (v := (nI 0)) hx hb dX3_put_14 (by decide) ?_
  refine va_put (D := G.1) (ci := 3) (v := .int (nI 0)) (ty := .int) (C := RX3) (T := TX3) (N := 3) hx hb hts in_X3_put_RX3 tyX3 tyX3_ok nmX3 hown hK.1 hP hD hS 0 rfl rfl 2 (by decide) (hts _ k_X3_put_f18) (fun _ h9 => h9) rfl (by decide +kernel) rfl rfl (Nat.le_of_ble_eq_true rfl) dX3_put_15 (fun H locs hP hD hS => ?_)
  have hP : va_P G.1 vwCl (MA h0 p0 (f_X6_ticksOf p0) (nI 0)) H := hP
  have hD : va_D A (MA h0 p0 (f_X6_ticksOf p0) (nI 0)) := hD
  exact end_V C0 hP hD hS (p0, (f_X6_ticksOf p0), (nI 0)) (by simp only [f_X3_put]) rfl dX3_put_18

def f_X3_clear (mk : Int32) (mt : Int32) (mw : Int32) : Int32 × Int32 × Int32 :=
  ((-5), (nI 0), (nI 0))
set_option maxRecDepth 20000 in
theorem k_X3_clear_f15 : Cond.fieldLink RX3 15 "SteamRations$Machine" "left" "I" ∈ wsX3_clear := by decide +kernel
set_option maxRecDepth 20000 in
theorem k_X3_clear_f18 : Cond.fieldLink RX3 18 "SteamRations$Machine" "waits" "I" ∈ wsX3_clear := by decide +kernel
set_option maxRecDepth 20000 in
theorem k_X3_clear_f9 : Cond.fieldLink RX3 9 "SteamRations$Machine" "kind" "I" ∈ wsX3_clear := by decide +kernel
set_option maxRecDepth 20000 in
theorem in_X3_clear_RX3 : ∀ w ∈ u_ws RX3 TX3 3, w ∈ wsX3_clear := by decide +kernel
theorem cd_X3_clear : yX3_clear.cls = RX3 ∧ yX3_clear.cls ≠ "java/lang/invoke/MethodHandle" ∧ yX3_clear.cls ≠ "java/lang/invoke/VarHandle" ∧ (parseMethodDescriptor yX3_clear.desc).map (fun d => d.parameters.length) = some 0 := by decide +kernel
set_option maxHeartbeats 4000000 in
set_option maxRecDepth 100000 in
theorem c_X3_clear (l : Launch) (G : GG) (h0 : Nat) (mk : Int32) (mt : Int32) (mw : Int32) (sz : Nat)   : Met l yX3_clear wsX3_clear ({ frames := 0, cells := 0, slots := 0, locals := 0 }) (Pre G [.ref h0] (MA h0 mk mt mw) sz) (PV G (va_A (MA h0 mk mt mw) sz) (fun u : Int32 × Int32 × Int32 => f_X3_clear mk mt mw = u) (fun u : Int32 × Int32 × Int32 => MA h0 u.1 u.2.1 u.2.2)) 0 0 (va_A (MA h0 mk mt mw) sz) := by
  refine Met.walk (cc := cX3_clear) (maxL := 1) (ret := none) (Qc := fun A => PV G A (fun u : Int32 × Int32 × Int32 => f_X3_clear mk mt mw = u) (fun u : Int32 × Int32 × Int32 => MA h0 u.1 u.2.1 u.2.2)) (by decide) rfl (Nat.le_of_ble_eq_true rfl) ?_
  intro p e s m below meth c A H C0 _ hK hsz hP hD hA hS ls hl
  have hx := C0.1
  have hb := C0.2.1
  have hown : s.vm.findClass RX3 = some m.cls := C0.2.2.2.2.1
  have hml := C0.2.2.2.1
  have hts : ∀ w ∈ wsX3_clear, w.before [.ref h0].toArray s = true := C0.2.2.2.2.2.1
  have hl : lv_has ls 1 [(0, .ref h0)] := hl
  refine lv_aload_n hx hb dX3_clear_0 rfl (lv_at hl 0 rfl) ?_
  refine lv_bipush (v := (-5)) hx hb dX3_clear_1 (by decide) ?_
  refine va_put (D := G.1) (ci := 3) (v := .int (-5)) (ty := .int) (C := RX3) (T := TX3) (N := 3) hx hb hts in_X3_clear_RX3 tyX3 tyX3_ok nmX3 hown hK.1 hP hD hS 0 rfl rfl 0 (by decide) (hts _ k_X3_clear_f9) (fun _ h9 => h9) rfl (by decide +kernel) rfl rfl (Nat.le_of_ble_eq_true rfl) dX3_clear_3 (fun H locs hP hD hS => ?_)
  have hP : va_P G.1 vwCl (MA h0 (-5) mt mw) H := hP
  have hD : va_D A (MA h0 (-5) mt mw) := hD
  refine lv_aload_n hx hb dX3_clear_6 rfl (lv_at hl 0 rfl) ?_
  refine lv_iconst (v := (nI 0)) hx hb dX3_clear_7 (by decide) ?_
  refine va_put (D := G.1) (ci := 3) (v := .int (nI 0)) (ty := .int) (C := RX3) (T := TX3) (N := 3) hx hb hts in_X3_clear_RX3 tyX3 tyX3_ok nmX3 hown hK.1 hP hD hS 0 rfl rfl 1 (by decide) (hts _ k_X3_clear_f15) (fun _ h9 => h9) rfl (by decide +kernel) rfl rfl (Nat.le_of_ble_eq_true rfl) dX3_clear_8 (fun H locs hP hD hS => ?_)
  have hP : va_P G.1 vwCl (MA h0 (-5) (nI 0) mw) H := hP
  have hD : va_D A (MA h0 (-5) (nI 0) mw) := hD
  refine lv_aload_n hx hb dX3_clear_11 rfl (lv_at hl 0 rfl) ?_
  refine lv_iconst (v := (nI 0)) hx hb dX3_clear_12 (by decide) ?_
  refine va_put (D := G.1) (ci := 3) (v := .int (nI 0)) (ty := .int) (C := RX3) (T := TX3) (N := 3) hx hb hts in_X3_clear_RX3 tyX3 tyX3_ok nmX3 hown hK.1 hP hD hS 0 rfl rfl 2 (by decide) (hts _ k_X3_clear_f18) (fun _ h9 => h9) rfl (by decide +kernel) rfl rfl (Nat.le_of_ble_eq_true rfl) dX3_clear_13 (fun H locs hP hD hS => ?_)
  have hP : va_P G.1 vwCl (MA h0 (-5) (nI 0) (nI 0)) H := hP
  have hD : va_D A (MA h0 (-5) (nI 0) (nI 0)) := hD
  exact end_V C0 hP hD hS ((-5), (nI 0), (nI 0)) (by simp only [f_X3_clear]) rfl dX3_clear_16

def f_X3_copyFrom (mk : Int32) (mt : Int32) (mw : Int32) (omk : Int32) (omt : Int32) (omw : Int32) : Int32 × Int32 × Int32 :=
  (omk, omt, omw)
set_option maxRecDepth 20000 in
theorem k_X3_copyFrom_f15 : Cond.fieldLink RX3 15 "SteamRations$Machine" "left" "I" ∈ wsX3_copyFrom := by decide +kernel
set_option maxRecDepth 20000 in
theorem k_X3_copyFrom_f18 : Cond.fieldLink RX3 18 "SteamRations$Machine" "waits" "I" ∈ wsX3_copyFrom := by decide +kernel
set_option maxRecDepth 20000 in
theorem k_X3_copyFrom_f9 : Cond.fieldLink RX3 9 "SteamRations$Machine" "kind" "I" ∈ wsX3_copyFrom := by decide +kernel
set_option maxRecDepth 20000 in
theorem in_X3_copyFrom_RX3 : ∀ w ∈ u_ws RX3 TX3 3, w ∈ wsX3_copyFrom := by decide +kernel
theorem cd_X3_copyFrom : yX3_copyFrom.cls = RX3 ∧ yX3_copyFrom.cls ≠ "java/lang/invoke/MethodHandle" ∧ yX3_copyFrom.cls ≠ "java/lang/invoke/VarHandle" ∧ (parseMethodDescriptor yX3_copyFrom.desc).map (fun d => d.parameters.length) = some 1 := by decide +kernel
set_option maxHeartbeats 4000000 in
set_option maxRecDepth 100000 in
theorem c_X3_copyFrom (l : Launch) (G : GG) (h0 : Nat) (h1 : Nat) (mk : Int32) (mt : Int32) (mw : Int32) (omk : Int32) (omt : Int32) (omw : Int32) (sz : Nat)   : Met l yX3_copyFrom wsX3_copyFrom ({ frames := 0, cells := 0, slots := 0, locals := 0 }) (Pre G [.ref h0, .ref h1] (MA h0 mk mt mw ++ MA h1 omk omt omw) sz) (PV G (va_A (MA h0 mk mt mw ++ MA h1 omk omt omw) sz) (fun u : Int32 × Int32 × Int32 => f_X3_copyFrom mk mt mw omk omt omw = u) (fun u : Int32 × Int32 × Int32 => MA h0 u.1 u.2.1 u.2.2 ++ MA h1 omk omt omw)) 0 0 (va_A (MA h0 mk mt mw ++ MA h1 omk omt omw) sz) := by
  refine Met.walk (cc := cX3_copyFrom) (maxL := 2) (ret := none) (Qc := fun A => PV G A (fun u : Int32 × Int32 × Int32 => f_X3_copyFrom mk mt mw omk omt omw = u) (fun u : Int32 × Int32 × Int32 => MA h0 u.1 u.2.1 u.2.2 ++ MA h1 omk omt omw)) (by decide) rfl (Nat.le_of_ble_eq_true rfl) ?_
  intro p e s m below meth c A H C0 _ hK hsz hP hD hA hS ls hl
  have hx := C0.1
  have hb := C0.2.1
  have hown : s.vm.findClass RX3 = some m.cls := C0.2.2.2.2.1
  have hml := C0.2.2.2.1
  have hts : ∀ w ∈ wsX3_copyFrom, w.before [.ref h0, .ref h1].toArray s = true := C0.2.2.2.2.2.1
  have hl : lv_has ls 2 [(0, .ref h0), (1, .ref h1)] := hl
  refine lv_aload_n hx hb dX3_copyFrom_0 rfl (lv_at hl 0 rfl) ?_
  refine lv_aload_n hx hb dX3_copyFrom_1 rfl (lv_at hl 1 rfl) ?_
  refine va_get (D := G.1) (ci := 3) (v := .int omk) (C := RX3) (T := TX3) (N := 3) hx hb hts in_X3_copyFrom_RX3 hown hK.1 hP 1 rfl rfl 0 (by decide) (hts _ k_X3_copyFrom_f9) (fun _ h9 => h9) rfl dX3_copyFrom_2 ?_
  refine va_put (D := G.1) (ci := 3) (v := .int omk) (ty := .int) (C := RX3) (T := TX3) (N := 3) hx hb hts in_X3_copyFrom_RX3 tyX3 tyX3_ok nmX3 hown hK.1 hP hD hS 0 rfl rfl 0 (by decide) (hts _ k_X3_copyFrom_f9) (fun _ h9 => h9) rfl (by decide +kernel) rfl rfl (Nat.le_of_ble_eq_true rfl) dX3_copyFrom_5 (fun H locs hP hD hS => ?_)
  have hP : va_P G.1 vwCl (MA h0 omk mt mw ++ MA h1 omk omt omw) H := hP
  have hD : va_D A (MA h0 omk mt mw ++ MA h1 omk omt omw) := hD
  refine lv_aload_n hx hb dX3_copyFrom_8 rfl (lv_at hl 0 rfl) ?_
  refine lv_aload_n hx hb dX3_copyFrom_9 rfl (lv_at hl 1 rfl) ?_
  refine va_get (D := G.1) (ci := 3) (v := .int omt) (C := RX3) (T := TX3) (N := 3) hx hb hts in_X3_copyFrom_RX3 hown hK.1 hP 1 rfl rfl 1 (by decide) (hts _ k_X3_copyFrom_f15) (fun _ h9 => h9) rfl dX3_copyFrom_10 ?_
  refine va_put (D := G.1) (ci := 3) (v := .int omt) (ty := .int) (C := RX3) (T := TX3) (N := 3) hx hb hts in_X3_copyFrom_RX3 tyX3 tyX3_ok nmX3 hown hK.1 hP hD hS 0 rfl rfl 1 (by decide) (hts _ k_X3_copyFrom_f15) (fun _ h9 => h9) rfl (by decide +kernel) rfl rfl (Nat.le_of_ble_eq_true rfl) dX3_copyFrom_13 (fun H locs hP hD hS => ?_)
  have hP : va_P G.1 vwCl (MA h0 omk omt mw ++ MA h1 omk omt omw) H := hP
  have hD : va_D A (MA h0 omk omt mw ++ MA h1 omk omt omw) := hD
  refine lv_aload_n hx hb dX3_copyFrom_16 rfl (lv_at hl 0 rfl) ?_
  refine lv_aload_n hx hb dX3_copyFrom_17 rfl (lv_at hl 1 rfl) ?_
  refine va_get (D := G.1) (ci := 3) (v := .int omw) (C := RX3) (T := TX3) (N := 3) hx hb hts in_X3_copyFrom_RX3 hown hK.1 hP 1 rfl rfl 2 (by decide) (hts _ k_X3_copyFrom_f18) (fun _ h9 => h9) rfl dX3_copyFrom_18 ?_
  refine va_put (D := G.1) (ci := 3) (v := .int omw) (ty := .int) (C := RX3) (T := TX3) (N := 3) hx hb hts in_X3_copyFrom_RX3 tyX3 tyX3_ok nmX3 hown hK.1 hP hD hS 0 rfl rfl 2 (by decide) (hts _ k_X3_copyFrom_f18) (fun _ h9 => h9) rfl (by decide +kernel) rfl rfl (Nat.le_of_ble_eq_true rfl) dX3_copyFrom_21 (fun H locs hP hD hS => ?_)
  have hP : va_P G.1 vwCl (MA h0 omk omt omw ++ MA h1 omk omt omw) H := hP
  have hD : va_D A (MA h0 omk omt omw ++ MA h1 omk omt omw) := hD
  exact end_V C0 hP hD hS (omk, omt, omw) (by simp only [f_X3_copyFrom]) rfl dX3_copyFrom_24

def f_X5_kindAt (ln : Int32) (q : (Nat → Int32)) (p0 : Int32) : Int32 :=
  if p0 < 0 then
    (-5)
  else
    if ln ≤ p0 then
      (-5)
    else
      if (nI 12) ≤ p0 then
        (-5)
      else
        (q p0.toNatClampNeg)
set_option maxRecDepth 20000 in
theorem k_X5_kindAt_f15 : Cond.fieldLink RX5 15 "SteamRations$WaitingLine" "length" "I" ∈ wsX5_kindAt := by decide +kernel
set_option maxRecDepth 20000 in
theorem k_X5_kindAt_f9 : Cond.fieldLink RX5 9 "SteamRations$WaitingLine" "kinds" "[I" ∈ wsX5_kindAt := by decide +kernel
set_option maxRecDepth 20000 in
theorem in_X5_kindAt_RX5 : ∀ w ∈ u_ws RX5 TX5 2, w ∈ wsX5_kindAt := by decide +kernel
theorem cd_X5_kindAt : yX5_kindAt.cls = RX5 ∧ yX5_kindAt.cls ≠ "java/lang/invoke/MethodHandle" ∧ yX5_kindAt.cls ≠ "java/lang/invoke/VarHandle" ∧ (parseMethodDescriptor yX5_kindAt.desc).map (fun d => d.parameters.length) = some 1 := by decide +kernel
set_option maxHeartbeats 4000000 in
set_option maxRecDepth 100000 in
theorem c_X5_kindAt (l : Launch) (G : GG) (h0 : Nat) (h1 : Nat) (ln : Int32) (q : (Nat → Int32)) (sz : Nat) (p0 : Int32)  : Met l yX5_kindAt wsX5_kindAt ({ frames := 0, cells := 0, slots := 0, locals := 0 }) (Pre G [.ref h0, .int p0] (LN G h0 h1 ln q) sz) (PI G (va_A (LN G h0 h1 ln q) sz) (fun r (_ : Unit) => f_X5_kindAt ln q p0 = r) (fun _ : Unit => LN G h0 h1 ln q)) 0 0 (va_A (LN G h0 h1 ln q) sz) := by
  refine Met.walk (cc := cX5_kindAt) (maxL := 2) (ret := (some .int)) (Qc := fun A => PI G A (fun r (_ : Unit) => f_X5_kindAt ln q p0 = r) (fun _ : Unit => LN G h0 h1 ln q)) (by decide) rfl (Nat.le_of_ble_eq_true rfl) ?_
  intro p e s m below meth c A H C0 _ hK hsz hP hD hA hS ls hl
  have hx := C0.1
  have hb := C0.2.1
  have hown : s.vm.findClass RX5 = some m.cls := C0.2.2.2.2.1
  have hml := C0.2.2.2.1
  have hts : ∀ w ∈ wsX5_kindAt, w.before [.ref h0, .int p0].toArray s = true := C0.2.2.2.2.2.1
  have hl : lv_has ls 2 [(0, .ref h0), (1, .int p0)] := hl
  refine lv_iload_n hx hb dX5_kindAt_0 rfl (lv_at hl 1 rfl) ?_
  refine lv_if_lt (tgt := 30) hx hb dX5_kindAt_1 (by decide) (fun c_1 => ?_) (fun c_1 => ?_)
  · refine lv_bipush (v := (-5)) hx hb dX5_kindAt_30 (by decide) ?_
    exact end_I C0 hP hD hS () (by simp only [f_X5_kindAt, if_pos c_1]) rfl dX5_kindAt_32
  · refine lv_iload_n hx hb dX5_kindAt_4 rfl (lv_at hl 1 rfl) ?_
    refine lv_aload_n hx hb dX5_kindAt_5 rfl (lv_at hl 0 rfl) ?_
    refine va_get (D := G.1) (ci := 5) (v := .int ln) (C := RX5) (T := TX5) (N := 2) hx hb hts in_X5_kindAt_RX5 hown hK.1 hP 0 rfl rfl 1 (by decide) (hts _ k_X5_kindAt_f15) (fun _ h9 => h9) rfl dX5_kindAt_6 ?_
    refine lv_icmp_ge (tgt := 30) hx hb dX5_kindAt_9 (by decide) (fun c_2 => ?_) (fun c_2 => ?_)
    · refine lv_bipush (v := (-5)) hx hb dX5_kindAt_30 (by decide) ?_
      exact end_I C0 hP hD hS () (by simp only [f_X5_kindAt, if_neg c_1, if_pos c_2]) rfl dX5_kindAt_32
    · refine lv_iload_n hx hb dX5_kindAt_12 rfl (lv_at hl 1 rfl) ?_
      refine lv_aload_n hx hb dX5_kindAt_13 rfl (lv_at hl 0 rfl) ?_
      refine va_get (D := G.1) (ci := 5) (v := .ref h1) (C := RX5) (T := TX5) (N := 2) hx hb hts in_X5_kindAt_RX5 hown hK.1 hP 0 rfl rfl 0 (by decide) (hts _ k_X5_kindAt_f9) (fun _ h9 => h9) rfl dX5_kindAt_14 ?_
      refine n_alen (n := 12) hx hb hK hP 1 0 rfl rfl dX5_kindAt_17 ?_
      refine lv_icmp_ge (tgt := 30) hx hb dX5_kindAt_18 (by decide) (fun c_3 => ?_) (fun c_3 => ?_)
      · refine lv_bipush (v := (-5)) hx hb dX5_kindAt_30 (by decide) ?_
        exact end_I C0 hP hD hS () (by simp only [f_X5_kindAt, if_neg c_1, if_neg c_2, if_pos c_3]) rfl dX5_kindAt_32
      · refine lv_aload_n hx hb dX5_kindAt_21 rfl (lv_at hl 0 rfl) ?_
        refine va_get (D := G.1) (ci := 5) (v := .ref h1) (C := RX5) (T := TX5) (N := 2) hx hb hts in_X5_kindAt_RX5 hown hK.1 hP 0 rfl rfl 0 (by decide) (hts _ k_X5_kindAt_f9) (fun _ h9 => h9) rfl dX5_kindAt_22 ?_
        refine lv_iload_n hx hb dX5_kindAt_25 rfl (lv_at hl 1 rfl) ?_
        refine va_iald (f := q) hx hb hK.1 hP 1 0 rfl rfl (vinOf c_1 c_3 (by decide)) dX5_kindAt_26 ?_
        refine lv_goto (tgt := 32) hx hb dX5_kindAt_27 (by decide) ?_
        exact end_I C0 hP hD hS () (by simp only [f_X5_kindAt, if_neg c_1, if_neg c_2, if_neg c_3]) rfl dX5_kindAt_32

def f_X5_add (ln : Int32) (q : (Nat → Int32)) (p0 : Int32) : Int32 × Int32 × (Nat → Int32) :=
  if ln < 0 then
    ((-3), ln, q)
  else
    if ln < (nI 12) then
      (((ln + (nI 1)) - (nI 1)), (ln + (nI 1)), (upd q ln.toNatClampNeg p0))
    else
      ((-3), ln, q)
set_option maxRecDepth 20000 in
theorem k_X5_add_f15 : Cond.fieldLink RX5 15 "SteamRations$WaitingLine" "length" "I" ∈ wsX5_add := by decide +kernel
set_option maxRecDepth 20000 in
theorem k_X5_add_f9 : Cond.fieldLink RX5 9 "SteamRations$WaitingLine" "kinds" "[I" ∈ wsX5_add := by decide +kernel
set_option maxRecDepth 20000 in
theorem in_X5_add_RX5 : ∀ w ∈ u_ws RX5 TX5 2, w ∈ wsX5_add := by decide +kernel
theorem cd_X5_add : yX5_add.cls = RX5 ∧ yX5_add.cls ≠ "java/lang/invoke/MethodHandle" ∧ yX5_add.cls ≠ "java/lang/invoke/VarHandle" ∧ (parseMethodDescriptor yX5_add.desc).map (fun d => d.parameters.length) = some 1 := by decide +kernel
set_option maxHeartbeats 4000000 in
set_option maxRecDepth 100000 in
theorem c_X5_add (l : Launch) (G : GG) (h0 : Nat) (h1 : Nat) (ln : Int32) (q : (Nat → Int32)) (sz : Nat) (p0 : Int32)  : Met l yX5_add wsX5_add ({ frames := 0, cells := 0, slots := 0, locals := 0 }) (Pre G [.ref h0, .int p0] (LN G h0 h1 ln q) sz) (PI G (va_A (LN G h0 h1 ln q) sz) (fun r (u : Int32 × (Nat → Int32)) => f_X5_add ln q p0 = (r, u)) (fun u : Int32 × (Nat → Int32) => LN G h0 h1 u.1 u.2)) 0 0 (va_A (LN G h0 h1 ln q) sz) := by
  refine Met.walk (cc := cX5_add) (maxL := 2) (ret := (some .int)) (Qc := fun A => PI G A (fun r (u : Int32 × (Nat → Int32)) => f_X5_add ln q p0 = (r, u)) (fun u : Int32 × (Nat → Int32) => LN G h0 h1 u.1 u.2)) (by decide) rfl (Nat.le_of_ble_eq_true rfl) ?_
  intro p e s m below meth c A H C0 _ hK hsz hP hD hA hS ls hl
  have hx := C0.1
  have hb := C0.2.1
  have hown : s.vm.findClass RX5 = some m.cls := C0.2.2.2.2.1
  have hml := C0.2.2.2.1
  have hts : ∀ w ∈ wsX5_add, w.before [.ref h0, .int p0].toArray s = true := C0.2.2.2.2.2.1
  have hl : lv_has ls 2 [(0, .ref h0), (1, .int p0)] := hl
  refine lv_aload_n hx hb dX5_add_0 rfl (lv_at hl 0 rfl) ?_
  refine va_get (D := G.1) (ci := 5) (v := .int ln) (C := RX5) (T := TX5) (N := 2) hx hb hts in_X5_add_RX5 hown hK.1 hP 0 rfl rfl 1 (by decide) (hts _ k_X5_add_f15) (fun _ h9 => h9) rfl dX5_add_1 ?_
  refine lv_if_lt (tgt := 19) hx hb dX5_add_4 (by decide) (fun c_1 => ?_) (fun c_1 => ?_)
  · refine lv_bipush (v := (-3)) hx hb dX5_add_19 (by decide) ?_
    exact end_I C0 hP hD hS (ln, q) (by simp only [f_X5_add, if_pos c_1]) rfl dX5_add_21
  · refine lv_aload_n hx hb dX5_add_7 rfl (lv_at hl 0 rfl) ?_
    refine va_get (D := G.1) (ci := 5) (v := .int ln) (C := RX5) (T := TX5) (N := 2) hx hb hts in_X5_add_RX5 hown hK.1 hP 0 rfl rfl 1 (by decide) (hts _ k_X5_add_f15) (fun _ h9 => h9) rfl dX5_add_8 ?_
    refine lv_aload_n hx hb dX5_add_11 rfl (lv_at hl 0 rfl) ?_
    refine va_get (D := G.1) (ci := 5) (v := .ref h1) (C := RX5) (T := TX5) (N := 2) hx hb hts in_X5_add_RX5 hown hK.1 hP 0 rfl rfl 0 (by decide) (hts _ k_X5_add_f9) (fun _ h9 => h9) rfl dX5_add_12 ?_
    refine n_alen (n := 12) hx hb hK hP 1 0 rfl rfl dX5_add_15 ?_
    refine lv_icmp_lt (tgt := 22) hx hb dX5_add_16 (by decide) (fun c_2 => ?_) (fun c_2 => ?_)
    · refine lv_aload_n hx hb dX5_add_22 rfl (lv_at hl 0 rfl) ?_
      refine va_get (D := G.1) (ci := 5) (v := .ref h1) (C := RX5) (T := TX5) (N := 2) hx hb hts in_X5_add_RX5 hown hK.1 hP 0 rfl rfl 0 (by decide) (hts _ k_X5_add_f9) (fun _ h9 => h9) rfl dX5_add_23 ?_
      refine lv_aload_n hx hb dX5_add_26 rfl (lv_at hl 0 rfl) ?_
      refine va_get (D := G.1) (ci := 5) (v := .int ln) (C := RX5) (T := TX5) (N := 2) hx hb hts in_X5_add_RX5 hown hK.1 hP 0 rfl rfl 1 (by decide) (hts _ k_X5_add_f15) (fun _ h9 => h9) rfl dX5_add_27 ?_
      refine lv_iload_n hx hb dX5_add_30 rfl (lv_at hl 1 rfl) ?_
      refine va_iast (f := q) (x := p0) hx hb hK.1 hP hD hS 1 0 rfl rfl (vinOf c_1 (ltOf c_2) (by decide)) dX5_add_31 (fun H locs hP hD hS => ?_)
      have hP : va_P G.1 vwCl (LN G h0 h1 ln (upd q ln.toNatClampNeg p0)) H := hP
      have hD : va_D A (LN G h0 h1 ln (upd q ln.toNatClampNeg p0)) := hD
      refine lv_aload_n hx hb dX5_add_32 rfl (lv_at hl 0 rfl) ?_
      refine lv_dup hx hb dX5_add_33 rfl ?_
      refine va_get (D := G.1) (ci := 5) (v := .int ln) (C := RX5) (T := TX5) (N := 2) hx hb hts in_X5_add_RX5 hown hK.1 hP 0 rfl rfl 1 (by decide) (hts _ k_X5_add_f15) (fun _ h9 => h9) rfl dX5_add_34 ?_
      refine lv_iconst (v := (nI 1)) hx hb dX5_add_37 (by decide) ?_
      refine lv_iadd hx hb dX5_add_38 ?_
      refine va_put (D := G.1) (ci := 5) (v := .int (ln + (nI 1))) (ty := .int) (C := RX5) (T := TX5) (N := 2) hx hb hts in_X5_add_RX5 tyX5 tyX5_ok nmX5 hown hK.1 hP hD hS 0 rfl rfl 1 (by decide) (hts _ k_X5_add_f15) (fun _ h9 => h9) rfl (by decide +kernel) rfl rfl (Nat.le_of_ble_eq_true rfl) dX5_add_39 (fun H locs hP hD hS => ?_)
      have hP : va_P G.1 vwCl (LN G h0 h1 (ln + (nI 1)) (upd q ln.toNatClampNeg p0)) H := hP
      have hD : va_D A (LN G h0 h1 (ln + (nI 1)) (upd q ln.toNatClampNeg p0)) := hD
      refine lv_aload_n hx hb dX5_add_42 rfl (lv_at hl 0 rfl) ?_
      refine va_get (D := G.1) (ci := 5) (v := .int (ln + (nI 1))) (C := RX5) (T := TX5) (N := 2) hx hb hts in_X5_add_RX5 hown hK.1 hP 0 rfl rfl 1 (by decide) (hts _ k_X5_add_f15) (fun _ h9 => h9) rfl dX5_add_43 ?_
      refine lv_iconst (v := (nI 1)) hx hb dX5_add_46 (by decide) ?_
      refine lv_isub hx hb dX5_add_47 ?_
      exact end_I C0 hP hD hS ((ln + (nI 1)), (upd q ln.toNatClampNeg p0)) (by simp only [f_X5_add, if_neg c_1, if_pos c_2]) rfl dX5_add_48
    · refine lv_bipush (v := (-3)) hx hb dX5_add_19 (by decide) ?_
      exact end_I C0 hP hD hS (ln, q) (by simp only [f_X5_add, if_neg c_1, if_neg c_2]) rfl dX5_add_21

def f_X5_copyFrom (ln : Int32) (q : Nat → Int32) (oln : Int32) (oq : Nat → Int32) : Int32 × (Nat → Int32) := (oln, oq)
set_option maxRecDepth 20000 in
theorem k_X5_copyFrom_f15 : Cond.fieldLink RX5 15 "SteamRations$WaitingLine" "length" "I" ∈ wsX5_copyFrom := by decide +kernel
set_option maxRecDepth 20000 in
theorem k_X5_copyFrom_f9 : Cond.fieldLink RX5 9 "SteamRations$WaitingLine" "kinds" "[I" ∈ wsX5_copyFrom := by decide +kernel
set_option maxRecDepth 20000 in
theorem in_X5_copyFrom_RX5 : ∀ w ∈ u_ws RX5 TX5 2, w ∈ wsX5_copyFrom := by decide +kernel
theorem cd_X5_copyFrom : yX5_copyFrom.cls = RX5 ∧ yX5_copyFrom.cls ≠ "java/lang/invoke/MethodHandle" ∧ yX5_copyFrom.cls ≠ "java/lang/invoke/VarHandle" ∧ (parseMethodDescriptor yX5_copyFrom.desc).map (fun d => d.parameters.length) = some 1 := by decide +kernel
set_option maxHeartbeats 4000000 in
set_option maxRecDepth 100000 in
theorem c_X5_copyFrom (l : Launch) (G : GG) (h0 : Nat) (h1 : Nat) (h2 : Nat) (h3 : Nat) (ln : Int32) (q : (Nat → Int32)) (oln : Int32) (oq : (Nat → Int32)) (sz : Nat)   : Met l yX5_copyFrom wsX5_copyFrom ({ frames := 0, cells := 0, slots := 0, locals := 0 }) (Pre G [.ref h0, .ref h2] (LN G h0 h1 ln q ++ LN G h2 h3 oln oq) sz) (PV G (va_A (LN G h0 h1 ln q ++ LN G h2 h3 oln oq) sz) (fun u : Int32 × (Nat → Int32) => f_X5_copyFrom ln q oln oq = u) (fun u : Int32 × (Nat → Int32) => LN G h0 h1 u.1 u.2 ++ LN G h2 h3 oln oq)) 0 0 (va_A (LN G h0 h1 ln q ++ LN G h2 h3 oln oq) sz) := by
  refine Met.walk (cc := cX5_copyFrom) (maxL := 3) (ret := none) (Qc := fun A => PV G A (fun u : Int32 × (Nat → Int32) => f_X5_copyFrom ln q oln oq = u) (fun u : Int32 × (Nat → Int32) => LN G h0 h1 u.1 u.2 ++ LN G h2 h3 oln oq)) (by decide) rfl (Nat.le_of_ble_eq_true rfl) ?_
  intro p e s m below meth c A H C0 _ hK hsz hP hD hA hS ls hl
  have hx := C0.1
  have hb := C0.2.1
  have hown : s.vm.findClass RX5 = some m.cls := C0.2.2.2.2.1
  have hml := C0.2.2.2.1
  have hts : ∀ w ∈ wsX5_copyFrom, w.before [.ref h0, .ref h2].toArray s = true := C0.2.2.2.2.2.1
  have hl : lv_has ls 3 [(0, .ref h0), (1, .ref h2)] := hl
  have h_X5_copyFrom_10 : ∀ (n : Nat) (ln_10 : Int32) (q_10 : (Nat → Int32)) (i : Nat), 12 - i < n → (i ≤ 12) → (ln_10 = oln) → (∀ j, j < i → q_10 j = oq j) → ∀ (H : Heap) (locs : List Loc) (ls : Array Slot), va_P G.1 vwCl (LN G h0 h1 ln_10 q_10 ++ LN G h2 h3 oln oq) H → va_D A (LN G h0 h1 ln_10 q_10 ++ LN G h2 h3 oln oq) → va_S A s.heap H locs → lv_has ls 3 [(2, .int (nI i)), (0, .ref h0), (1, .ref h2)] → W p l e ({ frames := 0, cells := 0, slots := 0, locals := 0 }) s m ([.ref h0, .ref h2] : List Value).toArray below meth c H locs 0 0 (MQ below (PV G A (fun u : Int32 × (Nat → Int32) => f_X5_copyFrom ln q oln oq = u) (fun u : Int32 × (Nat → Int32) => LN G h0 h1 u.1 u.2 ++ LN G h2 h3 oln oq)) ([.ref h0, .ref h2] : List Value).toArray s 0 0 A) (F0 m 10 ls []) := by
    intro n
    induction n with
    | zero =>
      intro ln_10 q_10 i hm
      exact absurd hm (Nat.not_lt_zero _)
    | succ n ih =>
      intro ln_10 q_10 i hm hi hl0 hq  H locs ls hP hD hS hl
      refine lv_iload_n hx hb dX5_copyFrom_10 rfl (lv_at hl 0 rfl) ?_
      refine lv_aload_n hx hb dX5_copyFrom_11 rfl (lv_at hl 1 rfl) ?_
      refine va_get (D := G.1) (ci := 5) (v := .ref h1) (C := RX5) (T := TX5) (N := 2) hx hb hts in_X5_copyFrom_RX5 hown hK.1 hP 0 rfl rfl 0 (by decide) (hts _ k_X5_copyFrom_f9) (fun _ h9 => h9) rfl dX5_copyFrom_12 ?_
      refine n_alen (n := 12) hx hb hK hP 1 0 rfl rfl dX5_copyFrom_15 ?_
      refine lv_icmp_ge (tgt := 46) hx hb dX5_copyFrom_16 (by decide) (fun c_1 => ?_) (fun c_1 => ?_)
      · have c_1n : 12 ≤ i := (nI_leI (by omega) (by omega)).mp c_1
        rw [hl0] at hP hD
        have hP : va_P G.1 vwCl (LN G h0 h1 oln oq ++ LN G h2 h3 oln oq) H := va_P_arr (k := 1) (by intro j hj; exact hq j (by omega)) hP rfl rfl
        have hD : va_D A (LN G h0 h1 oln oq ++ LN G h2 h3 oln oq) := va_D_arr (k := 1) hD rfl rfl
        exact end_V C0 hP hD hS (oln, oq) rfl rfl dX5_copyFrom_46
      · have c_1n : ¬ (12 ≤ i) := fun z => c_1 ((nI_leI (by omega) (by omega)).mpr z)
        refine lv_iload_n hx hb dX5_copyFrom_19 rfl (lv_at hl 0 rfl) ?_
        refine lv_aload_n hx hb dX5_copyFrom_20 rfl (lv_at hl 2 rfl) ?_
        refine va_get (D := G.1) (ci := 5) (v := .ref h3) (C := RX5) (T := TX5) (N := 2) hx hb hts in_X5_copyFrom_RX5 hown hK.1 hP 2 rfl rfl 0 (by decide) (hts _ k_X5_copyFrom_f9) (fun _ h9 => h9) rfl dX5_copyFrom_21 ?_
        refine n_alen (n := 12) hx hb hK hP 3 0 rfl rfl dX5_copyFrom_24 ?_
        refine lv_icmp_ge (tgt := 46) hx hb dX5_copyFrom_25 (by decide) (fun c_2 => ?_) (fun c_2 => ?_)
        · have c_2n : 12 ≤ i := (nI_leI (by omega) (by omega)).mp c_2
          rw [hl0] at hP hD
          have hP : va_P G.1 vwCl (LN G h0 h1 oln oq ++ LN G h2 h3 oln oq) H := va_P_arr (k := 1) (by intro j hj; exact hq j (by omega)) hP rfl rfl
          have hD : va_D A (LN G h0 h1 oln oq ++ LN G h2 h3 oln oq) := va_D_arr (k := 1) hD rfl rfl
          exact end_V C0 hP hD hS (oln, oq) rfl rfl dX5_copyFrom_46
        · have c_2n : ¬ (12 ≤ i) := fun z => c_2 ((nI_leI (by omega) (by omega)).mpr z)
          refine lv_aload_n hx hb dX5_copyFrom_28 rfl (lv_at hl 1 rfl) ?_
          refine va_get (D := G.1) (ci := 5) (v := .ref h1) (C := RX5) (T := TX5) (N := 2) hx hb hts in_X5_copyFrom_RX5 hown hK.1 hP 0 rfl rfl 0 (by decide) (hts _ k_X5_copyFrom_f9) (fun _ h9 => h9) rfl dX5_copyFrom_29 ?_
          refine lv_iload_n hx hb dX5_copyFrom_32 rfl (lv_at hl 0 rfl) ?_
          refine lv_aload_n hx hb dX5_copyFrom_33 rfl (lv_at hl 2 rfl) ?_
          refine va_get (D := G.1) (ci := 5) (v := .ref h3) (C := RX5) (T := TX5) (N := 2) hx hb hts in_X5_copyFrom_RX5 hown hK.1 hP 2 rfl rfl 0 (by decide) (hts _ k_X5_copyFrom_f9) (fun _ h9 => h9) rfl dX5_copyFrom_34 ?_
          refine lv_iload_n hx hb dX5_copyFrom_37 rfl (lv_at hl 0 rfl) ?_
          refine n_iald (f := oq) (j := i) hx hb hK hP 3 rfl (by omega) (by decide) dX5_copyFrom_38 ?_
          refine n_iast (f := q_10) (j := i) (x := (oq i)) hx hb hK hP hD hS 1 rfl (by omega) (by decide) dX5_copyFrom_39 (fun H locs hP hD hS => ?_)
          have hP : va_P G.1 vwCl (LN G h0 h1 ln_10 (upd q_10 i (oq i)) ++ LN G h2 h3 oln oq) H := hP
          have hD : va_D A (LN G h0 h1 ln_10 (upd q_10 i (oq i)) ++ LN G h2 h3 oln oq) := hD
          refine lv_iinc (v := (nI (i + 1))) (lv' := [(2, .int (nI (i + 1))), (0, .ref h0), (1, .ref h2)]) hx hb dX5_copyFrom_40 hl (k := 0) rfl (inc1 i) (by decide) rfl (fun ls hl => ?_)
          refine lv_goto (tgt := 10) hx hb dX5_copyFrom_43 (by decide) ?_
          exact ih ln_10 (upd q_10 i (oq i)) (i + 1) (by omega) (by omega) hl0 (upd_copied hq)  _ _ _ hP hD hS (lv_sub hl [0, 1, 2] rfl)
  refine lv_aload_n hx hb dX5_copyFrom_0 rfl (lv_at hl 0 rfl) ?_
  refine lv_aload_n hx hb dX5_copyFrom_1 rfl (lv_at hl 1 rfl) ?_
  refine va_get (D := G.1) (ci := 5) (v := .int oln) (C := RX5) (T := TX5) (N := 2) hx hb hts in_X5_copyFrom_RX5 hown hK.1 hP 2 rfl rfl 1 (by decide) (hts _ k_X5_copyFrom_f15) (fun _ h9 => h9) rfl dX5_copyFrom_2 ?_
  refine va_put (D := G.1) (ci := 5) (v := .int oln) (ty := .int) (C := RX5) (T := TX5) (N := 2) hx hb hts in_X5_copyFrom_RX5 tyX5 tyX5_ok nmX5 hown hK.1 hP hD hS 0 rfl rfl 1 (by decide) (hts _ k_X5_copyFrom_f15) (fun _ h9 => h9) rfl (by decide +kernel) rfl rfl (Nat.le_of_ble_eq_true rfl) dX5_copyFrom_5 (fun H locs hP hD hS => ?_)
  have hP : va_P G.1 vwCl (LN G h0 h1 oln q ++ LN G h2 h3 oln oq) H := hP
  have hD : va_D A (LN G h0 h1 oln q ++ LN G h2 h3 oln oq) := hD
  refine lv_iconst (v := (nI 0)) hx hb dX5_copyFrom_8 (by decide) ?_
  refine lv_istore_n (lv' := [(2, .int (nI 0)), (0, .ref h0), (1, .ref h2)]) hx hb dX5_copyFrom_9 rfl hl (by decide) rfl (fun ls hl => ?_)
  exact h_X5_copyFrom_10 13 oln q 0 (by omega) (by omega) rfl (fun j h => absurd h (Nat.not_lt_zero j))  _ _ _ hP hD hS (lv_sub hl [0, 1, 2] rfl)

def s_X5_remove_24 (p0 : Int32) : Nat → Int32 → (Nat → Int32) → Int32 → Nat → Int32 × Int32 × (Nat → Int32)
  | 0, _, _, _, _ => (0, 0, fun _ => 0)
  | n + 1, ln_24, q_24, k, i =>
    if ln_24 ≤ (nI i) then
      (k, (ln_24 - (nI 1)), q_24)
    else
      if (nI 12) ≤ (nI i) then
        (k, (ln_24 - (nI 1)), q_24)
      else
        s_X5_remove_24 p0 n ln_24 (upd q_24 (i - 1) (q_24 i)) k (i + 1)
def f_X5_remove (ln : Int32) (q : (Nat → Int32)) (p0 : Int32) : Int32 × Int32 × (Nat → Int32) :=
  if p0 < 0 then
    ((-1), ln, q)
  else
    if p0 < ln then
      s_X5_remove_24 p0 13 ln q (f_X5_kindAt ln q (nI p0.toNatClampNeg)) (p0.toNatClampNeg + 1)
    else
      ((-1), ln, q)
set_option maxRecDepth 20000 in
theorem k_X5_remove_f15 : Cond.fieldLink RX5 15 "SteamRations$WaitingLine" "length" "I" ∈ wsX5_remove := by decide +kernel
set_option maxRecDepth 20000 in
theorem k_X5_remove_f9 : Cond.fieldLink RX5 9 "SteamRations$WaitingLine" "kinds" "[I" ∈ wsX5_remove := by decide +kernel
set_option maxRecDepth 20000 in
theorem in_X5_remove_RX5 : ∀ w ∈ u_ws RX5 TX5 2, w ∈ wsX5_remove := by decide +kernel
theorem cd_X5_remove : yX5_remove.cls = RX5 ∧ yX5_remove.cls ≠ "java/lang/invoke/MethodHandle" ∧ yX5_remove.cls ≠ "java/lang/invoke/VarHandle" ∧ (parseMethodDescriptor yX5_remove.desc).map (fun d => d.parameters.length) = some 1 := by decide +kernel
set_option maxHeartbeats 4000000 in
set_option maxRecDepth 100000 in
theorem c_X5_remove (l : Launch) (G : GG) (h0 : Nat) (h1 : Nat) (ln : Int32) (q : (Nat → Int32)) (sz : Nat) (p0 : Int32)  : Met l yX5_remove wsX5_remove ({ frames := 1, cells := 0, slots := 0, locals := 21 }) (Pre G [.ref h0, .int p0] (LN G h0 h1 ln q) sz) (PI G (va_A (LN G h0 h1 ln q) sz) (fun r (u : Int32 × (Nat → Int32)) => f_X5_remove ln q p0 = (r, u)) (fun u : Int32 × (Nat → Int32) => LN G h0 h1 u.1 u.2)) 0 0 (va_A (LN G h0 h1 ln q) sz) := by
  refine Met.walk (cc := cX5_remove) (maxL := 4) (ret := (some .int)) (Qc := fun A => PI G A (fun r (u : Int32 × (Nat → Int32)) => f_X5_remove ln q p0 = (r, u)) (fun u : Int32 × (Nat → Int32) => LN G h0 h1 u.1 u.2)) (by decide) rfl (Nat.le_of_ble_eq_true rfl) ?_
  intro p e s m below meth c A H C0 _ hK hsz hP hD hA hS ls hl
  have hx := C0.1
  have hb := C0.2.1
  have hown : s.vm.findClass RX5 = some m.cls := C0.2.2.2.2.1
  have hml := C0.2.2.2.1
  have hts : ∀ w ∈ wsX5_remove, w.before [.ref h0, .int p0].toArray s = true := C0.2.2.2.2.2.1
  have hl : lv_has ls 4 [(0, .ref h0), (1, .int p0)] := hl
  have h_X5_remove_24 : ∀ (n : Nat) (ln_24 : Int32) (q_24 : (Nat → Int32)) (k : Int32) (i : Nat), 12 - i < n → (1 ≤ i ∧ i < 2 ^ 31) → f_X5_remove ln q p0 = s_X5_remove_24 p0 n ln_24 q_24 k i → ∀ (H : Heap) (locs : List Loc) (ls : Array Slot), va_P G.1 vwCl (LN G h0 h1 ln_24 q_24) H → va_D A (LN G h0 h1 ln_24 q_24) → va_S A s.heap H locs → lv_has ls 4 [(3, .int (nI i)), (2, .int k), (0, .ref h0)] → W p l e ({ frames := 1, cells := 0, slots := 0, locals := 21 }) s m ([.ref h0, .int p0] : List Value).toArray below meth c H locs 0 0 (MQ below (PI G A (fun r (u : Int32 × (Nat → Int32)) => f_X5_remove ln q p0 = (r, u)) (fun u : Int32 × (Nat → Int32) => LN G h0 h1 u.1 u.2)) ([.ref h0, .int p0] : List Value).toArray s 0 0 A) (F0 m 24 ls []) := by
    intro n
    induction n with
    | zero =>
      intro ln_24 q_24 k i hm
      exact absurd hm (Nat.not_lt_zero _)
    | succ n ih =>
      intro ln_24 q_24 k i hm hi hE H locs ls hP hD hS hl
      refine lv_iload_n hx hb dX5_remove_24 rfl (lv_at hl 0 rfl) ?_
      refine lv_aload_n hx hb dX5_remove_25 rfl (lv_at hl 2 rfl) ?_
      refine va_get (D := G.1) (ci := 5) (v := .int ln_24) (C := RX5) (T := TX5) (N := 2) hx hb hts in_X5_remove_RX5 hown hK.1 hP 0 rfl rfl 1 (by decide) (hts _ k_X5_remove_f15) (fun _ h9 => h9) rfl dX5_remove_26 ?_
      refine lv_icmp_ge (tgt := 61) hx hb dX5_remove_29 (by decide) (fun c_4 => ?_) (fun c_4 => ?_)
      · refine lv_aload_n hx hb dX5_remove_61 rfl (lv_at hl 2 rfl) ?_
        refine lv_dup hx hb dX5_remove_62 rfl ?_
        refine va_get (D := G.1) (ci := 5) (v := .int ln_24) (C := RX5) (T := TX5) (N := 2) hx hb hts in_X5_remove_RX5 hown hK.1 hP 0 rfl rfl 1 (by decide) (hts _ k_X5_remove_f15) (fun _ h9 => h9) rfl dX5_remove_63 ?_
        refine lv_iconst (v := (nI 1)) hx hb dX5_remove_66 (by decide) ?_
        refine lv_isub hx hb dX5_remove_67 ?_
        refine va_put (D := G.1) (ci := 5) (v := .int (ln_24 - (nI 1))) (ty := .int) (C := RX5) (T := TX5) (N := 2) hx hb hts in_X5_remove_RX5 tyX5 tyX5_ok nmX5 hown hK.1 hP hD hS 0 rfl rfl 1 (by decide) (hts _ k_X5_remove_f15) (fun _ h9 => h9) rfl (by decide +kernel) rfl rfl (Nat.le_of_ble_eq_true rfl) dX5_remove_68 (fun H locs hP hD hS => ?_)
        have hP : va_P G.1 vwCl (LN G h0 h1 (ln_24 - (nI 1)) q_24) H := hP
        have hD : va_D A (LN G h0 h1 (ln_24 - (nI 1)) q_24) := hD
        refine lv_iload_n hx hb dX5_remove_71 rfl (lv_at hl 1 rfl) ?_
        exact end_I C0 hP hD hS ((ln_24 - (nI 1)), q_24) (hE.trans (by simp only [s_X5_remove_24, if_pos c_4])) rfl dX5_remove_72
      · refine lv_iload_n hx hb dX5_remove_32 rfl (lv_at hl 0 rfl) ?_
        refine lv_aload_n hx hb dX5_remove_33 rfl (lv_at hl 2 rfl) ?_
        refine va_get (D := G.1) (ci := 5) (v := .ref h1) (C := RX5) (T := TX5) (N := 2) hx hb hts in_X5_remove_RX5 hown hK.1 hP 0 rfl rfl 0 (by decide) (hts _ k_X5_remove_f9) (fun _ h9 => h9) rfl dX5_remove_34 ?_
        refine n_alen (n := 12) hx hb hK hP 1 0 rfl rfl dX5_remove_37 ?_
        refine lv_icmp_ge (tgt := 61) hx hb dX5_remove_38 (by decide) (fun c_5 => ?_) (fun c_5 => ?_)
        · have c_5n : 12 ≤ i := (nI_leI (by omega) (by omega)).mp c_5
          refine lv_aload_n hx hb dX5_remove_61 rfl (lv_at hl 2 rfl) ?_
          refine lv_dup hx hb dX5_remove_62 rfl ?_
          refine va_get (D := G.1) (ci := 5) (v := .int ln_24) (C := RX5) (T := TX5) (N := 2) hx hb hts in_X5_remove_RX5 hown hK.1 hP 0 rfl rfl 1 (by decide) (hts _ k_X5_remove_f15) (fun _ h9 => h9) rfl dX5_remove_63 ?_
          refine lv_iconst (v := (nI 1)) hx hb dX5_remove_66 (by decide) ?_
          refine lv_isub hx hb dX5_remove_67 ?_
          refine va_put (D := G.1) (ci := 5) (v := .int (ln_24 - (nI 1))) (ty := .int) (C := RX5) (T := TX5) (N := 2) hx hb hts in_X5_remove_RX5 tyX5 tyX5_ok nmX5 hown hK.1 hP hD hS 0 rfl rfl 1 (by decide) (hts _ k_X5_remove_f15) (fun _ h9 => h9) rfl (by decide +kernel) rfl rfl (Nat.le_of_ble_eq_true rfl) dX5_remove_68 (fun H locs hP hD hS => ?_)
          have hP : va_P G.1 vwCl (LN G h0 h1 (ln_24 - (nI 1)) q_24) H := hP
          have hD : va_D A (LN G h0 h1 (ln_24 - (nI 1)) q_24) := hD
          refine lv_iload_n hx hb dX5_remove_71 rfl (lv_at hl 1 rfl) ?_
          exact end_I C0 hP hD hS ((ln_24 - (nI 1)), q_24) (hE.trans (by simp only [s_X5_remove_24, if_neg c_4, if_pos c_5])) rfl dX5_remove_72
        · have c_5n : ¬ (12 ≤ i) := fun z => c_5 ((nI_leI (by omega) (by omega)).mpr z)
          refine lv_aload_n hx hb dX5_remove_41 rfl (lv_at hl 2 rfl) ?_
          refine va_get (D := G.1) (ci := 5) (v := .ref h1) (C := RX5) (T := TX5) (N := 2) hx hb hts in_X5_remove_RX5 hown hK.1 hP 0 rfl rfl 0 (by decide) (hts _ k_X5_remove_f9) (fun _ h9 => h9) rfl dX5_remove_42 ?_
          refine lv_iload_n hx hb dX5_remove_45 rfl (lv_at hl 0 rfl) ?_
          refine lv_iconst (v := (nI 1)) hx hb dX5_remove_46 (by decide) ?_
          refine n_isub (i := i) (j := 1) hx hb (by omega) dX5_remove_47 ?_
          refine lv_aload_n hx hb dX5_remove_48 rfl (lv_at hl 2 rfl) ?_
          refine va_get (D := G.1) (ci := 5) (v := .ref h1) (C := RX5) (T := TX5) (N := 2) hx hb hts in_X5_remove_RX5 hown hK.1 hP 0 rfl rfl 0 (by decide) (hts _ k_X5_remove_f9) (fun _ h9 => h9) rfl dX5_remove_49 ?_
          refine lv_iload_n hx hb dX5_remove_52 rfl (lv_at hl 0 rfl) ?_
          refine n_iald (f := q_24) (j := i) hx hb hK hP 1 rfl (by omega) (by decide) dX5_remove_53 ?_
          refine n_iast (f := q_24) (j := i - 1) (x := (q_24 i)) hx hb hK hP hD hS 1 rfl (by omega) (by decide) dX5_remove_54 (fun H locs hP hD hS => ?_)
          have hP : va_P G.1 vwCl (LN G h0 h1 ln_24 (upd q_24 (i - 1) (q_24 i))) H := hP
          have hD : va_D A (LN G h0 h1 ln_24 (upd q_24 (i - 1) (q_24 i))) := hD
          refine lv_iinc (v := (nI (i + 1))) (lv' := [(3, .int (nI (i + 1))), (2, .int k), (0, .ref h0)]) hx hb dX5_remove_55 hl (k := 0) rfl (inc1 i) (by decide) rfl (fun ls hl => ?_)
          refine lv_goto (tgt := 24) hx hb dX5_remove_58 (by decide) ?_
          exact ih ln_24 (upd q_24 (i - 1) (q_24 i)) k (i + 1) (by omega) (by omega) (hE.trans (by simp only [s_X5_remove_24, if_neg c_4, if_neg c_5])) _ _ _ hP hD hS (lv_sub hl [0, 1, 2] rfl)
  refine lv_iload_n hx hb dX5_remove_0 rfl (lv_at hl 1 rfl) ?_
  refine lv_if_lt (tgt := 12) hx hb dX5_remove_1 (by decide) (fun c_1 => ?_) (fun c_1 => ?_)
  · refine lv_iconst (v := (-1)) hx hb dX5_remove_12 (by decide) ?_
    exact end_I C0 hP hD hS (ln, q) (by simp only [f_X5_remove, if_pos c_1]) rfl dX5_remove_13
  · refine lv_iload_n hx hb dX5_remove_4 rfl (lv_at hl 1 rfl) ?_
    refine lv_aload_n hx hb dX5_remove_5 rfl (lv_at hl 0 rfl) ?_
    refine va_get (D := G.1) (ci := 5) (v := .int ln) (C := RX5) (T := TX5) (N := 2) hx hb hts in_X5_remove_RX5 hown hK.1 hP 0 rfl rfl 1 (by decide) (hts _ k_X5_remove_f15) (fun _ h9 => h9) rfl dX5_remove_6 ?_
    refine lv_icmp_lt (tgt := 14) hx hb dX5_remove_9 (by decide) (fun c_2 => ?_) (fun c_2 => ?_)
    · have ej_2 : p0 = nI p0.toNatClampNeg := natOf c_1
      have hj_2 : p0.toNatClampNeg + 1 < 2 ^ 31 := natSucc c_1 c_2
      have hl : lv_has ls 4 [(0, .ref h0), (1, .int (nI p0.toNatClampNeg))] := by rw [← ej_2]; exact hl
      refine lv_aload_n hx hb dX5_remove_14 rfl (lv_at hl 0 rfl) ?_
      refine lv_iload_n hx hb dX5_remove_15 rfl (lv_at hl 1 rfl) ?_
      refine gcall_I (run_V (As := [.int (nI p0.toNatClampNeg)]) (rest := []) C0 hK hP hD (c_X5_kindAt l G h0 h1 ln q H.size (nI p0.toNatClampNeg)) (cwV 1 hts gX5_remove_X5_kindAt rfl rfl rfl cd_X5_kindAt ⟨Nat.le_of_ble_eq_true rfl, Nat.le_of_ble_eq_true rfl⟩) [0, 1] rfl rfl 0 (ci := 5) rfl rfl rfl rfl hl.1 rfl (by decide) dX5_remove_16 ⟨Nat.le_of_ble_eq_true rfl, Nat.le_of_ble_eq_true rfl⟩) hP hD hS hA [0, 1] rfl rfl (fun _ => rfl) (fun r_3 _ H locs hw_3 hP hD hS => ?_)
      subst hw_3
      have hP : va_P G.1 vwCl (LN G h0 h1 ln q) H := hP
      have hD : va_D A (LN G h0 h1 ln q) := hD
      refine lv_istore_n (lv' := [(2, .int (f_X5_kindAt ln q (nI p0.toNatClampNeg))), (0, .ref h0), (1, .int (nI p0.toNatClampNeg))]) hx hb dX5_remove_19 rfl hl (by decide) rfl (fun ls hl => ?_)
      refine lv_iload_n hx hb dX5_remove_20 rfl (lv_at hl 2 rfl) ?_
      refine lv_iconst (v := (nI 1)) hx hb dX5_remove_21 (by decide) ?_
      refine n_iadd (i := p0.toNatClampNeg) (j := 1) hx hb dX5_remove_22 ?_
      refine lv_istore_n (lv' := [(3, .int (nI (p0.toNatClampNeg + 1))), (2, .int (f_X5_kindAt ln q (nI p0.toNatClampNeg))), (0, .ref h0), (1, .int (nI p0.toNatClampNeg))]) hx hb dX5_remove_23 rfl hl (by decide) rfl (fun ls hl => ?_)
      exact h_X5_remove_24 13 ln q (f_X5_kindAt ln q (nI p0.toNatClampNeg)) (p0.toNatClampNeg + 1) (by omega) (by omega) (by simp only [f_X5_remove, if_neg c_1, if_pos c_2]) _ _ _ hP hD hS (lv_sub hl [0, 1, 2] rfl)
    · refine lv_iconst (v := (-1)) hx hb dX5_remove_12 (by decide) ?_
      exact end_I C0 hP hD hS (ln, q) (by simp only [f_X5_remove, if_neg c_1, if_neg c_2]) rfl dX5_remove_13
end
