section
-- ===== PART A: goes FIRST, ahead of the names: the tables' words, and 'selects' of the private methods out of them =====
/-- a private method of a class that the tables say can be made, by its rows of tables_1 -/
def lw_okq (q : MethodName × Nat) : Prop := (q.1.cls ≠ "java/lang/invoke/MethodHandle" ∧ q.1.cls ≠ "java/lang/invoke/VarHandle") ∧ Cond.instantiable q.1.cls q.2 ∈ tables_1 ∧ Cond.privateMethod q.1 ∈ tables_1 ∧ Cond.instanceMethod q.1 ∈ tables_1
theorem lw_p0 : lw_okq (⟨"EclipseSeats", "bad", "(I)I"⟩, 13) := ⟨⟨by decide +kernel, by decide +kernel⟩, List.mem_of_getElem? (i := 16) (by decide +kernel), List.mem_of_getElem? (i := 227) (by decide +kernel), List.mem_of_getElem? (i := 228) (by decide +kernel)⟩
theorem lw_p1 : lw_okq (⟨"EclipseSeats", "full", "()I"⟩, 13) := ⟨⟨by decide +kernel, by decide +kernel⟩, List.mem_of_getElem? (i := 16) (by decide +kernel), List.mem_of_getElem? (i := 247) (by decide +kernel), List.mem_of_getElem? (i := 248) (by decide +kernel)⟩
theorem lw_p2 : lw_okq (⟨"EclipseSeats$Text", "step", "()V"⟩, 6) := ⟨⟨by decide +kernel, by decide +kernel⟩, List.mem_of_getElem? (i := 97) (by decide +kernel), List.mem_of_getElem? (i := 275) (by decide +kernel), List.mem_of_getElem? (i := 276) (by decide +kernel)⟩
theorem lw_p3 : lw_okq (⟨"EclipseSeats$Text", "takeItem", "(LEclipseSeats$Hill;Z)Z"⟩, 6) := ⟨⟨by decide +kernel, by decide +kernel⟩, List.mem_of_getElem? (i := 97) (by decide +kernel), List.mem_of_getElem? (i := 285) (by decide +kernel), List.mem_of_getElem? (i := 286) (by decide +kernel)⟩
theorem lw_p4 : lw_okq (⟨"EclipseSeats$Text", "isWord", "(Ljava/lang/String;)Z"⟩, 6) := ⟨⟨by decide +kernel, by decide +kernel⟩, List.mem_of_getElem? (i := 97) (by decide +kernel), List.mem_of_getElem? (i := 290) (by decide +kernel), List.mem_of_getElem? (i := 291) (by decide +kernel)⟩
theorem lw_p5 : lw_okq (⟨"EclipseSeats$Text", "takeTrack", "(LEclipseSeats$Hill;)Z"⟩, 6) := ⟨⟨by decide +kernel, by decide +kernel⟩, List.mem_of_getElem? (i := 97) (by decide +kernel), List.mem_of_getElem? (i := 342) (by decide +kernel), List.mem_of_getElem? (i := 343) (by decide +kernel)⟩
theorem lw_p6 : lw_okq (⟨"EclipseSeats$Text", "takeNumber", "(I)Z"⟩, 6) := ⟨⟨by decide +kernel, by decide +kernel⟩, List.mem_of_getElem? (i := 97) (by decide +kernel), List.mem_of_getElem? (i := 346) (by decide +kernel), List.mem_of_getElem? (i := 347) (by decide +kernel)⟩
theorem lw_p7 : lw_okq (⟨"EclipseSeats$Text", "takeDark", "(LEclipseSeats$Hill;)Z"⟩, 6) := ⟨⟨by decide +kernel, by decide +kernel⟩, List.mem_of_getElem? (i := 97) (by decide +kernel), List.mem_of_getElem? (i := 351) (by decide +kernel), List.mem_of_getElem? (i := 352) (by decide +kernel)⟩
theorem lw_p8 : lw_okq (⟨"EclipseSeats$Text", "takeHeights", "(LEclipseSeats$Hill;)Z"⟩, 6) := ⟨⟨by decide +kernel, by decide +kernel⟩, List.mem_of_getElem? (i := 97) (by decide +kernel), List.mem_of_getElem? (i := 356) (by decide +kernel), List.mem_of_getElem? (i := 357) (by decide +kernel)⟩
theorem lw_p9 : lw_okq (⟨"EclipseSeats$Text", "takeBidder", "(LEclipseSeats$Hill;)Z"⟩, 6) := ⟨⟨by decide +kernel, by decide +kernel⟩, List.mem_of_getElem? (i := 97) (by decide +kernel), List.mem_of_getElem? (i := 361) (by decide +kernel), List.mem_of_getElem? (i := 362) (by decide +kernel)⟩
theorem lw_p10 : lw_okq (⟨"EclipseSeats$Text", "takeSeat", "(LEclipseSeats$Hill;)Z"⟩, 6) := ⟨⟨by decide +kernel, by decide +kernel⟩, List.mem_of_getElem? (i := 97) (by decide +kernel), List.mem_of_getElem? (i := 367) (by decide +kernel), List.mem_of_getElem? (i := 368) (by decide +kernel)⟩
theorem lw_p11 : lw_okq (⟨"EclipseSeats$Text", "takeStop", "()Z"⟩, 6) := ⟨⟨by decide +kernel, by decide +kernel⟩, List.mem_of_getElem? (i := 97) (by decide +kernel), List.mem_of_getElem? (i := 375) (by decide +kernel), List.mem_of_getElem? (i := 376) (by decide +kernel)⟩
theorem lw_p12 : lw_okq (⟨"EclipseSeats", "no", "()I"⟩, 13) := ⟨⟨by decide +kernel, by decide +kernel⟩, List.mem_of_getElem? (i := 16) (by decide +kernel), List.mem_of_getElem? (i := 391) (by decide +kernel), List.mem_of_getElem? (i := 392) (by decide +kernel)⟩
theorem lw_p13 : lw_okq (⟨"EclipseSeats", "isBidder", "(I)Z"⟩, 13) := ⟨⟨by decide +kernel, by decide +kernel⟩, List.mem_of_getElem? (i := 16) (by decide +kernel), List.mem_of_getElem? (i := 451) (by decide +kernel), List.mem_of_getElem? (i := 452) (by decide +kernel)⟩
theorem lw_p14 : lw_okq (⟨"EclipseSeats$Seating", "lookAt", "(LEclipseSeats$Hill;I)V"⟩, 4) := ⟨⟨by decide +kernel, by decide +kernel⟩, List.mem_of_getElem? (i := 126) (by decide +kernel), List.mem_of_getElem? (i := 525) (by decide +kernel), List.mem_of_getElem? (i := 526) (by decide +kernel)⟩
theorem lw_p15 : lw_okq (⟨"EclipseSeats$Seating", "spread", "(LEclipseSeats$Hill;II)V"⟩, 4) := ⟨⟨by decide +kernel, by decide +kernel⟩, List.mem_of_getElem? (i := 126) (by decide +kernel), List.mem_of_getElem? (i := 532) (by decide +kernel), List.mem_of_getElem? (i := 533) (by decide +kernel)⟩
def lw_privs_1 : List (MethodName × Nat) := [(⟨"EclipseSeats", "bad", "(I)I"⟩, 13), (⟨"EclipseSeats", "full", "()I"⟩, 13), (⟨"EclipseSeats$Text", "step", "()V"⟩, 6), (⟨"EclipseSeats$Text", "takeItem", "(LEclipseSeats$Hill;Z)Z"⟩, 6), (⟨"EclipseSeats$Text", "isWord", "(Ljava/lang/String;)Z"⟩, 6), (⟨"EclipseSeats$Text", "takeTrack", "(LEclipseSeats$Hill;)Z"⟩, 6), (⟨"EclipseSeats$Text", "takeNumber", "(I)Z"⟩, 6), (⟨"EclipseSeats$Text", "takeDark", "(LEclipseSeats$Hill;)Z"⟩, 6), (⟨"EclipseSeats$Text", "takeHeights", "(LEclipseSeats$Hill;)Z"⟩, 6), (⟨"EclipseSeats$Text", "takeBidder", "(LEclipseSeats$Hill;)Z"⟩, 6), (⟨"EclipseSeats$Text", "takeSeat", "(LEclipseSeats$Hill;)Z"⟩, 6), (⟨"EclipseSeats$Text", "takeStop", "()Z"⟩, 6), (⟨"EclipseSeats", "no", "()I"⟩, 13), (⟨"EclipseSeats", "isBidder", "(I)Z"⟩, 13), (⟨"EclipseSeats$Seating", "lookAt", "(LEclipseSeats$Hill;I)V"⟩, 4), (⟨"EclipseSeats$Seating", "spread", "(LEclipseSeats$Hill;II)V"⟩, 4)]
theorem lw_r1 : ∀ q ∈ lw_privs_1, lw_okq q := List.forall_mem_cons.mpr ⟨lw_p0, List.forall_mem_cons.mpr ⟨lw_p1, List.forall_mem_cons.mpr ⟨lw_p2, List.forall_mem_cons.mpr ⟨lw_p3, List.forall_mem_cons.mpr ⟨lw_p4, List.forall_mem_cons.mpr ⟨lw_p5, List.forall_mem_cons.mpr ⟨lw_p6, List.forall_mem_cons.mpr ⟨lw_p7, List.forall_mem_cons.mpr ⟨lw_p8, List.forall_mem_cons.mpr ⟨lw_p9, List.forall_mem_cons.mpr ⟨lw_p10, List.forall_mem_cons.mpr ⟨lw_p11, List.forall_mem_cons.mpr ⟨lw_p12, List.forall_mem_cons.mpr ⟨lw_p13, List.forall_mem_cons.mpr ⟨lw_p14, List.forall_mem_cons.mpr ⟨lw_p15, fun _ h => absurd h List.not_mem_nil⟩⟩⟩⟩⟩⟩⟩⟩⟩⟩⟩⟩⟩⟩⟩⟩
theorem lw_p16 : lw_okq (⟨"EclipseSeats$Guess", "mostAlike", "(III)I"⟩, 1) := ⟨⟨by decide +kernel, by decide +kernel⟩, List.mem_of_getElem? (i := 164) (by decide +kernel), List.mem_of_getElem? (i := 584) (by decide +kernel), List.mem_of_getElem? (i := 585) (by decide +kernel)⟩
theorem lw_p17 : lw_okq (⟨"EclipseSeats$Guess", "likeOnes", "(I)I"⟩, 1) := ⟨⟨by decide +kernel, by decide +kernel⟩, List.mem_of_getElem? (i := 164) (by decide +kernel), List.mem_of_getElem? (i := 588) (by decide +kernel), List.mem_of_getElem? (i := 589) (by decide +kernel)⟩
theorem lw_p18 : lw_okq (⟨"EclipseSeats", "howMany", "(I)I"⟩, 13) := ⟨⟨by decide +kernel, by decide +kernel⟩, List.mem_of_getElem? (i := 16) (by decide +kernel), List.mem_of_getElem? (i := 664) (by decide +kernel), List.mem_of_getElem? (i := 665) (by decide +kernel)⟩
theorem lw_p19 : lw_okq (⟨"EclipseSeatsModel", "begin", "(II)V"⟩, 32) := ⟨⟨by decide +kernel, by decide +kernel⟩, List.mem_of_getElem? (i := 678) (by decide +kernel), List.mem_of_getElem? (i := 684) (by decide +kernel), List.mem_of_getElem? (i := 685) (by decide +kernel)⟩
theorem lw_p20 : lw_okq (⟨"EclipseSeatsModel", "bad", "()I"⟩, 32) := ⟨⟨by decide +kernel, by decide +kernel⟩, List.mem_of_getElem? (i := 678) (by decide +kernel), List.mem_of_getElem? (i := 795) (by decide +kernel), List.mem_of_getElem? (i := 796) (by decide +kernel)⟩
theorem lw_p21 : lw_okq (⟨"EclipseSeatsModel", "full", "()I"⟩, 32) := ⟨⟨by decide +kernel, by decide +kernel⟩, List.mem_of_getElem? (i := 678) (by decide +kernel), List.mem_of_getElem? (i := 811) (by decide +kernel), List.mem_of_getElem? (i := 812) (by decide +kernel)⟩
theorem lw_p22 : lw_okq (⟨"EclipseSeatsModel", "addOne", "(II)I"⟩, 32) := ⟨⟨by decide +kernel, by decide +kernel⟩, List.mem_of_getElem? (i := 678) (by decide +kernel), List.mem_of_getElem? (i := 815) (by decide +kernel), List.mem_of_getElem? (i := 816) (by decide +kernel)⟩
theorem lw_p23 : lw_okq (⟨"EclipseSeatsModel", "readsHill", "()I"⟩, 32) := ⟨⟨by decide +kernel, by decide +kernel⟩, List.mem_of_getElem? (i := 678) (by decide +kernel), List.mem_of_getElem? (i := 831) (by decide +kernel), List.mem_of_getElem? (i := 832) (by decide +kernel)⟩
theorem lw_p24 : lw_okq (⟨"EclipseSeatsModel", "readsFirst", "()Z"⟩, 32) := ⟨⟨by decide +kernel, by decide +kernel⟩, List.mem_of_getElem? (i := 678) (by decide +kernel), List.mem_of_getElem? (i := 835) (by decide +kernel), List.mem_of_getElem? (i := 836) (by decide +kernel)⟩
theorem lw_p25 : lw_okq (⟨"EclipseSeatsModel", "skip", "()V"⟩, 32) := ⟨⟨by decide +kernel, by decide +kernel⟩, List.mem_of_getElem? (i := 678) (by decide +kernel), List.mem_of_getElem? (i := 839) (by decide +kernel), List.mem_of_getElem? (i := 840) (by decide +kernel)⟩
theorem lw_p26 : lw_okq (⟨"EclipseSeatsModel", "here", "()I"⟩, 32) := ⟨⟨by decide +kernel, by decide +kernel⟩, List.mem_of_getElem? (i := 678) (by decide +kernel), List.mem_of_getElem? (i := 843) (by decide +kernel), List.mem_of_getElem? (i := 844) (by decide +kernel)⟩
theorem lw_p27 : lw_okq (⟨"EclipseSeatsModel", "wordHere", "()I"⟩, 32) := ⟨⟨by decide +kernel, by decide +kernel⟩, List.mem_of_getElem? (i := 678) (by decide +kernel), List.mem_of_getElem? (i := 847) (by decide +kernel), List.mem_of_getElem? (i := 848) (by decide +kernel)⟩
theorem lw_p28 : lw_okq (⟨"EclipseSeatsModel", "wordSize", "()I"⟩, 32) := ⟨⟨by decide +kernel, by decide +kernel⟩, List.mem_of_getElem? (i := 678) (by decide +kernel), List.mem_of_getElem? (i := 851) (by decide +kernel), List.mem_of_getElem? (i := 852) (by decide +kernel)⟩
theorem lw_p29 : lw_okq (⟨"EclipseSeatsModel", "spells", "(IIII)Z"⟩, 32) := ⟨⟨by decide +kernel, by decide +kernel⟩, List.mem_of_getElem? (i := 678) (by decide +kernel), List.mem_of_getElem? (i := 858) (by decide +kernel), List.mem_of_getElem? (i := 859) (by decide +kernel)⟩
theorem lw_p30 : lw_okq (⟨"EclipseSeatsModel", "letter", "(I)I"⟩, 32) := ⟨⟨by decide +kernel, by decide +kernel⟩, List.mem_of_getElem? (i := 678) (by decide +kernel), List.mem_of_getElem? (i := 862) (by decide +kernel), List.mem_of_getElem? (i := 863) (by decide +kernel)⟩
theorem lw_p31 : lw_okq (⟨"EclipseSeatsModel", "number", "(II)Z"⟩, 32) := ⟨⟨by decide +kernel, by decide +kernel⟩, List.mem_of_getElem? (i := 678) (by decide +kernel), List.mem_of_getElem? (i := 866) (by decide +kernel), List.mem_of_getElem? (i := 867) (by decide +kernel)⟩
def lw_privs_2 : List (MethodName × Nat) := [(⟨"EclipseSeats$Guess", "mostAlike", "(III)I"⟩, 1), (⟨"EclipseSeats$Guess", "likeOnes", "(I)I"⟩, 1), (⟨"EclipseSeats", "howMany", "(I)I"⟩, 13), (⟨"EclipseSeatsModel", "begin", "(II)V"⟩, 32), (⟨"EclipseSeatsModel", "bad", "()I"⟩, 32), (⟨"EclipseSeatsModel", "full", "()I"⟩, 32), (⟨"EclipseSeatsModel", "addOne", "(II)I"⟩, 32), (⟨"EclipseSeatsModel", "readsHill", "()I"⟩, 32), (⟨"EclipseSeatsModel", "readsFirst", "()Z"⟩, 32), (⟨"EclipseSeatsModel", "skip", "()V"⟩, 32), (⟨"EclipseSeatsModel", "here", "()I"⟩, 32), (⟨"EclipseSeatsModel", "wordHere", "()I"⟩, 32), (⟨"EclipseSeatsModel", "wordSize", "()I"⟩, 32), (⟨"EclipseSeatsModel", "spells", "(IIII)Z"⟩, 32), (⟨"EclipseSeatsModel", "letter", "(I)I"⟩, 32), (⟨"EclipseSeatsModel", "number", "(II)Z"⟩, 32)]
theorem lw_r2 : ∀ q ∈ lw_privs_2, lw_okq q := List.forall_mem_cons.mpr ⟨lw_p16, List.forall_mem_cons.mpr ⟨lw_p17, List.forall_mem_cons.mpr ⟨lw_p18, List.forall_mem_cons.mpr ⟨lw_p19, List.forall_mem_cons.mpr ⟨lw_p20, List.forall_mem_cons.mpr ⟨lw_p21, List.forall_mem_cons.mpr ⟨lw_p22, List.forall_mem_cons.mpr ⟨lw_p23, List.forall_mem_cons.mpr ⟨lw_p24, List.forall_mem_cons.mpr ⟨lw_p25, List.forall_mem_cons.mpr ⟨lw_p26, List.forall_mem_cons.mpr ⟨lw_p27, List.forall_mem_cons.mpr ⟨lw_p28, List.forall_mem_cons.mpr ⟨lw_p29, List.forall_mem_cons.mpr ⟨lw_p30, List.forall_mem_cons.mpr ⟨lw_p31, fun _ h => absurd h List.not_mem_nil⟩⟩⟩⟩⟩⟩⟩⟩⟩⟩⟩⟩⟩⟩⟩⟩
theorem lw_p32 : lw_okq (⟨"EclipseSeatsModel", "ends", "()Z"⟩, 32) := ⟨⟨by decide +kernel, by decide +kernel⟩, List.mem_of_getElem? (i := 678) (by decide +kernel), List.mem_of_getElem? (i := 873) (by decide +kernel), List.mem_of_getElem? (i := 874) (by decide +kernel)⟩
theorem lw_p33 : lw_okq (⟨"EclipseSeatsModel", "readsItem", "()Z"⟩, 32) := ⟨⟨by decide +kernel, by decide +kernel⟩, List.mem_of_getElem? (i := 678) (by decide +kernel), List.mem_of_getElem? (i := 877) (by decide +kernel), List.mem_of_getElem? (i := 878) (by decide +kernel)⟩
theorem lw_p34 : lw_okq (⟨"EclipseSeatsModel", "readsDark", "()Z"⟩, 32) := ⟨⟨by decide +kernel, by decide +kernel⟩, List.mem_of_getElem? (i := 678) (by decide +kernel), List.mem_of_getElem? (i := 881) (by decide +kernel), List.mem_of_getElem? (i := 882) (by decide +kernel)⟩
theorem lw_p35 : lw_okq (⟨"EclipseSeatsModel", "readsHeights", "()Z"⟩, 32) := ⟨⟨by decide +kernel, by decide +kernel⟩, List.mem_of_getElem? (i := 678) (by decide +kernel), List.mem_of_getElem? (i := 885) (by decide +kernel), List.mem_of_getElem? (i := 886) (by decide +kernel)⟩
theorem lw_p36 : lw_okq (⟨"EclipseSeatsModel", "readsOne", "()Z"⟩, 32) := ⟨⟨by decide +kernel, by decide +kernel⟩, List.mem_of_getElem? (i := 678) (by decide +kernel), List.mem_of_getElem? (i := 889) (by decide +kernel), List.mem_of_getElem? (i := 890) (by decide +kernel)⟩
theorem lw_p37 : lw_okq (⟨"EclipseSeatsModel", "readsSeat", "()Z"⟩, 32) := ⟨⟨by decide +kernel, by decide +kernel⟩, List.mem_of_getElem? (i := 678) (by decide +kernel), List.mem_of_getElem? (i := 893) (by decide +kernel), List.mem_of_getElem? (i := 894) (by decide +kernel)⟩
theorem lw_p38 : lw_okq (⟨"EclipseSeatsModel", "who", "(I)I"⟩, 32) := ⟨⟨by decide +kernel, by decide +kernel⟩, List.mem_of_getElem? (i := 678) (by decide +kernel), List.mem_of_getElem? (i := 901) (by decide +kernel), List.mem_of_getElem? (i := 902) (by decide +kernel)⟩
theorem lw_p39 : lw_okq (⟨"EclipseSeatsModel", "winner", "(I)I"⟩, 32) := ⟨⟨by decide +kernel, by decide +kernel⟩, List.mem_of_getElem? (i := 678) (by decide +kernel), List.mem_of_getElem? (i := 905) (by decide +kernel), List.mem_of_getElem? (i := 906) (by decide +kernel)⟩
theorem lw_p40 : lw_okq (⟨"EclipseSeatsModel", "bidOf", "(II)I"⟩, 32) := ⟨⟨by decide +kernel, by decide +kernel⟩, List.mem_of_getElem? (i := 678) (by decide +kernel), List.mem_of_getElem? (i := 909) (by decide +kernel), List.mem_of_getElem? (i := 910) (by decide +kernel)⟩
theorem lw_p41 : lw_okq (⟨"EclipseSeatsModel", "worthIn", "(II)I"⟩, 32) := ⟨⟨by decide +kernel, by decide +kernel⟩, List.mem_of_getElem? (i := 678) (by decide +kernel), List.mem_of_getElem? (i := 913) (by decide +kernel), List.mem_of_getElem? (i := 914) (by decide +kernel)⟩
theorem lw_p42 : lw_okq (⟨"EclipseSeatsModel", "seesIn", "(II)I"⟩, 32) := ⟨⟨by decide +kernel, by decide +kernel⟩, List.mem_of_getElem? (i := 678) (by decide +kernel), List.mem_of_getElem? (i := 917) (by decide +kernel), List.mem_of_getElem? (i := 918) (by decide +kernel)⟩
theorem lw_p43 : lw_okq (⟨"EclipseSeatsModel", "seen", "(I)I"⟩, 32) := ⟨⟨by decide +kernel, by decide +kernel⟩, List.mem_of_getElem? (i := 678) (by decide +kernel), List.mem_of_getElem? (i := 921) (by decide +kernel), List.mem_of_getElem? (i := 922) (by decide +kernel)⟩
theorem lw_p44 : lw_okq (⟨"EclipseSeatsModel", "darkIn", "(I)I"⟩, 32) := ⟨⟨by decide +kernel, by decide +kernel⟩, List.mem_of_getElem? (i := 678) (by decide +kernel), List.mem_of_getElem? (i := 925) (by decide +kernel), List.mem_of_getElem? (i := 926) (by decide +kernel)⟩
theorem lw_p45 : lw_okq (⟨"EclipseSeatsModel", "no", "()I"⟩, 32) := ⟨⟨by decide +kernel, by decide +kernel⟩, List.mem_of_getElem? (i := 678) (by decide +kernel), List.mem_of_getElem? (i := 938) (by decide +kernel), List.mem_of_getElem? (i := 939) (by decide +kernel)⟩
theorem lw_p46 : lw_okq (⟨"EclipseSeatsModel", "priceOf", "(II)I"⟩, 32) := ⟨⟨by decide +kernel, by decide +kernel⟩, List.mem_of_getElem? (i := 678) (by decide +kernel), List.mem_of_getElem? (i := 942) (by decide +kernel), List.mem_of_getElem? (i := 943) (by decide +kernel)⟩
theorem lw_p47 : lw_okq (⟨"EclipseSeatsModel", "notes", "()V"⟩, 32) := ⟨⟨by decide +kernel, by decide +kernel⟩, List.mem_of_getElem? (i := 678) (by decide +kernel), List.mem_of_getElem? (i := 946) (by decide +kernel), List.mem_of_getElem? (i := 947) (by decide +kernel)⟩
def lw_privs_3 : List (MethodName × Nat) := [(⟨"EclipseSeatsModel", "ends", "()Z"⟩, 32), (⟨"EclipseSeatsModel", "readsItem", "()Z"⟩, 32), (⟨"EclipseSeatsModel", "readsDark", "()Z"⟩, 32), (⟨"EclipseSeatsModel", "readsHeights", "()Z"⟩, 32), (⟨"EclipseSeatsModel", "readsOne", "()Z"⟩, 32), (⟨"EclipseSeatsModel", "readsSeat", "()Z"⟩, 32), (⟨"EclipseSeatsModel", "who", "(I)I"⟩, 32), (⟨"EclipseSeatsModel", "winner", "(I)I"⟩, 32), (⟨"EclipseSeatsModel", "bidOf", "(II)I"⟩, 32), (⟨"EclipseSeatsModel", "worthIn", "(II)I"⟩, 32), (⟨"EclipseSeatsModel", "seesIn", "(II)I"⟩, 32), (⟨"EclipseSeatsModel", "seen", "(I)I"⟩, 32), (⟨"EclipseSeatsModel", "darkIn", "(I)I"⟩, 32), (⟨"EclipseSeatsModel", "no", "()I"⟩, 32), (⟨"EclipseSeatsModel", "priceOf", "(II)I"⟩, 32), (⟨"EclipseSeatsModel", "notes", "()V"⟩, 32)]
theorem lw_r3 : ∀ q ∈ lw_privs_3, lw_okq q := List.forall_mem_cons.mpr ⟨lw_p32, List.forall_mem_cons.mpr ⟨lw_p33, List.forall_mem_cons.mpr ⟨lw_p34, List.forall_mem_cons.mpr ⟨lw_p35, List.forall_mem_cons.mpr ⟨lw_p36, List.forall_mem_cons.mpr ⟨lw_p37, List.forall_mem_cons.mpr ⟨lw_p38, List.forall_mem_cons.mpr ⟨lw_p39, List.forall_mem_cons.mpr ⟨lw_p40, List.forall_mem_cons.mpr ⟨lw_p41, List.forall_mem_cons.mpr ⟨lw_p42, List.forall_mem_cons.mpr ⟨lw_p43, List.forall_mem_cons.mpr ⟨lw_p44, List.forall_mem_cons.mpr ⟨lw_p45, List.forall_mem_cons.mpr ⟨lw_p46, List.forall_mem_cons.mpr ⟨lw_p47, fun _ h => absurd h List.not_mem_nil⟩⟩⟩⟩⟩⟩⟩⟩⟩⟩⟩⟩⟩⟩⟩⟩
theorem lw_p48 : lw_okq (⟨"EclipseSeatsModel", "lays", "([II)V"⟩, 32) := ⟨⟨by decide +kernel, by decide +kernel⟩, List.mem_of_getElem? (i := 678) (by decide +kernel), List.mem_of_getElem? (i := 950) (by decide +kernel), List.mem_of_getElem? (i := 951) (by decide +kernel)⟩
theorem lw_p49 : lw_okq (⟨"EclipseSeatsModel", "isOne", "(I)Z"⟩, 32) := ⟨⟨by decide +kernel, by decide +kernel⟩, List.mem_of_getElem? (i := 678) (by decide +kernel), List.mem_of_getElem? (i := 958) (by decide +kernel), List.mem_of_getElem? (i := 959) (by decide +kernel)⟩
theorem lw_p50 : lw_okq (⟨"EclipseSeatsModel", "takes", "([II)V"⟩, 32) := ⟨⟨by decide +kernel, by decide +kernel⟩, List.mem_of_getElem? (i := 678) (by decide +kernel), List.mem_of_getElem? (i := 970) (by decide +kernel), List.mem_of_getElem? (i := 971) (by decide +kernel)⟩
theorem lw_p51 : lw_okq (⟨"EclipseSeatsModel", "free", "()I"⟩, 32) := ⟨⟨by decide +kernel, by decide +kernel⟩, List.mem_of_getElem? (i := 678) (by decide +kernel), List.mem_of_getElem? (i := 974) (by decide +kernel), List.mem_of_getElem? (i := 975) (by decide +kernel)⟩
theorem lw_p52 : lw_okq (⟨"EclipseSeatsModel", "ten", "()I"⟩, 32) := ⟨⟨by decide +kernel, by decide +kernel⟩, List.mem_of_getElem? (i := 678) (by decide +kernel), List.mem_of_getElem? (i := 982) (by decide +kernel), List.mem_of_getElem? (i := 983) (by decide +kernel)⟩
theorem lw_p53 : lw_okq (⟨"EclipseSeatsModel", "isOpen", "(II)Z"⟩, 32) := ⟨⟨by decide +kernel, by decide +kernel⟩, List.mem_of_getElem? (i := 678) (by decide +kernel), List.mem_of_getElem? (i := 994) (by decide +kernel), List.mem_of_getElem? (i := 995) (by decide +kernel)⟩
theorem lw_p54 : lw_okq (⟨"EclipseSeatsModel", "worth", "(I)I"⟩, 32) := ⟨⟨by decide +kernel, by decide +kernel⟩, List.mem_of_getElem? (i := 678) (by decide +kernel), List.mem_of_getElem? (i := 1002) (by decide +kernel), List.mem_of_getElem? (i := 1003) (by decide +kernel)⟩
theorem lw_p55 : lw_okq (⟨"EclipseSeatsModel", "hurtIn", "(II)I"⟩, 32) := ⟨⟨by decide +kernel, by decide +kernel⟩, List.mem_of_getElem? (i := 678) (by decide +kernel), List.mem_of_getElem? (i := 1014) (by decide +kernel), List.mem_of_getElem? (i := 1015) (by decide +kernel)⟩
theorem lw_p56 : lw_okq (⟨"EclipseSeatsModel", "othersSee", "(I)I"⟩, 32) := ⟨⟨by decide +kernel, by decide +kernel⟩, List.mem_of_getElem? (i := 678) (by decide +kernel), List.mem_of_getElem? (i := 1018) (by decide +kernel), List.mem_of_getElem? (i := 1019) (by decide +kernel)⟩
theorem lw_p57 : lw_okq (⟨"EclipseSeatsModel", "seatBy", "(I)Z"⟩, 32) := ⟨⟨by decide +kernel, by decide +kernel⟩, List.mem_of_getElem? (i := 678) (by decide +kernel), List.mem_of_getElem? (i := 1030) (by decide +kernel), List.mem_of_getElem? (i := 1031) (by decide +kernel)⟩
theorem lw_p58 : lw_okq (⟨"EclipseSeatsModel", "kindsOf", "(I)I"⟩, 32) := ⟨⟨by decide +kernel, by decide +kernel⟩, List.mem_of_getElem? (i := 678) (by decide +kernel), List.mem_of_getElem? (i := 1053) (by decide +kernel), List.mem_of_getElem? (i := 1054) (by decide +kernel)⟩
theorem lw_p59 : lw_okq (⟨"EclipseSeatsModel", "rests", "(IIII)Z"⟩, 32) := ⟨⟨by decide +kernel, by decide +kernel⟩, List.mem_of_getElem? (i := 678) (by decide +kernel), List.mem_of_getElem? (i := 1069) (by decide +kernel), List.mem_of_getElem? (i := 1070) (by decide +kernel)⟩
theorem lw_p60 : lw_okq (⟨"EclipseSeatsModel", "gets", "(IIII)I"⟩, 32) := ⟨⟨by decide +kernel, by decide +kernel⟩, List.mem_of_getElem? (i := 678) (by decide +kernel), List.mem_of_getElem? (i := 1073) (by decide +kernel), List.mem_of_getElem? (i := 1074) (by decide +kernel)⟩
theorem lw_p61 : lw_okq (⟨"EclipseSeatsModel", "lay", "(JJ)V"⟩, 32) := ⟨⟨by decide +kernel, by decide +kernel⟩, List.mem_of_getElem? (i := 678) (by decide +kernel), List.mem_of_getElem? (i := 1082) (by decide +kernel), List.mem_of_getElem? (i := 1083) (by decide +kernel)⟩
theorem lw_p62 : lw_okq (⟨"EclipseSeatsModel", "countOf", "(I)I"⟩, 32) := ⟨⟨by decide +kernel, by decide +kernel⟩, List.mem_of_getElem? (i := 678) (by decide +kernel), List.mem_of_getElem? (i := 1118) (by decide +kernel), List.mem_of_getElem? (i := 1119) (by decide +kernel)⟩
theorem lw_p63 : lw_okq (⟨"EclipseSeatsModel", "allPaid", "()I"⟩, 32) := ⟨⟨by decide +kernel, by decide +kernel⟩, List.mem_of_getElem? (i := 678) (by decide +kernel), List.mem_of_getElem? (i := 1122) (by decide +kernel), List.mem_of_getElem? (i := 1123) (by decide +kernel)⟩
def lw_privs_4 : List (MethodName × Nat) := [(⟨"EclipseSeatsModel", "lays", "([II)V"⟩, 32), (⟨"EclipseSeatsModel", "isOne", "(I)Z"⟩, 32), (⟨"EclipseSeatsModel", "takes", "([II)V"⟩, 32), (⟨"EclipseSeatsModel", "free", "()I"⟩, 32), (⟨"EclipseSeatsModel", "ten", "()I"⟩, 32), (⟨"EclipseSeatsModel", "isOpen", "(II)Z"⟩, 32), (⟨"EclipseSeatsModel", "worth", "(I)I"⟩, 32), (⟨"EclipseSeatsModel", "hurtIn", "(II)I"⟩, 32), (⟨"EclipseSeatsModel", "othersSee", "(I)I"⟩, 32), (⟨"EclipseSeatsModel", "seatBy", "(I)Z"⟩, 32), (⟨"EclipseSeatsModel", "kindsOf", "(I)I"⟩, 32), (⟨"EclipseSeatsModel", "rests", "(IIII)Z"⟩, 32), (⟨"EclipseSeatsModel", "gets", "(IIII)I"⟩, 32), (⟨"EclipseSeatsModel", "lay", "(JJ)V"⟩, 32), (⟨"EclipseSeatsModel", "countOf", "(I)I"⟩, 32), (⟨"EclipseSeatsModel", "allPaid", "()I"⟩, 32)]
theorem lw_r4 : ∀ q ∈ lw_privs_4, lw_okq q := List.forall_mem_cons.mpr ⟨lw_p48, List.forall_mem_cons.mpr ⟨lw_p49, List.forall_mem_cons.mpr ⟨lw_p50, List.forall_mem_cons.mpr ⟨lw_p51, List.forall_mem_cons.mpr ⟨lw_p52, List.forall_mem_cons.mpr ⟨lw_p53, List.forall_mem_cons.mpr ⟨lw_p54, List.forall_mem_cons.mpr ⟨lw_p55, List.forall_mem_cons.mpr ⟨lw_p56, List.forall_mem_cons.mpr ⟨lw_p57, List.forall_mem_cons.mpr ⟨lw_p58, List.forall_mem_cons.mpr ⟨lw_p59, List.forall_mem_cons.mpr ⟨lw_p60, List.forall_mem_cons.mpr ⟨lw_p61, List.forall_mem_cons.mpr ⟨lw_p62, List.forall_mem_cons.mpr ⟨lw_p63, fun _ h => absurd h List.not_mem_nil⟩⟩⟩⟩⟩⟩⟩⟩⟩⟩⟩⟩⟩⟩⟩⟩
theorem lw_p64 : lw_okq (⟨"EclipseSeatsModel", "mix", "(J)V"⟩, 32) := ⟨⟨by decide +kernel, by decide +kernel⟩, List.mem_of_getElem? (i := 678) (by decide +kernel), List.mem_of_getElem? (i := 1131) (by decide +kernel), List.mem_of_getElem? (i := 1132) (by decide +kernel)⟩
def lw_privs_5 : List (MethodName × Nat) := [(⟨"EclipseSeatsModel", "mix", "(J)V"⟩, 32)]
theorem lw_r5 : ∀ q ∈ lw_privs_5, lw_okq q := List.forall_mem_cons.mpr ⟨lw_p64, fun _ h => absurd h List.not_mem_nil⟩
def lw_privs : List (MethodName × Nat) := lw_privs_1 ++ (lw_privs_2 ++ (lw_privs_3 ++ (lw_privs_4 ++ (lw_privs_5))))
def lw_tbl : List Cond := k2_sels lw_privs ++ tables_1
theorem lw_privs_ok : ∀ q ∈ lw_privs, lw_okq q := by
  show ∀ q ∈ lw_privs_1 ++ (lw_privs_2 ++ (lw_privs_3 ++ (lw_privs_4 ++ (lw_privs_5)))), lw_okq q
  exact List.forall_mem_append.mpr ⟨lw_r1, List.forall_mem_append.mpr ⟨lw_r2, List.forall_mem_append.mpr ⟨lw_r3, List.forall_mem_append.mpr ⟨lw_r4, lw_r5⟩⟩⟩⟩
end
section
/-! names of the program, printed by wip/gen/names.py out of what TURN printed -/
def RX0 : String := "EclipseSeats$Duel"
def TX0 : u_T := fun k => match k with
  | 0 => ("EclipseSeats$Duel", "firstGets", "[I", true)
  | 1 => ("EclipseSeats$Duel", "secondGets", "[I", true)
  | 2 => ("EclipseSeats$Duel", "firstMost", "[I", true)
  | _ => ("EclipseSeats$Duel", "secondMost", "[I", true)
def tyX0 : Nat → FieldType := fun k => match k with
  | 0 => .array .int
  | 1 => .array .int
  | 2 => .array .int
  | _ => .array .int
theorem nmX0 : ∀ a, a < 4 → ∀ b, b < 4 → a ≠ b → (TX0 a).2.1 ≠ (TX0 b).2.1 := by decide +kernel
theorem tyX0_ok : ∀ k, k < 4 → parseFieldDescriptor (TX0 k).2.2.1 = some (tyX0 k) := by decide +kernel
abbrev cX0_init : ByteArray := prog_2_method_1_code
def yX0_init : MethodName := ⟨RX0, "<init>", "()V"⟩
abbrev cX0_work : ByteArray := prog_2_method_2_code
def yX0_work : MethodName := ⟨RX0, "work", "(LEclipseSeats$Hill;II)V"⟩
abbrev cX0_rests : ByteArray := prog_2_method_3_code
def yX0_rests : MethodName := ⟨RX0, "rests", "(II)Z"⟩
abbrev cX0_gets : ByteArray := prog_2_method_4_code
def yX0_gets : MethodName := ⟨RX0, "gets", "(LEclipseSeats$Hill;IIII)I"⟩
def RX1 : String := "EclipseSeats$Guess"
def TX1 : u_T := fun k => match k with
  | _ => ("EclipseSeats$Guess", "worths", "[I", true)
def tyX1 : Nat → FieldType := fun k => match k with
  | _ => .array .int
theorem nmX1 : ∀ a, a < 1 → ∀ b, b < 1 → a ≠ b → (TX1 a).2.1 ≠ (TX1 b).2.1 := by decide +kernel
theorem tyX1_ok : ∀ k, k < 1 → parseFieldDescriptor (TX1 k).2.2.1 = some (tyX1 k) := by decide +kernel
abbrev cX1_init : ByteArray := prog_3_method_1_code
def yX1_init : MethodName := ⟨RX1, "<init>", "()V"⟩
abbrev cX1_kindsOf : ByteArray := prog_3_method_2_code
def yX1_kindsOf : MethodName := ⟨RX1, "kindsOf", "(LEclipseSeats$Hill;I)I"⟩
abbrev cX1_nextFor : ByteArray := prog_3_method_3_code
def yX1_nextFor : MethodName := ⟨RX1, "nextFor", "(LEclipseSeats$Hill;I)I"⟩
abbrev cX1_fits : ByteArray := prog_3_method_4_code
def yX1_fits : MethodName := ⟨RX1, "fits", "(LEclipseSeats$Hill;II)Z"⟩
abbrev cX1_mostAlike : ByteArray := prog_3_method_5_code
def yX1_mostAlike : MethodName := ⟨RX1, "mostAlike", "(III)I"⟩
abbrev cX1_likeOnes : ByteArray := prog_3_method_6_code
def yX1_likeOnes : MethodName := ⟨RX1, "likeOnes", "(I)I"⟩
def RX2 : String := "EclipseSeats$Hill"
def TX2 : u_T := fun k => match k with
  | 0 => ("EclipseSeats$Hill", "track", "I", false)
  | 1 => ("EclipseSeats$Hill", "dark", "I", false)
  | 2 => ("EclipseSeats$Hill", "heights", "[I", true)
  | 3 => ("EclipseSeats$Hill", "bidders", "I", false)
  | 4 => ("EclipseSeats$Hill", "kinds", "[I", true)
  | 5 => ("EclipseSeats$Hill", "heads", "[I", true)
  | 6 => ("EclipseSeats$Hill", "purses", "[I", true)
  | 7 => ("EclipseSeats$Hill", "paid", "[I", true)
  | 8 => ("EclipseSeats$Hill", "seats", "[I", true)
  | 9 => ("EclipseSeats$Hill", "noteCount", "I", false)
  | 10 => ("EclipseSeats$Hill", "notes", "[I", true)
  | 11 => ("EclipseSeats$Hill", "steps", "I", false)
  | _ => ("EclipseSeats$Hill", "past", "[I", true)
def tyX2 : Nat → FieldType := fun k => match k with
  | 0 => .int
  | 1 => .int
  | 2 => .array .int
  | 3 => .int
  | 4 => .array .int
  | 5 => .array .int
  | 6 => .array .int
  | 7 => .array .int
  | 8 => .array .int
  | 9 => .int
  | 10 => .array .int
  | 11 => .int
  | _ => .array .int
theorem nmX2 : ∀ a, a < 13 → ∀ b, b < 13 → a ≠ b → (TX2 a).2.1 ≠ (TX2 b).2.1 := by decide +kernel
theorem tyX2_ok : ∀ k, k < 13 → parseFieldDescriptor (TX2 k).2.2.1 = some (tyX2 k) := by decide +kernel
abbrev cX2_init : ByteArray := prog_4_method_1_code
def yX2_init : MethodName := ⟨RX2, "<init>", "()V"⟩
abbrev cX2_begin : ByteArray := prog_4_method_2_code
def yX2_begin : MethodName := ⟨RX2, "begin", "(II)V"⟩
abbrev cX2_copyOf : ByteArray := prog_4_method_3_code
def yX2_copyOf : MethodName := ⟨RX2, "copyOf", "(LEclipseSeats$Hill;)V"⟩
abbrev cX2_addBidder : ByteArray := prog_4_method_4_code
def yX2_addBidder : MethodName := ⟨RX2, "addBidder", "(II)I"⟩
abbrev cX2_remember : ByteArray := prog_4_method_5_code
def yX2_remember : MethodName := ⟨RX2, "remember", "()V"⟩
abbrev cX2_stepBack : ByteArray := prog_4_method_6_code
def yX2_stepBack : MethodName := ⟨RX2, "stepBack", "()V"⟩
abbrev cX2_darkIn : ByteArray := prog_4_method_7_code
def yX2_darkIn : MethodName := ⟨RX2, "darkIn", "(I)I"⟩
abbrev cX2_holder : ByteArray := prog_4_method_8_code
def yX2_holder : MethodName := ⟨RX2, "holder", "(I)I"⟩
abbrev cX2_isOpenTo : ByteArray := prog_4_method_9_code
def yX2_isOpenTo : MethodName := ⟨RX2, "isOpenTo", "(II)Z"⟩
abbrev cX2_freeYards : ByteArray := prog_4_method_10_code
def yX2_freeYards : MethodName := ⟨RX2, "freeYards", "()I"⟩
abbrev cX2_hides : ByteArray := prog_4_method_11_code
def yX2_hides : MethodName := ⟨RX2, "hides", "(III)Z"⟩
abbrev cX2_isHidden : ByteArray := prog_4_method_12_code
def yX2_isHidden : MethodName := ⟨RX2, "isHidden", "(III)Z"⟩
abbrev cX2_seenIn : ByteArray := prog_4_method_13_code
def yX2_seenIn : MethodName := ⟨RX2, "seenIn", "(II)I"⟩
abbrev cX2_seenNow : ByteArray := prog_4_method_14_code
def yX2_seenNow : MethodName := ⟨RX2, "seenNow", "(I)I"⟩
abbrev cX2_seenByAll : ByteArray := prog_4_method_15_code
def yX2_seenByAll : MethodName := ⟨RX2, "seenByAll", "()I"⟩
abbrev cX2_openSeats : ByteArray := prog_4_method_16_code
def yX2_openSeats : MethodName := ⟨RX2, "openSeats", "()I"⟩
abbrev cX2_paidByAll : ByteArray := prog_4_method_17_code
def yX2_paidByAll : MethodName := ⟨RX2, "paidByAll", "()I"⟩
abbrev cX2_worthIn : ByteArray := prog_4_method_18_code
def yX2_worthIn : MethodName := ⟨RX2, "worthIn", "(II)I"⟩
abbrev cX2_bid : ByteArray := prog_4_method_19_code
def yX2_bid : MethodName := ⟨RX2, "bid", "(II)I"⟩
abbrev cX2_topBidder : ByteArray := prog_4_method_20_code
def yX2_topBidder : MethodName := ⟨RX2, "topBidder", "(I)I"⟩
abbrev cX2_price : ByteArray := prog_4_method_21_code
def yX2_price : MethodName := ⟨RX2, "price", "(II)I"⟩
abbrev cX2_harm : ByteArray := prog_4_method_22_code
def yX2_harm : MethodName := ⟨RX2, "harm", "(II)I"⟩
def RX3 : String := "EclipseSeats$Kinds"
def TX3 : u_T := fun k => match k with
  | _ => ("", "", "", false)
def tyX3 : Nat → FieldType := fun k => match k with
  | _ => .int
theorem nmX3 : ∀ a, a < 0 → ∀ b, b < 0 → a ≠ b → (TX3 a).2.1 ≠ (TX3 b).2.1 := by decide +kernel
theorem tyX3_ok : ∀ k, k < 0 → parseFieldDescriptor (TX3 k).2.2.1 = some (tyX3 k) := by decide +kernel
abbrev cX3_worth : ByteArray := prog_5_method_2_code
def yX3_worth : MethodName := ⟨RX3, "worth", "(III)I"⟩
abbrev cX3_head : ByteArray := prog_5_method_3_code
def yX3_head : MethodName := ⟨RX3, "head", "(I)I"⟩
def RX4 : String := "EclipseSeats$Seating"
def TX4 : u_T := fun k => match k with
  | 0 => ("EclipseSeats$Seating", "scores", "[I", true)
  | 1 => ("EclipseSeats$Seating", "worths", "[I", true)
  | 2 => ("EclipseSeats$Seating", "tops", "[I", true)
  | _ => ("EclipseSeats$Seating", "score", "I", false)
def tyX4 : Nat → FieldType := fun k => match k with
  | 0 => .array .int
  | 1 => .array .int
  | 2 => .array .int
  | _ => .int
theorem nmX4 : ∀ a, a < 4 → ∀ b, b < 4 → a ≠ b → (TX4 a).2.1 ≠ (TX4 b).2.1 := by decide +kernel
theorem tyX4_ok : ∀ k, k < 4 → parseFieldDescriptor (TX4 k).2.2.1 = some (tyX4 k) := by decide +kernel
abbrev cX4_init : ByteArray := prog_6_method_1_code
def yX4_init : MethodName := ⟨RX4, "<init>", "()V"⟩
abbrev cX4_work : ByteArray := prog_6_method_2_code
def yX4_work : MethodName := ⟨RX4, "work", "(LEclipseSeats$Hill;)V"⟩
abbrev cX4_total : ByteArray := prog_6_method_3_code
def yX4_total : MethodName := ⟨RX4, "total", "()I"⟩
abbrev cX4_seatFor : ByteArray := prog_6_method_4_code
def yX4_seatFor : MethodName := ⟨RX4, "seatFor", "(I)I"⟩
abbrev cX4_lookAt : ByteArray := prog_6_method_5_code
def yX4_lookAt : MethodName := ⟨RX4, "lookAt", "(LEclipseSeats$Hill;I)V"⟩
abbrev cX4_spread : ByteArray := prog_6_method_6_code
def yX4_spread : MethodName := ⟨RX4, "spread", "(LEclipseSeats$Hill;II)V"⟩
abbrev cX4_seatShift : ByteArray := prog_6_method_7_code
def yX4_seatShift : MethodName := ⟨RX4, "seatShift", "(I)I"⟩
def RX5 : String := "EclipseSeats$Text"
def TX5 : u_T := fun k => match k with
  | 0 => ("EclipseSeats$Text", "bytes", "[B", true)
  | 1 => ("EclipseSeats$Text", "length", "I", false)
  | 2 => ("EclipseSeats$Text", "at", "I", false)
  | 3 => ("EclipseSeats$Text", "token", "I", false)
  | 4 => ("EclipseSeats$Text", "start", "I", false)
  | _ => ("EclipseSeats$Text", "value", "I", false)
def tyX5 : Nat → FieldType := fun k => match k with
  | 0 => .array .byte
  | 1 => .int
  | 2 => .int
  | 3 => .int
  | 4 => .int
  | _ => .int
theorem nmX5 : ∀ a, a < 6 → ∀ b, b < 6 → a ≠ b → (TX5 a).2.1 ≠ (TX5 b).2.1 := by decide +kernel
theorem tyX5_ok : ∀ k, k < 6 → parseFieldDescriptor (TX5 k).2.2.1 = some (tyX5 k) := by decide +kernel
abbrev cX5_init : ByteArray := prog_7_method_1_code
def yX5_init : MethodName := ⟨RX5, "<init>", "()V"⟩
abbrev cX5_readInto : ByteArray := prog_7_method_2_code
def yX5_readInto : MethodName := ⟨RX5, "readInto", "(LEclipseSeats$Hill;)I"⟩
abbrev cX5_takeItem : ByteArray := prog_7_method_3_code
def yX5_takeItem : MethodName := ⟨RX5, "takeItem", "(LEclipseSeats$Hill;Z)Z"⟩
abbrev cX5_takeTrack : ByteArray := prog_7_method_4_code
def yX5_takeTrack : MethodName := ⟨RX5, "takeTrack", "(LEclipseSeats$Hill;)Z"⟩
abbrev cX5_takeDark : ByteArray := prog_7_method_5_code
def yX5_takeDark : MethodName := ⟨RX5, "takeDark", "(LEclipseSeats$Hill;)Z"⟩
abbrev cX5_takeHeights : ByteArray := prog_7_method_6_code
def yX5_takeHeights : MethodName := ⟨RX5, "takeHeights", "(LEclipseSeats$Hill;)Z"⟩
abbrev cX5_takeBidder : ByteArray := prog_7_method_7_code
def yX5_takeBidder : MethodName := ⟨RX5, "takeBidder", "(LEclipseSeats$Hill;)Z"⟩
abbrev cX5_takeSeat : ByteArray := prog_7_method_8_code
def yX5_takeSeat : MethodName := ⟨RX5, "takeSeat", "(LEclipseSeats$Hill;)Z"⟩
abbrev cX5_takeNumber : ByteArray := prog_7_method_9_code
def yX5_takeNumber : MethodName := ⟨RX5, "takeNumber", "(I)Z"⟩
abbrev cX5_takeStop : ByteArray := prog_7_method_10_code
def yX5_takeStop : MethodName := ⟨RX5, "takeStop", "()Z"⟩
abbrev cX5_step : ByteArray := prog_7_method_11_code
def yX5_step : MethodName := ⟨RX5, "step", "()V"⟩
abbrev cX5_isWord : ByteArray := prog_7_method_12_code
def yX5_isWord : MethodName := ⟨RX5, "isWord", "(Ljava/lang/String;)Z"⟩
abbrev cX5_isLetter : ByteArray := prog_7_method_13_code
def yX5_isLetter : MethodName := ⟨RX5, "isLetter", "(I)Z"⟩
abbrev cX5_isFigure : ByteArray := prog_7_method_14_code
def yX5_isFigure : MethodName := ⟨RX5, "isFigure", "(I)Z"⟩
def RX6 : String := "EclipseSeats"
def TX6 : u_T := fun k => match k with
  | 0 => ("EclipseSeats", "now", "LEclipseSeats$Hill;", true)
  | 1 => ("EclipseSeats", "draft", "LEclipseSeats$Hill;", true)
  | 2 => ("EclipseSeats", "images", "[LEclipseSeats$Hill;", true)
  | 3 => ("EclipseSeats", "kept", "[Z", true)
  | 4 => ("EclipseSeats", "text", "LEclipseSeats$Text;", true)
  | 5 => ("EclipseSeats", "seating", "LEclipseSeats$Seating;", true)
  | 6 => ("EclipseSeats", "duel", "LEclipseSeats$Duel;", true)
  | 7 => ("EclipseSeats", "guess", "LEclipseSeats$Guess;", true)
  | 8 => ("EclipseSeats", "above", "I", false)
  | 9 => ("EclipseSeats", "below", "I", false)
  | 10 => ("EclipseSeats", "badCalls", "I", false)
  | 11 => ("EclipseSeats", "noCalls", "I", false)
  | _ => ("EclipseSeats", "fullCalls", "I", false)
def tyX6 : Nat → FieldType := fun k => match k with
  | 0 => .object "EclipseSeats$Hill"
  | 1 => .object "EclipseSeats$Hill"
  | 2 => .array (.object "EclipseSeats$Hill")
  | 3 => .array .boolean
  | 4 => .object "EclipseSeats$Text"
  | 5 => .object "EclipseSeats$Seating"
  | 6 => .object "EclipseSeats$Duel"
  | 7 => .object "EclipseSeats$Guess"
  | 8 => .int
  | 9 => .int
  | 10 => .int
  | 11 => .int
  | _ => .int
theorem nmX6 : ∀ a, a < 13 → ∀ b, b < 13 → a ≠ b → (TX6 a).2.1 ≠ (TX6 b).2.1 := by decide +kernel
theorem tyX6_ok : ∀ k, k < 13 → parseFieldDescriptor (TX6 k).2.2.1 = some (tyX6 k) := by decide +kernel
abbrev cX6_init : ByteArray := prog_1_method_1_code
def yX6_init : MethodName := ⟨RX6, "<init>", "()V"⟩
abbrev cX6_hill : ByteArray := prog_1_method_2_code
def yX6_hill : MethodName := ⟨RX6, "hill", "(II)I"⟩
abbrev cX6_track : ByteArray := prog_1_method_3_code
def yX6_track : MethodName := ⟨RX6, "track", "(II)I"⟩
abbrev cX6_height : ByteArray := prog_1_method_4_code
def yX6_height : MethodName := ⟨RX6, "height", "(II)I"⟩
abbrev cX6_one : ByteArray := prog_1_method_5_code
def yX6_one : MethodName := ⟨RX6, "one", "(II)I"⟩
abbrev cX6_type : ByteArray := prog_1_method_6_code
def yX6_type : MethodName := ⟨RX6, "type", "(I)I"⟩
abbrev cX6_clear : ByteArray := prog_1_method_7_code
def yX6_clear : MethodName := ⟨RX6, "clear", "()I"⟩
abbrev cX6_read : ByteArray := prog_1_method_8_code
def yX6_read : MethodName := ⟨RX6, "read", "()I"⟩
abbrev cX6_sell : ByteArray := prog_1_method_9_code
def yX6_sell : MethodName := ⟨RX6, "sell", "(I)I"⟩
abbrev cX6_leave : ByteArray := prog_1_method_10_code
def yX6_leave : MethodName := ⟨RX6, "leave", "(I)I"⟩
abbrev cX6_moves : ByteArray := prog_1_method_11_code
def yX6_moves : MethodName := ⟨RX6, "moves", "(II)I"⟩
abbrev cX6_undo : ByteArray := prog_1_method_12_code
def yX6_undo : MethodName := ⟨RX6, "undo", "()I"⟩
abbrev cX6_of : ByteArray := prog_1_method_13_code
def yX6_of : MethodName := ⟨RX6, "of", "(II)I"⟩
abbrev cX6_yard : ByteArray := prog_1_method_14_code
def yX6_yard : MethodName := ⟨RX6, "yard", "(II)I"⟩
abbrev cX6_sees : ByteArray := prog_1_method_15_code
def yX6_sees : MethodName := ⟨RX6, "sees", "(II)I"⟩
abbrev cX6_gives : ByteArray := prog_1_method_16_code
def yX6_gives : MethodName := ⟨RX6, "gives", "(II)I"⟩
abbrev cX6_auction : ByteArray := prog_1_method_17_code
def yX6_auction : MethodName := ⟨RX6, "auction", "(II)I"⟩
abbrev cX6_hurt : ByteArray := prog_1_method_18_code
def yX6_hurt : MethodName := ⟨RX6, "hurt", "(II)I"⟩
abbrev cX6_best : ByteArray := prog_1_method_19_code
def yX6_best : MethodName := ⟨RX6, "best", "(II)I"⟩
abbrev cX6_all : ByteArray := prog_1_method_20_code
def yX6_all : MethodName := ⟨RX6, "all", "(I)I"⟩
abbrev cX6_move : ByteArray := prog_1_method_21_code
def yX6_move : MethodName := ⟨RX6, "move", "(I)I"⟩
abbrev cX6_note : ByteArray := prog_1_method_22_code
def yX6_note : MethodName := ⟨RX6, "note", "(IIII)I"⟩
abbrev cX6_forget : ByteArray := prog_1_method_23_code
def yX6_forget : MethodName := ⟨RX6, "forget", "()I"⟩
abbrev cX6_is : ByteArray := prog_1_method_24_code
def yX6_is : MethodName := ⟨RX6, "is", "(I)I"⟩
abbrev cX6_offer : ByteArray := prog_1_method_25_code
def yX6_offer : MethodName := ⟨RX6, "offer", "(I)I"⟩
abbrev cX6_two : ByteArray := prog_1_method_26_code
def yX6_two : MethodName := ⟨RX6, "two", "(III)I"⟩
abbrev cX6_clouds : ByteArray := prog_1_method_27_code
def yX6_clouds : MethodName := ⟨RX6, "clouds", "(I)I"⟩
abbrev cX6_eclipses : ByteArray := prog_1_method_28_code
def yX6_eclipses : MethodName := ⟨RX6, "eclipses", "(II)I"⟩
abbrev cX6_part : ByteArray := prog_1_method_29_code
def yX6_part : MethodName := ⟨RX6, "part", "(I)J"⟩
abbrev cX6_image : ByteArray := prog_1_method_30_code
def yX6_image : MethodName := ⟨RX6, "image", "(I)I"⟩
abbrev cX6_from : ByteArray := prog_1_method_31_code
def yX6_from : MethodName := ⟨RX6, "from", "(I)I"⟩
abbrev cX6_status : ByteArray := prog_1_method_32_code
def yX6_status : MethodName := ⟨RX6, "status", "(I)I"⟩
abbrev cX6_count : ByteArray := prog_1_method_33_code
def yX6_count : MethodName := ⟨RX6, "count", "(I)I"⟩
abbrev cX6_digest : ByteArray := prog_1_method_34_code
def yX6_digest : MethodName := ⟨RX6, "digest", "()J"⟩
abbrev cX6_howMany : ByteArray := prog_1_method_35_code
def yX6_howMany : MethodName := ⟨RX6, "howMany", "(I)I"⟩
abbrev cX6_bad : ByteArray := prog_1_method_36_code
def yX6_bad : MethodName := ⟨RX6, "bad", "(I)I"⟩
abbrev cX6_no : ByteArray := prog_1_method_37_code
def yX6_no : MethodName := ⟨RX6, "no", "()I"⟩
abbrev cX6_full : ByteArray := prog_1_method_38_code
def yX6_full : MethodName := ⟨RX6, "full", "()I"⟩
abbrev cX6_isBidder : ByteArray := prog_1_method_39_code
def yX6_isBidder : MethodName := ⟨RX6, "isBidder", "(I)Z"⟩
abbrev cX6_isYard : ByteArray := prog_1_method_40_code
def yX6_isYard : MethodName := ⟨RX6, "isYard", "(I)Z"⟩
abbrev cX6_isTrack : ByteArray := prog_1_method_41_code
def yX6_isTrack : MethodName := ⟨RX6, "isTrack", "(II)Z"⟩
abbrev cX6_within : ByteArray := prog_1_method_42_code
def yX6_within : MethodName := ⟨RX6, "within", "(II)Z"⟩
abbrev cX6_darkFrom : ByteArray := prog_1_method_43_code
def yX6_darkFrom : MethodName := ⟨RX6, "darkFrom", "(III)I"⟩
abbrev cX6_darkOver : ByteArray := prog_1_method_44_code
def yX6_darkOver : MethodName := ⟨RX6, "darkOver", "(III)I"⟩
abbrev cX6_commonDivisor : ByteArray := prog_1_method_45_code
def yX6_commonDivisor : MethodName := ⟨RX6, "commonDivisor", "(II)I"⟩
def RX7 : String := "EclipseSeatsModel"
def TX7 : u_T := fun k => match k with
  | 0 => ("EclipseSeatsModel", "refused", "[I", true)
  | 1 => ("EclipseSeatsModel", "many", "I", false)
  | 2 => ("EclipseSeatsModel", "line", "I", false)
  | 3 => ("EclipseSeatsModel", "dark", "I", false)
  | 4 => ("EclipseSeatsModel", "noteMany", "I", false)
  | 5 => ("EclipseSeatsModel", "heights", "[I", true)
  | 6 => ("EclipseSeatsModel", "kinds", "[I", true)
  | 7 => ("EclipseSeatsModel", "purses", "[I", true)
  | 8 => ("EclipseSeatsModel", "paid", "[I", true)
  | 9 => ("EclipseSeatsModel", "seats", "[I", true)
  | 10 => ("EclipseSeatsModel", "noteOne", "[I", true)
  | 11 => ("EclipseSeatsModel", "noteSeconds", "[I", true)
  | 12 => ("EclipseSeatsModel", "noteHeight", "[I", true)
  | 13 => ("EclipseSeatsModel", "noteWorth", "[I", true)
  | 14 => ("EclipseSeatsModel", "text", "[I", true)
  | 15 => ("EclipseSeatsModel", "typed", "I", false)
  | 16 => ("EclipseSeatsModel", "readAt", "I", false)
  | 17 => ("EclipseSeatsModel", "readTrack", "I", false)
  | 18 => ("EclipseSeatsModel", "readDark", "I", false)
  | 19 => ("EclipseSeatsModel", "readMany", "I", false)
  | 20 => ("EclipseSeatsModel", "readOnes", "[I", true)
  | 21 => ("EclipseSeatsModel", "readHeights", "[I", true)
  | 22 => ("EclipseSeatsModel", "readNumber", "I", false)
  | 23 => ("EclipseSeatsModel", "ahead", "[I", true)
  | 24 => ("EclipseSeatsModel", "undoMany", "I", false)
  | 25 => ("EclipseSeatsModel", "aside", "[I", true)
  | 26 => ("EclipseSeatsModel", "bestSeats", "[I", true)
  | 27 => ("EclipseSeatsModel", "above", "J", false)
  | 28 => ("EclipseSeatsModel", "below", "J", false)
  | 29 => ("EclipseSeatsModel", "images", "[I", true)
  | 30 => ("EclipseSeatsModel", "isKept", "[I", true)
  | _ => ("EclipseSeatsModel", "h0", "J", false)
def tyX7 : Nat → FieldType := fun k => match k with
  | 0 => .array .int
  | 1 => .int
  | 2 => .int
  | 3 => .int
  | 4 => .int
  | 5 => .array .int
  | 6 => .array .int
  | 7 => .array .int
  | 8 => .array .int
  | 9 => .array .int
  | 10 => .array .int
  | 11 => .array .int
  | 12 => .array .int
  | 13 => .array .int
  | 14 => .array .int
  | 15 => .int
  | 16 => .int
  | 17 => .int
  | 18 => .int
  | 19 => .int
  | 20 => .array .int
  | 21 => .array .int
  | 22 => .int
  | 23 => .array .int
  | 24 => .int
  | 25 => .array .int
  | 26 => .array .int
  | 27 => .long
  | 28 => .long
  | 29 => .array .int
  | 30 => .array .int
  | _ => .long
theorem nmX7 : ∀ a, a < 32 → ∀ b, b < 32 → a ≠ b → (TX7 a).2.1 ≠ (TX7 b).2.1 := by decide +kernel
theorem tyX7_ok : ∀ k, k < 32 → parseFieldDescriptor (TX7 k).2.2.1 = some (tyX7 k) := by decide +kernel
abbrev cX7_bad : ByteArray := prog_9_method_1_code
def yX7_bad : MethodName := ⟨RX7, "bad", "()I"⟩
abbrev cX7_ten : ByteArray := prog_9_method_2_code
def yX7_ten : MethodName := ⟨RX7, "ten", "()I"⟩
abbrev cX7_no : ByteArray := prog_9_method_3_code
def yX7_no : MethodName := ⟨RX7, "no", "()I"⟩
abbrev cX7_full : ByteArray := prog_9_method_4_code
def yX7_full : MethodName := ⟨RX7, "full", "()I"⟩
abbrev cX7_in : ByteArray := prog_9_method_5_code
def yX7_in : MethodName := ⟨RX7, "in", "(III)Z"⟩
abbrev cX7_has : ByteArray := prog_9_method_6_code
def yX7_has : MethodName := ⟨RX7, "has", "(II)Z"⟩
abbrev cX7_lesser : ByteArray := prog_9_method_7_code
def yX7_lesser : MethodName := ⟨RX7, "lesser", "(II)I"⟩
abbrev cX7_init : ByteArray := prog_9_method_8_code
def yX7_init : MethodName := ⟨RX7, "<init>", "()V"⟩
abbrev cX7_begin : ByteArray := prog_9_method_9_code
def yX7_begin : MethodName := ⟨RX7, "begin", "(II)V"⟩
abbrev cX7_isOne : ByteArray := prog_9_method_10_code
def yX7_isOne : MethodName := ⟨RX7, "isOne", "(I)Z"⟩
abbrev cX7_isYard : ByteArray := prog_9_method_11_code
def yX7_isYard : MethodName := ⟨RX7, "isYard", "(I)Z"⟩
abbrev cX7_hill : ByteArray := prog_9_method_12_code
def yX7_hill : MethodName := ⟨RX7, "hill", "(II)I"⟩
abbrev cX7_track : ByteArray := prog_9_method_13_code
def yX7_track : MethodName := ⟨RX7, "track", "(II)I"⟩
abbrev cX7_height : ByteArray := prog_9_method_14_code
def yX7_height : MethodName := ⟨RX7, "height", "(II)I"⟩
abbrev cX7_addOne : ByteArray := prog_9_method_15_code
def yX7_addOne : MethodName := ⟨RX7, "addOne", "(II)I"⟩
abbrev cX7_one : ByteArray := prog_9_method_16_code
def yX7_one : MethodName := ⟨RX7, "one", "(II)I"⟩
abbrev cX7_type : ByteArray := prog_9_method_17_code
def yX7_type : MethodName := ⟨RX7, "type", "(I)I"⟩
abbrev cX7_clear : ByteArray := prog_9_method_18_code
def yX7_clear : MethodName := ⟨RX7, "clear", "()I"⟩
abbrev cX7_here : ByteArray := prog_9_method_19_code
def yX7_here : MethodName := ⟨RX7, "here", "()I"⟩
abbrev cX7_skip : ByteArray := prog_9_method_20_code
def yX7_skip : MethodName := ⟨RX7, "skip", "()V"⟩
abbrev cX7_isLetter : ByteArray := prog_9_method_21_code
def yX7_isLetter : MethodName := ⟨RX7, "isLetter", "(I)Z"⟩
abbrev cX7_isFigure : ByteArray := prog_9_method_22_code
def yX7_isFigure : MethodName := ⟨RX7, "isFigure", "(I)Z"⟩
abbrev cX7_wordSize : ByteArray := prog_9_method_23_code
def yX7_wordSize : MethodName := ⟨RX7, "wordSize", "()I"⟩
abbrev cX7_letter : ByteArray := prog_9_method_24_code
def yX7_letter : MethodName := ⟨RX7, "letter", "(I)I"⟩
abbrev cX7_spells : ByteArray := prog_9_method_25_code
def yX7_spells : MethodName := ⟨RX7, "spells", "(IIII)Z"⟩
abbrev cX7_wordHere : ByteArray := prog_9_method_26_code
def yX7_wordHere : MethodName := ⟨RX7, "wordHere", "()I"⟩
abbrev cX7_number : ByteArray := prog_9_method_27_code
def yX7_number : MethodName := ⟨RX7, "number", "(II)Z"⟩
abbrev cX7_ends : ByteArray := prog_9_method_28_code
def yX7_ends : MethodName := ⟨RX7, "ends", "()Z"⟩
abbrev cX7_readsDark : ByteArray := prog_9_method_29_code
def yX7_readsDark : MethodName := ⟨RX7, "readsDark", "()Z"⟩
abbrev cX7_readsHeights : ByteArray := prog_9_method_30_code
def yX7_readsHeights : MethodName := ⟨RX7, "readsHeights", "()Z"⟩
abbrev cX7_readsOne : ByteArray := prog_9_method_31_code
def yX7_readsOne : MethodName := ⟨RX7, "readsOne", "()Z"⟩
abbrev cX7_readsSeat : ByteArray := prog_9_method_32_code
def yX7_readsSeat : MethodName := ⟨RX7, "readsSeat", "()Z"⟩
abbrev cX7_readsItem : ByteArray := prog_9_method_33_code
def yX7_readsItem : MethodName := ⟨RX7, "readsItem", "()Z"⟩
abbrev cX7_readsFirst : ByteArray := prog_9_method_34_code
def yX7_readsFirst : MethodName := ⟨RX7, "readsFirst", "()Z"⟩
abbrev cX7_readsHill : ByteArray := prog_9_method_35_code
def yX7_readsHill : MethodName := ⟨RX7, "readsHill", "()I"⟩
abbrev cX7_read : ByteArray := prog_9_method_36_code
def yX7_read : MethodName := ⟨RX7, "read", "()I"⟩
abbrev cX7_worthBy : ByteArray := prog_9_method_37_code
def yX7_worthBy : MethodName := ⟨RX7, "worthBy", "(III)I"⟩
abbrev cX7_headBy : ByteArray := prog_9_method_38_code
def yX7_headBy : MethodName := ⟨RX7, "headBy", "(I)I"⟩
abbrev cX7_darkIn : ByteArray := prog_9_method_39_code
def yX7_darkIn : MethodName := ⟨RX7, "darkIn", "(I)I"⟩
abbrev cX7_who : ByteArray := prog_9_method_40_code
def yX7_who : MethodName := ⟨RX7, "who", "(I)I"⟩
abbrev cX7_seen : ByteArray := prog_9_method_41_code
def yX7_seen : MethodName := ⟨RX7, "seen", "(I)I"⟩
abbrev cX7_worth : ByteArray := prog_9_method_42_code
def yX7_worth : MethodName := ⟨RX7, "worth", "(I)I"⟩
abbrev cX7_othersSee : ByteArray := prog_9_method_43_code
def yX7_othersSee : MethodName := ⟨RX7, "othersSee", "(I)I"⟩
abbrev cX7_isOpen : ByteArray := prog_9_method_44_code
def yX7_isOpen : MethodName := ⟨RX7, "isOpen", "(II)Z"⟩
abbrev cX7_lays : ByteArray := prog_9_method_45_code
def yX7_lays : MethodName := ⟨RX7, "lays", "([II)V"⟩
abbrev cX7_takes : ByteArray := prog_9_method_46_code
def yX7_takes : MethodName := ⟨RX7, "takes", "([II)V"⟩
abbrev cX7_notes : ByteArray := prog_9_method_47_code
def yX7_notes : MethodName := ⟨RX7, "notes", "()V"⟩
abbrev cX7_free : ByteArray := prog_9_method_48_code
def yX7_free : MethodName := ⟨RX7, "free", "()I"⟩
abbrev cX7_sell : ByteArray := prog_9_method_49_code
def yX7_sell : MethodName := ⟨RX7, "sell", "(I)I"⟩
abbrev cX7_leave : ByteArray := prog_9_method_50_code
def yX7_leave : MethodName := ⟨RX7, "leave", "(I)I"⟩
abbrev cX7_moves : ByteArray := prog_9_method_51_code
def yX7_moves : MethodName := ⟨RX7, "moves", "(II)I"⟩
abbrev cX7_undo : ByteArray := prog_9_method_52_code
def yX7_undo : MethodName := ⟨RX7, "undo", "()I"⟩
abbrev cX7_of : ByteArray := prog_9_method_53_code
def yX7_of : MethodName := ⟨RX7, "of", "(II)I"⟩
abbrev cX7_yard : ByteArray := prog_9_method_54_code
def yX7_yard : MethodName := ⟨RX7, "yard", "(II)I"⟩
abbrev cX7_seesIn : ByteArray := prog_9_method_55_code
def yX7_seesIn : MethodName := ⟨RX7, "seesIn", "(II)I"⟩
abbrev cX7_worthIn : ByteArray := prog_9_method_56_code
def yX7_worthIn : MethodName := ⟨RX7, "worthIn", "(II)I"⟩
abbrev cX7_sees : ByteArray := prog_9_method_57_code
def yX7_sees : MethodName := ⟨RX7, "sees", "(II)I"⟩
abbrev cX7_gives : ByteArray := prog_9_method_58_code
def yX7_gives : MethodName := ⟨RX7, "gives", "(II)I"⟩
abbrev cX7_bidOf : ByteArray := prog_9_method_59_code
def yX7_bidOf : MethodName := ⟨RX7, "bidOf", "(II)I"⟩
abbrev cX7_winner : ByteArray := prog_9_method_60_code
def yX7_winner : MethodName := ⟨RX7, "winner", "(I)I"⟩
abbrev cX7_priceOf : ByteArray := prog_9_method_61_code
def yX7_priceOf : MethodName := ⟨RX7, "priceOf", "(II)I"⟩
abbrev cX7_auction : ByteArray := prog_9_method_62_code
def yX7_auction : MethodName := ⟨RX7, "auction", "(II)I"⟩
abbrev cX7_hurtIn : ByteArray := prog_9_method_63_code
def yX7_hurtIn : MethodName := ⟨RX7, "hurtIn", "(II)I"⟩
abbrev cX7_hurt : ByteArray := prog_9_method_64_code
def yX7_hurt : MethodName := ⟨RX7, "hurt", "(II)I"⟩
abbrev cX7_best : ByteArray := prog_9_method_65_code
def yX7_best : MethodName := ⟨RX7, "best", "(II)I"⟩
abbrev cX7_seatBy : ByteArray := prog_9_method_66_code
def yX7_seatBy : MethodName := ⟨RX7, "seatBy", "(I)Z"⟩
abbrev cX7_all : ByteArray := prog_9_method_67_code
def yX7_all : MethodName := ⟨RX7, "all", "(I)I"⟩
abbrev cX7_move : ByteArray := prog_9_method_68_code
def yX7_move : MethodName := ⟨RX7, "move", "(I)I"⟩
abbrev cX7_note : ByteArray := prog_9_method_69_code
def yX7_note : MethodName := ⟨RX7, "note", "(IIII)I"⟩
abbrev cX7_forget : ByteArray := prog_9_method_70_code
def yX7_forget : MethodName := ⟨RX7, "forget", "()I"⟩
abbrev cX7_kindsOf : ByteArray := prog_9_method_71_code
def yX7_kindsOf : MethodName := ⟨RX7, "kindsOf", "(I)I"⟩
abbrev cX7_is : ByteArray := prog_9_method_72_code
def yX7_is : MethodName := ⟨RX7, "is", "(I)I"⟩
abbrev cX7_alike : ByteArray := prog_9_method_73_code
def yX7_alike : MethodName := ⟨RX7, "alike", "(III)I"⟩
abbrev cX7_offer : ByteArray := prog_9_method_74_code
def yX7_offer : MethodName := ⟨RX7, "offer", "(I)I"⟩
abbrev cX7_gets : ByteArray := prog_9_method_75_code
def yX7_gets : MethodName := ⟨RX7, "gets", "(IIII)I"⟩
abbrev cX7_rests : ByteArray := prog_9_method_76_code
def yX7_rests : MethodName := ⟨RX7, "rests", "(IIII)Z"⟩
abbrev cX7_two : ByteArray := prog_9_method_77_code
def yX7_two : MethodName := ⟨RX7, "two", "(III)I"⟩
abbrev cX7_lay : ByteArray := prog_9_method_78_code
def yX7_lay : MethodName := ⟨RX7, "lay", "(JJ)V"⟩
abbrev cX7_clouds : ByteArray := prog_9_method_79_code
def yX7_clouds : MethodName := ⟨RX7, "clouds", "(I)I"⟩
abbrev cX7_eclipses : ByteArray := prog_9_method_80_code
def yX7_eclipses : MethodName := ⟨RX7, "eclipses", "(II)I"⟩
abbrev cX7_part : ByteArray := prog_9_method_81_code
def yX7_part : MethodName := ⟨RX7, "part", "(I)J"⟩
abbrev cX7_image : ByteArray := prog_9_method_82_code
def yX7_image : MethodName := ⟨RX7, "image", "(I)I"⟩
abbrev cX7_from : ByteArray := prog_9_method_83_code
def yX7_from : MethodName := ⟨RX7, "from", "(I)I"⟩
abbrev cX7_status : ByteArray := prog_9_method_84_code
def yX7_status : MethodName := ⟨RX7, "status", "(I)I"⟩
abbrev cX7_allPaid : ByteArray := prog_9_method_85_code
def yX7_allPaid : MethodName := ⟨RX7, "allPaid", "()I"⟩
abbrev cX7_countOf : ByteArray := prog_9_method_86_code
def yX7_countOf : MethodName := ⟨RX7, "countOf", "(I)I"⟩
abbrev cX7_count : ByteArray := prog_9_method_87_code
def yX7_count : MethodName := ⟨RX7, "count", "(I)I"⟩
abbrev cX7_mix : ByteArray := prog_9_method_88_code
def yX7_mix : MethodName := ⟨RX7, "mix", "(J)V"⟩
abbrev cX7_digest : ByteArray := prog_9_method_89_code
def yX7_digest : MethodName := ⟨RX7, "digest", "()J"⟩
def RJ9 : String := "java/lang/Math"
def TJ9 : u_T := fun k => match k with
  | _ => ("", "", "", false)
def tyJ9 : Nat → FieldType := fun k => match k with
  | _ => .int
theorem nmJ9 : ∀ a, a < 0 → ∀ b, b < 0 → a ≠ b → (TJ9 a).2.1 ≠ (TJ9 b).2.1 := by decide +kernel
theorem tyJ9_ok : ∀ k, k < 0 → parseFieldDescriptor (TJ9 k).2.2.1 = some (tyJ9 k) := by decide +kernel
abbrev cJ9_abs_0f7a4 : ByteArray := prog_10_method_59_code
def yJ9_abs_0f7a4 : MethodName := ⟨RJ9, "abs", "(I)I"⟩
abbrev cJ9_max_7cf53 : ByteArray := prog_10_method_65_code
def yJ9_max_7cf53 : MethodName := ⟨RJ9, "max", "(II)I"⟩
abbrev cJ9_min_7cf53 : ByteArray := prog_10_method_69_code
def yJ9_min_7cf53 : MethodName := ⟨RJ9, "min", "(II)I"⟩
def RJ0 : String := "java/lang/String"
def TJ0 : u_T := fun k => match k with
  | _ => ("", "", "", false)
def tyJ0 : Nat → FieldType := fun k => match k with
  | _ => .int
theorem nmJ0 : ∀ a, a < 0 → ∀ b, b < 0 → a ≠ b → (TJ0 a).2.1 ≠ (TJ0 b).2.1 := by decide +kernel
theorem tyJ0_ok : ∀ k, k < 0 → parseFieldDescriptor (TJ0 k).2.2.1 = some (tyJ0 k) := by decide +kernel
abbrev cJ0_length_8abf5 : ByteArray := prog_11_method_54_code
def yJ0_length_8abf5 : MethodName := ⟨RJ0, "length", "()I"⟩
abbrev cJ0_charAt_5068e : ByteArray := prog_11_method_56_code
def yJ0_charAt_5068e : MethodName := ⟨RJ0, "charAt", "(I)C"⟩
abbrev cJ0_coder_7d493 : ByteArray := prog_11_method_152_code
def yJ0_coder_7d493 : MethodName := ⟨RJ0, "coder", "()B"⟩
abbrev cJ0_isLatin1_aae02 : ByteArray := prog_11_method_154_code
def yJ0_isLatin1_aae02 : MethodName := ⟨RJ0, "isLatin1", "()Z"⟩
abbrev cJ0_checkIndex_df160 : ByteArray := prog_11_method_155_code
def yJ0_checkIndex_df160 : MethodName := ⟨RJ0, "checkIndex", "(II)V"⟩
def RJ1 : String := "java/lang/StringLatin1"
def TJ1 : u_T := fun k => match k with
  | _ => ("", "", "", false)
def tyJ1 : Nat → FieldType := fun k => match k with
  | _ => .int
theorem nmJ1 : ∀ a, a < 0 → ∀ b, b < 0 → a ≠ b → (TJ1 a).2.1 ≠ (TJ1 b).2.1 := by decide +kernel
theorem tyJ1_ok : ∀ k, k < 0 → parseFieldDescriptor (TJ1 k).2.2.1 = some (tyJ1 k) := by decide +kernel
abbrev cJ1_charAt_3b067 : ByteArray := prog_12_method_2_code
def yJ1_charAt_3b067 : MethodName := ⟨RJ1, "charAt", "([BI)C"⟩
def RJ2 : String := "java/lang/StringUTF16"
def TJ2 : u_T := fun k => match k with
  | _ => ("", "", "", false)
def tyJ2 : Nat → FieldType := fun k => match k with
  | _ => .int
theorem nmJ2 : ∀ a, a < 0 → ∀ b, b < 0 → a ≠ b → (TJ2 a).2.1 ≠ (TJ2 b).2.1 := by decide +kernel
theorem tyJ2_ok : ∀ k, k < 0 → parseFieldDescriptor (TJ2 k).2.2.1 = some (tyJ2 k) := by decide +kernel
abbrev cJ2_getChar_3b067 : ByteArray := prog_13_method_5_code
def yJ2_getChar_3b067 : MethodName := ⟨RJ2, "getChar", "([BI)C"⟩
abbrev cJ2_length_9d52b : ByteArray := prog_13_method_6_code
def yJ2_length_9d52b : MethodName := ⟨RJ2, "length", "([B)I"⟩
abbrev cJ2_charAt_3b067 : ByteArray := prog_13_method_83_code
def yJ2_charAt_3b067 : MethodName := ⟨RJ2, "charAt", "([BI)C"⟩
abbrev cJ2_checkIndex_2214a : ByteArray := prog_13_method_91_code
def yJ2_checkIndex_2214a : MethodName := ⟨RJ2, "checkIndex", "(I[B)V"⟩
def RJ10 : String := "java/lang/System"
def TJ10 : u_T := fun k => match k with
  | _ => ("", "", "", false)
def tyJ10 : Nat → FieldType := fun k => match k with
  | _ => .int
theorem nmJ10 : ∀ a, a < 0 → ∀ b, b < 0 → a ≠ b → (TJ10 a).2.1 ≠ (TJ10 b).2.1 := by decide +kernel
theorem tyJ10_ok : ∀ k, k < 0 → parseFieldDescriptor (TJ10 k).2.2.1 = some (tyJ10 k) := by decide +kernel
def RJ3 : String := "jdk/internal/util/Preconditions"
def TJ3 : u_T := fun k => match k with
  | _ => ("", "", "", false)
def tyJ3 : Nat → FieldType := fun k => match k with
  | _ => .int
theorem nmJ3 : ∀ a, a < 0 → ∀ b, b < 0 → a ≠ b → (TJ3 a).2.1 ≠ (TJ3 b).2.1 := by decide +kernel
theorem tyJ3_ok : ∀ k, k < 0 → parseFieldDescriptor (TJ3 k).2.2.1 = some (tyJ3 k) := by decide +kernel
abbrev cJ3_checkIndex_8e157 : ByteArray := prog_15_method_11_code
def yJ3_checkIndex_8e157 : MethodName := ⟨RJ3, "checkIndex", "(IILjava/util/function/BiFunction;)I"⟩
def RL : String := "EclipseSeatsLaw"
abbrev cL_law : ByteArray := code
def yL_law : MethodName := ⟨RL, "law", "([I)Z"⟩
abbrev vwCl : List vw_C := [(RX0, TX0, 4), (RX1, TX1, 1), (RX2, TX2, 13), (RX4, TX4, 4), (RX5, TX5, 6), (RX6, TX6, 13), (RX7, TX7, 32)]
abbrev mX0_init : MethodName × ByteArray × Nat × Option FieldType × Room := (yX0_init, cX0_init, 1, none, { frames := 1, cells := 0, slots := 0, locals := 20 })
abbrev mX0_work : MethodName × ByteArray × Nat × Option FieldType × Room := (yX0_work, cX0_work, 8, none, { frames := 4, cells := 0, slots := 0, locals := 88 })
abbrev mX0_rests : MethodName × ByteArray × Nat × Option FieldType × Room := (yX0_rests, cX0_rests, 3, (some .boolean), { frames := 0, cells := 0, slots := 0, locals := 0 })
abbrev mX0_gets : MethodName × ByteArray × Nat × Option FieldType × Room := (yX0_gets, cX0_gets, 5, (some .int), { frames := 3, cells := 0, slots := 0, locals := 64 })
abbrev mX1_init : MethodName × ByteArray × Nat × Option FieldType × Room := (yX1_init, cX1_init, 1, none, { frames := 1, cells := 0, slots := 0, locals := 20 })
abbrev mX1_kindsOf : MethodName × ByteArray × Nat × Option FieldType × Room := (yX1_kindsOf, cX1_kindsOf, 5, (some .int), { frames := 2, cells := 0, slots := 0, locals := 46 })
abbrev mX1_nextFor : MethodName × ByteArray × Nat × Option FieldType × Room := (yX1_nextFor, cX1_nextFor, 10, (some .int), { frames := 3, cells := 0, slots := 0, locals := 70 })
abbrev mX1_fits : MethodName × ByteArray × Nat × Option FieldType × Room := (yX1_fits, cX1_fits, 5, (some .boolean), { frames := 1, cells := 0, slots := 0, locals := 22 })
abbrev mX1_mostAlike : MethodName × ByteArray × Nat × Option FieldType × Room := (yX1_mostAlike, cX1_mostAlike, 6, (some .int), { frames := 1, cells := 0, slots := 0, locals := 23 })
abbrev mX1_likeOnes : MethodName × ByteArray × Nat × Option FieldType × Room := (yX1_likeOnes, cX1_likeOnes, 4, (some .int), { frames := 0, cells := 0, slots := 0, locals := 0 })
abbrev mX2_init : MethodName × ByteArray × Nat × Option FieldType × Room := (yX2_init, cX2_init, 1, none, { frames := 1, cells := 0, slots := 0, locals := 20 })
abbrev mX2_begin : MethodName × ByteArray × Nat × Option FieldType × Room := (yX2_begin, cX2_begin, 4, none, { frames := 0, cells := 0, slots := 0, locals := 0 })
abbrev mX2_copyOf : MethodName × ByteArray × Nat × Option FieldType × Room := (yX2_copyOf, cX2_copyOf, 2, none, { frames := 1, cells := 0, slots := 0, locals := 40 })
abbrev mX2_addBidder : MethodName × ByteArray × Nat × Option FieldType × Room := (yX2_addBidder, cX2_addBidder, 4, (some .int), { frames := 1, cells := 0, slots := 0, locals := 20 })
abbrev mX2_remember : MethodName × ByteArray × Nat × Option FieldType × Room := (yX2_remember, cX2_remember, 2, none, { frames := 1, cells := 0, slots := 0, locals := 40 })
abbrev mX2_stepBack : MethodName × ByteArray × Nat × Option FieldType × Room := (yX2_stepBack, cX2_stepBack, 2, none, { frames := 1, cells := 0, slots := 0, locals := 40 })
abbrev mX2_darkIn : MethodName × ByteArray × Nat × Option FieldType × Room := (yX2_darkIn, cX2_darkIn, 2, (some .int), { frames := 2, cells := 0, slots := 0, locals := 43 })
abbrev mX2_holder : MethodName × ByteArray × Nat × Option FieldType × Room := (yX2_holder, cX2_holder, 3, (some .int), { frames := 0, cells := 0, slots := 0, locals := 0 })
abbrev mX2_isOpenTo : MethodName × ByteArray × Nat × Option FieldType × Room := (yX2_isOpenTo, cX2_isOpenTo, 4, (some .boolean), { frames := 1, cells := 0, slots := 0, locals := 22 })
abbrev mX2_freeYards : MethodName × ByteArray × Nat × Option FieldType × Room := (yX2_freeYards, cX2_freeYards, 3, (some .int), { frames := 0, cells := 0, slots := 0, locals := 0 })
abbrev mX2_hides : MethodName × ByteArray × Nat × Option FieldType × Room := (yX2_hides, cX2_hides, 4, (some .boolean), { frames := 0, cells := 0, slots := 0, locals := 0 })
abbrev mX2_isHidden : MethodName × ByteArray × Nat × Option FieldType × Room := (yX2_isHidden, cX2_isHidden, 5, (some .boolean), { frames := 1, cells := 0, slots := 0, locals := 23 })
abbrev mX2_seenIn : MethodName × ByteArray × Nat × Option FieldType × Room := (yX2_seenIn, cX2_seenIn, 3, (some .int), { frames := 3, cells := 0, slots := 0, locals := 64 })
abbrev mX2_seenNow : MethodName × ByteArray × Nat × Option FieldType × Room := (yX2_seenNow, cX2_seenNow, 2, (some .int), { frames := 4, cells := 0, slots := 0, locals := 86 })
abbrev mX2_seenByAll : MethodName × ByteArray × Nat × Option FieldType × Room := (yX2_seenByAll, cX2_seenByAll, 3, (some .int), { frames := 5, cells := 0, slots := 0, locals := 107 })
abbrev mX2_openSeats : MethodName × ByteArray × Nat × Option FieldType × Room := (yX2_openSeats, cX2_openSeats, 3, (some .int), { frames := 2, cells := 0, slots := 0, locals := 47 })
abbrev mX2_paidByAll : MethodName × ByteArray × Nat × Option FieldType × Room := (yX2_paidByAll, cX2_paidByAll, 3, (some .int), { frames := 0, cells := 0, slots := 0, locals := 0 })
abbrev mX2_worthIn : MethodName × ByteArray × Nat × Option FieldType × Room := (yX2_worthIn, cX2_worthIn, 3, (some .int), { frames := 4, cells := 0, slots := 0, locals := 86 })
abbrev mX2_bid : MethodName × ByteArray × Nat × Option FieldType × Room := (yX2_bid, cX2_bid, 3, (some .int), { frames := 5, cells := 0, slots := 0, locals := 108 })
abbrev mX2_topBidder : MethodName × ByteArray × Nat × Option FieldType × Room := (yX2_topBidder, cX2_topBidder, 6, (some .int), { frames := 6, cells := 0, slots := 0, locals := 130 })
abbrev mX2_price : MethodName × ByteArray × Nat × Option FieldType × Room := (yX2_price, cX2_price, 5, (some .int), { frames := 6, cells := 0, slots := 0, locals := 130 })
abbrev mX2_harm : MethodName × ByteArray × Nat × Option FieldType × Room := (yX2_harm, cX2_harm, 6, (some .int), { frames := 3, cells := 0, slots := 0, locals := 64 })
abbrev mX3_worth : MethodName × ByteArray × Nat × Option FieldType × Room := (yX3_worth, cX3_worth, 3, (some .int), { frames := 0, cells := 0, slots := 0, locals := 0 })
abbrev mX3_head : MethodName × ByteArray × Nat × Option FieldType × Room := (yX3_head, cX3_head, 1, (some .int), { frames := 0, cells := 0, slots := 0, locals := 0 })
abbrev mX4_init : MethodName × ByteArray × Nat × Option FieldType × Room := (yX4_init, cX4_init, 1, none, { frames := 1, cells := 0, slots := 0, locals := 20 })
abbrev mX4_work : MethodName × ByteArray × Nat × Option FieldType × Room := (yX4_work, cX4_work, 5, none, { frames := 4, cells := 0, slots := 0, locals := 88 })
abbrev mX4_total : MethodName × ByteArray × Nat × Option FieldType × Room := (yX4_total, cX4_total, 1, (some .int), { frames := 0, cells := 0, slots := 0, locals := 0 })
abbrev mX4_seatFor : MethodName × ByteArray × Nat × Option FieldType × Room := (yX4_seatFor, cX4_seatFor, 3, (some .int), { frames := 1, cells := 0, slots := 0, locals := 20 })
abbrev mX4_lookAt : MethodName × ByteArray × Nat × Option FieldType × Room := (yX4_lookAt, cX4_lookAt, 5, none, { frames := 3, cells := 0, slots := 0, locals := 64 })
abbrev mX4_spread : MethodName × ByteArray × Nat × Option FieldType × Room := (yX4_spread, cX4_spread, 10, none, { frames := 1, cells := 0, slots := 0, locals := 21 })
abbrev mX4_seatShift : MethodName × ByteArray × Nat × Option FieldType × Room := (yX4_seatShift, cX4_seatShift, 1, (some .int), { frames := 0, cells := 0, slots := 0, locals := 0 })
abbrev mX5_init : MethodName × ByteArray × Nat × Option FieldType × Room := (yX5_init, cX5_init, 1, none, { frames := 1, cells := 0, slots := 0, locals := 20 })
abbrev mX5_readInto : MethodName × ByteArray × Nat × Option FieldType × Room := (yX5_readInto, cX5_readInto, 3, (some .int), { frames := 9, cells := 0, slots := 0, locals := 211 })
abbrev mX5_takeItem : MethodName × ByteArray × Nat × Option FieldType × Room := (yX5_takeItem, cX5_takeItem, 4, (some .boolean), { frames := 8, cells := 0, slots := 0, locals := 188 })
abbrev mX5_takeTrack : MethodName × ByteArray × Nat × Option FieldType × Room := (yX5_takeTrack, cX5_takeTrack, 2, (some .boolean), { frames := 3, cells := 0, slots := 0, locals := 61 })
abbrev mX5_takeDark : MethodName × ByteArray × Nat × Option FieldType × Room := (yX5_takeDark, cX5_takeDark, 2, (some .boolean), { frames := 3, cells := 0, slots := 0, locals := 61 })
abbrev mX5_takeHeights : MethodName × ByteArray × Nat × Option FieldType × Room := (yX5_takeHeights, cX5_takeHeights, 3, (some .boolean), { frames := 3, cells := 0, slots := 0, locals := 61 })
abbrev mX5_takeBidder : MethodName × ByteArray × Nat × Option FieldType × Room := (yX5_takeBidder, cX5_takeBidder, 3, (some .boolean), { frames := 3, cells := 0, slots := 0, locals := 61 })
abbrev mX5_takeSeat : MethodName × ByteArray × Nat × Option FieldType × Room := (yX5_takeSeat, cX5_takeSeat, 3, (some .boolean), { frames := 3, cells := 0, slots := 0, locals := 61 })
abbrev mX5_takeNumber : MethodName × ByteArray × Nat × Option FieldType × Room := (yX5_takeNumber, cX5_takeNumber, 2, (some .boolean), { frames := 2, cells := 0, slots := 0, locals := 40 })
abbrev mX5_takeStop : MethodName × ByteArray × Nat × Option FieldType × Room := (yX5_takeStop, cX5_takeStop, 1, (some .boolean), { frames := 2, cells := 0, slots := 0, locals := 40 })
abbrev mX5_step : MethodName × ByteArray × Nat × Option FieldType × Room := (yX5_step, cX5_step, 1, none, { frames := 1, cells := 0, slots := 0, locals := 20 })
abbrev mX5_isWord : MethodName × ByteArray × Nat × Option FieldType × Room := (yX5_isWord, cX5_isWord, 3, (some .boolean), { frames := 7, cells := 0, slots := 0, locals := 166 })
abbrev mX5_isLetter : MethodName × ByteArray × Nat × Option FieldType × Room := (yX5_isLetter, cX5_isLetter, 1, (some .boolean), { frames := 0, cells := 0, slots := 0, locals := 0 })
abbrev mX5_isFigure : MethodName × ByteArray × Nat × Option FieldType × Room := (yX5_isFigure, cX5_isFigure, 1, (some .boolean), { frames := 0, cells := 0, slots := 0, locals := 0 })
abbrev mX6_init : MethodName × ByteArray × Nat × Option FieldType × Room := (yX6_init, cX6_init, 2, none, { frames := 2, cells := 0, slots := 0, locals := 40 })
abbrev mX6_hill : MethodName × ByteArray × Nat × Option FieldType × Room := (yX6_hill, cX6_hill, 4, (some .int), { frames := 2, cells := 0, slots := 0, locals := 42 })
abbrev mX6_track : MethodName × ByteArray × Nat × Option FieldType × Room := (yX6_track, cX6_track, 3, (some .int), { frames := 2, cells := 0, slots := 0, locals := 42 })
abbrev mX6_height : MethodName × ByteArray × Nat × Option FieldType × Room := (yX6_height, cX6_height, 4, (some .int), { frames := 1, cells := 0, slots := 0, locals := 21 })
abbrev mX6_one : MethodName × ByteArray × Nat × Option FieldType × Room := (yX6_one, cX6_one, 3, (some .int), { frames := 2, cells := 0, slots := 0, locals := 43 })
abbrev mX6_type : MethodName × ByteArray × Nat × Option FieldType × Room := (yX6_type, cX6_type, 2, (some .int), { frames := 1, cells := 0, slots := 0, locals := 21 })
abbrev mX6_clear : MethodName × ByteArray × Nat × Option FieldType × Room := (yX6_clear, cX6_clear, 2, (some .int), { frames := 0, cells := 0, slots := 0, locals := 0 })
abbrev mX6_read : MethodName × ByteArray × Nat × Option FieldType × Room := (yX6_read, cX6_read, 2, (some .int), { frames := 10, cells := 0, slots := 0, locals := 233 })
abbrev mX6_sell : MethodName × ByteArray × Nat × Option FieldType × Room := (yX6_sell, cX6_sell, 4, (some .int), { frames := 7, cells := 0, slots := 0, locals := 155 })
abbrev mX6_leave : MethodName × ByteArray × Nat × Option FieldType × Room := (yX6_leave, cX6_leave, 3, (some .int), { frames := 2, cells := 0, slots := 0, locals := 61 })
abbrev mX6_moves : MethodName × ByteArray × Nat × Option FieldType × Room := (yX6_moves, cX6_moves, 4, (some .int), { frames := 2, cells := 0, slots := 0, locals := 61 })
abbrev mX6_undo : MethodName × ByteArray × Nat × Option FieldType × Room := (yX6_undo, cX6_undo, 1, (some .int), { frames := 2, cells := 0, slots := 0, locals := 61 })
abbrev mX6_of : MethodName × ByteArray × Nat × Option FieldType × Room := (yX6_of, cX6_of, 3, (some .int), { frames := 1, cells := 0, slots := 0, locals := 21 })
abbrev mX6_yard : MethodName × ByteArray × Nat × Option FieldType × Room := (yX6_yard, cX6_yard, 3, (some .int), { frames := 3, cells := 0, slots := 0, locals := 64 })
abbrev mX6_sees : MethodName × ByteArray × Nat × Option FieldType × Room := (yX6_sees, cX6_sees, 3, (some .int), { frames := 5, cells := 0, slots := 0, locals := 107 })
abbrev mX6_gives : MethodName × ByteArray × Nat × Option FieldType × Room := (yX6_gives, cX6_gives, 4, (some .int), { frames := 6, cells := 0, slots := 0, locals := 130 })
abbrev mX6_auction : MethodName × ByteArray × Nat × Option FieldType × Room := (yX6_auction, cX6_auction, 4, (some .int), { frames := 7, cells := 0, slots := 0, locals := 155 })
abbrev mX6_hurt : MethodName × ByteArray × Nat × Option FieldType × Room := (yX6_hurt, cX6_hurt, 3, (some .int), { frames := 4, cells := 0, slots := 0, locals := 89 })
abbrev mX6_best : MethodName × ByteArray × Nat × Option FieldType × Room := (yX6_best, cX6_best, 7, (some .int), { frames := 5, cells := 0, slots := 0, locals := 108 })
abbrev mX6_all : MethodName × ByteArray × Nat × Option FieldType × Room := (yX6_all, cX6_all, 2, (some .int), { frames := 5, cells := 0, slots := 0, locals := 112 })
abbrev mX6_move : MethodName × ByteArray × Nat × Option FieldType × Room := (yX6_move, cX6_move, 6, (some .int), { frames := 4, cells := 0, slots := 0, locals := 89 })
abbrev mX6_note : MethodName × ByteArray × Nat × Option FieldType × Room := (yX6_note, cX6_note, 6, (some .int), { frames := 1, cells := 0, slots := 0, locals := 21 })
abbrev mX6_forget : MethodName × ByteArray × Nat × Option FieldType × Room := (yX6_forget, cX6_forget, 2, (some .int), { frames := 0, cells := 0, slots := 0, locals := 0 })
abbrev mX6_is : MethodName × ByteArray × Nat × Option FieldType × Room := (yX6_is, cX6_is, 2, (some .int), { frames := 3, cells := 0, slots := 0, locals := 70 })
abbrev mX6_offer : MethodName × ByteArray × Nat × Option FieldType × Room := (yX6_offer, cX6_offer, 2, (some .int), { frames := 4, cells := 0, slots := 0, locals := 99 })
abbrev mX6_two : MethodName × ByteArray × Nat × Option FieldType × Room := (yX6_two, cX6_two, 7, (some .int), { frames := 5, cells := 0, slots := 0, locals := 115 })
abbrev mX6_clouds : MethodName × ByteArray × Nat × Option FieldType × Room := (yX6_clouds, cX6_clouds, 4, (some .int), { frames := 6, cells := 0, slots := 0, locals := 129 })
abbrev mX6_eclipses : MethodName × ByteArray × Nat × Option FieldType × Room := (yX6_eclipses, cX6_eclipses, 10, (some .int), { frames := 3, cells := 0, slots := 0, locals := 69 })
abbrev mX6_part : MethodName × ByteArray × Nat × Option FieldType × Room := (yX6_part, cX6_part, 2, (some .long), { frames := 1, cells := 0, slots := 0, locals := 21 })
abbrev mX6_image : MethodName × ByteArray × Nat × Option FieldType × Room := (yX6_image, cX6_image, 2, (some .int), { frames := 2, cells := 0, slots := 0, locals := 61 })
abbrev mX6_from : MethodName × ByteArray × Nat × Option FieldType × Room := (yX6_from, cX6_from, 2, (some .int), { frames := 2, cells := 0, slots := 0, locals := 61 })
abbrev mX6_status : MethodName × ByteArray × Nat × Option FieldType × Room := (yX6_status, cX6_status, 2, (some .int), { frames := 1, cells := 0, slots := 0, locals := 21 })
abbrev mX6_count : MethodName × ByteArray × Nat × Option FieldType × Room := (yX6_count, cX6_count, 2, (some .int), { frames := 7, cells := 0, slots := 0, locals := 150 })
abbrev mX6_digest : MethodName × ByteArray × Nat × Option FieldType × Room := (yX6_digest, cX6_digest, 4, (some .long), { frames := 7, cells := 0, slots := 0, locals := 150 })
abbrev mX6_howMany : MethodName × ByteArray × Nat × Option FieldType × Room := (yX6_howMany, cX6_howMany, 2, (some .int), { frames := 6, cells := 0, slots := 0, locals := 129 })
abbrev mX6_bad : MethodName × ByteArray × Nat × Option FieldType × Room := (yX6_bad, cX6_bad, 2, (some .int), { frames := 0, cells := 0, slots := 0, locals := 0 })
abbrev mX6_no : MethodName × ByteArray × Nat × Option FieldType × Room := (yX6_no, cX6_no, 1, (some .int), { frames := 0, cells := 0, slots := 0, locals := 0 })
abbrev mX6_full : MethodName × ByteArray × Nat × Option FieldType × Room := (yX6_full, cX6_full, 1, (some .int), { frames := 0, cells := 0, slots := 0, locals := 0 })
abbrev mX6_isBidder : MethodName × ByteArray × Nat × Option FieldType × Room := (yX6_isBidder, cX6_isBidder, 2, (some .boolean), { frames := 0, cells := 0, slots := 0, locals := 0 })
abbrev mX6_isYard : MethodName × ByteArray × Nat × Option FieldType × Room := (yX6_isYard, cX6_isYard, 1, (some .boolean), { frames := 0, cells := 0, slots := 0, locals := 0 })
abbrev mX6_isTrack : MethodName × ByteArray × Nat × Option FieldType × Room := (yX6_isTrack, cX6_isTrack, 2, (some .boolean), { frames := 1, cells := 0, slots := 0, locals := 21 })
abbrev mX6_within : MethodName × ByteArray × Nat × Option FieldType × Room := (yX6_within, cX6_within, 2, (some .boolean), { frames := 0, cells := 0, slots := 0, locals := 0 })
abbrev mX6_darkFrom : MethodName × ByteArray × Nat × Option FieldType × Room := (yX6_darkFrom, cX6_darkFrom, 3, (some .int), { frames := 1, cells := 0, slots := 0, locals := 21 })
abbrev mX6_darkOver : MethodName × ByteArray × Nat × Option FieldType × Room := (yX6_darkOver, cX6_darkOver, 5, (some .int), { frames := 2, cells := 0, slots := 0, locals := 43 })
abbrev mX6_commonDivisor : MethodName × ByteArray × Nat × Option FieldType × Room := (yX6_commonDivisor, cX6_commonDivisor, 3, (some .int), { frames := 0, cells := 0, slots := 0, locals := 0 })
abbrev mX7_bad : MethodName × ByteArray × Nat × Option FieldType × Room := (yX7_bad, cX7_bad, 1, (some .int), { frames := 0, cells := 0, slots := 0, locals := 0 })
abbrev mX7_ten : MethodName × ByteArray × Nat × Option FieldType × Room := (yX7_ten, cX7_ten, 1, (some .int), { frames := 0, cells := 0, slots := 0, locals := 0 })
abbrev mX7_no : MethodName × ByteArray × Nat × Option FieldType × Room := (yX7_no, cX7_no, 1, (some .int), { frames := 0, cells := 0, slots := 0, locals := 0 })
abbrev mX7_full : MethodName × ByteArray × Nat × Option FieldType × Room := (yX7_full, cX7_full, 1, (some .int), { frames := 0, cells := 0, slots := 0, locals := 0 })
abbrev mX7_in : MethodName × ByteArray × Nat × Option FieldType × Room := (yX7_in, cX7_in, 3, (some .boolean), { frames := 0, cells := 0, slots := 0, locals := 0 })
abbrev mX7_has : MethodName × ByteArray × Nat × Option FieldType × Room := (yX7_has, cX7_has, 2, (some .boolean), { frames := 0, cells := 0, slots := 0, locals := 0 })
abbrev mX7_lesser : MethodName × ByteArray × Nat × Option FieldType × Room := (yX7_lesser, cX7_lesser, 2, (some .int), { frames := 0, cells := 0, slots := 0, locals := 0 })
abbrev mX7_init : MethodName × ByteArray × Nat × Option FieldType × Room := (yX7_init, cX7_init, 1, none, { frames := 1, cells := 0, slots := 0, locals := 23 })
abbrev mX7_begin : MethodName × ByteArray × Nat × Option FieldType × Room := (yX7_begin, cX7_begin, 4, none, { frames := 0, cells := 0, slots := 0, locals := 0 })
abbrev mX7_isOne : MethodName × ByteArray × Nat × Option FieldType × Room := (yX7_isOne, cX7_isOne, 2, (some .boolean), { frames := 1, cells := 0, slots := 0, locals := 22 })
abbrev mX7_isYard : MethodName × ByteArray × Nat × Option FieldType × Room := (yX7_isYard, cX7_isYard, 1, (some .boolean), { frames := 1, cells := 0, slots := 0, locals := 22 })
abbrev mX7_hill : MethodName × ByteArray × Nat × Option FieldType × Room := (yX7_hill, cX7_hill, 4, (some .int), { frames := 2, cells := 0, slots := 0, locals := 42 })
abbrev mX7_track : MethodName × ByteArray × Nat × Option FieldType × Room := (yX7_track, cX7_track, 3, (some .int), { frames := 2, cells := 0, slots := 0, locals := 42 })
abbrev mX7_height : MethodName × ByteArray × Nat × Option FieldType × Room := (yX7_height, cX7_height, 4, (some .int), { frames := 2, cells := 0, slots := 0, locals := 42 })
abbrev mX7_addOne : MethodName × ByteArray × Nat × Option FieldType × Room := (yX7_addOne, cX7_addOne, 3, (some .int), { frames := 0, cells := 0, slots := 0, locals := 0 })
abbrev mX7_one : MethodName × ByteArray × Nat × Option FieldType × Room := (yX7_one, cX7_one, 3, (some .int), { frames := 1, cells := 0, slots := 0, locals := 22 })
abbrev mX7_type : MethodName × ByteArray × Nat × Option FieldType × Room := (yX7_type, cX7_type, 2, (some .int), { frames := 1, cells := 0, slots := 0, locals := 22 })
abbrev mX7_clear : MethodName × ByteArray × Nat × Option FieldType × Room := (yX7_clear, cX7_clear, 2, (some .int), { frames := 0, cells := 0, slots := 0, locals := 0 })
abbrev mX7_here : MethodName × ByteArray × Nat × Option FieldType × Room := (yX7_here, cX7_here, 1, (some .int), { frames := 0, cells := 0, slots := 0, locals := 0 })
abbrev mX7_skip : MethodName × ByteArray × Nat × Option FieldType × Room := (yX7_skip, cX7_skip, 1, none, { frames := 1, cells := 0, slots := 0, locals := 20 })
abbrev mX7_isLetter : MethodName × ByteArray × Nat × Option FieldType × Room := (yX7_isLetter, cX7_isLetter, 1, (some .boolean), { frames := 1, cells := 0, slots := 0, locals := 22 })
abbrev mX7_isFigure : MethodName × ByteArray × Nat × Option FieldType × Room := (yX7_isFigure, cX7_isFigure, 1, (some .boolean), { frames := 1, cells := 0, slots := 0, locals := 22 })
abbrev mX7_wordSize : MethodName × ByteArray × Nat × Option FieldType × Room := (yX7_wordSize, cX7_wordSize, 2, (some .int), { frames := 2, cells := 0, slots := 0, locals := 42 })
abbrev mX7_letter : MethodName × ByteArray × Nat × Option FieldType × Room := (yX7_letter, cX7_letter, 2, (some .int), { frames := 0, cells := 0, slots := 0, locals := 0 })
abbrev mX7_spells : MethodName × ByteArray × Nat × Option FieldType × Room := (yX7_spells, cX7_spells, 5, (some .boolean), { frames := 1, cells := 0, slots := 0, locals := 21 })
abbrev mX7_wordHere : MethodName × ByteArray × Nat × Option FieldType × Room := (yX7_wordHere, cX7_wordHere, 2, (some .int), { frames := 3, cells := 0, slots := 0, locals := 63 })
abbrev mX7_number : MethodName × ByteArray × Nat × Option FieldType × Room := (yX7_number, cX7_number, 5, (some .boolean), { frames := 2, cells := 0, slots := 0, locals := 42 })
abbrev mX7_ends : MethodName × ByteArray × Nat × Option FieldType × Room := (yX7_ends, cX7_ends, 1, (some .boolean), { frames := 2, cells := 0, slots := 0, locals := 40 })
abbrev mX7_readsDark : MethodName × ByteArray × Nat × Option FieldType × Room := (yX7_readsDark, cX7_readsDark, 1, (some .boolean), { frames := 3, cells := 0, slots := 0, locals := 66 })
abbrev mX7_readsHeights : MethodName × ByteArray × Nat × Option FieldType × Room := (yX7_readsHeights, cX7_readsHeights, 2, (some .boolean), { frames := 3, cells := 0, slots := 0, locals := 66 })
abbrev mX7_readsOne : MethodName × ByteArray × Nat × Option FieldType × Room := (yX7_readsOne, cX7_readsOne, 1, (some .boolean), { frames := 3, cells := 0, slots := 0, locals := 66 })
abbrev mX7_readsSeat : MethodName × ByteArray × Nat × Option FieldType × Room := (yX7_readsSeat, cX7_readsSeat, 4, (some .boolean), { frames := 3, cells := 0, slots := 0, locals := 66 })
abbrev mX7_readsItem : MethodName × ByteArray × Nat × Option FieldType × Room := (yX7_readsItem, cX7_readsItem, 2, (some .boolean), { frames := 4, cells := 0, slots := 0, locals := 89 })
abbrev mX7_readsFirst : MethodName × ByteArray × Nat × Option FieldType × Room := (yX7_readsFirst, cX7_readsFirst, 1, (some .boolean), { frames := 4, cells := 0, slots := 0, locals := 84 })
abbrev mX7_readsHill : MethodName × ByteArray × Nat × Option FieldType × Room := (yX7_readsHill, cX7_readsHill, 2, (some .int), { frames := 5, cells := 0, slots := 0, locals := 110 })
abbrev mX7_read : MethodName × ByteArray × Nat × Option FieldType × Room := (yX7_read, cX7_read, 3, (some .int), { frames := 6, cells := 0, slots := 0, locals := 131 })
abbrev mX7_worthBy : MethodName × ByteArray × Nat × Option FieldType × Room := (yX7_worthBy, cX7_worthBy, 3, (some .int), { frames := 0, cells := 0, slots := 0, locals := 0 })
abbrev mX7_headBy : MethodName × ByteArray × Nat × Option FieldType × Room := (yX7_headBy, cX7_headBy, 1, (some .int), { frames := 0, cells := 0, slots := 0, locals := 0 })
abbrev mX7_darkIn : MethodName × ByteArray × Nat × Option FieldType × Room := (yX7_darkIn, cX7_darkIn, 4, (some .int), { frames := 0, cells := 0, slots := 0, locals := 0 })
abbrev mX7_who : MethodName × ByteArray × Nat × Option FieldType × Room := (yX7_who, cX7_who, 3, (some .int), { frames := 0, cells := 0, slots := 0, locals := 0 })
abbrev mX7_seen : MethodName × ByteArray × Nat × Option FieldType × Room := (yX7_seen, cX7_seen, 6, (some .int), { frames := 1, cells := 0, slots := 0, locals := 23 })
abbrev mX7_worth : MethodName × ByteArray × Nat × Option FieldType × Room := (yX7_worth, cX7_worth, 2, (some .int), { frames := 2, cells := 0, slots := 0, locals := 48 })
abbrev mX7_othersSee : MethodName × ByteArray × Nat × Option FieldType × Room := (yX7_othersSee, cX7_othersSee, 4, (some .int), { frames := 2, cells := 0, slots := 0, locals := 48 })
abbrev mX7_isOpen : MethodName × ByteArray × Nat × Option FieldType × Room := (yX7_isOpen, cX7_isOpen, 4, (some .boolean), { frames := 1, cells := 0, slots := 0, locals := 22 })
abbrev mX7_lays : MethodName × ByteArray × Nat × Option FieldType × Room := (yX7_lays, cX7_lays, 4, none, { frames := 0, cells := 0, slots := 0, locals := 0 })
abbrev mX7_takes : MethodName × ByteArray × Nat × Option FieldType × Room := (yX7_takes, cX7_takes, 4, none, { frames := 0, cells := 0, slots := 0, locals := 0 })
abbrev mX7_notes : MethodName × ByteArray × Nat × Option FieldType × Room := (yX7_notes, cX7_notes, 2, none, { frames := 1, cells := 0, slots := 0, locals := 23 })
abbrev mX7_free : MethodName × ByteArray × Nat × Option FieldType × Room := (yX7_free, cX7_free, 3, (some .int), { frames := 0, cells := 0, slots := 0, locals := 0 })
abbrev mX7_sell : MethodName × ByteArray × Nat × Option FieldType × Room := (yX7_sell, cX7_sell, 4, (some .int), { frames := 6, cells := 0, slots := 0, locals := 141 })
abbrev mX7_leave : MethodName × ByteArray × Nat × Option FieldType × Room := (yX7_leave, cX7_leave, 3, (some .int), { frames := 2, cells := 0, slots := 0, locals := 44 })
abbrev mX7_moves : MethodName × ByteArray × Nat × Option FieldType × Room := (yX7_moves, cX7_moves, 4, (some .int), { frames := 2, cells := 0, slots := 0, locals := 44 })
abbrev mX7_undo : MethodName × ByteArray × Nat × Option FieldType × Room := (yX7_undo, cX7_undo, 1, (some .int), { frames := 1, cells := 0, slots := 0, locals := 23 })
abbrev mX7_of : MethodName × ByteArray × Nat × Option FieldType × Room := (yX7_of, cX7_of, 3, (some .int), { frames := 2, cells := 0, slots := 0, locals := 43 })
abbrev mX7_yard : MethodName × ByteArray × Nat × Option FieldType × Room := (yX7_yard, cX7_yard, 3, (some .int), { frames := 2, cells := 0, slots := 0, locals := 42 })
abbrev mX7_seesIn : MethodName × ByteArray × Nat × Option FieldType × Room := (yX7_seesIn, cX7_seesIn, 5, (some .int), { frames := 2, cells := 0, slots := 0, locals := 48 })
abbrev mX7_worthIn : MethodName × ByteArray × Nat × Option FieldType × Room := (yX7_worthIn, cX7_worthIn, 3, (some .int), { frames := 3, cells := 0, slots := 0, locals := 72 })
abbrev mX7_sees : MethodName × ByteArray × Nat × Option FieldType × Room := (yX7_sees, cX7_sees, 3, (some .int), { frames := 3, cells := 0, slots := 0, locals := 72 })
abbrev mX7_gives : MethodName × ByteArray × Nat × Option FieldType × Room := (yX7_gives, cX7_gives, 3, (some .int), { frames := 4, cells := 0, slots := 0, locals := 94 })
abbrev mX7_bidOf : MethodName × ByteArray × Nat × Option FieldType × Room := (yX7_bidOf, cX7_bidOf, 3, (some .int), { frames := 4, cells := 0, slots := 0, locals := 94 })
abbrev mX7_winner : MethodName × ByteArray × Nat × Option FieldType × Room := (yX7_winner, cX7_winner, 6, (some .int), { frames := 5, cells := 0, slots := 0, locals := 116 })
abbrev mX7_priceOf : MethodName × ByteArray × Nat × Option FieldType × Room := (yX7_priceOf, cX7_priceOf, 6, (some .int), { frames := 5, cells := 0, slots := 0, locals := 116 })
abbrev mX7_auction : MethodName × ByteArray × Nat × Option FieldType × Room := (yX7_auction, cX7_auction, 4, (some .int), { frames := 6, cells := 0, slots := 0, locals := 141 })
abbrev mX7_hurtIn : MethodName × ByteArray × Nat × Option FieldType × Room := (yX7_hurtIn, cX7_hurtIn, 6, (some .int), { frames := 3, cells := 0, slots := 0, locals := 71 })
abbrev mX7_hurt : MethodName × ByteArray × Nat × Option FieldType × Room := (yX7_hurt, cX7_hurt, 3, (some .int), { frames := 4, cells := 0, slots := 0, locals := 96 })
abbrev mX7_best : MethodName × ByteArray × Nat × Option FieldType × Room := (yX7_best, cX7_best, 7, (some .int), { frames := 4, cells := 0, slots := 0, locals := 96 })
abbrev mX7_seatBy : MethodName × ByteArray × Nat × Option FieldType × Room := (yX7_seatBy, cX7_seatBy, 5, (some .boolean), { frames := 1, cells := 0, slots := 0, locals := 21 })
abbrev mX7_all : MethodName × ByteArray × Nat × Option FieldType × Room := (yX7_all, cX7_all, 7, (some .int), { frames := 3, cells := 0, slots := 0, locals := 69 })
abbrev mX7_move : MethodName × ByteArray × Nat × Option FieldType × Room := (yX7_move, cX7_move, 6, (some .int), { frames := 4, cells := 0, slots := 0, locals := 96 })
abbrev mX7_note : MethodName × ByteArray × Nat × Option FieldType × Room := (yX7_note, cX7_note, 5, (some .int), { frames := 2, cells := 0, slots := 0, locals := 43 })
abbrev mX7_forget : MethodName × ByteArray × Nat × Option FieldType × Room := (yX7_forget, cX7_forget, 2, (some .int), { frames := 0, cells := 0, slots := 0, locals := 0 })
abbrev mX7_kindsOf : MethodName × ByteArray × Nat × Option FieldType × Room := (yX7_kindsOf, cX7_kindsOf, 7, (some .int), { frames := 1, cells := 0, slots := 0, locals := 22 })
abbrev mX7_is : MethodName × ByteArray × Nat × Option FieldType × Room := (yX7_is, cX7_is, 2, (some .int), { frames := 2, cells := 0, slots := 0, locals := 48 })
abbrev mX7_alike : MethodName × ByteArray × Nat × Option FieldType × Room := (yX7_alike, cX7_alike, 7, (some .int), { frames := 1, cells := 0, slots := 0, locals := 22 })
abbrev mX7_offer : MethodName × ByteArray × Nat × Option FieldType × Room := (yX7_offer, cX7_offer, 8, (some .int), { frames := 2, cells := 0, slots := 0, locals := 48 })
abbrev mX7_gets : MethodName × ByteArray × Nat × Option FieldType × Room := (yX7_gets, cX7_gets, 6, (some .int), { frames := 1, cells := 0, slots := 0, locals := 23 })
abbrev mX7_rests : MethodName × ByteArray × Nat × Option FieldType × Room := (yX7_rests, cX7_rests, 7, (some .boolean), { frames := 2, cells := 0, slots := 0, locals := 48 })
abbrev mX7_two : MethodName × ByteArray × Nat × Option FieldType × Room := (yX7_two, cX7_two, 8, (some .int), { frames := 3, cells := 0, slots := 0, locals := 74 })
abbrev mX7_lay : MethodName × ByteArray × Nat × Option FieldType × Room := (yX7_lay, cX7_lay, 11, none, { frames := 0, cells := 0, slots := 0, locals := 0 })
abbrev mX7_clouds : MethodName × ByteArray × Nat × Option FieldType × Room := (yX7_clouds, cX7_clouds, 2, (some .int), { frames := 3, cells := 0, slots := 0, locals := 71 })
abbrev mX7_eclipses : MethodName × ByteArray × Nat × Option FieldType × Room := (yX7_eclipses, cX7_eclipses, 9, (some .int), { frames := 3, cells := 0, slots := 0, locals := 71 })
abbrev mX7_part : MethodName × ByteArray × Nat × Option FieldType × Room := (yX7_part, cX7_part, 2, (some .long), { frames := 1, cells := 0, slots := 0, locals := 20 })
abbrev mX7_image : MethodName × ByteArray × Nat × Option FieldType × Room := (yX7_image, cX7_image, 4, (some .int), { frames := 1, cells := 0, slots := 0, locals := 23 })
abbrev mX7_from : MethodName × ByteArray × Nat × Option FieldType × Room := (yX7_from, cX7_from, 4, (some .int), { frames := 1, cells := 0, slots := 0, locals := 23 })
abbrev mX7_status : MethodName × ByteArray × Nat × Option FieldType × Room := (yX7_status, cX7_status, 2, (some .int), { frames := 1, cells := 0, slots := 0, locals := 22 })
abbrev mX7_allPaid : MethodName × ByteArray × Nat × Option FieldType × Room := (yX7_allPaid, cX7_allPaid, 3, (some .int), { frames := 0, cells := 0, slots := 0, locals := 0 })
abbrev mX7_countOf : MethodName × ByteArray × Nat × Option FieldType × Room := (yX7_countOf, cX7_countOf, 2, (some .int), { frames := 3, cells := 0, slots := 0, locals := 71 })
abbrev mX7_count : MethodName × ByteArray × Nat × Option FieldType × Room := (yX7_count, cX7_count, 2, (some .int), { frames := 4, cells := 0, slots := 0, locals := 92 })
abbrev mX7_mix : MethodName × ByteArray × Nat × Option FieldType × Room := (yX7_mix, cX7_mix, 3, none, { frames := 0, cells := 0, slots := 0, locals := 0 })
abbrev mX7_digest : MethodName × ByteArray × Nat × Option FieldType × Room := (yX7_digest, cX7_digest, 2, (some .long), { frames := 4, cells := 0, slots := 0, locals := 92 })
abbrev mJ9_abs_0f7a4 : MethodName × ByteArray × Nat × Option FieldType × Room := (yJ9_abs_0f7a4, cJ9_abs_0f7a4, 1, (some .int), { frames := 0, cells := 0, slots := 0, locals := 0 })
abbrev mJ9_max_7cf53 : MethodName × ByteArray × Nat × Option FieldType × Room := (yJ9_max_7cf53, cJ9_max_7cf53, 2, (some .int), { frames := 0, cells := 0, slots := 0, locals := 0 })
abbrev mJ9_min_7cf53 : MethodName × ByteArray × Nat × Option FieldType × Room := (yJ9_min_7cf53, cJ9_min_7cf53, 2, (some .int), { frames := 0, cells := 0, slots := 0, locals := 0 })
abbrev mJ0_length_8abf5 : MethodName × ByteArray × Nat × Option FieldType × Room := (yJ0_length_8abf5, cJ0_length_8abf5, 1, (some .int), { frames := 1, cells := 0, slots := 0, locals := 20 })
abbrev mJ0_charAt_5068e : MethodName × ByteArray × Nat × Option FieldType × Room := (yJ0_charAt_5068e, cJ0_charAt_5068e, 2, (some .char), { frames := 6, cells := 0, slots := 0, locals := 145 })
abbrev mJ0_coder_7d493 : MethodName × ByteArray × Nat × Option FieldType × Room := (yJ0_coder_7d493, cJ0_coder_7d493, 1, (some .byte), { frames := 0, cells := 0, slots := 0, locals := 0 })
abbrev mJ0_isLatin1_aae02 : MethodName × ByteArray × Nat × Option FieldType × Room := (yJ0_isLatin1_aae02, cJ0_isLatin1_aae02, 1, (some .boolean), { frames := 0, cells := 0, slots := 0, locals := 0 })
abbrev mJ0_checkIndex_df160 : MethodName × ByteArray × Nat × Option FieldType × Room := (yJ0_checkIndex_df160, cJ0_checkIndex_df160, 2, none, { frames := 3, cells := 0, slots := 0, locals := 82 })
abbrev mJ1_charAt_3b067 : MethodName × ByteArray × Nat × Option FieldType × Room := (yJ1_charAt_3b067, cJ1_charAt_3b067, 2, (some .char), { frames := 4, cells := 0, slots := 0, locals := 103 })
abbrev mJ2_getChar_3b067 : MethodName × ByteArray × Nat × Option FieldType × Room := (yJ2_getChar_3b067, cJ2_getChar_3b067, 2, (some .char), { frames := 2, cells := 0, slots := 0, locals := 60 })
abbrev mJ2_length_9d52b : MethodName × ByteArray × Nat × Option FieldType × Room := (yJ2_length_9d52b, cJ2_length_9d52b, 1, (some .int), { frames := 0, cells := 0, slots := 0, locals := 0 })
abbrev mJ2_charAt_3b067 : MethodName × ByteArray × Nat × Option FieldType × Room := (yJ2_charAt_3b067, cJ2_charAt_3b067, 2, (some .char), { frames := 5, cells := 0, slots := 0, locals := 124 })
abbrev mJ2_checkIndex_2214a : MethodName × ByteArray × Nat × Option FieldType × Room := (yJ2_checkIndex_2214a, cJ2_checkIndex_2214a, 2, none, { frames := 4, cells := 0, slots := 0, locals := 103 })
abbrev mJ3_checkIndex_8e157 : MethodName × ByteArray × Nat × Option FieldType × Room := (yJ3_checkIndex_8e157, cJ3_checkIndex_8e157, 3, (some .int), { frames := 2, cells := 0, slots := 0, locals := 60 })
set_option maxRecDepth 20000 in
theorem inX0 : ∀ w ∈ u_ws RX0 TX0 4, w ∈ lw_tbl := by decide +kernel
set_option maxRecDepth 20000 in
theorem inX1 : ∀ w ∈ u_ws RX1 TX1 1, w ∈ lw_tbl := by decide +kernel
set_option maxRecDepth 20000 in
theorem inX2 : ∀ w ∈ u_ws RX2 TX2 13, w ∈ lw_tbl := by decide +kernel
set_option maxRecDepth 20000 in
theorem inX4 : ∀ w ∈ u_ws RX4 TX4 4, w ∈ lw_tbl := by decide +kernel
set_option maxRecDepth 20000 in
theorem inX5 : ∀ w ∈ u_ws RX5 TX5 6, w ∈ lw_tbl := by decide +kernel
set_option maxRecDepth 20000 in
theorem inX6 : ∀ w ∈ u_ws RX6 TX6 13, w ∈ lw_tbl := by decide +kernel
set_option maxRecDepth 20000 in
theorem inX7 : ∀ w ∈ u_ws RX7 TX7 32, w ∈ lw_tbl := by decide +kernel
end
section
/-! THE ENGINE, 1: stores, shapes, the world, the judgement WW -/
/-- the tables' words that a callee may rest on -/
def eTb : List Cond := lw_tbl.filter goodWord
theorem eTm {w : Cond} (h : w ∈ lw_tbl) (g : goodWord w = true) : w ∈ eTb := List.mem_filter.mpr ⟨h, g⟩
theorem eTl {w : Cond} (h : w ∈ eTb) : w ∈ lw_tbl := (List.mem_filter.mp h).1
theorem eGood {w : Cond} (h : w ∈ eTb) : goodWord w = true := (List.mem_filter.mp h).2
/-- a store: the ints of each cell, the longs -/
abbrev eSt : Type := (Nat → Nat → Int32) × (Nat → Int64)
def eU (σ : eSt) (k j : Nat) (x : Int32) : eSt := (va_up σ.1 k (upd (σ.1 k) j x), σ.2)
def eL (σ : eSt) (j : Nat) (x : Int64) : eSt := (σ.1, vp_updL σ.2 j x)
def eR (σ : eSt) (k : Nat) (f : Nat → Int32) : eSt := (va_up σ.1 k f, σ.2)
/-- a cell's shape: an array (kind, length, targets of references), or an object (class, fields, what each field is: (0, _) an int, (1, i) the long i, (2, k) the cell k) -/
abbrev eK : Type := (Nat × Nat × (Nat → Nat)) ⊕ (Nat × Nat × (Nat → Nat × Nat))
def eHillF (h : Nat) (j : Nat) : Nat × Nat := match j with
  | 2 => (2, h + 1)
  | 4 => (2, h + 2)
  | 5 => (2, h + 3)
  | 6 => (2, h + 4)
  | 7 => (2, h + 5)
  | 8 => (2, h + 6)
  | 10 => (2, h + 7)
  | 12 => (2, h + 8)
  | _ => (0, 0)
def eSeatsF (j : Nat) : Nat × Nat := match j with
  | 0 => (2, 1)
  | 1 => (2, 10)
  | 2 => (2, 19)
  | 3 => (2, 38)
  | 4 => (2, 39)
  | 5 => (2, 41)
  | 6 => (2, 45)
  | 7 => (2, 50)
  | _ => (0, 0)
def eModelF (j : Nat) : Nat × Nat := match j with
  | 0 => (2, 53)
  | 5 => (2, 54)
  | 6 => (2, 55)
  | 7 => (2, 56)
  | 8 => (2, 57)
  | 9 => (2, 58)
  | 10 => (2, 59)
  | 11 => (2, 60)
  | 12 => (2, 61)
  | 13 => (2, 62)
  | 14 => (2, 63)
  | 20 => (2, 64)
  | 21 => (2, 65)
  | 23 => (2, 66)
  | 25 => (2, 67)
  | 26 => (2, 68)
  | 27 => (1, 0)
  | 28 => (1, 1)
  | 29 => (2, 69)
  | 30 => (2, 70)
  | 31 => (1, 2)
  | _ => (0, 0)
def eI (n : Nat) : eK := .inl (1, n, fun _ => 0)
def eSh (k : Nat) : eK := match k with
  | 0 => .inr (5, 13, eSeatsF)
  | 1 => .inr (2, 13, eHillF 1)
  | 2 => eI 8
  | 3 => eI 5
  | 4 => eI 5
  | 5 => eI 5
  | 6 => eI 5
  | 7 => eI 5
  | 8 => eI 24
  | 9 => eI 120
  | 10 => .inr (2, 13, eHillF 10)
  | 11 => eI 8
  | 12 => eI 5
  | 13 => eI 5
  | 14 => eI 5
  | 15 => eI 5
  | 16 => eI 5
  | 17 => eI 24
  | 18 => eI 120
  | 19 => .inl (3, 2, fun i => match i with | 0 => 20 | _ => 29)
  | 20 => .inr (2, 13, eHillF 20)
  | 21 => eI 8
  | 22 => eI 5
  | 23 => eI 5
  | 24 => eI 5
  | 25 => eI 5
  | 26 => eI 5
  | 27 => eI 24
  | 28 => eI 120
  | 29 => .inr (2, 13, eHillF 29)
  | 30 => eI 8
  | 31 => eI 5
  | 32 => eI 5
  | 33 => eI 5
  | 34 => eI 5
  | 35 => eI 5
  | 36 => eI 24
  | 37 => eI 120
  | 38 => .inl (2, 2, fun _ => 0)
  | 39 => .inr (4, 6, fun j => match j with | 0 => (2, 40) | _ => (0, 0))
  | 40 => .inl (0, 150, fun _ => 0)
  | 41 => .inr (3, 4, fun j => match j with | 0 => (2, 42) | 1 => (2, 43) | 2 => (2, 44) | _ => (0, 0))
  | 42 => eI 352
  | 43 => eI 5
  | 44 => eI 5
  | 45 => .inr (0, 4, fun j => match j with | 0 => (2, 46) | 1 => (2, 47) | 2 => (2, 48) | _ => (2, 49))
  | 46 => eI 64
  | 47 => eI 64
  | 48 => eI 8
  | 49 => eI 8
  | 50 => .inr (1, 1, fun _ => (2, 51))
  | 51 => eI 6
  | 52 => .inr (6, 32, eModelF)
  | 53 => eI 3
  | 54 => eI 8
  | 55 => eI 5
  | 56 => eI 5
  | 57 => eI 5
  | 58 => eI 5
  | 59 => eI 6
  | 60 => eI 6
  | 61 => eI 6
  | 62 => eI 6
  | 63 => eI 150
  | 64 => eI 15
  | 65 => eI 8
  | 66 => eI 120
  | 67 => eI 5
  | 68 => eI 5
  | 69 => eI 380
  | _ => eI 2
/-- how many cells the world has -/
def eN : Nat := 71
/-- the machine's own: array classes by kind, addresses by cell, the classes' tables -/
abbrev eB : Type := va_G × (Nat → ClassId) × (Nat → Nat)
def eF (ad : Nat → Nat) (σ : eSt) (k j : Nat) (d : Nat × Nat) : Value := match d.1 with
  | 0 => .int (σ.1 k j)
  | 1 => .long (σ.2 d.2)
  | _ => .ref (ad d.2)
def eA (ad : Nat → Nat) (σ : eSt) (k t : Nat) (g : Nat → Nat) : (Nat → Int32) ⊕ (Nat → Int64) ⊕ (Nat → UInt32) ⊕ (Nat → UInt64) ⊕ (Nat → Option Nat) := match t with
  | 3 => .inr (.inr (.inr (.inr (fun i => some (ad (g i))))))
  | _ => .inl (σ.1 k)
def eC (cy : Nat → ClassId) (ad : Nat → Nat) (σ : eSt) (k : Nat) : va_E := match eSh k with
  | .inl a => .inl (cy a.1, a.2.1, eA ad σ k a.1 a.2.2)
  | .inr o => .inr (o.1, (List.range o.2.1).map (fun j => eF ad σ k j (o.2.2 j)))
def eW (B : eB) (σ : eSt) : va_W := (List.range eN).map (fun k => (B.2.2 k, eC B.2.1 B.2.2 σ k))
def eT (cy : Nat → ClassId) : List (ClassId × FieldType) := [(cy 0, .byte), (cy 1, .int), (cy 2, .boolean), (cy 3, .object "EclipseSeats$Hill")]
/-- the cells that may change -/
def eAA (B : eB) (sz : Nat) (q : Nat) : Prop := (∃ k, k < eN ∧ q = B.2.2 k) ∨ sz ≤ q
/-- an abstract value as the machine has it -/
def eV (ad : Nat → Nat) (v : Value) : Value := match v with
  | .ref k => .ref (ad k)
  | w => w
theorem eV_cat (ad : Nat → Nat) (v : Value) : (eV ad v).category = v.category := by cases v <;> rfl
theorem eW_len (B : eB) (σ : eSt) : (eW B σ).length = eN := by simp [eW]
theorem eW_at (B : eB) (σ : eSt) {k : Nat} (h : k < eN) : (eW B σ)[k]? = some (B.2.2 k, eC B.2.1 B.2.2 σ k) := by
  simp [eW, h]
theorem eW_inv (B : eB) (σ : eSt) {k : Nat} {q : Nat × va_E} (h : (eW B σ)[k]? = some q) : k < eN ∧ q = (B.2.2 k, eC B.2.1 B.2.2 σ k) := by
  have hk : k < (eW B σ).length := (List.getElem?_eq_some_iff.mp h).1
  rw [eW_len] at hk
  rw [eW_at B σ hk] at h
  exact ⟨hk, (Option.some.inj h).symm⟩
/-- the addresses alone decide va_D -/
theorem eW_D {B : eB} {σ τ : eSt} {A : Nat → Prop} (h : va_D A (eW B σ)) : va_D A (eW B τ) := by
  refine ⟨fun i j p q hp hq e => ?_, fun k q hq => ?_⟩
  · obtain ⟨hi, rfl⟩ := eW_inv B τ hp
    obtain ⟨hj, rfl⟩ := eW_inv B τ hq
    exact h.1 i j _ _ (eW_at B σ hi) (eW_at B σ hj) e
  · obtain ⟨hi, rfl⟩ := eW_inv B τ hq
    exact h.2 k (B.2.2 k, eC B.2.1 B.2.2 σ k) (eW_at B σ hi)
theorem eW_A {B : eB} {σ : eSt} {sz q : Nat} : va_A (eW B σ) sz q ↔ eAA B sz q := by
  constructor
  · rintro (⟨k, e, h⟩ | h)
    · obtain ⟨hk, e⟩ := eW_inv B σ h
      exact Or.inl ⟨k, hk, congrArg Prod.fst e⟩
    · exact Or.inr h
  · rintro (⟨k, hk, rfl⟩ | h)
    · exact Or.inl ⟨k, _, eW_at B σ hk⟩
    · exact Or.inr h
theorem eW_Ae {B : eB} {σ : eSt} {sz : Nat} : va_A (eW B σ) sz = eAA B sz := funext fun _ => propext eW_A
/-- a cell is set: the store is set -/
theorem eW_set {B : eB} {σ τ : eSt} {k : Nat} {e : va_E} (he : e = eC B.2.1 B.2.2 τ k) (ho : ∀ j, j ≠ k → eC B.2.1 B.2.2 τ j = eC B.2.1 B.2.2 σ j) : (eW B σ).set k (B.2.2 k, e) = eW B τ := by
  apply List.ext_getElem?
  intro i
  by_cases hi : i < eN
  · rw [eW_at B τ hi, List.getElem?_set]
    by_cases hk : k = i
    · subst hk
      rw [if_pos rfl, if_pos (by rw [eW_len]; exact hi), he]
    · rw [if_neg hk, eW_at B σ hi, ho i (fun q => hk q.symm)]
  · rw [List.getElem?_eq_none (by rw [List.length_set, eW_len]; omega), List.getElem?_eq_none (by rw [eW_len]; omega)]
theorem eC_o {cy : Nat → ClassId} {ad : Nat → Nat} {σ : eSt} {k ci N : Nat} {fd : Nat → Nat × Nat} (h : eSh k = .inr (ci, N, fd)) : eC cy ad σ k = .inr (ci, (List.range N).map (fun j => eF ad σ k j (fd j))) := by
  unfold eC; rw [h]
theorem eC_a {cy : Nat → ClassId} {ad : Nat → Nat} {σ : eSt} {k t n : Nat} {g : Nat → Nat} (h : eSh k = .inl (t, n, g)) : eC cy ad σ k = .inl (cy t, n, eA ad σ k t g) := by
  unfold eC; rw [h]
theorem eC_off {cy : Nat → ClassId} {ad : Nat → Nat} {σ τ : eSt} {j : Nat} (h1 : τ.1 j = σ.1 j) (h2 : τ.2 = σ.2) : eC cy ad τ j = eC cy ad σ j := by
  unfold eC
  cases eSh j with
  | inl a =>
    simp only
    congr 3
    unfold eA
    split
    · rfl
    · rw [h1]
  | inr o =>
    simp only
    congr 2
    apply List.map_congr_left
    intro i _
    unfold eF
    split
    · rw [h1]
    · rw [h2]
    · rfl
theorem eU_off {σ : eSt} {k j i : Nat} {x : Int32} (h : i ≠ k) : (eU σ k j x).1 i = σ.1 i := by
  unfold eU; exact if_neg h
theorem eU_on {σ : eSt} {k j : Nat} {x : Int32} : (eU σ k j x).1 k = upd (σ.1 k) j x := by
  unfold eU; exact if_pos rfl
theorem eR_off {σ : eSt} {k i : Nat} {f : Nat → Int32} (h : i ≠ k) : (eR σ k f).1 i = σ.1 i := by
  unfold eR; exact if_neg h
theorem eR_on {σ : eSt} {k : Nat} {f : Nat → Int32} : (eR σ k f).1 k = f := by
  unfold eR; exact if_pos rfl
/-- an int array's cell written whole -/
theorem eW_row {B : eB} {σ : eSt} {k t n : Nat} {g : Nat → Nat} {f : Nat → Int32} (h : eSh k = .inl (t, n, g)) (ht : t ≠ 3) : (eW B σ).set k (B.2.2 k, .inl (B.2.1 t, n, .inl f)) = eW B (eR σ k f) := by
  refine eW_set ?_ (fun j hj => eC_off (eR_off hj) rfl)
  rw [eC_a h]
  have : eA B.2.2 (eR σ k f) k t g = .inl f := by
    unfold eA
    split
    · exact absurd rfl ht
    · rw [eR_on]
  rw [this]
theorem eR_eU {σ : eSt} {k j : Nat} {x : Int32} : eR σ k (upd (σ.1 k) j x) = eU σ k j x := rfl
/-- an object's int field written -/
theorem eW_fld {B : eB} {σ : eSt} {k ci N j : Nat} {fd : Nat → Nat × Nat} {x : Int32} (h : eSh k = .inr (ci, N, fd)) (hj : (fd j).1 = 0) : (eW B σ).set k (B.2.2 k, .inr (ci, ((List.range N).map (fun j => eF B.2.2 σ k j (fd j))).set j (.int x))) = eW B (eU σ k j x) := by
  refine eW_set ?_ (fun i hi => eC_off (eU_off hi) rfl)
  rw [eC_o h]
  congr 2
  apply List.ext_getElem?
  intro i
  rw [List.getElem?_set]
  by_cases hi : i < N
  · by_cases e : j = i
    · subst e
      simp only [List.length_map, List.length_range, hi, if_true, List.getElem?_map, List.getElem?_range hi, Option.map_some]
      unfold eF
      rw [hj]
      simp [eU_on, upd]
    · rw [if_neg e]
      simp only [List.getElem?_map, List.getElem?_range hi, Option.map_some]
      congr 1
      unfold eF
      split
      · rw [eU_on]
        simp [upd, Ne.symm e]
      · rfl
      · rfl
  · simp [hi]
    omega
/-- a long field written -/
theorem eW_fldL {B : eB} {σ : eSt} {k ci N j i : Nat} {fd : Nat → Nat × Nat} {x : Int64} (h : eSh k = .inr (ci, N, fd)) (hj : fd j = (1, i)) (hu : ∀ j', (fd j').1 = 1 → (fd j').2 = i → j' = j) (hv : ∀ k' ci' N' fd', eSh k' = .inr (ci', N', fd') → ∀ j', j' < N' → (fd' j').1 = 1 → k' = k) : (eW B σ).set k (B.2.2 k, .inr (ci, ((List.range N).map (fun j => eF B.2.2 σ k j (fd j))).set j (.long x))) = eW B (eL σ i x) := by
  refine eW_set ?_ (fun k' hk' => ?_)
  · rw [eC_o h]
    congr 2
    apply List.ext_getElem?
    intro a
    rw [List.getElem?_set]
    by_cases ha : a < N
    · by_cases e : j = a
      · subst e
        simp only [List.length_map, List.length_range, ha, if_true, List.getElem?_map, List.getElem?_range ha, Option.map_some]
        unfold eF
        rw [hj]
        simp [eL, vp_updL]
      · rw [if_neg e]
        simp only [List.getElem?_map, List.getElem?_range ha, Option.map_some]
        congr 1
        unfold eF
        split
        · rfl
        · rename_i h1
          have : (fd a).2 ≠ i := fun q => e (hu a h1 q).symm
          simp [eL, vp_updL, this]
        · rfl
    · simp [ha]
      omega
  · unfold eC
    cases hs : eSh k' with
    | inl a => rfl
    | inr o =>
      simp only
      congr 2
      apply List.map_congr_left
      intro a ha
      unfold eF
      split
      · rfl
      · rename_i h1
        exact absurd (hv k' o.1 o.2.1 o.2.2 hs a (List.mem_range.mp ha) h1) hk'
      · rfl
end
section
/-! THE ENGINE, 2: contexts, the judgement WW, a lemma an instruction (printed by wip/gen/mkengine.py) -/
abbrev eX : Type := Program × Launch × Env × Room × State × MethodId × Array Value × List Frame × Method × Code
abbrev xP (X : eX) := X.1
abbrev xLa (X : eX) := X.2.1
abbrev xE (X : eX) := X.2.2.1
abbrev xR (X : eX) := X.2.2.2.1
abbrev xS (X : eX) := X.2.2.2.2.1
abbrev xM (X : eX) := X.2.2.2.2.2.1
abbrev xArgs (X : eX) := X.2.2.2.2.2.2.1
abbrev xBel (X : eX) := X.2.2.2.2.2.2.2.1
abbrev xMeth (X : eX) := X.2.2.2.2.2.2.2.2.1
abbrev xC (X : eX) := X.2.2.2.2.2.2.2.2.2
def eWm (X : eX) (H : Heap) (locs : List Loc) (kc ks : Nat) (Q : State → Prop) (g : JFrame) : Prop :=
  W (xP X) (xLa X) (xE X) (xR X) (xS X) (xM X) (xArgs X) (xBel X) (xMeth X) (xC X) H locs kc ks Q g
def eLv (ad : Nat → Nat) (la : Array Slot) (nL : Nat) (ls : List (Option Value)) : Prop := la.size = nL ∧ lv_wf la ∧ ∀ (i : Nat) (v : Value), ls[i]? = some (some v) → la[i]? = some (.val (eV ad v))
/-- the String constants of the text, by their places: cells 1000 .., their bytes 1100 .. -/
def eLen : List Nat := [4, 4, 7, 3, 4]
def eByt : List (List Int32) := [[104, 105, 108, 108], [100, 97, 114, 107], [104, 101, 105, 103, 104, 116, 115], [111, 110, 101], [115, 101, 97, 116]]
def eS (ad : Nat → Nat) (A : Nat → Prop) (U : State) (H : Heap) : Prop :=
  vk_S 5 eLen eByt (fun i => ad (1000 + i)) (fun i => ad (1100 + i)) A U H ∧
  (vk_R "EclipseSeats$Text" 44 "hill" (ad 1000) U ∧ vk_R "EclipseSeats$Text" 54 "dark" (ad 1001) U ∧ vk_R "EclipseSeats$Text" 59 "heights" (ad 1002) U ∧ vk_R "EclipseSeats$Text" 64 "one" (ad 1003) U ∧ vk_R "EclipseSeats$Text" 69 "seat" (ad 1004) U) ∧
  va_Z "java/lang/String" "COMPACT_STRINGS" "Z" (.int 1) A U H ∧ va_Zq "jdk/internal/util/Preconditions" "SIOOBE_FORMATTER" "Ljava/util/function/BiFunction;" A U H ∧ va_Nw (.methodLinkNest "EclipseSeats$Hill" 64 yX6_darkFrom "EclipseSeats") U
def CX (X : eX) (B : eB) (A : Nat → Prop) (R : Room) (own : String) (cc : ByteArray) (nL kc ks : Nat) : Prop :=
  (xP X).tables.exec = Jvm.exec ∧ (xC X).code = cc ∧ (xC X).maxLocals = nL ∧ (xS X).vm.findClass own = some (xM X).cls ∧ (∀ w ∈ eTb, w.before (xArgs X) (xS X) = true) ∧ va_K B.1 vwCl (eT B.2.1) (xS X) ∧ (∀ q, (xS X).heap.size ≤ q → A q) ∧ eS B.2.2 A (xS X) (xS X).heap ∧ kc ≤ R.cells ∧ ks ≤ R.slots ∧ xR X = R
def WW (X : eX) (B : eB) (A : Nat → Prop) (nL kc ks : Nat) (Q : State → Prop) (σ : eSt) (pc : Nat) (ls : List (Option Value)) (st : List Value) : Prop :=
  ∀ (H : Heap) (locs : List Loc) (la : Array Slot), va_P B.1 vwCl (eW B σ) H → va_D A (eW B σ) → va_S A (xS X).heap H locs → eLv B.2.2 la nL ls → eWm X H locs kc ks Q (F0 (xM X) pc la (st.map (eV B.2.2)))
/-- fewer locals known -/
theorem ww_weak {X : eX} {B : eB} {A : Nat → Prop} {nL kc ks : Nat} {Q : State → Prop} {σ : eSt} {pc : Nat} {ls ls' : List (Option Value)} {st : List Value} (h : ∀ (i : Nat) (v : Value), ls'[i]? = some (some v) → ls[i]? = some (some v)) (k : WW X B A nL kc ks Q σ pc ls' st) : WW X B A nL kc ks Q σ pc ls st :=
  fun H locs la hP hD hS hl => k H locs la hP hD hS ⟨hl.1, hl.2.1, fun i v hi => hl.2.2 i v (h i v hi)⟩
section EI
variable {X : eX} {B : eB} {A : Nat → Prop} {R : Room} {own : String} {cc : ByteArray} {nL kc ks : Nat} {Q : State → Prop} {σ : eSt} {pc nx : Nat} {ls : List (Option Value)} {st : List Value}

theorem ww_iconst {n : Int} {v : Int32} (C : CX X B A R own cc nL kc ks) (d : decode cc pc = .ok (.iconst n, 1)) (hv : Int32.ofInt n = v) (hn : pc + 1 = nx) (k : WW X B A nL kc ks Q σ nx ls (.int v :: st)) : WW X B A nL kc ks Q σ pc ls st := by
  subst hn
  intro H locs la hP hD hS hl
  exact lv_iconst C.1 C.2.1 d hv (k H locs la hP hD hS hl)
theorem ww_bipush {n : Int} {v : Int32} (C : CX X B A R own cc nL kc ks) (d : decode cc pc = .ok (.bipush n, 2)) (hv : (Int8.ofInt n).toInt32 = v) (hn : pc + 2 = nx) (k : WW X B A nL kc ks Q σ nx ls (.int v :: st)) : WW X B A nL kc ks Q σ pc ls st := by
  subst hn
  intro H locs la hP hD hS hl
  exact lv_bipush C.1 C.2.1 d hv (k H locs la hP hD hS hl)
theorem ww_sipush {n : Int} {v : Int32} (C : CX X B A R own cc nL kc ks) (d : decode cc pc = .ok (.sipush n, 3)) (hv : (Int16.ofInt n).toInt32 = v) (hn : pc + 3 = nx) (k : WW X B A nL kc ks Q σ nx ls (.int v :: st)) : WW X B A nL kc ks Q σ pc ls st := by
  subst hn
  intro H locs la hP hD hS hl
  exact lv_sipush C.1 C.2.1 d hv (k H locs la hP hD hS hl)
theorem ww_lconst {n : Fin 2} {v : Int64} (C : CX X B A R own cc nL kc ks) (d : decode cc pc = .ok (.lconst n, 1)) (hv : Int64.ofNat (n : Nat) = v) (hn : pc + 1 = nx) (k : WW X B A nL kc ks Q σ nx ls (.long v :: st)) : WW X B A nL kc ks Q σ pc ls st := by
  subst hn
  intro H locs la hP hD hS hl
  exact lv_lconst C.1 C.2.1 d hv (k H locs la hP hD hS hl)
theorem ww_ldc {i : Nat} {v : Int32} (C : CX X B A R own cc nL kc ks) (d : decode cc pc = .ok (.ldc i, 2)) (hc : Cond.constant own i v ∈ eTb) (hn : pc + 2 = nx) (k : WW X B A nL kc ks Q σ nx ls (.int v :: st)) : WW X B A nL kc ks Q σ pc ls st := by
  subst hn
  intro H locs la hP hD hS hl
  exact lv_ldc C.1 C.2.1 C.2.2.2.1 (C.2.2.2.2.1 _ hc) d (k H locs la hP hD hS hl)
theorem ww_ldcw {i : Nat} {v : Int32} (C : CX X B A R own cc nL kc ks) (d : decode cc pc = .ok (.ldc_w i, 3)) (hc : Cond.constant own i v ∈ eTb) (hn : pc + 3 = nx) (k : WW X B A nL kc ks Q σ nx ls (.int v :: st)) : WW X B A nL kc ks Q σ pc ls st := by
  subst hn
  intro H locs la hP hD hS hl
  exact lv_ldcw C.1 C.2.1 C.2.2.2.1 (C.2.2.2.2.1 _ hc) d (k H locs la hP hD hS hl)
theorem ww_ldc2 {i : Nat} {v : Int64} (C : CX X B A R own cc nL kc ks) (d : decode cc pc = .ok (.ldc2_w i, 3)) (hc : Cond.constantLong own i v ∈ eTb) (hn : pc + 3 = nx) (k : WW X B A nL kc ks Q σ nx ls (.long v :: st)) : WW X B A nL kc ks Q σ pc ls st := by
  subst hn
  intro H locs la hP hD hS hl
  exact lv_ldc2 C.1 C.2.1 C.2.2.2.1 (C.2.2.2.2.1 _ hc) d (k H locs la hP hD hS hl)
theorem ww_iload_n {j : Fin 4} {i : Nat} {x : Int32} (C : CX X B A R own cc nL kc ks) (d : decode cc pc = .ok (.iload_n j, 1)) (hj : (j : Nat) = i) (h : ls[i]? = some (some (.int x))) (hn : pc + 1 = nx) (k : WW X B A nL kc ks Q σ nx ls (.int x :: st)) : WW X B A nL kc ks Q σ pc ls st := by
  subst hn
  intro H locs la hP hD hS hl
  exact lv_iload_n C.1 C.2.1 d hj (hl.2.2 _ _ h) (k H locs la hP hD hS hl)
theorem ww_iload {i : Nat} {x : Int32} (C : CX X B A R own cc nL kc ks) (d : decode cc pc = .ok (.iload i, 2)) (h : ls[i]? = some (some (.int x))) (hn : pc + 2 = nx) (k : WW X B A nL kc ks Q σ nx ls (.int x :: st)) : WW X B A nL kc ks Q σ pc ls st := by
  subst hn
  intro H locs la hP hD hS hl
  exact lv_iload C.1 C.2.1 d (hl.2.2 _ _ h) (k H locs la hP hD hS hl)
theorem ww_lload_n {j : Fin 4} {i : Nat} {x : Int64} (C : CX X B A R own cc nL kc ks) (d : decode cc pc = .ok (.lload_n j, 1)) (hj : (j : Nat) = i) (h : ls[i]? = some (some (.long x))) (hn : pc + 1 = nx) (k : WW X B A nL kc ks Q σ nx ls (.long x :: st)) : WW X B A nL kc ks Q σ pc ls st := by
  subst hn
  intro H locs la hP hD hS hl
  exact lv_lload_n C.1 C.2.1 d hj (hl.2.2 _ _ h) (k H locs la hP hD hS hl)
theorem ww_lload {i : Nat} {x : Int64} (C : CX X B A R own cc nL kc ks) (d : decode cc pc = .ok (.lload i, 2)) (h : ls[i]? = some (some (.long x))) (hn : pc + 2 = nx) (k : WW X B A nL kc ks Q σ nx ls (.long x :: st)) : WW X B A nL kc ks Q σ pc ls st := by
  subst hn
  intro H locs la hP hD hS hl
  exact lv_lload C.1 C.2.1 d (hl.2.2 _ _ h) (k H locs la hP hD hS hl)
theorem ww_aload_n {j : Fin 4} {i x : Nat} (C : CX X B A R own cc nL kc ks) (d : decode cc pc = .ok (.aload_n j, 1)) (hj : (j : Nat) = i) (h : ls[i]? = some (some (.ref x))) (hn : pc + 1 = nx) (k : WW X B A nL kc ks Q σ nx ls (.ref x :: st)) : WW X B A nL kc ks Q σ pc ls st := by
  subst hn
  intro H locs la hP hD hS hl
  exact lv_aload_n C.1 C.2.1 d hj (hl.2.2 _ _ h) (k H locs la hP hD hS hl)
theorem ww_aload {i x : Nat} (C : CX X B A R own cc nL kc ks) (d : decode cc pc = .ok (.aload i, 2)) (h : ls[i]? = some (some (.ref x))) (hn : pc + 2 = nx) (k : WW X B A nL kc ks Q σ nx ls (.ref x :: st)) : WW X B A nL kc ks Q σ pc ls st := by
  subst hn
  intro H locs la hP hD hS hl
  exact lv_aload C.1 C.2.1 d (hl.2.2 _ _ h) (k H locs la hP hD hS hl)
theorem ww_iadd {x y : Int32} (C : CX X B A R own cc nL kc ks) (d : decode cc pc = .ok (.iadd, 1)) (hn : pc + 1 = nx) (k : WW X B A nL kc ks Q σ nx ls (.int (x + y) :: st)) : WW X B A nL kc ks Q σ pc ls (.int y :: .int x :: st) := by
  subst hn
  intro H locs la hP hD hS hl
  exact lv_iadd C.1 C.2.1 d (k H locs la hP hD hS hl)
theorem ww_isub {x y : Int32} (C : CX X B A R own cc nL kc ks) (d : decode cc pc = .ok (.isub, 1)) (hn : pc + 1 = nx) (k : WW X B A nL kc ks Q σ nx ls (.int (x - y) :: st)) : WW X B A nL kc ks Q σ pc ls (.int y :: .int x :: st) := by
  subst hn
  intro H locs la hP hD hS hl
  exact lv_isub C.1 C.2.1 d (k H locs la hP hD hS hl)
theorem ww_imul {x y : Int32} (C : CX X B A R own cc nL kc ks) (d : decode cc pc = .ok (.imul, 1)) (hn : pc + 1 = nx) (k : WW X B A nL kc ks Q σ nx ls (.int (x * y) :: st)) : WW X B A nL kc ks Q σ pc ls (.int y :: .int x :: st) := by
  subst hn
  intro H locs la hP hD hS hl
  exact lv_imul C.1 C.2.1 d (k H locs la hP hD hS hl)
theorem ww_iand {x y : Int32} (C : CX X B A R own cc nL kc ks) (d : decode cc pc = .ok (.iand, 1)) (hn : pc + 1 = nx) (k : WW X B A nL kc ks Q σ nx ls (.int (x &&& y) :: st)) : WW X B A nL kc ks Q σ pc ls (.int y :: .int x :: st) := by
  subst hn
  intro H locs la hP hD hS hl
  exact lv_iand C.1 C.2.1 d (k H locs la hP hD hS hl)
theorem ww_ior {x y : Int32} (C : CX X B A R own cc nL kc ks) (d : decode cc pc = .ok (.ior, 1)) (hn : pc + 1 = nx) (k : WW X B A nL kc ks Q σ nx ls (.int (x ||| y) :: st)) : WW X B A nL kc ks Q σ pc ls (.int y :: .int x :: st) := by
  subst hn
  intro H locs la hP hD hS hl
  exact lv_ior C.1 C.2.1 d (k H locs la hP hD hS hl)
theorem ww_ishl {x y : Int32} (C : CX X B A R own cc nL kc ks) (d : decode cc pc = .ok (.ishl, 1)) (hn : pc + 1 = nx) (k : WW X B A nL kc ks Q σ nx ls (.int (x <<< (y &&& 31)) :: st)) : WW X B A nL kc ks Q σ pc ls (.int y :: .int x :: st) := by
  subst hn
  intro H locs la hP hD hS hl
  exact lv_ishl C.1 C.2.1 d (k H locs la hP hD hS hl)
theorem ww_ishr {x y : Int32} (C : CX X B A R own cc nL kc ks) (d : decode cc pc = .ok (.ishr, 1)) (hn : pc + 1 = nx) (k : WW X B A nL kc ks Q σ nx ls (.int (x >>> (y &&& 31)) :: st)) : WW X B A nL kc ks Q σ pc ls (.int y :: .int x :: st) := by
  subst hn
  intro H locs la hP hD hS hl
  exact lv_ishr C.1 C.2.1 d (k H locs la hP hD hS hl)
theorem ww_idiv {x y : Int32} (C : CX X B A R own cc nL kc ks) (d : decode cc pc = .ok (.idiv, 1)) (hne : ¬ y = 0) (hn : pc + 1 = nx) (k : WW X B A nL kc ks Q σ nx ls (.int (x / y) :: st)) : WW X B A nL kc ks Q σ pc ls (.int y :: .int x :: st) := by
  subst hn
  intro H locs la hP hD hS hl
  exact lv_idiv C.1 C.2.1 d hne (k H locs la hP hD hS hl)
theorem ww_irem {x y : Int32} (C : CX X B A R own cc nL kc ks) (d : decode cc pc = .ok (.irem, 1)) (hne : ¬ y = 0) (hn : pc + 1 = nx) (k : WW X B A nL kc ks Q σ nx ls (.int (x - x / y * y) :: st)) : WW X B A nL kc ks Q σ pc ls (.int y :: .int x :: st) := by
  subst hn
  intro H locs la hP hD hS hl
  exact lv_irem C.1 C.2.1 d hne (k H locs la hP hD hS hl)
theorem ww_ladd {x y : Int64} (C : CX X B A R own cc nL kc ks) (d : decode cc pc = .ok (.ladd, 1)) (hn : pc + 1 = nx) (k : WW X B A nL kc ks Q σ nx ls (.long (x + y) :: st)) : WW X B A nL kc ks Q σ pc ls (.long y :: .long x :: st) := by
  subst hn
  intro H locs la hP hD hS hl
  exact lv_ladd C.1 C.2.1 d (k H locs la hP hD hS hl)
theorem ww_lmul {x y : Int64} (C : CX X B A R own cc nL kc ks) (d : decode cc pc = .ok (.lmul, 1)) (hn : pc + 1 = nx) (k : WW X B A nL kc ks Q σ nx ls (.long (x * y) :: st)) : WW X B A nL kc ks Q σ pc ls (.long y :: .long x :: st) := by
  subst hn
  intro H locs la hP hD hS hl
  exact lv_lmul C.1 C.2.1 d (k H locs la hP hD hS hl)
theorem ww_lsub {x y : Int64} (C : CX X B A R own cc nL kc ks) (d : decode cc pc = .ok (.lsub, 1)) (hn : pc + 1 = nx) (k : WW X B A nL kc ks Q σ nx ls (.long (x - y) :: st)) : WW X B A nL kc ks Q σ pc ls (.long y :: .long x :: st) := by
  subst hn
  intro H locs la hP hD hS hl
  exact lv_lsub C.1 C.2.1 d (k H locs la hP hD hS hl)
theorem ww_ldiv {x y : Int64} (C : CX X B A R own cc nL kc ks) (d : decode cc pc = .ok (.ldiv, 1)) (hne : ¬ y = 0) (hn : pc + 1 = nx) (k : WW X B A nL kc ks Q σ nx ls (.long (x / y) :: st)) : WW X B A nL kc ks Q σ pc ls (.long y :: .long x :: st) := by
  subst hn
  intro H locs la hP hD hS hl
  exact lv_ldiv C.1 C.2.1 d hne (k H locs la hP hD hS hl)
theorem ww_lrem {x y : Int64} (C : CX X B A R own cc nL kc ks) (d : decode cc pc = .ok (.lrem, 1)) (hne : ¬ y = 0) (hn : pc + 1 = nx) (k : WW X B A nL kc ks Q σ nx ls (.long (x - x / y * y) :: st)) : WW X B A nL kc ks Q σ pc ls (.long y :: .long x :: st) := by
  subst hn
  intro H locs la hP hD hS hl
  exact lv_lrem C.1 C.2.1 d hne (k H locs la hP hD hS hl)
theorem ww_i2l {x : Int32} (C : CX X B A R own cc nL kc ks) (d : decode cc pc = .ok (.i2l, 1)) (hn : pc + 1 = nx) (k : WW X B A nL kc ks Q σ nx ls (.long x.toInt64 :: st)) : WW X B A nL kc ks Q σ pc ls (.int x :: st) := by
  subst hn
  intro H locs la hP hD hS hl
  exact lv_i2l C.1 C.2.1 d rfl (k H locs la hP hD hS hl)
theorem ww_l2i {x : Int64} (C : CX X B A R own cc nL kc ks) (d : decode cc pc = .ok (.l2i, 1)) (hn : pc + 1 = nx) (k : WW X B A nL kc ks Q σ nx ls (.int x.toInt32 :: st)) : WW X B A nL kc ks Q σ pc ls (.long x :: st) := by
  subst hn
  intro H locs la hP hD hS hl
  exact lv_l2i C.1 C.2.1 d rfl (k H locs la hP hD hS hl)
theorem ww_i2b {x : Int32} (C : CX X B A R own cc nL kc ks) (d : decode cc pc = .ok (.i2b, 1)) (hn : pc + 1 = nx) (k : WW X B A nL kc ks Q σ nx ls (.int x.toInt8.toInt32 :: st)) : WW X B A nL kc ks Q σ pc ls (.int x :: st) := by
  subst hn
  intro H locs la hP hD hS hl
  exact lv_i2b C.1 C.2.1 d rfl (k H locs la hP hD hS hl)
theorem ww_i2c {x : Int32} (C : CX X B A R own cc nL kc ks) (d : decode cc pc = .ok (.i2c, 1)) (hn : pc + 1 = nx) (k : WW X B A nL kc ks Q σ nx ls (.int (x.toUInt32 % 65536).toInt32 :: st)) : WW X B A nL kc ks Q σ pc ls (.int x :: st) := by
  subst hn
  intro H locs la hP hD hS hl
  exact lv_i2c C.1 C.2.1 d rfl (k H locs la hP hD hS hl)
theorem ww_lcmp {x y : Int64} (C : CX X B A R own cc nL kc ks) (d : decode cc pc = .ok (.lcmp, 1)) (hn : pc + 1 = nx) (k : WW X B A nL kc ks Q σ nx ls (.int (lg_cmp x y) :: st)) : WW X B A nL kc ks Q σ pc ls (.long y :: .long x :: st) := by
  subst hn
  intro H locs la hP hD hS hl
  exact W.lcmp C.1 C.2.1 d (k H locs la hP hD hS hl)
theorem ww_dup {v : Value} (C : CX X B A R own cc nL kc ks) (d : decode cc pc = .ok (.dup, 1)) (hc : v.category = 1) (hn : pc + 1 = nx) (k : WW X B A nL kc ks Q σ nx ls (v :: v :: st)) : WW X B A nL kc ks Q σ pc ls (v :: st) := by
  subst hn
  intro H locs la hP hD hS hl
  exact lv_dup C.1 C.2.1 d ((eV_cat _ v).trans hc) (k H locs la hP hD hS hl)
theorem ww_pop {v : Value} (C : CX X B A R own cc nL kc ks) (d : decode cc pc = .ok (.pop, 1)) (hc : v.category = 1) (hn : pc + 1 = nx) (k : WW X B A nL kc ks Q σ nx ls st) : WW X B A nL kc ks Q σ pc ls (v :: st) := by
  subst hn
  intro H locs la hP hD hS hl
  exact lv_pop C.1 C.2.1 d ((eV_cat _ v).trans hc) (k H locs la hP hD hS hl)
theorem ww_dup2 {v w : Value} (C : CX X B A R own cc nL kc ks) (d : decode cc pc = .ok (.dup2, 1)) (hc : v.category = 1) (hc2 : w.category = 1) (hn : pc + 1 = nx) (k : WW X B A nL kc ks Q σ nx ls (v :: w :: v :: w :: st)) : WW X B A nL kc ks Q σ pc ls (v :: w :: st) := by
  subst hn
  intro H locs la hP hD hS hl
  exact lv_dup2_11 C.1 C.2.1 d ((eV_cat _ v).trans hc) ((eV_cat _ w).trans hc2) (k H locs la hP hD hS hl)
theorem ww_icmp_eq {x y : Int32} {off : Int} {tgt : Nat} (C : CX X B A R own cc nL kc ks) (d : decode cc pc = .ok (.if_icmp .eq off, 3)) (ht : (pc : Int) + off = (tgt : Int)) (hn : pc + 3 = nx) (kt : x = y → WW X B A nL kc ks Q σ tgt ls st) (kf : ¬ x = y → WW X B A nL kc ks Q σ nx ls st) : WW X B A nL kc ks Q σ pc ls (.int y :: .int x :: st) := by
  subst hn
  intro H locs la hP hD hS hl
  exact lv_icmp_eq C.1 C.2.1 d ht (fun q => kt q H locs la hP hD hS hl) (fun q => kf q H locs la hP hD hS hl)
theorem ww_if_eq {x : Int32} {off : Int} {tgt : Nat} (C : CX X B A R own cc nL kc ks) (d : decode cc pc = .ok (.ifCond .eq off, 3)) (ht : (pc : Int) + off = (tgt : Int)) (hn : pc + 3 = nx) (kt : x = 0 → WW X B A nL kc ks Q σ tgt ls st) (kf : ¬ x = 0 → WW X B A nL kc ks Q σ nx ls st) : WW X B A nL kc ks Q σ pc ls (.int x :: st) := by
  subst hn
  intro H locs la hP hD hS hl
  exact lv_if_eq C.1 C.2.1 d ht (fun q => kt q H locs la hP hD hS hl) (fun q => kf q H locs la hP hD hS hl)
theorem ww_icmp_ne {x y : Int32} {off : Int} {tgt : Nat} (C : CX X B A R own cc nL kc ks) (d : decode cc pc = .ok (.if_icmp .ne off, 3)) (ht : (pc : Int) + off = (tgt : Int)) (hn : pc + 3 = nx) (kt : ¬ x = y → WW X B A nL kc ks Q σ tgt ls st) (kf : x = y → WW X B A nL kc ks Q σ nx ls st) : WW X B A nL kc ks Q σ pc ls (.int y :: .int x :: st) := by
  subst hn
  intro H locs la hP hD hS hl
  exact lv_icmp_ne C.1 C.2.1 d ht (fun q => kt q H locs la hP hD hS hl) (fun q => kf q H locs la hP hD hS hl)
theorem ww_if_ne {x : Int32} {off : Int} {tgt : Nat} (C : CX X B A R own cc nL kc ks) (d : decode cc pc = .ok (.ifCond .ne off, 3)) (ht : (pc : Int) + off = (tgt : Int)) (hn : pc + 3 = nx) (kt : ¬ x = 0 → WW X B A nL kc ks Q σ tgt ls st) (kf : x = 0 → WW X B A nL kc ks Q σ nx ls st) : WW X B A nL kc ks Q σ pc ls (.int x :: st) := by
  subst hn
  intro H locs la hP hD hS hl
  exact lv_if_ne C.1 C.2.1 d ht (fun q => kt q H locs la hP hD hS hl) (fun q => kf q H locs la hP hD hS hl)
theorem ww_icmp_lt {x y : Int32} {off : Int} {tgt : Nat} (C : CX X B A R own cc nL kc ks) (d : decode cc pc = .ok (.if_icmp .lt off, 3)) (ht : (pc : Int) + off = (tgt : Int)) (hn : pc + 3 = nx) (kt : x < y → WW X B A nL kc ks Q σ tgt ls st) (kf : ¬ x < y → WW X B A nL kc ks Q σ nx ls st) : WW X B A nL kc ks Q σ pc ls (.int y :: .int x :: st) := by
  subst hn
  intro H locs la hP hD hS hl
  exact lv_icmp_lt C.1 C.2.1 d ht (fun q => kt q H locs la hP hD hS hl) (fun q => kf q H locs la hP hD hS hl)
theorem ww_if_lt {x : Int32} {off : Int} {tgt : Nat} (C : CX X B A R own cc nL kc ks) (d : decode cc pc = .ok (.ifCond .lt off, 3)) (ht : (pc : Int) + off = (tgt : Int)) (hn : pc + 3 = nx) (kt : x < 0 → WW X B A nL kc ks Q σ tgt ls st) (kf : ¬ x < 0 → WW X B A nL kc ks Q σ nx ls st) : WW X B A nL kc ks Q σ pc ls (.int x :: st) := by
  subst hn
  intro H locs la hP hD hS hl
  exact lv_if_lt C.1 C.2.1 d ht (fun q => kt q H locs la hP hD hS hl) (fun q => kf q H locs la hP hD hS hl)
theorem ww_icmp_ge {x y : Int32} {off : Int} {tgt : Nat} (C : CX X B A R own cc nL kc ks) (d : decode cc pc = .ok (.if_icmp .ge off, 3)) (ht : (pc : Int) + off = (tgt : Int)) (hn : pc + 3 = nx) (kt : y ≤ x → WW X B A nL kc ks Q σ tgt ls st) (kf : ¬ y ≤ x → WW X B A nL kc ks Q σ nx ls st) : WW X B A nL kc ks Q σ pc ls (.int y :: .int x :: st) := by
  subst hn
  intro H locs la hP hD hS hl
  exact lv_icmp_ge C.1 C.2.1 d ht (fun q => kt q H locs la hP hD hS hl) (fun q => kf q H locs la hP hD hS hl)
theorem ww_if_ge {x : Int32} {off : Int} {tgt : Nat} (C : CX X B A R own cc nL kc ks) (d : decode cc pc = .ok (.ifCond .ge off, 3)) (ht : (pc : Int) + off = (tgt : Int)) (hn : pc + 3 = nx) (kt : 0 ≤ x → WW X B A nL kc ks Q σ tgt ls st) (kf : ¬ 0 ≤ x → WW X B A nL kc ks Q σ nx ls st) : WW X B A nL kc ks Q σ pc ls (.int x :: st) := by
  subst hn
  intro H locs la hP hD hS hl
  exact lv_if_ge C.1 C.2.1 d ht (fun q => kt q H locs la hP hD hS hl) (fun q => kf q H locs la hP hD hS hl)
theorem ww_icmp_gt {x y : Int32} {off : Int} {tgt : Nat} (C : CX X B A R own cc nL kc ks) (d : decode cc pc = .ok (.if_icmp .gt off, 3)) (ht : (pc : Int) + off = (tgt : Int)) (hn : pc + 3 = nx) (kt : y < x → WW X B A nL kc ks Q σ tgt ls st) (kf : ¬ y < x → WW X B A nL kc ks Q σ nx ls st) : WW X B A nL kc ks Q σ pc ls (.int y :: .int x :: st) := by
  subst hn
  intro H locs la hP hD hS hl
  exact lv_icmp_gt C.1 C.2.1 d ht (fun q => kt q H locs la hP hD hS hl) (fun q => kf q H locs la hP hD hS hl)
theorem ww_if_gt {x : Int32} {off : Int} {tgt : Nat} (C : CX X B A R own cc nL kc ks) (d : decode cc pc = .ok (.ifCond .gt off, 3)) (ht : (pc : Int) + off = (tgt : Int)) (hn : pc + 3 = nx) (kt : 0 < x → WW X B A nL kc ks Q σ tgt ls st) (kf : ¬ 0 < x → WW X B A nL kc ks Q σ nx ls st) : WW X B A nL kc ks Q σ pc ls (.int x :: st) := by
  subst hn
  intro H locs la hP hD hS hl
  exact lv_if_gt C.1 C.2.1 d ht (fun q => kt q H locs la hP hD hS hl) (fun q => kf q H locs la hP hD hS hl)
theorem ww_icmp_le {x y : Int32} {off : Int} {tgt : Nat} (C : CX X B A R own cc nL kc ks) (d : decode cc pc = .ok (.if_icmp .le off, 3)) (ht : (pc : Int) + off = (tgt : Int)) (hn : pc + 3 = nx) (kt : x ≤ y → WW X B A nL kc ks Q σ tgt ls st) (kf : ¬ x ≤ y → WW X B A nL kc ks Q σ nx ls st) : WW X B A nL kc ks Q σ pc ls (.int y :: .int x :: st) := by
  subst hn
  intro H locs la hP hD hS hl
  exact lv_icmp_le C.1 C.2.1 d ht (fun q => kt q H locs la hP hD hS hl) (fun q => kf q H locs la hP hD hS hl)
theorem ww_if_le {x : Int32} {off : Int} {tgt : Nat} (C : CX X B A R own cc nL kc ks) (d : decode cc pc = .ok (.ifCond .le off, 3)) (ht : (pc : Int) + off = (tgt : Int)) (hn : pc + 3 = nx) (kt : x ≤ 0 → WW X B A nL kc ks Q σ tgt ls st) (kf : ¬ x ≤ 0 → WW X B A nL kc ks Q σ nx ls st) : WW X B A nL kc ks Q σ pc ls (.int x :: st) := by
  subst hn
  intro H locs la hP hD hS hl
  exact lv_if_le C.1 C.2.1 d ht (fun q => kt q H locs la hP hD hS hl) (fun q => kf q H locs la hP hD hS hl)
theorem ww_goto {off : Int} (C : CX X B A R own cc nL kc ks) (d : decode cc pc = .ok (.goto off, 3)) (ht : (pc : Int) + off = (nx : Int)) (k : WW X B A nL kc ks Q σ nx ls st) : WW X B A nL kc ks Q σ pc ls st := by
  intro H locs la hP hD hS hl
  exact lv_goto C.1 C.2.1 d ht (k H locs la hP hD hS hl)
theorem ww_tableOut {dflt lo hi : Int} {offs : Array Int} {len : Nat} {x : Int32} (C : CX X B A R own cc nL kc ks) (d : decode cc pc = .ok (.tableswitch dflt lo hi offs, len)) (h : x.toInt < lo ∨ hi < x.toInt) (ht : (pc : Int) + dflt = (nx : Int)) (k : WW X B A nL kc ks Q σ nx ls st) : WW X B A nL kc ks Q σ pc ls (.int x :: st) := by
  intro H locs la hP hD hS hl
  exact lv_tableOut C.1 C.2.1 d h ht (k H locs la hP hD hS hl)
theorem ww_tableIn {dflt lo hi : Int} {offs : Array Int} {len : Nat} {x : Int32} {off : Int} (C : CX X B A R own cc nL kc ks) (d : decode cc pc = .ok (.tableswitch dflt lo hi offs, len)) (h1 : ¬ x.toInt < lo) (h2 : ¬ hi < x.toInt) (ho : offs[(x.toInt - lo).toNat]? = some off) (ht : (pc : Int) + off = (nx : Int)) (k : WW X B A nL kc ks Q σ nx ls st) : WW X B A nL kc ks Q σ pc ls (.int x :: st) := by
  intro H locs la hP hD hS hl
  exact lv_tableIn C.1 C.2.1 d h1 h2 ho ht (k H locs la hP hD hS hl)
theorem ww_lookup {dflt : Int} {ps : Array (Int × Int)} {len : Nat} {x : Int32} {off : Int} (C : CX X B A R own cc nL kc ks) (d : decode cc pc = .ok (.lookupswitch dflt ps, len)) (hp : (ps.toList.zip (ps.toList.drop 1)).all (fun (a, next) => a.1 < next.1) = true) (ho : Op.lookupswitch.offset ps.toList dflt x.toInt = off) (ht : (pc : Int) + off = (nx : Int)) (k : WW X B A nL kc ks Q σ nx ls st) : WW X B A nL kc ks Q σ pc ls (.int x :: st) := by
  intro H locs la hP hD hS hl
  exact lv_lookup C.1 C.2.1 d hp ho ht (k H locs la hP hD hS hl)

/-- a store of a value of one slot, into the list of locals -/
theorem eLv_has {ad : Nat → Nat} {la : Array Slot} {nL : Nat} {ls : List (Option Value)} (h : eLv ad la nL ls) : lv_has la nL ((List.range ls.length).filterMap (fun i => (ls[i]?.join).map (fun v => (i, eV ad v)))) := by
  refine ⟨h.1, h.2.1, fun q hq => ?_⟩
  obtain ⟨i, -, hi⟩ := List.mem_filterMap.mp hq
  cases hj : ls[i]? with
  | none => rw [hj] at hi; simp at hi
  | some o =>
    cases o with
    | none => rw [hj] at hi; simp at hi
    | some v =>
      rw [hj] at hi
      simp at hi
      subst hi
      exact h.2.2 i v hj
/-- is it no value of two slots -/
def eOne (o : Option Value) : Bool := match o with
  | some v => v.category == 1
  | none => true
theorem eLv_mem {ad : Nat → Nat} {ls : List (Option Value)} {i : Nat} {v : Value} (h : ls[i]? = some (some v)) : (i, eV ad v) ∈ (List.range ls.length).filterMap (fun i => (ls[i]?.join).map (fun v => (i, eV ad v))) := by
  refine List.mem_filterMap.mpr ⟨i, List.mem_range.mpr (List.getElem?_eq_some_iff.mp h).1, ?_⟩
  rw [h]; rfl
theorem eLv_set1 {ad : Nat → Nat} {la' : Array Slot} {nL : Nat} {ls : List (Option Value)} {i : Nat} {v : Value} (hp : ∀ j, j + 1 = i → eOne (ls[j]?.join) = true) (h : lv_has la' nL ((i, eV ad v) :: ((List.range ls.length).filterMap (fun i => (ls[i]?.join).map (fun v => (i, eV ad v)))).filter (fun q => !(q.1 == i) && !(q.1 + 1 == i && q.2.category == 2)))) : eLv ad la' nL (ls.set i (some v)) := by
  refine ⟨h.1, h.2.1, fun j w hj => ?_⟩
  rw [List.getElem?_set] at hj
  by_cases e : i = j
  · subst e
    rw [if_pos rfl] at hj
    split at hj
    · have : v = w := by simpa using hj
      subst this
      exact h.2.2 _ List.mem_cons_self
    · cases hj
  · rw [if_neg e] at hj
    refine h.2.2 _ (List.mem_cons_of_mem _ (List.mem_filter.mpr ⟨eLv_mem hj, ?_⟩))
    have h1 : ¬ (j = i) := fun q => e q.symm
    by_cases e2 : j + 1 = i
    · have hw := hp j e2
      rw [hj] at hw
      have hw2 : w.category = 1 := eq_of_beq hw
      simp [h1, eV_cat, hw2]
    · simp [h1, e2]
theorem eLv_set2 {ad : Nat → Nat} {la' : Array Slot} {nL : Nat} {ls : List (Option Value)} {i : Nat} {v : Value} (hp : ∀ j, j + 1 = i → eOne (ls[j]?.join) = true) (h : lv_has la' nL ((i, eV ad v) :: ((List.range ls.length).filterMap (fun i => (ls[i]?.join).map (fun v => (i, eV ad v)))).filter (fun q => !(q.1 == i) && (!(q.1 == i + 1) && !(q.1 + 1 == i && q.2.category == 2))))) : eLv ad la' nL ((ls.set i (some v)).set (i + 1) none) := by
  refine ⟨h.1, h.2.1, fun j w hj => ?_⟩
  rw [List.getElem?_set] at hj
  by_cases e0 : i + 1 = j
  · rw [if_pos e0] at hj
    split at hj
    · simp at hj
    · cases hj
  rw [if_neg e0, List.getElem?_set] at hj
  by_cases e : i = j
  · subst e
    rw [if_pos rfl] at hj
    split at hj
    · have : v = w := by simpa using hj
      subst this
      exact h.2.2 _ List.mem_cons_self
    · cases hj
  · rw [if_neg e] at hj
    refine h.2.2 _ (List.mem_cons_of_mem _ (List.mem_filter.mpr ⟨eLv_mem hj, ?_⟩))
    have h1 : ¬ (j = i) := fun q => e q.symm
    have h2 : ¬ (j = i + 1) := fun q => e0 q.symm
    by_cases e2 : j + 1 = i
    · have hw := hp j e2
      rw [hj] at hw
      have hw2 : w.category = 1 := eq_of_beq hw
      simp [h1, h2, eV_cat, hw2]
    · simp [h1, h2, e2]
def eIst (cc : ByteArray) (pc nx i : Nat) : Prop := (∃ j : Fin 4, (j : Nat) = i ∧ decode cc pc = .ok (.istore_n j, 1) ∧ pc + 1 = nx) ∨ (decode cc pc = .ok (.istore i, 2) ∧ pc + 2 = nx)
def eLst (cc : ByteArray) (pc nx i : Nat) : Prop := (∃ j : Fin 4, (j : Nat) = i ∧ decode cc pc = .ok (.lstore_n j, 1) ∧ pc + 1 = nx) ∨ (decode cc pc = .ok (.lstore i, 2) ∧ pc + 2 = nx)
theorem eIst_n {j : Fin 4} {i : Nat} (d : decode cc pc = .ok (.istore_n j, 1)) (hj : (j : Nat) = i) (hn : pc + 1 = nx) : eIst cc pc nx i := Or.inl ⟨j, hj, d, hn⟩
theorem eIst_w {i : Nat} (d : decode cc pc = .ok (.istore i, 2)) (hn : pc + 2 = nx) : eIst cc pc nx i := Or.inr ⟨d, hn⟩
theorem eLst_n {j : Fin 4} {i : Nat} (d : decode cc pc = .ok (.lstore_n j, 1)) (hj : (j : Nat) = i) (hn : pc + 1 = nx) : eLst cc pc nx i := Or.inl ⟨j, hj, d, hn⟩
theorem eLst_w {i : Nat} (d : decode cc pc = .ok (.lstore i, 2)) (hn : pc + 2 = nx) : eLst cc pc nx i := Or.inr ⟨d, hn⟩
theorem ww_istore {i : Nat} {x : Int32} (C : CX X B A R own cc nL kc ks) (d : eIst cc pc nx i) (hi : i < nL) (hp : ∀ j, j + 1 = i → eOne (ls[j]?.join) = true) (k : WW X B A nL kc ks Q σ nx (ls.set i (some (.int x))) st) : WW X B A nL kc ks Q σ pc ls (.int x :: st) := by
  intro H locs la hP hD hS hl
  rcases d with ⟨j, hj, d, rfl⟩ | ⟨d, rfl⟩
  · exact lv_istore_n C.1 C.2.1 d hj (eLv_has hl) hi rfl (fun la' h' => k H locs la' hP hD hS (eLv_set1 (v := .int x) hp h'))
  · exact lv_istore C.1 C.2.1 d (eLv_has hl) hi rfl (fun la' h' => k H locs la' hP hD hS (eLv_set1 (v := .int x) hp h'))
theorem ww_lstore {i : Nat} {x : Int64} (C : CX X B A R own cc nL kc ks) (d : eLst cc pc nx i) (hi : i + 1 < nL) (hp : ∀ j, j + 1 = i → eOne (ls[j]?.join) = true) (k : WW X B A nL kc ks Q σ nx ((ls.set i (some (.long x))).set (i + 1) none) st) : WW X B A nL kc ks Q σ pc ls (.long x :: st) := by
  intro H locs la hP hD hS hl
  rcases d with ⟨j, hj, d, rfl⟩ | ⟨d, rfl⟩
  · exact lv_lstore_n C.1 C.2.1 d hj (eLv_has hl) hi rfl (fun la' h' => k H locs la' hP hD hS (eLv_set2 (v := .long x) hp h'))
  · exact lv_lstore C.1 C.2.1 d (eLv_has hl) hi rfl (fun la' h' => k H locs la' hP hD hS (eLv_set2 (v := .long x) hp h'))
theorem ww_iinc {i : Nat} {n : Int} {x v : Int32} (C : CX X B A R own cc nL kc ks) (d : decode cc pc = .ok (.iinc i n, 3)) (hn : pc + 3 = nx) (hx : ls[i]? = some (some (.int x))) (hv : Int32.ofInt n = v) (hi : i < nL) (hp : ∀ j, j + 1 = i → eOne (ls[j]?.join) = true) (k : WW X B A nL kc ks Q σ nx (ls.set i (some (.int (x + v)))) st) : WW X B A nL kc ks Q σ pc ls st := by
  subst hn
  intro H locs la hP hD hS hl
  obtain ⟨k0, hk0⟩ := List.getElem?_of_mem (eLv_mem (ad := B.2.2) hx)
  exact lv_iinc C.1 C.2.1 d (eLv_has hl) hk0 (by rw [hv]) hi rfl (fun la' h' => k H locs la' hP hD hS (eLv_set1 (v := .int (x + v)) hp h'))

theorem ww_ist0 {x0 : Option Value} {r : List (Option Value)} {x : Int32} (C : CX X B A R own cc nL kc ks) (d : eIst cc pc nx 0) (hi : 0 < nL) (k : WW X B A nL kc ks Q σ nx (some (.int x) :: r) st) : WW X B A nL kc ks Q σ pc (x0 :: r) (.int x :: st) := ww_istore C d hi (fun j hj => by cases hj) k
theorem ww_iinc0 {r : List (Option Value)} {n : Int} {x v : Int32} (C : CX X B A R own cc nL kc ks) (d : decode cc pc = .ok (.iinc 0 n, 3)) (hn : pc + 3 = nx) (hv : Int32.ofInt n = v) (hi : 0 < nL) (k : WW X B A nL kc ks Q σ nx (some (.int (x + v)) :: r) st) : WW X B A nL kc ks Q σ pc (some (.int x) :: r) st := ww_iinc C d hn rfl hv hi (fun j hj => by cases hj) k
theorem ww_lst0 {x0 y : Option Value} {r : List (Option Value)} {x : Int64} (C : CX X B A R own cc nL kc ks) (d : eLst cc pc nx 0) (hi : 0 + 1 < nL) (k : WW X B A nL kc ks Q σ nx (some (.long x) :: none :: r) st) : WW X B A nL kc ks Q σ pc (x0 :: y :: r) (.long x :: st) := ww_lstore C d hi (fun j hj => by cases hj) k
theorem ww_ist1 {x0 x1 : Option Value} {r : List (Option Value)} {x : Int32} (C : CX X B A R own cc nL kc ks) (d : eIst cc pc nx 1) (hi : 1 < nL) (ho : eOne x0 = true) (k : WW X B A nL kc ks Q σ nx (x0 :: some (.int x) :: r) st) : WW X B A nL kc ks Q σ pc (x0 :: x1 :: r) (.int x :: st) := ww_istore C d hi (fun j hj => by cases hj; exact ho) k
theorem ww_iinc1 {x0 : Option Value} {r : List (Option Value)} {n : Int} {x v : Int32} (C : CX X B A R own cc nL kc ks) (d : decode cc pc = .ok (.iinc 1 n, 3)) (hn : pc + 3 = nx) (hv : Int32.ofInt n = v) (hi : 1 < nL) (ho : eOne x0 = true) (k : WW X B A nL kc ks Q σ nx (x0 :: some (.int (x + v)) :: r) st) : WW X B A nL kc ks Q σ pc (x0 :: some (.int x) :: r) st := ww_iinc C d hn rfl hv hi (fun j hj => by cases hj; exact ho) k
theorem ww_lst1 {x0 x1 y : Option Value} {r : List (Option Value)} {x : Int64} (C : CX X B A R own cc nL kc ks) (d : eLst cc pc nx 1) (hi : 1 + 1 < nL) (ho : eOne x0 = true) (k : WW X B A nL kc ks Q σ nx (x0 :: some (.long x) :: none :: r) st) : WW X B A nL kc ks Q σ pc (x0 :: x1 :: y :: r) (.long x :: st) := ww_lstore C d hi (fun j hj => by cases hj; exact ho) k
theorem ww_ist2 {x0 x1 x2 : Option Value} {r : List (Option Value)} {x : Int32} (C : CX X B A R own cc nL kc ks) (d : eIst cc pc nx 2) (hi : 2 < nL) (ho : eOne x1 = true) (k : WW X B A nL kc ks Q σ nx (x0 :: x1 :: some (.int x) :: r) st) : WW X B A nL kc ks Q σ pc (x0 :: x1 :: x2 :: r) (.int x :: st) := ww_istore C d hi (fun j hj => by cases hj; exact ho) k
theorem ww_iinc2 {x0 x1 : Option Value} {r : List (Option Value)} {n : Int} {x v : Int32} (C : CX X B A R own cc nL kc ks) (d : decode cc pc = .ok (.iinc 2 n, 3)) (hn : pc + 3 = nx) (hv : Int32.ofInt n = v) (hi : 2 < nL) (ho : eOne x1 = true) (k : WW X B A nL kc ks Q σ nx (x0 :: x1 :: some (.int (x + v)) :: r) st) : WW X B A nL kc ks Q σ pc (x0 :: x1 :: some (.int x) :: r) st := ww_iinc C d hn rfl hv hi (fun j hj => by cases hj; exact ho) k
theorem ww_lst2 {x0 x1 x2 y : Option Value} {r : List (Option Value)} {x : Int64} (C : CX X B A R own cc nL kc ks) (d : eLst cc pc nx 2) (hi : 2 + 1 < nL) (ho : eOne x1 = true) (k : WW X B A nL kc ks Q σ nx (x0 :: x1 :: some (.long x) :: none :: r) st) : WW X B A nL kc ks Q σ pc (x0 :: x1 :: x2 :: y :: r) (.long x :: st) := ww_lstore C d hi (fun j hj => by cases hj; exact ho) k
theorem ww_ist3 {x0 x1 x2 x3 : Option Value} {r : List (Option Value)} {x : Int32} (C : CX X B A R own cc nL kc ks) (d : eIst cc pc nx 3) (hi : 3 < nL) (ho : eOne x2 = true) (k : WW X B A nL kc ks Q σ nx (x0 :: x1 :: x2 :: some (.int x) :: r) st) : WW X B A nL kc ks Q σ pc (x0 :: x1 :: x2 :: x3 :: r) (.int x :: st) := ww_istore C d hi (fun j hj => by cases hj; exact ho) k
theorem ww_iinc3 {x0 x1 x2 : Option Value} {r : List (Option Value)} {n : Int} {x v : Int32} (C : CX X B A R own cc nL kc ks) (d : decode cc pc = .ok (.iinc 3 n, 3)) (hn : pc + 3 = nx) (hv : Int32.ofInt n = v) (hi : 3 < nL) (ho : eOne x2 = true) (k : WW X B A nL kc ks Q σ nx (x0 :: x1 :: x2 :: some (.int (x + v)) :: r) st) : WW X B A nL kc ks Q σ pc (x0 :: x1 :: x2 :: some (.int x) :: r) st := ww_iinc C d hn rfl hv hi (fun j hj => by cases hj; exact ho) k
theorem ww_lst3 {x0 x1 x2 x3 y : Option Value} {r : List (Option Value)} {x : Int64} (C : CX X B A R own cc nL kc ks) (d : eLst cc pc nx 3) (hi : 3 + 1 < nL) (ho : eOne x2 = true) (k : WW X B A nL kc ks Q σ nx (x0 :: x1 :: x2 :: some (.long x) :: none :: r) st) : WW X B A nL kc ks Q σ pc (x0 :: x1 :: x2 :: x3 :: y :: r) (.long x :: st) := ww_lstore C d hi (fun j hj => by cases hj; exact ho) k
theorem ww_ist4 {x0 x1 x2 x3 x4 : Option Value} {r : List (Option Value)} {x : Int32} (C : CX X B A R own cc nL kc ks) (d : eIst cc pc nx 4) (hi : 4 < nL) (ho : eOne x3 = true) (k : WW X B A nL kc ks Q σ nx (x0 :: x1 :: x2 :: x3 :: some (.int x) :: r) st) : WW X B A nL kc ks Q σ pc (x0 :: x1 :: x2 :: x3 :: x4 :: r) (.int x :: st) := ww_istore C d hi (fun j hj => by cases hj; exact ho) k
theorem ww_iinc4 {x0 x1 x2 x3 : Option Value} {r : List (Option Value)} {n : Int} {x v : Int32} (C : CX X B A R own cc nL kc ks) (d : decode cc pc = .ok (.iinc 4 n, 3)) (hn : pc + 3 = nx) (hv : Int32.ofInt n = v) (hi : 4 < nL) (ho : eOne x3 = true) (k : WW X B A nL kc ks Q σ nx (x0 :: x1 :: x2 :: x3 :: some (.int (x + v)) :: r) st) : WW X B A nL kc ks Q σ pc (x0 :: x1 :: x2 :: x3 :: some (.int x) :: r) st := ww_iinc C d hn rfl hv hi (fun j hj => by cases hj; exact ho) k
theorem ww_lst4 {x0 x1 x2 x3 x4 y : Option Value} {r : List (Option Value)} {x : Int64} (C : CX X B A R own cc nL kc ks) (d : eLst cc pc nx 4) (hi : 4 + 1 < nL) (ho : eOne x3 = true) (k : WW X B A nL kc ks Q σ nx (x0 :: x1 :: x2 :: x3 :: some (.long x) :: none :: r) st) : WW X B A nL kc ks Q σ pc (x0 :: x1 :: x2 :: x3 :: x4 :: y :: r) (.long x :: st) := ww_lstore C d hi (fun j hj => by cases hj; exact ho) k
theorem ww_ist5 {x0 x1 x2 x3 x4 x5 : Option Value} {r : List (Option Value)} {x : Int32} (C : CX X B A R own cc nL kc ks) (d : eIst cc pc nx 5) (hi : 5 < nL) (ho : eOne x4 = true) (k : WW X B A nL kc ks Q σ nx (x0 :: x1 :: x2 :: x3 :: x4 :: some (.int x) :: r) st) : WW X B A nL kc ks Q σ pc (x0 :: x1 :: x2 :: x3 :: x4 :: x5 :: r) (.int x :: st) := ww_istore C d hi (fun j hj => by cases hj; exact ho) k
theorem ww_iinc5 {x0 x1 x2 x3 x4 : Option Value} {r : List (Option Value)} {n : Int} {x v : Int32} (C : CX X B A R own cc nL kc ks) (d : decode cc pc = .ok (.iinc 5 n, 3)) (hn : pc + 3 = nx) (hv : Int32.ofInt n = v) (hi : 5 < nL) (ho : eOne x4 = true) (k : WW X B A nL kc ks Q σ nx (x0 :: x1 :: x2 :: x3 :: x4 :: some (.int (x + v)) :: r) st) : WW X B A nL kc ks Q σ pc (x0 :: x1 :: x2 :: x3 :: x4 :: some (.int x) :: r) st := ww_iinc C d hn rfl hv hi (fun j hj => by cases hj; exact ho) k
theorem ww_lst5 {x0 x1 x2 x3 x4 x5 y : Option Value} {r : List (Option Value)} {x : Int64} (C : CX X B A R own cc nL kc ks) (d : eLst cc pc nx 5) (hi : 5 + 1 < nL) (ho : eOne x4 = true) (k : WW X B A nL kc ks Q σ nx (x0 :: x1 :: x2 :: x3 :: x4 :: some (.long x) :: none :: r) st) : WW X B A nL kc ks Q σ pc (x0 :: x1 :: x2 :: x3 :: x4 :: x5 :: y :: r) (.long x :: st) := ww_lstore C d hi (fun j hj => by cases hj; exact ho) k
theorem ww_ist6 {x0 x1 x2 x3 x4 x5 x6 : Option Value} {r : List (Option Value)} {x : Int32} (C : CX X B A R own cc nL kc ks) (d : eIst cc pc nx 6) (hi : 6 < nL) (ho : eOne x5 = true) (k : WW X B A nL kc ks Q σ nx (x0 :: x1 :: x2 :: x3 :: x4 :: x5 :: some (.int x) :: r) st) : WW X B A nL kc ks Q σ pc (x0 :: x1 :: x2 :: x3 :: x4 :: x5 :: x6 :: r) (.int x :: st) := ww_istore C d hi (fun j hj => by cases hj; exact ho) k
theorem ww_iinc6 {x0 x1 x2 x3 x4 x5 : Option Value} {r : List (Option Value)} {n : Int} {x v : Int32} (C : CX X B A R own cc nL kc ks) (d : decode cc pc = .ok (.iinc 6 n, 3)) (hn : pc + 3 = nx) (hv : Int32.ofInt n = v) (hi : 6 < nL) (ho : eOne x5 = true) (k : WW X B A nL kc ks Q σ nx (x0 :: x1 :: x2 :: x3 :: x4 :: x5 :: some (.int (x + v)) :: r) st) : WW X B A nL kc ks Q σ pc (x0 :: x1 :: x2 :: x3 :: x4 :: x5 :: some (.int x) :: r) st := ww_iinc C d hn rfl hv hi (fun j hj => by cases hj; exact ho) k
theorem ww_lst6 {x0 x1 x2 x3 x4 x5 x6 y : Option Value} {r : List (Option Value)} {x : Int64} (C : CX X B A R own cc nL kc ks) (d : eLst cc pc nx 6) (hi : 6 + 1 < nL) (ho : eOne x5 = true) (k : WW X B A nL kc ks Q σ nx (x0 :: x1 :: x2 :: x3 :: x4 :: x5 :: some (.long x) :: none :: r) st) : WW X B A nL kc ks Q σ pc (x0 :: x1 :: x2 :: x3 :: x4 :: x5 :: x6 :: y :: r) (.long x :: st) := ww_lstore C d hi (fun j hj => by cases hj; exact ho) k
theorem ww_ist7 {x0 x1 x2 x3 x4 x5 x6 x7 : Option Value} {r : List (Option Value)} {x : Int32} (C : CX X B A R own cc nL kc ks) (d : eIst cc pc nx 7) (hi : 7 < nL) (ho : eOne x6 = true) (k : WW X B A nL kc ks Q σ nx (x0 :: x1 :: x2 :: x3 :: x4 :: x5 :: x6 :: some (.int x) :: r) st) : WW X B A nL kc ks Q σ pc (x0 :: x1 :: x2 :: x3 :: x4 :: x5 :: x6 :: x7 :: r) (.int x :: st) := ww_istore C d hi (fun j hj => by cases hj; exact ho) k
theorem ww_iinc7 {x0 x1 x2 x3 x4 x5 x6 : Option Value} {r : List (Option Value)} {n : Int} {x v : Int32} (C : CX X B A R own cc nL kc ks) (d : decode cc pc = .ok (.iinc 7 n, 3)) (hn : pc + 3 = nx) (hv : Int32.ofInt n = v) (hi : 7 < nL) (ho : eOne x6 = true) (k : WW X B A nL kc ks Q σ nx (x0 :: x1 :: x2 :: x3 :: x4 :: x5 :: x6 :: some (.int (x + v)) :: r) st) : WW X B A nL kc ks Q σ pc (x0 :: x1 :: x2 :: x3 :: x4 :: x5 :: x6 :: some (.int x) :: r) st := ww_iinc C d hn rfl hv hi (fun j hj => by cases hj; exact ho) k
theorem ww_lst7 {x0 x1 x2 x3 x4 x5 x6 x7 y : Option Value} {r : List (Option Value)} {x : Int64} (C : CX X B A R own cc nL kc ks) (d : eLst cc pc nx 7) (hi : 7 + 1 < nL) (ho : eOne x6 = true) (k : WW X B A nL kc ks Q σ nx (x0 :: x1 :: x2 :: x3 :: x4 :: x5 :: x6 :: some (.long x) :: none :: r) st) : WW X B A nL kc ks Q σ pc (x0 :: x1 :: x2 :: x3 :: x4 :: x5 :: x6 :: x7 :: y :: r) (.long x :: st) := ww_lstore C d hi (fun j hj => by cases hj; exact ho) k
theorem ww_ist8 {x0 x1 x2 x3 x4 x5 x6 x7 x8 : Option Value} {r : List (Option Value)} {x : Int32} (C : CX X B A R own cc nL kc ks) (d : eIst cc pc nx 8) (hi : 8 < nL) (ho : eOne x7 = true) (k : WW X B A nL kc ks Q σ nx (x0 :: x1 :: x2 :: x3 :: x4 :: x5 :: x6 :: x7 :: some (.int x) :: r) st) : WW X B A nL kc ks Q σ pc (x0 :: x1 :: x2 :: x3 :: x4 :: x5 :: x6 :: x7 :: x8 :: r) (.int x :: st) := ww_istore C d hi (fun j hj => by cases hj; exact ho) k
theorem ww_iinc8 {x0 x1 x2 x3 x4 x5 x6 x7 : Option Value} {r : List (Option Value)} {n : Int} {x v : Int32} (C : CX X B A R own cc nL kc ks) (d : decode cc pc = .ok (.iinc 8 n, 3)) (hn : pc + 3 = nx) (hv : Int32.ofInt n = v) (hi : 8 < nL) (ho : eOne x7 = true) (k : WW X B A nL kc ks Q σ nx (x0 :: x1 :: x2 :: x3 :: x4 :: x5 :: x6 :: x7 :: some (.int (x + v)) :: r) st) : WW X B A nL kc ks Q σ pc (x0 :: x1 :: x2 :: x3 :: x4 :: x5 :: x6 :: x7 :: some (.int x) :: r) st := ww_iinc C d hn rfl hv hi (fun j hj => by cases hj; exact ho) k
theorem ww_lst8 {x0 x1 x2 x3 x4 x5 x6 x7 x8 y : Option Value} {r : List (Option Value)} {x : Int64} (C : CX X B A R own cc nL kc ks) (d : eLst cc pc nx 8) (hi : 8 + 1 < nL) (ho : eOne x7 = true) (k : WW X B A nL kc ks Q σ nx (x0 :: x1 :: x2 :: x3 :: x4 :: x5 :: x6 :: x7 :: some (.long x) :: none :: r) st) : WW X B A nL kc ks Q σ pc (x0 :: x1 :: x2 :: x3 :: x4 :: x5 :: x6 :: x7 :: x8 :: y :: r) (.long x :: st) := ww_lstore C d hi (fun j hj => by cases hj; exact ho) k
theorem ww_ist9 {x0 x1 x2 x3 x4 x5 x6 x7 x8 x9 : Option Value} {r : List (Option Value)} {x : Int32} (C : CX X B A R own cc nL kc ks) (d : eIst cc pc nx 9) (hi : 9 < nL) (ho : eOne x8 = true) (k : WW X B A nL kc ks Q σ nx (x0 :: x1 :: x2 :: x3 :: x4 :: x5 :: x6 :: x7 :: x8 :: some (.int x) :: r) st) : WW X B A nL kc ks Q σ pc (x0 :: x1 :: x2 :: x3 :: x4 :: x5 :: x6 :: x7 :: x8 :: x9 :: r) (.int x :: st) := ww_istore C d hi (fun j hj => by cases hj; exact ho) k
theorem ww_iinc9 {x0 x1 x2 x3 x4 x5 x6 x7 x8 : Option Value} {r : List (Option Value)} {n : Int} {x v : Int32} (C : CX X B A R own cc nL kc ks) (d : decode cc pc = .ok (.iinc 9 n, 3)) (hn : pc + 3 = nx) (hv : Int32.ofInt n = v) (hi : 9 < nL) (ho : eOne x8 = true) (k : WW X B A nL kc ks Q σ nx (x0 :: x1 :: x2 :: x3 :: x4 :: x5 :: x6 :: x7 :: x8 :: some (.int (x + v)) :: r) st) : WW X B A nL kc ks Q σ pc (x0 :: x1 :: x2 :: x3 :: x4 :: x5 :: x6 :: x7 :: x8 :: some (.int x) :: r) st := ww_iinc C d hn rfl hv hi (fun j hj => by cases hj; exact ho) k
theorem ww_lst9 {x0 x1 x2 x3 x4 x5 x6 x7 x8 x9 y : Option Value} {r : List (Option Value)} {x : Int64} (C : CX X B A R own cc nL kc ks) (d : eLst cc pc nx 9) (hi : 9 + 1 < nL) (ho : eOne x8 = true) (k : WW X B A nL kc ks Q σ nx (x0 :: x1 :: x2 :: x3 :: x4 :: x5 :: x6 :: x7 :: x8 :: some (.long x) :: none :: r) st) : WW X B A nL kc ks Q σ pc (x0 :: x1 :: x2 :: x3 :: x4 :: x5 :: x6 :: x7 :: x8 :: x9 :: y :: r) (.long x :: st) := ww_lstore C d hi (fun j hj => by cases hj; exact ho) k
theorem ww_ist10 {x0 x1 x2 x3 x4 x5 x6 x7 x8 x9 x10 : Option Value} {r : List (Option Value)} {x : Int32} (C : CX X B A R own cc nL kc ks) (d : eIst cc pc nx 10) (hi : 10 < nL) (ho : eOne x9 = true) (k : WW X B A nL kc ks Q σ nx (x0 :: x1 :: x2 :: x3 :: x4 :: x5 :: x6 :: x7 :: x8 :: x9 :: some (.int x) :: r) st) : WW X B A nL kc ks Q σ pc (x0 :: x1 :: x2 :: x3 :: x4 :: x5 :: x6 :: x7 :: x8 :: x9 :: x10 :: r) (.int x :: st) := ww_istore C d hi (fun j hj => by cases hj; exact ho) k
theorem ww_iinc10 {x0 x1 x2 x3 x4 x5 x6 x7 x8 x9 : Option Value} {r : List (Option Value)} {n : Int} {x v : Int32} (C : CX X B A R own cc nL kc ks) (d : decode cc pc = .ok (.iinc 10 n, 3)) (hn : pc + 3 = nx) (hv : Int32.ofInt n = v) (hi : 10 < nL) (ho : eOne x9 = true) (k : WW X B A nL kc ks Q σ nx (x0 :: x1 :: x2 :: x3 :: x4 :: x5 :: x6 :: x7 :: x8 :: x9 :: some (.int (x + v)) :: r) st) : WW X B A nL kc ks Q σ pc (x0 :: x1 :: x2 :: x3 :: x4 :: x5 :: x6 :: x7 :: x8 :: x9 :: some (.int x) :: r) st := ww_iinc C d hn rfl hv hi (fun j hj => by cases hj; exact ho) k
theorem ww_lst10 {x0 x1 x2 x3 x4 x5 x6 x7 x8 x9 x10 y : Option Value} {r : List (Option Value)} {x : Int64} (C : CX X B A R own cc nL kc ks) (d : eLst cc pc nx 10) (hi : 10 + 1 < nL) (ho : eOne x9 = true) (k : WW X B A nL kc ks Q σ nx (x0 :: x1 :: x2 :: x3 :: x4 :: x5 :: x6 :: x7 :: x8 :: x9 :: some (.long x) :: none :: r) st) : WW X B A nL kc ks Q σ pc (x0 :: x1 :: x2 :: x3 :: x4 :: x5 :: x6 :: x7 :: x8 :: x9 :: x10 :: y :: r) (.long x :: st) := ww_lstore C d hi (fun j hj => by cases hj; exact ho) k
theorem ww_ist11 {x0 x1 x2 x3 x4 x5 x6 x7 x8 x9 x10 x11 : Option Value} {r : List (Option Value)} {x : Int32} (C : CX X B A R own cc nL kc ks) (d : eIst cc pc nx 11) (hi : 11 < nL) (ho : eOne x10 = true) (k : WW X B A nL kc ks Q σ nx (x0 :: x1 :: x2 :: x3 :: x4 :: x5 :: x6 :: x7 :: x8 :: x9 :: x10 :: some (.int x) :: r) st) : WW X B A nL kc ks Q σ pc (x0 :: x1 :: x2 :: x3 :: x4 :: x5 :: x6 :: x7 :: x8 :: x9 :: x10 :: x11 :: r) (.int x :: st) := ww_istore C d hi (fun j hj => by cases hj; exact ho) k
theorem ww_iinc11 {x0 x1 x2 x3 x4 x5 x6 x7 x8 x9 x10 : Option Value} {r : List (Option Value)} {n : Int} {x v : Int32} (C : CX X B A R own cc nL kc ks) (d : decode cc pc = .ok (.iinc 11 n, 3)) (hn : pc + 3 = nx) (hv : Int32.ofInt n = v) (hi : 11 < nL) (ho : eOne x10 = true) (k : WW X B A nL kc ks Q σ nx (x0 :: x1 :: x2 :: x3 :: x4 :: x5 :: x6 :: x7 :: x8 :: x9 :: x10 :: some (.int (x + v)) :: r) st) : WW X B A nL kc ks Q σ pc (x0 :: x1 :: x2 :: x3 :: x4 :: x5 :: x6 :: x7 :: x8 :: x9 :: x10 :: some (.int x) :: r) st := ww_iinc C d hn rfl hv hi (fun j hj => by cases hj; exact ho) k
theorem ww_lst11 {x0 x1 x2 x3 x4 x5 x6 x7 x8 x9 x10 x11 y : Option Value} {r : List (Option Value)} {x : Int64} (C : CX X B A R own cc nL kc ks) (d : eLst cc pc nx 11) (hi : 11 + 1 < nL) (ho : eOne x10 = true) (k : WW X B A nL kc ks Q σ nx (x0 :: x1 :: x2 :: x3 :: x4 :: x5 :: x6 :: x7 :: x8 :: x9 :: x10 :: some (.long x) :: none :: r) st) : WW X B A nL kc ks Q σ pc (x0 :: x1 :: x2 :: x3 :: x4 :: x5 :: x6 :: x7 :: x8 :: x9 :: x10 :: x11 :: y :: r) (.long x :: st) := ww_lstore C d hi (fun j hj => by cases hj; exact ho) k
theorem ww_ist12 {x0 x1 x2 x3 x4 x5 x6 x7 x8 x9 x10 x11 x12 : Option Value} {r : List (Option Value)} {x : Int32} (C : CX X B A R own cc nL kc ks) (d : eIst cc pc nx 12) (hi : 12 < nL) (ho : eOne x11 = true) (k : WW X B A nL kc ks Q σ nx (x0 :: x1 :: x2 :: x3 :: x4 :: x5 :: x6 :: x7 :: x8 :: x9 :: x10 :: x11 :: some (.int x) :: r) st) : WW X B A nL kc ks Q σ pc (x0 :: x1 :: x2 :: x3 :: x4 :: x5 :: x6 :: x7 :: x8 :: x9 :: x10 :: x11 :: x12 :: r) (.int x :: st) := ww_istore C d hi (fun j hj => by cases hj; exact ho) k
theorem ww_iinc12 {x0 x1 x2 x3 x4 x5 x6 x7 x8 x9 x10 x11 : Option Value} {r : List (Option Value)} {n : Int} {x v : Int32} (C : CX X B A R own cc nL kc ks) (d : decode cc pc = .ok (.iinc 12 n, 3)) (hn : pc + 3 = nx) (hv : Int32.ofInt n = v) (hi : 12 < nL) (ho : eOne x11 = true) (k : WW X B A nL kc ks Q σ nx (x0 :: x1 :: x2 :: x3 :: x4 :: x5 :: x6 :: x7 :: x8 :: x9 :: x10 :: x11 :: some (.int (x + v)) :: r) st) : WW X B A nL kc ks Q σ pc (x0 :: x1 :: x2 :: x3 :: x4 :: x5 :: x6 :: x7 :: x8 :: x9 :: x10 :: x11 :: some (.int x) :: r) st := ww_iinc C d hn rfl hv hi (fun j hj => by cases hj; exact ho) k
theorem ww_lst12 {x0 x1 x2 x3 x4 x5 x6 x7 x8 x9 x10 x11 x12 y : Option Value} {r : List (Option Value)} {x : Int64} (C : CX X B A R own cc nL kc ks) (d : eLst cc pc nx 12) (hi : 12 + 1 < nL) (ho : eOne x11 = true) (k : WW X B A nL kc ks Q σ nx (x0 :: x1 :: x2 :: x3 :: x4 :: x5 :: x6 :: x7 :: x8 :: x9 :: x10 :: x11 :: some (.long x) :: none :: r) st) : WW X B A nL kc ks Q σ pc (x0 :: x1 :: x2 :: x3 :: x4 :: x5 :: x6 :: x7 :: x8 :: x9 :: x10 :: x11 :: x12 :: y :: r) (.long x :: st) := ww_lstore C d hi (fun j hj => by cases hj; exact ho) k
end EI
end
section
/-! THE ENGINE, 3: fields, arrays -/
/-- entry idx of own's pool is field j of class ci -/
def eFl (own : String) (idx ci j : Nat) : Prop := ∃ q : vw_C, vwCl[ci]? = some q ∧ j < q.2.2 ∧ (q.2.1 j).1 = q.1 ∧ Cond.fieldLink own idx q.1 (q.2.1 j).2.1 (q.2.1 j).2.2.1 ∈ eTb
/-- a class of the world: its words are there, its fields' types are known, its names differ -/
def eCl (ci : Nat) (ty : Nat → FieldType) : Prop := ∃ q : vw_C, vwCl[ci]? = some q ∧ (∀ w ∈ u_ws q.1 q.2.1 q.2.2, w ∈ eTb) ∧ (∀ k, k < q.2.2 → parseFieldDescriptor (q.2.1 k).2.2.1 = some (ty k)) ∧ (∀ a, a < q.2.2 → ∀ b, b < q.2.2 → a ≠ b → (q.2.1 a).2.1 ≠ (q.2.1 b).2.1)
section EF
variable {X : eX} {B : eB} {A : Nat → Prop} {R : Room} {own : String} {cc : ByteArray} {nL kc ks : Nat} {Q : State → Prop} {σ : eSt} {pc nx : Nat} {ls : List (Option Value)} {st : List Value}
theorem ww_get {idx ci j k N : Nat} {fd : Nat → Nat × Nat} (C : CX X B A R own cc nL kc ks) (d : decode cc pc = .ok (.getfield idx, 3)) (hn : pc + 3 = nx) (f : eFl own idx ci j) (hq : ∀ q : vw_C, vwCl[ci]? = some q → (∀ w ∈ u_ws q.1 q.2.1 q.2.2, w ∈ eTb)) (hk : k < eN) (hs : eSh k = .inr (ci, N, fd)) (hj : j < N)
    (kk : ∀ (H : Heap) (locs : List Loc) (la : Array Slot), va_P B.1 vwCl (eW B σ) H → va_D A (eW B σ) → va_S A (xS X).heap H locs → eLv B.2.2 la nL ls → eWm X H locs kc ks Q (F0 (xM X) nx la (eF B.2.2 σ k j (fd j) :: st.map (eV B.2.2)))) : WW X B A nL kc ks Q σ pc ls (.ref k :: st) := by
  subst hn
  intro H locs la hP hD hS hl
  obtain ⟨⟨C0, T, N0⟩, h1, h2, h3, h4⟩ := f
  have hat := eW_at B σ hk
  rw [eC_o hs] at hat
  refine va_get (D := B.1) (cl := vwCl) (C := C0) (T := T) (N := N0) (ref := C0) C.1 C.2.1 C.2.2.2.2.1 (hq _ h1) C.2.2.2.1 C.2.2.2.2.2.1 hP k hat h1 j h2 (C.2.2.2.2.1 _ h4) (fun x hx => by have h3' : (T j).1 = C0 := h3; rw [← h3']; exact hx) ?_ d (kk H locs la hP hD hS hl)
  simp [hj]
theorem ww_geti {idx ci j k N : Nat} {fd : Nat → Nat × Nat} (C : CX X B A R own cc nL kc ks) (d : decode cc pc = .ok (.getfield idx, 3)) (hn : pc + 3 = nx) (f : eFl own idx ci j) (hq : ∀ q : vw_C, vwCl[ci]? = some q → (∀ w ∈ u_ws q.1 q.2.1 q.2.2, w ∈ eTb)) (hk : Nat.blt k eN = true) (hs : eSh k = .inr (ci, N, fd)) (hj : Nat.blt j N = true) (hf : (fd j).1 = 0)
    (kk : WW X B A nL kc ks Q σ nx ls (.int (σ.1 k j) :: st)) : WW X B A nL kc ks Q σ pc ls (.ref k :: st) := by
  refine ww_get C d hn f hq (Nat.blt_eq.mp hk) hs (Nat.blt_eq.mp hj) (fun H locs la hP hD hS hl => ?_)
  have := kk H locs la hP hD hS hl
  unfold eF
  rw [hf]
  exact this
theorem ww_getl {idx ci j k N i : Nat} {fd : Nat → Nat × Nat} (C : CX X B A R own cc nL kc ks) (d : decode cc pc = .ok (.getfield idx, 3)) (hn : pc + 3 = nx) (f : eFl own idx ci j) (hq : ∀ q : vw_C, vwCl[ci]? = some q → (∀ w ∈ u_ws q.1 q.2.1 q.2.2, w ∈ eTb)) (hk : Nat.blt k eN = true) (hs : eSh k = .inr (ci, N, fd)) (hj : Nat.blt j N = true) (hf : fd j = (1, i))
    (kk : WW X B A nL kc ks Q σ nx ls (.long (σ.2 i) :: st)) : WW X B A nL kc ks Q σ pc ls (.ref k :: st) := by
  refine ww_get C d hn f hq (Nat.blt_eq.mp hk) hs (Nat.blt_eq.mp hj) (fun H locs la hP hD hS hl => ?_)
  have := kk H locs la hP hD hS hl
  unfold eF
  rw [hf]
  exact this
theorem ww_getr {idx ci j k N t : Nat} {fd : Nat → Nat × Nat} (C : CX X B A R own cc nL kc ks) (d : decode cc pc = .ok (.getfield idx, 3)) (hn : pc + 3 = nx) (f : eFl own idx ci j) (hq : ∀ q : vw_C, vwCl[ci]? = some q → (∀ w ∈ u_ws q.1 q.2.1 q.2.2, w ∈ eTb)) (hk : Nat.blt k eN = true) (hs : eSh k = .inr (ci, N, fd)) (hj : Nat.blt j N = true) (hf : fd j = (2, t))
    (kk : WW X B A nL kc ks Q σ nx ls (.ref t :: st)) : WW X B A nL kc ks Q σ pc ls (.ref k :: st) := by
  refine ww_get C d hn f hq (Nat.blt_eq.mp hk) hs (Nat.blt_eq.mp hj) (fun H locs la hP hD hS hl => ?_)
  have := kk H locs la hP hD hS hl
  unfold eF
  rw [hf]
  exact this
theorem ww_puti {idx ci j k N : Nat} {fd : Nat → Nat × Nat} {x : Int32} {ty : Nat → FieldType} (C : CX X B A R own cc nL kc ks) (d : decode cc pc = .ok (.putfield idx, 3)) (hn : pc + 3 = nx) (f : eFl own idx ci j) (hc : eCl ci ty) (hw : ∀ q : vw_C, vwCl[ci]? = some q → (q.2.1 j).2.2.2 = false) (hk : Nat.blt k eN = true) (hs : eSh k = .inr (ci, N, fd)) (hj : Nat.blt j N = true) (hf : (fd j).1 = 0) (ht : ty j = .int)
    (kk : WW X B A nL kc ks Q (eU σ k j x) nx ls st) : WW X B A nL kc ks Q σ pc ls (.int x :: .ref k :: st) := by
  have hk := Nat.blt_eq.mp hk
  have hj := Nat.blt_eq.mp hj
  subst hn
  intro H locs la hP hD hS hl
  obtain ⟨⟨C0, T, N0⟩, h1, h2, h3, h4⟩ := f
  obtain ⟨q, g1, g2, g3, g4⟩ := hc
  have e : q = (C0, T, N0) := Option.some.inj (g1.symm.trans h1)
  subst e
  have hat := eW_at B σ hk
  rw [eC_o hs] at hat
  refine va_put (D := B.1) (cl := vwCl) (C := C0) (T := T) (N := N0) (ref := C0) (ty := .int) (v := .int x) C.1 C.2.1 C.2.2.2.2.1 g2 ty g3 g4 C.2.2.2.1 C.2.2.2.2.2.1 hP hD hS k hat h1 j h2 (C.2.2.2.2.1 _ h4) (fun x hx => by have h3' : (T j).1 = C0 := h3; rw [← h3']; exact hx) (hw _ h1) (by rw [← ht]; exact g3 j h2) rfl rfl (by simp [hj]) d (fun H1 locs1 hP hD hS => ?_)
  rw [eW_fld hs hf] at hP hD
  exact kk H1 locs1 la hP hD hS hl
theorem ww_putl {idx ci j k N i : Nat} {fd : Nat → Nat × Nat} {x : Int64} {ty : Nat → FieldType} (C : CX X B A R own cc nL kc ks) (d : decode cc pc = .ok (.putfield idx, 3)) (hn : pc + 3 = nx) (f : eFl own idx ci j) (hc : eCl ci ty) (hw : ∀ q : vw_C, vwCl[ci]? = some q → (q.2.1 j).2.2.2 = false) (hk : Nat.blt k eN = true) (hs : eSh k = .inr (ci, N, fd)) (hj : Nat.blt j N = true) (hf : fd j = (1, i)) (hu : ∀ j', (fd j').1 = 1 → (fd j').2 = i → j' = j) (hv : ∀ k' ci' N' fd', eSh k' = .inr (ci', N', fd') → ∀ j', j' < N' → (fd' j').1 = 1 → k' = k) (ht : ty j = .long)
    (kk : WW X B A nL kc ks Q (eL σ i x) nx ls st) : WW X B A nL kc ks Q σ pc ls (.long x :: .ref k :: st) := by
  have hk := Nat.blt_eq.mp hk
  have hj := Nat.blt_eq.mp hj
  subst hn
  intro H locs la hP hD hS hl
  obtain ⟨⟨C0, T, N0⟩, h1, h2, h3, h4⟩ := f
  obtain ⟨q, g1, g2, g3, g4⟩ := hc
  have e : q = (C0, T, N0) := Option.some.inj (g1.symm.trans h1)
  subst e
  have hat := eW_at B σ hk
  rw [eC_o hs] at hat
  refine va_put (D := B.1) (cl := vwCl) (C := C0) (T := T) (N := N0) (ref := C0) (ty := .long) (v := .long x) C.1 C.2.1 C.2.2.2.2.1 g2 ty g3 g4 C.2.2.2.1 C.2.2.2.2.2.1 hP hD hS k hat h1 j h2 (C.2.2.2.2.1 _ h4) (fun x hx => by have h3' : (T j).1 = C0 := h3; rw [← h3']; exact hx) (hw _ h1) (by rw [← ht]; exact g3 j h2) rfl rfl (by simp [hj]) d (fun H1 locs1 hP hD hS => ?_)
  rw [eW_fldL hs hf hu hv] at hP hD
  exact kk H1 locs1 la hP hD hS hl
theorem eW_arr {t n k : Nat} {g : Nat → Nat} (hk : k < eN) (hs : eSh k = .inl (t, n, g)) (ht : t ≠ 3) : (eW B σ)[k]? = some (B.2.2 k, .inl (B.2.1 t, n, .inl (σ.1 k))) := by
  rw [eW_at B σ hk, eC_a hs]
  unfold eA
  split
  · exact absurd rfl ht
  · rfl
theorem ww_iald {k n : Nat} {g : Nat → Nat} {i : Int32} (C : CX X B A R own cc nL kc ks) (d : decode cc pc = .ok (.iaload, 1)) (hn : pc + 1 = nx) (hk : Nat.blt k eN = true) (hs : eSh k = .inl (1, n, g)) (hi : vp_in i n) (kk : WW X B A nL kc ks Q σ nx ls (.int (σ.1 k i.toNatClampNeg) :: st)) : WW X B A nL kc ks Q σ pc ls (.int i :: .ref k :: st) := by
  subst hn
  intro H locs la hP hD hS hl
  exact va_iald C.1 C.2.1 C.2.2.2.2.2.1 hP k 1 (eW_arr (Nat.blt_eq.mp hk) hs (by decide)) rfl hi d (kk H locs la hP hD hS hl)
theorem ww_bald {k n : Nat} {g : Nat → Nat} {i : Int32} (C : CX X B A R own cc nL kc ks) (d : decode cc pc = .ok (.baload, 1)) (hn : pc + 1 = nx) (hk : Nat.blt k eN = true) (hs : eSh k = .inl (0, n, g)) (hi : vp_in i n) (kk : WW X B A nL kc ks Q σ nx ls (.int (σ.1 k i.toNatClampNeg) :: st)) : WW X B A nL kc ks Q σ pc ls (.int i :: .ref k :: st) := by
  subst hn
  intro H locs la hP hD hS hl
  exact va_bald C.1 C.2.1 C.2.2.2.2.2.1 hP k 0 (eW_arr (Nat.blt_eq.mp hk) hs (by decide)) rfl hi d (kk H locs la hP hD hS hl)
theorem ww_zald {k n : Nat} {g : Nat → Nat} {i : Int32} (C : CX X B A R own cc nL kc ks) (d : decode cc pc = .ok (.baload, 1)) (hn : pc + 1 = nx) (hk : Nat.blt k eN = true) (hs : eSh k = .inl (2, n, g)) (hi : vp_in i n) (kk : WW X B A nL kc ks Q σ nx ls (.int (σ.1 k i.toNatClampNeg) :: st)) : WW X B A nL kc ks Q σ pc ls (.int i :: .ref k :: st) := by
  subst hn
  intro H locs la hP hD hS hl
  exact va_zald C.1 C.2.1 C.2.2.2.2.2.1 hP k 2 (eW_arr (Nat.blt_eq.mp hk) hs (by decide)) rfl hi d (kk H locs la hP hD hS hl)
theorem ww_aald {k n : Nat} {g : Nat → Nat} {i : Int32} (C : CX X B A R own cc nL kc ks) (d : decode cc pc = .ok (.aaload, 1)) (hn : pc + 1 = nx) (hk : Nat.blt k eN = true) (hs : eSh k = .inl (3, n, g)) (hi : vp_in i n) (kk : WW X B A nL kc ks Q σ nx ls (.ref (g i.toNatClampNeg) :: st)) : WW X B A nL kc ks Q σ pc ls (.int i :: .ref k :: st) := by
  subst hn
  intro H locs la hP hD hS hl
  have hat := eW_at B σ (Nat.blt_eq.mp hk)
  rw [eC_a hs] at hat
  exact va_aldq C.1 C.2.1 C.2.2.2.2.2.1 hP k 3 (f := fun i => some (B.2.2 (g i))) hat rfl hi d (kk H locs la hP hD hS hl)
theorem ww_iast {k n : Nat} {g : Nat → Nat} {i x : Int32} (C : CX X B A R own cc nL kc ks) (d : decode cc pc = .ok (.iastore, 1)) (hn : pc + 1 = nx) (hk : Nat.blt k eN = true) (hs : eSh k = .inl (1, n, g)) (hi : vp_in i n) (kk : WW X B A nL kc ks Q (eU σ k i.toNatClampNeg x) nx ls st) : WW X B A nL kc ks Q σ pc ls (.int x :: .int i :: .ref k :: st) := by
  subst hn
  intro H locs la hP hD hS hl
  refine va_iast C.1 C.2.1 C.2.2.2.2.2.1 hP hD hS k 1 (eW_arr (Nat.blt_eq.mp hk) hs (by decide)) rfl hi d (fun H1 locs1 hP hD hS => ?_)
  rw [eW_row hs (by decide)] at hP hD
  exact kk H1 locs1 la hP hD hS hl
theorem ww_bast {k n : Nat} {g : Nat → Nat} {i x : Int32} (C : CX X B A R own cc nL kc ks) (d : decode cc pc = .ok (.bastore, 1)) (hn : pc + 1 = nx) (hk : Nat.blt k eN = true) (hs : eSh k = .inl (0, n, g)) (hi : vp_in i n) (kk : WW X B A nL kc ks Q (eU σ k i.toNatClampNeg (vp_nar .byte x)) nx ls st) : WW X B A nL kc ks Q σ pc ls (.int x :: .int i :: .ref k :: st) := by
  subst hn
  intro H locs la hP hD hS hl
  refine va_bast C.1 C.2.1 C.2.2.2.2.2.1 hP hD hS k 0 (eW_arr (Nat.blt_eq.mp hk) hs (by decide)) rfl hi d (fun H1 locs1 hP hD hS => ?_)
  rw [eW_row hs (by decide)] at hP hD
  exact kk H1 locs1 la hP hD hS hl
theorem ww_zast {k n : Nat} {g : Nat → Nat} {i x : Int32} (C : CX X B A R own cc nL kc ks) (d : decode cc pc = .ok (.bastore, 1)) (hn : pc + 1 = nx) (hk : Nat.blt k eN = true) (hs : eSh k = .inl (2, n, g)) (hi : vp_in i n) (kk : WW X B A nL kc ks Q (eU σ k i.toNatClampNeg (vp_nar .boolean x)) nx ls st) : WW X B A nL kc ks Q σ pc ls (.int x :: .int i :: .ref k :: st) := by
  subst hn
  intro H locs la hP hD hS hl
  refine va_zast C.1 C.2.1 C.2.2.2.2.2.1 hP hD hS k 2 (eW_arr (Nat.blt_eq.mp hk) hs (by decide)) rfl hi d (fun H1 locs1 hP hD hS => ?_)
  rw [eW_row hs (by decide)] at hP hD
  exact kk H1 locs1 la hP hD hS hl
/-- System.arraycopy of ints -/
theorem ww_copy {k0 k1 n0 n1 index : Nat} {g0 g1 : Nat → Nat} {sp dp n : Int32} (C : CX X B A R own cc nL kc ks) (d : decode cc pc = .ok (.invokestatic index, 3)) (hn : pc + 3 = nx) (hw : Cond.methodLink own index arraycopyName ∈ eTb) (hw1 : Cond.native arraycopyName ∈ eTb) (hw2 : Cond.static arraycopyName ∈ eTb) (hw3 : Cond.initialized "java/lang/System" ∈ eTb)
    (hk0 : Nat.blt k0 eN = true) (hk1 : Nat.blt k1 eN = true) (hs0 : eSh k0 = .inl (1, n0, g0)) (hs1 : eSh k1 = .inl (1, n1, g1)) (h1 : ¬ sp < 0) (h2 : ¬ dp < 0) (h3 : ¬ n < 0) (h4 : sp.toNatClampNeg + n.toNatClampNeg ≤ n0) (h5 : dp.toNatClampNeg + n.toNatClampNeg ≤ n1) (hf : 1 ≤ R.frames) (hl0 : 8 + (nativeFrameWords "java/lang/System" "arraycopy" 5 + 11) ≤ R.locals) (hst : (st.map fun v => v.category).sum ≤ 8)
    (kk : WW X B A nL kc ks Q (eR σ k1 (va_cpy (σ.1 k0) (σ.1 k1) sp.toNatClampNeg dp.toNatClampNeg n.toNatClampNeg)) nx ls st) : WW X B A nL kc ks Q σ pc ls (.int n :: .int dp :: .ref k1 :: .int sp :: .ref k0 :: st) := by
  subst hn
  intro H locs la hP hD hS hl
  have hcat : ((st.map (eV B.2.2)).map fun v => v.category).sum = (st.map fun v => v.category).sum := by
    rw [List.map_map]
    congr 1
    apply List.map_congr_left
    intro v _
    exact eV_cat _ v
  refine va_copyi C.1 C.2.1 (C.2.2.1.trans hl.1.symm) C.2.2.2.1 (C.2.2.2.2.1 _ hw) (C.2.2.2.2.1 _ hw1) (C.2.2.2.2.1 _ hw2) (C.2.2.2.2.1 _ hw3) C.2.2.2.2.2.1 hP hD hS k0 k1 1 1 (ty := .int) (eW_arr (Nat.blt_eq.mp hk0) hs0 (by decide)) (eW_arr (Nat.blt_eq.mp hk1) hs1 (by decide)) rfl rfl rfl h1 h2 h3 h4 h5 (fun i _ => rfl) (by rw [C.2.2.2.2.2.2.2.2.2.2]; exact hf) (by rw [C.2.2.2.2.2.2.2.2.2.2, hcat]; omega) d (fun H1 locs1 hP hD hS => ?_)
  rw [eW_row hs1 (by decide)] at hP hD
  exact kk H1 locs1 la hP hD hS hl
theorem eCat (ad : Nat → Nat) (st : List Value) : ((st.map (eV ad)).map fun v => v.category).sum = (st.map fun v => v.category).sum := by
  rw [List.map_map]
  congr 1
  apply List.map_congr_left
  intro v _
  exact eV_cat _ v
/-- Math.max, min, abs -/
theorem ww_max {index : Nat} {x y : Int32} (C : CX X B A R own cc nL kc ks) (d : decode cc pc = .ok (.invokestatic index, 3)) (hn : pc + 3 = nx) (hw : Cond.methodLink own index Lib.Math.max.name ∈ eTb) (hw1 : Cond.static Lib.Math.max.name ∈ eTb) (hw2 : Cond.initialized "java/lang/Math" ∈ eTb) (hw3 : Cond.code Lib.Math.max.name Lib.Math.max.code 2 (some .int) ∈ eTb) (hf : 1 ≤ R.frames) (hl0 : 8 + 13 ≤ R.locals) (hst : (st.map fun v => v.category).sum ≤ 8)
    (kk : WW X B A nL kc ks Q σ nx ls (.int (if x < y then y else x) :: st)) : WW X B A nL kc ks Q σ pc ls (.int y :: .int x :: st) := by
  subst hn
  intro H locs la hP hD hS hl
  exact va_mmax C.1 C.2.1 (C.2.2.1.trans hl.1.symm) C.2.2.2.1 (C.2.2.2.2.1 _ hw) (C.2.2.2.2.1 _ hw1) (C.2.2.2.2.1 _ hw2) (C.2.2.2.2.1 _ hw3) (by rw [C.2.2.2.2.2.2.2.2.2.2]; exact hf) (by rw [C.2.2.2.2.2.2.2.2.2.2, eCat]; omega) (by rw [C.2.2.2.2.2.2.2.2.2.2]; exact C.2.2.2.2.2.2.2.2.1) (by rw [C.2.2.2.2.2.2.2.2.2.2]; exact C.2.2.2.2.2.2.2.2.2.1) d (kk H locs la hP hD hS hl)
theorem ww_min {index : Nat} {x y : Int32} (C : CX X B A R own cc nL kc ks) (d : decode cc pc = .ok (.invokestatic index, 3)) (hn : pc + 3 = nx) (hw : Cond.methodLink own index Lib.Math.min.name ∈ eTb) (hw1 : Cond.static Lib.Math.min.name ∈ eTb) (hw2 : Cond.initialized "java/lang/Math" ∈ eTb) (hw3 : Cond.code Lib.Math.min.name Lib.Math.min.code 2 (some .int) ∈ eTb) (hf : 1 ≤ R.frames) (hl0 : 8 + 13 ≤ R.locals) (hst : (st.map fun v => v.category).sum ≤ 8)
    (kk : WW X B A nL kc ks Q σ nx ls (.int (if y < x then y else x) :: st)) : WW X B A nL kc ks Q σ pc ls (.int y :: .int x :: st) := by
  subst hn
  intro H locs la hP hD hS hl
  exact va_mmin C.1 C.2.1 (C.2.2.1.trans hl.1.symm) C.2.2.2.1 (C.2.2.2.2.1 _ hw) (C.2.2.2.2.1 _ hw1) (C.2.2.2.2.1 _ hw2) (C.2.2.2.2.1 _ hw3) (by rw [C.2.2.2.2.2.2.2.2.2.2]; exact hf) (by rw [C.2.2.2.2.2.2.2.2.2.2, eCat]; omega) (by rw [C.2.2.2.2.2.2.2.2.2.2]; exact C.2.2.2.2.2.2.2.2.1) (by rw [C.2.2.2.2.2.2.2.2.2.2]; exact C.2.2.2.2.2.2.2.2.2.1) d (kk H locs la hP hD hS hl)
theorem ww_abs {index : Nat} {x : Int32} (C : CX X B A R own cc nL kc ks) (d : decode cc pc = .ok (.invokestatic index, 3)) (hn : pc + 3 = nx) (hw : Cond.methodLink own index Lib.Math.abs.name ∈ eTb) (hw1 : Cond.static Lib.Math.abs.name ∈ eTb) (hw2 : Cond.initialized "java/lang/Math" ∈ eTb) (hw3 : Cond.code Lib.Math.abs.name Lib.Math.abs.code 1 (some .int) ∈ eTb) (hf : 1 ≤ R.frames) (hl0 : 8 + 13 ≤ R.locals) (hst : (st.map fun v => v.category).sum ≤ 8)
    (kk : WW X B A nL kc ks Q σ nx ls (.int (if 0 ≤ x then x else 0 - x) :: st)) : WW X B A nL kc ks Q σ pc ls (.int x :: st) := by
  subst hn
  intro H locs la hP hD hS hl
  exact va_mabs C.1 C.2.1 (C.2.2.1.trans hl.1.symm) C.2.2.2.1 (C.2.2.2.2.1 _ hw) (C.2.2.2.2.1 _ hw1) (C.2.2.2.2.1 _ hw2) (C.2.2.2.2.1 _ hw3) (by rw [C.2.2.2.2.2.2.2.2.2.2]; exact hf) (by rw [C.2.2.2.2.2.2.2.2.2.2, eCat]; omega) (by rw [C.2.2.2.2.2.2.2.2.2.2]; exact C.2.2.2.2.2.2.2.2.1) (by rw [C.2.2.2.2.2.2.2.2.2.2]; exact C.2.2.2.2.2.2.2.2.2.1) d (kk H locs la hP hD hS hl)
end EF
end
section
/-! THE ENGINE, 4: methods, calls, returns -/
/-- a method: name, bytes, locals, answer, room -/
abbrev eM : Type := MethodName × ByteArray × Nat × Option FieldType × Room
def eP (B : eB) (av : List Value) (σ : eSt) (sz : Nat) : Array Value → State → Prop := va_Pc (av.map (eV B.2.2)) (fun U => U.heap.size = sz ∧ va_P B.1 vwCl (eW B σ) U.heap ∧ va_K B.1 vwCl (eT B.2.1) U ∧ va_D (fun _ => True) (eW B σ) ∧ eS B.2.2 (eAA B sz) U U.heap)
def eQ (B : eB) (r : Option Value) (σ' : eSt) (sz : Nat) : Array Value → State → Outcome → State → Prop := fun _ s0 oc t => (oc = .returned (r.map (eV B.2.2)) ∧ va_P B.1 vwCl (eW B σ') t.heap) ∧ va_F (eAA B sz) s0 t
/-- the method M, on these arguments and this store, answers r and leaves the store σ' -/
def Run (l : Launch) (B : eB) (M : eM) (av : List Value) (σ : eSt) (r : Option Value) (σ' : eSt) : Prop :=
  ∀ sz : Nat, Met l M.1 (Cond.code M.1 M.2.1 M.2.2.1 M.2.2.2.1 :: eTb) M.2.2.2.2 (eP B av σ sz) (eQ B r σ' sz) 0 0 (eAA B sz)
theorem eGoodIn {w0 : Cond} (h : w0 ∈ eTb) : GoodIn eTb (w0 :: eTb) := by
  intro w hw
  have hm : w ∈ eTb := by
    rcases List.mem_cons.mp hw with rfl | h1
    · exact h
    · exact h1
  exact ⟨hm, good_of_word (eGood hm)⟩
theorem eS_moved {ad : Nat → Nat} {A : Nat → Prop} {u U : State} {H : Heap} (hW : u.WarmedH U.vm) (h : eS ad A u H) : eS ad A U H :=
  ⟨vk_S.moved hW.alike h.1, ⟨h.2.1.1.warm hW, h.2.1.2.1.warm hW, h.2.1.2.2.1.warm hW, h.2.1.2.2.2.1.warm hW, h.2.1.2.2.2.2.warm hW⟩, va_Z.moved hW.alike h.2.2.1, va_Zq.moved hW.alike h.2.2.2.1, h.2.2.2.2.warmM hW⟩
theorem eS_same {ad : Nat → Nat} {A : Nat → Prop} {u U : State} {H : Heap} (hv : U.vm = u.vm) (h : eS ad A u H) : eS ad A U H := by
  have ha : u.vm.Alike U.vm := by rw [hv]; exact Vm.Alike.refl u.vm
  exact ⟨vk_S.moved ha h.1, ⟨h.2.1.1.same hv, h.2.1.2.1.same hv, h.2.1.2.2.1.same hv, h.2.1.2.2.2.1.same hv, h.2.1.2.2.2.2.same hv⟩, va_Z.moved ha h.2.2.1, va_Zq.moved ha h.2.2.2.1, h.2.2.2.2.same rfl hv.symm⟩
theorem eS_kept {ad : Nat → Nat} {A : Nat → Prop} {U : State} {H H1 : Heap} (h : eS ad A U H) (hq : ∀ a : Nat, a < H.size → ¬ A a → H1[a]? = H[a]?) : eS ad A U H1 :=
  ⟨h.1.kept hq, h.2.1, h.2.2.1.kept hq, h.2.2.2.1.kept hq, h.2.2.2.2⟩
theorem eS_narrow {ad : Nat → Nat} {A A' : Nat → Prop} {U : State} {H : Heap} (h : eS ad A U H) (hq : ∀ q, A' q → A q) : eS ad A' U H :=
  ⟨h.1.narrow hq, h.2.1, h.2.2.1.narrow hq, h.2.2.2.1.narrow hq, h.2.2.2.2⟩
theorem eP_blind {B : eB} {av : List Value} {σ : eSt} {sz : Nat} : FrameBlind (eP B av σ sz) := by
  intro a U g mk q
  obtain ⟨q0, q1, q2, q3, q4, q5⟩ := q
  exact ⟨q0, q1, q2, va_K.moved (u := U) (U := U.calling g mk a) (Vm.Alike.refl U.vm) q3, q4, eS_same (u := U) (U := U.calling g mk a) rfl q5⟩
/-- what a method's end is, seen from its frame -/
def eFin (X : eX) (B : eB) (r : Option Value) (σ' : eSt) : State → Prop := MQ (xBel X) (eQ B r σ' (xS X).heap.size) (xArgs X) (xS X) 0 0 (eAA B (xS X).heap.size)
def eArgs : List Value → List (Option Value)
  | [] => []
  | v :: r => if v.category = 2 then some v :: none :: eArgs r else some v :: eArgs r
theorem eArgs_at (ad : Nat → Nat) : ∀ (av : List Value) (i0 i : Nat) (v : Value), (eArgs av)[i]? = some (some v) → (i0 + i, eV ad v) ∈ lv_args i0 (av.map (eV ad)) := by
  intro av
  induction av with
  | nil => intro i0 i v h; simp [eArgs] at h
  | cons w r ih =>
    intro i0 i v h
    simp only [List.map_cons, lv_args, eV_cat]
    by_cases hc : w.category = 2
    · simp only [eArgs, hc, if_true] at h ⊢
      match i, h with
      | 0, h =>
        have : w = v := by simpa using h
        subst this
        exact List.mem_cons_self
      | 1, h => simp at h
      | i + 2, h =>
        have h1 := ih (i0 + 2) i v (by simpa using h)
        rw [show i0 + (i + 2) = i0 + 2 + i by omega]
        exact List.mem_cons_of_mem _ h1
    · simp only [eArgs, hc, if_false] at h ⊢
      match i, h with
      | 0, h =>
        have : w = v := by simpa using h
        subst this
        exact List.mem_cons_self
      | i + 1, h =>
        have h1 := ih (i0 + 1) i v (by simpa using h)
        rw [show i0 + (i + 1) = i0 + 1 + i by omega]
        exact List.mem_cons_of_mem _ h1
theorem lg_sl_len (ad : Nat → Nat) (av : List Value) : (lg_sl (av.map (eV ad))).length = (eArgs av).length := by
  induction av with
  | nil => rfl
  | cons w r ih =>
    have : lg_sl ((w :: r).map (eV ad)) = (if w.category = 2 then [.val (eV ad w), .second] else [.val (eV ad w)]) ++ lg_sl (r.map (eV ad)) := by
      simp [lg_sl, eV_cat]
    rw [this, List.length_append, ih]
    by_cases hc : w.category = 2
    · simp [eArgs, hc]; omega
    · simp [eArgs, hc]; omega
/-- A METHOD is proved by its walk from 0 -/
theorem run_intro {l : Launch} {B : eB} {M : eM} {av : List Value} {σ : eSt} {r : Option Value} {σ' : eSt} {ls : List (Option Value)} (hy : plainName M.1.cls = true) (hc : M.2.2.2.2.cells = 0) (hs : M.2.2.2.2.slots = 0) (hls : eArgs av ++ List.replicate (M.2.2.1 - (eArgs av).length) none = ls) (hlen : (eArgs av).length ≤ M.2.2.1)
    (body : ∀ (X : eX) (A : Nat → Prop), CX X B A M.2.2.2.2 M.1.cls M.2.1 M.2.2.1 0 0 → xLa X = l → A = eAA B (xS X).heap.size → (xMeth X).sig.returnType = M.2.2.2.1 → (xMeth X).locks = false → WW X B A M.2.2.1 0 0 (eFin X B r σ') σ 0 ls []) : Run l B M av σ r σ' := by
  intro sz
  refine Met.ofW (cc := M.2.1) (maxL := M.2.2.1) (ret := M.2.2.2.1) hy rfl ?_
  intro p e s m args below meth c s₁ B0 hml hv
  obtain ⟨rfl, hsz, hP, hK, hD0, hSt⟩ := hv
  subst hsz
  have hts := atoms_spec (ws := Cond.code M.1 M.2.1 M.2.2.1 M.2.2.2.1 :: eTb) B0.pre
  have hown : s.vm.findClass M.1.cls = some m.cls := findClass_of_methodNamed B0.named
  have hD : va_D (eAA B s.heap.size) (eW B σ) := by
    have := hD0.self (sz := s.heap.size)
    rw [eW_Ae] at this
    exact this
  have hl := lv_entry (av.map (eV B.2.2)) (n := M.2.2.1) (by rw [lg_sl_len]; exact hlen)
  have hlv : eLv B.2.2 ((lg_sl (av.map (eV B.2.2)) ++ List.replicate (M.2.2.1 - (lg_sl (av.map (eV B.2.2))).length) Slot.unset).toArray) M.2.2.1 ls := by
    refine ⟨hl.1, hl.2.1, fun i v hi => ?_⟩
    subst hls
    have hi2 : (eArgs av)[i]? = some (some v) := by
      by_cases h : i < (eArgs av).length
      · rwa [List.getElem?_append_left h] at hi
      · rw [List.getElem?_append_right (by omega), List.getElem?_replicate] at hi
        split at hi
        · simp at hi
        · cases hi
    have h1 := eArgs_at B.2.2 av 0 i v hi2
    rw [Nat.zero_add] at h1
    exact hl.2.2 _ h1
  rw [lg_entry_eq]
  exact body (p, l, e, (headSpec (Cond.code M.1 M.2.1 M.2.2.1 M.2.2.2.1 :: eTb) M.2.2.2.2).room, s, m, (av.map (eV B.2.2)).toArray, below, meth, c) (eAA B s.heap.size)
    ⟨B0.exec, B0.bytes, hml, hown, fun w hw => hts w (List.mem_cons_of_mem _ hw), hK, fun q hq => Or.inr hq, hSt, Nat.zero_le _, Nat.zero_le _, rfl⟩ rfl rfl B0.returns B0.notSynchronized s.heap [] _ hP hD va_S.rf hlv
section ER
variable {X : eX} {B : eB} {A : Nat → Prop} {R : Room} {own : String} {cc : ByteArray} {nL kc ks : Nat} {Q : State → Prop} {σ τ : eSt} {pc nx : Nat} {ls : List (Option Value)} {st : List Value} {r : Option Value}
theorem ww_iret {v : Int32} (C : CX X B A R own cc nL 0 0) (hA : A = eAA B (xS X).heap.size) (hr : (xMeth X).sig.returnType = some .int) (hk : (xMeth X).locks = false) (d : decode cc pc = .ok (.ireturn, 1)) (e : r = some (.int v)) (e2 : τ = σ) : WW X B A nL 0 0 (eFin X B r τ) σ pc ls [.int v] := by
  subst e; subst e2; subst hA
  intro H locs la hP hD hS hl
  exact W.iret (v := v) C.1 C.2.1 hr (fun t ht hW => ⟨⟨rfl, by rw [ht]; exact hP⟩, hS.F ht⟩) hS.2.2 d hk
theorem ww_zret {v : Int32} (C : CX X B A R own cc nL 0 0) (hA : A = eAA B (xS X).heap.size) (hr : (xMeth X).sig.returnType = some .boolean) (hk : (xMeth X).locks = false) (d : decode cc pc = .ok (.ireturn, 1)) (hn : narrow .boolean (.int v) = .int v) (e : r = some (.int v)) (e2 : τ = σ) : WW X B A nL 0 0 (eFin X B r τ) σ pc ls [.int v] := by
  subst e; subst e2; subst hA
  intro H locs la hP hD hS hl
  exact W.zret (v := v) C.1 C.2.1 hr hn (fun t ht hW => ⟨⟨rfl, by rw [ht]; exact hP⟩, hS.F ht⟩) hS.2.2 d hk
theorem ww_lret {v : Int64} (C : CX X B A R own cc nL 0 0) (hA : A = eAA B (xS X).heap.size) (hr : (xMeth X).sig.returnType = some .long) (hk : (xMeth X).locks = false) (d : decode cc pc = .ok (.lreturn, 1)) (e : r = some (.long v)) (e2 : τ = σ) : WW X B A nL 0 0 (eFin X B r τ) σ pc ls [.long v] := by
  subst e; subst e2; subst hA
  intro H locs la hP hD hS hl
  exact W.lret (v := v) C.1 C.2.1 hr (fun t ht hW => ⟨⟨rfl, by rw [ht]; exact hP⟩, hS.F ht⟩) hS.2.2 d hk
theorem ww_vret (C : CX X B A R own cc nL 0 0) (hA : A = eAA B (xS X).heap.size) (hr : (xMeth X).sig.returnType = none) (hk : (xMeth X).locks = false) (d : decode cc pc = .ok (.return_, 1)) (e : r = none) (e2 : τ = σ) : WW X B A nL 0 0 (eFin X B r τ) σ pc ls [] := by
  subst e; subst e2; subst hA
  intro H locs la hP hD hS hl
  exact W.vret C.1 C.2.1 hr (fun t ht hW => ⟨⟨rfl, by rw [ht]; exact hP⟩, hS.F ht⟩) hS.2.2 d hk
/-- the cells that a callee may change are the caller's -/
theorem eAA_sub {H : Heap} {locs : List Loc} (C : CX X B A R own cc nL kc ks) (hD : va_D A (eW B σ)) (hS : va_S A (xS X).heap H locs) : ∀ q, eAA B H.size q → A q := by
  rintro q (⟨k, hk, rfl⟩ | h)
  · exact hD.2 k _ (eW_at B σ hk)
  · exact C.2.2.2.2.2.2.1 q (Nat.le_trans hS.1 h)
/-- the callee's start, from the caller's -/
theorem eP_at {H : Heap} {locs : List Loc} {av : List Value} (C : CX X B A R own cc nL kc ks) (hP : va_P B.1 vwCl (eW B σ) H) (hD : va_D A (eW B σ)) (hS : va_S A (xS X).heap H locs) : ∀ U : State, U.heap = H → (xS X).WarmedH U.vm → eP B av σ H.size (av.map (eV B.2.2)).toArray U := by
  intro U hU hW
  refine ⟨rfl, by rw [hU], by rw [hU]; exact hP, va_K.moved hW.alike C.2.2.2.2.2.1, hD.weaken (fun _ _ _ _ => trivial), ?_⟩
  rw [hU]
  exact eS_narrow (eS_kept (eS_moved hW C.2.2.2.2.2.2.2.1) hS.2.1) (eAA_sub C hD hS)
/-- behind a call -/
theorem ww_back {av : List Value} {H : Heap} {locs : List Loc} {la : Array Slot} {st0 : List Value} (C : CX X B A R own cc nL kc ks) (hD : va_D A (eW B σ)) (hS : va_S A (xS X).heap H locs) (hl : eLv B.2.2 la nL ls)
    (hr : va_Run (xP X) (xLa X) (xE X) (xR X) (xS X) (xM X) (xArgs X) (xBel X) (xMeth X) (xC X) H locs kc ks 0 0 (F0 (xM X) pc la st0) (st.map (eV B.2.2)) (eQ B r τ H.size (av.map (eV B.2.2)).toArray) (eAA B H.size))
    (k : WW X B A nL kc ks Q τ (pc + 3) ls (r.toList ++ st)) : eWm X H locs kc ks Q (F0 (xM X) pc la st0) := by
  intro T hT X0
  obtain ⟨v, s0, t, T', L, h0, X', hL, e1, e2, ⟨⟨hv, hP'⟩, hz, hk⟩, hst⟩ := hr T hT X0
  have hsub := eAA_sub C hD hS
  have hv2 : v = r.map (eV B.2.2) := by
    have := hv
    simp only [Outcome.returned.injEq] at this
    exact this
  subst hv2
  rw [h0] at hz hk
  have hst2 : (r.map (eV B.2.2)).toList ++ st.map (eV B.2.2) = (r.toList ++ st).map (eV B.2.2) := by
    cases r <;> simp
  have hS' : va_S A (xS X).heap T'.heap (locs ++ L) := ⟨Nat.le_trans hS.1 (by rw [e1]; exact hz), fun q g1 g2 => by
      rw [e1, hk q (Nat.lt_of_lt_of_le g1 hS.1) (fun z => g2 (hsub q z))]
      exact hS.2.1 q g1 g2, fun q hq => by
      rcases List.mem_append.mp hq with h | h
      · exact hS.2.2 q h
      · exact hsub _ (hL q h)⟩
  obtain ⟨t2, a1, b1⟩ := k T'.heap (locs ++ L) la (by rw [e1]; exact hP') (eW_D hD) hS' hl T' rfl X'
  refine ⟨t2, hst t2 ?_, b1⟩
  simp only at a1 ⊢
  rw [hst2]
  exact a1
def eCalV (own : String) (idx n : Nat) (M : eM) : Prop := (Cond.methodLink own idx M.1 ∈ eTb ∧ Cond.instanceMethod M.1 ∈ eTb ∧ Cond.selects M.1.cls M.1 M.1 ∈ eTb ∧ Cond.initialized M.1.cls ∈ eTb ∧ Cond.code M.1 M.2.1 M.2.2.1 M.2.2.2.1 ∈ eTb) ∧ M.2.2.2.2.cells = 0 ∧ M.2.2.2.2.slots = 0 ∧ M.1.cls ≠ "java/lang/invoke/MethodHandle" ∧ M.1.cls ≠ "java/lang/invoke/VarHandle" ∧ (parseMethodDescriptor M.1.desc).map (fun d => d.parameters.length) = some n
def eCalS (own : String) (idx n : Nat) (M : eM) : Prop := (Cond.methodLink own idx M.1 ∈ eTb ∧ Cond.static M.1 ∈ eTb ∧ Cond.initialized M.1.cls ∈ eTb ∧ Cond.code M.1 M.2.1 M.2.2.1 M.2.2.2.1 ∈ eTb) ∧ M.2.2.2.2.cells = 0 ∧ M.2.2.2.2.slots = 0 ∧ M.1.cls ≠ "java/lang/invoke/MethodHandle" ∧ M.1.cls ≠ "java/lang/invoke/VarHandle" ∧ (parseMethodDescriptor M.1.desc).map (fun d => d.parameters.length) = some n
def eCalN (n : Nat) (M : eM) : Prop := (Cond.static M.1 ∈ eTb ∧ Cond.initialized M.1.cls ∈ eTb ∧ Cond.code M.1 M.2.1 M.2.2.1 M.2.2.2.1 ∈ eTb) ∧ M.2.2.2.2.cells = 0 ∧ M.2.2.2.2.slots = 0 ∧ M.1.cls ≠ "java/lang/invoke/MethodHandle" ∧ M.1.cls ≠ "java/lang/invoke/VarHandle" ∧ (parseMethodDescriptor M.1.desc).map (fun d => d.parameters.length) = some n
def eRm (R : Room) (M : eM) : Prop := M.2.2.2.2.frames + 1 ≤ R.frames ∧ 8 + (M.2.2.1 + 11) + M.2.2.2.2.locals ≤ R.locals
theorem ww_callV {M : eM} {idx n k ci N : Nat} {fd : Nat → Nat × Nat} {As : List Value} {q : vw_C} (C : CX X B A R own cc nL kc ks) (d : decode cc pc = .ok (.invokevirtual idx, 3)) (hn : pc + 3 = nx) (w : eCalV own idx n M) (hq : vwCl[ci]? = some q) (hq1 : q.1 = M.1.cls) (hR : eRm R M) (hk : Nat.blt k eN = true) (hs : eSh k = .inr (ci, N, fd)) (hlen : As.length = n) (hst : (st.map fun v => v.category).sum ≤ 8)
    (hrun : Run (xLa X) B M (.ref k :: As) σ r τ) (kk : WW X B A nL kc ks Q τ nx ls (r.toList ++ st)) : WW X B A nL kc ks Q σ pc ls (As.reverse ++ .ref k :: st) := by
  subst hn
  have hk := Nat.blt_eq.mp hk
  intro H locs la hP hD hS hl
  obtain ⟨⟨w1, w2, w3, w4, w5⟩, m1, m2, m3, m4, m5⟩ := w
  have hts := C.2.2.2.2.1
  have hat := eW_at B σ hk
  rw [eC_o hs] at hat
  have hrv := va_recv C.2.2.2.2.2.1 hP hq hat
  rw [hq1] at hrv
  refine ww_back (av := .ref k :: As) C hD hS hl (va_runV (As := As.map (eV B.2.2)) (C := M.1.cls) (bytes := M.2.1) (maxL := M.2.2.1) (ret := M.2.2.2.1) (n := n) (Ts := eTb) ⟨C.1, C.2.1, C.2.2.1, C.2.2.2.1, hts⟩ (hrun H.size) (cwV n hts ?_ rfl m1 m2 ⟨rfl, m3, m4, m5⟩ (by rw [C.2.2.2.2.2.2.2.2.2.2]; exact hR)) ⟨eP_blind, hrv, eP_at C hP hD hS⟩ rfl (by rw [List.length_map]; exact hlen) hl.1 ?_ ?_ d (by rw [C.2.2.2.2.2.2.2.2.2.2]; exact ⟨C.2.2.2.2.2.2.2.2.1, C.2.2.2.2.2.2.2.2.2.1⟩)) kk
  · have hG := eGoodIn w5
    intro v hv
    rcases List.mem_append.mp hv with h | h
    · have hm : v ∈ eTb := by
        simp only [List.mem_cons, List.not_mem_nil, or_false] at h
        rcases h with rfl | rfl | rfl | rfl
        · exact w1
        · exact w2
        · exact w3
        · exact w4
      exact ⟨hm, good_of_word (eGood hm)⟩
    · exact hG v h
  · simp [List.map_reverse, eV]
  · exact lv_room (by rw [eCat]; exact hst)
theorem ww_callS {M : eM} {idx n : Nat} {As : List Value} (C : CX X B A R own cc nL kc ks) (d : decode cc pc = .ok (.invokestatic idx, 3)) (hn : pc + 3 = nx) (w : eCalS own idx n M) (hR : eRm R M) (hlen : As.length = n) (hst : (st.map fun v => v.category).sum ≤ 8)
    (hrun : Run (xLa X) B M As σ r τ) (kk : WW X B A nL kc ks Q τ nx ls (r.toList ++ st)) : WW X B A nL kc ks Q σ pc ls (As.reverse ++ st) := by
  subst hn
  intro H locs la hP hD hS hl
  obtain ⟨⟨w1, w2, w3, w5⟩, m1, m2, m3, m4, m5⟩ := w
  have hts := C.2.2.2.2.1
  refine ww_back (av := As) C hD hS hl (va_runS (As := As.map (eV B.2.2)) (bytes := M.2.1) (maxL := M.2.2.1) (ret := M.2.2.2.1) (n := n) (Ts := eTb) ⟨C.1, C.2.1, C.2.2.1, C.2.2.2.1, hts⟩ (hrun H.size) (va_cwS n hts ?_ rfl m1 m2 ⟨m3, m4, m5⟩ (by rw [C.2.2.2.2.2.2.2.2.2.2]; exact hR)) ⟨eP_blind, eP_at C hP hD hS⟩ rfl (by rw [List.length_map]; exact hlen) hl.1 ?_ ?_ d (by rw [C.2.2.2.2.2.2.2.2.2.2]; exact ⟨C.2.2.2.2.2.2.2.2.1, C.2.2.2.2.2.2.2.2.2.1⟩)) kk
  · have hG := eGoodIn w5
    intro v hv
    rcases List.mem_append.mp hv with h | h
    · have hm : v ∈ eTb := by
        simp only [List.mem_cons, List.not_mem_nil, or_false] at h
        rcases h with rfl | rfl | rfl
        · exact w1
        · exact w2
        · exact w3
      exact ⟨hm, good_of_word (eGood hm)⟩
    · exact hG v h
  · simp [List.map_reverse]
  · exact lv_room (by rw [eCat]; exact hst)
theorem ww_callN {M : eM} {idx n : Nat} {host : String} {As : List Value} (C : CX X B A R own cc nL kc ks) (d : decode cc pc = .ok (.invokestatic idx, 3)) (hn : pc + 3 = nx) (w0 : va_Nw (.methodLinkNest own idx M.1 host) (xS X)) (w : eCalN n M) (hR : eRm R M) (hlen : As.length = n) (hst : (st.map fun v => v.category).sum ≤ 8)
    (hrun : Run (xLa X) B M As σ r τ) (kk : WW X B A nL kc ks Q τ nx ls (r.toList ++ st)) : WW X B A nL kc ks Q σ pc ls (As.reverse ++ st) := by
  subst hn
  intro H locs la hP hD hS hl
  obtain ⟨⟨w2, w3, w5⟩, m1, m2, m3, m4, m5⟩ := w
  have hts := C.2.2.2.2.1
  refine ww_back (av := As) C hD hS hl (va_runSN (As := As.map (eV B.2.2)) (host := host) (bytes := M.2.1) (maxL := M.2.2.1) (ret := M.2.2.2.1) (n := n) (Ts := eTb) ⟨C.1, C.2.1, C.2.2.1, C.2.2.2.1, hts⟩ (hrun H.size) ⟨va_cnB n hts (eGoodIn w5) rfl m1 m2 w0 (hts _ w3) ⟨m3, m4, m5⟩ (by rw [C.2.2.2.2.2.2.2.2.2.2]; exact hR), hts _ w2, trivial⟩ ⟨eP_blind, eP_at C hP hD hS⟩ rfl (by rw [List.length_map]; exact hlen) hl.1 ?_ ?_ d (by rw [C.2.2.2.2.2.2.2.2.2.2]; exact ⟨C.2.2.2.2.2.2.2.2.1, C.2.2.2.2.2.2.2.2.2.1⟩)) kk
  · simp [List.map_reverse]
  · exact lv_room (by rw [eCat]; exact hst)

theorem ww_cV01 {v : Value} {M : eM} {idx k ci N : Nat} {fd : Nat → Nat × Nat} {q : vw_C} (C : CX X B A R own cc nL kc ks) (d : decode cc pc = .ok (.invokevirtual idx, 3)) (hn : pc + 3 = nx) (w : eCalV own idx 0 M) (hq : vwCl[ci]? = some q) (hq1 : q.1 = M.1.cls) (hR : eRm R M) (hk : Nat.blt k eN = true) (hs : eSh k = .inr (ci, N, fd)) (hst : (st.map fun v => v.category).sum ≤ 8) (hrun : Run (xLa X) B M (.ref k :: []) σ (some v) τ) (kk : WW X B A nL kc ks Q τ nx ls (v :: st)) : WW X B A nL kc ks Q σ pc ls (.ref k :: st) := ww_callV (As := []) C d hn w hq hq1 hR hk hs rfl hst hrun kk
theorem ww_cV00 {M : eM} {idx k ci N : Nat} {fd : Nat → Nat × Nat} {q : vw_C} (C : CX X B A R own cc nL kc ks) (d : decode cc pc = .ok (.invokevirtual idx, 3)) (hn : pc + 3 = nx) (w : eCalV own idx 0 M) (hq : vwCl[ci]? = some q) (hq1 : q.1 = M.1.cls) (hR : eRm R M) (hk : Nat.blt k eN = true) (hs : eSh k = .inr (ci, N, fd)) (hst : (st.map fun v => v.category).sum ≤ 8) (hrun : Run (xLa X) B M (.ref k :: []) σ (none) τ) (kk : WW X B A nL kc ks Q τ nx ls st) : WW X B A nL kc ks Q σ pc ls (.ref k :: st) := ww_callV (As := []) C d hn w hq hq1 hR hk hs rfl hst hrun kk
theorem ww_cV11 {a1 : Value} {v : Value} {M : eM} {idx k ci N : Nat} {fd : Nat → Nat × Nat} {q : vw_C} (C : CX X B A R own cc nL kc ks) (d : decode cc pc = .ok (.invokevirtual idx, 3)) (hn : pc + 3 = nx) (w : eCalV own idx 1 M) (hq : vwCl[ci]? = some q) (hq1 : q.1 = M.1.cls) (hR : eRm R M) (hk : Nat.blt k eN = true) (hs : eSh k = .inr (ci, N, fd)) (hst : (st.map fun v => v.category).sum ≤ 8) (hrun : Run (xLa X) B M (.ref k :: [a1]) σ (some v) τ) (kk : WW X B A nL kc ks Q τ nx ls (v :: st)) : WW X B A nL kc ks Q σ pc ls (a1 :: .ref k :: st) := ww_callV (As := [a1]) C d hn w hq hq1 hR hk hs rfl hst hrun kk
theorem ww_cS11 {a1 : Value} {v : Value} {M : eM} {idx : Nat} (C : CX X B A R own cc nL kc ks) (d : decode cc pc = .ok (.invokestatic idx, 3)) (hn : pc + 3 = nx) (w : eCalS own idx 1 M) (hR : eRm R M) (hst : (st.map fun v => v.category).sum ≤ 8) (hrun : Run (xLa X) B M [a1] σ (some v) τ) (kk : WW X B A nL kc ks Q τ nx ls (v :: st)) : WW X B A nL kc ks Q σ pc ls (a1 :: st) := ww_callS (As := [a1]) C d hn w hR rfl hst hrun kk
theorem ww_cV10 {a1 : Value} {M : eM} {idx k ci N : Nat} {fd : Nat → Nat × Nat} {q : vw_C} (C : CX X B A R own cc nL kc ks) (d : decode cc pc = .ok (.invokevirtual idx, 3)) (hn : pc + 3 = nx) (w : eCalV own idx 1 M) (hq : vwCl[ci]? = some q) (hq1 : q.1 = M.1.cls) (hR : eRm R M) (hk : Nat.blt k eN = true) (hs : eSh k = .inr (ci, N, fd)) (hst : (st.map fun v => v.category).sum ≤ 8) (hrun : Run (xLa X) B M (.ref k :: [a1]) σ (none) τ) (kk : WW X B A nL kc ks Q τ nx ls st) : WW X B A nL kc ks Q σ pc ls (a1 :: .ref k :: st) := ww_callV (As := [a1]) C d hn w hq hq1 hR hk hs rfl hst hrun kk
theorem ww_cS10 {a1 : Value} {M : eM} {idx : Nat} (C : CX X B A R own cc nL kc ks) (d : decode cc pc = .ok (.invokestatic idx, 3)) (hn : pc + 3 = nx) (w : eCalS own idx 1 M) (hR : eRm R M) (hst : (st.map fun v => v.category).sum ≤ 8) (hrun : Run (xLa X) B M [a1] σ (none) τ) (kk : WW X B A nL kc ks Q τ nx ls st) : WW X B A nL kc ks Q σ pc ls (a1 :: st) := ww_callS (As := [a1]) C d hn w hR rfl hst hrun kk
theorem ww_cV21 {a1 a2 : Value} {v : Value} {M : eM} {idx k ci N : Nat} {fd : Nat → Nat × Nat} {q : vw_C} (C : CX X B A R own cc nL kc ks) (d : decode cc pc = .ok (.invokevirtual idx, 3)) (hn : pc + 3 = nx) (w : eCalV own idx 2 M) (hq : vwCl[ci]? = some q) (hq1 : q.1 = M.1.cls) (hR : eRm R M) (hk : Nat.blt k eN = true) (hs : eSh k = .inr (ci, N, fd)) (hst : (st.map fun v => v.category).sum ≤ 8) (hrun : Run (xLa X) B M (.ref k :: [a1, a2]) σ (some v) τ) (kk : WW X B A nL kc ks Q τ nx ls (v :: st)) : WW X B A nL kc ks Q σ pc ls (a2 :: a1 :: .ref k :: st) := ww_callV (As := [a1, a2]) C d hn w hq hq1 hR hk hs rfl hst hrun kk
theorem ww_cS21 {a1 a2 : Value} {v : Value} {M : eM} {idx : Nat} (C : CX X B A R own cc nL kc ks) (d : decode cc pc = .ok (.invokestatic idx, 3)) (hn : pc + 3 = nx) (w : eCalS own idx 2 M) (hR : eRm R M) (hst : (st.map fun v => v.category).sum ≤ 8) (hrun : Run (xLa X) B M [a1, a2] σ (some v) τ) (kk : WW X B A nL kc ks Q τ nx ls (v :: st)) : WW X B A nL kc ks Q σ pc ls (a2 :: a1 :: st) := ww_callS (As := [a1, a2]) C d hn w hR rfl hst hrun kk
theorem ww_cV20 {a1 a2 : Value} {M : eM} {idx k ci N : Nat} {fd : Nat → Nat × Nat} {q : vw_C} (C : CX X B A R own cc nL kc ks) (d : decode cc pc = .ok (.invokevirtual idx, 3)) (hn : pc + 3 = nx) (w : eCalV own idx 2 M) (hq : vwCl[ci]? = some q) (hq1 : q.1 = M.1.cls) (hR : eRm R M) (hk : Nat.blt k eN = true) (hs : eSh k = .inr (ci, N, fd)) (hst : (st.map fun v => v.category).sum ≤ 8) (hrun : Run (xLa X) B M (.ref k :: [a1, a2]) σ (none) τ) (kk : WW X B A nL kc ks Q τ nx ls st) : WW X B A nL kc ks Q σ pc ls (a2 :: a1 :: .ref k :: st) := ww_callV (As := [a1, a2]) C d hn w hq hq1 hR hk hs rfl hst hrun kk
theorem ww_cS20 {a1 a2 : Value} {M : eM} {idx : Nat} (C : CX X B A R own cc nL kc ks) (d : decode cc pc = .ok (.invokestatic idx, 3)) (hn : pc + 3 = nx) (w : eCalS own idx 2 M) (hR : eRm R M) (hst : (st.map fun v => v.category).sum ≤ 8) (hrun : Run (xLa X) B M [a1, a2] σ (none) τ) (kk : WW X B A nL kc ks Q τ nx ls st) : WW X B A nL kc ks Q σ pc ls (a2 :: a1 :: st) := ww_callS (As := [a1, a2]) C d hn w hR rfl hst hrun kk
theorem ww_cV31 {a1 a2 a3 : Value} {v : Value} {M : eM} {idx k ci N : Nat} {fd : Nat → Nat × Nat} {q : vw_C} (C : CX X B A R own cc nL kc ks) (d : decode cc pc = .ok (.invokevirtual idx, 3)) (hn : pc + 3 = nx) (w : eCalV own idx 3 M) (hq : vwCl[ci]? = some q) (hq1 : q.1 = M.1.cls) (hR : eRm R M) (hk : Nat.blt k eN = true) (hs : eSh k = .inr (ci, N, fd)) (hst : (st.map fun v => v.category).sum ≤ 8) (hrun : Run (xLa X) B M (.ref k :: [a1, a2, a3]) σ (some v) τ) (kk : WW X B A nL kc ks Q τ nx ls (v :: st)) : WW X B A nL kc ks Q σ pc ls (a3 :: a2 :: a1 :: .ref k :: st) := ww_callV (As := [a1, a2, a3]) C d hn w hq hq1 hR hk hs rfl hst hrun kk
theorem ww_cS31 {a1 a2 a3 : Value} {v : Value} {M : eM} {idx : Nat} (C : CX X B A R own cc nL kc ks) (d : decode cc pc = .ok (.invokestatic idx, 3)) (hn : pc + 3 = nx) (w : eCalS own idx 3 M) (hR : eRm R M) (hst : (st.map fun v => v.category).sum ≤ 8) (hrun : Run (xLa X) B M [a1, a2, a3] σ (some v) τ) (kk : WW X B A nL kc ks Q τ nx ls (v :: st)) : WW X B A nL kc ks Q σ pc ls (a3 :: a2 :: a1 :: st) := ww_callS (As := [a1, a2, a3]) C d hn w hR rfl hst hrun kk
theorem ww_cV30 {a1 a2 a3 : Value} {M : eM} {idx k ci N : Nat} {fd : Nat → Nat × Nat} {q : vw_C} (C : CX X B A R own cc nL kc ks) (d : decode cc pc = .ok (.invokevirtual idx, 3)) (hn : pc + 3 = nx) (w : eCalV own idx 3 M) (hq : vwCl[ci]? = some q) (hq1 : q.1 = M.1.cls) (hR : eRm R M) (hk : Nat.blt k eN = true) (hs : eSh k = .inr (ci, N, fd)) (hst : (st.map fun v => v.category).sum ≤ 8) (hrun : Run (xLa X) B M (.ref k :: [a1, a2, a3]) σ (none) τ) (kk : WW X B A nL kc ks Q τ nx ls st) : WW X B A nL kc ks Q σ pc ls (a3 :: a2 :: a1 :: .ref k :: st) := ww_callV (As := [a1, a2, a3]) C d hn w hq hq1 hR hk hs rfl hst hrun kk
theorem ww_cS30 {a1 a2 a3 : Value} {M : eM} {idx : Nat} (C : CX X B A R own cc nL kc ks) (d : decode cc pc = .ok (.invokestatic idx, 3)) (hn : pc + 3 = nx) (w : eCalS own idx 3 M) (hR : eRm R M) (hst : (st.map fun v => v.category).sum ≤ 8) (hrun : Run (xLa X) B M [a1, a2, a3] σ (none) τ) (kk : WW X B A nL kc ks Q τ nx ls st) : WW X B A nL kc ks Q σ pc ls (a3 :: a2 :: a1 :: st) := ww_callS (As := [a1, a2, a3]) C d hn w hR rfl hst hrun kk
theorem ww_cV41 {a1 a2 a3 a4 : Value} {v : Value} {M : eM} {idx k ci N : Nat} {fd : Nat → Nat × Nat} {q : vw_C} (C : CX X B A R own cc nL kc ks) (d : decode cc pc = .ok (.invokevirtual idx, 3)) (hn : pc + 3 = nx) (w : eCalV own idx 4 M) (hq : vwCl[ci]? = some q) (hq1 : q.1 = M.1.cls) (hR : eRm R M) (hk : Nat.blt k eN = true) (hs : eSh k = .inr (ci, N, fd)) (hst : (st.map fun v => v.category).sum ≤ 8) (hrun : Run (xLa X) B M (.ref k :: [a1, a2, a3, a4]) σ (some v) τ) (kk : WW X B A nL kc ks Q τ nx ls (v :: st)) : WW X B A nL kc ks Q σ pc ls (a4 :: a3 :: a2 :: a1 :: .ref k :: st) := ww_callV (As := [a1, a2, a3, a4]) C d hn w hq hq1 hR hk hs rfl hst hrun kk
theorem ww_cS41 {a1 a2 a3 a4 : Value} {v : Value} {M : eM} {idx : Nat} (C : CX X B A R own cc nL kc ks) (d : decode cc pc = .ok (.invokestatic idx, 3)) (hn : pc + 3 = nx) (w : eCalS own idx 4 M) (hR : eRm R M) (hst : (st.map fun v => v.category).sum ≤ 8) (hrun : Run (xLa X) B M [a1, a2, a3, a4] σ (some v) τ) (kk : WW X B A nL kc ks Q τ nx ls (v :: st)) : WW X B A nL kc ks Q σ pc ls (a4 :: a3 :: a2 :: a1 :: st) := ww_callS (As := [a1, a2, a3, a4]) C d hn w hR rfl hst hrun kk
theorem ww_cV40 {a1 a2 a3 a4 : Value} {M : eM} {idx k ci N : Nat} {fd : Nat → Nat × Nat} {q : vw_C} (C : CX X B A R own cc nL kc ks) (d : decode cc pc = .ok (.invokevirtual idx, 3)) (hn : pc + 3 = nx) (w : eCalV own idx 4 M) (hq : vwCl[ci]? = some q) (hq1 : q.1 = M.1.cls) (hR : eRm R M) (hk : Nat.blt k eN = true) (hs : eSh k = .inr (ci, N, fd)) (hst : (st.map fun v => v.category).sum ≤ 8) (hrun : Run (xLa X) B M (.ref k :: [a1, a2, a3, a4]) σ (none) τ) (kk : WW X B A nL kc ks Q τ nx ls st) : WW X B A nL kc ks Q σ pc ls (a4 :: a3 :: a2 :: a1 :: .ref k :: st) := ww_callV (As := [a1, a2, a3, a4]) C d hn w hq hq1 hR hk hs rfl hst hrun kk
theorem ww_cS40 {a1 a2 a3 a4 : Value} {M : eM} {idx : Nat} (C : CX X B A R own cc nL kc ks) (d : decode cc pc = .ok (.invokestatic idx, 3)) (hn : pc + 3 = nx) (w : eCalS own idx 4 M) (hR : eRm R M) (hst : (st.map fun v => v.category).sum ≤ 8) (hrun : Run (xLa X) B M [a1, a2, a3, a4] σ (none) τ) (kk : WW X B A nL kc ks Q τ nx ls st) : WW X B A nL kc ks Q σ pc ls (a4 :: a3 :: a2 :: a1 :: st) := ww_callS (As := [a1, a2, a3, a4]) C d hn w hR rfl hst hrun kk
theorem ww_cV51 {a1 a2 a3 a4 a5 : Value} {v : Value} {M : eM} {idx k ci N : Nat} {fd : Nat → Nat × Nat} {q : vw_C} (C : CX X B A R own cc nL kc ks) (d : decode cc pc = .ok (.invokevirtual idx, 3)) (hn : pc + 3 = nx) (w : eCalV own idx 5 M) (hq : vwCl[ci]? = some q) (hq1 : q.1 = M.1.cls) (hR : eRm R M) (hk : Nat.blt k eN = true) (hs : eSh k = .inr (ci, N, fd)) (hst : (st.map fun v => v.category).sum ≤ 8) (hrun : Run (xLa X) B M (.ref k :: [a1, a2, a3, a4, a5]) σ (some v) τ) (kk : WW X B A nL kc ks Q τ nx ls (v :: st)) : WW X B A nL kc ks Q σ pc ls (a5 :: a4 :: a3 :: a2 :: a1 :: .ref k :: st) := ww_callV (As := [a1, a2, a3, a4, a5]) C d hn w hq hq1 hR hk hs rfl hst hrun kk
theorem ww_cS51 {a1 a2 a3 a4 a5 : Value} {v : Value} {M : eM} {idx : Nat} (C : CX X B A R own cc nL kc ks) (d : decode cc pc = .ok (.invokestatic idx, 3)) (hn : pc + 3 = nx) (w : eCalS own idx 5 M) (hR : eRm R M) (hst : (st.map fun v => v.category).sum ≤ 8) (hrun : Run (xLa X) B M [a1, a2, a3, a4, a5] σ (some v) τ) (kk : WW X B A nL kc ks Q τ nx ls (v :: st)) : WW X B A nL kc ks Q σ pc ls (a5 :: a4 :: a3 :: a2 :: a1 :: st) := ww_callS (As := [a1, a2, a3, a4, a5]) C d hn w hR rfl hst hrun kk
theorem ww_cV50 {a1 a2 a3 a4 a5 : Value} {M : eM} {idx k ci N : Nat} {fd : Nat → Nat × Nat} {q : vw_C} (C : CX X B A R own cc nL kc ks) (d : decode cc pc = .ok (.invokevirtual idx, 3)) (hn : pc + 3 = nx) (w : eCalV own idx 5 M) (hq : vwCl[ci]? = some q) (hq1 : q.1 = M.1.cls) (hR : eRm R M) (hk : Nat.blt k eN = true) (hs : eSh k = .inr (ci, N, fd)) (hst : (st.map fun v => v.category).sum ≤ 8) (hrun : Run (xLa X) B M (.ref k :: [a1, a2, a3, a4, a5]) σ (none) τ) (kk : WW X B A nL kc ks Q τ nx ls st) : WW X B A nL kc ks Q σ pc ls (a5 :: a4 :: a3 :: a2 :: a1 :: .ref k :: st) := ww_callV (As := [a1, a2, a3, a4, a5]) C d hn w hq hq1 hR hk hs rfl hst hrun kk
theorem ww_cS50 {a1 a2 a3 a4 a5 : Value} {M : eM} {idx : Nat} (C : CX X B A R own cc nL kc ks) (d : decode cc pc = .ok (.invokestatic idx, 3)) (hn : pc + 3 = nx) (w : eCalS own idx 5 M) (hR : eRm R M) (hst : (st.map fun v => v.category).sum ≤ 8) (hrun : Run (xLa X) B M [a1, a2, a3, a4, a5] σ (none) τ) (kk : WW X B A nL kc ks Q τ nx ls st) : WW X B A nL kc ks Q σ pc ls (a5 :: a4 :: a3 :: a2 :: a1 :: st) := ww_callS (As := [a1, a2, a3, a4, a5]) C d hn w hR rfl hst hrun kk
theorem ww_cN31 {a1 a2 a3 v : Value} {M : eM} {idx : Nat} {host : String} (C : CX X B A R own cc nL kc ks) (d : decode cc pc = .ok (.invokestatic idx, 3)) (hn : pc + 3 = nx) (w0 : va_Nw (.methodLinkNest own idx M.1 host) (xS X)) (w : eCalN 3 M) (hR : eRm R M) (hst : (st.map fun v => v.category).sum ≤ 8) (hrun : Run (xLa X) B M [a1, a2, a3] σ (some v) τ) (kk : WW X B A nL kc ks Q τ nx ls (v :: st)) : WW X B A nL kc ks Q σ pc ls (a3 :: a2 :: a1 :: st) := ww_callN (As := [a1, a2, a3]) C d hn w0 w hR rfl hst hrun kk
end ER
end
section
theorem zz_last : True := trivial
end
