section
-- ===== PART A: goes FIRST, ahead of the names: the tables' words, and 'selects' of the private methods out of them =====
/-- a private method of a class that the tables say can be made, by its rows of tables_1 -/
def lw_okq (q : MethodName × Nat) : Prop := (q.1.cls ≠ "java/lang/invoke/MethodHandle" ∧ q.1.cls ≠ "java/lang/invoke/VarHandle") ∧ Cond.instantiable q.1.cls q.2 ∈ tables_1 ∧ Cond.privateMethod q.1 ∈ tables_1 ∧ Cond.instanceMethod q.1 ∈ tables_1
theorem lw_p0 : lw_okq (⟨"EclipseSeats", "bad", "(I)I"⟩, 13) := ⟨⟨by decide +kernel, by decide +kernel⟩, List.mem_of_getElem? (i := 16) (by decide +kernel), List.mem_of_getElem? (i := 227) (by decide +kernel), List.mem_of_getElem? (i := 228) (by decide +kernel)⟩
theorem lw_p1 : lw_okq (⟨"EclipseSeats", "full", "()I"⟩, 13) := ⟨⟨by decide +kernel, by decide +kernel⟩, List.mem_of_getElem? (i := 16) (by decide +kernel), List.mem_of_getElem? (i := 247) (by decide +kernel), List.mem_of_getElem? (i := 248) (by decide +kernel)⟩
theorem lw_p2 : lw_okq (⟨"EclipseSeats$Text", "step", "()V"⟩, 6) := ⟨⟨by decide +kernel, by decide +kernel⟩, List.mem_of_getElem? (i := 97) (by decide +kernel), List.mem_of_getElem? (i := 275) (by decide +kernel), List.mem_of_getElem? (i := 276) (by decide +kernel)⟩
theorem lw_p3 : lw_okq (⟨"EclipseSeats$Text", "takeItem", "(LEclipseSeats$Hill;Z)Z"⟩, 6) := ⟨⟨by decide +kernel, by decide +kernel⟩, List.mem_of_getElem? (i := 97) (by decide +kernel), List.mem_of_getElem? (i := 285) (by decide +kernel), List.mem_of_getElem? (i := 286) (by decide +kernel)⟩
theorem lw_p4 : lw_okq (⟨"EclipseSeats$Text", "isWord", "(Ljava/lang/String;)Z"⟩, 6) := ⟨⟨by decide +kernel, by decide +kernel⟩, List.mem_of_getElem? (i := 97) (by decide +kernel), List.mem_of_getElem? (i := 290) (by decide +kernel), List.mem_of_getElem? (i := 291) (by decide +kernel)⟩
theorem lw_p5 : lw_okq (⟨"EclipseSeats$Text", "takeTrack", "(LEclipseSeats$Hill;)Z"⟩, 6) := ⟨⟨by decide +kernel, by decide +kernel⟩, List.mem_of_getElem? (i := 97) (by decide +kernel), List.mem_of_getElem? (i := 342) (by decide +kernel), List.mem_of_getElem? (i := 343) (by decide +kernel)⟩
theorem lw_p6 : lw_okq (⟨"EclipseSeats$Text", "takeNumber", "(I)Z"⟩, 6) := ⟨⟨by decide +kernel, by decide +kernel⟩, List.mem_of_getElem? (i := 97) (by decide +kernel), List.mem_of_getElem? (i := 346) (by decide +kernel), List.mem_of_getElem? (i := 347) (by decide +kernel)⟩
theorem lw_p7 : lw_okq (⟨"EclipseSeats$Text", "takeDark", "(LEclipseSeats$Hill;)Z"⟩, 6) := ⟨⟨by decide +kernel, by decide +kernel⟩, List.mem_of_getElem? (i := 97) (by decide +kernel), List.mem_of_getElem? (i := 351) (by decide +kernel), List.mem_of_getElem? (i := 352) (by decide +kernel)⟩
theorem lw_p8 : lw_okq (⟨"EclipseSeats$Text", "takeHeights", "(LEclipseSeats$Hill;)Z"⟩, 6) := ⟨⟨by decide +kernel, by decide +kernel⟩, List.mem_of_getElem? (i := 97) (by decide +kernel), List.mem_of_getElem? (i := 356) (by decide +kernel), List.mem_of_getElem? (i := 357) (by decide +kernel)⟩
theorem lw_p9 : lw_okq (⟨"EclipseSeats$Text", "takeBidder", "(LEclipseSeats$Hill;)Z"⟩, 6) := ⟨⟨by decide +kernel, by decide +kernel⟩, List.mem_of_getElem? (i := 97) (by decide +kernel), List.mem_of_getElem? (i := 361) (by decide +kernel), List.mem_of_getElem? (i := 362) (by decide +kernel)⟩
theorem lw_p10 : lw_okq (⟨"EclipseSeats$Text", "takeSeat", "(LEclipseSeats$Hill;)Z"⟩, 6) := ⟨⟨by decide +kernel, by decide +kernel⟩, List.mem_of_getElem? (i := 97) (by decide +kernel), List.mem_of_getElem? (i := 367) (by decide +kernel), List.mem_of_getElem? (i := 368) (by decide +kernel)⟩
theorem lw_p11 : lw_okq (⟨"EclipseSeats$Text", "takeStop", "()Z"⟩, 6) := ⟨⟨by decide +kernel, by decide +kernel⟩, List.mem_of_getElem? (i := 97) (by decide +kernel), List.mem_of_getElem? (i := 375) (by decide +kernel), List.mem_of_getElem? (i := 376) (by decide +kernel)⟩
theorem lw_p12 : lw_okq (⟨"EclipseSeats", "no", "()I"⟩, 13) := ⟨⟨by decide +kernel, by decide +kernel⟩, List.mem_of_getElem? (i := 16) (by decide +kernel), List.mem_of_getElem? (i := 391) (by decide +kernel), List.mem_of_getElem? (i := 392) (by decide +kernel)⟩
theorem lw_p13 : lw_okq (⟨"EclipseSeats", "isBidder", "(I)Z"⟩, 13) := ⟨⟨by decide +kernel, by decide +kernel⟩, List.mem_of_getElem? (i := 16) (by decide +kernel), List.mem_of_getElem? (i := 451) (by decide +kernel), List.mem_of_getElem? (i := 452) (by decide +kernel)⟩
theorem lw_p14 : lw_okq (⟨"EclipseSeats$Seating", "lookAt", "(LEclipseSeats$Hill;I)V"⟩, 4) := ⟨⟨by decide +kernel, by decide +kernel⟩, List.mem_of_getElem? (i := 126) (by decide +kernel), List.mem_of_getElem? (i := 525) (by decide +kernel), List.mem_of_getElem? (i := 526) (by decide +kernel)⟩
theorem lw_p15 : lw_okq (⟨"EclipseSeats$Seating", "spread", "(LEclipseSeats$Hill;II)V"⟩, 4) := ⟨⟨by decide +kernel, by decide +kernel⟩, List.mem_of_getElem? (i := 126) (by decide +kernel), List.mem_of_getElem? (i := 532) (by decide +kernel), List.mem_of_getElem? (i := 533) (by decide +kernel)⟩
def lw_privs_1 : List (MethodName × Nat) := [(⟨"EclipseSeats", "bad", "(I)I"⟩, 13), (⟨"EclipseSeats", "full", "()I"⟩, 13), (⟨"EclipseSeats$Text", "step", "()V"⟩, 6), (⟨"EclipseSeats$Text", "takeItem", "(LEclipseSeats$Hill;Z)Z"⟩, 6), (⟨"EclipseSeats$Text", "isWord", "(Ljava/lang/String;)Z"⟩, 6), (⟨"EclipseSeats$Text", "takeTrack", "(LEclipseSeats$Hill;)Z"⟩, 6), (⟨"EclipseSeats$Text", "takeNumber", "(I)Z"⟩, 6), (⟨"EclipseSeats$Text", "takeDark", "(LEclipseSeats$Hill;)Z"⟩, 6), (⟨"EclipseSeats$Text", "takeHeights", "(LEclipseSeats$Hill;)Z"⟩, 6), (⟨"EclipseSeats$Text", "takeBidder", "(LEclipseSeats$Hill;)Z"⟩, 6), (⟨"EclipseSeats$Text", "takeSeat", "(LEclipseSeats$Hill;)Z"⟩, 6), (⟨"EclipseSeats$Text", "takeStop", "()Z"⟩, 6), (⟨"EclipseSeats", "no", "()I"⟩, 13), (⟨"EclipseSeats", "isBidder", "(I)Z"⟩, 13), (⟨"EclipseSeats$Seating", "lookAt", "(LEclipseSeats$Hill;I)V"⟩, 4), (⟨"EclipseSeats$Seating", "spread", "(LEclipseSeats$Hill;II)V"⟩, 4)]
theorem lw_r1 : ∀ q ∈ lw_privs_1, lw_okq q := List.forall_mem_cons.mpr ⟨lw_p0, List.forall_mem_cons.mpr ⟨lw_p1, List.forall_mem_cons.mpr ⟨lw_p2, List.forall_mem_cons.mpr ⟨lw_p3, List.forall_mem_cons.mpr ⟨lw_p4, List.forall_mem_cons.mpr ⟨lw_p5, List.forall_mem_cons.mpr ⟨lw_p6, List.forall_mem_cons.mpr ⟨lw_p7, List.forall_mem_cons.mpr ⟨lw_p8, List.forall_mem_cons.mpr ⟨lw_p9, List.forall_mem_cons.mpr ⟨lw_p10, List.forall_mem_cons.mpr ⟨lw_p11, List.forall_mem_cons.mpr ⟨lw_p12, List.forall_mem_cons.mpr ⟨lw_p13, List.forall_mem_cons.mpr ⟨lw_p14, List.forall_mem_cons.mpr ⟨lw_p15, fun _ h => absurd h List.not_mem_nil⟩⟩⟩⟩⟩⟩⟩⟩⟩⟩⟩⟩⟩⟩⟩⟩
theorem lw_p16 : lw_okq (⟨"EclipseSeats$Guess", "mostAlike", "(III)I"⟩, 1) := ⟨⟨by decide +kernel, by decide +kernel⟩, List.mem_of_getElem? (i := 164) (by decide +kernel), List.mem_of_getElem? (i := 584) (by decide +kernel), List.mem_of_getElem? (i := 585) (by decide +kernel)⟩
theorem lw_p17 : lw_okq (⟨"EclipseSeats$Guess", "likeOnes", "(I)I"⟩, 1) := ⟨⟨by decide +kernel, by decide +kernel⟩, List.mem_of_getElem? (i := 164) (by decide +kernel), List.mem_of_getElem? (i := 588) (by decide +kernel), List.mem_of_getElem? (i := 589) (by decide +kernel)⟩
theorem lw_p18 : lw_okq (⟨"EclipseSeats", "howMany", "(I)I"⟩, 13) := ⟨⟨by decide +kernel, by decide +kernel⟩, List.mem_of_getElem? (i := 16) (by decide +kernel), List.mem_of_getElem? (i := 664) (by decide +kernel), List.mem_of_getElem? (i := 665) (by decide +kernel)⟩
theorem lw_p19 : lw_okq (⟨"EclipseSeatsModel", "begin", "(II)V"⟩, 32) := ⟨⟨by decide +kernel, by decide +kernel⟩, List.mem_of_getElem? (i := 678) (by decide +kernel), List.mem_of_getElem? (i := 684) (by decide +kernel), List.mem_of_getElem? (i := 685) (by decide +kernel)⟩
theorem lw_p20 : lw_okq (⟨"EclipseSeatsModel", "bad", "()I"⟩, 32) := ⟨⟨by decide +kernel, by decide +kernel⟩, List.mem_of_getElem? (i := 678) (by decide +kernel), List.mem_of_getElem? (i := 795) (by decide +kernel), List.mem_of_getElem? (i := 796) (by decide +kernel)⟩
theorem lw_p21 : lw_okq (⟨"EclipseSeatsModel", "full", "()I"⟩, 32) := ⟨⟨by decide +kernel, by decide +kernel⟩, List.mem_of_getElem? (i := 678) (by decide +kernel), List.mem_of_getElem? (i := 811) (by decide +kernel), List.mem_of_getElem? (i := 812) (by decide +kernel)⟩
theorem lw_p22 : lw_okq (⟨"EclipseSeatsModel", "addOne", "(II)I"⟩, 32) := ⟨⟨by decide +kernel, by decide +kernel⟩, List.mem_of_getElem? (i := 678) (by decide +kernel), List.mem_of_getElem? (i := 815) (by decide +kernel), List.mem_of_getElem? (i := 816) (by decide +kernel)⟩
theorem lw_p23 : lw_okq (⟨"EclipseSeatsModel", "readsHill", "()I"⟩, 32) := ⟨⟨by decide +kernel, by decide +kernel⟩, List.mem_of_getElem? (i := 678) (by decide +kernel), List.mem_of_getElem? (i := 831) (by decide +kernel), List.mem_of_getElem? (i := 832) (by decide +kernel)⟩
theorem lw_p24 : lw_okq (⟨"EclipseSeatsModel", "readsFirst", "()Z"⟩, 32) := ⟨⟨by decide +kernel, by decide +kernel⟩, List.mem_of_getElem? (i := 678) (by decide +kernel), List.mem_of_getElem? (i := 835) (by decide +kernel), List.mem_of_getElem? (i := 836) (by decide +kernel)⟩
theorem lw_p25 : lw_okq (⟨"EclipseSeatsModel", "skip", "()V"⟩, 32) := ⟨⟨by decide +kernel, by decide +kernel⟩, List.mem_of_getElem? (i := 678) (by decide +kernel), List.mem_of_getElem? (i := 839) (by decide +kernel), List.mem_of_getElem? (i := 840) (by decide +kernel)⟩
theorem lw_p26 : lw_okq (⟨"EclipseSeatsModel", "here", "()I"⟩, 32) := ⟨⟨by decide +kernel, by decide +kernel⟩, List.mem_of_getElem? (i := 678) (by decide +kernel), List.mem_of_getElem? (i := 843) (by decide +kernel), List.mem_of_getElem? (i := 844) (by decide +kernel)⟩
theorem lw_p27 : lw_okq (⟨"EclipseSeatsModel", "wordHere", "()I"⟩, 32) := ⟨⟨by decide +kernel, by decide +kernel⟩, List.mem_of_getElem? (i := 678) (by decide +kernel), List.mem_of_getElem? (i := 847) (by decide +kernel), List.mem_of_getElem? (i := 848) (by decide +kernel)⟩
theorem lw_p28 : lw_okq (⟨"EclipseSeatsModel", "wordSize", "()I"⟩, 32) := ⟨⟨by decide +kernel, by decide +kernel⟩, List.mem_of_getElem? (i := 678) (by decide +kernel), List.mem_of_getElem? (i := 851) (by decide +kernel), List.mem_of_getElem? (i := 852) (by decide +kernel)⟩
theorem lw_p29 : lw_okq (⟨"EclipseSeatsModel", "spells", "(IIII)Z"⟩, 32) := ⟨⟨by decide +kernel, by decide +kernel⟩, List.mem_of_getElem? (i := 678) (by decide +kernel), List.mem_of_getElem? (i := 858) (by decide +kernel), List.mem_of_getElem? (i := 859) (by decide +kernel)⟩
theorem lw_p30 : lw_okq (⟨"EclipseSeatsModel", "letter", "(I)I"⟩, 32) := ⟨⟨by decide +kernel, by decide +kernel⟩, List.mem_of_getElem? (i := 678) (by decide +kernel), List.mem_of_getElem? (i := 862) (by decide +kernel), List.mem_of_getElem? (i := 863) (by decide +kernel)⟩
theorem lw_p31 : lw_okq (⟨"EclipseSeatsModel", "number", "(II)Z"⟩, 32) := ⟨⟨by decide +kernel, by decide +kernel⟩, List.mem_of_getElem? (i := 678) (by decide +kernel), List.mem_of_getElem? (i := 866) (by decide +kernel), List.mem_of_getElem? (i := 867) (by decide +kernel)⟩
def lw_privs_2 : List (MethodName × Nat) := [(⟨"EclipseSeats$Guess", "mostAlike", "(III)I"⟩, 1), (⟨"EclipseSeats$Guess", "likeOnes", "(I)I"⟩, 1), (⟨"EclipseSeats", "howMany", "(I)I"⟩, 13), (⟨"EclipseSeatsModel", "begin", "(II)V"⟩, 32), (⟨"EclipseSeatsModel", "bad", "()I"⟩, 32), (⟨"EclipseSeatsModel", "full", "()I"⟩, 32), (⟨"EclipseSeatsModel", "addOne", "(II)I"⟩, 32), (⟨"EclipseSeatsModel", "readsHill", "()I"⟩, 32), (⟨"EclipseSeatsModel", "readsFirst", "()Z"⟩, 32), (⟨"EclipseSeatsModel", "skip", "()V"⟩, 32), (⟨"EclipseSeatsModel", "here", "()I"⟩, 32), (⟨"EclipseSeatsModel", "wordHere", "()I"⟩, 32), (⟨"EclipseSeatsModel", "wordSize", "()I"⟩, 32), (⟨"EclipseSeatsModel", "spells", "(IIII)Z"⟩, 32), (⟨"EclipseSeatsModel", "letter", "(I)I"⟩, 32), (⟨"EclipseSeatsModel", "number", "(II)Z"⟩, 32)]
theorem lw_r2 : ∀ q ∈ lw_privs_2, lw_okq q := List.forall_mem_cons.mpr ⟨lw_p16, List.forall_mem_cons.mpr ⟨lw_p17, List.forall_mem_cons.mpr ⟨lw_p18, List.forall_mem_cons.mpr ⟨lw_p19, List.forall_mem_cons.mpr ⟨lw_p20, List.forall_mem_cons.mpr ⟨lw_p21, List.forall_mem_cons.mpr ⟨lw_p22, List.forall_mem_cons.mpr ⟨lw_p23, List.forall_mem_cons.mpr ⟨lw_p24, List.forall_mem_cons.mpr ⟨lw_p25, List.forall_mem_cons.mpr ⟨lw_p26, List.forall_mem_cons.mpr ⟨lw_p27, List.forall_mem_cons.mpr ⟨lw_p28, List.forall_mem_cons.mpr ⟨lw_p29, List.forall_mem_cons.mpr ⟨lw_p30, List.forall_mem_cons.mpr ⟨lw_p31, fun _ h => absurd h List.not_mem_nil⟩⟩⟩⟩⟩⟩⟩⟩⟩⟩⟩⟩⟩⟩⟩⟩
theorem lw_p32 : lw_okq (⟨"EclipseSeatsModel", "ends", "()Z"⟩, 32) := ⟨⟨by decide +kernel, by decide +kernel⟩, List.mem_of_getElem? (i := 678) (by decide +kernel), List.mem_of_getElem? (i := 873) (by decide +kernel), List.mem_of_getElem? (i := 874) (by decide +kernel)⟩
theorem lw_p33 : lw_okq (⟨"EclipseSeatsModel", "readsItem", "()Z"⟩, 32) := ⟨⟨by decide +kernel, by decide +kernel⟩, List.mem_of_getElem? (i := 678) (by decide +kernel), List.mem_of_getElem? (i := 877) (by decide +kernel), List.mem_of_getElem? (i := 878) (by decide +kernel)⟩
theorem lw_p34 : lw_okq (⟨"EclipseSeatsModel", "readsDark", "()Z"⟩, 32) := ⟨⟨by decide +kernel, by decide +kernel⟩, List.mem_of_getElem? (i := 678) (by decide +kernel), List.mem_of_getElem? (i := 881) (by decide +kernel), List.mem_of_getElem? (i := 882) (by decide +kernel)⟩
theorem lw_p35 : lw_okq (⟨"EclipseSeatsModel", "readsHeights", "()Z"⟩, 32) := ⟨⟨by decide +kernel, by decide +kernel⟩, List.mem_of_getElem? (i := 678) (by decide +kernel), List.mem_of_getElem? (i := 885) (by decide +kernel), List.mem_of_getElem? (i := 886) (by decide +kernel)⟩
theorem lw_p36 : lw_okq (⟨"EclipseSeatsModel", "readsOne", "()Z"⟩, 32) := ⟨⟨by decide +kernel, by decide +kernel⟩, List.mem_of_getElem? (i := 678) (by decide +kernel), List.mem_of_getElem? (i := 889) (by decide +kernel), List.mem_of_getElem? (i := 890) (by decide +kernel)⟩
theorem lw_p37 : lw_okq (⟨"EclipseSeatsModel", "readsSeat", "()Z"⟩, 32) := ⟨⟨by decide +kernel, by decide +kernel⟩, List.mem_of_getElem? (i := 678) (by decide +kernel), List.mem_of_getElem? (i := 893) (by decide +kernel), List.mem_of_getElem? (i := 894) (by decide +kernel)⟩
theorem lw_p38 : lw_okq (⟨"EclipseSeatsModel", "who", "(I)I"⟩, 32) := ⟨⟨by decide +kernel, by decide +kernel⟩, List.mem_of_getElem? (i := 678) (by decide +kernel), List.mem_of_getElem? (i := 901) (by decide +kernel), List.mem_of_getElem? (i := 902) (by decide +kernel)⟩
theorem lw_p39 : lw_okq (⟨"EclipseSeatsModel", "winner", "(I)I"⟩, 32) := ⟨⟨by decide +kernel, by decide +kernel⟩, List.mem_of_getElem? (i := 678) (by decide +kernel), List.mem_of_getElem? (i := 905) (by decide +kernel), List.mem_of_getElem? (i := 906) (by decide +kernel)⟩
theorem lw_p40 : lw_okq (⟨"EclipseSeatsModel", "bidOf", "(II)I"⟩, 32) := ⟨⟨by decide +kernel, by decide +kernel⟩, List.mem_of_getElem? (i := 678) (by decide +kernel), List.mem_of_getElem? (i := 909) (by decide +kernel), List.mem_of_getElem? (i := 910) (by decide +kernel)⟩
theorem lw_p41 : lw_okq (⟨"EclipseSeatsModel", "worthIn", "(II)I"⟩, 32) := ⟨⟨by decide +kernel, by decide +kernel⟩, List.mem_of_getElem? (i := 678) (by decide +kernel), List.mem_of_getElem? (i := 913) (by decide +kernel), List.mem_of_getElem? (i := 914) (by decide +kernel)⟩
theorem lw_p42 : lw_okq (⟨"EclipseSeatsModel", "seesIn", "(II)I"⟩, 32) := ⟨⟨by decide +kernel, by decide +kernel⟩, List.mem_of_getElem? (i := 678) (by decide +kernel), List.mem_of_getElem? (i := 917) (by decide +kernel), List.mem_of_getElem? (i := 918) (by decide +kernel)⟩
theorem lw_p43 : lw_okq (⟨"EclipseSeatsModel", "seen", "(I)I"⟩, 32) := ⟨⟨by decide +kernel, by decide +kernel⟩, List.mem_of_getElem? (i := 678) (by decide +kernel), List.mem_of_getElem? (i := 921) (by decide +kernel), List.mem_of_getElem? (i := 922) (by decide +kernel)⟩
theorem lw_p44 : lw_okq (⟨"EclipseSeatsModel", "darkIn", "(I)I"⟩, 32) := ⟨⟨by decide +kernel, by decide +kernel⟩, List.mem_of_getElem? (i := 678) (by decide +kernel), List.mem_of_getElem? (i := 925) (by decide +kernel), List.mem_of_getElem? (i := 926) (by decide +kernel)⟩
theorem lw_p45 : lw_okq (⟨"EclipseSeatsModel", "no", "()I"⟩, 32) := ⟨⟨by decide +kernel, by decide +kernel⟩, List.mem_of_getElem? (i := 678) (by decide +kernel), List.mem_of_getElem? (i := 938) (by decide +kernel), List.mem_of_getElem? (i := 939) (by decide +kernel)⟩
theorem lw_p46 : lw_okq (⟨"EclipseSeatsModel", "priceOf", "(II)I"⟩, 32) := ⟨⟨by decide +kernel, by decide +kernel⟩, List.mem_of_getElem? (i := 678) (by decide +kernel), List.mem_of_getElem? (i := 942) (by decide +kernel), List.mem_of_getElem? (i := 943) (by decide +kernel)⟩
theorem lw_p47 : lw_okq (⟨"EclipseSeatsModel", "notes", "()V"⟩, 32) := ⟨⟨by decide +kernel, by decide +kernel⟩, List.mem_of_getElem? (i := 678) (by decide +kernel), List.mem_of_getElem? (i := 946) (by decide +kernel), List.mem_of_getElem? (i := 947) (by decide +kernel)⟩
def lw_privs_3 : List (MethodName × Nat) := [(⟨"EclipseSeatsModel", "ends", "()Z"⟩, 32), (⟨"EclipseSeatsModel", "readsItem", "()Z"⟩, 32), (⟨"EclipseSeatsModel", "readsDark", "()Z"⟩, 32), (⟨"EclipseSeatsModel", "readsHeights", "()Z"⟩, 32), (⟨"EclipseSeatsModel", "readsOne", "()Z"⟩, 32), (⟨"EclipseSeatsModel", "readsSeat", "()Z"⟩, 32), (⟨"EclipseSeatsModel", "who", "(I)I"⟩, 32), (⟨"EclipseSeatsModel", "winner", "(I)I"⟩, 32), (⟨"EclipseSeatsModel", "bidOf", "(II)I"⟩, 32), (⟨"EclipseSeatsModel", "worthIn", "(II)I"⟩, 32), (⟨"EclipseSeatsModel", "seesIn", "(II)I"⟩, 32), (⟨"EclipseSeatsModel", "seen", "(I)I"⟩, 32), (⟨"EclipseSeatsModel", "darkIn", "(I)I"⟩, 32), (⟨"EclipseSeatsModel", "no", "()I"⟩, 32), (⟨"EclipseSeatsModel", "priceOf", "(II)I"⟩, 32), (⟨"EclipseSeatsModel", "notes", "()V"⟩, 32)]
theorem lw_r3 : ∀ q ∈ lw_privs_3, lw_okq q := List.forall_mem_cons.mpr ⟨lw_p32, List.forall_mem_cons.mpr ⟨lw_p33, List.forall_mem_cons.mpr ⟨lw_p34, List.forall_mem_cons.mpr ⟨lw_p35, List.forall_mem_cons.mpr ⟨lw_p36, List.forall_mem_cons.mpr ⟨lw_p37, List.forall_mem_cons.mpr ⟨lw_p38, List.forall_mem_cons.mpr ⟨lw_p39, List.forall_mem_cons.mpr ⟨lw_p40, List.forall_mem_cons.mpr ⟨lw_p41, List.forall_mem_cons.mpr ⟨lw_p42, List.forall_mem_cons.mpr ⟨lw_p43, List.forall_mem_cons.mpr ⟨lw_p44, List.forall_mem_cons.mpr ⟨lw_p45, List.forall_mem_cons.mpr ⟨lw_p46, List.forall_mem_cons.mpr ⟨lw_p47, fun _ h => absurd h List.not_mem_nil⟩⟩⟩⟩⟩⟩⟩⟩⟩⟩⟩⟩⟩⟩⟩⟩
theorem lw_p48 : lw_okq (⟨"EclipseSeatsModel", "lays", "([II)V"⟩, 32) := ⟨⟨by decide +kernel, by decide +kernel⟩, List.mem_of_getElem? (i := 678) (by decide +kernel), List.mem_of_getElem? (i := 950) (by decide +kernel), List.mem_of_getElem? (i := 951) (by decide +kernel)⟩
theorem lw_p49 : lw_okq (⟨"EclipseSeatsModel", "isOne", "(I)Z"⟩, 32) := ⟨⟨by decide +kernel, by decide +kernel⟩, List.mem_of_getElem? (i := 678) (by decide +kernel), List.mem_of_getElem? (i := 958) (by decide +kernel), List.mem_of_getElem? (i := 959) (by decide +kernel)⟩
theorem lw_p50 : lw_okq (⟨"EclipseSeatsModel", "takes", "([II)V"⟩, 32) := ⟨⟨by decide +kernel, by decide +kernel⟩, List.mem_of_getElem? (i := 678) (by decide +kernel), List.mem_of_getElem? (i := 970) (by decide +kernel), List.mem_of_getElem? (i := 971) (by decide +kernel)⟩
theorem lw_p51 : lw_okq (⟨"EclipseSeatsModel", "free", "()I"⟩, 32) := ⟨⟨by decide +kernel, by decide +kernel⟩, List.mem_of_getElem? (i := 678) (by decide +kernel), List.mem_of_getElem? (i := 974) (by decide +kernel), List.mem_of_getElem? (i := 975) (by decide +kernel)⟩
theorem lw_p52 : lw_okq (⟨"EclipseSeatsModel", "ten", "()I"⟩, 32) := ⟨⟨by decide +kernel, by decide +kernel⟩, List.mem_of_getElem? (i := 678) (by decide +kernel), List.mem_of_getElem? (i := 982) (by decide +kernel), List.mem_of_getElem? (i := 983) (by decide +kernel)⟩
theorem lw_p53 : lw_okq (⟨"EclipseSeatsModel", "isOpen", "(II)Z"⟩, 32) := ⟨⟨by decide +kernel, by decide +kernel⟩, List.mem_of_getElem? (i := 678) (by decide +kernel), List.mem_of_getElem? (i := 994) (by decide +kernel), List.mem_of_getElem? (i := 995) (by decide +kernel)⟩
theorem lw_p54 : lw_okq (⟨"EclipseSeatsModel", "worth", "(I)I"⟩, 32) := ⟨⟨by decide +kernel, by decide +kernel⟩, List.mem_of_getElem? (i := 678) (by decide +kernel), List.mem_of_getElem? (i := 1002) (by decide +kernel), List.mem_of_getElem? (i := 1003) (by decide +kernel)⟩
theorem lw_p55 : lw_okq (⟨"EclipseSeatsModel", "hurtIn", "(II)I"⟩, 32) := ⟨⟨by decide +kernel, by decide +kernel⟩, List.mem_of_getElem? (i := 678) (by decide +kernel), List.mem_of_getElem? (i := 1014) (by decide +kernel), List.mem_of_getElem? (i := 1015) (by decide +kernel)⟩
theorem lw_p56 : lw_okq (⟨"EclipseSeatsModel", "othersSee", "(I)I"⟩, 32) := ⟨⟨by decide +kernel, by decide +kernel⟩, List.mem_of_getElem? (i := 678) (by decide +kernel), List.mem_of_getElem? (i := 1018) (by decide +kernel), List.mem_of_getElem? (i := 1019) (by decide +kernel)⟩
theorem lw_p57 : lw_okq (⟨"EclipseSeatsModel", "seatBy", "(I)Z"⟩, 32) := ⟨⟨by decide +kernel, by decide +kernel⟩, List.mem_of_getElem? (i := 678) (by decide +kernel), List.mem_of_getElem? (i := 1030) (by decide +kernel), List.mem_of_getElem? (i := 1031) (by decide +kernel)⟩
theorem lw_p58 : lw_okq (⟨"EclipseSeatsModel", "kindsOf", "(I)I"⟩, 32) := ⟨⟨by decide +kernel, by decide +kernel⟩, List.mem_of_getElem? (i := 678) (by decide +kernel), List.mem_of_getElem? (i := 1053) (by decide +kernel), List.mem_of_getElem? (i := 1054) (by decide +kernel)⟩
theorem lw_p59 : lw_okq (⟨"EclipseSeatsModel", "rests", "(IIII)Z"⟩, 32) := ⟨⟨by decide +kernel, by decide +kernel⟩, List.mem_of_getElem? (i := 678) (by decide +kernel), List.mem_of_getElem? (i := 1069) (by decide +kernel), List.mem_of_getElem? (i := 1070) (by decide +kernel)⟩
theorem lw_p60 : lw_okq (⟨"EclipseSeatsModel", "gets", "(IIII)I"⟩, 32) := ⟨⟨by decide +kernel, by decide +kernel⟩, List.mem_of_getElem? (i := 678) (by decide +kernel), List.mem_of_getElem? (i := 1073) (by decide +kernel), List.mem_of_getElem? (i := 1074) (by decide +kernel)⟩
theorem lw_p61 : lw_okq (⟨"EclipseSeatsModel", "lay", "(JJ)V"⟩, 32) := ⟨⟨by decide +kernel, by decide +kernel⟩, List.mem_of_getElem? (i := 678) (by decide +kernel), List.mem_of_getElem? (i := 1082) (by decide +kernel), List.mem_of_getElem? (i := 1083) (by decide +kernel)⟩
theorem lw_p62 : lw_okq (⟨"EclipseSeatsModel", "countOf", "(I)I"⟩, 32) := ⟨⟨by decide +kernel, by decide +kernel⟩, List.mem_of_getElem? (i := 678) (by decide +kernel), List.mem_of_getElem? (i := 1118) (by decide +kernel), List.mem_of_getElem? (i := 1119) (by decide +kernel)⟩
theorem lw_p63 : lw_okq (⟨"EclipseSeatsModel", "allPaid", "()I"⟩, 32) := ⟨⟨by decide +kernel, by decide +kernel⟩, List.mem_of_getElem? (i := 678) (by decide +kernel), List.mem_of_getElem? (i := 1122) (by decide +kernel), List.mem_of_getElem? (i := 1123) (by decide +kernel)⟩
def lw_privs_4 : List (MethodName × Nat) := [(⟨"EclipseSeatsModel", "lays", "([II)V"⟩, 32), (⟨"EclipseSeatsModel", "isOne", "(I)Z"⟩, 32), (⟨"EclipseSeatsModel", "takes", "([II)V"⟩, 32), (⟨"EclipseSeatsModel", "free", "()I"⟩, 32), (⟨"EclipseSeatsModel", "ten", "()I"⟩, 32), (⟨"EclipseSeatsModel", "isOpen", "(II)Z"⟩, 32), (⟨"EclipseSeatsModel", "worth", "(I)I"⟩, 32), (⟨"EclipseSeatsModel", "hurtIn", "(II)I"⟩, 32), (⟨"EclipseSeatsModel", "othersSee", "(I)I"⟩, 32), (⟨"EclipseSeatsModel", "seatBy", "(I)Z"⟩, 32), (⟨"EclipseSeatsModel", "kindsOf", "(I)I"⟩, 32), (⟨"EclipseSeatsModel", "rests", "(IIII)Z"⟩, 32), (⟨"EclipseSeatsModel", "gets", "(IIII)I"⟩, 32), (⟨"EclipseSeatsModel", "lay", "(JJ)V"⟩, 32), (⟨"EclipseSeatsModel", "countOf", "(I)I"⟩, 32), (⟨"EclipseSeatsModel", "allPaid", "()I"⟩, 32)]
theorem lw_r4 : ∀ q ∈ lw_privs_4, lw_okq q := List.forall_mem_cons.mpr ⟨lw_p48, List.forall_mem_cons.mpr ⟨lw_p49, List.forall_mem_cons.mpr ⟨lw_p50, List.forall_mem_cons.mpr ⟨lw_p51, List.forall_mem_cons.mpr ⟨lw_p52, List.forall_mem_cons.mpr ⟨lw_p53, List.forall_mem_cons.mpr ⟨lw_p54, List.forall_mem_cons.mpr ⟨lw_p55, List.forall_mem_cons.mpr ⟨lw_p56, List.forall_mem_cons.mpr ⟨lw_p57, List.forall_mem_cons.mpr ⟨lw_p58, List.forall_mem_cons.mpr ⟨lw_p59, List.forall_mem_cons.mpr ⟨lw_p60, List.forall_mem_cons.mpr ⟨lw_p61, List.forall_mem_cons.mpr ⟨lw_p62, List.forall_mem_cons.mpr ⟨lw_p63, fun _ h => absurd h List.not_mem_nil⟩⟩⟩⟩⟩⟩⟩⟩⟩⟩⟩⟩⟩⟩⟩⟩
theorem lw_p64 : lw_okq (⟨"EclipseSeatsModel", "mix", "(J)V"⟩, 32) := ⟨⟨by decide +kernel, by decide +kernel⟩, List.mem_of_getElem? (i := 678) (by decide +kernel), List.mem_of_getElem? (i := 1131) (by decide +kernel), List.mem_of_getElem? (i := 1132) (by decide +kernel)⟩
def lw_privs_5 : List (MethodName × Nat) := [(⟨"EclipseSeatsModel", "mix", "(J)V"⟩, 32)]
theorem lw_r5 : ∀ q ∈ lw_privs_5, lw_okq q := List.forall_mem_cons.mpr ⟨lw_p64, fun _ h => absurd h List.not_mem_nil⟩
def lw_privs : List (MethodName × Nat) := lw_privs_1 ++ (lw_privs_2 ++ (lw_privs_3 ++ (lw_privs_4 ++ (lw_privs_5))))
def lw_tbl : List Cond := k2_sels lw_privs ++ tables_1
theorem lw_privs_ok : ∀ q ∈ lw_privs, lw_okq q := by
  show ∀ q ∈ lw_privs_1 ++ (lw_privs_2 ++ (lw_privs_3 ++ (lw_privs_4 ++ (lw_privs_5)))), lw_okq q
  exact List.forall_mem_append.mpr ⟨lw_r1, List.forall_mem_append.mpr ⟨lw_r2, List.forall_mem_append.mpr ⟨lw_r3, List.forall_mem_append.mpr ⟨lw_r4, lw_r5⟩⟩⟩⟩
end
section
/-! names of the program, printed by wip/gen/names.py out of what TURN printed -/
def RX0 : String := "EclipseSeats$Duel"
def TX0 : u_T := fun k => match k with
  | 0 => ("EclipseSeats$Duel", "firstGets", "[I", true)
  | 1 => ("EclipseSeats$Duel", "secondGets", "[I", true)
  | 2 => ("EclipseSeats$Duel", "firstMost", "[I", true)
  | _ => ("EclipseSeats$Duel", "secondMost", "[I", true)
def tyX0 : Nat → FieldType := fun k => match k with
  | 0 => .array .int
  | 1 => .array .int
  | 2 => .array .int
  | _ => .array .int
theorem nmX0 : ∀ a, a < 4 → ∀ b, b < 4 → a ≠ b → (TX0 a).2.1 ≠ (TX0 b).2.1 := by decide +kernel
theorem tyX0_ok : ∀ k, k < 4 → parseFieldDescriptor (TX0 k).2.2.1 = some (tyX0 k) := by decide +kernel
abbrev cX0_init : ByteArray := prog_2_method_1_code
def yX0_init : MethodName := ⟨RX0, "<init>", "()V"⟩
abbrev cX0_work : ByteArray := prog_2_method_2_code
def yX0_work : MethodName := ⟨RX0, "work", "(LEclipseSeats$Hill;II)V"⟩
abbrev cX0_rests : ByteArray := prog_2_method_3_code
def yX0_rests : MethodName := ⟨RX0, "rests", "(II)Z"⟩
abbrev cX0_gets : ByteArray := prog_2_method_4_code
def yX0_gets : MethodName := ⟨RX0, "gets", "(LEclipseSeats$Hill;IIII)I"⟩
def RX1 : String := "EclipseSeats$Guess"
def TX1 : u_T := fun k => match k with
  | _ => ("EclipseSeats$Guess", "worths", "[I", true)
def tyX1 : Nat → FieldType := fun k => match k with
  | _ => .array .int
theorem nmX1 : ∀ a, a < 1 → ∀ b, b < 1 → a ≠ b → (TX1 a).2.1 ≠ (TX1 b).2.1 := by decide +kernel
theorem tyX1_ok : ∀ k, k < 1 → parseFieldDescriptor (TX1 k).2.2.1 = some (tyX1 k) := by decide +kernel
abbrev cX1_init : ByteArray := prog_3_method_1_code
def yX1_init : MethodName := ⟨RX1, "<init>", "()V"⟩
abbrev cX1_kindsOf : ByteArray := prog_3_method_2_code
def yX1_kindsOf : MethodName := ⟨RX1, "kindsOf", "(LEclipseSeats$Hill;I)I"⟩
abbrev cX1_nextFor : ByteArray := prog_3_method_3_code
def yX1_nextFor : MethodName := ⟨RX1, "nextFor", "(LEclipseSeats$Hill;I)I"⟩
abbrev cX1_fits : ByteArray := prog_3_method_4_code
def yX1_fits : MethodName := ⟨RX1, "fits", "(LEclipseSeats$Hill;II)Z"⟩
abbrev cX1_mostAlike : ByteArray := prog_3_method_5_code
def yX1_mostAlike : MethodName := ⟨RX1, "mostAlike", "(III)I"⟩
abbrev cX1_likeOnes : ByteArray := prog_3_method_6_code
def yX1_likeOnes : MethodName := ⟨RX1, "likeOnes", "(I)I"⟩
def RX2 : String := "EclipseSeats$Hill"
def TX2 : u_T := fun k => match k with
  | 0 => ("EclipseSeats$Hill", "track", "I", false)
  | 1 => ("EclipseSeats$Hill", "dark", "I", false)
  | 2 => ("EclipseSeats$Hill", "heights", "[I", true)
  | 3 => ("EclipseSeats$Hill", "bidders", "I", false)
  | 4 => ("EclipseSeats$Hill", "kinds", "[I", true)
  | 5 => ("EclipseSeats$Hill", "heads", "[I", true)
  | 6 => ("EclipseSeats$Hill", "purses", "[I", true)
  | 7 => ("EclipseSeats$Hill", "paid", "[I", true)
  | 8 => ("EclipseSeats$Hill", "seats", "[I", true)
  | 9 => ("EclipseSeats$Hill", "noteCount", "I", false)
  | 10 => ("EclipseSeats$Hill", "notes", "[I", true)
  | 11 => ("EclipseSeats$Hill", "steps", "I", false)
  | _ => ("EclipseSeats$Hill", "past", "[I", true)
def tyX2 : Nat → FieldType := fun k => match k with
  | 0 => .int
  | 1 => .int
  | 2 => .array .int
  | 3 => .int
  | 4 => .array .int
  | 5 => .array .int
  | 6 => .array .int
  | 7 => .array .int
  | 8 => .array .int
  | 9 => .int
  | 10 => .array .int
  | 11 => .int
  | _ => .array .int
theorem nmX2 : ∀ a, a < 13 → ∀ b, b < 13 → a ≠ b → (TX2 a).2.1 ≠ (TX2 b).2.1 := by decide +kernel
theorem tyX2_ok : ∀ k, k < 13 → parseFieldDescriptor (TX2 k).2.2.1 = some (tyX2 k) := by decide +kernel
abbrev cX2_init : ByteArray := prog_4_method_1_code
def yX2_init : MethodName := ⟨RX2, "<init>", "()V"⟩
abbrev cX2_begin : ByteArray := prog_4_method_2_code
def yX2_begin : MethodName := ⟨RX2, "begin", "(II)V"⟩
abbrev cX2_copyOf : ByteArray := prog_4_method_3_code
def yX2_copyOf : MethodName := ⟨RX2, "copyOf", "(LEclipseSeats$Hill;)V"⟩
abbrev cX2_addBidder : ByteArray := prog_4_method_4_code
def yX2_addBidder : MethodName := ⟨RX2, "addBidder", "(II)I"⟩
abbrev cX2_remember : ByteArray := prog_4_method_5_code
def yX2_remember : MethodName := ⟨RX2, "remember", "()V"⟩
abbrev cX2_stepBack : ByteArray := prog_4_method_6_code
def yX2_stepBack : MethodName := ⟨RX2, "stepBack", "()V"⟩
abbrev cX2_darkIn : ByteArray := prog_4_method_7_code
def yX2_darkIn : MethodName := ⟨RX2, "darkIn", "(I)I"⟩
abbrev cX2_holder : ByteArray := prog_4_method_8_code
def yX2_holder : MethodName := ⟨RX2, "holder", "(I)I"⟩
abbrev cX2_isOpenTo : ByteArray := prog_4_method_9_code
def yX2_isOpenTo : MethodName := ⟨RX2, "isOpenTo", "(II)Z"⟩
abbrev cX2_freeYards : ByteArray := prog_4_method_10_code
def yX2_freeYards : MethodName := ⟨RX2, "freeYards", "()I"⟩
abbrev cX2_hides : ByteArray := prog_4_method_11_code
def yX2_hides : MethodName := ⟨RX2, "hides", "(III)Z"⟩
abbrev cX2_isHidden : ByteArray := prog_4_method_12_code
def yX2_isHidden : MethodName := ⟨RX2, "isHidden", "(III)Z"⟩
abbrev cX2_seenIn : ByteArray := prog_4_method_13_code
def yX2_seenIn : MethodName := ⟨RX2, "seenIn", "(II)I"⟩
abbrev cX2_seenNow : ByteArray := prog_4_method_14_code
def yX2_seenNow : MethodName := ⟨RX2, "seenNow", "(I)I"⟩
abbrev cX2_seenByAll : ByteArray := prog_4_method_15_code
def yX2_seenByAll : MethodName := ⟨RX2, "seenByAll", "()I"⟩
abbrev cX2_openSeats : ByteArray := prog_4_method_16_code
def yX2_openSeats : MethodName := ⟨RX2, "openSeats", "()I"⟩
abbrev cX2_paidByAll : ByteArray := prog_4_method_17_code
def yX2_paidByAll : MethodName := ⟨RX2, "paidByAll", "()I"⟩
abbrev cX2_worthIn : ByteArray := prog_4_method_18_code
def yX2_worthIn : MethodName := ⟨RX2, "worthIn", "(II)I"⟩
abbrev cX2_bid : ByteArray := prog_4_method_19_code
def yX2_bid : MethodName := ⟨RX2, "bid", "(II)I"⟩
abbrev cX2_topBidder : ByteArray := prog_4_method_20_code
def yX2_topBidder : MethodName := ⟨RX2, "topBidder", "(I)I"⟩
abbrev cX2_price : ByteArray := prog_4_method_21_code
def yX2_price : MethodName := ⟨RX2, "price", "(II)I"⟩
abbrev cX2_harm : ByteArray := prog_4_method_22_code
def yX2_harm : MethodName := ⟨RX2, "harm", "(II)I"⟩
def RX3 : String := "EclipseSeats$Kinds"
def TX3 : u_T := fun k => match k with
  | _ => ("", "", "", false)
def tyX3 : Nat → FieldType := fun k => match k with
  | _ => .int
theorem nmX3 : ∀ a, a < 0 → ∀ b, b < 0 → a ≠ b → (TX3 a).2.1 ≠ (TX3 b).2.1 := by decide +kernel
theorem tyX3_ok : ∀ k, k < 0 → parseFieldDescriptor (TX3 k).2.2.1 = some (tyX3 k) := by decide +kernel
abbrev cX3_worth : ByteArray := prog_5_method_2_code
def yX3_worth : MethodName := ⟨RX3, "worth", "(III)I"⟩
abbrev cX3_head : ByteArray := prog_5_method_3_code
def yX3_head : MethodName := ⟨RX3, "head", "(I)I"⟩
def RX4 : String := "EclipseSeats$Seating"
def TX4 : u_T := fun k => match k with
  | 0 => ("EclipseSeats$Seating", "scores", "[I", true)
  | 1 => ("EclipseSeats$Seating", "worths", "[I", true)
  | 2 => ("EclipseSeats$Seating", "tops", "[I", true)
  | _ => ("EclipseSeats$Seating", "score", "I", false)
def tyX4 : Nat → FieldType := fun k => match k with
  | 0 => .array .int
  | 1 => .array .int
  | 2 => .array .int
  | _ => .int
theorem nmX4 : ∀ a, a < 4 → ∀ b, b < 4 → a ≠ b → (TX4 a).2.1 ≠ (TX4 b).2.1 := by decide +kernel
theorem tyX4_ok : ∀ k, k < 4 → parseFieldDescriptor (TX4 k).2.2.1 = some (tyX4 k) := by decide +kernel
abbrev cX4_init : ByteArray := prog_6_method_1_code
def yX4_init : MethodName := ⟨RX4, "<init>", "()V"⟩
abbrev cX4_work : ByteArray := prog_6_method_2_code
def yX4_work : MethodName := ⟨RX4, "work", "(LEclipseSeats$Hill;)V"⟩
abbrev cX4_total : ByteArray := prog_6_method_3_code
def yX4_total : MethodName := ⟨RX4, "total", "()I"⟩
abbrev cX4_seatFor : ByteArray := prog_6_method_4_code
def yX4_seatFor : MethodName := ⟨RX4, "seatFor", "(I)I"⟩
abbrev cX4_lookAt : ByteArray := prog_6_method_5_code
def yX4_lookAt : MethodName := ⟨RX4, "lookAt", "(LEclipseSeats$Hill;I)V"⟩
abbrev cX4_spread : ByteArray := prog_6_method_6_code
def yX4_spread : MethodName := ⟨RX4, "spread", "(LEclipseSeats$Hill;II)V"⟩
abbrev cX4_seatShift : ByteArray := prog_6_method_7_code
def yX4_seatShift : MethodName := ⟨RX4, "seatShift", "(I)I"⟩
def RX5 : String := "EclipseSeats$Text"
def TX5 : u_T := fun k => match k with
  | 0 => ("EclipseSeats$Text", "bytes", "[B", true)
  | 1 => ("EclipseSeats$Text", "length", "I", false)
  | 2 => ("EclipseSeats$Text", "at", "I", false)
  | 3 => ("EclipseSeats$Text", "token", "I", false)
  | 4 => ("EclipseSeats$Text", "start", "I", false)
  | _ => ("EclipseSeats$Text", "value", "I", false)
def tyX5 : Nat → FieldType := fun k => match k with
  | 0 => .array .byte
  | 1 => .int
  | 2 => .int
  | 3 => .int
  | 4 => .int
  | _ => .int
theorem nmX5 : ∀ a, a < 6 → ∀ b, b < 6 → a ≠ b → (TX5 a).2.1 ≠ (TX5 b).2.1 := by decide +kernel
theorem tyX5_ok : ∀ k, k < 6 → parseFieldDescriptor (TX5 k).2.2.1 = some (tyX5 k) := by decide +kernel
abbrev cX5_init : ByteArray := prog_7_method_1_code
def yX5_init : MethodName := ⟨RX5, "<init>", "()V"⟩
abbrev cX5_readInto : ByteArray := prog_7_method_2_code
def yX5_readInto : MethodName := ⟨RX5, "readInto", "(LEclipseSeats$Hill;)I"⟩
abbrev cX5_takeItem : ByteArray := prog_7_method_3_code
def yX5_takeItem : MethodName := ⟨RX5, "takeItem", "(LEclipseSeats$Hill;Z)Z"⟩
abbrev cX5_takeTrack : ByteArray := prog_7_method_4_code
def yX5_takeTrack : MethodName := ⟨RX5, "takeTrack", "(LEclipseSeats$Hill;)Z"⟩
abbrev cX5_takeDark : ByteArray := prog_7_method_5_code
def yX5_takeDark : MethodName := ⟨RX5, "takeDark", "(LEclipseSeats$Hill;)Z"⟩
abbrev cX5_takeHeights : ByteArray := prog_7_method_6_code
def yX5_takeHeights : MethodName := ⟨RX5, "takeHeights", "(LEclipseSeats$Hill;)Z"⟩
abbrev cX5_takeBidder : ByteArray := prog_7_method_7_code
def yX5_takeBidder : MethodName := ⟨RX5, "takeBidder", "(LEclipseSeats$Hill;)Z"⟩
abbrev cX5_takeSeat : ByteArray := prog_7_method_8_code
def yX5_takeSeat : MethodName := ⟨RX5, "takeSeat", "(LEclipseSeats$Hill;)Z"⟩
abbrev cX5_takeNumber : ByteArray := prog_7_method_9_code
def yX5_takeNumber : MethodName := ⟨RX5, "takeNumber", "(I)Z"⟩
abbrev cX5_takeStop : ByteArray := prog_7_method_10_code
def yX5_takeStop : MethodName := ⟨RX5, "takeStop", "()Z"⟩
abbrev cX5_step : ByteArray := prog_7_method_11_code
def yX5_step : MethodName := ⟨RX5, "step", "()V"⟩
abbrev cX5_isWord : ByteArray := prog_7_method_12_code
def yX5_isWord : MethodName := ⟨RX5, "isWord", "(Ljava/lang/String;)Z"⟩
abbrev cX5_isLetter : ByteArray := prog_7_method_13_code
def yX5_isLetter : MethodName := ⟨RX5, "isLetter", "(I)Z"⟩
abbrev cX5_isFigure : ByteArray := prog_7_method_14_code
def yX5_isFigure : MethodName := ⟨RX5, "isFigure", "(I)Z"⟩
def RX6 : String := "EclipseSeats"
def TX6 : u_T := fun k => match k with
  | 0 => ("EclipseSeats", "now", "LEclipseSeats$Hill;", true)
  | 1 => ("EclipseSeats", "draft", "LEclipseSeats$Hill;", true)
  | 2 => ("EclipseSeats", "images", "[LEclipseSeats$Hill;", true)
  | 3 => ("EclipseSeats", "kept", "[Z", true)
  | 4 => ("EclipseSeats", "text", "LEclipseSeats$Text;", true)
  | 5 => ("EclipseSeats", "seating", "LEclipseSeats$Seating;", true)
  | 6 => ("EclipseSeats", "duel", "LEclipseSeats$Duel;", true)
  | 7 => ("EclipseSeats", "guess", "LEclipseSeats$Guess;", true)
  | 8 => ("EclipseSeats", "above", "I", false)
  | 9 => ("EclipseSeats", "below", "I", false)
  | 10 => ("EclipseSeats", "badCalls", "I", false)
  | 11 => ("EclipseSeats", "noCalls", "I", false)
  | _ => ("EclipseSeats", "fullCalls", "I", false)
def tyX6 : Nat → FieldType := fun k => match k with
  | 0 => .object "EclipseSeats$Hill"
  | 1 => .object "EclipseSeats$Hill"
  | 2 => .array (.object "EclipseSeats$Hill")
  | 3 => .array .boolean
  | 4 => .object "EclipseSeats$Text"
  | 5 => .object "EclipseSeats$Seating"
  | 6 => .object "EclipseSeats$Duel"
  | 7 => .object "EclipseSeats$Guess"
  | 8 => .int
  | 9 => .int
  | 10 => .int
  | 11 => .int
  | _ => .int
theorem nmX6 : ∀ a, a < 13 → ∀ b, b < 13 → a ≠ b → (TX6 a).2.1 ≠ (TX6 b).2.1 := by decide +kernel
theorem tyX6_ok : ∀ k, k < 13 → parseFieldDescriptor (TX6 k).2.2.1 = some (tyX6 k) := by decide +kernel
abbrev cX6_init : ByteArray := prog_1_method_1_code
def yX6_init : MethodName := ⟨RX6, "<init>", "()V"⟩
abbrev cX6_hill : ByteArray := prog_1_method_2_code
def yX6_hill : MethodName := ⟨RX6, "hill", "(II)I"⟩
abbrev cX6_track : ByteArray := prog_1_method_3_code
def yX6_track : MethodName := ⟨RX6, "track", "(II)I"⟩
abbrev cX6_height : ByteArray := prog_1_method_4_code
def yX6_height : MethodName := ⟨RX6, "height", "(II)I"⟩
abbrev cX6_one : ByteArray := prog_1_method_5_code
def yX6_one : MethodName := ⟨RX6, "one", "(II)I"⟩
abbrev cX6_type : ByteArray := prog_1_method_6_code
def yX6_type : MethodName := ⟨RX6, "type", "(I)I"⟩
abbrev cX6_clear : ByteArray := prog_1_method_7_code
def yX6_clear : MethodName := ⟨RX6, "clear", "()I"⟩
abbrev cX6_read : ByteArray := prog_1_method_8_code
def yX6_read : MethodName := ⟨RX6, "read", "()I"⟩
abbrev cX6_sell : ByteArray := prog_1_method_9_code
def yX6_sell : MethodName := ⟨RX6, "sell", "(I)I"⟩
abbrev cX6_leave : ByteArray := prog_1_method_10_code
def yX6_leave : MethodName := ⟨RX6, "leave", "(I)I"⟩
abbrev cX6_moves : ByteArray := prog_1_method_11_code
def yX6_moves : MethodName := ⟨RX6, "moves", "(II)I"⟩
abbrev cX6_undo : ByteArray := prog_1_method_12_code
def yX6_undo : MethodName := ⟨RX6, "undo", "()I"⟩
abbrev cX6_of : ByteArray := prog_1_method_13_code
def yX6_of : MethodName := ⟨RX6, "of", "(II)I"⟩
abbrev cX6_yard : ByteArray := prog_1_method_14_code
def yX6_yard : MethodName := ⟨RX6, "yard", "(II)I"⟩
abbrev cX6_sees : ByteArray := prog_1_method_15_code
def yX6_sees : MethodName := ⟨RX6, "sees", "(II)I"⟩
abbrev cX6_gives : ByteArray := prog_1_method_16_code
def yX6_gives : MethodName := ⟨RX6, "gives", "(II)I"⟩
abbrev cX6_auction : ByteArray := prog_1_method_17_code
def yX6_auction : MethodName := ⟨RX6, "auction", "(II)I"⟩
abbrev cX6_hurt : ByteArray := prog_1_method_18_code
def yX6_hurt : MethodName := ⟨RX6, "hurt", "(II)I"⟩
abbrev cX6_best : ByteArray := prog_1_method_19_code
def yX6_best : MethodName := ⟨RX6, "best", "(II)I"⟩
abbrev cX6_all : ByteArray := prog_1_method_20_code
def yX6_all : MethodName := ⟨RX6, "all", "(I)I"⟩
abbrev cX6_move : ByteArray := prog_1_method_21_code
def yX6_move : MethodName := ⟨RX6, "move", "(I)I"⟩
abbrev cX6_note : ByteArray := prog_1_method_22_code
def yX6_note : MethodName := ⟨RX6, "note", "(IIII)I"⟩
abbrev cX6_forget : ByteArray := prog_1_method_23_code
def yX6_forget : MethodName := ⟨RX6, "forget", "()I"⟩
abbrev cX6_is : ByteArray := prog_1_method_24_code
def yX6_is : MethodName := ⟨RX6, "is", "(I)I"⟩
abbrev cX6_offer : ByteArray := prog_1_method_25_code
def yX6_offer : MethodName := ⟨RX6, "offer", "(I)I"⟩
abbrev cX6_two : ByteArray := prog_1_method_26_code
def yX6_two : MethodName := ⟨RX6, "two", "(III)I"⟩
abbrev cX6_clouds : ByteArray := prog_1_method_27_code
def yX6_clouds : MethodName := ⟨RX6, "clouds", "(I)I"⟩
abbrev cX6_eclipses : ByteArray := prog_1_method_28_code
def yX6_eclipses : MethodName := ⟨RX6, "eclipses", "(II)I"⟩
abbrev cX6_part : ByteArray := prog_1_method_29_code
def yX6_part : MethodName := ⟨RX6, "part", "(I)J"⟩
abbrev cX6_image : ByteArray := prog_1_method_30_code
def yX6_image : MethodName := ⟨RX6, "image", "(I)I"⟩
abbrev cX6_from : ByteArray := prog_1_method_31_code
def yX6_from : MethodName := ⟨RX6, "from", "(I)I"⟩
abbrev cX6_status : ByteArray := prog_1_method_32_code
def yX6_status : MethodName := ⟨RX6, "status", "(I)I"⟩
abbrev cX6_count : ByteArray := prog_1_method_33_code
def yX6_count : MethodName := ⟨RX6, "count", "(I)I"⟩
abbrev cX6_digest : ByteArray := prog_1_method_34_code
def yX6_digest : MethodName := ⟨RX6, "digest", "()J"⟩
abbrev cX6_howMany : ByteArray := prog_1_method_35_code
def yX6_howMany : MethodName := ⟨RX6, "howMany", "(I)I"⟩
abbrev cX6_bad : ByteArray := prog_1_method_36_code
def yX6_bad : MethodName := ⟨RX6, "bad", "(I)I"⟩
abbrev cX6_no : ByteArray := prog_1_method_37_code
def yX6_no : MethodName := ⟨RX6, "no", "()I"⟩
abbrev cX6_full : ByteArray := prog_1_method_38_code
def yX6_full : MethodName := ⟨RX6, "full", "()I"⟩
abbrev cX6_isBidder : ByteArray := prog_1_method_39_code
def yX6_isBidder : MethodName := ⟨RX6, "isBidder", "(I)Z"⟩
abbrev cX6_isYard : ByteArray := prog_1_method_40_code
def yX6_isYard : MethodName := ⟨RX6, "isYard", "(I)Z"⟩
abbrev cX6_isTrack : ByteArray := prog_1_method_41_code
def yX6_isTrack : MethodName := ⟨RX6, "isTrack", "(II)Z"⟩
abbrev cX6_within : ByteArray := prog_1_method_42_code
def yX6_within : MethodName := ⟨RX6, "within", "(II)Z"⟩
abbrev cX6_darkFrom : ByteArray := prog_1_method_43_code
def yX6_darkFrom : MethodName := ⟨RX6, "darkFrom", "(III)I"⟩
abbrev cX6_darkOver : ByteArray := prog_1_method_44_code
def yX6_darkOver : MethodName := ⟨RX6, "darkOver", "(III)I"⟩
abbrev cX6_commonDivisor : ByteArray := prog_1_method_45_code
def yX6_commonDivisor : MethodName := ⟨RX6, "commonDivisor", "(II)I"⟩
def RX7 : String := "EclipseSeatsModel"
def TX7 : u_T := fun k => match k with
  | 0 => ("EclipseSeatsModel", "refused", "[I", true)
  | 1 => ("EclipseSeatsModel", "many", "I", false)
  | 2 => ("EclipseSeatsModel", "line", "I", false)
  | 3 => ("EclipseSeatsModel", "dark", "I", false)
  | 4 => ("EclipseSeatsModel", "noteMany", "I", false)
  | 5 => ("EclipseSeatsModel", "heights", "[I", true)
  | 6 => ("EclipseSeatsModel", "kinds", "[I", true)
  | 7 => ("EclipseSeatsModel", "purses", "[I", true)
  | 8 => ("EclipseSeatsModel", "paid", "[I", true)
  | 9 => ("EclipseSeatsModel", "seats", "[I", true)
  | 10 => ("EclipseSeatsModel", "noteOne", "[I", true)
  | 11 => ("EclipseSeatsModel", "noteSeconds", "[I", true)
  | 12 => ("EclipseSeatsModel", "noteHeight", "[I", true)
  | 13 => ("EclipseSeatsModel", "noteWorth", "[I", true)
  | 14 => ("EclipseSeatsModel", "text", "[I", true)
  | 15 => ("EclipseSeatsModel", "typed", "I", false)
  | 16 => ("EclipseSeatsModel", "readAt", "I", false)
  | 17 => ("EclipseSeatsModel", "readTrack", "I", false)
  | 18 => ("EclipseSeatsModel", "readDark", "I", false)
  | 19 => ("EclipseSeatsModel", "readMany", "I", false)
  | 20 => ("EclipseSeatsModel", "readOnes", "[I", true)
  | 21 => ("EclipseSeatsModel", "readHeights", "[I", true)
  | 22 => ("EclipseSeatsModel", "readNumber", "I", false)
  | 23 => ("EclipseSeatsModel", "ahead", "[I", true)
  | 24 => ("EclipseSeatsModel", "undoMany", "I", false)
  | 25 => ("EclipseSeatsModel", "aside", "[I", true)
  | 26 => ("EclipseSeatsModel", "bestSeats", "[I", true)
  | 27 => ("EclipseSeatsModel", "above", "J", false)
  | 28 => ("EclipseSeatsModel", "below", "J", false)
  | 29 => ("EclipseSeatsModel", "images", "[I", true)
  | 30 => ("EclipseSeatsModel", "isKept", "[I", true)
  | _ => ("EclipseSeatsModel", "h0", "J", false)
def tyX7 : Nat → FieldType := fun k => match k with
  | 0 => .array .int
  | 1 => .int
  | 2 => .int
  | 3 => .int
  | 4 => .int
  | 5 => .array .int
  | 6 => .array .int
  | 7 => .array .int
  | 8 => .array .int
  | 9 => .array .int
  | 10 => .array .int
  | 11 => .array .int
  | 12 => .array .int
  | 13 => .array .int
  | 14 => .array .int
  | 15 => .int
  | 16 => .int
  | 17 => .int
  | 18 => .int
  | 19 => .int
  | 20 => .array .int
  | 21 => .array .int
  | 22 => .int
  | 23 => .array .int
  | 24 => .int
  | 25 => .array .int
  | 26 => .array .int
  | 27 => .long
  | 28 => .long
  | 29 => .array .int
  | 30 => .array .int
  | _ => .long
theorem nmX7 : ∀ a, a < 32 → ∀ b, b < 32 → a ≠ b → (TX7 a).2.1 ≠ (TX7 b).2.1 := by decide +kernel
theorem tyX7_ok : ∀ k, k < 32 → parseFieldDescriptor (TX7 k).2.2.1 = some (tyX7 k) := by decide +kernel
abbrev cX7_bad : ByteArray := prog_9_method_1_code
def yX7_bad : MethodName := ⟨RX7, "bad", "()I"⟩
abbrev cX7_ten : ByteArray := prog_9_method_2_code
def yX7_ten : MethodName := ⟨RX7, "ten", "()I"⟩
abbrev cX7_no : ByteArray := prog_9_method_3_code
def yX7_no : MethodName := ⟨RX7, "no", "()I"⟩
abbrev cX7_full : ByteArray := prog_9_method_4_code
def yX7_full : MethodName := ⟨RX7, "full", "()I"⟩
abbrev cX7_in : ByteArray := prog_9_method_5_code
def yX7_in : MethodName := ⟨RX7, "in", "(III)Z"⟩
abbrev cX7_has : ByteArray := prog_9_method_6_code
def yX7_has : MethodName := ⟨RX7, "has", "(II)Z"⟩
abbrev cX7_lesser : ByteArray := prog_9_method_7_code
def yX7_lesser : MethodName := ⟨RX7, "lesser", "(II)I"⟩
abbrev cX7_init : ByteArray := prog_9_method_8_code
def yX7_init : MethodName := ⟨RX7, "<init>", "()V"⟩
abbrev cX7_begin : ByteArray := prog_9_method_9_code
def yX7_begin : MethodName := ⟨RX7, "begin", "(II)V"⟩
abbrev cX7_isOne : ByteArray := prog_9_method_10_code
def yX7_isOne : MethodName := ⟨RX7, "isOne", "(I)Z"⟩
abbrev cX7_isYard : ByteArray := prog_9_method_11_code
def yX7_isYard : MethodName := ⟨RX7, "isYard", "(I)Z"⟩
abbrev cX7_hill : ByteArray := prog_9_method_12_code
def yX7_hill : MethodName := ⟨RX7, "hill", "(II)I"⟩
abbrev cX7_track : ByteArray := prog_9_method_13_code
def yX7_track : MethodName := ⟨RX7, "track", "(II)I"⟩
abbrev cX7_height : ByteArray := prog_9_method_14_code
def yX7_height : MethodName := ⟨RX7, "height", "(II)I"⟩
abbrev cX7_addOne : ByteArray := prog_9_method_15_code
def yX7_addOne : MethodName := ⟨RX7, "addOne", "(II)I"⟩
abbrev cX7_one : ByteArray := prog_9_method_16_code
def yX7_one : MethodName := ⟨RX7, "one", "(II)I"⟩
abbrev cX7_type : ByteArray := prog_9_method_17_code
def yX7_type : MethodName := ⟨RX7, "type", "(I)I"⟩
abbrev cX7_clear : ByteArray := prog_9_method_18_code
def yX7_clear : MethodName := ⟨RX7, "clear", "()I"⟩
abbrev cX7_here : ByteArray := prog_9_method_19_code
def yX7_here : MethodName := ⟨RX7, "here", "()I"⟩
abbrev cX7_skip : ByteArray := prog_9_method_20_code
def yX7_skip : MethodName := ⟨RX7, "skip", "()V"⟩
abbrev cX7_isLetter : ByteArray := prog_9_method_21_code
def yX7_isLetter : MethodName := ⟨RX7, "isLetter", "(I)Z"⟩
abbrev cX7_isFigure : ByteArray := prog_9_method_22_code
def yX7_isFigure : MethodName := ⟨RX7, "isFigure", "(I)Z"⟩
abbrev cX7_wordSize : ByteArray := prog_9_method_23_code
def yX7_wordSize : MethodName := ⟨RX7, "wordSize", "()I"⟩
abbrev cX7_letter : ByteArray := prog_9_method_24_code
def yX7_letter : MethodName := ⟨RX7, "letter", "(I)I"⟩
abbrev cX7_spells : ByteArray := prog_9_method_25_code
def yX7_spells : MethodName := ⟨RX7, "spells", "(IIII)Z"⟩
abbrev cX7_wordHere : ByteArray := prog_9_method_26_code
def yX7_wordHere : MethodName := ⟨RX7, "wordHere", "()I"⟩
abbrev cX7_number : ByteArray := prog_9_method_27_code
def yX7_number : MethodName := ⟨RX7, "number", "(II)Z"⟩
abbrev cX7_ends : ByteArray := prog_9_method_28_code
def yX7_ends : MethodName := ⟨RX7, "ends", "()Z"⟩
abbrev cX7_readsDark : ByteArray := prog_9_method_29_code
def yX7_readsDark : MethodName := ⟨RX7, "readsDark", "()Z"⟩
abbrev cX7_readsHeights : ByteArray := prog_9_method_30_code
def yX7_readsHeights : MethodName := ⟨RX7, "readsHeights", "()Z"⟩
abbrev cX7_readsOne : ByteArray := prog_9_method_31_code
def yX7_readsOne : MethodName := ⟨RX7, "readsOne", "()Z"⟩
abbrev cX7_readsSeat : ByteArray := prog_9_method_32_code
def yX7_readsSeat : MethodName := ⟨RX7, "readsSeat", "()Z"⟩
abbrev cX7_readsItem : ByteArray := prog_9_method_33_code
def yX7_readsItem : MethodName := ⟨RX7, "readsItem", "()Z"⟩
abbrev cX7_readsFirst : ByteArray := prog_9_method_34_code
def yX7_readsFirst : MethodName := ⟨RX7, "readsFirst", "()Z"⟩
abbrev cX7_readsHill : ByteArray := prog_9_method_35_code
def yX7_readsHill : MethodName := ⟨RX7, "readsHill", "()I"⟩
abbrev cX7_read : ByteArray := prog_9_method_36_code
def yX7_read : MethodName := ⟨RX7, "read", "()I"⟩
abbrev cX7_worthBy : ByteArray := prog_9_method_37_code
def yX7_worthBy : MethodName := ⟨RX7, "worthBy", "(III)I"⟩
abbrev cX7_headBy : ByteArray := prog_9_method_38_code
def yX7_headBy : MethodName := ⟨RX7, "headBy", "(I)I"⟩
abbrev cX7_darkIn : ByteArray := prog_9_method_39_code
def yX7_darkIn : MethodName := ⟨RX7, "darkIn", "(I)I"⟩
abbrev cX7_who : ByteArray := prog_9_method_40_code
def yX7_who : MethodName := ⟨RX7, "who", "(I)I"⟩
abbrev cX7_seen : ByteArray := prog_9_method_41_code
def yX7_seen : MethodName := ⟨RX7, "seen", "(I)I"⟩
abbrev cX7_worth : ByteArray := prog_9_method_42_code
def yX7_worth : MethodName := ⟨RX7, "worth", "(I)I"⟩
abbrev cX7_othersSee : ByteArray := prog_9_method_43_code
def yX7_othersSee : MethodName := ⟨RX7, "othersSee", "(I)I"⟩
abbrev cX7_isOpen : ByteArray := prog_9_method_44_code
def yX7_isOpen : MethodName := ⟨RX7, "isOpen", "(II)Z"⟩
abbrev cX7_lays : ByteArray := prog_9_method_45_code
def yX7_lays : MethodName := ⟨RX7, "lays", "([II)V"⟩
abbrev cX7_takes : ByteArray := prog_9_method_46_code
def yX7_takes : MethodName := ⟨RX7, "takes", "([II)V"⟩
abbrev cX7_notes : ByteArray := prog_9_method_47_code
def yX7_notes : MethodName := ⟨RX7, "notes", "()V"⟩
abbrev cX7_free : ByteArray := prog_9_method_48_code
def yX7_free : MethodName := ⟨RX7, "free", "()I"⟩
abbrev cX7_sell : ByteArray := prog_9_method_49_code
def yX7_sell : MethodName := ⟨RX7, "sell", "(I)I"⟩
abbrev cX7_leave : ByteArray := prog_9_method_50_code
def yX7_leave : MethodName := ⟨RX7, "leave", "(I)I"⟩
abbrev cX7_moves : ByteArray := prog_9_method_51_code
def yX7_moves : MethodName := ⟨RX7, "moves", "(II)I"⟩
abbrev cX7_undo : ByteArray := prog_9_method_52_code
def yX7_undo : MethodName := ⟨RX7, "undo", "()I"⟩
abbrev cX7_of : ByteArray := prog_9_method_53_code
def yX7_of : MethodName := ⟨RX7, "of", "(II)I"⟩
abbrev cX7_yard : ByteArray := prog_9_method_54_code
def yX7_yard : MethodName := ⟨RX7, "yard", "(II)I"⟩
abbrev cX7_seesIn : ByteArray := prog_9_method_55_code
def yX7_seesIn : MethodName := ⟨RX7, "seesIn", "(II)I"⟩
abbrev cX7_worthIn : ByteArray := prog_9_method_56_code
def yX7_worthIn : MethodName := ⟨RX7, "worthIn", "(II)I"⟩
abbrev cX7_sees : ByteArray := prog_9_method_57_code
def yX7_sees : MethodName := ⟨RX7, "sees", "(II)I"⟩
abbrev cX7_gives : ByteArray := prog_9_method_58_code
def yX7_gives : MethodName := ⟨RX7, "gives", "(II)I"⟩
abbrev cX7_bidOf : ByteArray := prog_9_method_59_code
def yX7_bidOf : MethodName := ⟨RX7, "bidOf", "(II)I"⟩
abbrev cX7_winner : ByteArray := prog_9_method_60_code
def yX7_winner : MethodName := ⟨RX7, "winner", "(I)I"⟩
abbrev cX7_priceOf : ByteArray := prog_9_method_61_code
def yX7_priceOf : MethodName := ⟨RX7, "priceOf", "(II)I"⟩
abbrev cX7_auction : ByteArray := prog_9_method_62_code
def yX7_auction : MethodName := ⟨RX7, "auction", "(II)I"⟩
abbrev cX7_hurtIn : ByteArray := prog_9_method_63_code
def yX7_hurtIn : MethodName := ⟨RX7, "hurtIn", "(II)I"⟩
abbrev cX7_hurt : ByteArray := prog_9_method_64_code
def yX7_hurt : MethodName := ⟨RX7, "hurt", "(II)I"⟩
abbrev cX7_best : ByteArray := prog_9_method_65_code
def yX7_best : MethodName := ⟨RX7, "best", "(II)I"⟩
abbrev cX7_seatBy : ByteArray := prog_9_method_66_code
def yX7_seatBy : MethodName := ⟨RX7, "seatBy", "(I)Z"⟩
abbrev cX7_all : ByteArray := prog_9_method_67_code
def yX7_all : MethodName := ⟨RX7, "all", "(I)I"⟩
abbrev cX7_move : ByteArray := prog_9_method_68_code
def yX7_move : MethodName := ⟨RX7, "move", "(I)I"⟩
abbrev cX7_note : ByteArray := prog_9_method_69_code
def yX7_note : MethodName := ⟨RX7, "note", "(IIII)I"⟩
abbrev cX7_forget : ByteArray := prog_9_method_70_code
def yX7_forget : MethodName := ⟨RX7, "forget", "()I"⟩
abbrev cX7_kindsOf : ByteArray := prog_9_method_71_code
def yX7_kindsOf : MethodName := ⟨RX7, "kindsOf", "(I)I"⟩
abbrev cX7_is : ByteArray := prog_9_method_72_code
def yX7_is : MethodName := ⟨RX7, "is", "(I)I"⟩
abbrev cX7_alike : ByteArray := prog_9_method_73_code
def yX7_alike : MethodName := ⟨RX7, "alike", "(III)I"⟩
abbrev cX7_offer : ByteArray := prog_9_method_74_code
def yX7_offer : MethodName := ⟨RX7, "offer", "(I)I"⟩
abbrev cX7_gets : ByteArray := prog_9_method_75_code
def yX7_gets : MethodName := ⟨RX7, "gets", "(IIII)I"⟩
abbrev cX7_rests : ByteArray := prog_9_method_76_code
def yX7_rests : MethodName := ⟨RX7, "rests", "(IIII)Z"⟩
abbrev cX7_two : ByteArray := prog_9_method_77_code
def yX7_two : MethodName := ⟨RX7, "two", "(III)I"⟩
abbrev cX7_lay : ByteArray := prog_9_method_78_code
def yX7_lay : MethodName := ⟨RX7, "lay", "(JJ)V"⟩
abbrev cX7_clouds : ByteArray := prog_9_method_79_code
def yX7_clouds : MethodName := ⟨RX7, "clouds", "(I)I"⟩
abbrev cX7_eclipses : ByteArray := prog_9_method_80_code
def yX7_eclipses : MethodName := ⟨RX7, "eclipses", "(II)I"⟩
abbrev cX7_part : ByteArray := prog_9_method_81_code
def yX7_part : MethodName := ⟨RX7, "part", "(I)J"⟩
abbrev cX7_image : ByteArray := prog_9_method_82_code
def yX7_image : MethodName := ⟨RX7, "image", "(I)I"⟩
abbrev cX7_from : ByteArray := prog_9_method_83_code
def yX7_from : MethodName := ⟨RX7, "from", "(I)I"⟩
abbrev cX7_status : ByteArray := prog_9_method_84_code
def yX7_status : MethodName := ⟨RX7, "status", "(I)I"⟩
abbrev cX7_allPaid : ByteArray := prog_9_method_85_code
def yX7_allPaid : MethodName := ⟨RX7, "allPaid", "()I"⟩
abbrev cX7_countOf : ByteArray := prog_9_method_86_code
def yX7_countOf : MethodName := ⟨RX7, "countOf", "(I)I"⟩
abbrev cX7_count : ByteArray := prog_9_method_87_code
def yX7_count : MethodName := ⟨RX7, "count", "(I)I"⟩
abbrev cX7_mix : ByteArray := prog_9_method_88_code
def yX7_mix : MethodName := ⟨RX7, "mix", "(J)V"⟩
abbrev cX7_digest : ByteArray := prog_9_method_89_code
def yX7_digest : MethodName := ⟨RX7, "digest", "()J"⟩
def RJ9 : String := "java/lang/Math"
def TJ9 : u_T := fun k => match k with
  | _ => ("", "", "", false)
def tyJ9 : Nat → FieldType := fun k => match k with
  | _ => .int
theorem nmJ9 : ∀ a, a < 0 → ∀ b, b < 0 → a ≠ b → (TJ9 a).2.1 ≠ (TJ9 b).2.1 := by decide +kernel
theorem tyJ9_ok : ∀ k, k < 0 → parseFieldDescriptor (TJ9 k).2.2.1 = some (tyJ9 k) := by decide +kernel
abbrev cJ9_abs_0f7a4 : ByteArray := prog_10_method_59_code
def yJ9_abs_0f7a4 : MethodName := ⟨RJ9, "abs", "(I)I"⟩
abbrev cJ9_max_7cf53 : ByteArray := prog_10_method_65_code
def yJ9_max_7cf53 : MethodName := ⟨RJ9, "max", "(II)I"⟩
abbrev cJ9_min_7cf53 : ByteArray := prog_10_method_69_code
def yJ9_min_7cf53 : MethodName := ⟨RJ9, "min", "(II)I"⟩
def RJ0 : String := "java/lang/String"
def TJ0 : u_T := fun k => match k with
  | _ => ("", "", "", false)
def tyJ0 : Nat → FieldType := fun k => match k with
  | _ => .int
theorem nmJ0 : ∀ a, a < 0 → ∀ b, b < 0 → a ≠ b → (TJ0 a).2.1 ≠ (TJ0 b).2.1 := by decide +kernel
theorem tyJ0_ok : ∀ k, k < 0 → parseFieldDescriptor (TJ0 k).2.2.1 = some (tyJ0 k) := by decide +kernel
abbrev cJ0_length_8abf5 : ByteArray := prog_11_method_54_code
def yJ0_length_8abf5 : MethodName := ⟨RJ0, "length", "()I"⟩
abbrev cJ0_charAt_5068e : ByteArray := prog_11_method_56_code
def yJ0_charAt_5068e : MethodName := ⟨RJ0, "charAt", "(I)C"⟩
abbrev cJ0_coder_7d493 : ByteArray := prog_11_method_152_code
def yJ0_coder_7d493 : MethodName := ⟨RJ0, "coder", "()B"⟩
abbrev cJ0_isLatin1_aae02 : ByteArray := prog_11_method_154_code
def yJ0_isLatin1_aae02 : MethodName := ⟨RJ0, "isLatin1", "()Z"⟩
abbrev cJ0_checkIndex_df160 : ByteArray := prog_11_method_155_code
def yJ0_checkIndex_df160 : MethodName := ⟨RJ0, "checkIndex", "(II)V"⟩
def RJ1 : String := "java/lang/StringLatin1"
def TJ1 : u_T := fun k => match k with
  | _ => ("", "", "", false)
def tyJ1 : Nat → FieldType := fun k => match k with
  | _ => .int
theorem nmJ1 : ∀ a, a < 0 → ∀ b, b < 0 → a ≠ b → (TJ1 a).2.1 ≠ (TJ1 b).2.1 := by decide +kernel
theorem tyJ1_ok : ∀ k, k < 0 → parseFieldDescriptor (TJ1 k).2.2.1 = some (tyJ1 k) := by decide +kernel
abbrev cJ1_charAt_3b067 : ByteArray := prog_12_method_2_code
def yJ1_charAt_3b067 : MethodName := ⟨RJ1, "charAt", "([BI)C"⟩
def RJ2 : String := "java/lang/StringUTF16"
def TJ2 : u_T := fun k => match k with
  | _ => ("", "", "", false)
def tyJ2 : Nat → FieldType := fun k => match k with
  | _ => .int
theorem nmJ2 : ∀ a, a < 0 → ∀ b, b < 0 → a ≠ b → (TJ2 a).2.1 ≠ (TJ2 b).2.1 := by decide +kernel
theorem tyJ2_ok : ∀ k, k < 0 → parseFieldDescriptor (TJ2 k).2.2.1 = some (tyJ2 k) := by decide +kernel
abbrev cJ2_getChar_3b067 : ByteArray := prog_13_method_5_code
def yJ2_getChar_3b067 : MethodName := ⟨RJ2, "getChar", "([BI)C"⟩
abbrev cJ2_length_9d52b : ByteArray := prog_13_method_6_code
def yJ2_length_9d52b : MethodName := ⟨RJ2, "length", "([B)I"⟩
abbrev cJ2_charAt_3b067 : ByteArray := prog_13_method_83_code
def yJ2_charAt_3b067 : MethodName := ⟨RJ2, "charAt", "([BI)C"⟩
abbrev cJ2_checkIndex_2214a : ByteArray := prog_13_method_91_code
def yJ2_checkIndex_2214a : MethodName := ⟨RJ2, "checkIndex", "(I[B)V"⟩
def RJ10 : String := "java/lang/System"
def TJ10 : u_T := fun k => match k with
  | _ => ("", "", "", false)
def tyJ10 : Nat → FieldType := fun k => match k with
  | _ => .int
theorem nmJ10 : ∀ a, a < 0 → ∀ b, b < 0 → a ≠ b → (TJ10 a).2.1 ≠ (TJ10 b).2.1 := by decide +kernel
theorem tyJ10_ok : ∀ k, k < 0 → parseFieldDescriptor (TJ10 k).2.2.1 = some (tyJ10 k) := by decide +kernel
def RJ3 : String := "jdk/internal/util/Preconditions"
def TJ3 : u_T := fun k => match k with
  | _ => ("", "", "", false)
def tyJ3 : Nat → FieldType := fun k => match k with
  | _ => .int
theorem nmJ3 : ∀ a, a < 0 → ∀ b, b < 0 → a ≠ b → (TJ3 a).2.1 ≠ (TJ3 b).2.1 := by decide +kernel
theorem tyJ3_ok : ∀ k, k < 0 → parseFieldDescriptor (TJ3 k).2.2.1 = some (tyJ3 k) := by decide +kernel
abbrev cJ3_checkIndex_8e157 : ByteArray := prog_15_method_11_code
def yJ3_checkIndex_8e157 : MethodName := ⟨RJ3, "checkIndex", "(IILjava/util/function/BiFunction;)I"⟩
def RL : String := "EclipseSeatsLaw"
abbrev cL_law : ByteArray := code
def yL_law : MethodName := ⟨RL, "law", "([I)Z"⟩
abbrev vwCl : List vw_C := [(RX0, TX0, 4), (RX1, TX1, 1), (RX2, TX2, 13), (RX4, TX4, 4), (RX5, TX5, 6), (RX6, TX6, 13), (RX7, TX7, 32)]
abbrev mX0_init : MethodName × ByteArray × Nat × Option FieldType × Room := (yX0_init, cX0_init, 1, none, { frames := 1, cells := 0, slots := 0, locals := 20 })
abbrev mX0_work : MethodName × ByteArray × Nat × Option FieldType × Room := (yX0_work, cX0_work, 8, none, { frames := 4, cells := 0, slots := 0, locals := 88 })
abbrev mX0_rests : MethodName × ByteArray × Nat × Option FieldType × Room := (yX0_rests, cX0_rests, 3, (some .boolean), { frames := 0, cells := 0, slots := 0, locals := 0 })
abbrev mX0_gets : MethodName × ByteArray × Nat × Option FieldType × Room := (yX0_gets, cX0_gets, 5, (some .int), { frames := 3, cells := 0, slots := 0, locals := 64 })
abbrev mX1_init : MethodName × ByteArray × Nat × Option FieldType × Room := (yX1_init, cX1_init, 1, none, { frames := 1, cells := 0, slots := 0, locals := 20 })
abbrev mX1_kindsOf : MethodName × ByteArray × Nat × Option FieldType × Room := (yX1_kindsOf, cX1_kindsOf, 5, (some .int), { frames := 2, cells := 0, slots := 0, locals := 46 })
abbrev mX1_nextFor : MethodName × ByteArray × Nat × Option FieldType × Room := (yX1_nextFor, cX1_nextFor, 10, (some .int), { frames := 3, cells := 0, slots := 0, locals := 70 })
abbrev mX1_fits : MethodName × ByteArray × Nat × Option FieldType × Room := (yX1_fits, cX1_fits, 5, (some .boolean), { frames := 1, cells := 0, slots := 0, locals := 22 })
abbrev mX1_mostAlike : MethodName × ByteArray × Nat × Option FieldType × Room := (yX1_mostAlike, cX1_mostAlike, 6, (some .int), { frames := 1, cells := 0, slots := 0, locals := 23 })
abbrev mX1_likeOnes : MethodName × ByteArray × Nat × Option FieldType × Room := (yX1_likeOnes, cX1_likeOnes, 4, (some .int), { frames := 0, cells := 0, slots := 0, locals := 0 })
abbrev mX2_init : MethodName × ByteArray × Nat × Option FieldType × Room := (yX2_init, cX2_init, 1, none, { frames := 1, cells := 0, slots := 0, locals := 20 })
abbrev mX2_begin : MethodName × ByteArray × Nat × Option FieldType × Room := (yX2_begin, cX2_begin, 4, none, { frames := 0, cells := 0, slots := 0, locals := 0 })
abbrev mX2_copyOf : MethodName × ByteArray × Nat × Option FieldType × Room := (yX2_copyOf, cX2_copyOf, 2, none, { frames := 1, cells := 0, slots := 0, locals := 40 })
abbrev mX2_addBidder : MethodName × ByteArray × Nat × Option FieldType × Room := (yX2_addBidder, cX2_addBidder, 4, (some .int), { frames := 1, cells := 0, slots := 0, locals := 20 })
abbrev mX2_remember : MethodName × ByteArray × Nat × Option FieldType × Room := (yX2_remember, cX2_remember, 2, none, { frames := 1, cells := 0, slots := 0, locals := 40 })
abbrev mX2_stepBack : MethodName × ByteArray × Nat × Option FieldType × Room := (yX2_stepBack, cX2_stepBack, 2, none, { frames := 1, cells := 0, slots := 0, locals := 40 })
abbrev mX2_darkIn : MethodName × ByteArray × Nat × Option FieldType × Room := (yX2_darkIn, cX2_darkIn, 2, (some .int), { frames := 2, cells := 0, slots := 0, locals := 43 })
abbrev mX2_holder : MethodName × ByteArray × Nat × Option FieldType × Room := (yX2_holder, cX2_holder, 3, (some .int), { frames := 0, cells := 0, slots := 0, locals := 0 })
abbrev mX2_isOpenTo : MethodName × ByteArray × Nat × Option FieldType × Room := (yX2_isOpenTo, cX2_isOpenTo, 4, (some .boolean), { frames := 1, cells := 0, slots := 0, locals := 22 })
abbrev mX2_freeYards : MethodName × ByteArray × Nat × Option FieldType × Room := (yX2_freeYards, cX2_freeYards, 3, (some .int), { frames := 0, cells := 0, slots := 0, locals := 0 })
abbrev mX2_hides : MethodName × ByteArray × Nat × Option FieldType × Room := (yX2_hides, cX2_hides, 4, (some .boolean), { frames := 0, cells := 0, slots := 0, locals := 0 })
abbrev mX2_isHidden : MethodName × ByteArray × Nat × Option FieldType × Room := (yX2_isHidden, cX2_isHidden, 5, (some .boolean), { frames := 1, cells := 0, slots := 0, locals := 23 })
abbrev mX2_seenIn : MethodName × ByteArray × Nat × Option FieldType × Room := (yX2_seenIn, cX2_seenIn, 3, (some .int), { frames := 3, cells := 0, slots := 0, locals := 64 })
abbrev mX2_seenNow : MethodName × ByteArray × Nat × Option FieldType × Room := (yX2_seenNow, cX2_seenNow, 2, (some .int), { frames := 4, cells := 0, slots := 0, locals := 86 })
abbrev mX2_seenByAll : MethodName × ByteArray × Nat × Option FieldType × Room := (yX2_seenByAll, cX2_seenByAll, 3, (some .int), { frames := 5, cells := 0, slots := 0, locals := 107 })
abbrev mX2_openSeats : MethodName × ByteArray × Nat × Option FieldType × Room := (yX2_openSeats, cX2_openSeats, 3, (some .int), { frames := 2, cells := 0, slots := 0, locals := 47 })
abbrev mX2_paidByAll : MethodName × ByteArray × Nat × Option FieldType × Room := (yX2_paidByAll, cX2_paidByAll, 3, (some .int), { frames := 0, cells := 0, slots := 0, locals := 0 })
abbrev mX2_worthIn : MethodName × ByteArray × Nat × Option FieldType × Room := (yX2_worthIn, cX2_worthIn, 3, (some .int), { frames := 4, cells := 0, slots := 0, locals := 86 })
abbrev mX2_bid : MethodName × ByteArray × Nat × Option FieldType × Room := (yX2_bid, cX2_bid, 3, (some .int), { frames := 5, cells := 0, slots := 0, locals := 108 })
abbrev mX2_topBidder : MethodName × ByteArray × Nat × Option FieldType × Room := (yX2_topBidder, cX2_topBidder, 6, (some .int), { frames := 6, cells := 0, slots := 0, locals := 130 })
abbrev mX2_price : MethodName × ByteArray × Nat × Option FieldType × Room := (yX2_price, cX2_price, 5, (some .int), { frames := 6, cells := 0, slots := 0, locals := 130 })
abbrev mX2_harm : MethodName × ByteArray × Nat × Option FieldType × Room := (yX2_harm, cX2_harm, 6, (some .int), { frames := 3, cells := 0, slots := 0, locals := 64 })
abbrev mX3_worth : MethodName × ByteArray × Nat × Option FieldType × Room := (yX3_worth, cX3_worth, 3, (some .int), { frames := 0, cells := 0, slots := 0, locals := 0 })
abbrev mX3_head : MethodName × ByteArray × Nat × Option FieldType × Room := (yX3_head, cX3_head, 1, (some .int), { frames := 0, cells := 0, slots := 0, locals := 0 })
abbrev mX4_init : MethodName × ByteArray × Nat × Option FieldType × Room := (yX4_init, cX4_init, 1, none, { frames := 1, cells := 0, slots := 0, locals := 20 })
abbrev mX4_work : MethodName × ByteArray × Nat × Option FieldType × Room := (yX4_work, cX4_work, 5, none, { frames := 4, cells := 0, slots := 0, locals := 88 })
abbrev mX4_total : MethodName × ByteArray × Nat × Option FieldType × Room := (yX4_total, cX4_total, 1, (some .int), { frames := 0, cells := 0, slots := 0, locals := 0 })
abbrev mX4_seatFor : MethodName × ByteArray × Nat × Option FieldType × Room := (yX4_seatFor, cX4_seatFor, 3, (some .int), { frames := 1, cells := 0, slots := 0, locals := 20 })
abbrev mX4_lookAt : MethodName × ByteArray × Nat × Option FieldType × Room := (yX4_lookAt, cX4_lookAt, 5, none, { frames := 3, cells := 0, slots := 0, locals := 64 })
abbrev mX4_spread : MethodName × ByteArray × Nat × Option FieldType × Room := (yX4_spread, cX4_spread, 10, none, { frames := 1, cells := 0, slots := 0, locals := 21 })
abbrev mX4_seatShift : MethodName × ByteArray × Nat × Option FieldType × Room := (yX4_seatShift, cX4_seatShift, 1, (some .int), { frames := 0, cells := 0, slots := 0, locals := 0 })
abbrev mX5_init : MethodName × ByteArray × Nat × Option FieldType × Room := (yX5_init, cX5_init, 1, none, { frames := 1, cells := 0, slots := 0, locals := 20 })
abbrev mX5_readInto : MethodName × ByteArray × Nat × Option FieldType × Room := (yX5_readInto, cX5_readInto, 3, (some .int), { frames := 9, cells := 0, slots := 0, locals := 211 })
abbrev mX5_takeItem : MethodName × ByteArray × Nat × Option FieldType × Room := (yX5_takeItem, cX5_takeItem, 4, (some .boolean), { frames := 8, cells := 0, slots := 0, locals := 188 })
abbrev mX5_takeTrack : MethodName × ByteArray × Nat × Option FieldType × Room := (yX5_takeTrack, cX5_takeTrack, 2, (some .boolean), { frames := 3, cells := 0, slots := 0, locals := 61 })
abbrev mX5_takeDark : MethodName × ByteArray × Nat × Option FieldType × Room := (yX5_takeDark, cX5_takeDark, 2, (some .boolean), { frames := 3, cells := 0, slots := 0, locals := 61 })
abbrev mX5_takeHeights : MethodName × ByteArray × Nat × Option FieldType × Room := (yX5_takeHeights, cX5_takeHeights, 3, (some .boolean), { frames := 3, cells := 0, slots := 0, locals := 61 })
abbrev mX5_takeBidder : MethodName × ByteArray × Nat × Option FieldType × Room := (yX5_takeBidder, cX5_takeBidder, 3, (some .boolean), { frames := 3, cells := 0, slots := 0, locals := 61 })
abbrev mX5_takeSeat : MethodName × ByteArray × Nat × Option FieldType × Room := (yX5_takeSeat, cX5_takeSeat, 3, (some .boolean), { frames := 3, cells := 0, slots := 0, locals := 61 })
abbrev mX5_takeNumber : MethodName × ByteArray × Nat × Option FieldType × Room := (yX5_takeNumber, cX5_takeNumber, 2, (some .boolean), { frames := 2, cells := 0, slots := 0, locals := 40 })
abbrev mX5_takeStop : MethodName × ByteArray × Nat × Option FieldType × Room := (yX5_takeStop, cX5_takeStop, 1, (some .boolean), { frames := 2, cells := 0, slots := 0, locals := 40 })
abbrev mX5_step : MethodName × ByteArray × Nat × Option FieldType × Room := (yX5_step, cX5_step, 1, none, { frames := 1, cells := 0, slots := 0, locals := 20 })
abbrev mX5_isWord : MethodName × ByteArray × Nat × Option FieldType × Room := (yX5_isWord, cX5_isWord, 3, (some .boolean), { frames := 7, cells := 0, slots := 0, locals := 166 })
abbrev mX5_isLetter : MethodName × ByteArray × Nat × Option FieldType × Room := (yX5_isLetter, cX5_isLetter, 1, (some .boolean), { frames := 0, cells := 0, slots := 0, locals := 0 })
abbrev mX5_isFigure : MethodName × ByteArray × Nat × Option FieldType × Room := (yX5_isFigure, cX5_isFigure, 1, (some .boolean), { frames := 0, cells := 0, slots := 0, locals := 0 })
abbrev mX6_init : MethodName × ByteArray × Nat × Option FieldType × Room := (yX6_init, cX6_init, 2, none, { frames := 2, cells := 0, slots := 0, locals := 40 })
abbrev mX6_hill : MethodName × ByteArray × Nat × Option FieldType × Room := (yX6_hill, cX6_hill, 4, (some .int), { frames := 2, cells := 0, slots := 0, locals := 42 })
abbrev mX6_track : MethodName × ByteArray × Nat × Option FieldType × Room := (yX6_track, cX6_track, 3, (some .int), { frames := 2, cells := 0, slots := 0, locals := 42 })
abbrev mX6_height : MethodName × ByteArray × Nat × Option FieldType × Room := (yX6_height, cX6_height, 4, (some .int), { frames := 1, cells := 0, slots := 0, locals := 21 })
abbrev mX6_one : MethodName × ByteArray × Nat × Option FieldType × Room := (yX6_one, cX6_one, 3, (some .int), { frames := 2, cells := 0, slots := 0, locals := 43 })
abbrev mX6_type : MethodName × ByteArray × Nat × Option FieldType × Room := (yX6_type, cX6_type, 2, (some .int), { frames := 1, cells := 0, slots := 0, locals := 21 })
abbrev mX6_clear : MethodName × ByteArray × Nat × Option FieldType × Room := (yX6_clear, cX6_clear, 2, (some .int), { frames := 0, cells := 0, slots := 0, locals := 0 })
abbrev mX6_read : MethodName × ByteArray × Nat × Option FieldType × Room := (yX6_read, cX6_read, 2, (some .int), { frames := 10, cells := 0, slots := 0, locals := 233 })
abbrev mX6_sell : MethodName × ByteArray × Nat × Option FieldType × Room := (yX6_sell, cX6_sell, 4, (some .int), { frames := 7, cells := 0, slots := 0, locals := 155 })
abbrev mX6_leave : MethodName × ByteArray × Nat × Option FieldType × Room := (yX6_leave, cX6_leave, 3, (some .int), { frames := 2, cells := 0, slots := 0, locals := 61 })
abbrev mX6_moves : MethodName × ByteArray × Nat × Option FieldType × Room := (yX6_moves, cX6_moves, 4, (some .int), { frames := 2, cells := 0, slots := 0, locals := 61 })
abbrev mX6_undo : MethodName × ByteArray × Nat × Option FieldType × Room := (yX6_undo, cX6_undo, 1, (some .int), { frames := 2, cells := 0, slots := 0, locals := 61 })
abbrev mX6_of : MethodName × ByteArray × Nat × Option FieldType × Room := (yX6_of, cX6_of, 3, (some .int), { frames := 1, cells := 0, slots := 0, locals := 21 })
abbrev mX6_yard : MethodName × ByteArray × Nat × Option FieldType × Room := (yX6_yard, cX6_yard, 3, (some .int), { frames := 3, cells := 0, slots := 0, locals := 64 })
abbrev mX6_sees : MethodName × ByteArray × Nat × Option FieldType × Room := (yX6_sees, cX6_sees, 3, (some .int), { frames := 5, cells := 0, slots := 0, locals := 107 })
abbrev mX6_gives : MethodName × ByteArray × Nat × Option FieldType × Room := (yX6_gives, cX6_gives, 4, (some .int), { frames := 6, cells := 0, slots := 0, locals := 130 })
abbrev mX6_auction : MethodName × ByteArray × Nat × Option FieldType × Room := (yX6_auction, cX6_auction, 4, (some .int), { frames := 7, cells := 0, slots := 0, locals := 155 })
abbrev mX6_hurt : MethodName × ByteArray × Nat × Option FieldType × Room := (yX6_hurt, cX6_hurt, 3, (some .int), { frames := 4, cells := 0, slots := 0, locals := 89 })
abbrev mX6_best : MethodName × ByteArray × Nat × Option FieldType × Room := (yX6_best, cX6_best, 7, (some .int), { frames := 5, cells := 0, slots := 0, locals := 108 })
abbrev mX6_all : MethodName × ByteArray × Nat × Option FieldType × Room := (yX6_all, cX6_all, 2, (some .int), { frames := 5, cells := 0, slots := 0, locals := 112 })
abbrev mX6_move : MethodName × ByteArray × Nat × Option FieldType × Room := (yX6_move, cX6_move, 6, (some .int), { frames := 4, cells := 0, slots := 0, locals := 89 })
abbrev mX6_note : MethodName × ByteArray × Nat × Option FieldType × Room := (yX6_note, cX6_note, 6, (some .int), { frames := 1, cells := 0, slots := 0, locals := 21 })
abbrev mX6_forget : MethodName × ByteArray × Nat × Option FieldType × Room := (yX6_forget, cX6_forget, 2, (some .int), { frames := 0, cells := 0, slots := 0, locals := 0 })
abbrev mX6_is : MethodName × ByteArray × Nat × Option FieldType × Room := (yX6_is, cX6_is, 2, (some .int), { frames := 3, cells := 0, slots := 0, locals := 70 })
abbrev mX6_offer : MethodName × ByteArray × Nat × Option FieldType × Room := (yX6_offer, cX6_offer, 2, (some .int), { frames := 4, cells := 0, slots := 0, locals := 99 })
abbrev mX6_two : MethodName × ByteArray × Nat × Option FieldType × Room := (yX6_two, cX6_two, 7, (some .int), { frames := 5, cells := 0, slots := 0, locals := 115 })
abbrev mX6_clouds : MethodName × ByteArray × Nat × Option FieldType × Room := (yX6_clouds, cX6_clouds, 4, (some .int), { frames := 6, cells := 0, slots := 0, locals := 129 })
abbrev mX6_eclipses : MethodName × ByteArray × Nat × Option FieldType × Room := (yX6_eclipses, cX6_eclipses, 10, (some .int), { frames := 3, cells := 0, slots := 0, locals := 69 })
abbrev mX6_part : MethodName × ByteArray × Nat × Option FieldType × Room := (yX6_part, cX6_part, 2, (some .long), { frames := 1, cells := 0, slots := 0, locals := 21 })
abbrev mX6_image : MethodName × ByteArray × Nat × Option FieldType × Room := (yX6_image, cX6_image, 2, (some .int), { frames := 2, cells := 0, slots := 0, locals := 61 })
abbrev mX6_from : MethodName × ByteArray × Nat × Option FieldType × Room := (yX6_from, cX6_from, 2, (some .int), { frames := 2, cells := 0, slots := 0, locals := 61 })
abbrev mX6_status : MethodName × ByteArray × Nat × Option FieldType × Room := (yX6_status, cX6_status, 2, (some .int), { frames := 1, cells := 0, slots := 0, locals := 21 })
abbrev mX6_count : MethodName × ByteArray × Nat × Option FieldType × Room := (yX6_count, cX6_count, 2, (some .int), { frames := 7, cells := 0, slots := 0, locals := 150 })
abbrev mX6_digest : MethodName × ByteArray × Nat × Option FieldType × Room := (yX6_digest, cX6_digest, 4, (some .long), { frames := 7, cells := 0, slots := 0, locals := 150 })
abbrev mX6_howMany : MethodName × ByteArray × Nat × Option FieldType × Room := (yX6_howMany, cX6_howMany, 2, (some .int), { frames := 6, cells := 0, slots := 0, locals := 129 })
abbrev mX6_bad : MethodName × ByteArray × Nat × Option FieldType × Room := (yX6_bad, cX6_bad, 2, (some .int), { frames := 0, cells := 0, slots := 0, locals := 0 })
abbrev mX6_no : MethodName × ByteArray × Nat × Option FieldType × Room := (yX6_no, cX6_no, 1, (some .int), { frames := 0, cells := 0, slots := 0, locals := 0 })
abbrev mX6_full : MethodName × ByteArray × Nat × Option FieldType × Room := (yX6_full, cX6_full, 1, (some .int), { frames := 0, cells := 0, slots := 0, locals := 0 })
abbrev mX6_isBidder : MethodName × ByteArray × Nat × Option FieldType × Room := (yX6_isBidder, cX6_isBidder, 2, (some .boolean), { frames := 0, cells := 0, slots := 0, locals := 0 })
abbrev mX6_isYard : MethodName × ByteArray × Nat × Option FieldType × Room := (yX6_isYard, cX6_isYard, 1, (some .boolean), { frames := 0, cells := 0, slots := 0, locals := 0 })
abbrev mX6_isTrack : MethodName × ByteArray × Nat × Option FieldType × Room := (yX6_isTrack, cX6_isTrack, 2, (some .boolean), { frames := 1, cells := 0, slots := 0, locals := 21 })
abbrev mX6_within : MethodName × ByteArray × Nat × Option FieldType × Room := (yX6_within, cX6_within, 2, (some .boolean), { frames := 0, cells := 0, slots := 0, locals := 0 })
abbrev mX6_darkFrom : MethodName × ByteArray × Nat × Option FieldType × Room := (yX6_darkFrom, cX6_darkFrom, 3, (some .int), { frames := 1, cells := 0, slots := 0, locals := 21 })
abbrev mX6_darkOver : MethodName × ByteArray × Nat × Option FieldType × Room := (yX6_darkOver, cX6_darkOver, 5, (some .int), { frames := 2, cells := 0, slots := 0, locals := 43 })
abbrev mX6_commonDivisor : MethodName × ByteArray × Nat × Option FieldType × Room := (yX6_commonDivisor, cX6_commonDivisor, 3, (some .int), { frames := 0, cells := 0, slots := 0, locals := 0 })
abbrev mX7_bad : MethodName × ByteArray × Nat × Option FieldType × Room := (yX7_bad, cX7_bad, 1, (some .int), { frames := 0, cells := 0, slots := 0, locals := 0 })
abbrev mX7_ten : MethodName × ByteArray × Nat × Option FieldType × Room := (yX7_ten, cX7_ten, 1, (some .int), { frames := 0, cells := 0, slots := 0, locals := 0 })
abbrev mX7_no : MethodName × ByteArray × Nat × Option FieldType × Room := (yX7_no, cX7_no, 1, (some .int), { frames := 0, cells := 0, slots := 0, locals := 0 })
abbrev mX7_full : MethodName × ByteArray × Nat × Option FieldType × Room := (yX7_full, cX7_full, 1, (some .int), { frames := 0, cells := 0, slots := 0, locals := 0 })
abbrev mX7_in : MethodName × ByteArray × Nat × Option FieldType × Room := (yX7_in, cX7_in, 3, (some .boolean), { frames := 0, cells := 0, slots := 0, locals := 0 })
abbrev mX7_has : MethodName × ByteArray × Nat × Option FieldType × Room := (yX7_has, cX7_has, 2, (some .boolean), { frames := 0, cells := 0, slots := 0, locals := 0 })
abbrev mX7_lesser : MethodName × ByteArray × Nat × Option FieldType × Room := (yX7_lesser, cX7_lesser, 2, (some .int), { frames := 0, cells := 0, slots := 0, locals := 0 })
abbrev mX7_init : MethodName × ByteArray × Nat × Option FieldType × Room := (yX7_init, cX7_init, 1, none, { frames := 1, cells := 0, slots := 0, locals := 23 })
abbrev mX7_begin : MethodName × ByteArray × Nat × Option FieldType × Room := (yX7_begin, cX7_begin, 4, none, { frames := 0, cells := 0, slots := 0, locals := 0 })
abbrev mX7_isOne : MethodName × ByteArray × Nat × Option FieldType × Room := (yX7_isOne, cX7_isOne, 2, (some .boolean), { frames := 1, cells := 0, slots := 0, locals := 22 })
abbrev mX7_isYard : MethodName × ByteArray × Nat × Option FieldType × Room := (yX7_isYard, cX7_isYard, 1, (some .boolean), { frames := 1, cells := 0, slots := 0, locals := 22 })
abbrev mX7_hill : MethodName × ByteArray × Nat × Option FieldType × Room := (yX7_hill, cX7_hill, 4, (some .int), { frames := 2, cells := 0, slots := 0, locals := 42 })
abbrev mX7_track : MethodName × ByteArray × Nat × Option FieldType × Room := (yX7_track, cX7_track, 3, (some .int), { frames := 2, cells := 0, slots := 0, locals := 42 })
abbrev mX7_height : MethodName × ByteArray × Nat × Option FieldType × Room := (yX7_height, cX7_height, 4, (some .int), { frames := 2, cells := 0, slots := 0, locals := 42 })
abbrev mX7_addOne : MethodName × ByteArray × Nat × Option FieldType × Room := (yX7_addOne, cX7_addOne, 3, (some .int), { frames := 0, cells := 0, slots := 0, locals := 0 })
abbrev mX7_one : MethodName × ByteArray × Nat × Option FieldType × Room := (yX7_one, cX7_one, 3, (some .int), { frames := 1, cells := 0, slots := 0, locals := 22 })
abbrev mX7_type : MethodName × ByteArray × Nat × Option FieldType × Room := (yX7_type, cX7_type, 2, (some .int), { frames := 1, cells := 0, slots := 0, locals := 22 })
abbrev mX7_clear : MethodName × ByteArray × Nat × Option FieldType × Room := (yX7_clear, cX7_clear, 2, (some .int), { frames := 0, cells := 0, slots := 0, locals := 0 })
abbrev mX7_here : MethodName × ByteArray × Nat × Option FieldType × Room := (yX7_here, cX7_here, 1, (some .int), { frames := 0, cells := 0, slots := 0, locals := 0 })
abbrev mX7_skip : MethodName × ByteArray × Nat × Option FieldType × Room := (yX7_skip, cX7_skip, 1, none, { frames := 1, cells := 0, slots := 0, locals := 20 })
abbrev mX7_isLetter : MethodName × ByteArray × Nat × Option FieldType × Room := (yX7_isLetter, cX7_isLetter, 1, (some .boolean), { frames := 1, cells := 0, slots := 0, locals := 22 })
abbrev mX7_isFigure : MethodName × ByteArray × Nat × Option FieldType × Room := (yX7_isFigure, cX7_isFigure, 1, (some .boolean), { frames := 1, cells := 0, slots := 0, locals := 22 })
abbrev mX7_wordSize : MethodName × ByteArray × Nat × Option FieldType × Room := (yX7_wordSize, cX7_wordSize, 2, (some .int), { frames := 2, cells := 0, slots := 0, locals := 42 })
abbrev mX7_letter : MethodName × ByteArray × Nat × Option FieldType × Room := (yX7_letter, cX7_letter, 2, (some .int), { frames := 0, cells := 0, slots := 0, locals := 0 })
abbrev mX7_spells : MethodName × ByteArray × Nat × Option FieldType × Room := (yX7_spells, cX7_spells, 5, (some .boolean), { frames := 1, cells := 0, slots := 0, locals := 21 })
abbrev mX7_wordHere : MethodName × ByteArray × Nat × Option FieldType × Room := (yX7_wordHere, cX7_wordHere, 2, (some .int), { frames := 3, cells := 0, slots := 0, locals := 63 })
abbrev mX7_number : MethodName × ByteArray × Nat × Option FieldType × Room := (yX7_number, cX7_number, 5, (some .boolean), { frames := 2, cells := 0, slots := 0, locals := 42 })
abbrev mX7_ends : MethodName × ByteArray × Nat × Option FieldType × Room := (yX7_ends, cX7_ends, 1, (some .boolean), { frames := 2, cells := 0, slots := 0, locals := 40 })
abbrev mX7_readsDark : MethodName × ByteArray × Nat × Option FieldType × Room := (yX7_readsDark, cX7_readsDark, 1, (some .boolean), { frames := 3, cells := 0, slots := 0, locals := 66 })
abbrev mX7_readsHeights : MethodName × ByteArray × Nat × Option FieldType × Room := (yX7_readsHeights, cX7_readsHeights, 2, (some .boolean), { frames := 3, cells := 0, slots := 0, locals := 66 })
abbrev mX7_readsOne : MethodName × ByteArray × Nat × Option FieldType × Room := (yX7_readsOne, cX7_readsOne, 1, (some .boolean), { frames := 3, cells := 0, slots := 0, locals := 66 })
abbrev mX7_readsSeat : MethodName × ByteArray × Nat × Option FieldType × Room := (yX7_readsSeat, cX7_readsSeat, 4, (some .boolean), { frames := 3, cells := 0, slots := 0, locals := 66 })
abbrev mX7_readsItem : MethodName × ByteArray × Nat × Option FieldType × Room := (yX7_readsItem, cX7_readsItem, 2, (some .boolean), { frames := 4, cells := 0, slots := 0, locals := 89 })
abbrev mX7_readsFirst : MethodName × ByteArray × Nat × Option FieldType × Room := (yX7_readsFirst, cX7_readsFirst, 1, (some .boolean), { frames := 4, cells := 0, slots := 0, locals := 84 })
abbrev mX7_readsHill : MethodName × ByteArray × Nat × Option FieldType × Room := (yX7_readsHill, cX7_readsHill, 2, (some .int), { frames := 5, cells := 0, slots := 0, locals := 110 })
abbrev mX7_read : MethodName × ByteArray × Nat × Option FieldType × Room := (yX7_read, cX7_read, 3, (some .int), { frames := 6, cells := 0, slots := 0, locals := 131 })
abbrev mX7_worthBy : MethodName × ByteArray × Nat × Option FieldType × Room := (yX7_worthBy, cX7_worthBy, 3, (some .int), { frames := 0, cells := 0, slots := 0, locals := 0 })
abbrev mX7_headBy : MethodName × ByteArray × Nat × Option FieldType × Room := (yX7_headBy, cX7_headBy, 1, (some .int), { frames := 0, cells := 0, slots := 0, locals := 0 })
abbrev mX7_darkIn : MethodName × ByteArray × Nat × Option FieldType × Room := (yX7_darkIn, cX7_darkIn, 4, (some .int), { frames := 0, cells := 0, slots := 0, locals := 0 })
abbrev mX7_who : MethodName × ByteArray × Nat × Option FieldType × Room := (yX7_who, cX7_who, 3, (some .int), { frames := 0, cells := 0, slots := 0, locals := 0 })
abbrev mX7_seen : MethodName × ByteArray × Nat × Option FieldType × Room := (yX7_seen, cX7_seen, 6, (some .int), { frames := 1, cells := 0, slots := 0, locals := 23 })
abbrev mX7_worth : MethodName × ByteArray × Nat × Option FieldType × Room := (yX7_worth, cX7_worth, 2, (some .int), { frames := 2, cells := 0, slots := 0, locals := 48 })
abbrev mX7_othersSee : MethodName × ByteArray × Nat × Option FieldType × Room := (yX7_othersSee, cX7_othersSee, 4, (some .int), { frames := 2, cells := 0, slots := 0, locals := 48 })
abbrev mX7_isOpen : MethodName × ByteArray × Nat × Option FieldType × Room := (yX7_isOpen, cX7_isOpen, 4, (some .boolean), { frames := 1, cells := 0, slots := 0, locals := 22 })
abbrev mX7_lays : MethodName × ByteArray × Nat × Option FieldType × Room := (yX7_lays, cX7_lays, 4, none, { frames := 0, cells := 0, slots := 0, locals := 0 })
abbrev mX7_takes : MethodName × ByteArray × Nat × Option FieldType × Room := (yX7_takes, cX7_takes, 4, none, { frames := 0, cells := 0, slots := 0, locals := 0 })
abbrev mX7_notes : MethodName × ByteArray × Nat × Option FieldType × Room := (yX7_notes, cX7_notes, 2, none, { frames := 1, cells := 0, slots := 0, locals := 23 })
abbrev mX7_free : MethodName × ByteArray × Nat × Option FieldType × Room := (yX7_free, cX7_free, 3, (some .int), { frames := 0, cells := 0, slots := 0, locals := 0 })
abbrev mX7_sell : MethodName × ByteArray × Nat × Option FieldType × Room := (yX7_sell, cX7_sell, 4, (some .int), { frames := 6, cells := 0, slots := 0, locals := 141 })
abbrev mX7_leave : MethodName × ByteArray × Nat × Option FieldType × Room := (yX7_leave, cX7_leave, 3, (some .int), { frames := 2, cells := 0, slots := 0, locals := 44 })
abbrev mX7_moves : MethodName × ByteArray × Nat × Option FieldType × Room := (yX7_moves, cX7_moves, 4, (some .int), { frames := 2, cells := 0, slots := 0, locals := 44 })
abbrev mX7_undo : MethodName × ByteArray × Nat × Option FieldType × Room := (yX7_undo, cX7_undo, 1, (some .int), { frames := 1, cells := 0, slots := 0, locals := 23 })
abbrev mX7_of : MethodName × ByteArray × Nat × Option FieldType × Room := (yX7_of, cX7_of, 3, (some .int), { frames := 2, cells := 0, slots := 0, locals := 43 })
abbrev mX7_yard : MethodName × ByteArray × Nat × Option FieldType × Room := (yX7_yard, cX7_yard, 3, (some .int), { frames := 2, cells := 0, slots := 0, locals := 42 })
abbrev mX7_seesIn : MethodName × ByteArray × Nat × Option FieldType × Room := (yX7_seesIn, cX7_seesIn, 5, (some .int), { frames := 2, cells := 0, slots := 0, locals := 48 })
abbrev mX7_worthIn : MethodName × ByteArray × Nat × Option FieldType × Room := (yX7_worthIn, cX7_worthIn, 3, (some .int), { frames := 3, cells := 0, slots := 0, locals := 72 })
abbrev mX7_sees : MethodName × ByteArray × Nat × Option FieldType × Room := (yX7_sees, cX7_sees, 3, (some .int), { frames := 3, cells := 0, slots := 0, locals := 72 })
abbrev mX7_gives : MethodName × ByteArray × Nat × Option FieldType × Room := (yX7_gives, cX7_gives, 3, (some .int), { frames := 4, cells := 0, slots := 0, locals := 94 })
abbrev mX7_bidOf : MethodName × ByteArray × Nat × Option FieldType × Room := (yX7_bidOf, cX7_bidOf, 3, (some .int), { frames := 4, cells := 0, slots := 0, locals := 94 })
abbrev mX7_winner : MethodName × ByteArray × Nat × Option FieldType × Room := (yX7_winner, cX7_winner, 6, (some .int), { frames := 5, cells := 0, slots := 0, locals := 116 })
abbrev mX7_priceOf : MethodName × ByteArray × Nat × Option FieldType × Room := (yX7_priceOf, cX7_priceOf, 6, (some .int), { frames := 5, cells := 0, slots := 0, locals := 116 })
abbrev mX7_auction : MethodName × ByteArray × Nat × Option FieldType × Room := (yX7_auction, cX7_auction, 4, (some .int), { frames := 6, cells := 0, slots := 0, locals := 141 })
abbrev mX7_hurtIn : MethodName × ByteArray × Nat × Option FieldType × Room := (yX7_hurtIn, cX7_hurtIn, 6, (some .int), { frames := 3, cells := 0, slots := 0, locals := 71 })
abbrev mX7_hurt : MethodName × ByteArray × Nat × Option FieldType × Room := (yX7_hurt, cX7_hurt, 3, (some .int), { frames := 4, cells := 0, slots := 0, locals := 96 })
abbrev mX7_best : MethodName × ByteArray × Nat × Option FieldType × Room := (yX7_best, cX7_best, 7, (some .int), { frames := 4, cells := 0, slots := 0, locals := 96 })
abbrev mX7_seatBy : MethodName × ByteArray × Nat × Option FieldType × Room := (yX7_seatBy, cX7_seatBy, 5, (some .boolean), { frames := 1, cells := 0, slots := 0, locals := 21 })
abbrev mX7_all : MethodName × ByteArray × Nat × Option FieldType × Room := (yX7_all, cX7_all, 7, (some .int), { frames := 3, cells := 0, slots := 0, locals := 69 })
abbrev mX7_move : MethodName × ByteArray × Nat × Option FieldType × Room := (yX7_move, cX7_move, 6, (some .int), { frames := 4, cells := 0, slots := 0, locals := 96 })
abbrev mX7_note : MethodName × ByteArray × Nat × Option FieldType × Room := (yX7_note, cX7_note, 5, (some .int), { frames := 2, cells := 0, slots := 0, locals := 43 })
abbrev mX7_forget : MethodName × ByteArray × Nat × Option FieldType × Room := (yX7_forget, cX7_forget, 2, (some .int), { frames := 0, cells := 0, slots := 0, locals := 0 })
abbrev mX7_kindsOf : MethodName × ByteArray × Nat × Option FieldType × Room := (yX7_kindsOf, cX7_kindsOf, 7, (some .int), { frames := 1, cells := 0, slots := 0, locals := 22 })
abbrev mX7_is : MethodName × ByteArray × Nat × Option FieldType × Room := (yX7_is, cX7_is, 2, (some .int), { frames := 2, cells := 0, slots := 0, locals := 48 })
abbrev mX7_alike : MethodName × ByteArray × Nat × Option FieldType × Room := (yX7_alike, cX7_alike, 7, (some .int), { frames := 1, cells := 0, slots := 0, locals := 22 })
abbrev mX7_offer : MethodName × ByteArray × Nat × Option FieldType × Room := (yX7_offer, cX7_offer, 8, (some .int), { frames := 2, cells := 0, slots := 0, locals := 48 })
abbrev mX7_gets : MethodName × ByteArray × Nat × Option FieldType × Room := (yX7_gets, cX7_gets, 6, (some .int), { frames := 1, cells := 0, slots := 0, locals := 23 })
abbrev mX7_rests : MethodName × ByteArray × Nat × Option FieldType × Room := (yX7_rests, cX7_rests, 7, (some .boolean), { frames := 2, cells := 0, slots := 0, locals := 48 })
abbrev mX7_two : MethodName × ByteArray × Nat × Option FieldType × Room := (yX7_two, cX7_two, 8, (some .int), { frames := 3, cells := 0, slots := 0, locals := 74 })
abbrev mX7_lay : MethodName × ByteArray × Nat × Option FieldType × Room := (yX7_lay, cX7_lay, 11, none, { frames := 0, cells := 0, slots := 0, locals := 0 })
abbrev mX7_clouds : MethodName × ByteArray × Nat × Option FieldType × Room := (yX7_clouds, cX7_clouds, 2, (some .int), { frames := 3, cells := 0, slots := 0, locals := 71 })
abbrev mX7_eclipses : MethodName × ByteArray × Nat × Option FieldType × Room := (yX7_eclipses, cX7_eclipses, 9, (some .int), { frames := 3, cells := 0, slots := 0, locals := 71 })
abbrev mX7_part : MethodName × ByteArray × Nat × Option FieldType × Room := (yX7_part, cX7_part, 2, (some .long), { frames := 1, cells := 0, slots := 0, locals := 20 })
abbrev mX7_image : MethodName × ByteArray × Nat × Option FieldType × Room := (yX7_image, cX7_image, 4, (some .int), { frames := 1, cells := 0, slots := 0, locals := 23 })
abbrev mX7_from : MethodName × ByteArray × Nat × Option FieldType × Room := (yX7_from, cX7_from, 4, (some .int), { frames := 1, cells := 0, slots := 0, locals := 23 })
abbrev mX7_status : MethodName × ByteArray × Nat × Option FieldType × Room := (yX7_status, cX7_status, 2, (some .int), { frames := 1, cells := 0, slots := 0, locals := 22 })
abbrev mX7_allPaid : MethodName × ByteArray × Nat × Option FieldType × Room := (yX7_allPaid, cX7_allPaid, 3, (some .int), { frames := 0, cells := 0, slots := 0, locals := 0 })
abbrev mX7_countOf : MethodName × ByteArray × Nat × Option FieldType × Room := (yX7_countOf, cX7_countOf, 2, (some .int), { frames := 3, cells := 0, slots := 0, locals := 71 })
abbrev mX7_count : MethodName × ByteArray × Nat × Option FieldType × Room := (yX7_count, cX7_count, 2, (some .int), { frames := 4, cells := 0, slots := 0, locals := 92 })
abbrev mX7_mix : MethodName × ByteArray × Nat × Option FieldType × Room := (yX7_mix, cX7_mix, 3, none, { frames := 0, cells := 0, slots := 0, locals := 0 })
abbrev mX7_digest : MethodName × ByteArray × Nat × Option FieldType × Room := (yX7_digest, cX7_digest, 2, (some .long), { frames := 4, cells := 0, slots := 0, locals := 92 })
abbrev mJ9_abs_0f7a4 : MethodName × ByteArray × Nat × Option FieldType × Room := (yJ9_abs_0f7a4, cJ9_abs_0f7a4, 1, (some .int), { frames := 0, cells := 0, slots := 0, locals := 0 })
abbrev mJ9_max_7cf53 : MethodName × ByteArray × Nat × Option FieldType × Room := (yJ9_max_7cf53, cJ9_max_7cf53, 2, (some .int), { frames := 0, cells := 0, slots := 0, locals := 0 })
abbrev mJ9_min_7cf53 : MethodName × ByteArray × Nat × Option FieldType × Room := (yJ9_min_7cf53, cJ9_min_7cf53, 2, (some .int), { frames := 0, cells := 0, slots := 0, locals := 0 })
abbrev mJ0_length_8abf5 : MethodName × ByteArray × Nat × Option FieldType × Room := (yJ0_length_8abf5, cJ0_length_8abf5, 1, (some .int), { frames := 1, cells := 0, slots := 0, locals := 20 })
abbrev mJ0_charAt_5068e : MethodName × ByteArray × Nat × Option FieldType × Room := (yJ0_charAt_5068e, cJ0_charAt_5068e, 2, (some .char), { frames := 6, cells := 0, slots := 0, locals := 145 })
abbrev mJ0_coder_7d493 : MethodName × ByteArray × Nat × Option FieldType × Room := (yJ0_coder_7d493, cJ0_coder_7d493, 1, (some .byte), { frames := 0, cells := 0, slots := 0, locals := 0 })
abbrev mJ0_isLatin1_aae02 : MethodName × ByteArray × Nat × Option FieldType × Room := (yJ0_isLatin1_aae02, cJ0_isLatin1_aae02, 1, (some .boolean), { frames := 0, cells := 0, slots := 0, locals := 0 })
abbrev mJ0_checkIndex_df160 : MethodName × ByteArray × Nat × Option FieldType × Room := (yJ0_checkIndex_df160, cJ0_checkIndex_df160, 2, none, { frames := 3, cells := 0, slots := 0, locals := 82 })
abbrev mJ1_charAt_3b067 : MethodName × ByteArray × Nat × Option FieldType × Room := (yJ1_charAt_3b067, cJ1_charAt_3b067, 2, (some .char), { frames := 4, cells := 0, slots := 0, locals := 103 })
abbrev mJ2_getChar_3b067 : MethodName × ByteArray × Nat × Option FieldType × Room := (yJ2_getChar_3b067, cJ2_getChar_3b067, 2, (some .char), { frames := 2, cells := 0, slots := 0, locals := 60 })
abbrev mJ2_length_9d52b : MethodName × ByteArray × Nat × Option FieldType × Room := (yJ2_length_9d52b, cJ2_length_9d52b, 1, (some .int), { frames := 0, cells := 0, slots := 0, locals := 0 })
abbrev mJ2_charAt_3b067 : MethodName × ByteArray × Nat × Option FieldType × Room := (yJ2_charAt_3b067, cJ2_charAt_3b067, 2, (some .char), { frames := 5, cells := 0, slots := 0, locals := 124 })
abbrev mJ2_checkIndex_2214a : MethodName × ByteArray × Nat × Option FieldType × Room := (yJ2_checkIndex_2214a, cJ2_checkIndex_2214a, 2, none, { frames := 4, cells := 0, slots := 0, locals := 103 })
abbrev mJ3_checkIndex_8e157 : MethodName × ByteArray × Nat × Option FieldType × Room := (yJ3_checkIndex_8e157, cJ3_checkIndex_8e157, 3, (some .int), { frames := 2, cells := 0, slots := 0, locals := 60 })
set_option maxRecDepth 20000 in
theorem inX0 : ∀ w ∈ u_ws RX0 TX0 4, w ∈ lw_tbl := by decide +kernel
set_option maxRecDepth 20000 in
theorem inX1 : ∀ w ∈ u_ws RX1 TX1 1, w ∈ lw_tbl := by decide +kernel
set_option maxRecDepth 20000 in
theorem inX2 : ∀ w ∈ u_ws RX2 TX2 13, w ∈ lw_tbl := by decide +kernel
set_option maxRecDepth 20000 in
theorem inX4 : ∀ w ∈ u_ws RX4 TX4 4, w ∈ lw_tbl := by decide +kernel
set_option maxRecDepth 20000 in
theorem inX5 : ∀ w ∈ u_ws RX5 TX5 6, w ∈ lw_tbl := by decide +kernel
set_option maxRecDepth 20000 in
theorem inX6 : ∀ w ∈ u_ws RX6 TX6 13, w ∈ lw_tbl := by decide +kernel
set_option maxRecDepth 20000 in
theorem inX7 : ∀ w ∈ u_ws RX7 TX7 32, w ∈ lw_tbl := by decide +kernel
end
section
/-! THE ENGINE, 1: stores, shapes, the world, the judgement WW -/
/-- the tables' words that a callee may rest on -/
def eTb : List Cond := lw_tbl.filter goodWord
theorem eTm {w : Cond} (h : w ∈ lw_tbl) (g : goodWord w = true) : w ∈ eTb := List.mem_filter.mpr ⟨h, g⟩
theorem eTl {w : Cond} (h : w ∈ eTb) : w ∈ lw_tbl := (List.mem_filter.mp h).1
theorem eGood {w : Cond} (h : w ∈ eTb) : goodWord w = true := (List.mem_filter.mp h).2
/-- a store: the ints of each cell, the longs -/
abbrev eSt : Type := (Nat → Nat → Int32) × (Nat → Int64)
def eU (σ : eSt) (k j : Nat) (x : Int32) : eSt := (va_up σ.1 k (upd (σ.1 k) j x), σ.2)
def eL (σ : eSt) (j : Nat) (x : Int64) : eSt := (σ.1, vp_updL σ.2 j x)
def eR (σ : eSt) (k : Nat) (f : Nat → Int32) : eSt := (va_up σ.1 k f, σ.2)
/-- a cell's shape: an array (kind, length, targets of references), or an object (class, fields, what each field is: (0, _) an int, (1, i) the long i, (2, k) the cell k) -/
abbrev eK : Type := (Nat × Nat × (Nat → Nat)) ⊕ (Nat × Nat × (Nat → Nat × Nat))
def eHillF (h : Nat) (j : Nat) : Nat × Nat := match j with
  | 2 => (2, h + 1)
  | 4 => (2, h + 2)
  | 5 => (2, h + 3)
  | 6 => (2, h + 4)
  | 7 => (2, h + 5)
  | 8 => (2, h + 6)
  | 10 => (2, h + 7)
  | 12 => (2, h + 8)
  | _ => (0, 0)
def eSeatsF (j : Nat) : Nat × Nat := match j with
  | 0 => (2, 1)
  | 1 => (2, 10)
  | 2 => (2, 19)
  | 3 => (2, 38)
  | 4 => (2, 39)
  | 5 => (2, 41)
  | 6 => (2, 45)
  | 7 => (2, 50)
  | _ => (0, 0)
def eModelF (j : Nat) : Nat × Nat := match j with
  | 0 => (2, 53)
  | 5 => (2, 54)
  | 6 => (2, 55)
  | 7 => (2, 56)
  | 8 => (2, 57)
  | 9 => (2, 58)
  | 10 => (2, 59)
  | 11 => (2, 60)
  | 12 => (2, 61)
  | 13 => (2, 62)
  | 14 => (2, 63)
  | 20 => (2, 64)
  | 21 => (2, 65)
  | 23 => (2, 66)
  | 25 => (2, 67)
  | 26 => (2, 68)
  | 27 => (1, 0)
  | 28 => (1, 1)
  | 29 => (2, 69)
  | 30 => (2, 70)
  | 31 => (1, 2)
  | _ => (0, 0)
def eI (n : Nat) : eK := .inl (1, n, fun _ => 0)
def eSh (k : Nat) : eK := match k with
  | 0 => .inr (5, 13, eSeatsF)
  | 1 => .inr (2, 13, eHillF 1)
  | 2 => eI 8
  | 3 => eI 5
  | 4 => eI 5
  | 5 => eI 5
  | 6 => eI 5
  | 7 => eI 5
  | 8 => eI 24
  | 9 => eI 120
  | 10 => .inr (2, 13, eHillF 10)
  | 11 => eI 8
  | 12 => eI 5
  | 13 => eI 5
  | 14 => eI 5
  | 15 => eI 5
  | 16 => eI 5
  | 17 => eI 24
  | 18 => eI 120
  | 19 => .inl (3, 2, fun i => match i with | 0 => 20 | _ => 29)
  | 20 => .inr (2, 13, eHillF 20)
  | 21 => eI 8
  | 22 => eI 5
  | 23 => eI 5
  | 24 => eI 5
  | 25 => eI 5
  | 26 => eI 5
  | 27 => eI 24
  | 28 => eI 120
  | 29 => .inr (2, 13, eHillF 29)
  | 30 => eI 8
  | 31 => eI 5
  | 32 => eI 5
  | 33 => eI 5
  | 34 => eI 5
  | 35 => eI 5
  | 36 => eI 24
  | 37 => eI 120
  | 38 => .inl (2, 2, fun _ => 0)
  | 39 => .inr (4, 6, fun j => match j with | 0 => (2, 40) | _ => (0, 0))
  | 40 => .inl (0, 150, fun _ => 0)
  | 41 => .inr (3, 4, fun j => match j with | 0 => (2, 42) | 1 => (2, 43) | 2 => (2, 44) | _ => (0, 0))
  | 42 => eI 352
  | 43 => eI 5
  | 44 => eI 5
  | 45 => .inr (0, 4, fun j => match j with | 0 => (2, 46) | 1 => (2, 47) | 2 => (2, 48) | _ => (2, 49))
  | 46 => eI 64
  | 47 => eI 64
  | 48 => eI 8
  | 49 => eI 8
  | 50 => .inr (1, 1, fun _ => (2, 51))
  | 51 => eI 6
  | 52 => .inr (6, 32, eModelF)
  | 53 => eI 3
  | 54 => eI 8
  | 55 => eI 5
  | 56 => eI 5
  | 57 => eI 5
  | 58 => eI 5
  | 59 => eI 6
  | 60 => eI 6
  | 61 => eI 6
  | 62 => eI 6
  | 63 => eI 150
  | 64 => eI 15
  | 65 => eI 8
  | 66 => eI 120
  | 67 => eI 5
  | 68 => eI 5
  | 69 => eI 380
  | _ => eI 2
/-- how many cells the world has -/
def eN : Nat := 71
/-- the machine's own: array classes by kind, addresses by cell, the classes' tables -/
abbrev eB : Type := va_G × (Nat → ClassId) × (Nat → Nat)
def eF (ad : Nat → Nat) (σ : eSt) (k j : Nat) (d : Nat × Nat) : Value := match d.1 with
  | 0 => .int (σ.1 k j)
  | 1 => .long (σ.2 d.2)
  | _ => .ref (ad d.2)
def eA (ad : Nat → Nat) (σ : eSt) (k t : Nat) (g : Nat → Nat) : (Nat → Int32) ⊕ (Nat → Int64) ⊕ (Nat → UInt32) ⊕ (Nat → UInt64) ⊕ (Nat → Option Nat) := match t with
  | 3 => .inr (.inr (.inr (.inr (fun i => some (ad (g i))))))
  | _ => .inl (σ.1 k)
def eC (cy : Nat → ClassId) (ad : Nat → Nat) (σ : eSt) (k : Nat) : va_E := match eSh k with
  | .inl a => .inl (cy a.1, a.2.1, eA ad σ k a.1 a.2.2)
  | .inr o => .inr (o.1, (List.range o.2.1).map (fun j => eF ad σ k j (o.2.2 j)))
def eW (B : eB) (σ : eSt) : va_W := (List.range eN).map (fun k => (B.2.2 k, eC B.2.1 B.2.2 σ k))
def eT (cy : Nat → ClassId) : List (ClassId × FieldType) := [(cy 0, .byte), (cy 1, .int), (cy 2, .boolean), (cy 3, .object "EclipseSeats$Hill")]
/-- the cells that may change -/
def eAA (B : eB) (sz : Nat) (q : Nat) : Prop := (∃ k, k < eN ∧ q = B.2.2 k) ∨ sz ≤ q
/-- an abstract value as the machine has it -/
def eV (ad : Nat → Nat) (v : Value) : Value := match v with
  | .ref k => .ref (ad k)
  | w => w
theorem eV_cat (ad : Nat → Nat) (v : Value) : (eV ad v).category = v.category := by cases v <;> rfl
theorem eW_len (B : eB) (σ : eSt) : (eW B σ).length = eN := by simp [eW]
theorem eW_at (B : eB) (σ : eSt) {k : Nat} (h : k < eN) : (eW B σ)[k]? = some (B.2.2 k, eC B.2.1 B.2.2 σ k) := by
  simp [eW, h]
theorem eW_inv (B : eB) (σ : eSt) {k : Nat} {q : Nat × va_E} (h : (eW B σ)[k]? = some q) : k < eN ∧ q = (B.2.2 k, eC B.2.1 B.2.2 σ k) := by
  have hk : k < (eW B σ).length := (List.getElem?_eq_some_iff.mp h).1
  rw [eW_len] at hk
  rw [eW_at B σ hk] at h
  exact ⟨hk, (Option.some.inj h).symm⟩
/-- the addresses alone decide va_D -/
theorem eW_D {B : eB} {σ τ : eSt} {A : Nat → Prop} (h : va_D A (eW B σ)) : va_D A (eW B τ) := by
  refine ⟨fun i j p q hp hq e => ?_, fun k q hq => ?_⟩
  · obtain ⟨hi, rfl⟩ := eW_inv B τ hp
    obtain ⟨hj, rfl⟩ := eW_inv B τ hq
    exact h.1 i j _ _ (eW_at B σ hi) (eW_at B σ hj) e
  · obtain ⟨hi, rfl⟩ := eW_inv B τ hq
    exact h.2 k (B.2.2 k, eC B.2.1 B.2.2 σ k) (eW_at B σ hi)
theorem eW_A {B : eB} {σ : eSt} {sz q : Nat} : va_A (eW B σ) sz q ↔ eAA B sz q := by
  constructor
  · rintro (⟨k, e, h⟩ | h)
    · obtain ⟨hk, e⟩ := eW_inv B σ h
      exact Or.inl ⟨k, hk, congrArg Prod.fst e⟩
    · exact Or.inr h
  · rintro (⟨k, hk, rfl⟩ | h)
    · exact Or.inl ⟨k, _, eW_at B σ hk⟩
    · exact Or.inr h
theorem eW_Ae {B : eB} {σ : eSt} {sz : Nat} : va_A (eW B σ) sz = eAA B sz := funext fun _ => propext eW_A
/-- a cell is set: the store is set -/
theorem eW_set {B : eB} {σ τ : eSt} {k : Nat} {e : va_E} (he : e = eC B.2.1 B.2.2 τ k) (ho : ∀ j, j ≠ k → eC B.2.1 B.2.2 τ j = eC B.2.1 B.2.2 σ j) : (eW B σ).set k (B.2.2 k, e) = eW B τ := by
  apply List.ext_getElem?
  intro i
  by_cases hi : i < eN
  · rw [eW_at B τ hi, List.getElem?_set]
    by_cases hk : k = i
    · subst hk
      rw [if_pos rfl, if_pos (by rw [eW_len]; exact hi), he]
    · rw [if_neg hk, eW_at B σ hi, ho i (fun q => hk q.symm)]
  · rw [List.getElem?_eq_none (by rw [List.length_set, eW_len]; omega), List.getElem?_eq_none (by rw [eW_len]; omega)]
theorem eC_o {cy : Nat → ClassId} {ad : Nat → Nat} {σ : eSt} {k ci N : Nat} {fd : Nat → Nat × Nat} (h : eSh k = .inr (ci, N, fd)) : eC cy ad σ k = .inr (ci, (List.range N).map (fun j => eF ad σ k j (fd j))) := by
  unfold eC; rw [h]
theorem eC_a {cy : Nat → ClassId} {ad : Nat → Nat} {σ : eSt} {k t n : Nat} {g : Nat → Nat} (h : eSh k = .inl (t, n, g)) : eC cy ad σ k = .inl (cy t, n, eA ad σ k t g) := by
  unfold eC; rw [h]
theorem eC_off {cy : Nat → ClassId} {ad : Nat → Nat} {σ τ : eSt} {j : Nat} (h1 : τ.1 j = σ.1 j) (h2 : τ.2 = σ.2) : eC cy ad τ j = eC cy ad σ j := by
  unfold eC
  cases eSh j with
  | inl a =>
    simp only
    congr 3
    unfold eA
    split
    · rfl
    · rw [h1]
  | inr o =>
    simp only
    congr 2
    apply List.map_congr_left
    intro i _
    unfold eF
    split
    · rw [h1]
    · rw [h2]
    · rfl
theorem eU_off {σ : eSt} {k j i : Nat} {x : Int32} (h : i ≠ k) : (eU σ k j x).1 i = σ.1 i := by
  unfold eU; exact if_neg h
theorem eU_on {σ : eSt} {k j : Nat} {x : Int32} : (eU σ k j x).1 k = upd (σ.1 k) j x := by
  unfold eU; exact if_pos rfl
theorem eR_off {σ : eSt} {k i : Nat} {f : Nat → Int32} (h : i ≠ k) : (eR σ k f).1 i = σ.1 i := by
  unfold eR; exact if_neg h
theorem eR_on {σ : eSt} {k : Nat} {f : Nat → Int32} : (eR σ k f).1 k = f := by
  unfold eR; exact if_pos rfl
/-- an int array's cell written whole -/
theorem eW_row {B : eB} {σ : eSt} {k t n : Nat} {g : Nat → Nat} {f : Nat → Int32} (h : eSh k = .inl (t, n, g)) (ht : t ≠ 3) : (eW B σ).set k (B.2.2 k, .inl (B.2.1 t, n, .inl f)) = eW B (eR σ k f) := by
  refine eW_set ?_ (fun j hj => eC_off (eR_off hj) rfl)
  rw [eC_a h]
  have : eA B.2.2 (eR σ k f) k t g = .inl f := by
    unfold eA
    split
    · exact absurd rfl ht
    · rw [eR_on]
  rw [this]
theorem eR_eU {σ : eSt} {k j : Nat} {x : Int32} : eR σ k (upd (σ.1 k) j x) = eU σ k j x := rfl
/-- an object's int field written -/
theorem eW_fld {B : eB} {σ : eSt} {k ci N j : Nat} {fd : Nat → Nat × Nat} {x : Int32} (h : eSh k = .inr (ci, N, fd)) (hj : (fd j).1 = 0) : (eW B σ).set k (B.2.2 k, .inr (ci, ((List.range N).map (fun j => eF B.2.2 σ k j (fd j))).set j (.int x))) = eW B (eU σ k j x) := by
  refine eW_set ?_ (fun i hi => eC_off (eU_off hi) rfl)
  rw [eC_o h]
  congr 2
  apply List.ext_getElem?
  intro i
  rw [List.getElem?_set]
  by_cases hi : i < N
  · by_cases e : j = i
    · subst e
      simp only [List.length_map, List.length_range, hi, if_true, List.getElem?_map, List.getElem?_range hi, Option.map_some]
      unfold eF
      rw [hj]
      simp [eU_on, upd]
    · rw [if_neg e]
      simp only [List.getElem?_map, List.getElem?_range hi, Option.map_some]
      congr 1
      unfold eF
      split
      · rw [eU_on]
        simp [upd, Ne.symm e]
      · rfl
      · rfl
  · simp [hi]
    omega
/-- a long field written -/
theorem eW_fldL {B : eB} {σ : eSt} {k ci N j i : Nat} {fd : Nat → Nat × Nat} {x : Int64} (h : eSh k = .inr (ci, N, fd)) (hj : fd j = (1, i)) (hu : ∀ j', (fd j').1 = 1 → (fd j').2 = i → j' = j) (hv : ∀ k' ci' N' fd', eSh k' = .inr (ci', N', fd') → ∀ j', j' < N' → (fd' j').1 = 1 → k' = k) : (eW B σ).set k (B.2.2 k, .inr (ci, ((List.range N).map (fun j => eF B.2.2 σ k j (fd j))).set j (.long x))) = eW B (eL σ i x) := by
  refine eW_set ?_ (fun k' hk' => ?_)
  · rw [eC_o h]
    congr 2
    apply List.ext_getElem?
    intro a
    rw [List.getElem?_set]
    by_cases ha : a < N
    · by_cases e : j = a
      · subst e
        simp only [List.length_map, List.length_range, ha, if_true, List.getElem?_map, List.getElem?_range ha, Option.map_some]
        unfold eF
        rw [hj]
        simp [eL, vp_updL]
      · rw [if_neg e]
        simp only [List.getElem?_map, List.getElem?_range ha, Option.map_some]
        congr 1
        unfold eF
        split
        · rfl
        · rename_i h1
          have : (fd a).2 ≠ i := fun q => e (hu a h1 q).symm
          simp [eL, vp_updL, this]
        · rfl
    · simp [ha]
      omega
  · unfold eC
    cases hs : eSh k' with
    | inl a => rfl
    | inr o =>
      simp only
      congr 2
      apply List.map_congr_left
      intro a ha
      unfold eF
      split
      · rfl
      · rename_i h1
        exact absurd (hv k' o.1 o.2.1 o.2.2 hs a (List.mem_range.mp ha) h1) hk'
      · rfl
end
section
/-! THE ENGINE, 2: contexts, the judgement WW, a lemma an instruction (printed by wip/gen/mkengine.py) -/
abbrev eX : Type := Program × Launch × Env × Room × State × MethodId × Array Value × List Frame × Method × Code
abbrev xP (X : eX) := X.1
abbrev xLa (X : eX) := X.2.1
abbrev xE (X : eX) := X.2.2.1
abbrev xR (X : eX) := X.2.2.2.1
abbrev xS (X : eX) := X.2.2.2.2.1
abbrev xM (X : eX) := X.2.2.2.2.2.1
abbrev xArgs (X : eX) := X.2.2.2.2.2.2.1
abbrev xBel (X : eX) := X.2.2.2.2.2.2.2.1
abbrev xMeth (X : eX) := X.2.2.2.2.2.2.2.2.1
abbrev xC (X : eX) := X.2.2.2.2.2.2.2.2.2
def eWm (X : eX) (H : Heap) (locs : List Loc) (kc ks : Nat) (Q : State → Prop) (g : JFrame) : Prop :=
  W (xP X) (xLa X) (xE X) (xR X) (xS X) (xM X) (xArgs X) (xBel X) (xMeth X) (xC X) H locs kc ks Q g
def eLv (ad : Nat → Nat) (la : Array Slot) (nL : Nat) (ls : List (Option Value)) : Prop := la.size = nL ∧ lv_wf la ∧ ∀ (i : Nat) (v : Value), ls[i]? = some (some v) → la[i]? = some (.val (eV ad v))
/-- the String constants of the text, by their places: cells 1000 .., their bytes 1100 .. -/
def eLen : List Nat := [4, 4, 7, 3, 4]
def eByt : List (List Int32) := [[104, 105, 108, 108], [100, 97, 114, 107], [104, 101, 105, 103, 104, 116, 115], [111, 110, 101], [115, 101, 97, 116]]
def eS (ad : Nat → Nat) (A : Nat → Prop) (U : State) (H : Heap) : Prop :=
  vk_S 5 eLen eByt (fun i => ad (1000 + i)) (fun i => ad (1100 + i)) A U H ∧
  (vk_R "EclipseSeats$Text" 44 "hill" (ad 1000) U ∧ vk_R "EclipseSeats$Text" 54 "dark" (ad 1001) U ∧ vk_R "EclipseSeats$Text" 59 "heights" (ad 1002) U ∧ vk_R "EclipseSeats$Text" 64 "one" (ad 1003) U ∧ vk_R "EclipseSeats$Text" 69 "seat" (ad 1004) U) ∧
  va_Z "java/lang/String" "COMPACT_STRINGS" "Z" (.int 1) A U H ∧ va_Zq "jdk/internal/util/Preconditions" "SIOOBE_FORMATTER" "Ljava/util/function/BiFunction;" A U H ∧ va_Nw (.methodLinkNest "EclipseSeats$Hill" 64 yX6_darkFrom "EclipseSeats") U
def CX (X : eX) (B : eB) (A : Nat → Prop) (R : Room) (own : String) (cc : ByteArray) (nL kc ks : Nat) : Prop :=
  (xP X).tables.exec = Jvm.exec ∧ (xC X).code = cc ∧ (xC X).maxLocals = nL ∧ (xS X).vm.findClass own = some (xM X).cls ∧ (∀ w ∈ eTb, w.before (xArgs X) (xS X) = true) ∧ va_K B.1 vwCl (eT B.2.1) (xS X) ∧ (∀ q, (xS X).heap.size ≤ q → A q) ∧ eS B.2.2 A (xS X) (xS X).heap ∧ kc ≤ R.cells ∧ ks ≤ R.slots ∧ xR X = R
def WW (X : eX) (B : eB) (A : Nat → Prop) (nL kc ks : Nat) (Q : State → Prop) (σ : eSt) (pc : Nat) (ls : List (Option Value)) (st : List Value) : Prop :=
  ∀ (H : Heap) (locs : List Loc) (la : Array Slot), va_P B.1 vwCl (eW B σ) H → va_D A (eW B σ) → va_S A (xS X).heap H locs → eLv B.2.2 la nL ls → eWm X H locs kc ks Q (F0 (xM X) pc la (st.map (eV B.2.2)))
/-- fewer locals known -/
theorem ww_weak {X : eX} {B : eB} {A : Nat → Prop} {nL kc ks : Nat} {Q : State → Prop} {σ : eSt} {pc : Nat} {ls ls' : List (Option Value)} {st : List Value} (h : ∀ (i : Nat) (v : Value), ls'[i]? = some (some v) → ls[i]? = some (some v)) (k : WW X B A nL kc ks Q σ pc ls' st) : WW X B A nL kc ks Q σ pc ls st :=
  fun H locs la hP hD hS hl => k H locs la hP hD hS ⟨hl.1, hl.2.1, fun i v hi => hl.2.2 i v (h i v hi)⟩
section EI
variable {X : eX} {B : eB} {A : Nat → Prop} {R : Room} {own : String} {cc : ByteArray} {nL kc ks : Nat} {Q : State → Prop} {σ : eSt} {pc nx : Nat} {ls : List (Option Value)} {st : List Value}

theorem ww_iconst {n : Int} {v : Int32} (C : CX X B A R own cc nL kc ks) (d : decode cc pc = .ok (.iconst n, 1)) (hv : Int32.ofInt n = v) (hn : pc + 1 = nx) (k : WW X B A nL kc ks Q σ nx ls (.int v :: st)) : WW X B A nL kc ks Q σ pc ls st := by
  subst hn
  intro H locs la hP hD hS hl
  exact lv_iconst C.1 C.2.1 d hv (k H locs la hP hD hS hl)
theorem ww_bipush {n : Int} {v : Int32} (C : CX X B A R own cc nL kc ks) (d : decode cc pc = .ok (.bipush n, 2)) (hv : (Int8.ofInt n).toInt32 = v) (hn : pc + 2 = nx) (k : WW X B A nL kc ks Q σ nx ls (.int v :: st)) : WW X B A nL kc ks Q σ pc ls st := by
  subst hn
  intro H locs la hP hD hS hl
  exact lv_bipush C.1 C.2.1 d hv (k H locs la hP hD hS hl)
theorem ww_sipush {n : Int} {v : Int32} (C : CX X B A R own cc nL kc ks) (d : decode cc pc = .ok (.sipush n, 3)) (hv : (Int16.ofInt n).toInt32 = v) (hn : pc + 3 = nx) (k : WW X B A nL kc ks Q σ nx ls (.int v :: st)) : WW X B A nL kc ks Q σ pc ls st := by
  subst hn
  intro H locs la hP hD hS hl
  exact lv_sipush C.1 C.2.1 d hv (k H locs la hP hD hS hl)
theorem ww_lconst {n : Fin 2} {v : Int64} (C : CX X B A R own cc nL kc ks) (d : decode cc pc = .ok (.lconst n, 1)) (hv : Int64.ofNat (n : Nat) = v) (hn : pc + 1 = nx) (k : WW X B A nL kc ks Q σ nx ls (.long v :: st)) : WW X B A nL kc ks Q σ pc ls st := by
  subst hn
  intro H locs la hP hD hS hl
  exact lv_lconst C.1 C.2.1 d hv (k H locs la hP hD hS hl)
theorem ww_ldc {i : Nat} {v : Int32} (C : CX X B A R own cc nL kc ks) (d : decode cc pc = .ok (.ldc i, 2)) (hc : Cond.constant own i v ∈ eTb) (hn : pc + 2 = nx) (k : WW X B A nL kc ks Q σ nx ls (.int v :: st)) : WW X B A nL kc ks Q σ pc ls st := by
  subst hn
  intro H locs la hP hD hS hl
  exact lv_ldc C.1 C.2.1 C.2.2.2.1 (C.2.2.2.2.1 _ hc) d (k H locs la hP hD hS hl)
theorem ww_ldcw {i : Nat} {v : Int32} (C : CX X B A R own cc nL kc ks) (d : decode cc pc = .ok (.ldc_w i, 3)) (hc : Cond.constant own i v ∈ eTb) (hn : pc + 3 = nx) (k : WW X B A nL kc ks Q σ nx ls (.int v :: st)) : WW X B A nL kc ks Q σ pc ls st := by
  subst hn
  intro H locs la hP hD hS hl
  exact lv_ldcw C.1 C.2.1 C.2.2.2.1 (C.2.2.2.2.1 _ hc) d (k H locs la hP hD hS hl)
theorem ww_ldc2 {i : Nat} {v : Int64} (C : CX X B A R own cc nL kc ks) (d : decode cc pc = .ok (.ldc2_w i, 3)) (hc : Cond.constantLong own i v ∈ eTb) (hn : pc + 3 = nx) (k : WW X B A nL kc ks Q σ nx ls (.long v :: st)) : WW X B A nL kc ks Q σ pc ls st := by
  subst hn
  intro H locs la hP hD hS hl
  exact lv_ldc2 C.1 C.2.1 C.2.2.2.1 (C.2.2.2.2.1 _ hc) d (k H locs la hP hD hS hl)
theorem ww_iload_n {j : Fin 4} {i : Nat} {x : Int32} (C : CX X B A R own cc nL kc ks) (d : decode cc pc = .ok (.iload_n j, 1)) (hj : (j : Nat) = i) (h : ls[i]? = some (some (.int x))) (hn : pc + 1 = nx) (k : WW X B A nL kc ks Q σ nx ls (.int x :: st)) : WW X B A nL kc ks Q σ pc ls st := by
  subst hn
  intro H locs la hP hD hS hl
  exact lv_iload_n C.1 C.2.1 d hj (hl.2.2 _ _ h) (k H locs la hP hD hS hl)
theorem ww_iload {i : Nat} {x : Int32} (C : CX X B A R own cc nL kc ks) (d : decode cc pc = .ok (.iload i, 2)) (h : ls[i]? = some (some (.int x))) (hn : pc + 2 = nx) (k : WW X B A nL kc ks Q σ nx ls (.int x :: st)) : WW X B A nL kc ks Q σ pc ls st := by
  subst hn
  intro H locs la hP hD hS hl
  exact lv_iload C.1 C.2.1 d (hl.2.2 _ _ h) (k H locs la hP hD hS hl)
theorem ww_lload_n {j : Fin 4} {i : Nat} {x : Int64} (C : CX X B A R own cc nL kc ks) (d : decode cc pc = .ok (.lload_n j, 1)) (hj : (j : Nat) = i) (h : ls[i]? = some (some (.long x))) (hn : pc + 1 = nx) (k : WW X B A nL kc ks Q σ nx ls (.long x :: st)) : WW X B A nL kc ks Q σ pc ls st := by
  subst hn
  intro H locs la hP hD hS hl
  exact lv_lload_n C.1 C.2.1 d hj (hl.2.2 _ _ h) (k H locs la hP hD hS hl)
theorem ww_lload {i : Nat} {x : Int64} (C : CX X B A R own cc nL kc ks) (d : decode cc pc = .ok (.lload i, 2)) (h : ls[i]? = some (some (.long x))) (hn : pc + 2 = nx) (k : WW X B A nL kc ks Q σ nx ls (.long x :: st)) : WW X B A nL kc ks Q σ pc ls st := by
  subst hn
  intro H locs la hP hD hS hl
  exact lv_lload C.1 C.2.1 d (hl.2.2 _ _ h) (k H locs la hP hD hS hl)
theorem ww_aload_n {j : Fin 4} {i x : Nat} (C : CX X B A R own cc nL kc ks) (d : decode cc pc = .ok (.aload_n j, 1)) (hj : (j : Nat) = i) (h : ls[i]? = some (some (.ref x))) (hn : pc + 1 = nx) (k : WW X B A nL kc ks Q σ nx ls (.ref x :: st)) : WW X B A nL kc ks Q σ pc ls st := by
  subst hn
  intro H locs la hP hD hS hl
  exact lv_aload_n C.1 C.2.1 d hj (hl.2.2 _ _ h) (k H locs la hP hD hS hl)
theorem ww_aload {i x : Nat} (C : CX X B A R own cc nL kc ks) (d : decode cc pc = .ok (.aload i, 2)) (h : ls[i]? = some (some (.ref x))) (hn : pc + 2 = nx) (k : WW X B A nL kc ks Q σ nx ls (.ref x :: st)) : WW X B A nL kc ks Q σ pc ls st := by
  subst hn
  intro H locs la hP hD hS hl
  exact lv_aload C.1 C.2.1 d (hl.2.2 _ _ h) (k H locs la hP hD hS hl)
theorem ww_iadd {x y : Int32} (C : CX X B A R own cc nL kc ks) (d : decode cc pc = .ok (.iadd, 1)) (hn : pc + 1 = nx) (k : WW X B A nL kc ks Q σ nx ls (.int (x + y) :: st)) : WW X B A nL kc ks Q σ pc ls (.int y :: .int x :: st) := by
  subst hn
  intro H locs la hP hD hS hl
  exact lv_iadd C.1 C.2.1 d (k H locs la hP hD hS hl)
theorem ww_isub {x y : Int32} (C : CX X B A R own cc nL kc ks) (d : decode cc pc = .ok (.isub, 1)) (hn : pc + 1 = nx) (k : WW X B A nL kc ks Q σ nx ls (.int (x - y) :: st)) : WW X B A nL kc ks Q σ pc ls (.int y :: .int x :: st) := by
  subst hn
  intro H locs la hP hD hS hl
  exact lv_isub C.1 C.2.1 d (k H locs la hP hD hS hl)
theorem ww_imul {x y : Int32} (C : CX X B A R own cc nL kc ks) (d : decode cc pc = .ok (.imul, 1)) (hn : pc + 1 = nx) (k : WW X B A nL kc ks Q σ nx ls (.int (x * y) :: st)) : WW X B A nL kc ks Q σ pc ls (.int y :: .int x :: st) := by
  subst hn
  intro H locs la hP hD hS hl
  exact lv_imul C.1 C.2.1 d (k H locs la hP hD hS hl)
theorem ww_iand {x y : Int32} (C : CX X B A R own cc nL kc ks) (d : decode cc pc = .ok (.iand, 1)) (hn : pc + 1 = nx) (k : WW X B A nL kc ks Q σ nx ls (.int (x &&& y) :: st)) : WW X B A nL kc ks Q σ pc ls (.int y :: .int x :: st) := by
  subst hn
  intro H locs la hP hD hS hl
  exact lv_iand C.1 C.2.1 d (k H locs la hP hD hS hl)
theorem ww_ior {x y : Int32} (C : CX X B A R own cc nL kc ks) (d : decode cc pc = .ok (.ior, 1)) (hn : pc + 1 = nx) (k : WW X B A nL kc ks Q σ nx ls (.int (x ||| y) :: st)) : WW X B A nL kc ks Q σ pc ls (.int y :: .int x :: st) := by
  subst hn
  intro H locs la hP hD hS hl
  exact lv_ior C.1 C.2.1 d (k H locs la hP hD hS hl)
theorem ww_ishl {x y : Int32} (C : CX X B A R own cc nL kc ks) (d : decode cc pc = .ok (.ishl, 1)) (hn : pc + 1 = nx) (k : WW X B A nL kc ks Q σ nx ls (.int (x <<< (y &&& 31)) :: st)) : WW X B A nL kc ks Q σ pc ls (.int y :: .int x :: st) := by
  subst hn
  intro H locs la hP hD hS hl
  exact lv_ishl C.1 C.2.1 d (k H locs la hP hD hS hl)
theorem ww_ishr {x y : Int32} (C : CX X B A R own cc nL kc ks) (d : decode cc pc = .ok (.ishr, 1)) (hn : pc + 1 = nx) (k : WW X B A nL kc ks Q σ nx ls (.int (x >>> (y &&& 31)) :: st)) : WW X B A nL kc ks Q σ pc ls (.int y :: .int x :: st) := by
  subst hn
  intro H locs la hP hD hS hl
  exact lv_ishr C.1 C.2.1 d (k H locs la hP hD hS hl)
theorem ww_idiv {x y : Int32} (C : CX X B A R own cc nL kc ks) (d : decode cc pc = .ok (.idiv, 1)) (hne : ¬ y = 0) (hn : pc + 1 = nx) (k : WW X B A nL kc ks Q σ nx ls (.int (x / y) :: st)) : WW X B A nL kc ks Q σ pc ls (.int y :: .int x :: st) := by
  subst hn
  intro H locs la hP hD hS hl
  exact lv_idiv C.1 C.2.1 d hne (k H locs la hP hD hS hl)
theorem ww_irem {x y : Int32} (C : CX X B A R own cc nL kc ks) (d : decode cc pc = .ok (.irem, 1)) (hne : ¬ y = 0) (hn : pc + 1 = nx) (k : WW X B A nL kc ks Q σ nx ls (.int (x - x / y * y) :: st)) : WW X B A nL kc ks Q σ pc ls (.int y :: .int x :: st) := by
  subst hn
  intro H locs la hP hD hS hl
  exact lv_irem C.1 C.2.1 d hne (k H locs la hP hD hS hl)
theorem ww_ladd {x y : Int64} (C : CX X B A R own cc nL kc ks) (d : decode cc pc = .ok (.ladd, 1)) (hn : pc + 1 = nx) (k : WW X B A nL kc ks Q σ nx ls (.long (x + y) :: st)) : WW X B A nL kc ks Q σ pc ls (.long y :: .long x :: st) := by
  subst hn
  intro H locs la hP hD hS hl
  exact lv_ladd C.1 C.2.1 d (k H locs la hP hD hS hl)
theorem ww_lmul {x y : Int64} (C : CX X B A R own cc nL kc ks) (d : decode cc pc = .ok (.lmul, 1)) (hn : pc + 1 = nx) (k : WW X B A nL kc ks Q σ nx ls (.long (x * y) :: st)) : WW X B A nL kc ks Q σ pc ls (.long y :: .long x :: st) := by
  subst hn
  intro H locs la hP hD hS hl
  exact lv_lmul C.1 C.2.1 d (k H locs la hP hD hS hl)
theorem ww_lsub {x y : Int64} (C : CX X B A R own cc nL kc ks) (d : decode cc pc = .ok (.lsub, 1)) (hn : pc + 1 = nx) (k : WW X B A nL kc ks Q σ nx ls (.long (x - y) :: st)) : WW X B A nL kc ks Q σ pc ls (.long y :: .long x :: st) := by
  subst hn
  intro H locs la hP hD hS hl
  exact lv_lsub C.1 C.2.1 d (k H locs la hP hD hS hl)
theorem ww_ldiv {x y : Int64} (C : CX X B A R own cc nL kc ks) (d : decode cc pc = .ok (.ldiv, 1)) (hne : ¬ y = 0) (hn : pc + 1 = nx) (k : WW X B A nL kc ks Q σ nx ls (.long (x / y) :: st)) : WW X B A nL kc ks Q σ pc ls (.long y :: .long x :: st) := by
  subst hn
  intro H locs la hP hD hS hl
  exact lv_ldiv C.1 C.2.1 d hne (k H locs la hP hD hS hl)
theorem ww_lrem {x y : Int64} (C : CX X B A R own cc nL kc ks) (d : decode cc pc = .ok (.lrem, 1)) (hne : ¬ y = 0) (hn : pc + 1 = nx) (k : WW X B A nL kc ks Q σ nx ls (.long (x - x / y * y) :: st)) : WW X B A nL kc ks Q σ pc ls (.long y :: .long x :: st) := by
  subst hn
  intro H locs la hP hD hS hl
  exact lv_lrem C.1 C.2.1 d hne (k H locs la hP hD hS hl)
theorem ww_i2l {x : Int32} (C : CX X B A R own cc nL kc ks) (d : decode cc pc = .ok (.i2l, 1)) (hn : pc + 1 = nx) (k : WW X B A nL kc ks Q σ nx ls (.long x.toInt64 :: st)) : WW X B A nL kc ks Q σ pc ls (.int x :: st) := by
  subst hn
  intro H locs la hP hD hS hl
  exact lv_i2l C.1 C.2.1 d rfl (k H locs la hP hD hS hl)
theorem ww_l2i {x : Int64} (C : CX X B A R own cc nL kc ks) (d : decode cc pc = .ok (.l2i, 1)) (hn : pc + 1 = nx) (k : WW X B A nL kc ks Q σ nx ls (.int x.toInt32 :: st)) : WW X B A nL kc ks Q σ pc ls (.long x :: st) := by
  subst hn
  intro H locs la hP hD hS hl
  exact lv_l2i C.1 C.2.1 d rfl (k H locs la hP hD hS hl)
theorem ww_i2b {x : Int32} (C : CX X B A R own cc nL kc ks) (d : decode cc pc = .ok (.i2b, 1)) (hn : pc + 1 = nx) (k : WW X B A nL kc ks Q σ nx ls (.int x.toInt8.toInt32 :: st)) : WW X B A nL kc ks Q σ pc ls (.int x :: st) := by
  subst hn
  intro H locs la hP hD hS hl
  exact lv_i2b C.1 C.2.1 d rfl (k H locs la hP hD hS hl)
theorem ww_i2c {x : Int32} (C : CX X B A R own cc nL kc ks) (d : decode cc pc = .ok (.i2c, 1)) (hn : pc + 1 = nx) (k : WW X B A nL kc ks Q σ nx ls (.int (x.toUInt32 % 65536).toInt32 :: st)) : WW X B A nL kc ks Q σ pc ls (.int x :: st) := by
  subst hn
  intro H locs la hP hD hS hl
  exact lv_i2c C.1 C.2.1 d rfl (k H locs la hP hD hS hl)
theorem ww_lcmp {x y : Int64} (C : CX X B A R own cc nL kc ks) (d : decode cc pc = .ok (.lcmp, 1)) (hn : pc + 1 = nx) (k : WW X B A nL kc ks Q σ nx ls (.int (lg_cmp x y) :: st)) : WW X B A nL kc ks Q σ pc ls (.long y :: .long x :: st) := by
  subst hn
  intro H locs la hP hD hS hl
  exact W.lcmp C.1 C.2.1 d (k H locs la hP hD hS hl)
theorem ww_dup {v : Value} (C : CX X B A R own cc nL kc ks) (d : decode cc pc = .ok (.dup, 1)) (hc : v.category = 1) (hn : pc + 1 = nx) (k : WW X B A nL kc ks Q σ nx ls (v :: v :: st)) : WW X B A nL kc ks Q σ pc ls (v :: st) := by
  subst hn
  intro H locs la hP hD hS hl
  exact lv_dup C.1 C.2.1 d ((eV_cat _ v).trans hc) (k H locs la hP hD hS hl)
theorem ww_pop {v : Value} (C : CX X B A R own cc nL kc ks) (d : decode cc pc = .ok (.pop, 1)) (hc : v.category = 1) (hn : pc + 1 = nx) (k : WW X B A nL kc ks Q σ nx ls st) : WW X B A nL kc ks Q σ pc ls (v :: st) := by
  subst hn
  intro H locs la hP hD hS hl
  exact lv_pop C.1 C.2.1 d ((eV_cat _ v).trans hc) (k H locs la hP hD hS hl)
theorem ww_dup2 {v w : Value} (C : CX X B A R own cc nL kc ks) (d : decode cc pc = .ok (.dup2, 1)) (hc : v.category = 1) (hc2 : w.category = 1) (hn : pc + 1 = nx) (k : WW X B A nL kc ks Q σ nx ls (v :: w :: v :: w :: st)) : WW X B A nL kc ks Q σ pc ls (v :: w :: st) := by
  subst hn
  intro H locs la hP hD hS hl
  exact lv_dup2_11 C.1 C.2.1 d ((eV_cat _ v).trans hc) ((eV_cat _ w).trans hc2) (k H locs la hP hD hS hl)
theorem ww_icmp_eq {x y : Int32} {off : Int} {tgt : Nat} (C : CX X B A R own cc nL kc ks) (d : decode cc pc = .ok (.if_icmp .eq off, 3)) (ht : (pc : Int) + off = (tgt : Int)) (hn : pc + 3 = nx) (kt : x = y → WW X B A nL kc ks Q σ tgt ls st) (kf : ¬ x = y → WW X B A nL kc ks Q σ nx ls st) : WW X B A nL kc ks Q σ pc ls (.int y :: .int x :: st) := by
  subst hn
  intro H locs la hP hD hS hl
  exact lv_icmp_eq C.1 C.2.1 d ht (fun q => kt q H locs la hP hD hS hl) (fun q => kf q H locs la hP hD hS hl)
theorem ww_if_eq {x : Int32} {off : Int} {tgt : Nat} (C : CX X B A R own cc nL kc ks) (d : decode cc pc = .ok (.ifCond .eq off, 3)) (ht : (pc : Int) + off = (tgt : Int)) (hn : pc + 3 = nx) (kt : x = 0 → WW X B A nL kc ks Q σ tgt ls st) (kf : ¬ x = 0 → WW X B A nL kc ks Q σ nx ls st) : WW X B A nL kc ks Q σ pc ls (.int x :: st) := by
  subst hn
  intro H locs la hP hD hS hl
  exact lv_if_eq C.1 C.2.1 d ht (fun q => kt q H locs la hP hD hS hl) (fun q => kf q H locs la hP hD hS hl)
theorem ww_icmp_ne {x y : Int32} {off : Int} {tgt : Nat} (C : CX X B A R own cc nL kc ks) (d : decode cc pc = .ok (.if_icmp .ne off, 3)) (ht : (pc : Int) + off = (tgt : Int)) (hn : pc + 3 = nx) (kt : ¬ x = y → WW X B A nL kc ks Q σ tgt ls st) (kf : x = y → WW X B A nL kc ks Q σ nx ls st) : WW X B A nL kc ks Q σ pc ls (.int y :: .int x :: st) := by
  subst hn
  intro H locs la hP hD hS hl
  exact lv_icmp_ne C.1 C.2.1 d ht (fun q => kt q H locs la hP hD hS hl) (fun q => kf q H locs la hP hD hS hl)
theorem ww_if_ne {x : Int32} {off : Int} {tgt : Nat} (C : CX X B A R own cc nL kc ks) (d : decode cc pc = .ok (.ifCond .ne off, 3)) (ht : (pc : Int) + off = (tgt : Int)) (hn : pc + 3 = nx) (kt : ¬ x = 0 → WW X B A nL kc ks Q σ tgt ls st) (kf : x = 0 → WW X B A nL kc ks Q σ nx ls st) : WW X B A nL kc ks Q σ pc ls (.int x :: st) := by
  subst hn
  intro H locs la hP hD hS hl
  exact lv_if_ne C.1 C.2.1 d ht (fun q => kt q H locs la hP hD hS hl) (fun q => kf q H locs la hP hD hS hl)
theorem ww_icmp_lt {x y : Int32} {off : Int} {tgt : Nat} (C : CX X B A R own cc nL kc ks) (d : decode cc pc = .ok (.if_icmp .lt off, 3)) (ht : (pc : Int) + off = (tgt : Int)) (hn : pc + 3 = nx) (kt : x < y → WW X B A nL kc ks Q σ tgt ls st) (kf : ¬ x < y → WW X B A nL kc ks Q σ nx ls st) : WW X B A nL kc ks Q σ pc ls (.int y :: .int x :: st) := by
  subst hn
  intro H locs la hP hD hS hl
  exact lv_icmp_lt C.1 C.2.1 d ht (fun q => kt q H locs la hP hD hS hl) (fun q => kf q H locs la hP hD hS hl)
theorem ww_if_lt {x : Int32} {off : Int} {tgt : Nat} (C : CX X B A R own cc nL kc ks) (d : decode cc pc = .ok (.ifCond .lt off, 3)) (ht : (pc : Int) + off = (tgt : Int)) (hn : pc + 3 = nx) (kt : x < 0 → WW X B A nL kc ks Q σ tgt ls st) (kf : ¬ x < 0 → WW X B A nL kc ks Q σ nx ls st) : WW X B A nL kc ks Q σ pc ls (.int x :: st) := by
  subst hn
  intro H locs la hP hD hS hl
  exact lv_if_lt C.1 C.2.1 d ht (fun q => kt q H locs la hP hD hS hl) (fun q => kf q H locs la hP hD hS hl)
theorem ww_icmp_ge {x y : Int32} {off : Int} {tgt : Nat} (C : CX X B A R own cc nL kc ks) (d : decode cc pc = .ok (.if_icmp .ge off, 3)) (ht : (pc : Int) + off = (tgt : Int)) (hn : pc + 3 = nx) (kt : y ≤ x → WW X B A nL kc ks Q σ tgt ls st) (kf : ¬ y ≤ x → WW X B A nL kc ks Q σ nx ls st) : WW X B A nL kc ks Q σ pc ls (.int y :: .int x :: st) := by
  subst hn
  intro H locs la hP hD hS hl
  exact lv_icmp_ge C.1 C.2.1 d ht (fun q => kt q H locs la hP hD hS hl) (fun q => kf q H locs la hP hD hS hl)
theorem ww_if_ge {x : Int32} {off : Int} {tgt : Nat} (C : CX X B A R own cc nL kc ks) (d : decode cc pc = .ok (.ifCond .ge off, 3)) (ht : (pc : Int) + off = (tgt : Int)) (hn : pc + 3 = nx) (kt : 0 ≤ x → WW X B A nL kc ks Q σ tgt ls st) (kf : ¬ 0 ≤ x → WW X B A nL kc ks Q σ nx ls st) : WW X B A nL kc ks Q σ pc ls (.int x :: st) := by
  subst hn
  intro H locs la hP hD hS hl
  exact lv_if_ge C.1 C.2.1 d ht (fun q => kt q H locs la hP hD hS hl) (fun q => kf q H locs la hP hD hS hl)
theorem ww_icmp_gt {x y : Int32} {off : Int} {tgt : Nat} (C : CX X B A R own cc nL kc ks) (d : decode cc pc = .ok (.if_icmp .gt off, 3)) (ht : (pc : Int) + off = (tgt : Int)) (hn : pc + 3 = nx) (kt : y < x → WW X B A nL kc ks Q σ tgt ls st) (kf : ¬ y < x → WW X B A nL kc ks Q σ nx ls st) : WW X B A nL kc ks Q σ pc ls (.int y :: .int x :: st) := by
  subst hn
  intro H locs la hP hD hS hl
  exact lv_icmp_gt C.1 C.2.1 d ht (fun q => kt q H locs la hP hD hS hl) (fun q => kf q H locs la hP hD hS hl)
theorem ww_if_gt {x : Int32} {off : Int} {tgt : Nat} (C : CX X B A R own cc nL kc ks) (d : decode cc pc = .ok (.ifCond .gt off, 3)) (ht : (pc : Int) + off = (tgt : Int)) (hn : pc + 3 = nx) (kt : 0 < x → WW X B A nL kc ks Q σ tgt ls st) (kf : ¬ 0 < x → WW X B A nL kc ks Q σ nx ls st) : WW X B A nL kc ks Q σ pc ls (.int x :: st) := by
  subst hn
  intro H locs la hP hD hS hl
  exact lv_if_gt C.1 C.2.1 d ht (fun q => kt q H locs la hP hD hS hl) (fun q => kf q H locs la hP hD hS hl)
theorem ww_icmp_le {x y : Int32} {off : Int} {tgt : Nat} (C : CX X B A R own cc nL kc ks) (d : decode cc pc = .ok (.if_icmp .le off, 3)) (ht : (pc : Int) + off = (tgt : Int)) (hn : pc + 3 = nx) (kt : x ≤ y → WW X B A nL kc ks Q σ tgt ls st) (kf : ¬ x ≤ y → WW X B A nL kc ks Q σ nx ls st) : WW X B A nL kc ks Q σ pc ls (.int y :: .int x :: st) := by
  subst hn
  intro H locs la hP hD hS hl
  exact lv_icmp_le C.1 C.2.1 d ht (fun q => kt q H locs la hP hD hS hl) (fun q => kf q H locs la hP hD hS hl)
theorem ww_if_le {x : Int32} {off : Int} {tgt : Nat} (C : CX X B A R own cc nL kc ks) (d : decode cc pc = .ok (.ifCond .le off, 3)) (ht : (pc : Int) + off = (tgt : Int)) (hn : pc + 3 = nx) (kt : x ≤ 0 → WW X B A nL kc ks Q σ tgt ls st) (kf : ¬ x ≤ 0 → WW X B A nL kc ks Q σ nx ls st) : WW X B A nL kc ks Q σ pc ls (.int x :: st) := by
  subst hn
  intro H locs la hP hD hS hl
  exact lv_if_le C.1 C.2.1 d ht (fun q => kt q H locs la hP hD hS hl) (fun q => kf q H locs la hP hD hS hl)
theorem ww_goto {off : Int} (C : CX X B A R own cc nL kc ks) (d : decode cc pc = .ok (.goto off, 3)) (ht : (pc : Int) + off = (nx : Int)) (k : WW X B A nL kc ks Q σ nx ls st) : WW X B A nL kc ks Q σ pc ls st := by
  intro H locs la hP hD hS hl
  exact lv_goto C.1 C.2.1 d ht (k H locs la hP hD hS hl)
theorem ww_tableOut {dflt lo hi : Int} {offs : Array Int} {len : Nat} {x : Int32} (C : CX X B A R own cc nL kc ks) (d : decode cc pc = .ok (.tableswitch dflt lo hi offs, len)) (h : x.toInt < lo ∨ hi < x.toInt) (ht : (pc : Int) + dflt = (nx : Int)) (k : WW X B A nL kc ks Q σ nx ls st) : WW X B A nL kc ks Q σ pc ls (.int x :: st) := by
  intro H locs la hP hD hS hl
  exact lv_tableOut C.1 C.2.1 d h ht (k H locs la hP hD hS hl)
theorem ww_tableIn {dflt lo hi : Int} {offs : Array Int} {len : Nat} {x : Int32} {off : Int} (C : CX X B A R own cc nL kc ks) (d : decode cc pc = .ok (.tableswitch dflt lo hi offs, len)) (h1 : ¬ x.toInt < lo) (h2 : ¬ hi < x.toInt) (ho : offs[(x.toInt - lo).toNat]? = some off) (ht : (pc : Int) + off = (nx : Int)) (k : WW X B A nL kc ks Q σ nx ls st) : WW X B A nL kc ks Q σ pc ls (.int x :: st) := by
  intro H locs la hP hD hS hl
  exact lv_tableIn C.1 C.2.1 d h1 h2 ho ht (k H locs la hP hD hS hl)
theorem ww_lookup {dflt : Int} {ps : Array (Int × Int)} {len : Nat} {x : Int32} {off : Int} (C : CX X B A R own cc nL kc ks) (d : decode cc pc = .ok (.lookupswitch dflt ps, len)) (hp : (ps.toList.zip (ps.toList.drop 1)).all (fun (a, next) => a.1 < next.1) = true) (ho : Op.lookupswitch.offset ps.toList dflt x.toInt = off) (ht : (pc : Int) + off = (nx : Int)) (k : WW X B A nL kc ks Q σ nx ls st) : WW X B A nL kc ks Q σ pc ls (.int x :: st) := by
  intro H locs la hP hD hS hl
  exact lv_lookup C.1 C.2.1 d hp ho ht (k H locs la hP hD hS hl)

/-- a store of a value of one slot, into the list of locals -/
theorem eLv_has {ad : Nat → Nat} {la : Array Slot} {nL : Nat} {ls : List (Option Value)} (h : eLv ad la nL ls) : lv_has la nL ((List.range ls.length).filterMap (fun i => (ls[i]?.join).map (fun v => (i, eV ad v)))) := by
  refine ⟨h.1, h.2.1, fun q hq => ?_⟩
  obtain ⟨i, -, hi⟩ := List.mem_filterMap.mp hq
  cases hj : ls[i]? with
  | none => rw [hj] at hi; simp at hi
  | some o =>
    cases o with
    | none => rw [hj] at hi; simp at hi
    | some v =>
      rw [hj] at hi
      simp at hi
      subst hi
      exact h.2.2 i v hj
/-- is it no value of two slots -/
def eOne (o : Option Value) : Bool := match o with
  | some v => v.category == 1
  | none => true
theorem eLv_mem {ad : Nat → Nat} {ls : List (Option Value)} {i : Nat} {v : Value} (h : ls[i]? = some (some v)) : (i, eV ad v) ∈ (List.range ls.length).filterMap (fun i => (ls[i]?.join).map (fun v => (i, eV ad v))) := by
  refine List.mem_filterMap.mpr ⟨i, List.mem_range.mpr (List.getElem?_eq_some_iff.mp h).1, ?_⟩
  rw [h]; rfl
theorem eLv_set1 {ad : Nat → Nat} {la' : Array Slot} {nL : Nat} {ls : List (Option Value)} {i : Nat} {v : Value} (hp : ∀ j, j + 1 = i → eOne (ls[j]?.join) = true) (h : lv_has la' nL ((i, eV ad v) :: ((List.range ls.length).filterMap (fun i => (ls[i]?.join).map (fun v => (i, eV ad v)))).filter (fun q => !(q.1 == i) && !(q.1 + 1 == i && q.2.category == 2)))) : eLv ad la' nL (ls.set i (some v)) := by
  refine ⟨h.1, h.2.1, fun j w hj => ?_⟩
  rw [List.getElem?_set] at hj
  by_cases e : i = j
  · subst e
    rw [if_pos rfl] at hj
    split at hj
    · have : v = w := by simpa using hj
      subst this
      exact h.2.2 _ List.mem_cons_self
    · cases hj
  · rw [if_neg e] at hj
    refine h.2.2 _ (List.mem_cons_of_mem _ (List.mem_filter.mpr ⟨eLv_mem hj, ?_⟩))
    have h1 : ¬ (j = i) := fun q => e q.symm
    by_cases e2 : j + 1 = i
    · have hw := hp j e2
      rw [hj] at hw
      have hw2 : w.category = 1 := eq_of_beq hw
      simp [h1, eV_cat, hw2]
    · simp [h1, e2]
theorem eLv_set2 {ad : Nat → Nat} {la' : Array Slot} {nL : Nat} {ls : List (Option Value)} {i : Nat} {v : Value} (hp : ∀ j, j + 1 = i → eOne (ls[j]?.join) = true) (h : lv_has la' nL ((i, eV ad v) :: ((List.range ls.length).filterMap (fun i => (ls[i]?.join).map (fun v => (i, eV ad v)))).filter (fun q => !(q.1 == i) && (!(q.1 == i + 1) && !(q.1 + 1 == i && q.2.category == 2))))) : eLv ad la' nL ((ls.set i (some v)).set (i + 1) none) := by
  refine ⟨h.1, h.2.1, fun j w hj => ?_⟩
  rw [List.getElem?_set] at hj
  by_cases e0 : i + 1 = j
  · rw [if_pos e0] at hj
    split at hj
    · simp at hj
    · cases hj
  rw [if_neg e0, List.getElem?_set] at hj
  by_cases e : i = j
  · subst e
    rw [if_pos rfl] at hj
    split at hj
    · have : v = w := by simpa using hj
      subst this
      exact h.2.2 _ List.mem_cons_self
    · cases hj
  · rw [if_neg e] at hj
    refine h.2.2 _ (List.mem_cons_of_mem _ (List.mem_filter.mpr ⟨eLv_mem hj, ?_⟩))
    have h1 : ¬ (j = i) := fun q => e q.symm
    have h2 : ¬ (j = i + 1) := fun q => e0 q.symm
    by_cases e2 : j + 1 = i
    · have hw := hp j e2
      rw [hj] at hw
      have hw2 : w.category = 1 := eq_of_beq hw
      simp [h1, h2, eV_cat, hw2]
    · simp [h1, h2, e2]
def eIst (cc : ByteArray) (pc nx i : Nat) : Prop := (∃ j : Fin 4, (j : Nat) = i ∧ decode cc pc = .ok (.istore_n j, 1) ∧ pc + 1 = nx) ∨ (decode cc pc = .ok (.istore i, 2) ∧ pc + 2 = nx)
def eLst (cc : ByteArray) (pc nx i : Nat) : Prop := (∃ j : Fin 4, (j : Nat) = i ∧ decode cc pc = .ok (.lstore_n j, 1) ∧ pc + 1 = nx) ∨ (decode cc pc = .ok (.lstore i, 2) ∧ pc + 2 = nx)
theorem eIst_n {j : Fin 4} {i : Nat} (d : decode cc pc = .ok (.istore_n j, 1)) (hj : (j : Nat) = i) (hn : pc + 1 = nx) : eIst cc pc nx i := Or.inl ⟨j, hj, d, hn⟩
theorem eIst_w {i : Nat} (d : decode cc pc = .ok (.istore i, 2)) (hn : pc + 2 = nx) : eIst cc pc nx i := Or.inr ⟨d, hn⟩
theorem eLst_n {j : Fin 4} {i : Nat} (d : decode cc pc = .ok (.lstore_n j, 1)) (hj : (j : Nat) = i) (hn : pc + 1 = nx) : eLst cc pc nx i := Or.inl ⟨j, hj, d, hn⟩
theorem eLst_w {i : Nat} (d : decode cc pc = .ok (.lstore i, 2)) (hn : pc + 2 = nx) : eLst cc pc nx i := Or.inr ⟨d, hn⟩
theorem ww_istore {i : Nat} {x : Int32} (C : CX X B A R own cc nL kc ks) (d : eIst cc pc nx i) (hi : i < nL) (hp : ∀ j, j + 1 = i → eOne (ls[j]?.join) = true) (k : WW X B A nL kc ks Q σ nx (ls.set i (some (.int x))) st) : WW X B A nL kc ks Q σ pc ls (.int x :: st) := by
  intro H locs la hP hD hS hl
  rcases d with ⟨j, hj, d, rfl⟩ | ⟨d, rfl⟩
  · exact lv_istore_n C.1 C.2.1 d hj (eLv_has hl) hi rfl (fun la' h' => k H locs la' hP hD hS (eLv_set1 (v := .int x) hp h'))
  · exact lv_istore C.1 C.2.1 d (eLv_has hl) hi rfl (fun la' h' => k H locs la' hP hD hS (eLv_set1 (v := .int x) hp h'))
theorem ww_lstore {i : Nat} {x : Int64} (C : CX X B A R own cc nL kc ks) (d : eLst cc pc nx i) (hi : i + 1 < nL) (hp : ∀ j, j + 1 = i → eOne (ls[j]?.join) = true) (k : WW X B A nL kc ks Q σ nx ((ls.set i (some (.long x))).set (i + 1) none) st) : WW X B A nL kc ks Q σ pc ls (.long x :: st) := by
  intro H locs la hP hD hS hl
  rcases d with ⟨j, hj, d, rfl⟩ | ⟨d, rfl⟩
  · exact lv_lstore_n C.1 C.2.1 d hj (eLv_has hl) hi rfl (fun la' h' => k H locs la' hP hD hS (eLv_set2 (v := .long x) hp h'))
  · exact lv_lstore C.1 C.2.1 d (eLv_has hl) hi rfl (fun la' h' => k H locs la' hP hD hS (eLv_set2 (v := .long x) hp h'))
theorem ww_iinc {i : Nat} {n : Int} {x v : Int32} (C : CX X B A R own cc nL kc ks) (d : decode cc pc = .ok (.iinc i n, 3)) (hn : pc + 3 = nx) (hx : ls[i]? = some (some (.int x))) (hv : Int32.ofInt n = v) (hi : i < nL) (hp : ∀ j, j + 1 = i → eOne (ls[j]?.join) = true) (k : WW X B A nL kc ks Q σ nx (ls.set i (some (.int (x + v)))) st) : WW X B A nL kc ks Q σ pc ls st := by
  subst hn
  intro H locs la hP hD hS hl
  obtain ⟨k0, hk0⟩ := List.getElem?_of_mem (eLv_mem (ad := B.2.2) hx)
  exact lv_iinc C.1 C.2.1 d (eLv_has hl) hk0 (by rw [hv]) hi rfl (fun la' h' => k H locs la' hP hD hS (eLv_set1 (v := .int (x + v)) hp h'))

theorem ww_ist0 {x0 : Option Value} {r : List (Option Value)} {x : Int32} (C : CX X B A R own cc nL kc ks) (d : eIst cc pc nx 0) (hi : 0 < nL) (k : WW X B A nL kc ks Q σ nx (some (.int x) :: r) st) : WW X B A nL kc ks Q σ pc (x0 :: r) (.int x :: st) := ww_istore C d hi (fun j hj => by cases hj) k
theorem ww_iinc0 {r : List (Option Value)} {n : Int} {x v : Int32} (C : CX X B A R own cc nL kc ks) (d : decode cc pc = .ok (.iinc 0 n, 3)) (hn : pc + 3 = nx) (hv : Int32.ofInt n = v) (hi : 0 < nL) (k : WW X B A nL kc ks Q σ nx (some (.int (x + v)) :: r) st) : WW X B A nL kc ks Q σ pc (some (.int x) :: r) st := ww_iinc C d hn rfl hv hi (fun j hj => by cases hj) k
theorem ww_lst0 {x0 y : Option Value} {r : List (Option Value)} {x : Int64} (C : CX X B A R own cc nL kc ks) (d : eLst cc pc nx 0) (hi : 0 + 1 < nL) (k : WW X B A nL kc ks Q σ nx (some (.long x) :: none :: r) st) : WW X B A nL kc ks Q σ pc (x0 :: y :: r) (.long x :: st) := ww_lstore C d hi (fun j hj => by cases hj) k
theorem ww_ist1 {x0 x1 : Option Value} {r : List (Option Value)} {x : Int32} (C : CX X B A R own cc nL kc ks) (d : eIst cc pc nx 1) (hi : 1 < nL) (ho : eOne x0 = true) (k : WW X B A nL kc ks Q σ nx (x0 :: some (.int x) :: r) st) : WW X B A nL kc ks Q σ pc (x0 :: x1 :: r) (.int x :: st) := ww_istore C d hi (fun j hj => by cases hj; exact ho) k
theorem ww_iinc1 {x0 : Option Value} {r : List (Option Value)} {n : Int} {x v : Int32} (C : CX X B A R own cc nL kc ks) (d : decode cc pc = .ok (.iinc 1 n, 3)) (hn : pc + 3 = nx) (hv : Int32.ofInt n = v) (hi : 1 < nL) (ho : eOne x0 = true) (k : WW X B A nL kc ks Q σ nx (x0 :: some (.int (x + v)) :: r) st) : WW X B A nL kc ks Q σ pc (x0 :: some (.int x) :: r) st := ww_iinc C d hn rfl hv hi (fun j hj => by cases hj; exact ho) k
theorem ww_lst1 {x0 x1 y : Option Value} {r : List (Option Value)} {x : Int64} (C : CX X B A R own cc nL kc ks) (d : eLst cc pc nx 1) (hi : 1 + 1 < nL) (ho : eOne x0 = true) (k : WW X B A nL kc ks Q σ nx (x0 :: some (.long x) :: none :: r) st) : WW X B A nL kc ks Q σ pc (x0 :: x1 :: y :: r) (.long x :: st) := ww_lstore C d hi (fun j hj => by cases hj; exact ho) k
theorem ww_ist2 {x0 x1 x2 : Option Value} {r : List (Option Value)} {x : Int32} (C : CX X B A R own cc nL kc ks) (d : eIst cc pc nx 2) (hi : 2 < nL) (ho : eOne x1 = true) (k : WW X B A nL kc ks Q σ nx (x0 :: x1 :: some (.int x) :: r) st) : WW X B A nL kc ks Q σ pc (x0 :: x1 :: x2 :: r) (.int x :: st) := ww_istore C d hi (fun j hj => by cases hj; exact ho) k
theorem ww_iinc2 {x0 x1 : Option Value} {r : List (Option Value)} {n : Int} {x v : Int32} (C : CX X B A R own cc nL kc ks) (d : decode cc pc = .ok (.iinc 2 n, 3)) (hn : pc + 3 = nx) (hv : Int32.ofInt n = v) (hi : 2 < nL) (ho : eOne x1 = true) (k : WW X B A nL kc ks Q σ nx (x0 :: x1 :: some (.int (x + v)) :: r) st) : WW X B A nL kc ks Q σ pc (x0 :: x1 :: some (.int x) :: r) st := ww_iinc C d hn rfl hv hi (fun j hj => by cases hj; exact ho) k
theorem ww_lst2 {x0 x1 x2 y : Option Value} {r : List (Option Value)} {x : Int64} (C : CX X B A R own cc nL kc ks) (d : eLst cc pc nx 2) (hi : 2 + 1 < nL) (ho : eOne x1 = true) (k : WW X B A nL kc ks Q σ nx (x0 :: x1 :: some (.long x) :: none :: r) st) : WW X B A nL kc ks Q σ pc (x0 :: x1 :: x2 :: y :: r) (.long x :: st) := ww_lstore C d hi (fun j hj => by cases hj; exact ho) k
theorem ww_ist3 {x0 x1 x2 x3 : Option Value} {r : List (Option Value)} {x : Int32} (C : CX X B A R own cc nL kc ks) (d : eIst cc pc nx 3) (hi : 3 < nL) (ho : eOne x2 = true) (k : WW X B A nL kc ks Q σ nx (x0 :: x1 :: x2 :: some (.int x) :: r) st) : WW X B A nL kc ks Q σ pc (x0 :: x1 :: x2 :: x3 :: r) (.int x :: st) := ww_istore C d hi (fun j hj => by cases hj; exact ho) k
theorem ww_iinc3 {x0 x1 x2 : Option Value} {r : List (Option Value)} {n : Int} {x v : Int32} (C : CX X B A R own cc nL kc ks) (d : decode cc pc = .ok (.iinc 3 n, 3)) (hn : pc + 3 = nx) (hv : Int32.ofInt n = v) (hi : 3 < nL) (ho : eOne x2 = true) (k : WW X B A nL kc ks Q σ nx (x0 :: x1 :: x2 :: some (.int (x + v)) :: r) st) : WW X B A nL kc ks Q σ pc (x0 :: x1 :: x2 :: some (.int x) :: r) st := ww_iinc C d hn rfl hv hi (fun j hj => by cases hj; exact ho) k
theorem ww_lst3 {x0 x1 x2 x3 y : Option Value} {r : List (Option Value)} {x : Int64} (C : CX X B A R own cc nL kc ks) (d : eLst cc pc nx 3) (hi : 3 + 1 < nL) (ho : eOne x2 = true) (k : WW X B A nL kc ks Q σ nx (x0 :: x1 :: x2 :: some (.long x) :: none :: r) st) : WW X B A nL kc ks Q σ pc (x0 :: x1 :: x2 :: x3 :: y :: r) (.long x :: st) := ww_lstore C d hi (fun j hj => by cases hj; exact ho) k
theorem ww_ist4 {x0 x1 x2 x3 x4 : Option Value} {r : List (Option Value)} {x : Int32} (C : CX X B A R own cc nL kc ks) (d : eIst cc pc nx 4) (hi : 4 < nL) (ho : eOne x3 = true) (k : WW X B A nL kc ks Q σ nx (x0 :: x1 :: x2 :: x3 :: some (.int x) :: r) st) : WW X B A nL kc ks Q σ pc (x0 :: x1 :: x2 :: x3 :: x4 :: r) (.int x :: st) := ww_istore C d hi (fun j hj => by cases hj; exact ho) k
theorem ww_iinc4 {x0 x1 x2 x3 : Option Value} {r : List (Option Value)} {n : Int} {x v : Int32} (C : CX X B A R own cc nL kc ks) (d : decode cc pc = .ok (.iinc 4 n, 3)) (hn : pc + 3 = nx) (hv : Int32.ofInt n = v) (hi : 4 < nL) (ho : eOne x3 = true) (k : WW X B A nL kc ks Q σ nx (x0 :: x1 :: x2 :: x3 :: some (.int (x + v)) :: r) st) : WW X B A nL kc ks Q σ pc (x0 :: x1 :: x2 :: x3 :: some (.int x) :: r) st := ww_iinc C d hn rfl hv hi (fun j hj => by cases hj; exact ho) k
theorem ww_lst4 {x0 x1 x2 x3 x4 y : Option Value} {r : List (Option Value)} {x : Int64} (C : CX X B A R own cc nL kc ks) (d : eLst cc pc nx 4) (hi : 4 + 1 < nL) (ho : eOne x3 = true) (k : WW X B A nL kc ks Q σ nx (x0 :: x1 :: x2 :: x3 :: some (.long x) :: none :: r) st) : WW X B A nL kc ks Q σ pc (x0 :: x1 :: x2 :: x3 :: x4 :: y :: r) (.long x :: st) := ww_lstore C d hi (fun j hj => by cases hj; exact ho) k
theorem ww_ist5 {x0 x1 x2 x3 x4 x5 : Option Value} {r : List (Option Value)} {x : Int32} (C : CX X B A R own cc nL kc ks) (d : eIst cc pc nx 5) (hi : 5 < nL) (ho : eOne x4 = true) (k : WW X B A nL kc ks Q σ nx (x0 :: x1 :: x2 :: x3 :: x4 :: some (.int x) :: r) st) : WW X B A nL kc ks Q σ pc (x0 :: x1 :: x2 :: x3 :: x4 :: x5 :: r) (.int x :: st) := ww_istore C d hi (fun j hj => by cases hj; exact ho) k
theorem ww_iinc5 {x0 x1 x2 x3 x4 : Option Value} {r : List (Option Value)} {n : Int} {x v : Int32} (C : CX X B A R own cc nL kc ks) (d : decode cc pc = .ok (.iinc 5 n, 3)) (hn : pc + 3 = nx) (hv : Int32.ofInt n = v) (hi : 5 < nL) (ho : eOne x4 = true) (k : WW X B A nL kc ks Q σ nx (x0 :: x1 :: x2 :: x3 :: x4 :: some (.int (x + v)) :: r) st) : WW X B A nL kc ks Q σ pc (x0 :: x1 :: x2 :: x3 :: x4 :: some (.int x) :: r) st := ww_iinc C d hn rfl hv hi (fun j hj => by cases hj; exact ho) k
theorem ww_lst5 {x0 x1 x2 x3 x4 x5 y : Option Value} {r : List (Option Value)} {x : Int64} (C : CX X B A R own cc nL kc ks) (d : eLst cc pc nx 5) (hi : 5 + 1 < nL) (ho : eOne x4 = true) (k : WW X B A nL kc ks Q σ nx (x0 :: x1 :: x2 :: x3 :: x4 :: some (.long x) :: none :: r) st) : WW X B A nL kc ks Q σ pc (x0 :: x1 :: x2 :: x3 :: x4 :: x5 :: y :: r) (.long x :: st) := ww_lstore C d hi (fun j hj => by cases hj; exact ho) k
theorem ww_ist6 {x0 x1 x2 x3 x4 x5 x6 : Option Value} {r : List (Option Value)} {x : Int32} (C : CX X B A R own cc nL kc ks) (d : eIst cc pc nx 6) (hi : 6 < nL) (ho : eOne x5 = true) (k : WW X B A nL kc ks Q σ nx (x0 :: x1 :: x2 :: x3 :: x4 :: x5 :: some (.int x) :: r) st) : WW X B A nL kc ks Q σ pc (x0 :: x1 :: x2 :: x3 :: x4 :: x5 :: x6 :: r) (.int x :: st) := ww_istore C d hi (fun j hj => by cases hj; exact ho) k
theorem ww_iinc6 {x0 x1 x2 x3 x4 x5 : Option Value} {r : List (Option Value)} {n : Int} {x v : Int32} (C : CX X B A R own cc nL kc ks) (d : decode cc pc = .ok (.iinc 6 n, 3)) (hn : pc + 3 = nx) (hv : Int32.ofInt n = v) (hi : 6 < nL) (ho : eOne x5 = true) (k : WW X B A nL kc ks Q σ nx (x0 :: x1 :: x2 :: x3 :: x4 :: x5 :: some (.int (x + v)) :: r) st) : WW X B A nL kc ks Q σ pc (x0 :: x1 :: x2 :: x3 :: x4 :: x5 :: some (.int x) :: r) st := ww_iinc C d hn rfl hv hi (fun j hj => by cases hj; exact ho) k
theorem ww_lst6 {x0 x1 x2 x3 x4 x5 x6 y : Option Value} {r : List (Option Value)} {x : Int64} (C : CX X B A R own cc nL kc ks) (d : eLst cc pc nx 6) (hi : 6 + 1 < nL) (ho : eOne x5 = true) (k : WW X B A nL kc ks Q σ nx (x0 :: x1 :: x2 :: x3 :: x4 :: x5 :: some (.long x) :: none :: r) st) : WW X B A nL kc ks Q σ pc (x0 :: x1 :: x2 :: x3 :: x4 :: x5 :: x6 :: y :: r) (.long x :: st) := ww_lstore C d hi (fun j hj => by cases hj; exact ho) k
theorem ww_ist7 {x0 x1 x2 x3 x4 x5 x6 x7 : Option Value} {r : List (Option Value)} {x : Int32} (C : CX X B A R own cc nL kc ks) (d : eIst cc pc nx 7) (hi : 7 < nL) (ho : eOne x6 = true) (k : WW X B A nL kc ks Q σ nx (x0 :: x1 :: x2 :: x3 :: x4 :: x5 :: x6 :: some (.int x) :: r) st) : WW X B A nL kc ks Q σ pc (x0 :: x1 :: x2 :: x3 :: x4 :: x5 :: x6 :: x7 :: r) (.int x :: st) := ww_istore C d hi (fun j hj => by cases hj; exact ho) k
theorem ww_iinc7 {x0 x1 x2 x3 x4 x5 x6 : Option Value} {r : List (Option Value)} {n : Int} {x v : Int32} (C : CX X B A R own cc nL kc ks) (d : decode cc pc = .ok (.iinc 7 n, 3)) (hn : pc + 3 = nx) (hv : Int32.ofInt n = v) (hi : 7 < nL) (ho : eOne x6 = true) (k : WW X B A nL kc ks Q σ nx (x0 :: x1 :: x2 :: x3 :: x4 :: x5 :: x6 :: some (.int (x + v)) :: r) st) : WW X B A nL kc ks Q σ pc (x0 :: x1 :: x2 :: x3 :: x4 :: x5 :: x6 :: some (.int x) :: r) st := ww_iinc C d hn rfl hv hi (fun j hj => by cases hj; exact ho) k
theorem ww_lst7 {x0 x1 x2 x3 x4 x5 x6 x7 y : Option Value} {r : List (Option Value)} {x : Int64} (C : CX X B A R own cc nL kc ks) (d : eLst cc pc nx 7) (hi : 7 + 1 < nL) (ho : eOne x6 = true) (k : WW X B A nL kc ks Q σ nx (x0 :: x1 :: x2 :: x3 :: x4 :: x5 :: x6 :: some (.long x) :: none :: r) st) : WW X B A nL kc ks Q σ pc (x0 :: x1 :: x2 :: x3 :: x4 :: x5 :: x6 :: x7 :: y :: r) (.long x :: st) := ww_lstore C d hi (fun j hj => by cases hj; exact ho) k
theorem ww_ist8 {x0 x1 x2 x3 x4 x5 x6 x7 x8 : Option Value} {r : List (Option Value)} {x : Int32} (C : CX X B A R own cc nL kc ks) (d : eIst cc pc nx 8) (hi : 8 < nL) (ho : eOne x7 = true) (k : WW X B A nL kc ks Q σ nx (x0 :: x1 :: x2 :: x3 :: x4 :: x5 :: x6 :: x7 :: some (.int x) :: r) st) : WW X B A nL kc ks Q σ pc (x0 :: x1 :: x2 :: x3 :: x4 :: x5 :: x6 :: x7 :: x8 :: r) (.int x :: st) := ww_istore C d hi (fun j hj => by cases hj; exact ho) k
theorem ww_iinc8 {x0 x1 x2 x3 x4 x5 x6 x7 : Option Value} {r : List (Option Value)} {n : Int} {x v : Int32} (C : CX X B A R own cc nL kc ks) (d : decode cc pc = .ok (.iinc 8 n, 3)) (hn : pc + 3 = nx) (hv : Int32.ofInt n = v) (hi : 8 < nL) (ho : eOne x7 = true) (k : WW X B A nL kc ks Q σ nx (x0 :: x1 :: x2 :: x3 :: x4 :: x5 :: x6 :: x7 :: some (.int (x + v)) :: r) st) : WW X B A nL kc ks Q σ pc (x0 :: x1 :: x2 :: x3 :: x4 :: x5 :: x6 :: x7 :: some (.int x) :: r) st := ww_iinc C d hn rfl hv hi (fun j hj => by cases hj; exact ho) k
theorem ww_lst8 {x0 x1 x2 x3 x4 x5 x6 x7 x8 y : Option Value} {r : List (Option Value)} {x : Int64} (C : CX X B A R own cc nL kc ks) (d : eLst cc pc nx 8) (hi : 8 + 1 < nL) (ho : eOne x7 = true) (k : WW X B A nL kc ks Q σ nx (x0 :: x1 :: x2 :: x3 :: x4 :: x5 :: x6 :: x7 :: some (.long x) :: none :: r) st) : WW X B A nL kc ks Q σ pc (x0 :: x1 :: x2 :: x3 :: x4 :: x5 :: x6 :: x7 :: x8 :: y :: r) (.long x :: st) := ww_lstore C d hi (fun j hj => by cases hj; exact ho) k
theorem ww_ist9 {x0 x1 x2 x3 x4 x5 x6 x7 x8 x9 : Option Value} {r : List (Option Value)} {x : Int32} (C : CX X B A R own cc nL kc ks) (d : eIst cc pc nx 9) (hi : 9 < nL) (ho : eOne x8 = true) (k : WW X B A nL kc ks Q σ nx (x0 :: x1 :: x2 :: x3 :: x4 :: x5 :: x6 :: x7 :: x8 :: some (.int x) :: r) st) : WW X B A nL kc ks Q σ pc (x0 :: x1 :: x2 :: x3 :: x4 :: x5 :: x6 :: x7 :: x8 :: x9 :: r) (.int x :: st) := ww_istore C d hi (fun j hj => by cases hj; exact ho) k
theorem ww_iinc9 {x0 x1 x2 x3 x4 x5 x6 x7 x8 : Option Value} {r : List (Option Value)} {n : Int} {x v : Int32} (C : CX X B A R own cc nL kc ks) (d : decode cc pc = .ok (.iinc 9 n, 3)) (hn : pc + 3 = nx) (hv : Int32.ofInt n = v) (hi : 9 < nL) (ho : eOne x8 = true) (k : WW X B A nL kc ks Q σ nx (x0 :: x1 :: x2 :: x3 :: x4 :: x5 :: x6 :: x7 :: x8 :: some (.int (x + v)) :: r) st) : WW X B A nL kc ks Q σ pc (x0 :: x1 :: x2 :: x3 :: x4 :: x5 :: x6 :: x7 :: x8 :: some (.int x) :: r) st := ww_iinc C d hn rfl hv hi (fun j hj => by cases hj; exact ho) k
theorem ww_lst9 {x0 x1 x2 x3 x4 x5 x6 x7 x8 x9 y : Option Value} {r : List (Option Value)} {x : Int64} (C : CX X B A R own cc nL kc ks) (d : eLst cc pc nx 9) (hi : 9 + 1 < nL) (ho : eOne x8 = true) (k : WW X B A nL kc ks Q σ nx (x0 :: x1 :: x2 :: x3 :: x4 :: x5 :: x6 :: x7 :: x8 :: some (.long x) :: none :: r) st) : WW X B A nL kc ks Q σ pc (x0 :: x1 :: x2 :: x3 :: x4 :: x5 :: x6 :: x7 :: x8 :: x9 :: y :: r) (.long x :: st) := ww_lstore C d hi (fun j hj => by cases hj; exact ho) k
theorem ww_ist10 {x0 x1 x2 x3 x4 x5 x6 x7 x8 x9 x10 : Option Value} {r : List (Option Value)} {x : Int32} (C : CX X B A R own cc nL kc ks) (d : eIst cc pc nx 10) (hi : 10 < nL) (ho : eOne x9 = true) (k : WW X B A nL kc ks Q σ nx (x0 :: x1 :: x2 :: x3 :: x4 :: x5 :: x6 :: x7 :: x8 :: x9 :: some (.int x) :: r) st) : WW X B A nL kc ks Q σ pc (x0 :: x1 :: x2 :: x3 :: x4 :: x5 :: x6 :: x7 :: x8 :: x9 :: x10 :: r) (.int x :: st) := ww_istore C d hi (fun j hj => by cases hj; exact ho) k
theorem ww_iinc10 {x0 x1 x2 x3 x4 x5 x6 x7 x8 x9 : Option Value} {r : List (Option Value)} {n : Int} {x v : Int32} (C : CX X B A R own cc nL kc ks) (d : decode cc pc = .ok (.iinc 10 n, 3)) (hn : pc + 3 = nx) (hv : Int32.ofInt n = v) (hi : 10 < nL) (ho : eOne x9 = true) (k : WW X B A nL kc ks Q σ nx (x0 :: x1 :: x2 :: x3 :: x4 :: x5 :: x6 :: x7 :: x8 :: x9 :: some (.int (x + v)) :: r) st) : WW X B A nL kc ks Q σ pc (x0 :: x1 :: x2 :: x3 :: x4 :: x5 :: x6 :: x7 :: x8 :: x9 :: some (.int x) :: r) st := ww_iinc C d hn rfl hv hi (fun j hj => by cases hj; exact ho) k
theorem ww_lst10 {x0 x1 x2 x3 x4 x5 x6 x7 x8 x9 x10 y : Option Value} {r : List (Option Value)} {x : Int64} (C : CX X B A R own cc nL kc ks) (d : eLst cc pc nx 10) (hi : 10 + 1 < nL) (ho : eOne x9 = true) (k : WW X B A nL kc ks Q σ nx (x0 :: x1 :: x2 :: x3 :: x4 :: x5 :: x6 :: x7 :: x8 :: x9 :: some (.long x) :: none :: r) st) : WW X B A nL kc ks Q σ pc (x0 :: x1 :: x2 :: x3 :: x4 :: x5 :: x6 :: x7 :: x8 :: x9 :: x10 :: y :: r) (.long x :: st) := ww_lstore C d hi (fun j hj => by cases hj; exact ho) k
theorem ww_ist11 {x0 x1 x2 x3 x4 x5 x6 x7 x8 x9 x10 x11 : Option Value} {r : List (Option Value)} {x : Int32} (C : CX X B A R own cc nL kc ks) (d : eIst cc pc nx 11) (hi : 11 < nL) (ho : eOne x10 = true) (k : WW X B A nL kc ks Q σ nx (x0 :: x1 :: x2 :: x3 :: x4 :: x5 :: x6 :: x7 :: x8 :: x9 :: x10 :: some (.int x) :: r) st) : WW X B A nL kc ks Q σ pc (x0 :: x1 :: x2 :: x3 :: x4 :: x5 :: x6 :: x7 :: x8 :: x9 :: x10 :: x11 :: r) (.int x :: st) := ww_istore C d hi (fun j hj => by cases hj; exact ho) k
theorem ww_iinc11 {x0 x1 x2 x3 x4 x5 x6 x7 x8 x9 x10 : Option Value} {r : List (Option Value)} {n : Int} {x v : Int32} (C : CX X B A R own cc nL kc ks) (d : decode cc pc = .ok (.iinc 11 n, 3)) (hn : pc + 3 = nx) (hv : Int32.ofInt n = v) (hi : 11 < nL) (ho : eOne x10 = true) (k : WW X B A nL kc ks Q σ nx (x0 :: x1 :: x2 :: x3 :: x4 :: x5 :: x6 :: x7 :: x8 :: x9 :: x10 :: some (.int (x + v)) :: r) st) : WW X B A nL kc ks Q σ pc (x0 :: x1 :: x2 :: x3 :: x4 :: x5 :: x6 :: x7 :: x8 :: x9 :: x10 :: some (.int x) :: r) st := ww_iinc C d hn rfl hv hi (fun j hj => by cases hj; exact ho) k
theorem ww_lst11 {x0 x1 x2 x3 x4 x5 x6 x7 x8 x9 x10 x11 y : Option Value} {r : List (Option Value)} {x : Int64} (C : CX X B A R own cc nL kc ks) (d : eLst cc pc nx 11) (hi : 11 + 1 < nL) (ho : eOne x10 = true) (k : WW X B A nL kc ks Q σ nx (x0 :: x1 :: x2 :: x3 :: x4 :: x5 :: x6 :: x7 :: x8 :: x9 :: x10 :: some (.long x) :: none :: r) st) : WW X B A nL kc ks Q σ pc (x0 :: x1 :: x2 :: x3 :: x4 :: x5 :: x6 :: x7 :: x8 :: x9 :: x10 :: x11 :: y :: r) (.long x :: st) := ww_lstore C d hi (fun j hj => by cases hj; exact ho) k
theorem ww_ist12 {x0 x1 x2 x3 x4 x5 x6 x7 x8 x9 x10 x11 x12 : Option Value} {r : List (Option Value)} {x : Int32} (C : CX X B A R own cc nL kc ks) (d : eIst cc pc nx 12) (hi : 12 < nL) (ho : eOne x11 = true) (k : WW X B A nL kc ks Q σ nx (x0 :: x1 :: x2 :: x3 :: x4 :: x5 :: x6 :: x7 :: x8 :: x9 :: x10 :: x11 :: some (.int x) :: r) st) : WW X B A nL kc ks Q σ pc (x0 :: x1 :: x2 :: x3 :: x4 :: x5 :: x6 :: x7 :: x8 :: x9 :: x10 :: x11 :: x12 :: r) (.int x :: st) := ww_istore C d hi (fun j hj => by cases hj; exact ho) k
theorem ww_iinc12 {x0 x1 x2 x3 x4 x5 x6 x7 x8 x9 x10 x11 : Option Value} {r : List (Option Value)} {n : Int} {x v : Int32} (C : CX X B A R own cc nL kc ks) (d : decode cc pc = .ok (.iinc 12 n, 3)) (hn : pc + 3 = nx) (hv : Int32.ofInt n = v) (hi : 12 < nL) (ho : eOne x11 = true) (k : WW X B A nL kc ks Q σ nx (x0 :: x1 :: x2 :: x3 :: x4 :: x5 :: x6 :: x7 :: x8 :: x9 :: x10 :: x11 :: some (.int (x + v)) :: r) st) : WW X B A nL kc ks Q σ pc (x0 :: x1 :: x2 :: x3 :: x4 :: x5 :: x6 :: x7 :: x8 :: x9 :: x10 :: x11 :: some (.int x) :: r) st := ww_iinc C d hn rfl hv hi (fun j hj => by cases hj; exact ho) k
theorem ww_lst12 {x0 x1 x2 x3 x4 x5 x6 x7 x8 x9 x10 x11 x12 y : Option Value} {r : List (Option Value)} {x : Int64} (C : CX X B A R own cc nL kc ks) (d : eLst cc pc nx 12) (hi : 12 + 1 < nL) (ho : eOne x11 = true) (k : WW X B A nL kc ks Q σ nx (x0 :: x1 :: x2 :: x3 :: x4 :: x5 :: x6 :: x7 :: x8 :: x9 :: x10 :: x11 :: some (.long x) :: none :: r) st) : WW X B A nL kc ks Q σ pc (x0 :: x1 :: x2 :: x3 :: x4 :: x5 :: x6 :: x7 :: x8 :: x9 :: x10 :: x11 :: x12 :: y :: r) (.long x :: st) := ww_lstore C d hi (fun j hj => by cases hj; exact ho) k
end EI
end
section
/-! THE ENGINE, 3: fields, arrays -/
/-- entry idx of own's pool is field j of class ci -/
def eFl (own : String) (idx ci j : Nat) : Prop := ∃ q : vw_C, vwCl[ci]? = some q ∧ j < q.2.2 ∧ (q.2.1 j).1 = q.1 ∧ Cond.fieldLink own idx q.1 (q.2.1 j).2.1 (q.2.1 j).2.2.1 ∈ eTb
/-- a class of the world: its words are there, its fields' types are known, its names differ -/
def eCl (ci : Nat) (ty : Nat → FieldType) : Prop := ∃ q : vw_C, vwCl[ci]? = some q ∧ (∀ w ∈ u_ws q.1 q.2.1 q.2.2, w ∈ eTb) ∧ (∀ k, k < q.2.2 → parseFieldDescriptor (q.2.1 k).2.2.1 = some (ty k)) ∧ (∀ a, a < q.2.2 → ∀ b, b < q.2.2 → a ≠ b → (q.2.1 a).2.1 ≠ (q.2.1 b).2.1)
section EF
variable {X : eX} {B : eB} {A : Nat → Prop} {R : Room} {own : String} {cc : ByteArray} {nL kc ks : Nat} {Q : State → Prop} {σ : eSt} {pc nx : Nat} {ls : List (Option Value)} {st : List Value}
theorem ww_get {idx ci j k N : Nat} {fd : Nat → Nat × Nat} (C : CX X B A R own cc nL kc ks) (d : decode cc pc = .ok (.getfield idx, 3)) (hn : pc + 3 = nx) (f : eFl own idx ci j) (hq : ∀ q : vw_C, vwCl[ci]? = some q → (∀ w ∈ u_ws q.1 q.2.1 q.2.2, w ∈ eTb)) (hk : k < eN) (hs : eSh k = .inr (ci, N, fd)) (hj : j < N)
    (kk : ∀ (H : Heap) (locs : List Loc) (la : Array Slot), va_P B.1 vwCl (eW B σ) H → va_D A (eW B σ) → va_S A (xS X).heap H locs → eLv B.2.2 la nL ls → eWm X H locs kc ks Q (F0 (xM X) nx la (eF B.2.2 σ k j (fd j) :: st.map (eV B.2.2)))) : WW X B A nL kc ks Q σ pc ls (.ref k :: st) := by
  subst hn
  intro H locs la hP hD hS hl
  obtain ⟨⟨C0, T, N0⟩, h1, h2, h3, h4⟩ := f
  have hat := eW_at B σ hk
  rw [eC_o hs] at hat
  refine va_get (D := B.1) (cl := vwCl) (C := C0) (T := T) (N := N0) (ref := C0) C.1 C.2.1 C.2.2.2.2.1 (hq _ h1) C.2.2.2.1 C.2.2.2.2.2.1 hP k hat h1 j h2 (C.2.2.2.2.1 _ h4) (fun x hx => by have h3' : (T j).1 = C0 := h3; rw [← h3']; exact hx) ?_ d (kk H locs la hP hD hS hl)
  simp [hj]
theorem ww_geti {idx ci j k N : Nat} {fd : Nat → Nat × Nat} (C : CX X B A R own cc nL kc ks) (d : decode cc pc = .ok (.getfield idx, 3)) (hn : pc + 3 = nx) (f : eFl own idx ci j) (hq : ∀ q : vw_C, vwCl[ci]? = some q → (∀ w ∈ u_ws q.1 q.2.1 q.2.2, w ∈ eTb)) (hk : Nat.blt k eN = true) (hs : eSh k = .inr (ci, N, fd)) (hj : Nat.blt j N = true) (hf : (fd j).1 = 0)
    (kk : WW X B A nL kc ks Q σ nx ls (.int (σ.1 k j) :: st)) : WW X B A nL kc ks Q σ pc ls (.ref k :: st) := by
  refine ww_get C d hn f hq (Nat.blt_eq.mp hk) hs (Nat.blt_eq.mp hj) (fun H locs la hP hD hS hl => ?_)
  have := kk H locs la hP hD hS hl
  unfold eF
  rw [hf]
  exact this
theorem ww_getl {idx ci j k N i : Nat} {fd : Nat → Nat × Nat} (C : CX X B A R own cc nL kc ks) (d : decode cc pc = .ok (.getfield idx, 3)) (hn : pc + 3 = nx) (f : eFl own idx ci j) (hq : ∀ q : vw_C, vwCl[ci]? = some q → (∀ w ∈ u_ws q.1 q.2.1 q.2.2, w ∈ eTb)) (hk : Nat.blt k eN = true) (hs : eSh k = .inr (ci, N, fd)) (hj : Nat.blt j N = true) (hf : fd j = (1, i))
    (kk : WW X B A nL kc ks Q σ nx ls (.long (σ.2 i) :: st)) : WW X B A nL kc ks Q σ pc ls (.ref k :: st) := by
  refine ww_get C d hn f hq (Nat.blt_eq.mp hk) hs (Nat.blt_eq.mp hj) (fun H locs la hP hD hS hl => ?_)
  have := kk H locs la hP hD hS hl
  unfold eF
  rw [hf]
  exact this
theorem ww_getr {idx ci j k N t : Nat} {fd : Nat → Nat × Nat} (C : CX X B A R own cc nL kc ks) (d : decode cc pc = .ok (.getfield idx, 3)) (hn : pc + 3 = nx) (f : eFl own idx ci j) (hq : ∀ q : vw_C, vwCl[ci]? = some q → (∀ w ∈ u_ws q.1 q.2.1 q.2.2, w ∈ eTb)) (hk : Nat.blt k eN = true) (hs : eSh k = .inr (ci, N, fd)) (hj : Nat.blt j N = true) (hf : fd j = (2, t))
    (kk : WW X B A nL kc ks Q σ nx ls (.ref t :: st)) : WW X B A nL kc ks Q σ pc ls (.ref k :: st) := by
  refine ww_get C d hn f hq (Nat.blt_eq.mp hk) hs (Nat.blt_eq.mp hj) (fun H locs la hP hD hS hl => ?_)
  have := kk H locs la hP hD hS hl
  unfold eF
  rw [hf]
  exact this
theorem ww_puti {idx ci j k N : Nat} {fd : Nat → Nat × Nat} {x : Int32} {ty : Nat → FieldType} (C : CX X B A R own cc nL kc ks) (d : decode cc pc = .ok (.putfield idx, 3)) (hn : pc + 3 = nx) (f : eFl own idx ci j) (hc : eCl ci ty) (hw : ∀ q : vw_C, vwCl[ci]? = some q → (q.2.1 j).2.2.2 = false) (hk : Nat.blt k eN = true) (hs : eSh k = .inr (ci, N, fd)) (hj : Nat.blt j N = true) (hf : (fd j).1 = 0) (ht : ty j = .int)
    (kk : WW X B A nL kc ks Q (eU σ k j x) nx ls st) : WW X B A nL kc ks Q σ pc ls (.int x :: .ref k :: st) := by
  have hk := Nat.blt_eq.mp hk
  have hj := Nat.blt_eq.mp hj
  subst hn
  intro H locs la hP hD hS hl
  obtain ⟨⟨C0, T, N0⟩, h1, h2, h3, h4⟩ := f
  obtain ⟨q, g1, g2, g3, g4⟩ := hc
  have e : q = (C0, T, N0) := Option.some.inj (g1.symm.trans h1)
  subst e
  have hat := eW_at B σ hk
  rw [eC_o hs] at hat
  refine va_put (D := B.1) (cl := vwCl) (C := C0) (T := T) (N := N0) (ref := C0) (ty := .int) (v := .int x) C.1 C.2.1 C.2.2.2.2.1 g2 ty g3 g4 C.2.2.2.1 C.2.2.2.2.2.1 hP hD hS k hat h1 j h2 (C.2.2.2.2.1 _ h4) (fun x hx => by have h3' : (T j).1 = C0 := h3; rw [← h3']; exact hx) (hw _ h1) (by rw [← ht]; exact g3 j h2) rfl rfl (by simp [hj]) d (fun H1 locs1 hP hD hS => ?_)
  rw [eW_fld hs hf] at hP hD
  exact kk H1 locs1 la hP hD hS hl
theorem ww_putl {idx ci j k N i : Nat} {fd : Nat → Nat × Nat} {x : Int64} {ty : Nat → FieldType} (C : CX X B A R own cc nL kc ks) (d : decode cc pc = .ok (.putfield idx, 3)) (hn : pc + 3 = nx) (f : eFl own idx ci j) (hc : eCl ci ty) (hw : ∀ q : vw_C, vwCl[ci]? = some q → (q.2.1 j).2.2.2 = false) (hk : Nat.blt k eN = true) (hs : eSh k = .inr (ci, N, fd)) (hj : Nat.blt j N = true) (hf : fd j = (1, i)) (hu : ∀ j', (fd j').1 = 1 → (fd j').2 = i → j' = j) (hv : ∀ k' ci' N' fd', eSh k' = .inr (ci', N', fd') → ∀ j', j' < N' → (fd' j').1 = 1 → k' = k) (ht : ty j = .long)
    (kk : WW X B A nL kc ks Q (eL σ i x) nx ls st) : WW X B A nL kc ks Q σ pc ls (.long x :: .ref k :: st) := by
  have hk := Nat.blt_eq.mp hk
  have hj := Nat.blt_eq.mp hj
  subst hn
  intro H locs la hP hD hS hl
  obtain ⟨⟨C0, T, N0⟩, h1, h2, h3, h4⟩ := f
  obtain ⟨q, g1, g2, g3, g4⟩ := hc
  have e : q = (C0, T, N0) := Option.some.inj (g1.symm.trans h1)
  subst e
  have hat := eW_at B σ hk
  rw [eC_o hs] at hat
  refine va_put (D := B.1) (cl := vwCl) (C := C0) (T := T) (N := N0) (ref := C0) (ty := .long) (v := .long x) C.1 C.2.1 C.2.2.2.2.1 g2 ty g3 g4 C.2.2.2.1 C.2.2.2.2.2.1 hP hD hS k hat h1 j h2 (C.2.2.2.2.1 _ h4) (fun x hx => by have h3' : (T j).1 = C0 := h3; rw [← h3']; exact hx) (hw _ h1) (by rw [← ht]; exact g3 j h2) rfl rfl (by simp [hj]) d (fun H1 locs1 hP hD hS => ?_)
  rw [eW_fldL hs hf hu hv] at hP hD
  exact kk H1 locs1 la hP hD hS hl
theorem eW_arr {t n k : Nat} {g : Nat → Nat} (hk : k < eN) (hs : eSh k = .inl (t, n, g)) (ht : t ≠ 3) : (eW B σ)[k]? = some (B.2.2 k, .inl (B.2.1 t, n, .inl (σ.1 k))) := by
  rw [eW_at B σ hk, eC_a hs]
  unfold eA
  split
  · exact absurd rfl ht
  · rfl
theorem ww_iald {k n : Nat} {g : Nat → Nat} {i : Int32} (C : CX X B A R own cc nL kc ks) (d : decode cc pc = .ok (.iaload, 1)) (hn : pc + 1 = nx) (hk : Nat.blt k eN = true) (hs : eSh k = .inl (1, n, g)) (hi : vp_in i n) (kk : WW X B A nL kc ks Q σ nx ls (.int (σ.1 k i.toNatClampNeg) :: st)) : WW X B A nL kc ks Q σ pc ls (.int i :: .ref k :: st) := by
  subst hn
  intro H locs la hP hD hS hl
  exact va_iald C.1 C.2.1 C.2.2.2.2.2.1 hP k 1 (eW_arr (Nat.blt_eq.mp hk) hs (by decide)) rfl hi d (kk H locs la hP hD hS hl)
theorem ww_bald {k n : Nat} {g : Nat → Nat} {i : Int32} (C : CX X B A R own cc nL kc ks) (d : decode cc pc = .ok (.baload, 1)) (hn : pc + 1 = nx) (hk : Nat.blt k eN = true) (hs : eSh k = .inl (0, n, g)) (hi : vp_in i n) (kk : WW X B A nL kc ks Q σ nx ls (.int (σ.1 k i.toNatClampNeg) :: st)) : WW X B A nL kc ks Q σ pc ls (.int i :: .ref k :: st) := by
  subst hn
  intro H locs la hP hD hS hl
  exact va_bald C.1 C.2.1 C.2.2.2.2.2.1 hP k 0 (eW_arr (Nat.blt_eq.mp hk) hs (by decide)) rfl hi d (kk H locs la hP hD hS hl)
theorem ww_zald {k n : Nat} {g : Nat → Nat} {i : Int32} (C : CX X B A R own cc nL kc ks) (d : decode cc pc = .ok (.baload, 1)) (hn : pc + 1 = nx) (hk : Nat.blt k eN = true) (hs : eSh k = .inl (2, n, g)) (hi : vp_in i n) (kk : WW X B A nL kc ks Q σ nx ls (.int (σ.1 k i.toNatClampNeg) :: st)) : WW X B A nL kc ks Q σ pc ls (.int i :: .ref k :: st) := by
  subst hn
  intro H locs la hP hD hS hl
  exact va_zald C.1 C.2.1 C.2.2.2.2.2.1 hP k 2 (eW_arr (Nat.blt_eq.mp hk) hs (by decide)) rfl hi d (kk H locs la hP hD hS hl)
theorem ww_aald {k n : Nat} {g : Nat → Nat} {i : Int32} (C : CX X B A R own cc nL kc ks) (d : decode cc pc = .ok (.aaload, 1)) (hn : pc + 1 = nx) (hk : Nat.blt k eN = true) (hs : eSh k = .inl (3, n, g)) (hi : vp_in i n) (kk : WW X B A nL kc ks Q σ nx ls (.ref (g i.toNatClampNeg) :: st)) : WW X B A nL kc ks Q σ pc ls (.int i :: .ref k :: st) := by
  subst hn
  intro H locs la hP hD hS hl
  have hat := eW_at B σ (Nat.blt_eq.mp hk)
  rw [eC_a hs] at hat
  exact va_aldq C.1 C.2.1 C.2.2.2.2.2.1 hP k 3 (f := fun i => some (B.2.2 (g i))) hat rfl hi d (kk H locs la hP hD hS hl)
theorem ww_iast {k n : Nat} {g : Nat → Nat} {i x : Int32} (C : CX X B A R own cc nL kc ks) (d : decode cc pc = .ok (.iastore, 1)) (hn : pc + 1 = nx) (hk : Nat.blt k eN = true) (hs : eSh k = .inl (1, n, g)) (hi : vp_in i n) (kk : WW X B A nL kc ks Q (eU σ k i.toNatClampNeg x) nx ls st) : WW X B A nL kc ks Q σ pc ls (.int x :: .int i :: .ref k :: st) := by
  subst hn
  intro H locs la hP hD hS hl
  refine va_iast C.1 C.2.1 C.2.2.2.2.2.1 hP hD hS k 1 (eW_arr (Nat.blt_eq.mp hk) hs (by decide)) rfl hi d (fun H1 locs1 hP hD hS => ?_)
  rw [eW_row hs (by decide)] at hP hD
  exact kk H1 locs1 la hP hD hS hl
theorem ww_bast {k n : Nat} {g : Nat → Nat} {i x : Int32} (C : CX X B A R own cc nL kc ks) (d : decode cc pc = .ok (.bastore, 1)) (hn : pc + 1 = nx) (hk : Nat.blt k eN = true) (hs : eSh k = .inl (0, n, g)) (hi : vp_in i n) (kk : WW X B A nL kc ks Q (eU σ k i.toNatClampNeg (vp_nar .byte x)) nx ls st) : WW X B A nL kc ks Q σ pc ls (.int x :: .int i :: .ref k :: st) := by
  subst hn
  intro H locs la hP hD hS hl
  refine va_bast C.1 C.2.1 C.2.2.2.2.2.1 hP hD hS k 0 (eW_arr (Nat.blt_eq.mp hk) hs (by decide)) rfl hi d (fun H1 locs1 hP hD hS => ?_)
  rw [eW_row hs (by decide)] at hP hD
  exact kk H1 locs1 la hP hD hS hl
theorem ww_zast {k n : Nat} {g : Nat → Nat} {i x : Int32} (C : CX X B A R own cc nL kc ks) (d : decode cc pc = .ok (.bastore, 1)) (hn : pc + 1 = nx) (hk : Nat.blt k eN = true) (hs : eSh k = .inl (2, n, g)) (hi : vp_in i n) (kk : WW X B A nL kc ks Q (eU σ k i.toNatClampNeg (vp_nar .boolean x)) nx ls st) : WW X B A nL kc ks Q σ pc ls (.int x :: .int i :: .ref k :: st) := by
  subst hn
  intro H locs la hP hD hS hl
  refine va_zast C.1 C.2.1 C.2.2.2.2.2.1 hP hD hS k 2 (eW_arr (Nat.blt_eq.mp hk) hs (by decide)) rfl hi d (fun H1 locs1 hP hD hS => ?_)
  rw [eW_row hs (by decide)] at hP hD
  exact kk H1 locs1 la hP hD hS hl
/-- System.arraycopy of ints -/
theorem ww_copy {k0 k1 n0 n1 index : Nat} {g0 g1 : Nat → Nat} {sp dp n : Int32} (C : CX X B A R own cc nL kc ks) (d : decode cc pc = .ok (.invokestatic index, 3)) (hn : pc + 3 = nx) (hw : Cond.methodLink own index arraycopyName ∈ eTb) (hw1 : Cond.native arraycopyName ∈ eTb) (hw2 : Cond.static arraycopyName ∈ eTb) (hw3 : Cond.initialized "java/lang/System" ∈ eTb)
    (hk0 : Nat.blt k0 eN = true) (hk1 : Nat.blt k1 eN = true) (hs0 : eSh k0 = .inl (1, n0, g0)) (hs1 : eSh k1 = .inl (1, n1, g1)) (h1 : ¬ sp < 0) (h2 : ¬ dp < 0) (h3 : ¬ n < 0) (h4 : sp.toNatClampNeg + n.toNatClampNeg ≤ n0) (h5 : dp.toNatClampNeg + n.toNatClampNeg ≤ n1) (hf : 1 ≤ R.frames) (hl0 : 8 + (nativeFrameWords "java/lang/System" "arraycopy" 5 + 11) ≤ R.locals) (hst : (st.map fun v => v.category).sum ≤ 8)
    (kk : WW X B A nL kc ks Q (eR σ k1 (va_cpy (σ.1 k0) (σ.1 k1) sp.toNatClampNeg dp.toNatClampNeg n.toNatClampNeg)) nx ls st) : WW X B A nL kc ks Q σ pc ls (.int n :: .int dp :: .ref k1 :: .int sp :: .ref k0 :: st) := by
  subst hn
  intro H locs la hP hD hS hl
  have hcat : ((st.map (eV B.2.2)).map fun v => v.category).sum = (st.map fun v => v.category).sum := by
    rw [List.map_map]
    congr 1
    apply List.map_congr_left
    intro v _
    exact eV_cat _ v
  refine va_copyi C.1 C.2.1 (C.2.2.1.trans hl.1.symm) C.2.2.2.1 (C.2.2.2.2.1 _ hw) (C.2.2.2.2.1 _ hw1) (C.2.2.2.2.1 _ hw2) (C.2.2.2.2.1 _ hw3) C.2.2.2.2.2.1 hP hD hS k0 k1 1 1 (ty := .int) (eW_arr (Nat.blt_eq.mp hk0) hs0 (by decide)) (eW_arr (Nat.blt_eq.mp hk1) hs1 (by decide)) rfl rfl rfl h1 h2 h3 h4 h5 (fun i _ => rfl) (by rw [C.2.2.2.2.2.2.2.2.2.2]; exact hf) (by rw [C.2.2.2.2.2.2.2.2.2.2, hcat]; omega) d (fun H1 locs1 hP hD hS => ?_)
  rw [eW_row hs1 (by decide)] at hP hD
  exact kk H1 locs1 la hP hD hS hl
theorem eCat (ad : Nat → Nat) (st : List Value) : ((st.map (eV ad)).map fun v => v.category).sum = (st.map fun v => v.category).sum := by
  rw [List.map_map]
  congr 1
  apply List.map_congr_left
  intro v _
  exact eV_cat _ v
/-- Math.max, min, abs -/
theorem ww_max {index : Nat} {x y : Int32} (C : CX X B A R own cc nL kc ks) (d : decode cc pc = .ok (.invokestatic index, 3)) (hn : pc + 3 = nx) (hw : Cond.methodLink own index Lib.Math.max.name ∈ eTb) (hw1 : Cond.static Lib.Math.max.name ∈ eTb) (hw2 : Cond.initialized "java/lang/Math" ∈ eTb) (hw3 : Cond.code Lib.Math.max.name Lib.Math.max.code 2 (some .int) ∈ eTb) (hf : 1 ≤ R.frames) (hl0 : 8 + 13 ≤ R.locals) (hst : (st.map fun v => v.category).sum ≤ 8)
    (kk : WW X B A nL kc ks Q σ nx ls (.int (if x < y then y else x) :: st)) : WW X B A nL kc ks Q σ pc ls (.int y :: .int x :: st) := by
  subst hn
  intro H locs la hP hD hS hl
  exact va_mmax C.1 C.2.1 (C.2.2.1.trans hl.1.symm) C.2.2.2.1 (C.2.2.2.2.1 _ hw) (C.2.2.2.2.1 _ hw1) (C.2.2.2.2.1 _ hw2) (C.2.2.2.2.1 _ hw3) (by rw [C.2.2.2.2.2.2.2.2.2.2]; exact hf) (by rw [C.2.2.2.2.2.2.2.2.2.2, eCat]; omega) (by rw [C.2.2.2.2.2.2.2.2.2.2]; exact C.2.2.2.2.2.2.2.2.1) (by rw [C.2.2.2.2.2.2.2.2.2.2]; exact C.2.2.2.2.2.2.2.2.2.1) d (kk H locs la hP hD hS hl)
theorem ww_min {index : Nat} {x y : Int32} (C : CX X B A R own cc nL kc ks) (d : decode cc pc = .ok (.invokestatic index, 3)) (hn : pc + 3 = nx) (hw : Cond.methodLink own index Lib.Math.min.name ∈ eTb) (hw1 : Cond.static Lib.Math.min.name ∈ eTb) (hw2 : Cond.initialized "java/lang/Math" ∈ eTb) (hw3 : Cond.code Lib.Math.min.name Lib.Math.min.code 2 (some .int) ∈ eTb) (hf : 1 ≤ R.frames) (hl0 : 8 + 13 ≤ R.locals) (hst : (st.map fun v => v.category).sum ≤ 8)
    (kk : WW X B A nL kc ks Q σ nx ls (.int (if y < x then y else x) :: st)) : WW X B A nL kc ks Q σ pc ls (.int y :: .int x :: st) := by
  subst hn
  intro H locs la hP hD hS hl
  exact va_mmin C.1 C.2.1 (C.2.2.1.trans hl.1.symm) C.2.2.2.1 (C.2.2.2.2.1 _ hw) (C.2.2.2.2.1 _ hw1) (C.2.2.2.2.1 _ hw2) (C.2.2.2.2.1 _ hw3) (by rw [C.2.2.2.2.2.2.2.2.2.2]; exact hf) (by rw [C.2.2.2.2.2.2.2.2.2.2, eCat]; omega) (by rw [C.2.2.2.2.2.2.2.2.2.2]; exact C.2.2.2.2.2.2.2.2.1) (by rw [C.2.2.2.2.2.2.2.2.2.2]; exact C.2.2.2.2.2.2.2.2.2.1) d (kk H locs la hP hD hS hl)
theorem ww_abs {index : Nat} {x : Int32} (C : CX X B A R own cc nL kc ks) (d : decode cc pc = .ok (.invokestatic index, 3)) (hn : pc + 3 = nx) (hw : Cond.methodLink own index Lib.Math.abs.name ∈ eTb) (hw1 : Cond.static Lib.Math.abs.name ∈ eTb) (hw2 : Cond.initialized "java/lang/Math" ∈ eTb) (hw3 : Cond.code Lib.Math.abs.name Lib.Math.abs.code 1 (some .int) ∈ eTb) (hf : 1 ≤ R.frames) (hl0 : 8 + 13 ≤ R.locals) (hst : (st.map fun v => v.category).sum ≤ 8)
    (kk : WW X B A nL kc ks Q σ nx ls (.int (if 0 ≤ x then x else 0 - x) :: st)) : WW X B A nL kc ks Q σ pc ls (.int x :: st) := by
  subst hn
  intro H locs la hP hD hS hl
  exact va_mabs C.1 C.2.1 (C.2.2.1.trans hl.1.symm) C.2.2.2.1 (C.2.2.2.2.1 _ hw) (C.2.2.2.2.1 _ hw1) (C.2.2.2.2.1 _ hw2) (C.2.2.2.2.1 _ hw3) (by rw [C.2.2.2.2.2.2.2.2.2.2]; exact hf) (by rw [C.2.2.2.2.2.2.2.2.2.2, eCat]; omega) (by rw [C.2.2.2.2.2.2.2.2.2.2]; exact C.2.2.2.2.2.2.2.2.1) (by rw [C.2.2.2.2.2.2.2.2.2.2]; exact C.2.2.2.2.2.2.2.2.2.1) d (kk H locs la hP hD hS hl)
end EF
end
section
/-! THE ENGINE, 4: methods, calls, returns -/
/-- a method: name, bytes, locals, answer, room -/
abbrev eM : Type := MethodName × ByteArray × Nat × Option FieldType × Room
def eP (B : eB) (av : List Value) (σ : eSt) (sz : Nat) : Array Value → State → Prop := va_Pc (av.map (eV B.2.2)) (fun U => U.heap.size = sz ∧ va_P B.1 vwCl (eW B σ) U.heap ∧ va_K B.1 vwCl (eT B.2.1) U ∧ va_D (fun _ => True) (eW B σ) ∧ eS B.2.2 (eAA B sz) U U.heap)
def eQ (B : eB) (r : Option Value) (σ' : eSt) (sz : Nat) : Array Value → State → Outcome → State → Prop := fun _ s0 oc t => (oc = .returned (r.map (eV B.2.2)) ∧ va_P B.1 vwCl (eW B σ') t.heap) ∧ va_F (eAA B sz) s0 t
/-- the method M, on these arguments and this store, answers r and leaves the store σ' -/
def Run (l : Launch) (B : eB) (M : eM) (av : List Value) (σ : eSt) (r : Option Value) (σ' : eSt) : Prop :=
  ∀ sz : Nat, Met l M.1 (Cond.code M.1 M.2.1 M.2.2.1 M.2.2.2.1 :: eTb) M.2.2.2.2 (eP B av σ sz) (eQ B r σ' sz) 0 0 (eAA B sz)
theorem eGoodIn {w0 : Cond} (h : w0 ∈ eTb) : GoodIn eTb (w0 :: eTb) := by
  intro w hw
  have hm : w ∈ eTb := by
    rcases List.mem_cons.mp hw with rfl | h1
    · exact h
    · exact h1
  exact ⟨hm, good_of_word (eGood hm)⟩
theorem eS_moved {ad : Nat → Nat} {A : Nat → Prop} {u U : State} {H : Heap} (hW : u.WarmedH U.vm) (h : eS ad A u H) : eS ad A U H :=
  ⟨vk_S.moved hW.alike h.1, ⟨h.2.1.1.warm hW, h.2.1.2.1.warm hW, h.2.1.2.2.1.warm hW, h.2.1.2.2.2.1.warm hW, h.2.1.2.2.2.2.warm hW⟩, va_Z.moved hW.alike h.2.2.1, va_Zq.moved hW.alike h.2.2.2.1, h.2.2.2.2.warmM hW⟩
theorem eS_same {ad : Nat → Nat} {A : Nat → Prop} {u U : State} {H : Heap} (hv : U.vm = u.vm) (h : eS ad A u H) : eS ad A U H := by
  have ha : u.vm.Alike U.vm := by rw [hv]; exact Vm.Alike.refl u.vm
  exact ⟨vk_S.moved ha h.1, ⟨h.2.1.1.same hv, h.2.1.2.1.same hv, h.2.1.2.2.1.same hv, h.2.1.2.2.2.1.same hv, h.2.1.2.2.2.2.same hv⟩, va_Z.moved ha h.2.2.1, va_Zq.moved ha h.2.2.2.1, h.2.2.2.2.same rfl hv.symm⟩
theorem eS_kept {ad : Nat → Nat} {A : Nat → Prop} {U : State} {H H1 : Heap} (h : eS ad A U H) (hq : ∀ a : Nat, a < H.size → ¬ A a → H1[a]? = H[a]?) : eS ad A U H1 :=
  ⟨h.1.kept hq, h.2.1, h.2.2.1.kept hq, h.2.2.2.1.kept hq, h.2.2.2.2⟩
theorem eS_narrow {ad : Nat → Nat} {A A' : Nat → Prop} {U : State} {H : Heap} (h : eS ad A U H) (hq : ∀ q, A' q → A q) : eS ad A' U H :=
  ⟨h.1.narrow hq, h.2.1, h.2.2.1.narrow hq, h.2.2.2.1.narrow hq, h.2.2.2.2⟩
theorem eP_blind {B : eB} {av : List Value} {σ : eSt} {sz : Nat} : FrameBlind (eP B av σ sz) := by
  intro a U g mk q
  obtain ⟨q0, q1, q2, q3, q4, q5⟩ := q
  exact ⟨q0, q1, q2, va_K.moved (u := U) (U := U.calling g mk a) (Vm.Alike.refl U.vm) q3, q4, eS_same (u := U) (U := U.calling g mk a) rfl q5⟩
/-- what a method's end is, seen from its frame -/
def eFin (X : eX) (B : eB) (r : Option Value) (σ' : eSt) : State → Prop := MQ (xBel X) (eQ B r σ' (xS X).heap.size) (xArgs X) (xS X) 0 0 (eAA B (xS X).heap.size)
def eArgs : List Value → List (Option Value)
  | [] => []
  | v :: r => if v.category = 2 then some v :: none :: eArgs r else some v :: eArgs r
theorem eArgs_at (ad : Nat → Nat) : ∀ (av : List Value) (i0 i : Nat) (v : Value), (eArgs av)[i]? = some (some v) → (i0 + i, eV ad v) ∈ lv_args i0 (av.map (eV ad)) := by
  intro av
  induction av with
  | nil => intro i0 i v h; simp [eArgs] at h
  | cons w r ih =>
    intro i0 i v h
    simp only [List.map_cons, lv_args, eV_cat]
    by_cases hc : w.category = 2
    · simp only [eArgs, hc, if_true] at h ⊢
      match i, h with
      | 0, h =>
        have : w = v := by simpa using h
        subst this
        exact List.mem_cons_self
      | 1, h => simp at h
      | i + 2, h =>
        have h1 := ih (i0 + 2) i v (by simpa using h)
        rw [show i0 + (i + 2) = i0 + 2 + i by omega]
        exact List.mem_cons_of_mem _ h1
    · simp only [eArgs, hc, if_false] at h ⊢
      match i, h with
      | 0, h =>
        have : w = v := by simpa using h
        subst this
        exact List.mem_cons_self
      | i + 1, h =>
        have h1 := ih (i0 + 1) i v (by simpa using h)
        rw [show i0 + (i + 1) = i0 + 1 + i by omega]
        exact List.mem_cons_of_mem _ h1
theorem lg_sl_len (ad : Nat → Nat) (av : List Value) : (lg_sl (av.map (eV ad))).length = (eArgs av).length := by
  induction av with
  | nil => rfl
  | cons w r ih =>
    have : lg_sl ((w :: r).map (eV ad)) = (if w.category = 2 then [.val (eV ad w), .second] else [.val (eV ad w)]) ++ lg_sl (r.map (eV ad)) := by
      simp [lg_sl, eV_cat]
    rw [this, List.length_append, ih]
    by_cases hc : w.category = 2
    · simp [eArgs, hc]; omega
    · simp [eArgs, hc]; omega
/-- A METHOD is proved by its walk from 0 -/
theorem run_intro {l : Launch} {B : eB} {M : eM} {av : List Value} {σ : eSt} {r : Option Value} {σ' : eSt} {ls : List (Option Value)} (hy : plainName M.1.cls = true) (hc : M.2.2.2.2.cells = 0) (hs : M.2.2.2.2.slots = 0) (hls : eArgs av ++ List.replicate (M.2.2.1 - (eArgs av).length) none = ls) (hlen : (eArgs av).length ≤ M.2.2.1)
    (body : ∀ (X : eX) (A : Nat → Prop), CX X B A M.2.2.2.2 M.1.cls M.2.1 M.2.2.1 0 0 → xLa X = l → A = eAA B (xS X).heap.size → (xMeth X).sig.returnType = M.2.2.2.1 → (xMeth X).locks = false → WW X B A M.2.2.1 0 0 (eFin X B r σ') σ 0 ls []) : Run l B M av σ r σ' := by
  intro sz
  refine Met.ofW (cc := M.2.1) (maxL := M.2.2.1) (ret := M.2.2.2.1) hy rfl ?_
  intro p e s m args below meth c s₁ B0 hml hv
  obtain ⟨rfl, hsz, hP, hK, hD0, hSt⟩ := hv
  subst hsz
  have hts := atoms_spec (ws := Cond.code M.1 M.2.1 M.2.2.1 M.2.2.2.1 :: eTb) B0.pre
  have hown : s.vm.findClass M.1.cls = some m.cls := findClass_of_methodNamed B0.named
  have hD : va_D (eAA B s.heap.size) (eW B σ) := by
    have := hD0.self (sz := s.heap.size)
    rw [eW_Ae] at this
    exact this
  have hl := lv_entry (av.map (eV B.2.2)) (n := M.2.2.1) (by rw [lg_sl_len]; exact hlen)
  have hlv : eLv B.2.2 ((lg_sl (av.map (eV B.2.2)) ++ List.replicate (M.2.2.1 - (lg_sl (av.map (eV B.2.2))).length) Slot.unset).toArray) M.2.2.1 ls := by
    refine ⟨hl.1, hl.2.1, fun i v hi => ?_⟩
    subst hls
    have hi2 : (eArgs av)[i]? = some (some v) := by
      by_cases h : i < (eArgs av).length
      · rwa [List.getElem?_append_left h] at hi
      · rw [List.getElem?_append_right (by omega), List.getElem?_replicate] at hi
        split at hi
        · simp at hi
        · cases hi
    have h1 := eArgs_at B.2.2 av 0 i v hi2
    rw [Nat.zero_add] at h1
    exact hl.2.2 _ h1
  rw [lg_entry_eq]
  exact body (p, l, e, (headSpec (Cond.code M.1 M.2.1 M.2.2.1 M.2.2.2.1 :: eTb) M.2.2.2.2).room, s, m, (av.map (eV B.2.2)).toArray, below, meth, c) (eAA B s.heap.size)
    ⟨B0.exec, B0.bytes, hml, hown, fun w hw => hts w (List.mem_cons_of_mem _ hw), hK, fun q hq => Or.inr hq, hSt, Nat.zero_le _, Nat.zero_le _, rfl⟩ rfl rfl B0.returns B0.notSynchronized s.heap [] _ hP hD va_S.rf hlv
section ER
variable {X : eX} {B : eB} {A : Nat → Prop} {R : Room} {own : String} {cc : ByteArray} {nL kc ks : Nat} {Q : State → Prop} {σ τ : eSt} {pc nx : Nat} {ls : List (Option Value)} {st : List Value} {r : Option Value}
theorem ww_iret {v : Int32} (C : CX X B A R own cc nL 0 0) (hA : A = eAA B (xS X).heap.size) (hr : (xMeth X).sig.returnType = some .int) (hk : (xMeth X).locks = false) (d : decode cc pc = .ok (.ireturn, 1)) (e : r = some (.int v)) (e2 : τ = σ) : WW X B A nL 0 0 (eFin X B r τ) σ pc ls [.int v] := by
  subst e; subst e2; subst hA
  intro H locs la hP hD hS hl
  exact W.iret (v := v) C.1 C.2.1 hr (fun t ht hW => ⟨⟨rfl, by rw [ht]; exact hP⟩, hS.F ht⟩) hS.2.2 d hk
theorem ww_zret {v : Int32} (C : CX X B A R own cc nL 0 0) (hA : A = eAA B (xS X).heap.size) (hr : (xMeth X).sig.returnType = some .boolean) (hk : (xMeth X).locks = false) (d : decode cc pc = .ok (.ireturn, 1)) (hn : narrow .boolean (.int v) = .int v) (e : r = some (.int v)) (e2 : τ = σ) : WW X B A nL 0 0 (eFin X B r τ) σ pc ls [.int v] := by
  subst e; subst e2; subst hA
  intro H locs la hP hD hS hl
  exact W.zret (v := v) C.1 C.2.1 hr hn (fun t ht hW => ⟨⟨rfl, by rw [ht]; exact hP⟩, hS.F ht⟩) hS.2.2 d hk
theorem ww_lret {v : Int64} (C : CX X B A R own cc nL 0 0) (hA : A = eAA B (xS X).heap.size) (hr : (xMeth X).sig.returnType = some .long) (hk : (xMeth X).locks = false) (d : decode cc pc = .ok (.lreturn, 1)) (e : r = some (.long v)) (e2 : τ = σ) : WW X B A nL 0 0 (eFin X B r τ) σ pc ls [.long v] := by
  subst e; subst e2; subst hA
  intro H locs la hP hD hS hl
  exact W.lret (v := v) C.1 C.2.1 hr (fun t ht hW => ⟨⟨rfl, by rw [ht]; exact hP⟩, hS.F ht⟩) hS.2.2 d hk
theorem ww_vret (C : CX X B A R own cc nL 0 0) (hA : A = eAA B (xS X).heap.size) (hr : (xMeth X).sig.returnType = none) (hk : (xMeth X).locks = false) (d : decode cc pc = .ok (.return_, 1)) (e : r = none) (e2 : τ = σ) : WW X B A nL 0 0 (eFin X B r τ) σ pc ls [] := by
  subst e; subst e2; subst hA
  intro H locs la hP hD hS hl
  exact W.vret C.1 C.2.1 hr (fun t ht hW => ⟨⟨rfl, by rw [ht]; exact hP⟩, hS.F ht⟩) hS.2.2 d hk
/-- the cells that a callee may change are the caller's -/
theorem eAA_sub {H : Heap} {locs : List Loc} (C : CX X B A R own cc nL kc ks) (hD : va_D A (eW B σ)) (hS : va_S A (xS X).heap H locs) : ∀ q, eAA B H.size q → A q := by
  rintro q (⟨k, hk, rfl⟩ | h)
  · exact hD.2 k _ (eW_at B σ hk)
  · exact C.2.2.2.2.2.2.1 q (Nat.le_trans hS.1 h)
/-- the callee's start, from the caller's -/
theorem eP_at {H : Heap} {locs : List Loc} {av : List Value} (C : CX X B A R own cc nL kc ks) (hP : va_P B.1 vwCl (eW B σ) H) (hD : va_D A (eW B σ)) (hS : va_S A (xS X).heap H locs) : ∀ U : State, U.heap = H → (xS X).WarmedH U.vm → eP B av σ H.size (av.map (eV B.2.2)).toArray U := by
  intro U hU hW
  refine ⟨rfl, by rw [hU], by rw [hU]; exact hP, va_K.moved hW.alike C.2.2.2.2.2.1, hD.weaken (fun _ _ _ _ => trivial), ?_⟩
  rw [hU]
  exact eS_narrow (eS_kept (eS_moved hW C.2.2.2.2.2.2.2.1) hS.2.1) (eAA_sub C hD hS)
/-- behind a call -/
theorem ww_back {av : List Value} {H : Heap} {locs : List Loc} {la : Array Slot} {st0 : List Value} (C : CX X B A R own cc nL kc ks) (hD : va_D A (eW B σ)) (hS : va_S A (xS X).heap H locs) (hl : eLv B.2.2 la nL ls)
    (hr : va_Run (xP X) (xLa X) (xE X) (xR X) (xS X) (xM X) (xArgs X) (xBel X) (xMeth X) (xC X) H locs kc ks 0 0 (F0 (xM X) pc la st0) (st.map (eV B.2.2)) (eQ B r τ H.size (av.map (eV B.2.2)).toArray) (eAA B H.size))
    (k : WW X B A nL kc ks Q τ (pc + 3) ls (r.toList ++ st)) : eWm X H locs kc ks Q (F0 (xM X) pc la st0) := by
  intro T hT X0
  obtain ⟨v, s0, t, T', L, h0, X', hL, e1, e2, ⟨⟨hv, hP'⟩, hz, hk⟩, hst⟩ := hr T hT X0
  have hsub := eAA_sub C hD hS
  have hv2 : v = r.map (eV B.2.2) := by
    have := hv
    simp only [Outcome.returned.injEq] at this
    exact this
  subst hv2
  rw [h0] at hz hk
  have hst2 : (r.map (eV B.2.2)).toList ++ st.map (eV B.2.2) = (r.toList ++ st).map (eV B.2.2) := by
    cases r <;> simp
  have hS' : va_S A (xS X).heap T'.heap (locs ++ L) := ⟨Nat.le_trans hS.1 (by rw [e1]; exact hz), fun q g1 g2 => by
      rw [e1, hk q (Nat.lt_of_lt_of_le g1 hS.1) (fun z => g2 (hsub q z))]
      exact hS.2.1 q g1 g2, fun q hq => by
      rcases List.mem_append.mp hq with h | h
      · exact hS.2.2 q h
      · exact hsub _ (hL q h)⟩
  obtain ⟨t2, a1, b1⟩ := k T'.heap (locs ++ L) la (by rw [e1]; exact hP') (eW_D hD) hS' hl T' rfl X'
  refine ⟨t2, hst t2 ?_, b1⟩
  simp only at a1 ⊢
  rw [hst2]
  exact a1
def eCalV (own : String) (idx n : Nat) (M : eM) : Prop := (Cond.methodLink own idx M.1 ∈ eTb ∧ Cond.instanceMethod M.1 ∈ eTb ∧ Cond.selects M.1.cls M.1 M.1 ∈ eTb ∧ Cond.initialized M.1.cls ∈ eTb ∧ Cond.code M.1 M.2.1 M.2.2.1 M.2.2.2.1 ∈ eTb) ∧ M.2.2.2.2.cells = 0 ∧ M.2.2.2.2.slots = 0 ∧ M.1.cls ≠ "java/lang/invoke/MethodHandle" ∧ M.1.cls ≠ "java/lang/invoke/VarHandle" ∧ (parseMethodDescriptor M.1.desc).map (fun d => d.parameters.length) = some n
def eCalS (own : String) (idx n : Nat) (M : eM) : Prop := (Cond.methodLink own idx M.1 ∈ eTb ∧ Cond.static M.1 ∈ eTb ∧ Cond.initialized M.1.cls ∈ eTb ∧ Cond.code M.1 M.2.1 M.2.2.1 M.2.2.2.1 ∈ eTb) ∧ M.2.2.2.2.cells = 0 ∧ M.2.2.2.2.slots = 0 ∧ M.1.cls ≠ "java/lang/invoke/MethodHandle" ∧ M.1.cls ≠ "java/lang/invoke/VarHandle" ∧ (parseMethodDescriptor M.1.desc).map (fun d => d.parameters.length) = some n
def eCalN (n : Nat) (M : eM) : Prop := (Cond.static M.1 ∈ eTb ∧ Cond.initialized M.1.cls ∈ eTb ∧ Cond.code M.1 M.2.1 M.2.2.1 M.2.2.2.1 ∈ eTb) ∧ M.2.2.2.2.cells = 0 ∧ M.2.2.2.2.slots = 0 ∧ M.1.cls ≠ "java/lang/invoke/MethodHandle" ∧ M.1.cls ≠ "java/lang/invoke/VarHandle" ∧ (parseMethodDescriptor M.1.desc).map (fun d => d.parameters.length) = some n
def eRm (R : Room) (M : eM) : Prop := M.2.2.2.2.frames + 1 ≤ R.frames ∧ 8 + (M.2.2.1 + 11) + M.2.2.2.2.locals ≤ R.locals
theorem ww_callV {M : eM} {idx n k ci N : Nat} {fd : Nat → Nat × Nat} {As : List Value} {q : vw_C} (C : CX X B A R own cc nL kc ks) (d : decode cc pc = .ok (.invokevirtual idx, 3)) (hn : pc + 3 = nx) (w : eCalV own idx n M) (hq : vwCl[ci]? = some q) (hq1 : q.1 = M.1.cls) (hR : eRm R M) (hk : Nat.blt k eN = true) (hs : eSh k = .inr (ci, N, fd)) (hlen : As.length = n) (hst : (st.map fun v => v.category).sum ≤ 8)
    (hrun : Run (xLa X) B M (.ref k :: As) σ r τ) (kk : WW X B A nL kc ks Q τ nx ls (r.toList ++ st)) : WW X B A nL kc ks Q σ pc ls (As.reverse ++ .ref k :: st) := by
  subst hn
  have hk := Nat.blt_eq.mp hk
  intro H locs la hP hD hS hl
  obtain ⟨⟨w1, w2, w3, w4, w5⟩, m1, m2, m3, m4, m5⟩ := w
  have hts := C.2.2.2.2.1
  have hat := eW_at B σ hk
  rw [eC_o hs] at hat
  have hrv := va_recv C.2.2.2.2.2.1 hP hq hat
  rw [hq1] at hrv
  refine ww_back (av := .ref k :: As) C hD hS hl (va_runV (As := As.map (eV B.2.2)) (C := M.1.cls) (bytes := M.2.1) (maxL := M.2.2.1) (ret := M.2.2.2.1) (n := n) (Ts := eTb) ⟨C.1, C.2.1, C.2.2.1, C.2.2.2.1, hts⟩ (hrun H.size) (cwV n hts ?_ rfl m1 m2 ⟨rfl, m3, m4, m5⟩ (by rw [C.2.2.2.2.2.2.2.2.2.2]; exact hR)) ⟨eP_blind, hrv, eP_at C hP hD hS⟩ rfl (by rw [List.length_map]; exact hlen) hl.1 ?_ ?_ d (by rw [C.2.2.2.2.2.2.2.2.2.2]; exact ⟨C.2.2.2.2.2.2.2.2.1, C.2.2.2.2.2.2.2.2.2.1⟩)) kk
  · have hG := eGoodIn w5
    intro v hv
    rcases List.mem_append.mp hv with h | h
    · have hm : v ∈ eTb := by
        simp only [List.mem_cons, List.not_mem_nil, or_false] at h
        rcases h with rfl | rfl | rfl | rfl
        · exact w1
        · exact w2
        · exact w3
        · exact w4
      exact ⟨hm, good_of_word (eGood hm)⟩
    · exact hG v h
  · simp [List.map_reverse, eV]
  · exact lv_room (by rw [eCat]; exact hst)
theorem ww_callS {M : eM} {idx n : Nat} {As : List Value} (C : CX X B A R own cc nL kc ks) (d : decode cc pc = .ok (.invokestatic idx, 3)) (hn : pc + 3 = nx) (w : eCalS own idx n M) (hR : eRm R M) (hlen : As.length = n) (hst : (st.map fun v => v.category).sum ≤ 8)
    (hrun : Run (xLa X) B M As σ r τ) (kk : WW X B A nL kc ks Q τ nx ls (r.toList ++ st)) : WW X B A nL kc ks Q σ pc ls (As.reverse ++ st) := by
  subst hn
  intro H locs la hP hD hS hl
  obtain ⟨⟨w1, w2, w3, w5⟩, m1, m2, m3, m4, m5⟩ := w
  have hts := C.2.2.2.2.1
  refine ww_back (av := As) C hD hS hl (va_runS (As := As.map (eV B.2.2)) (bytes := M.2.1) (maxL := M.2.2.1) (ret := M.2.2.2.1) (n := n) (Ts := eTb) ⟨C.1, C.2.1, C.2.2.1, C.2.2.2.1, hts⟩ (hrun H.size) (va_cwS n hts ?_ rfl m1 m2 ⟨m3, m4, m5⟩ (by rw [C.2.2.2.2.2.2.2.2.2.2]; exact hR)) ⟨eP_blind, eP_at C hP hD hS⟩ rfl (by rw [List.length_map]; exact hlen) hl.1 ?_ ?_ d (by rw [C.2.2.2.2.2.2.2.2.2.2]; exact ⟨C.2.2.2.2.2.2.2.2.1, C.2.2.2.2.2.2.2.2.2.1⟩)) kk
  · have hG := eGoodIn w5
    intro v hv
    rcases List.mem_append.mp hv with h | h
    · have hm : v ∈ eTb := by
        simp only [List.mem_cons, List.not_mem_nil, or_false] at h
        rcases h with rfl | rfl | rfl
        · exact w1
        · exact w2
        · exact w3
      exact ⟨hm, good_of_word (eGood hm)⟩
    · exact hG v h
  · simp [List.map_reverse]
  · exact lv_room (by rw [eCat]; exact hst)
theorem ww_callN {M : eM} {idx n : Nat} {host : String} {As : List Value} (C : CX X B A R own cc nL kc ks) (d : decode cc pc = .ok (.invokestatic idx, 3)) (hn : pc + 3 = nx) (w0 : va_Nw (.methodLinkNest own idx M.1 host) (xS X)) (w : eCalN n M) (hR : eRm R M) (hlen : As.length = n) (hst : (st.map fun v => v.category).sum ≤ 8)
    (hrun : Run (xLa X) B M As σ r τ) (kk : WW X B A nL kc ks Q τ nx ls (r.toList ++ st)) : WW X B A nL kc ks Q σ pc ls (As.reverse ++ st) := by
  subst hn
  intro H locs la hP hD hS hl
  obtain ⟨⟨w2, w3, w5⟩, m1, m2, m3, m4, m5⟩ := w
  have hts := C.2.2.2.2.1
  refine ww_back (av := As) C hD hS hl (va_runSN (As := As.map (eV B.2.2)) (host := host) (bytes := M.2.1) (maxL := M.2.2.1) (ret := M.2.2.2.1) (n := n) (Ts := eTb) ⟨C.1, C.2.1, C.2.2.1, C.2.2.2.1, hts⟩ (hrun H.size) ⟨va_cnB n hts (eGoodIn w5) rfl m1 m2 w0 (hts _ w3) ⟨m3, m4, m5⟩ (by rw [C.2.2.2.2.2.2.2.2.2.2]; exact hR), hts _ w2, trivial⟩ ⟨eP_blind, eP_at C hP hD hS⟩ rfl (by rw [List.length_map]; exact hlen) hl.1 ?_ ?_ d (by rw [C.2.2.2.2.2.2.2.2.2.2]; exact ⟨C.2.2.2.2.2.2.2.2.1, C.2.2.2.2.2.2.2.2.2.1⟩)) kk
  · simp [List.map_reverse]
  · exact lv_room (by rw [eCat]; exact hst)

theorem ww_cV01 {v : Value} {M : eM} {idx k ci N : Nat} {fd : Nat → Nat × Nat} {q : vw_C} (C : CX X B A R own cc nL kc ks) (d : decode cc pc = .ok (.invokevirtual idx, 3)) (hn : pc + 3 = nx) (w : eCalV own idx 0 M) (hq : vwCl[ci]? = some q) (hq1 : q.1 = M.1.cls) (hR : eRm R M) (hk : Nat.blt k eN = true) (hs : eSh k = .inr (ci, N, fd)) (hst : (st.map fun v => v.category).sum ≤ 8) (hrun : Run (xLa X) B M (.ref k :: []) σ (some v) τ) (kk : WW X B A nL kc ks Q τ nx ls (v :: st)) : WW X B A nL kc ks Q σ pc ls (.ref k :: st) := ww_callV (As := []) C d hn w hq hq1 hR hk hs rfl hst hrun kk
theorem ww_cV00 {M : eM} {idx k ci N : Nat} {fd : Nat → Nat × Nat} {q : vw_C} (C : CX X B A R own cc nL kc ks) (d : decode cc pc = .ok (.invokevirtual idx, 3)) (hn : pc + 3 = nx) (w : eCalV own idx 0 M) (hq : vwCl[ci]? = some q) (hq1 : q.1 = M.1.cls) (hR : eRm R M) (hk : Nat.blt k eN = true) (hs : eSh k = .inr (ci, N, fd)) (hst : (st.map fun v => v.category).sum ≤ 8) (hrun : Run (xLa X) B M (.ref k :: []) σ (none) τ) (kk : WW X B A nL kc ks Q τ nx ls st) : WW X B A nL kc ks Q σ pc ls (.ref k :: st) := ww_callV (As := []) C d hn w hq hq1 hR hk hs rfl hst hrun kk
theorem ww_cV11 {a1 : Value} {v : Value} {M : eM} {idx k ci N : Nat} {fd : Nat → Nat × Nat} {q : vw_C} (C : CX X B A R own cc nL kc ks) (d : decode cc pc = .ok (.invokevirtual idx, 3)) (hn : pc + 3 = nx) (w : eCalV own idx 1 M) (hq : vwCl[ci]? = some q) (hq1 : q.1 = M.1.cls) (hR : eRm R M) (hk : Nat.blt k eN = true) (hs : eSh k = .inr (ci, N, fd)) (hst : (st.map fun v => v.category).sum ≤ 8) (hrun : Run (xLa X) B M (.ref k :: [a1]) σ (some v) τ) (kk : WW X B A nL kc ks Q τ nx ls (v :: st)) : WW X B A nL kc ks Q σ pc ls (a1 :: .ref k :: st) := ww_callV (As := [a1]) C d hn w hq hq1 hR hk hs rfl hst hrun kk
theorem ww_cS11 {a1 : Value} {v : Value} {M : eM} {idx : Nat} (C : CX X B A R own cc nL kc ks) (d : decode cc pc = .ok (.invokestatic idx, 3)) (hn : pc + 3 = nx) (w : eCalS own idx 1 M) (hR : eRm R M) (hst : (st.map fun v => v.category).sum ≤ 8) (hrun : Run (xLa X) B M [a1] σ (some v) τ) (kk : WW X B A nL kc ks Q τ nx ls (v :: st)) : WW X B A nL kc ks Q σ pc ls (a1 :: st) := ww_callS (As := [a1]) C d hn w hR rfl hst hrun kk
theorem ww_cV10 {a1 : Value} {M : eM} {idx k ci N : Nat} {fd : Nat → Nat × Nat} {q : vw_C} (C : CX X B A R own cc nL kc ks) (d : decode cc pc = .ok (.invokevirtual idx, 3)) (hn : pc + 3 = nx) (w : eCalV own idx 1 M) (hq : vwCl[ci]? = some q) (hq1 : q.1 = M.1.cls) (hR : eRm R M) (hk : Nat.blt k eN = true) (hs : eSh k = .inr (ci, N, fd)) (hst : (st.map fun v => v.category).sum ≤ 8) (hrun : Run (xLa X) B M (.ref k :: [a1]) σ (none) τ) (kk : WW X B A nL kc ks Q τ nx ls st) : WW X B A nL kc ks Q σ pc ls (a1 :: .ref k :: st) := ww_callV (As := [a1]) C d hn w hq hq1 hR hk hs rfl hst hrun kk
theorem ww_cS10 {a1 : Value} {M : eM} {idx : Nat} (C : CX X B A R own cc nL kc ks) (d : decode cc pc = .ok (.invokestatic idx, 3)) (hn : pc + 3 = nx) (w : eCalS own idx 1 M) (hR : eRm R M) (hst : (st.map fun v => v.category).sum ≤ 8) (hrun : Run (xLa X) B M [a1] σ (none) τ) (kk : WW X B A nL kc ks Q τ nx ls st) : WW X B A nL kc ks Q σ pc ls (a1 :: st) := ww_callS (As := [a1]) C d hn w hR rfl hst hrun kk
theorem ww_cV21 {a1 a2 : Value} {v : Value} {M : eM} {idx k ci N : Nat} {fd : Nat → Nat × Nat} {q : vw_C} (C : CX X B A R own cc nL kc ks) (d : decode cc pc = .ok (.invokevirtual idx, 3)) (hn : pc + 3 = nx) (w : eCalV own idx 2 M) (hq : vwCl[ci]? = some q) (hq1 : q.1 = M.1.cls) (hR : eRm R M) (hk : Nat.blt k eN = true) (hs : eSh k = .inr (ci, N, fd)) (hst : (st.map fun v => v.category).sum ≤ 8) (hrun : Run (xLa X) B M (.ref k :: [a1, a2]) σ (some v) τ) (kk : WW X B A nL kc ks Q τ nx ls (v :: st)) : WW X B A nL kc ks Q σ pc ls (a2 :: a1 :: .ref k :: st) := ww_callV (As := [a1, a2]) C d hn w hq hq1 hR hk hs rfl hst hrun kk
theorem ww_cS21 {a1 a2 : Value} {v : Value} {M : eM} {idx : Nat} (C : CX X B A R own cc nL kc ks) (d : decode cc pc = .ok (.invokestatic idx, 3)) (hn : pc + 3 = nx) (w : eCalS own idx 2 M) (hR : eRm R M) (hst : (st.map fun v => v.category).sum ≤ 8) (hrun : Run (xLa X) B M [a1, a2] σ (some v) τ) (kk : WW X B A nL kc ks Q τ nx ls (v :: st)) : WW X B A nL kc ks Q σ pc ls (a2 :: a1 :: st) := ww_callS (As := [a1, a2]) C d hn w hR rfl hst hrun kk
theorem ww_cV20 {a1 a2 : Value} {M : eM} {idx k ci N : Nat} {fd : Nat → Nat × Nat} {q : vw_C} (C : CX X B A R own cc nL kc ks) (d : decode cc pc = .ok (.invokevirtual idx, 3)) (hn : pc + 3 = nx) (w : eCalV own idx 2 M) (hq : vwCl[ci]? = some q) (hq1 : q.1 = M.1.cls) (hR : eRm R M) (hk : Nat.blt k eN = true) (hs : eSh k = .inr (ci, N, fd)) (hst : (st.map fun v => v.category).sum ≤ 8) (hrun : Run (xLa X) B M (.ref k :: [a1, a2]) σ (none) τ) (kk : WW X B A nL kc ks Q τ nx ls st) : WW X B A nL kc ks Q σ pc ls (a2 :: a1 :: .ref k :: st) := ww_callV (As := [a1, a2]) C d hn w hq hq1 hR hk hs rfl hst hrun kk
theorem ww_cS20 {a1 a2 : Value} {M : eM} {idx : Nat} (C : CX X B A R own cc nL kc ks) (d : decode cc pc = .ok (.invokestatic idx, 3)) (hn : pc + 3 = nx) (w : eCalS own idx 2 M) (hR : eRm R M) (hst : (st.map fun v => v.category).sum ≤ 8) (hrun : Run (xLa X) B M [a1, a2] σ (none) τ) (kk : WW X B A nL kc ks Q τ nx ls st) : WW X B A nL kc ks Q σ pc ls (a2 :: a1 :: st) := ww_callS (As := [a1, a2]) C d hn w hR rfl hst hrun kk
theorem ww_cV31 {a1 a2 a3 : Value} {v : Value} {M : eM} {idx k ci N : Nat} {fd : Nat → Nat × Nat} {q : vw_C} (C : CX X B A R own cc nL kc ks) (d : decode cc pc = .ok (.invokevirtual idx, 3)) (hn : pc + 3 = nx) (w : eCalV own idx 3 M) (hq : vwCl[ci]? = some q) (hq1 : q.1 = M.1.cls) (hR : eRm R M) (hk : Nat.blt k eN = true) (hs : eSh k = .inr (ci, N, fd)) (hst : (st.map fun v => v.category).sum ≤ 8) (hrun : Run (xLa X) B M (.ref k :: [a1, a2, a3]) σ (some v) τ) (kk : WW X B A nL kc ks Q τ nx ls (v :: st)) : WW X B A nL kc ks Q σ pc ls (a3 :: a2 :: a1 :: .ref k :: st) := ww_callV (As := [a1, a2, a3]) C d hn w hq hq1 hR hk hs rfl hst hrun kk
theorem ww_cS31 {a1 a2 a3 : Value} {v : Value} {M : eM} {idx : Nat} (C : CX X B A R own cc nL kc ks) (d : decode cc pc = .ok (.invokestatic idx, 3)) (hn : pc + 3 = nx) (w : eCalS own idx 3 M) (hR : eRm R M) (hst : (st.map fun v => v.category).sum ≤ 8) (hrun : Run (xLa X) B M [a1, a2, a3] σ (some v) τ) (kk : WW X B A nL kc ks Q τ nx ls (v :: st)) : WW X B A nL kc ks Q σ pc ls (a3 :: a2 :: a1 :: st) := ww_callS (As := [a1, a2, a3]) C d hn w hR rfl hst hrun kk
theorem ww_cV30 {a1 a2 a3 : Value} {M : eM} {idx k ci N : Nat} {fd : Nat → Nat × Nat} {q : vw_C} (C : CX X B A R own cc nL kc ks) (d : decode cc pc = .ok (.invokevirtual idx, 3)) (hn : pc + 3 = nx) (w : eCalV own idx 3 M) (hq : vwCl[ci]? = some q) (hq1 : q.1 = M.1.cls) (hR : eRm R M) (hk : Nat.blt k eN = true) (hs : eSh k = .inr (ci, N, fd)) (hst : (st.map fun v => v.category).sum ≤ 8) (hrun : Run (xLa X) B M (.ref k :: [a1, a2, a3]) σ (none) τ) (kk : WW X B A nL kc ks Q τ nx ls st) : WW X B A nL kc ks Q σ pc ls (a3 :: a2 :: a1 :: .ref k :: st) := ww_callV (As := [a1, a2, a3]) C d hn w hq hq1 hR hk hs rfl hst hrun kk
theorem ww_cS30 {a1 a2 a3 : Value} {M : eM} {idx : Nat} (C : CX X B A R own cc nL kc ks) (d : decode cc pc = .ok (.invokestatic idx, 3)) (hn : pc + 3 = nx) (w : eCalS own idx 3 M) (hR : eRm R M) (hst : (st.map fun v => v.category).sum ≤ 8) (hrun : Run (xLa X) B M [a1, a2, a3] σ (none) τ) (kk : WW X B A nL kc ks Q τ nx ls st) : WW X B A nL kc ks Q σ pc ls (a3 :: a2 :: a1 :: st) := ww_callS (As := [a1, a2, a3]) C d hn w hR rfl hst hrun kk
theorem ww_cV41 {a1 a2 a3 a4 : Value} {v : Value} {M : eM} {idx k ci N : Nat} {fd : Nat → Nat × Nat} {q : vw_C} (C : CX X B A R own cc nL kc ks) (d : decode cc pc = .ok (.invokevirtual idx, 3)) (hn : pc + 3 = nx) (w : eCalV own idx 4 M) (hq : vwCl[ci]? = some q) (hq1 : q.1 = M.1.cls) (hR : eRm R M) (hk : Nat.blt k eN = true) (hs : eSh k = .inr (ci, N, fd)) (hst : (st.map fun v => v.category).sum ≤ 8) (hrun : Run (xLa X) B M (.ref k :: [a1, a2, a3, a4]) σ (some v) τ) (kk : WW X B A nL kc ks Q τ nx ls (v :: st)) : WW X B A nL kc ks Q σ pc ls (a4 :: a3 :: a2 :: a1 :: .ref k :: st) := ww_callV (As := [a1, a2, a3, a4]) C d hn w hq hq1 hR hk hs rfl hst hrun kk
theorem ww_cS41 {a1 a2 a3 a4 : Value} {v : Value} {M : eM} {idx : Nat} (C : CX X B A R own cc nL kc ks) (d : decode cc pc = .ok (.invokestatic idx, 3)) (hn : pc + 3 = nx) (w : eCalS own idx 4 M) (hR : eRm R M) (hst : (st.map fun v => v.category).sum ≤ 8) (hrun : Run (xLa X) B M [a1, a2, a3, a4] σ (some v) τ) (kk : WW X B A nL kc ks Q τ nx ls (v :: st)) : WW X B A nL kc ks Q σ pc ls (a4 :: a3 :: a2 :: a1 :: st) := ww_callS (As := [a1, a2, a3, a4]) C d hn w hR rfl hst hrun kk
theorem ww_cV40 {a1 a2 a3 a4 : Value} {M : eM} {idx k ci N : Nat} {fd : Nat → Nat × Nat} {q : vw_C} (C : CX X B A R own cc nL kc ks) (d : decode cc pc = .ok (.invokevirtual idx, 3)) (hn : pc + 3 = nx) (w : eCalV own idx 4 M) (hq : vwCl[ci]? = some q) (hq1 : q.1 = M.1.cls) (hR : eRm R M) (hk : Nat.blt k eN = true) (hs : eSh k = .inr (ci, N, fd)) (hst : (st.map fun v => v.category).sum ≤ 8) (hrun : Run (xLa X) B M (.ref k :: [a1, a2, a3, a4]) σ (none) τ) (kk : WW X B A nL kc ks Q τ nx ls st) : WW X B A nL kc ks Q σ pc ls (a4 :: a3 :: a2 :: a1 :: .ref k :: st) := ww_callV (As := [a1, a2, a3, a4]) C d hn w hq hq1 hR hk hs rfl hst hrun kk
theorem ww_cS40 {a1 a2 a3 a4 : Value} {M : eM} {idx : Nat} (C : CX X B A R own cc nL kc ks) (d : decode cc pc = .ok (.invokestatic idx, 3)) (hn : pc + 3 = nx) (w : eCalS own idx 4 M) (hR : eRm R M) (hst : (st.map fun v => v.category).sum ≤ 8) (hrun : Run (xLa X) B M [a1, a2, a3, a4] σ (none) τ) (kk : WW X B A nL kc ks Q τ nx ls st) : WW X B A nL kc ks Q σ pc ls (a4 :: a3 :: a2 :: a1 :: st) := ww_callS (As := [a1, a2, a3, a4]) C d hn w hR rfl hst hrun kk
theorem ww_cV51 {a1 a2 a3 a4 a5 : Value} {v : Value} {M : eM} {idx k ci N : Nat} {fd : Nat → Nat × Nat} {q : vw_C} (C : CX X B A R own cc nL kc ks) (d : decode cc pc = .ok (.invokevirtual idx, 3)) (hn : pc + 3 = nx) (w : eCalV own idx 5 M) (hq : vwCl[ci]? = some q) (hq1 : q.1 = M.1.cls) (hR : eRm R M) (hk : Nat.blt k eN = true) (hs : eSh k = .inr (ci, N, fd)) (hst : (st.map fun v => v.category).sum ≤ 8) (hrun : Run (xLa X) B M (.ref k :: [a1, a2, a3, a4, a5]) σ (some v) τ) (kk : WW X B A nL kc ks Q τ nx ls (v :: st)) : WW X B A nL kc ks Q σ pc ls (a5 :: a4 :: a3 :: a2 :: a1 :: .ref k :: st) := ww_callV (As := [a1, a2, a3, a4, a5]) C d hn w hq hq1 hR hk hs rfl hst hrun kk
theorem ww_cS51 {a1 a2 a3 a4 a5 : Value} {v : Value} {M : eM} {idx : Nat} (C : CX X B A R own cc nL kc ks) (d : decode cc pc = .ok (.invokestatic idx, 3)) (hn : pc + 3 = nx) (w : eCalS own idx 5 M) (hR : eRm R M) (hst : (st.map fun v => v.category).sum ≤ 8) (hrun : Run (xLa X) B M [a1, a2, a3, a4, a5] σ (some v) τ) (kk : WW X B A nL kc ks Q τ nx ls (v :: st)) : WW X B A nL kc ks Q σ pc ls (a5 :: a4 :: a3 :: a2 :: a1 :: st) := ww_callS (As := [a1, a2, a3, a4, a5]) C d hn w hR rfl hst hrun kk
theorem ww_cV50 {a1 a2 a3 a4 a5 : Value} {M : eM} {idx k ci N : Nat} {fd : Nat → Nat × Nat} {q : vw_C} (C : CX X B A R own cc nL kc ks) (d : decode cc pc = .ok (.invokevirtual idx, 3)) (hn : pc + 3 = nx) (w : eCalV own idx 5 M) (hq : vwCl[ci]? = some q) (hq1 : q.1 = M.1.cls) (hR : eRm R M) (hk : Nat.blt k eN = true) (hs : eSh k = .inr (ci, N, fd)) (hst : (st.map fun v => v.category).sum ≤ 8) (hrun : Run (xLa X) B M (.ref k :: [a1, a2, a3, a4, a5]) σ (none) τ) (kk : WW X B A nL kc ks Q τ nx ls st) : WW X B A nL kc ks Q σ pc ls (a5 :: a4 :: a3 :: a2 :: a1 :: .ref k :: st) := ww_callV (As := [a1, a2, a3, a4, a5]) C d hn w hq hq1 hR hk hs rfl hst hrun kk
theorem ww_cS50 {a1 a2 a3 a4 a5 : Value} {M : eM} {idx : Nat} (C : CX X B A R own cc nL kc ks) (d : decode cc pc = .ok (.invokestatic idx, 3)) (hn : pc + 3 = nx) (w : eCalS own idx 5 M) (hR : eRm R M) (hst : (st.map fun v => v.category).sum ≤ 8) (hrun : Run (xLa X) B M [a1, a2, a3, a4, a5] σ (none) τ) (kk : WW X B A nL kc ks Q τ nx ls st) : WW X B A nL kc ks Q σ pc ls (a5 :: a4 :: a3 :: a2 :: a1 :: st) := ww_callS (As := [a1, a2, a3, a4, a5]) C d hn w hR rfl hst hrun kk
theorem ww_cN31 {a1 a2 a3 v : Value} {M : eM} {idx : Nat} {host : String} (C : CX X B A R own cc nL kc ks) (d : decode cc pc = .ok (.invokestatic idx, 3)) (hn : pc + 3 = nx) (w0 : va_Nw (.methodLinkNest own idx M.1 host) (xS X)) (w : eCalN 3 M) (hR : eRm R M) (hst : (st.map fun v => v.category).sum ≤ 8) (hrun : Run (xLa X) B M [a1, a2, a3] σ (some v) τ) (kk : WW X B A nL kc ks Q τ nx ls (v :: st)) : WW X B A nL kc ks Q σ pc ls (a3 :: a2 :: a1 :: st) := ww_callN (As := [a1, a2, a3]) C d hn w0 w hR rfl hst hrun kk
end ER
end
section
/-! links, printed by wip/gen/links.py -/
theorem iq0 : ∀ q : vw_C, vwCl[0]? = some q → (∀ w ∈ u_ws q.1 q.2.1 q.2.2, w ∈ eTb) := by
  intro q hq
  cases hq
  exact fun w h => eTm (inX0 w h) (List.all_eq_true.mp (by decide +kernel : (u_ws RX0 TX0 4).all goodWord = true) w h)
theorem ic0 : eCl 0 tyX0 := ⟨(RX0, TX0, 4), rfl, iq0 _ rfl, tyX0_ok, nmX0⟩
theorem iq1 : ∀ q : vw_C, vwCl[1]? = some q → (∀ w ∈ u_ws q.1 q.2.1 q.2.2, w ∈ eTb) := by
  intro q hq
  cases hq
  exact fun w h => eTm (inX1 w h) (List.all_eq_true.mp (by decide +kernel : (u_ws RX1 TX1 1).all goodWord = true) w h)
theorem ic1 : eCl 1 tyX1 := ⟨(RX1, TX1, 1), rfl, iq1 _ rfl, tyX1_ok, nmX1⟩
theorem iq2 : ∀ q : vw_C, vwCl[2]? = some q → (∀ w ∈ u_ws q.1 q.2.1 q.2.2, w ∈ eTb) := by
  intro q hq
  cases hq
  exact fun w h => eTm (inX2 w h) (List.all_eq_true.mp (by decide +kernel : (u_ws RX2 TX2 13).all goodWord = true) w h)
theorem ic2 : eCl 2 tyX2 := ⟨(RX2, TX2, 13), rfl, iq2 _ rfl, tyX2_ok, nmX2⟩
theorem iq3 : ∀ q : vw_C, vwCl[3]? = some q → (∀ w ∈ u_ws q.1 q.2.1 q.2.2, w ∈ eTb) := by
  intro q hq
  cases hq
  exact fun w h => eTm (inX4 w h) (List.all_eq_true.mp (by decide +kernel : (u_ws RX4 TX4 4).all goodWord = true) w h)
theorem ic3 : eCl 3 tyX4 := ⟨(RX4, TX4, 4), rfl, iq3 _ rfl, tyX4_ok, nmX4⟩
theorem iq4 : ∀ q : vw_C, vwCl[4]? = some q → (∀ w ∈ u_ws q.1 q.2.1 q.2.2, w ∈ eTb) := by
  intro q hq
  cases hq
  exact fun w h => eTm (inX5 w h) (List.all_eq_true.mp (by decide +kernel : (u_ws RX5 TX5 6).all goodWord = true) w h)
theorem ic4 : eCl 4 tyX5 := ⟨(RX5, TX5, 6), rfl, iq4 _ rfl, tyX5_ok, nmX5⟩
theorem iq5 : ∀ q : vw_C, vwCl[5]? = some q → (∀ w ∈ u_ws q.1 q.2.1 q.2.2, w ∈ eTb) := by
  intro q hq
  cases hq
  exact fun w h => eTm (inX6 w h) (List.all_eq_true.mp (by decide +kernel : (u_ws RX6 TX6 13).all goodWord = true) w h)
theorem ic5 : eCl 5 tyX6 := ⟨(RX6, TX6, 13), rfl, iq5 _ rfl, tyX6_ok, nmX6⟩
theorem iq6 : ∀ q : vw_C, vwCl[6]? = some q → (∀ w ∈ u_ws q.1 q.2.1 q.2.2, w ∈ eTb) := by
  intro q hq
  cases hq
  exact fun w h => eTm (inX7 w h) (List.all_eq_true.mp (by decide +kernel : (u_ws RX7 TX7 32).all goodWord = true) w h)
theorem ic6 : eCl 6 tyX7 := ⟨(RX7, TX7, 32), rfl, iq6 _ rfl, tyX7_ok, nmX7⟩
theorem flX6_12 : eFl RX6 12 5 0 := ⟨(RX6, TX6, 13), rfl, by decide, rfl, (eTm (List.mem_of_getElem? (i := 238) (by decide +kernel)) (by decide +kernel))⟩
theorem flX6_16 : eFl RX6 16 5 1 := ⟨(RX6, TX6, 13), rfl, by decide, rfl, (eTm (List.mem_of_getElem? (i := 239) (by decide +kernel)) (by decide +kernel))⟩
theorem flX6_19 : eFl RX6 19 5 2 := ⟨(RX6, TX6, 13), rfl, by decide, rfl, (eTm (List.mem_of_getElem? (i := 240) (by decide +kernel)) (by decide +kernel))⟩
theorem flX6_23 : eFl RX6 23 5 3 := ⟨(RX6, TX6, 13), rfl, by decide, rfl, (eTm (List.mem_of_getElem? (i := 241) (by decide +kernel)) (by decide +kernel))⟩
theorem flX6_30 : eFl RX6 30 5 4 := ⟨(RX6, TX6, 13), rfl, by decide, rfl, (eTm (List.mem_of_getElem? (i := 242) (by decide +kernel)) (by decide +kernel))⟩
theorem flX6_37 : eFl RX6 37 5 5 := ⟨(RX6, TX6, 13), rfl, by decide, rfl, (eTm (List.mem_of_getElem? (i := 243) (by decide +kernel)) (by decide +kernel))⟩
theorem flX6_44 : eFl RX6 44 5 6 := ⟨(RX6, TX6, 13), rfl, by decide, rfl, (eTm (List.mem_of_getElem? (i := 244) (by decide +kernel)) (by decide +kernel))⟩
theorem flX6_51 : eFl RX6 51 5 7 := ⟨(RX6, TX6, 13), rfl, by decide, rfl, (eTm (List.mem_of_getElem? (i := 245) (by decide +kernel)) (by decide +kernel))⟩
theorem flX6_55 : eFl RX6 55 5 8 := ⟨(RX6, TX6, 13), rfl, by decide, rfl, (eTm (List.mem_of_getElem? (i := 246) (by decide +kernel)) (by decide +kernel))⟩
theorem flX6_59 : eFl RX6 59 5 9 := ⟨(RX6, TX6, 13), rfl, by decide, rfl, (eTm (List.mem_of_getElem? (i := 247) (by decide +kernel)) (by decide +kernel))⟩
theorem flX6_62 : eFl RX6 62 5 10 := ⟨(RX6, TX6, 13), rfl, by decide, rfl, (eTm (List.mem_of_getElem? (i := 248) (by decide +kernel)) (by decide +kernel))⟩
theorem flX6_65 : eFl RX6 65 5 11 := ⟨(RX6, TX6, 13), rfl, by decide, rfl, (eTm (List.mem_of_getElem? (i := 249) (by decide +kernel)) (by decide +kernel))⟩
theorem flX6_68 : eFl RX6 68 5 12 := ⟨(RX6, TX6, 13), rfl, by decide, rfl, (eTm (List.mem_of_getElem? (i := 250) (by decide +kernel)) (by decide +kernel))⟩
theorem flX6_79 : eFl RX6 79 2 3 := ⟨(RX2, TX2, 13), rfl, by decide, rfl, (eTm (List.mem_of_getElem? (i := 106) (by decide +kernel)) (by decide +kernel))⟩
theorem flX6_86 : eFl RX6 86 2 0 := ⟨(RX2, TX2, 13), rfl, by decide, rfl, (eTm (List.mem_of_getElem? (i := 95) (by decide +kernel)) (by decide +kernel))⟩
theorem flX6_89 : eFl RX6 89 2 1 := ⟨(RX2, TX2, 13), rfl, by decide, rfl, (eTm (List.mem_of_getElem? (i := 98) (by decide +kernel)) (by decide +kernel))⟩
theorem flX6_92 : eFl RX6 92 2 11 := ⟨(RX2, TX2, 13), rfl, by decide, rfl, (eTm (List.mem_of_getElem? (i := 130) (by decide +kernel)) (by decide +kernel))⟩
theorem flX6_102 : eFl RX6 102 2 2 := ⟨(RX2, TX2, 13), rfl, by decide, rfl, (eTm (List.mem_of_getElem? (i := 101) (by decide +kernel)) (by decide +kernel))⟩
theorem flX6_116 : eFl RX6 116 4 1 := ⟨(RX5, TX5, 6), rfl, by decide, rfl, (eTm (List.mem_of_getElem? (i := 170) (by decide +kernel)) (by decide +kernel))⟩
theorem flX6_119 : eFl RX6 119 4 0 := ⟨(RX5, TX5, 6), rfl, by decide, rfl, (eTm (List.mem_of_getElem? (i := 168) (by decide +kernel)) (by decide +kernel))⟩
theorem flX6_146 : eFl RX6 146 2 6 := ⟨(RX2, TX2, 13), rfl, by decide, rfl, (eTm (List.mem_of_getElem? (i := 117) (by decide +kernel)) (by decide +kernel))⟩
theorem flX6_149 : eFl RX6 149 2 7 := ⟨(RX2, TX2, 13), rfl, by decide, rfl, (eTm (List.mem_of_getElem? (i := 119) (by decide +kernel)) (by decide +kernel))⟩
theorem flX6_152 : eFl RX6 152 2 8 := ⟨(RX2, TX2, 13), rfl, by decide, rfl, (eTm (List.mem_of_getElem? (i := 122) (by decide +kernel)) (by decide +kernel))⟩
theorem flX6_164 : eFl RX6 164 2 4 := ⟨(RX2, TX2, 13), rfl, by decide, rfl, (eTm (List.mem_of_getElem? (i := 112) (by decide +kernel)) (by decide +kernel))⟩
theorem flX6_167 : eFl RX6 167 2 5 := ⟨(RX2, TX2, 13), rfl, by decide, rfl, (eTm (List.mem_of_getElem? (i := 115) (by decide +kernel)) (by decide +kernel))⟩
theorem flX6_200 : eFl RX6 200 2 9 := ⟨(RX2, TX2, 13), rfl, by decide, rfl, (eTm (List.mem_of_getElem? (i := 125) (by decide +kernel)) (by decide +kernel))⟩
theorem flX6_203 : eFl RX6 203 2 10 := ⟨(RX2, TX2, 13), rfl, by decide, rfl, (eTm (List.mem_of_getElem? (i := 128) (by decide +kernel)) (by decide +kernel))⟩
theorem flX0_9 : eFl RX0 9 0 0 := ⟨(RX0, TX0, 4), rfl, by decide, rfl, (eTm (List.mem_of_getElem? (i := 215) (by decide +kernel)) (by decide +kernel))⟩
theorem flX0_15 : eFl RX0 15 0 1 := ⟨(RX0, TX0, 4), rfl, by decide, rfl, (eTm (List.mem_of_getElem? (i := 216) (by decide +kernel)) (by decide +kernel))⟩
theorem flX0_18 : eFl RX0 18 0 2 := ⟨(RX0, TX0, 4), rfl, by decide, rfl, (eTm (List.mem_of_getElem? (i := 217) (by decide +kernel)) (by decide +kernel))⟩
theorem flX0_21 : eFl RX0 21 0 3 := ⟨(RX0, TX0, 4), rfl, by decide, rfl, (eTm (List.mem_of_getElem? (i := 218) (by decide +kernel)) (by decide +kernel))⟩
theorem flX0_40 : eFl RX0 40 2 4 := ⟨(RX2, TX2, 13), rfl, by decide, rfl, (eTm (List.mem_of_getElem? (i := 110) (by decide +kernel)) (by decide +kernel))⟩
theorem flX0_47 : eFl RX0 47 2 2 := ⟨(RX2, TX2, 13), rfl, by decide, rfl, (eTm (List.mem_of_getElem? (i := 102) (by decide +kernel)) (by decide +kernel))⟩
theorem flX1_11 : eFl RX1 11 1 0 := ⟨(RX1, TX1, 1), rfl, by decide, rfl, (eTm (List.mem_of_getElem? (i := 234) (by decide +kernel)) (by decide +kernel))⟩
theorem flX1_35 : eFl RX1 35 2 9 := ⟨(RX2, TX2, 13), rfl, by decide, rfl, (eTm (List.mem_of_getElem? (i := 124) (by decide +kernel)) (by decide +kernel))⟩
theorem flX1_39 : eFl RX1 39 2 10 := ⟨(RX2, TX2, 13), rfl, by decide, rfl, (eTm (List.mem_of_getElem? (i := 127) (by decide +kernel)) (by decide +kernel))⟩
theorem flX2_9 : eFl RX2 9 2 0 := ⟨(RX2, TX2, 13), rfl, by decide, rfl, (eTm (List.mem_of_getElem? (i := 94) (by decide +kernel)) (by decide +kernel))⟩
theorem flX2_15 : eFl RX2 15 2 1 := ⟨(RX2, TX2, 13), rfl, by decide, rfl, (eTm (List.mem_of_getElem? (i := 97) (by decide +kernel)) (by decide +kernel))⟩
theorem flX2_18 : eFl RX2 18 2 2 := ⟨(RX2, TX2, 13), rfl, by decide, rfl, (eTm (List.mem_of_getElem? (i := 100) (by decide +kernel)) (by decide +kernel))⟩
theorem flX2_22 : eFl RX2 22 2 3 := ⟨(RX2, TX2, 13), rfl, by decide, rfl, (eTm (List.mem_of_getElem? (i := 105) (by decide +kernel)) (by decide +kernel))⟩
theorem flX2_25 : eFl RX2 25 2 4 := ⟨(RX2, TX2, 13), rfl, by decide, rfl, (eTm (List.mem_of_getElem? (i := 109) (by decide +kernel)) (by decide +kernel))⟩
theorem flX2_28 : eFl RX2 28 2 5 := ⟨(RX2, TX2, 13), rfl, by decide, rfl, (eTm (List.mem_of_getElem? (i := 113) (by decide +kernel)) (by decide +kernel))⟩
theorem flX2_31 : eFl RX2 31 2 6 := ⟨(RX2, TX2, 13), rfl, by decide, rfl, (eTm (List.mem_of_getElem? (i := 116) (by decide +kernel)) (by decide +kernel))⟩
theorem flX2_34 : eFl RX2 34 2 7 := ⟨(RX2, TX2, 13), rfl, by decide, rfl, (eTm (List.mem_of_getElem? (i := 118) (by decide +kernel)) (by decide +kernel))⟩
theorem flX2_37 : eFl RX2 37 2 8 := ⟨(RX2, TX2, 13), rfl, by decide, rfl, (eTm (List.mem_of_getElem? (i := 120) (by decide +kernel)) (by decide +kernel))⟩
theorem flX2_40 : eFl RX2 40 2 9 := ⟨(RX2, TX2, 13), rfl, by decide, rfl, (eTm (List.mem_of_getElem? (i := 123) (by decide +kernel)) (by decide +kernel))⟩
theorem flX2_43 : eFl RX2 43 2 10 := ⟨(RX2, TX2, 13), rfl, by decide, rfl, (eTm (List.mem_of_getElem? (i := 126) (by decide +kernel)) (by decide +kernel))⟩
theorem flX2_46 : eFl RX2 46 2 11 := ⟨(RX2, TX2, 13), rfl, by decide, rfl, (eTm (List.mem_of_getElem? (i := 129) (by decide +kernel)) (by decide +kernel))⟩
theorem flX2_49 : eFl RX2 49 2 12 := ⟨(RX2, TX2, 13), rfl, by decide, rfl, (eTm (List.mem_of_getElem? (i := 131) (by decide +kernel)) (by decide +kernel))⟩
theorem flX4_11 : eFl RX4 11 3 0 := ⟨(RX4, TX4, 4), rfl, by decide, rfl, (eTm (List.mem_of_getElem? (i := 196) (by decide +kernel)) (by decide +kernel))⟩
theorem flX4_15 : eFl RX4 15 3 1 := ⟨(RX4, TX4, 4), rfl, by decide, rfl, (eTm (List.mem_of_getElem? (i := 197) (by decide +kernel)) (by decide +kernel))⟩
theorem flX4_18 : eFl RX4 18 3 2 := ⟨(RX4, TX4, 4), rfl, by decide, rfl, (eTm (List.mem_of_getElem? (i := 198) (by decide +kernel)) (by decide +kernel))⟩
theorem flX4_21 : eFl RX4 21 3 3 := ⟨(RX4, TX4, 4), rfl, by decide, rfl, (eTm (List.mem_of_getElem? (i := 199) (by decide +kernel)) (by decide +kernel))⟩
theorem flX4_26 : eFl RX4 26 2 3 := ⟨(RX2, TX2, 13), rfl, by decide, rfl, (eTm (List.mem_of_getElem? (i := 107) (by decide +kernel)) (by decide +kernel))⟩
theorem flX4_57 : eFl RX4 57 2 4 := ⟨(RX2, TX2, 13), rfl, by decide, rfl, (eTm (List.mem_of_getElem? (i := 111) (by decide +kernel)) (by decide +kernel))⟩
theorem flX4_60 : eFl RX4 60 2 2 := ⟨(RX2, TX2, 13), rfl, by decide, rfl, (eTm (List.mem_of_getElem? (i := 103) (by decide +kernel)) (by decide +kernel))⟩
theorem flX4_69 : eFl RX4 69 2 5 := ⟨(RX2, TX2, 13), rfl, by decide, rfl, (eTm (List.mem_of_getElem? (i := 114) (by decide +kernel)) (by decide +kernel))⟩
theorem flX5_9 : eFl RX5 9 4 0 := ⟨(RX5, TX5, 6), rfl, by decide, rfl, (eTm (List.mem_of_getElem? (i := 167) (by decide +kernel)) (by decide +kernel))⟩
theorem flX5_15 : eFl RX5 15 4 1 := ⟨(RX5, TX5, 6), rfl, by decide, rfl, (eTm (List.mem_of_getElem? (i := 169) (by decide +kernel)) (by decide +kernel))⟩
theorem flX5_19 : eFl RX5 19 4 2 := ⟨(RX5, TX5, 6), rfl, by decide, rfl, (eTm (List.mem_of_getElem? (i := 171) (by decide +kernel)) (by decide +kernel))⟩
theorem flX5_22 : eFl RX5 22 4 3 := ⟨(RX5, TX5, 6), rfl, by decide, rfl, (eTm (List.mem_of_getElem? (i := 172) (by decide +kernel)) (by decide +kernel))⟩
theorem flX5_25 : eFl RX5 25 4 4 := ⟨(RX5, TX5, 6), rfl, by decide, rfl, (eTm (List.mem_of_getElem? (i := 173) (by decide +kernel)) (by decide +kernel))⟩
theorem flX5_28 : eFl RX5 28 4 5 := ⟨(RX5, TX5, 6), rfl, by decide, rfl, (eTm (List.mem_of_getElem? (i := 174) (by decide +kernel)) (by decide +kernel))⟩
theorem flX5_82 : eFl RX5 82 2 0 := ⟨(RX2, TX2, 13), rfl, by decide, rfl, (eTm (List.mem_of_getElem? (i := 96) (by decide +kernel)) (by decide +kernel))⟩
theorem flX5_85 : eFl RX5 85 2 1 := ⟨(RX2, TX2, 13), rfl, by decide, rfl, (eTm (List.mem_of_getElem? (i := 99) (by decide +kernel)) (by decide +kernel))⟩
theorem flX5_87 : eFl RX5 87 2 2 := ⟨(RX2, TX2, 13), rfl, by decide, rfl, (eTm (List.mem_of_getElem? (i := 104) (by decide +kernel)) (by decide +kernel))⟩
theorem flX5_90 : eFl RX5 90 2 3 := ⟨(RX2, TX2, 13), rfl, by decide, rfl, (eTm (List.mem_of_getElem? (i := 108) (by decide +kernel)) (by decide +kernel))⟩
theorem flX5_99 : eFl RX5 99 2 8 := ⟨(RX2, TX2, 13), rfl, by decide, rfl, (eTm (List.mem_of_getElem? (i := 121) (by decide +kernel)) (by decide +kernel))⟩
theorem flX7_1 : eFl RX7 1 6 0 := ⟨(RX7, TX7, 32), rfl, by decide, rfl, (eTm (List.mem_of_getElem? (i := 752) (by decide +kernel)) (by decide +kernel))⟩
theorem flX7_13 : eFl RX7 13 6 2 := ⟨(RX7, TX7, 32), rfl, by decide, rfl, (eTm (List.mem_of_getElem? (i := 754) (by decide +kernel)) (by decide +kernel))⟩
theorem flX7_17 : eFl RX7 17 6 3 := ⟨(RX7, TX7, 32), rfl, by decide, rfl, (eTm (List.mem_of_getElem? (i := 755) (by decide +kernel)) (by decide +kernel))⟩
theorem flX7_20 : eFl RX7 20 6 5 := ⟨(RX7, TX7, 32), rfl, by decide, rfl, (eTm (List.mem_of_getElem? (i := 757) (by decide +kernel)) (by decide +kernel))⟩
theorem flX7_23 : eFl RX7 23 6 6 := ⟨(RX7, TX7, 32), rfl, by decide, rfl, (eTm (List.mem_of_getElem? (i := 758) (by decide +kernel)) (by decide +kernel))⟩
theorem flX7_26 : eFl RX7 26 6 7 := ⟨(RX7, TX7, 32), rfl, by decide, rfl, (eTm (List.mem_of_getElem? (i := 759) (by decide +kernel)) (by decide +kernel))⟩
theorem flX7_29 : eFl RX7 29 6 8 := ⟨(RX7, TX7, 32), rfl, by decide, rfl, (eTm (List.mem_of_getElem? (i := 760) (by decide +kernel)) (by decide +kernel))⟩
theorem flX7_32 : eFl RX7 32 6 9 := ⟨(RX7, TX7, 32), rfl, by decide, rfl, (eTm (List.mem_of_getElem? (i := 761) (by decide +kernel)) (by decide +kernel))⟩
theorem flX7_35 : eFl RX7 35 6 10 := ⟨(RX7, TX7, 32), rfl, by decide, rfl, (eTm (List.mem_of_getElem? (i := 762) (by decide +kernel)) (by decide +kernel))⟩
theorem flX7_38 : eFl RX7 38 6 11 := ⟨(RX7, TX7, 32), rfl, by decide, rfl, (eTm (List.mem_of_getElem? (i := 763) (by decide +kernel)) (by decide +kernel))⟩
theorem flX7_41 : eFl RX7 41 6 12 := ⟨(RX7, TX7, 32), rfl, by decide, rfl, (eTm (List.mem_of_getElem? (i := 764) (by decide +kernel)) (by decide +kernel))⟩
theorem flX7_44 : eFl RX7 44 6 13 := ⟨(RX7, TX7, 32), rfl, by decide, rfl, (eTm (List.mem_of_getElem? (i := 765) (by decide +kernel)) (by decide +kernel))⟩
theorem flX7_47 : eFl RX7 47 6 14 := ⟨(RX7, TX7, 32), rfl, by decide, rfl, (eTm (List.mem_of_getElem? (i := 766) (by decide +kernel)) (by decide +kernel))⟩
theorem flX7_50 : eFl RX7 50 6 20 := ⟨(RX7, TX7, 32), rfl, by decide, rfl, (eTm (List.mem_of_getElem? (i := 772) (by decide +kernel)) (by decide +kernel))⟩
theorem flX7_53 : eFl RX7 53 6 21 := ⟨(RX7, TX7, 32), rfl, by decide, rfl, (eTm (List.mem_of_getElem? (i := 773) (by decide +kernel)) (by decide +kernel))⟩
theorem flX7_56 : eFl RX7 56 6 23 := ⟨(RX7, TX7, 32), rfl, by decide, rfl, (eTm (List.mem_of_getElem? (i := 775) (by decide +kernel)) (by decide +kernel))⟩
theorem flX7_59 : eFl RX7 59 6 25 := ⟨(RX7, TX7, 32), rfl, by decide, rfl, (eTm (List.mem_of_getElem? (i := 777) (by decide +kernel)) (by decide +kernel))⟩
theorem flX7_62 : eFl RX7 62 6 26 := ⟨(RX7, TX7, 32), rfl, by decide, rfl, (eTm (List.mem_of_getElem? (i := 778) (by decide +kernel)) (by decide +kernel))⟩
theorem flX7_65 : eFl RX7 65 6 28 := ⟨(RX7, TX7, 32), rfl, by decide, rfl, (eTm (List.mem_of_getElem? (i := 780) (by decide +kernel)) (by decide +kernel))⟩
theorem flX7_69 : eFl RX7 69 6 29 := ⟨(RX7, TX7, 32), rfl, by decide, rfl, (eTm (List.mem_of_getElem? (i := 781) (by decide +kernel)) (by decide +kernel))⟩
theorem flX7_72 : eFl RX7 72 6 30 := ⟨(RX7, TX7, 32), rfl, by decide, rfl, (eTm (List.mem_of_getElem? (i := 782) (by decide +kernel)) (by decide +kernel))⟩
theorem flX7_79 : eFl RX7 79 6 1 := ⟨(RX7, TX7, 32), rfl, by decide, rfl, (eTm (List.mem_of_getElem? (i := 753) (by decide +kernel)) (by decide +kernel))⟩
theorem flX7_82 : eFl RX7 82 6 4 := ⟨(RX7, TX7, 32), rfl, by decide, rfl, (eTm (List.mem_of_getElem? (i := 756) (by decide +kernel)) (by decide +kernel))⟩
theorem flX7_85 : eFl RX7 85 6 24 := ⟨(RX7, TX7, 32), rfl, by decide, rfl, (eTm (List.mem_of_getElem? (i := 776) (by decide +kernel)) (by decide +kernel))⟩
theorem flX7_107 : eFl RX7 107 6 15 := ⟨(RX7, TX7, 32), rfl, by decide, rfl, (eTm (List.mem_of_getElem? (i := 767) (by decide +kernel)) (by decide +kernel))⟩
theorem flX7_110 : eFl RX7 110 6 16 := ⟨(RX7, TX7, 32), rfl, by decide, rfl, (eTm (List.mem_of_getElem? (i := 768) (by decide +kernel)) (by decide +kernel))⟩
theorem flX7_136 : eFl RX7 136 6 22 := ⟨(RX7, TX7, 32), rfl, by decide, rfl, (eTm (List.mem_of_getElem? (i := 774) (by decide +kernel)) (by decide +kernel))⟩
theorem flX7_143 : eFl RX7 143 6 18 := ⟨(RX7, TX7, 32), rfl, by decide, rfl, (eTm (List.mem_of_getElem? (i := 770) (by decide +kernel)) (by decide +kernel))⟩
theorem flX7_150 : eFl RX7 150 6 19 := ⟨(RX7, TX7, 32), rfl, by decide, rfl, (eTm (List.mem_of_getElem? (i := 771) (by decide +kernel)) (by decide +kernel))⟩
theorem flX7_168 : eFl RX7 168 6 17 := ⟨(RX7, TX7, 32), rfl, by decide, rfl, (eTm (List.mem_of_getElem? (i := 769) (by decide +kernel)) (by decide +kernel))⟩
theorem flX7_268 : eFl RX7 268 6 27 := ⟨(RX7, TX7, 32), rfl, by decide, rfl, (eTm (List.mem_of_getElem? (i := 779) (by decide +kernel)) (by decide +kernel))⟩
theorem flX7_300 : eFl RX7 300 6 31 := ⟨(RX7, TX7, 32), rfl, by decide, rfl, (eTm (List.mem_of_getElem? (i := 783) (by decide +kernel)) (by decide +kernel))⟩
theorem csX6_71 : eCalS RX6 71 2 mX6_isTrack := ⟨⟨(eTm (List.mem_of_getElem? (i := 282) (by decide +kernel)) (by decide +kernel)), (eTm (List.mem_of_getElem? (i := 283) (by decide +kernel)) (by decide +kernel)), (eTm (List.mem_of_getElem? (i := 66) (by decide +kernel)) (by decide +kernel)), (eTm (List.mem_of_getElem? (i := 284) (by decide +kernel)) (by decide +kernel))⟩, rfl, rfl, by decide +kernel, by decide +kernel, by decide +kernel⟩
theorem cvX6_75 : eCalV RX6 75 1 mX6_bad := ⟨⟨(eTm (List.mem_of_getElem? (i := 291) (by decide +kernel)) (by decide +kernel)), (eTm (List.mem_of_getElem? (i := 293) (by decide +kernel)) (by decide +kernel)), (eTm (List.mem_of_getElem? (i := 0) (by decide +kernel)) (by decide +kernel)), (eTm (List.mem_of_getElem? (i := 66) (by decide +kernel)) (by decide +kernel)), (eTm (List.mem_of_getElem? (i := 294) (by decide +kernel)) (by decide +kernel))⟩, rfl, rfl, by decide +kernel, by decide +kernel, by decide +kernel⟩
theorem cvX6_82 : eCalV RX6 82 2 mX2_begin := ⟨⟨(eTm (List.mem_of_getElem? (i := 295) (by decide +kernel)) (by decide +kernel)), (eTm (List.mem_of_getElem? (i := 296) (by decide +kernel)) (by decide +kernel)), (eTm (List.mem_of_getElem? (i := 297) (by decide +kernel)) (by decide +kernel)), (eTm (List.mem_of_getElem? (i := 67) (by decide +kernel)) (by decide +kernel)), (eTm (List.mem_of_getElem? (i := 298) (by decide +kernel)) (by decide +kernel))⟩, rfl, rfl, by decide +kernel, by decide +kernel, by decide +kernel⟩
theorem csX6_95 : eCalS RX6 95 1 mX6_isYard := ⟨⟨(eTm (List.mem_of_getElem? (i := 285) (by decide +kernel)) (by decide +kernel)), (eTm (List.mem_of_getElem? (i := 286) (by decide +kernel)) (by decide +kernel)), (eTm (List.mem_of_getElem? (i := 66) (by decide +kernel)) (by decide +kernel)), (eTm (List.mem_of_getElem? (i := 287) (by decide +kernel)) (by decide +kernel))⟩, rfl, rfl, by decide +kernel, by decide +kernel, by decide +kernel⟩
theorem csX6_99 : eCalS RX6 99 2 mX6_within := ⟨⟨(eTm (List.mem_of_getElem? (i := 288) (by decide +kernel)) (by decide +kernel)), (eTm (List.mem_of_getElem? (i := 289) (by decide +kernel)) (by decide +kernel)), (eTm (List.mem_of_getElem? (i := 66) (by decide +kernel)) (by decide +kernel)), (eTm (List.mem_of_getElem? (i := 290) (by decide +kernel)) (by decide +kernel))⟩, rfl, rfl, by decide +kernel, by decide +kernel, by decide +kernel⟩
theorem cvX6_108 : eCalV RX6 108 0 mX6_full := ⟨⟨(eTm (List.mem_of_getElem? (i := 311) (by decide +kernel)) (by decide +kernel)), (eTm (List.mem_of_getElem? (i := 313) (by decide +kernel)) (by decide +kernel)), (eTm (List.mem_of_getElem? (i := 1) (by decide +kernel)) (by decide +kernel)), (eTm (List.mem_of_getElem? (i := 66) (by decide +kernel)) (by decide +kernel)), (eTm (List.mem_of_getElem? (i := 314) (by decide +kernel)) (by decide +kernel))⟩, rfl, rfl, by decide +kernel, by decide +kernel, by decide +kernel⟩
theorem cvX6_112 : eCalV RX6 112 2 mX2_addBidder := ⟨⟨(eTm (List.mem_of_getElem? (i := 315) (by decide +kernel)) (by decide +kernel)), (eTm (List.mem_of_getElem? (i := 316) (by decide +kernel)) (by decide +kernel)), (eTm (List.mem_of_getElem? (i := 317) (by decide +kernel)) (by decide +kernel)), (eTm (List.mem_of_getElem? (i := 67) (by decide +kernel)) (by decide +kernel)), (eTm (List.mem_of_getElem? (i := 318) (by decide +kernel)) (by decide +kernel))⟩, rfl, rfl, by decide +kernel, by decide +kernel, by decide +kernel⟩
theorem cvX6_123 : eCalV RX6 123 1 mX5_readInto := ⟨⟨(eTm (List.mem_of_getElem? (i := 334) (by decide +kernel)) (by decide +kernel)), (eTm (List.mem_of_getElem? (i := 335) (by decide +kernel)) (by decide +kernel)), (eTm (List.mem_of_getElem? (i := 336) (by decide +kernel)) (by decide +kernel)), (eTm (List.mem_of_getElem? (i := 68) (by decide +kernel)) (by decide +kernel)), (eTm (List.mem_of_getElem? (i := 337) (by decide +kernel)) (by decide +kernel))⟩, rfl, rfl, by decide +kernel, by decide +kernel, by decide +kernel⟩
theorem cvX6_127 : eCalV RX6 127 1 mX2_copyOf := ⟨⟨(eTm (List.mem_of_getElem? (i := 443) (by decide +kernel)) (by decide +kernel)), (eTm (List.mem_of_getElem? (i := 444) (by decide +kernel)) (by decide +kernel)), (eTm (List.mem_of_getElem? (i := 445) (by decide +kernel)) (by decide +kernel)), (eTm (List.mem_of_getElem? (i := 67) (by decide +kernel)) (by decide +kernel)), (eTm (List.mem_of_getElem? (i := 446) (by decide +kernel)) (by decide +kernel))⟩, rfl, rfl, by decide +kernel, by decide +kernel, by decide +kernel⟩
theorem cvX6_131 : eCalV RX6 131 1 mX2_holder := ⟨⟨(eTm (List.mem_of_getElem? (i := 454) (by decide +kernel)) (by decide +kernel)), (eTm (List.mem_of_getElem? (i := 436) (by decide +kernel)) (by decide +kernel)), (eTm (List.mem_of_getElem? (i := 437) (by decide +kernel)) (by decide +kernel)), (eTm (List.mem_of_getElem? (i := 67) (by decide +kernel)) (by decide +kernel)), (eTm (List.mem_of_getElem? (i := 438) (by decide +kernel)) (by decide +kernel))⟩, rfl, rfl, by decide +kernel, by decide +kernel, by decide +kernel⟩
theorem cvX6_134 : eCalV RX6 134 0 mX6_no := ⟨⟨(eTm (List.mem_of_getElem? (i := 455) (by decide +kernel)) (by decide +kernel)), (eTm (List.mem_of_getElem? (i := 457) (by decide +kernel)) (by decide +kernel)), (eTm (List.mem_of_getElem? (i := 12) (by decide +kernel)) (by decide +kernel)), (eTm (List.mem_of_getElem? (i := 66) (by decide +kernel)) (by decide +kernel)), (eTm (List.mem_of_getElem? (i := 458) (by decide +kernel)) (by decide +kernel))⟩, rfl, rfl, by decide +kernel, by decide +kernel, by decide +kernel⟩
theorem cvX6_137 : eCalV RX6 137 1 mX2_topBidder := ⟨⟨(eTm (List.mem_of_getElem? (i := 459) (by decide +kernel)) (by decide +kernel)), (eTm (List.mem_of_getElem? (i := 460) (by decide +kernel)) (by decide +kernel)), (eTm (List.mem_of_getElem? (i := 461) (by decide +kernel)) (by decide +kernel)), (eTm (List.mem_of_getElem? (i := 67) (by decide +kernel)) (by decide +kernel)), (eTm (List.mem_of_getElem? (i := 462) (by decide +kernel)) (by decide +kernel))⟩, rfl, rfl, by decide +kernel, by decide +kernel, by decide +kernel⟩
theorem cvX6_140 : eCalV RX6 140 2 mX2_price := ⟨⟨(eTm (List.mem_of_getElem? (i := 502) (by decide +kernel)) (by decide +kernel)), (eTm (List.mem_of_getElem? (i := 503) (by decide +kernel)) (by decide +kernel)), (eTm (List.mem_of_getElem? (i := 504) (by decide +kernel)) (by decide +kernel)), (eTm (List.mem_of_getElem? (i := 67) (by decide +kernel)) (by decide +kernel)), (eTm (List.mem_of_getElem? (i := 505) (by decide +kernel)) (by decide +kernel))⟩, rfl, rfl, by decide +kernel, by decide +kernel, by decide +kernel⟩
theorem cvX6_143 : eCalV RX6 143 0 mX2_remember := ⟨⟨(eTm (List.mem_of_getElem? (i := 507) (by decide +kernel)) (by decide +kernel)), (eTm (List.mem_of_getElem? (i := 508) (by decide +kernel)) (by decide +kernel)), (eTm (List.mem_of_getElem? (i := 509) (by decide +kernel)) (by decide +kernel)), (eTm (List.mem_of_getElem? (i := 67) (by decide +kernel)) (by decide +kernel)), (eTm (List.mem_of_getElem? (i := 510) (by decide +kernel)) (by decide +kernel))⟩, rfl, rfl, by decide +kernel, by decide +kernel, by decide +kernel⟩
theorem cvX6_155 : eCalV RX6 155 1 mX6_isBidder := ⟨⟨(eTm (List.mem_of_getElem? (i := 515) (by decide +kernel)) (by decide +kernel)), (eTm (List.mem_of_getElem? (i := 517) (by decide +kernel)) (by decide +kernel)), (eTm (List.mem_of_getElem? (i := 13) (by decide +kernel)) (by decide +kernel)), (eTm (List.mem_of_getElem? (i := 66) (by decide +kernel)) (by decide +kernel)), (eTm (List.mem_of_getElem? (i := 518) (by decide +kernel)) (by decide +kernel))⟩, rfl, rfl, by decide +kernel, by decide +kernel, by decide +kernel⟩
theorem cvX6_158 : eCalV RX6 158 0 mX2_stepBack := ⟨⟨(eTm (List.mem_of_getElem? (i := 527) (by decide +kernel)) (by decide +kernel)), (eTm (List.mem_of_getElem? (i := 528) (by decide +kernel)) (by decide +kernel)), (eTm (List.mem_of_getElem? (i := 529) (by decide +kernel)) (by decide +kernel)), (eTm (List.mem_of_getElem? (i := 67) (by decide +kernel)) (by decide +kernel)), (eTm (List.mem_of_getElem? (i := 530) (by decide +kernel)) (by decide +kernel))⟩, rfl, rfl, by decide +kernel, by decide +kernel, by decide +kernel⟩
theorem cvX6_161 : eCalV RX6 161 0 mX2_freeYards := ⟨⟨(eTm (List.mem_of_getElem? (i := 531) (by decide +kernel)) (by decide +kernel)), (eTm (List.mem_of_getElem? (i := 532) (by decide +kernel)) (by decide +kernel)), (eTm (List.mem_of_getElem? (i := 533) (by decide +kernel)) (by decide +kernel)), (eTm (List.mem_of_getElem? (i := 67) (by decide +kernel)) (by decide +kernel)), (eTm (List.mem_of_getElem? (i := 534) (by decide +kernel)) (by decide +kernel))⟩, rfl, rfl, by decide +kernel, by decide +kernel, by decide +kernel⟩
theorem cvX6_170 : eCalV RX6 170 1 mX2_darkIn := ⟨⟨(eTm (List.mem_of_getElem? (i := 543) (by decide +kernel)) (by decide +kernel)), (eTm (List.mem_of_getElem? (i := 484) (by decide +kernel)) (by decide +kernel)), (eTm (List.mem_of_getElem? (i := 485) (by decide +kernel)) (by decide +kernel)), (eTm (List.mem_of_getElem? (i := 67) (by decide +kernel)) (by decide +kernel)), (eTm (List.mem_of_getElem? (i := 486) (by decide +kernel)) (by decide +kernel))⟩, rfl, rfl, by decide +kernel, by decide +kernel, by decide +kernel⟩
theorem cvX6_173 : eCalV RX6 173 1 mX2_seenNow := ⟨⟨(eTm (List.mem_of_getElem? (i := 548) (by decide +kernel)) (by decide +kernel)), (eTm (List.mem_of_getElem? (i := 549) (by decide +kernel)) (by decide +kernel)), (eTm (List.mem_of_getElem? (i := 550) (by decide +kernel)) (by decide +kernel)), (eTm (List.mem_of_getElem? (i := 67) (by decide +kernel)) (by decide +kernel)), (eTm (List.mem_of_getElem? (i := 551) (by decide +kernel)) (by decide +kernel))⟩, rfl, rfl, by decide +kernel, by decide +kernel, by decide +kernel⟩
theorem cvX6_176 : eCalV RX6 176 2 mX2_isOpenTo := ⟨⟨(eTm (List.mem_of_getElem? (i := 552) (by decide +kernel)) (by decide +kernel)), (eTm (List.mem_of_getElem? (i := 553) (by decide +kernel)) (by decide +kernel)), (eTm (List.mem_of_getElem? (i := 554) (by decide +kernel)) (by decide +kernel)), (eTm (List.mem_of_getElem? (i := 67) (by decide +kernel)) (by decide +kernel)), (eTm (List.mem_of_getElem? (i := 555) (by decide +kernel)) (by decide +kernel))⟩, rfl, rfl, by decide +kernel, by decide +kernel, by decide +kernel⟩
theorem cvX6_179 : eCalV RX6 179 2 mX2_seenIn := ⟨⟨(eTm (List.mem_of_getElem? (i := 557) (by decide +kernel)) (by decide +kernel)), (eTm (List.mem_of_getElem? (i := 472) (by decide +kernel)) (by decide +kernel)), (eTm (List.mem_of_getElem? (i := 473) (by decide +kernel)) (by decide +kernel)), (eTm (List.mem_of_getElem? (i := 67) (by decide +kernel)) (by decide +kernel)), (eTm (List.mem_of_getElem? (i := 474) (by decide +kernel)) (by decide +kernel))⟩, rfl, rfl, by decide +kernel, by decide +kernel, by decide +kernel⟩
theorem cvX6_182 : eCalV RX6 182 2 mX2_bid := ⟨⟨(eTm (List.mem_of_getElem? (i := 562) (by decide +kernel)) (by decide +kernel)), (eTm (List.mem_of_getElem? (i := 464) (by decide +kernel)) (by decide +kernel)), (eTm (List.mem_of_getElem? (i := 465) (by decide +kernel)) (by decide +kernel)), (eTm (List.mem_of_getElem? (i := 67) (by decide +kernel)) (by decide +kernel)), (eTm (List.mem_of_getElem? (i := 466) (by decide +kernel)) (by decide +kernel))⟩, rfl, rfl, by decide +kernel, by decide +kernel, by decide +kernel⟩
theorem cvX6_185 : eCalV RX6 185 2 mX2_harm := ⟨⟨(eTm (List.mem_of_getElem? (i := 571) (by decide +kernel)) (by decide +kernel)), (eTm (List.mem_of_getElem? (i := 572) (by decide +kernel)) (by decide +kernel)), (eTm (List.mem_of_getElem? (i := 573) (by decide +kernel)) (by decide +kernel)), (eTm (List.mem_of_getElem? (i := 67) (by decide +kernel)) (by decide +kernel)), (eTm (List.mem_of_getElem? (i := 574) (by decide +kernel)) (by decide +kernel))⟩, rfl, rfl, by decide +kernel, by decide +kernel, by decide +kernel⟩
theorem cvX6_188 : eCalV RX6 188 2 mX2_worthIn := ⟨⟨(eTm (List.mem_of_getElem? (i := 579) (by decide +kernel)) (by decide +kernel)), (eTm (List.mem_of_getElem? (i := 468) (by decide +kernel)) (by decide +kernel)), (eTm (List.mem_of_getElem? (i := 469) (by decide +kernel)) (by decide +kernel)), (eTm (List.mem_of_getElem? (i := 67) (by decide +kernel)) (by decide +kernel)), (eTm (List.mem_of_getElem? (i := 470) (by decide +kernel)) (by decide +kernel))⟩, rfl, rfl, by decide +kernel, by decide +kernel, by decide +kernel⟩
theorem cvX6_191 : eCalV RX6 191 1 mX4_work := ⟨⟨(eTm (List.mem_of_getElem? (i := 584) (by decide +kernel)) (by decide +kernel)), (eTm (List.mem_of_getElem? (i := 585) (by decide +kernel)) (by decide +kernel)), (eTm (List.mem_of_getElem? (i := 586) (by decide +kernel)) (by decide +kernel)), (eTm (List.mem_of_getElem? (i := 69) (by decide +kernel)) (by decide +kernel)), (eTm (List.mem_of_getElem? (i := 587) (by decide +kernel)) (by decide +kernel))⟩, rfl, rfl, by decide +kernel, by decide +kernel, by decide +kernel⟩
theorem cvX6_194 : eCalV RX6 194 0 mX4_total := ⟨⟨(eTm (List.mem_of_getElem? (i := 604) (by decide +kernel)) (by decide +kernel)), (eTm (List.mem_of_getElem? (i := 605) (by decide +kernel)) (by decide +kernel)), (eTm (List.mem_of_getElem? (i := 606) (by decide +kernel)) (by decide +kernel)), (eTm (List.mem_of_getElem? (i := 69) (by decide +kernel)) (by decide +kernel)), (eTm (List.mem_of_getElem? (i := 607) (by decide +kernel)) (by decide +kernel))⟩, rfl, rfl, by decide +kernel, by decide +kernel, by decide +kernel⟩
theorem cvX6_197 : eCalV RX6 197 1 mX4_seatFor := ⟨⟨(eTm (List.mem_of_getElem? (i := 609) (by decide +kernel)) (by decide +kernel)), (eTm (List.mem_of_getElem? (i := 610) (by decide +kernel)) (by decide +kernel)), (eTm (List.mem_of_getElem? (i := 611) (by decide +kernel)) (by decide +kernel)), (eTm (List.mem_of_getElem? (i := 69) (by decide +kernel)) (by decide +kernel)), (eTm (List.mem_of_getElem? (i := 612) (by decide +kernel)) (by decide +kernel))⟩, rfl, rfl, by decide +kernel, by decide +kernel, by decide +kernel⟩
theorem cvX6_206 : eCalV RX6 206 2 mX1_kindsOf := ⟨⟨(eTm (List.mem_of_getElem? (i := 630) (by decide +kernel)) (by decide +kernel)), (eTm (List.mem_of_getElem? (i := 631) (by decide +kernel)) (by decide +kernel)), (eTm (List.mem_of_getElem? (i := 632) (by decide +kernel)) (by decide +kernel)), (eTm (List.mem_of_getElem? (i := 71) (by decide +kernel)) (by decide +kernel)), (eTm (List.mem_of_getElem? (i := 633) (by decide +kernel)) (by decide +kernel))⟩, rfl, rfl, by decide +kernel, by decide +kernel, by decide +kernel⟩
theorem cvX6_210 : eCalV RX6 210 2 mX1_nextFor := ⟨⟨(eTm (List.mem_of_getElem? (i := 642) (by decide +kernel)) (by decide +kernel)), (eTm (List.mem_of_getElem? (i := 643) (by decide +kernel)) (by decide +kernel)), (eTm (List.mem_of_getElem? (i := 644) (by decide +kernel)) (by decide +kernel)), (eTm (List.mem_of_getElem? (i := 71) (by decide +kernel)) (by decide +kernel)), (eTm (List.mem_of_getElem? (i := 645) (by decide +kernel)) (by decide +kernel))⟩, rfl, rfl, by decide +kernel, by decide +kernel, by decide +kernel⟩
theorem cvX6_213 : eCalV RX6 213 3 mX0_work := ⟨⟨(eTm (List.mem_of_getElem? (i := 661) (by decide +kernel)) (by decide +kernel)), (eTm (List.mem_of_getElem? (i := 662) (by decide +kernel)) (by decide +kernel)), (eTm (List.mem_of_getElem? (i := 663) (by decide +kernel)) (by decide +kernel)), (eTm (List.mem_of_getElem? (i := 70) (by decide +kernel)) (by decide +kernel)), (eTm (List.mem_of_getElem? (i := 664) (by decide +kernel)) (by decide +kernel))⟩, rfl, rfl, by decide +kernel, by decide +kernel, by decide +kernel⟩
theorem cvX6_216 : eCalV RX6 216 2 mX0_rests := ⟨⟨(eTm (List.mem_of_getElem? (i := 672) (by decide +kernel)) (by decide +kernel)), (eTm (List.mem_of_getElem? (i := 673) (by decide +kernel)) (by decide +kernel)), (eTm (List.mem_of_getElem? (i := 674) (by decide +kernel)) (by decide +kernel)), (eTm (List.mem_of_getElem? (i := 70) (by decide +kernel)) (by decide +kernel)), (eTm (List.mem_of_getElem? (i := 675) (by decide +kernel)) (by decide +kernel))⟩, rfl, rfl, by decide +kernel, by decide +kernel, by decide +kernel⟩
theorem cvX6_219 : eCalV RX6 219 0 mX2_seenByAll := ⟨⟨(eTm (List.mem_of_getElem? (i := 680) (by decide +kernel)) (by decide +kernel)), (eTm (List.mem_of_getElem? (i := 681) (by decide +kernel)) (by decide +kernel)), (eTm (List.mem_of_getElem? (i := 682) (by decide +kernel)) (by decide +kernel)), (eTm (List.mem_of_getElem? (i := 67) (by decide +kernel)) (by decide +kernel)), (eTm (List.mem_of_getElem? (i := 683) (by decide +kernel)) (by decide +kernel))⟩, rfl, rfl, by decide +kernel, by decide +kernel, by decide +kernel⟩
theorem csX6_222 : eCalS RX6 222 2 mX6_commonDivisor := ⟨⟨(eTm (List.mem_of_getElem? (i := 685) (by decide +kernel)) (by decide +kernel)), (eTm (List.mem_of_getElem? (i := 686) (by decide +kernel)) (by decide +kernel)), (eTm (List.mem_of_getElem? (i := 66) (by decide +kernel)) (by decide +kernel)), (eTm (List.mem_of_getElem? (i := 687) (by decide +kernel)) (by decide +kernel))⟩, rfl, rfl, by decide +kernel, by decide +kernel, by decide +kernel⟩
theorem cvX6_226 : eCalV RX6 226 0 mX2_openSeats := ⟨⟨(eTm (List.mem_of_getElem? (i := 693) (by decide +kernel)) (by decide +kernel)), (eTm (List.mem_of_getElem? (i := 694) (by decide +kernel)) (by decide +kernel)), (eTm (List.mem_of_getElem? (i := 695) (by decide +kernel)) (by decide +kernel)), (eTm (List.mem_of_getElem? (i := 67) (by decide +kernel)) (by decide +kernel)), (eTm (List.mem_of_getElem? (i := 696) (by decide +kernel)) (by decide +kernel))⟩, rfl, rfl, by decide +kernel, by decide +kernel, by decide +kernel⟩
theorem csX6_243 : eCalS RX6 243 3 mX6_darkOver := ⟨⟨(eTm (List.mem_of_getElem? (i := 704) (by decide +kernel)) (by decide +kernel)), (eTm (List.mem_of_getElem? (i := 705) (by decide +kernel)) (by decide +kernel)), (eTm (List.mem_of_getElem? (i := 66) (by decide +kernel)) (by decide +kernel)), (eTm (List.mem_of_getElem? (i := 706) (by decide +kernel)) (by decide +kernel))⟩, rfl, rfl, by decide +kernel, by decide +kernel, by decide +kernel⟩
theorem cvX6_247 : eCalV RX6 247 1 mX6_howMany := ⟨⟨(eTm (List.mem_of_getElem? (i := 728) (by decide +kernel)) (by decide +kernel)), (eTm (List.mem_of_getElem? (i := 730) (by decide +kernel)) (by decide +kernel)), (eTm (List.mem_of_getElem? (i := 18) (by decide +kernel)) (by decide +kernel)), (eTm (List.mem_of_getElem? (i := 66) (by decide +kernel)) (by decide +kernel)), (eTm (List.mem_of_getElem? (i := 731) (by decide +kernel)) (by decide +kernel))⟩, rfl, rfl, by decide +kernel, by decide +kernel, by decide +kernel⟩
theorem cvX6_254 : eCalV RX6 254 0 mX2_paidByAll := ⟨⟨(eTm (List.mem_of_getElem? (i := 732) (by decide +kernel)) (by decide +kernel)), (eTm (List.mem_of_getElem? (i := 733) (by decide +kernel)) (by decide +kernel)), (eTm (List.mem_of_getElem? (i := 734) (by decide +kernel)) (by decide +kernel)), (eTm (List.mem_of_getElem? (i := 67) (by decide +kernel)) (by decide +kernel)), (eTm (List.mem_of_getElem? (i := 735) (by decide +kernel)) (by decide +kernel))⟩, rfl, rfl, by decide +kernel, by decide +kernel, by decide +kernel⟩
theorem wlX6_257 : Cond.methodLink RX6 257 Lib.Math.abs.name ∈ eTb := (eTm (List.mem_of_getElem? (i := 490) (by decide +kernel)) (by decide +kernel))
theorem wlX6_262 : Cond.methodLink RX6 262 Lib.Math.max.name ∈ eTb := (eTm (List.mem_of_getElem? (i := 493) (by decide +kernel)) (by decide +kernel))
theorem csX6_265 : eCalS RX6 265 3 mX6_darkFrom := ⟨⟨(eTm (List.mem_of_getElem? (i := 707) (by decide +kernel)) (by decide +kernel)), (eTm (List.mem_of_getElem? (i := 488) (by decide +kernel)) (by decide +kernel)), (eTm (List.mem_of_getElem? (i := 66) (by decide +kernel)) (by decide +kernel)), (eTm (List.mem_of_getElem? (i := 489) (by decide +kernel)) (by decide +kernel))⟩, rfl, rfl, by decide +kernel, by decide +kernel, by decide +kernel⟩
theorem csX0_24 : eCalS RX0 24 5 mX0_gets := ⟨⟨(eTm (List.mem_of_getElem? (i := 665) (by decide +kernel)) (by decide +kernel)), (eTm (List.mem_of_getElem? (i := 666) (by decide +kernel)) (by decide +kernel)), (eTm (List.mem_of_getElem? (i := 70) (by decide +kernel)) (by decide +kernel)), (eTm (List.mem_of_getElem? (i := 667) (by decide +kernel)) (by decide +kernel))⟩, rfl, rfl, by decide +kernel, by decide +kernel, by decide +kernel⟩
theorem wlX0_28 : Cond.methodLink RX0 28 Lib.Math.max.name ∈ eTb := (eTm (List.mem_of_getElem? (i := 671) (by decide +kernel)) (by decide +kernel))
theorem cvX0_34 : eCalV RX0 34 3 mX2_hides := ⟨⟨(eTm (List.mem_of_getElem? (i := 668) (by decide +kernel)) (by decide +kernel)), (eTm (List.mem_of_getElem? (i := 480) (by decide +kernel)) (by decide +kernel)), (eTm (List.mem_of_getElem? (i := 481) (by decide +kernel)) (by decide +kernel)), (eTm (List.mem_of_getElem? (i := 67) (by decide +kernel)) (by decide +kernel)), (eTm (List.mem_of_getElem? (i := 482) (by decide +kernel)) (by decide +kernel))⟩, rfl, rfl, by decide +kernel, by decide +kernel, by decide +kernel⟩
theorem cvX0_43 : eCalV RX0 43 1 mX2_darkIn := ⟨⟨(eTm (List.mem_of_getElem? (i := 669) (by decide +kernel)) (by decide +kernel)), (eTm (List.mem_of_getElem? (i := 484) (by decide +kernel)) (by decide +kernel)), (eTm (List.mem_of_getElem? (i := 485) (by decide +kernel)) (by decide +kernel)), (eTm (List.mem_of_getElem? (i := 67) (by decide +kernel)) (by decide +kernel)), (eTm (List.mem_of_getElem? (i := 486) (by decide +kernel)) (by decide +kernel))⟩, rfl, rfl, by decide +kernel, by decide +kernel, by decide +kernel⟩
theorem csX0_50 : eCalS RX0 50 3 mX3_worth := ⟨⟨(eTm (List.mem_of_getElem? (i := 670) (by decide +kernel)) (by decide +kernel)), (eTm (List.mem_of_getElem? (i := 497) (by decide +kernel)) (by decide +kernel)), (eTm (List.mem_of_getElem? (i := 73) (by decide +kernel)) (by decide +kernel)), (eTm (List.mem_of_getElem? (i := 498) (by decide +kernel)) (by decide +kernel))⟩, rfl, rfl, by decide +kernel, by decide +kernel, by decide +kernel⟩
theorem csX1_17 : eCalS RX1 17 3 mX1_fits := ⟨⟨(eTm (List.mem_of_getElem? (i := 634) (by decide +kernel)) (by decide +kernel)), (eTm (List.mem_of_getElem? (i := 635) (by decide +kernel)) (by decide +kernel)), (eTm (List.mem_of_getElem? (i := 71) (by decide +kernel)) (by decide +kernel)), (eTm (List.mem_of_getElem? (i := 636) (by decide +kernel)) (by decide +kernel))⟩, rfl, rfl, by decide +kernel, by decide +kernel, by decide +kernel⟩
theorem cvX1_21 : eCalV RX1 21 2 mX1_kindsOf := ⟨⟨(eTm (List.mem_of_getElem? (i := 646) (by decide +kernel)) (by decide +kernel)), (eTm (List.mem_of_getElem? (i := 631) (by decide +kernel)) (by decide +kernel)), (eTm (List.mem_of_getElem? (i := 632) (by decide +kernel)) (by decide +kernel)), (eTm (List.mem_of_getElem? (i := 71) (by decide +kernel)) (by decide +kernel)), (eTm (List.mem_of_getElem? (i := 633) (by decide +kernel)) (by decide +kernel))⟩, rfl, rfl, by decide +kernel, by decide +kernel, by decide +kernel⟩
theorem cvX1_25 : eCalV RX1 25 1 mX2_darkIn := ⟨⟨(eTm (List.mem_of_getElem? (i := 647) (by decide +kernel)) (by decide +kernel)), (eTm (List.mem_of_getElem? (i := 484) (by decide +kernel)) (by decide +kernel)), (eTm (List.mem_of_getElem? (i := 485) (by decide +kernel)) (by decide +kernel)), (eTm (List.mem_of_getElem? (i := 67) (by decide +kernel)) (by decide +kernel)), (eTm (List.mem_of_getElem? (i := 486) (by decide +kernel)) (by decide +kernel))⟩, rfl, rfl, by decide +kernel, by decide +kernel, by decide +kernel⟩
theorem cvX1_31 : eCalV RX1 31 3 mX1_mostAlike := ⟨⟨(eTm (List.mem_of_getElem? (i := 648) (by decide +kernel)) (by decide +kernel)), (eTm (List.mem_of_getElem? (i := 650) (by decide +kernel)) (by decide +kernel)), (eTm (List.mem_of_getElem? (i := 16) (by decide +kernel)) (by decide +kernel)), (eTm (List.mem_of_getElem? (i := 71) (by decide +kernel)) (by decide +kernel)), (eTm (List.mem_of_getElem? (i := 651) (by decide +kernel)) (by decide +kernel))⟩, rfl, rfl, by decide +kernel, by decide +kernel, by decide +kernel⟩
theorem csX1_42 : eCalS RX1 42 3 mX3_worth := ⟨⟨(eTm (List.mem_of_getElem? (i := 637) (by decide +kernel)) (by decide +kernel)), (eTm (List.mem_of_getElem? (i := 497) (by decide +kernel)) (by decide +kernel)), (eTm (List.mem_of_getElem? (i := 73) (by decide +kernel)) (by decide +kernel)), (eTm (List.mem_of_getElem? (i := 498) (by decide +kernel)) (by decide +kernel))⟩, rfl, rfl, by decide +kernel, by decide +kernel, by decide +kernel⟩
theorem cvX1_45 : eCalV RX1 45 1 mX1_likeOnes := ⟨⟨(eTm (List.mem_of_getElem? (i := 652) (by decide +kernel)) (by decide +kernel)), (eTm (List.mem_of_getElem? (i := 654) (by decide +kernel)) (by decide +kernel)), (eTm (List.mem_of_getElem? (i := 17) (by decide +kernel)) (by decide +kernel)), (eTm (List.mem_of_getElem? (i := 71) (by decide +kernel)) (by decide +kernel)), (eTm (List.mem_of_getElem? (i := 655) (by decide +kernel)) (by decide +kernel))⟩, rfl, rfl, by decide +kernel, by decide +kernel, by decide +kernel⟩
theorem wlX1_48 : Cond.methodLink RX1 48 Lib.Math.max.name ∈ eTb := (eTm (List.mem_of_getElem? (i := 656) (by decide +kernel)) (by decide +kernel))
theorem wlX2_52 : Cond.methodLink RX2 52 arraycopyName ∈ eTb := (eTm (List.mem_of_getElem? (i := 447) (by decide +kernel)) (by decide +kernel))
theorem csX2_58 : eCalS RX2 58 1 mX3_head := ⟨⟨(eTm (List.mem_of_getElem? (i := 319) (by decide +kernel)) (by decide +kernel)), (eTm (List.mem_of_getElem? (i := 320) (by decide +kernel)) (by decide +kernel)), (eTm (List.mem_of_getElem? (i := 73) (by decide +kernel)) (by decide +kernel)), (eTm (List.mem_of_getElem? (i := 321) (by decide +kernel)) (by decide +kernel))⟩, rfl, rfl, by decide +kernel, by decide +kernel, by decide +kernel⟩
theorem cvX2_68 : eCalV RX2 68 1 mX2_holder := ⟨⟨(eTm (List.mem_of_getElem? (i := 556) (by decide +kernel)) (by decide +kernel)), (eTm (List.mem_of_getElem? (i := 436) (by decide +kernel)) (by decide +kernel)), (eTm (List.mem_of_getElem? (i := 437) (by decide +kernel)) (by decide +kernel)), (eTm (List.mem_of_getElem? (i := 67) (by decide +kernel)) (by decide +kernel)), (eTm (List.mem_of_getElem? (i := 438) (by decide +kernel)) (by decide +kernel))⟩, rfl, rfl, by decide +kernel, by decide +kernel, by decide +kernel⟩
theorem cvX2_71 : eCalV RX2 71 3 mX2_hides := ⟨⟨(eTm (List.mem_of_getElem? (i := 479) (by decide +kernel)) (by decide +kernel)), (eTm (List.mem_of_getElem? (i := 480) (by decide +kernel)) (by decide +kernel)), (eTm (List.mem_of_getElem? (i := 481) (by decide +kernel)) (by decide +kernel)), (eTm (List.mem_of_getElem? (i := 67) (by decide +kernel)) (by decide +kernel)), (eTm (List.mem_of_getElem? (i := 482) (by decide +kernel)) (by decide +kernel))⟩, rfl, rfl, by decide +kernel, by decide +kernel, by decide +kernel⟩
theorem cvX2_75 : eCalV RX2 75 3 mX2_isHidden := ⟨⟨(eTm (List.mem_of_getElem? (i := 475) (by decide +kernel)) (by decide +kernel)), (eTm (List.mem_of_getElem? (i := 476) (by decide +kernel)) (by decide +kernel)), (eTm (List.mem_of_getElem? (i := 477) (by decide +kernel)) (by decide +kernel)), (eTm (List.mem_of_getElem? (i := 67) (by decide +kernel)) (by decide +kernel)), (eTm (List.mem_of_getElem? (i := 478) (by decide +kernel)) (by decide +kernel))⟩, rfl, rfl, by decide +kernel, by decide +kernel, by decide +kernel⟩
theorem cvX2_78 : eCalV RX2 78 1 mX2_darkIn := ⟨⟨(eTm (List.mem_of_getElem? (i := 483) (by decide +kernel)) (by decide +kernel)), (eTm (List.mem_of_getElem? (i := 484) (by decide +kernel)) (by decide +kernel)), (eTm (List.mem_of_getElem? (i := 485) (by decide +kernel)) (by decide +kernel)), (eTm (List.mem_of_getElem? (i := 67) (by decide +kernel)) (by decide +kernel)), (eTm (List.mem_of_getElem? (i := 486) (by decide +kernel)) (by decide +kernel))⟩, rfl, rfl, by decide +kernel, by decide +kernel, by decide +kernel⟩
theorem cvX2_81 : eCalV RX2 81 2 mX2_seenIn := ⟨⟨(eTm (List.mem_of_getElem? (i := 471) (by decide +kernel)) (by decide +kernel)), (eTm (List.mem_of_getElem? (i := 472) (by decide +kernel)) (by decide +kernel)), (eTm (List.mem_of_getElem? (i := 473) (by decide +kernel)) (by decide +kernel)), (eTm (List.mem_of_getElem? (i := 67) (by decide +kernel)) (by decide +kernel)), (eTm (List.mem_of_getElem? (i := 474) (by decide +kernel)) (by decide +kernel))⟩, rfl, rfl, by decide +kernel, by decide +kernel, by decide +kernel⟩
theorem cvX2_85 : eCalV RX2 85 1 mX2_seenNow := ⟨⟨(eTm (List.mem_of_getElem? (i := 684) (by decide +kernel)) (by decide +kernel)), (eTm (List.mem_of_getElem? (i := 549) (by decide +kernel)) (by decide +kernel)), (eTm (List.mem_of_getElem? (i := 550) (by decide +kernel)) (by decide +kernel)), (eTm (List.mem_of_getElem? (i := 67) (by decide +kernel)) (by decide +kernel)), (eTm (List.mem_of_getElem? (i := 551) (by decide +kernel)) (by decide +kernel))⟩, rfl, rfl, by decide +kernel, by decide +kernel, by decide +kernel⟩
theorem csX2_88 : eCalS RX2 88 3 mX3_worth := ⟨⟨(eTm (List.mem_of_getElem? (i := 496) (by decide +kernel)) (by decide +kernel)), (eTm (List.mem_of_getElem? (i := 497) (by decide +kernel)) (by decide +kernel)), (eTm (List.mem_of_getElem? (i := 73) (by decide +kernel)) (by decide +kernel)), (eTm (List.mem_of_getElem? (i := 498) (by decide +kernel)) (by decide +kernel))⟩, rfl, rfl, by decide +kernel, by decide +kernel, by decide +kernel⟩
theorem cvX2_91 : eCalV RX2 91 2 mX2_worthIn := ⟨⟨(eTm (List.mem_of_getElem? (i := 467) (by decide +kernel)) (by decide +kernel)), (eTm (List.mem_of_getElem? (i := 468) (by decide +kernel)) (by decide +kernel)), (eTm (List.mem_of_getElem? (i := 469) (by decide +kernel)) (by decide +kernel)), (eTm (List.mem_of_getElem? (i := 67) (by decide +kernel)) (by decide +kernel)), (eTm (List.mem_of_getElem? (i := 470) (by decide +kernel)) (by decide +kernel))⟩, rfl, rfl, by decide +kernel, by decide +kernel, by decide +kernel⟩
theorem wlX2_94 : Cond.methodLink RX2 94 Lib.Math.min.name ∈ eTb := (eTm (List.mem_of_getElem? (i := 499) (by decide +kernel)) (by decide +kernel))
theorem cvX2_99 : eCalV RX2 99 2 mX2_bid := ⟨⟨(eTm (List.mem_of_getElem? (i := 463) (by decide +kernel)) (by decide +kernel)), (eTm (List.mem_of_getElem? (i := 464) (by decide +kernel)) (by decide +kernel)), (eTm (List.mem_of_getElem? (i := 465) (by decide +kernel)) (by decide +kernel)), (eTm (List.mem_of_getElem? (i := 67) (by decide +kernel)) (by decide +kernel)), (eTm (List.mem_of_getElem? (i := 466) (by decide +kernel)) (by decide +kernel))⟩, rfl, rfl, by decide +kernel, by decide +kernel, by decide +kernel⟩
theorem wlX2_102 : Cond.methodLink RX2 102 Lib.Math.max.name ∈ eTb := (eTm (List.mem_of_getElem? (i := 506) (by decide +kernel)) (by decide +kernel))
theorem cvX4_31 : eCalV RX4 31 2 mX4_lookAt := ⟨⟨(eTm (List.mem_of_getElem? (i := 589) (by decide +kernel)) (by decide +kernel)), (eTm (List.mem_of_getElem? (i := 591) (by decide +kernel)) (by decide +kernel)), (eTm (List.mem_of_getElem? (i := 14) (by decide +kernel)) (by decide +kernel)), (eTm (List.mem_of_getElem? (i := 69) (by decide +kernel)) (by decide +kernel)), (eTm (List.mem_of_getElem? (i := 592) (by decide +kernel)) (by decide +kernel))⟩, rfl, rfl, by decide +kernel, by decide +kernel, by decide +kernel⟩
theorem cvX4_35 : eCalV RX4 35 3 mX4_spread := ⟨⟨(eTm (List.mem_of_getElem? (i := 596) (by decide +kernel)) (by decide +kernel)), (eTm (List.mem_of_getElem? (i := 598) (by decide +kernel)) (by decide +kernel)), (eTm (List.mem_of_getElem? (i := 15) (by decide +kernel)) (by decide +kernel)), (eTm (List.mem_of_getElem? (i := 69) (by decide +kernel)) (by decide +kernel)), (eTm (List.mem_of_getElem? (i := 599) (by decide +kernel)) (by decide +kernel))⟩, rfl, rfl, by decide +kernel, by decide +kernel, by decide +kernel⟩
theorem wlX4_39 : Cond.methodLink RX4 39 Lib.Math.max.name ∈ eTb := (eTm (List.mem_of_getElem? (i := 600) (by decide +kernel)) (by decide +kernel))
theorem cvX4_46 : eCalV RX4 46 0 mX4_total := ⟨⟨(eTm (List.mem_of_getElem? (i := 613) (by decide +kernel)) (by decide +kernel)), (eTm (List.mem_of_getElem? (i := 605) (by decide +kernel)) (by decide +kernel)), (eTm (List.mem_of_getElem? (i := 606) (by decide +kernel)) (by decide +kernel)), (eTm (List.mem_of_getElem? (i := 69) (by decide +kernel)) (by decide +kernel)), (eTm (List.mem_of_getElem? (i := 607) (by decide +kernel)) (by decide +kernel))⟩, rfl, rfl, by decide +kernel, by decide +kernel, by decide +kernel⟩
theorem csX4_50 : eCalS RX4 50 1 mX4_seatShift := ⟨⟨(eTm (List.mem_of_getElem? (i := 601) (by decide +kernel)) (by decide +kernel)), (eTm (List.mem_of_getElem? (i := 602) (by decide +kernel)) (by decide +kernel)), (eTm (List.mem_of_getElem? (i := 69) (by decide +kernel)) (by decide +kernel)), (eTm (List.mem_of_getElem? (i := 603) (by decide +kernel)) (by decide +kernel))⟩, rfl, rfl, by decide +kernel, by decide +kernel, by decide +kernel⟩
theorem cvX4_54 : eCalV RX4 54 1 mX2_darkIn := ⟨⟨(eTm (List.mem_of_getElem? (i := 593) (by decide +kernel)) (by decide +kernel)), (eTm (List.mem_of_getElem? (i := 484) (by decide +kernel)) (by decide +kernel)), (eTm (List.mem_of_getElem? (i := 485) (by decide +kernel)) (by decide +kernel)), (eTm (List.mem_of_getElem? (i := 67) (by decide +kernel)) (by decide +kernel)), (eTm (List.mem_of_getElem? (i := 486) (by decide +kernel)) (by decide +kernel))⟩, rfl, rfl, by decide +kernel, by decide +kernel, by decide +kernel⟩
theorem csX4_63 : eCalS RX4 63 3 mX3_worth := ⟨⟨(eTm (List.mem_of_getElem? (i := 594) (by decide +kernel)) (by decide +kernel)), (eTm (List.mem_of_getElem? (i := 497) (by decide +kernel)) (by decide +kernel)), (eTm (List.mem_of_getElem? (i := 73) (by decide +kernel)) (by decide +kernel)), (eTm (List.mem_of_getElem? (i := 498) (by decide +kernel)) (by decide +kernel))⟩, rfl, rfl, by decide +kernel, by decide +kernel, by decide +kernel⟩
theorem wlX4_72 : Cond.methodLink RX4 72 Lib.Math.min.name ∈ eTb := (eTm (List.mem_of_getElem? (i := 595) (by decide +kernel)) (by decide +kernel))
theorem cvX5_31 : eCalV RX5 31 2 mX2_begin := ⟨⟨(eTm (List.mem_of_getElem? (i := 338) (by decide +kernel)) (by decide +kernel)), (eTm (List.mem_of_getElem? (i := 296) (by decide +kernel)) (by decide +kernel)), (eTm (List.mem_of_getElem? (i := 297) (by decide +kernel)) (by decide +kernel)), (eTm (List.mem_of_getElem? (i := 67) (by decide +kernel)) (by decide +kernel)), (eTm (List.mem_of_getElem? (i := 298) (by decide +kernel)) (by decide +kernel))⟩, rfl, rfl, by decide +kernel, by decide +kernel, by decide +kernel⟩
theorem cvX5_37 : eCalV RX5 37 0 mX5_step := ⟨⟨(eTm (List.mem_of_getElem? (i := 339) (by decide +kernel)) (by decide +kernel)), (eTm (List.mem_of_getElem? (i := 341) (by decide +kernel)) (by decide +kernel)), (eTm (List.mem_of_getElem? (i := 2) (by decide +kernel)) (by decide +kernel)), (eTm (List.mem_of_getElem? (i := 68) (by decide +kernel)) (by decide +kernel)), (eTm (List.mem_of_getElem? (i := 342) (by decide +kernel)) (by decide +kernel))⟩, rfl, rfl, by decide +kernel, by decide +kernel, by decide +kernel⟩
theorem cvX5_40 : eCalV RX5 40 2 mX5_takeItem := ⟨⟨(eTm (List.mem_of_getElem? (i := 349) (by decide +kernel)) (by decide +kernel)), (eTm (List.mem_of_getElem? (i := 351) (by decide +kernel)) (by decide +kernel)), (eTm (List.mem_of_getElem? (i := 3) (by decide +kernel)) (by decide +kernel)), (eTm (List.mem_of_getElem? (i := 68) (by decide +kernel)) (by decide +kernel)), (eTm (List.mem_of_getElem? (i := 352) (by decide +kernel)) (by decide +kernel))⟩, rfl, rfl, by decide +kernel, by decide +kernel, by decide +kernel⟩
theorem cvX5_46 : eCalV RX5 46 1 mX5_isWord := ⟨⟨(eTm (List.mem_of_getElem? (i := 354) (by decide +kernel)) (by decide +kernel)), (eTm (List.mem_of_getElem? (i := 356) (by decide +kernel)) (by decide +kernel)), (eTm (List.mem_of_getElem? (i := 4) (by decide +kernel)) (by decide +kernel)), (eTm (List.mem_of_getElem? (i := 68) (by decide +kernel)) (by decide +kernel)), (eTm (List.mem_of_getElem? (i := 357) (by decide +kernel)) (by decide +kernel))⟩, rfl, rfl, by decide +kernel, by decide +kernel, by decide +kernel⟩
theorem cvX5_50 : eCalV RX5 50 1 mX5_takeTrack := ⟨⟨(eTm (List.mem_of_getElem? (i := 406) (by decide +kernel)) (by decide +kernel)), (eTm (List.mem_of_getElem? (i := 408) (by decide +kernel)) (by decide +kernel)), (eTm (List.mem_of_getElem? (i := 5) (by decide +kernel)) (by decide +kernel)), (eTm (List.mem_of_getElem? (i := 68) (by decide +kernel)) (by decide +kernel)), (eTm (List.mem_of_getElem? (i := 409) (by decide +kernel)) (by decide +kernel))⟩, rfl, rfl, by decide +kernel, by decide +kernel, by decide +kernel⟩
theorem cvX5_56 : eCalV RX5 56 1 mX5_takeDark := ⟨⟨(eTm (List.mem_of_getElem? (i := 415) (by decide +kernel)) (by decide +kernel)), (eTm (List.mem_of_getElem? (i := 417) (by decide +kernel)) (by decide +kernel)), (eTm (List.mem_of_getElem? (i := 7) (by decide +kernel)) (by decide +kernel)), (eTm (List.mem_of_getElem? (i := 68) (by decide +kernel)) (by decide +kernel)), (eTm (List.mem_of_getElem? (i := 418) (by decide +kernel)) (by decide +kernel))⟩, rfl, rfl, by decide +kernel, by decide +kernel, by decide +kernel⟩
theorem cvX5_61 : eCalV RX5 61 1 mX5_takeHeights := ⟨⟨(eTm (List.mem_of_getElem? (i := 420) (by decide +kernel)) (by decide +kernel)), (eTm (List.mem_of_getElem? (i := 422) (by decide +kernel)) (by decide +kernel)), (eTm (List.mem_of_getElem? (i := 8) (by decide +kernel)) (by decide +kernel)), (eTm (List.mem_of_getElem? (i := 68) (by decide +kernel)) (by decide +kernel)), (eTm (List.mem_of_getElem? (i := 423) (by decide +kernel)) (by decide +kernel))⟩, rfl, rfl, by decide +kernel, by decide +kernel, by decide +kernel⟩
theorem cvX5_66 : eCalV RX5 66 1 mX5_takeBidder := ⟨⟨(eTm (List.mem_of_getElem? (i := 425) (by decide +kernel)) (by decide +kernel)), (eTm (List.mem_of_getElem? (i := 427) (by decide +kernel)) (by decide +kernel)), (eTm (List.mem_of_getElem? (i := 9) (by decide +kernel)) (by decide +kernel)), (eTm (List.mem_of_getElem? (i := 68) (by decide +kernel)) (by decide +kernel)), (eTm (List.mem_of_getElem? (i := 428) (by decide +kernel)) (by decide +kernel))⟩, rfl, rfl, by decide +kernel, by decide +kernel, by decide +kernel⟩
theorem cvX5_71 : eCalV RX5 71 1 mX5_takeSeat := ⟨⟨(eTm (List.mem_of_getElem? (i := 431) (by decide +kernel)) (by decide +kernel)), (eTm (List.mem_of_getElem? (i := 433) (by decide +kernel)) (by decide +kernel)), (eTm (List.mem_of_getElem? (i := 10) (by decide +kernel)) (by decide +kernel)), (eTm (List.mem_of_getElem? (i := 68) (by decide +kernel)) (by decide +kernel)), (eTm (List.mem_of_getElem? (i := 434) (by decide +kernel)) (by decide +kernel))⟩, rfl, rfl, by decide +kernel, by decide +kernel, by decide +kernel⟩
theorem cvX5_74 : eCalV RX5 74 0 mX5_takeStop := ⟨⟨(eTm (List.mem_of_getElem? (i := 439) (by decide +kernel)) (by decide +kernel)), (eTm (List.mem_of_getElem? (i := 441) (by decide +kernel)) (by decide +kernel)), (eTm (List.mem_of_getElem? (i := 11) (by decide +kernel)) (by decide +kernel)), (eTm (List.mem_of_getElem? (i := 68) (by decide +kernel)) (by decide +kernel)), (eTm (List.mem_of_getElem? (i := 442) (by decide +kernel)) (by decide +kernel))⟩, rfl, rfl, by decide +kernel, by decide +kernel, by decide +kernel⟩
theorem cvX5_78 : eCalV RX5 78 1 mX5_takeNumber := ⟨⟨(eTm (List.mem_of_getElem? (i := 410) (by decide +kernel)) (by decide +kernel)), (eTm (List.mem_of_getElem? (i := 412) (by decide +kernel)) (by decide +kernel)), (eTm (List.mem_of_getElem? (i := 6) (by decide +kernel)) (by decide +kernel)), (eTm (List.mem_of_getElem? (i := 68) (by decide +kernel)) (by decide +kernel)), (eTm (List.mem_of_getElem? (i := 413) (by decide +kernel)) (by decide +kernel))⟩, rfl, rfl, by decide +kernel, by decide +kernel, by decide +kernel⟩
theorem cvX5_95 : eCalV RX5 95 2 mX2_addBidder := ⟨⟨(eTm (List.mem_of_getElem? (i := 429) (by decide +kernel)) (by decide +kernel)), (eTm (List.mem_of_getElem? (i := 316) (by decide +kernel)) (by decide +kernel)), (eTm (List.mem_of_getElem? (i := 317) (by decide +kernel)) (by decide +kernel)), (eTm (List.mem_of_getElem? (i := 67) (by decide +kernel)) (by decide +kernel)), (eTm (List.mem_of_getElem? (i := 318) (by decide +kernel)) (by decide +kernel))⟩, rfl, rfl, by decide +kernel, by decide +kernel, by decide +kernel⟩
theorem cvX5_102 : eCalV RX5 102 1 mX2_holder := ⟨⟨(eTm (List.mem_of_getElem? (i := 435) (by decide +kernel)) (by decide +kernel)), (eTm (List.mem_of_getElem? (i := 436) (by decide +kernel)) (by decide +kernel)), (eTm (List.mem_of_getElem? (i := 437) (by decide +kernel)) (by decide +kernel)), (eTm (List.mem_of_getElem? (i := 67) (by decide +kernel)) (by decide +kernel)), (eTm (List.mem_of_getElem? (i := 438) (by decide +kernel)) (by decide +kernel))⟩, rfl, rfl, by decide +kernel, by decide +kernel, by decide +kernel⟩
theorem csX5_106 : eCalS RX5 106 1 mX5_isLetter := ⟨⟨(eTm (List.mem_of_getElem? (i := 343) (by decide +kernel)) (by decide +kernel)), (eTm (List.mem_of_getElem? (i := 344) (by decide +kernel)) (by decide +kernel)), (eTm (List.mem_of_getElem? (i := 68) (by decide +kernel)) (by decide +kernel)), (eTm (List.mem_of_getElem? (i := 345) (by decide +kernel)) (by decide +kernel))⟩, rfl, rfl, by decide +kernel, by decide +kernel, by decide +kernel⟩
theorem csX5_109 : eCalS RX5 109 1 mX5_isFigure := ⟨⟨(eTm (List.mem_of_getElem? (i := 346) (by decide +kernel)) (by decide +kernel)), (eTm (List.mem_of_getElem? (i := 347) (by decide +kernel)) (by decide +kernel)), (eTm (List.mem_of_getElem? (i := 68) (by decide +kernel)) (by decide +kernel)), (eTm (List.mem_of_getElem? (i := 348) (by decide +kernel)) (by decide +kernel))⟩, rfl, rfl, by decide +kernel, by decide +kernel, by decide +kernel⟩
theorem cvL_13 : eCalV RL 13 2 mX6_hill := ⟨⟨(eTm (List.mem_of_getElem? (i := 278) (by decide +kernel)) (by decide +kernel)), (eTm (List.mem_of_getElem? (i := 279) (by decide +kernel)) (by decide +kernel)), (eTm (List.mem_of_getElem? (i := 280) (by decide +kernel)) (by decide +kernel)), (eTm (List.mem_of_getElem? (i := 66) (by decide +kernel)) (by decide +kernel)), (eTm (List.mem_of_getElem? (i := 281) (by decide +kernel)) (by decide +kernel))⟩, rfl, rfl, by decide +kernel, by decide +kernel, by decide +kernel⟩
theorem cvL_17 : eCalV RL 17 2 mX7_hill := ⟨⟨(eTm (List.mem_of_getElem? (i := 849) (by decide +kernel)) (by decide +kernel)), (eTm (List.mem_of_getElem? (i := 850) (by decide +kernel)) (by decide +kernel)), (eTm (List.mem_of_getElem? (i := 851) (by decide +kernel)) (by decide +kernel)), (eTm (List.mem_of_getElem? (i := 72) (by decide +kernel)) (by decide +kernel)), (eTm (List.mem_of_getElem? (i := 852) (by decide +kernel)) (by decide +kernel))⟩, rfl, rfl, by decide +kernel, by decide +kernel, by decide +kernel⟩
theorem cvL_18 : eCalV RL 18 2 mX6_track := ⟨⟨(eTm (List.mem_of_getElem? (i := 299) (by decide +kernel)) (by decide +kernel)), (eTm (List.mem_of_getElem? (i := 300) (by decide +kernel)) (by decide +kernel)), (eTm (List.mem_of_getElem? (i := 301) (by decide +kernel)) (by decide +kernel)), (eTm (List.mem_of_getElem? (i := 66) (by decide +kernel)) (by decide +kernel)), (eTm (List.mem_of_getElem? (i := 302) (by decide +kernel)) (by decide +kernel))⟩, rfl, rfl, by decide +kernel, by decide +kernel, by decide +kernel⟩
theorem cvL_21 : eCalV RL 21 2 mX7_track := ⟨⟨(eTm (List.mem_of_getElem? (i := 863) (by decide +kernel)) (by decide +kernel)), (eTm (List.mem_of_getElem? (i := 864) (by decide +kernel)) (by decide +kernel)), (eTm (List.mem_of_getElem? (i := 865) (by decide +kernel)) (by decide +kernel)), (eTm (List.mem_of_getElem? (i := 72) (by decide +kernel)) (by decide +kernel)), (eTm (List.mem_of_getElem? (i := 866) (by decide +kernel)) (by decide +kernel))⟩, rfl, rfl, by decide +kernel, by decide +kernel, by decide +kernel⟩
theorem cvL_22 : eCalV RL 22 2 mX6_height := ⟨⟨(eTm (List.mem_of_getElem? (i := 303) (by decide +kernel)) (by decide +kernel)), (eTm (List.mem_of_getElem? (i := 304) (by decide +kernel)) (by decide +kernel)), (eTm (List.mem_of_getElem? (i := 305) (by decide +kernel)) (by decide +kernel)), (eTm (List.mem_of_getElem? (i := 66) (by decide +kernel)) (by decide +kernel)), (eTm (List.mem_of_getElem? (i := 306) (by decide +kernel)) (by decide +kernel))⟩, rfl, rfl, by decide +kernel, by decide +kernel, by decide +kernel⟩
theorem cvL_25 : eCalV RL 25 2 mX7_height := ⟨⟨(eTm (List.mem_of_getElem? (i := 867) (by decide +kernel)) (by decide +kernel)), (eTm (List.mem_of_getElem? (i := 868) (by decide +kernel)) (by decide +kernel)), (eTm (List.mem_of_getElem? (i := 869) (by decide +kernel)) (by decide +kernel)), (eTm (List.mem_of_getElem? (i := 72) (by decide +kernel)) (by decide +kernel)), (eTm (List.mem_of_getElem? (i := 870) (by decide +kernel)) (by decide +kernel))⟩, rfl, rfl, by decide +kernel, by decide +kernel, by decide +kernel⟩
theorem cvL_26 : eCalV RL 26 2 mX6_one := ⟨⟨(eTm (List.mem_of_getElem? (i := 307) (by decide +kernel)) (by decide +kernel)), (eTm (List.mem_of_getElem? (i := 308) (by decide +kernel)) (by decide +kernel)), (eTm (List.mem_of_getElem? (i := 309) (by decide +kernel)) (by decide +kernel)), (eTm (List.mem_of_getElem? (i := 66) (by decide +kernel)) (by decide +kernel)), (eTm (List.mem_of_getElem? (i := 310) (by decide +kernel)) (by decide +kernel))⟩, rfl, rfl, by decide +kernel, by decide +kernel, by decide +kernel⟩
theorem cvL_29 : eCalV RL 29 2 mX7_one := ⟨⟨(eTm (List.mem_of_getElem? (i := 871) (by decide +kernel)) (by decide +kernel)), (eTm (List.mem_of_getElem? (i := 872) (by decide +kernel)) (by decide +kernel)), (eTm (List.mem_of_getElem? (i := 873) (by decide +kernel)) (by decide +kernel)), (eTm (List.mem_of_getElem? (i := 72) (by decide +kernel)) (by decide +kernel)), (eTm (List.mem_of_getElem? (i := 874) (by decide +kernel)) (by decide +kernel))⟩, rfl, rfl, by decide +kernel, by decide +kernel, by decide +kernel⟩
theorem cvL_30 : eCalV RL 30 1 mX6_type := ⟨⟨(eTm (List.mem_of_getElem? (i := 322) (by decide +kernel)) (by decide +kernel)), (eTm (List.mem_of_getElem? (i := 323) (by decide +kernel)) (by decide +kernel)), (eTm (List.mem_of_getElem? (i := 324) (by decide +kernel)) (by decide +kernel)), (eTm (List.mem_of_getElem? (i := 66) (by decide +kernel)) (by decide +kernel)), (eTm (List.mem_of_getElem? (i := 325) (by decide +kernel)) (by decide +kernel))⟩, rfl, rfl, by decide +kernel, by decide +kernel, by decide +kernel⟩
theorem cvL_34 : eCalV RL 34 1 mX7_type := ⟨⟨(eTm (List.mem_of_getElem? (i := 883) (by decide +kernel)) (by decide +kernel)), (eTm (List.mem_of_getElem? (i := 884) (by decide +kernel)) (by decide +kernel)), (eTm (List.mem_of_getElem? (i := 885) (by decide +kernel)) (by decide +kernel)), (eTm (List.mem_of_getElem? (i := 72) (by decide +kernel)) (by decide +kernel)), (eTm (List.mem_of_getElem? (i := 886) (by decide +kernel)) (by decide +kernel))⟩, rfl, rfl, by decide +kernel, by decide +kernel, by decide +kernel⟩
theorem cvL_35 : eCalV RL 35 0 mX6_clear := ⟨⟨(eTm (List.mem_of_getElem? (i := 326) (by decide +kernel)) (by decide +kernel)), (eTm (List.mem_of_getElem? (i := 327) (by decide +kernel)) (by decide +kernel)), (eTm (List.mem_of_getElem? (i := 328) (by decide +kernel)) (by decide +kernel)), (eTm (List.mem_of_getElem? (i := 66) (by decide +kernel)) (by decide +kernel)), (eTm (List.mem_of_getElem? (i := 329) (by decide +kernel)) (by decide +kernel))⟩, rfl, rfl, by decide +kernel, by decide +kernel, by decide +kernel⟩
theorem cvL_39 : eCalV RL 39 0 mX7_clear := ⟨⟨(eTm (List.mem_of_getElem? (i := 887) (by decide +kernel)) (by decide +kernel)), (eTm (List.mem_of_getElem? (i := 888) (by decide +kernel)) (by decide +kernel)), (eTm (List.mem_of_getElem? (i := 889) (by decide +kernel)) (by decide +kernel)), (eTm (List.mem_of_getElem? (i := 72) (by decide +kernel)) (by decide +kernel)), (eTm (List.mem_of_getElem? (i := 890) (by decide +kernel)) (by decide +kernel))⟩, rfl, rfl, by decide +kernel, by decide +kernel, by decide +kernel⟩
theorem cvL_40 : eCalV RL 40 0 mX6_read := ⟨⟨(eTm (List.mem_of_getElem? (i := 330) (by decide +kernel)) (by decide +kernel)), (eTm (List.mem_of_getElem? (i := 331) (by decide +kernel)) (by decide +kernel)), (eTm (List.mem_of_getElem? (i := 332) (by decide +kernel)) (by decide +kernel)), (eTm (List.mem_of_getElem? (i := 66) (by decide +kernel)) (by decide +kernel)), (eTm (List.mem_of_getElem? (i := 333) (by decide +kernel)) (by decide +kernel))⟩, rfl, rfl, by decide +kernel, by decide +kernel, by decide +kernel⟩
theorem cvL_43 : eCalV RL 43 0 mX7_read := ⟨⟨(eTm (List.mem_of_getElem? (i := 891) (by decide +kernel)) (by decide +kernel)), (eTm (List.mem_of_getElem? (i := 892) (by decide +kernel)) (by decide +kernel)), (eTm (List.mem_of_getElem? (i := 893) (by decide +kernel)) (by decide +kernel)), (eTm (List.mem_of_getElem? (i := 72) (by decide +kernel)) (by decide +kernel)), (eTm (List.mem_of_getElem? (i := 894) (by decide +kernel)) (by decide +kernel))⟩, rfl, rfl, by decide +kernel, by decide +kernel, by decide +kernel⟩
theorem cvL_44 : eCalV RL 44 1 mX6_sell := ⟨⟨(eTm (List.mem_of_getElem? (i := 450) (by decide +kernel)) (by decide +kernel)), (eTm (List.mem_of_getElem? (i := 451) (by decide +kernel)) (by decide +kernel)), (eTm (List.mem_of_getElem? (i := 452) (by decide +kernel)) (by decide +kernel)), (eTm (List.mem_of_getElem? (i := 66) (by decide +kernel)) (by decide +kernel)), (eTm (List.mem_of_getElem? (i := 453) (by decide +kernel)) (by decide +kernel))⟩, rfl, rfl, by decide +kernel, by decide +kernel, by decide +kernel⟩
theorem cvL_47 : eCalV RL 47 1 mX7_sell := ⟨⟨(eTm (List.mem_of_getElem? (i := 961) (by decide +kernel)) (by decide +kernel)), (eTm (List.mem_of_getElem? (i := 962) (by decide +kernel)) (by decide +kernel)), (eTm (List.mem_of_getElem? (i := 963) (by decide +kernel)) (by decide +kernel)), (eTm (List.mem_of_getElem? (i := 72) (by decide +kernel)) (by decide +kernel)), (eTm (List.mem_of_getElem? (i := 964) (by decide +kernel)) (by decide +kernel))⟩, rfl, rfl, by decide +kernel, by decide +kernel, by decide +kernel⟩
theorem cvL_48 : eCalV RL 48 1 mX6_leave := ⟨⟨(eTm (List.mem_of_getElem? (i := 511) (by decide +kernel)) (by decide +kernel)), (eTm (List.mem_of_getElem? (i := 512) (by decide +kernel)) (by decide +kernel)), (eTm (List.mem_of_getElem? (i := 513) (by decide +kernel)) (by decide +kernel)), (eTm (List.mem_of_getElem? (i := 66) (by decide +kernel)) (by decide +kernel)), (eTm (List.mem_of_getElem? (i := 514) (by decide +kernel)) (by decide +kernel))⟩, rfl, rfl, by decide +kernel, by decide +kernel, by decide +kernel⟩
theorem cvL_51 : eCalV RL 51 1 mX7_leave := ⟨⟨(eTm (List.mem_of_getElem? (i := 1018) (by decide +kernel)) (by decide +kernel)), (eTm (List.mem_of_getElem? (i := 1019) (by decide +kernel)) (by decide +kernel)), (eTm (List.mem_of_getElem? (i := 1020) (by decide +kernel)) (by decide +kernel)), (eTm (List.mem_of_getElem? (i := 72) (by decide +kernel)) (by decide +kernel)), (eTm (List.mem_of_getElem? (i := 1021) (by decide +kernel)) (by decide +kernel))⟩, rfl, rfl, by decide +kernel, by decide +kernel, by decide +kernel⟩
theorem cvL_52 : eCalV RL 52 2 mX6_moves := ⟨⟨(eTm (List.mem_of_getElem? (i := 519) (by decide +kernel)) (by decide +kernel)), (eTm (List.mem_of_getElem? (i := 520) (by decide +kernel)) (by decide +kernel)), (eTm (List.mem_of_getElem? (i := 521) (by decide +kernel)) (by decide +kernel)), (eTm (List.mem_of_getElem? (i := 66) (by decide +kernel)) (by decide +kernel)), (eTm (List.mem_of_getElem? (i := 522) (by decide +kernel)) (by decide +kernel))⟩, rfl, rfl, by decide +kernel, by decide +kernel, by decide +kernel⟩
theorem cvL_55 : eCalV RL 55 2 mX7_moves := ⟨⟨(eTm (List.mem_of_getElem? (i := 1026) (by decide +kernel)) (by decide +kernel)), (eTm (List.mem_of_getElem? (i := 1027) (by decide +kernel)) (by decide +kernel)), (eTm (List.mem_of_getElem? (i := 1028) (by decide +kernel)) (by decide +kernel)), (eTm (List.mem_of_getElem? (i := 72) (by decide +kernel)) (by decide +kernel)), (eTm (List.mem_of_getElem? (i := 1029) (by decide +kernel)) (by decide +kernel))⟩, rfl, rfl, by decide +kernel, by decide +kernel, by decide +kernel⟩
theorem cvL_56 : eCalV RL 56 0 mX6_undo := ⟨⟨(eTm (List.mem_of_getElem? (i := 523) (by decide +kernel)) (by decide +kernel)), (eTm (List.mem_of_getElem? (i := 524) (by decide +kernel)) (by decide +kernel)), (eTm (List.mem_of_getElem? (i := 525) (by decide +kernel)) (by decide +kernel)), (eTm (List.mem_of_getElem? (i := 66) (by decide +kernel)) (by decide +kernel)), (eTm (List.mem_of_getElem? (i := 526) (by decide +kernel)) (by decide +kernel))⟩, rfl, rfl, by decide +kernel, by decide +kernel, by decide +kernel⟩
theorem cvL_59 : eCalV RL 59 0 mX7_undo := ⟨⟨(eTm (List.mem_of_getElem? (i := 1030) (by decide +kernel)) (by decide +kernel)), (eTm (List.mem_of_getElem? (i := 1031) (by decide +kernel)) (by decide +kernel)), (eTm (List.mem_of_getElem? (i := 1032) (by decide +kernel)) (by decide +kernel)), (eTm (List.mem_of_getElem? (i := 72) (by decide +kernel)) (by decide +kernel)), (eTm (List.mem_of_getElem? (i := 1033) (by decide +kernel)) (by decide +kernel))⟩, rfl, rfl, by decide +kernel, by decide +kernel, by decide +kernel⟩
theorem cvL_60 : eCalV RL 60 2 mX6_of := ⟨⟨(eTm (List.mem_of_getElem? (i := 535) (by decide +kernel)) (by decide +kernel)), (eTm (List.mem_of_getElem? (i := 536) (by decide +kernel)) (by decide +kernel)), (eTm (List.mem_of_getElem? (i := 537) (by decide +kernel)) (by decide +kernel)), (eTm (List.mem_of_getElem? (i := 66) (by decide +kernel)) (by decide +kernel)), (eTm (List.mem_of_getElem? (i := 538) (by decide +kernel)) (by decide +kernel))⟩, rfl, rfl, by decide +kernel, by decide +kernel, by decide +kernel⟩
theorem cvL_63 : eCalV RL 63 2 mX7_of := ⟨⟨(eTm (List.mem_of_getElem? (i := 1042) (by decide +kernel)) (by decide +kernel)), (eTm (List.mem_of_getElem? (i := 1043) (by decide +kernel)) (by decide +kernel)), (eTm (List.mem_of_getElem? (i := 1044) (by decide +kernel)) (by decide +kernel)), (eTm (List.mem_of_getElem? (i := 72) (by decide +kernel)) (by decide +kernel)), (eTm (List.mem_of_getElem? (i := 1045) (by decide +kernel)) (by decide +kernel))⟩, rfl, rfl, by decide +kernel, by decide +kernel, by decide +kernel⟩
theorem cvL_64 : eCalV RL 64 2 mX6_yard := ⟨⟨(eTm (List.mem_of_getElem? (i := 539) (by decide +kernel)) (by decide +kernel)), (eTm (List.mem_of_getElem? (i := 540) (by decide +kernel)) (by decide +kernel)), (eTm (List.mem_of_getElem? (i := 541) (by decide +kernel)) (by decide +kernel)), (eTm (List.mem_of_getElem? (i := 66) (by decide +kernel)) (by decide +kernel)), (eTm (List.mem_of_getElem? (i := 542) (by decide +kernel)) (by decide +kernel))⟩, rfl, rfl, by decide +kernel, by decide +kernel, by decide +kernel⟩
theorem cvL_67 : eCalV RL 67 2 mX7_yard := ⟨⟨(eTm (List.mem_of_getElem? (i := 1050) (by decide +kernel)) (by decide +kernel)), (eTm (List.mem_of_getElem? (i := 1051) (by decide +kernel)) (by decide +kernel)), (eTm (List.mem_of_getElem? (i := 1052) (by decide +kernel)) (by decide +kernel)), (eTm (List.mem_of_getElem? (i := 72) (by decide +kernel)) (by decide +kernel)), (eTm (List.mem_of_getElem? (i := 1053) (by decide +kernel)) (by decide +kernel))⟩, rfl, rfl, by decide +kernel, by decide +kernel, by decide +kernel⟩
theorem cvL_68 : eCalV RL 68 2 mX6_sees := ⟨⟨(eTm (List.mem_of_getElem? (i := 544) (by decide +kernel)) (by decide +kernel)), (eTm (List.mem_of_getElem? (i := 545) (by decide +kernel)) (by decide +kernel)), (eTm (List.mem_of_getElem? (i := 546) (by decide +kernel)) (by decide +kernel)), (eTm (List.mem_of_getElem? (i := 66) (by decide +kernel)) (by decide +kernel)), (eTm (List.mem_of_getElem? (i := 547) (by decide +kernel)) (by decide +kernel))⟩, rfl, rfl, by decide +kernel, by decide +kernel, by decide +kernel⟩
theorem cvL_71 : eCalV RL 71 2 mX7_sees := ⟨⟨(eTm (List.mem_of_getElem? (i := 1054) (by decide +kernel)) (by decide +kernel)), (eTm (List.mem_of_getElem? (i := 1055) (by decide +kernel)) (by decide +kernel)), (eTm (List.mem_of_getElem? (i := 1056) (by decide +kernel)) (by decide +kernel)), (eTm (List.mem_of_getElem? (i := 72) (by decide +kernel)) (by decide +kernel)), (eTm (List.mem_of_getElem? (i := 1057) (by decide +kernel)) (by decide +kernel))⟩, rfl, rfl, by decide +kernel, by decide +kernel, by decide +kernel⟩
theorem cvL_72 : eCalV RL 72 2 mX6_gives := ⟨⟨(eTm (List.mem_of_getElem? (i := 558) (by decide +kernel)) (by decide +kernel)), (eTm (List.mem_of_getElem? (i := 559) (by decide +kernel)) (by decide +kernel)), (eTm (List.mem_of_getElem? (i := 560) (by decide +kernel)) (by decide +kernel)), (eTm (List.mem_of_getElem? (i := 66) (by decide +kernel)) (by decide +kernel)), (eTm (List.mem_of_getElem? (i := 561) (by decide +kernel)) (by decide +kernel))⟩, rfl, rfl, by decide +kernel, by decide +kernel, by decide +kernel⟩
theorem cvL_75 : eCalV RL 75 2 mX7_gives := ⟨⟨(eTm (List.mem_of_getElem? (i := 1062) (by decide +kernel)) (by decide +kernel)), (eTm (List.mem_of_getElem? (i := 1063) (by decide +kernel)) (by decide +kernel)), (eTm (List.mem_of_getElem? (i := 1064) (by decide +kernel)) (by decide +kernel)), (eTm (List.mem_of_getElem? (i := 72) (by decide +kernel)) (by decide +kernel)), (eTm (List.mem_of_getElem? (i := 1065) (by decide +kernel)) (by decide +kernel))⟩, rfl, rfl, by decide +kernel, by decide +kernel, by decide +kernel⟩
theorem cvL_76 : eCalV RL 76 2 mX6_auction := ⟨⟨(eTm (List.mem_of_getElem? (i := 563) (by decide +kernel)) (by decide +kernel)), (eTm (List.mem_of_getElem? (i := 564) (by decide +kernel)) (by decide +kernel)), (eTm (List.mem_of_getElem? (i := 565) (by decide +kernel)) (by decide +kernel)), (eTm (List.mem_of_getElem? (i := 66) (by decide +kernel)) (by decide +kernel)), (eTm (List.mem_of_getElem? (i := 566) (by decide +kernel)) (by decide +kernel))⟩, rfl, rfl, by decide +kernel, by decide +kernel, by decide +kernel⟩
theorem cvL_79 : eCalV RL 79 2 mX7_auction := ⟨⟨(eTm (List.mem_of_getElem? (i := 1070) (by decide +kernel)) (by decide +kernel)), (eTm (List.mem_of_getElem? (i := 1071) (by decide +kernel)) (by decide +kernel)), (eTm (List.mem_of_getElem? (i := 1072) (by decide +kernel)) (by decide +kernel)), (eTm (List.mem_of_getElem? (i := 72) (by decide +kernel)) (by decide +kernel)), (eTm (List.mem_of_getElem? (i := 1073) (by decide +kernel)) (by decide +kernel))⟩, rfl, rfl, by decide +kernel, by decide +kernel, by decide +kernel⟩
theorem cvL_80 : eCalV RL 80 2 mX6_hurt := ⟨⟨(eTm (List.mem_of_getElem? (i := 567) (by decide +kernel)) (by decide +kernel)), (eTm (List.mem_of_getElem? (i := 568) (by decide +kernel)) (by decide +kernel)), (eTm (List.mem_of_getElem? (i := 569) (by decide +kernel)) (by decide +kernel)), (eTm (List.mem_of_getElem? (i := 66) (by decide +kernel)) (by decide +kernel)), (eTm (List.mem_of_getElem? (i := 570) (by decide +kernel)) (by decide +kernel))⟩, rfl, rfl, by decide +kernel, by decide +kernel, by decide +kernel⟩
theorem cvL_83 : eCalV RL 83 2 mX7_hurt := ⟨⟨(eTm (List.mem_of_getElem? (i := 1074) (by decide +kernel)) (by decide +kernel)), (eTm (List.mem_of_getElem? (i := 1075) (by decide +kernel)) (by decide +kernel)), (eTm (List.mem_of_getElem? (i := 1076) (by decide +kernel)) (by decide +kernel)), (eTm (List.mem_of_getElem? (i := 72) (by decide +kernel)) (by decide +kernel)), (eTm (List.mem_of_getElem? (i := 1077) (by decide +kernel)) (by decide +kernel))⟩, rfl, rfl, by decide +kernel, by decide +kernel, by decide +kernel⟩
theorem cvL_84 : eCalV RL 84 2 mX6_best := ⟨⟨(eTm (List.mem_of_getElem? (i := 575) (by decide +kernel)) (by decide +kernel)), (eTm (List.mem_of_getElem? (i := 576) (by decide +kernel)) (by decide +kernel)), (eTm (List.mem_of_getElem? (i := 577) (by decide +kernel)) (by decide +kernel)), (eTm (List.mem_of_getElem? (i := 66) (by decide +kernel)) (by decide +kernel)), (eTm (List.mem_of_getElem? (i := 578) (by decide +kernel)) (by decide +kernel))⟩, rfl, rfl, by decide +kernel, by decide +kernel, by decide +kernel⟩
theorem cvL_87 : eCalV RL 87 2 mX7_best := ⟨⟨(eTm (List.mem_of_getElem? (i := 1086) (by decide +kernel)) (by decide +kernel)), (eTm (List.mem_of_getElem? (i := 1087) (by decide +kernel)) (by decide +kernel)), (eTm (List.mem_of_getElem? (i := 1088) (by decide +kernel)) (by decide +kernel)), (eTm (List.mem_of_getElem? (i := 72) (by decide +kernel)) (by decide +kernel)), (eTm (List.mem_of_getElem? (i := 1089) (by decide +kernel)) (by decide +kernel))⟩, rfl, rfl, by decide +kernel, by decide +kernel, by decide +kernel⟩
theorem cvL_88 : eCalV RL 88 1 mX6_all := ⟨⟨(eTm (List.mem_of_getElem? (i := 580) (by decide +kernel)) (by decide +kernel)), (eTm (List.mem_of_getElem? (i := 581) (by decide +kernel)) (by decide +kernel)), (eTm (List.mem_of_getElem? (i := 582) (by decide +kernel)) (by decide +kernel)), (eTm (List.mem_of_getElem? (i := 66) (by decide +kernel)) (by decide +kernel)), (eTm (List.mem_of_getElem? (i := 583) (by decide +kernel)) (by decide +kernel))⟩, rfl, rfl, by decide +kernel, by decide +kernel, by decide +kernel⟩
theorem cvL_91 : eCalV RL 91 1 mX7_all := ⟨⟨(eTm (List.mem_of_getElem? (i := 1090) (by decide +kernel)) (by decide +kernel)), (eTm (List.mem_of_getElem? (i := 1091) (by decide +kernel)) (by decide +kernel)), (eTm (List.mem_of_getElem? (i := 1092) (by decide +kernel)) (by decide +kernel)), (eTm (List.mem_of_getElem? (i := 72) (by decide +kernel)) (by decide +kernel)), (eTm (List.mem_of_getElem? (i := 1093) (by decide +kernel)) (by decide +kernel))⟩, rfl, rfl, by decide +kernel, by decide +kernel, by decide +kernel⟩
theorem cvL_92 : eCalV RL 92 1 mX6_move := ⟨⟨(eTm (List.mem_of_getElem? (i := 614) (by decide +kernel)) (by decide +kernel)), (eTm (List.mem_of_getElem? (i := 615) (by decide +kernel)) (by decide +kernel)), (eTm (List.mem_of_getElem? (i := 616) (by decide +kernel)) (by decide +kernel)), (eTm (List.mem_of_getElem? (i := 66) (by decide +kernel)) (by decide +kernel)), (eTm (List.mem_of_getElem? (i := 617) (by decide +kernel)) (by decide +kernel))⟩, rfl, rfl, by decide +kernel, by decide +kernel, by decide +kernel⟩
theorem cvL_95 : eCalV RL 95 1 mX7_move := ⟨⟨(eTm (List.mem_of_getElem? (i := 1101) (by decide +kernel)) (by decide +kernel)), (eTm (List.mem_of_getElem? (i := 1102) (by decide +kernel)) (by decide +kernel)), (eTm (List.mem_of_getElem? (i := 1103) (by decide +kernel)) (by decide +kernel)), (eTm (List.mem_of_getElem? (i := 72) (by decide +kernel)) (by decide +kernel)), (eTm (List.mem_of_getElem? (i := 1104) (by decide +kernel)) (by decide +kernel))⟩, rfl, rfl, by decide +kernel, by decide +kernel, by decide +kernel⟩
theorem cvL_96 : eCalV RL 96 4 mX6_note := ⟨⟨(eTm (List.mem_of_getElem? (i := 618) (by decide +kernel)) (by decide +kernel)), (eTm (List.mem_of_getElem? (i := 619) (by decide +kernel)) (by decide +kernel)), (eTm (List.mem_of_getElem? (i := 620) (by decide +kernel)) (by decide +kernel)), (eTm (List.mem_of_getElem? (i := 66) (by decide +kernel)) (by decide +kernel)), (eTm (List.mem_of_getElem? (i := 621) (by decide +kernel)) (by decide +kernel))⟩, rfl, rfl, by decide +kernel, by decide +kernel, by decide +kernel⟩
theorem cvL_100 : eCalV RL 100 4 mX7_note := ⟨⟨(eTm (List.mem_of_getElem? (i := 1105) (by decide +kernel)) (by decide +kernel)), (eTm (List.mem_of_getElem? (i := 1106) (by decide +kernel)) (by decide +kernel)), (eTm (List.mem_of_getElem? (i := 1107) (by decide +kernel)) (by decide +kernel)), (eTm (List.mem_of_getElem? (i := 72) (by decide +kernel)) (by decide +kernel)), (eTm (List.mem_of_getElem? (i := 1108) (by decide +kernel)) (by decide +kernel))⟩, rfl, rfl, by decide +kernel, by decide +kernel, by decide +kernel⟩
theorem cvL_101 : eCalV RL 101 0 mX6_forget := ⟨⟨(eTm (List.mem_of_getElem? (i := 622) (by decide +kernel)) (by decide +kernel)), (eTm (List.mem_of_getElem? (i := 623) (by decide +kernel)) (by decide +kernel)), (eTm (List.mem_of_getElem? (i := 624) (by decide +kernel)) (by decide +kernel)), (eTm (List.mem_of_getElem? (i := 66) (by decide +kernel)) (by decide +kernel)), (eTm (List.mem_of_getElem? (i := 625) (by decide +kernel)) (by decide +kernel))⟩, rfl, rfl, by decide +kernel, by decide +kernel, by decide +kernel⟩
theorem cvL_104 : eCalV RL 104 0 mX7_forget := ⟨⟨(eTm (List.mem_of_getElem? (i := 1109) (by decide +kernel)) (by decide +kernel)), (eTm (List.mem_of_getElem? (i := 1110) (by decide +kernel)) (by decide +kernel)), (eTm (List.mem_of_getElem? (i := 1111) (by decide +kernel)) (by decide +kernel)), (eTm (List.mem_of_getElem? (i := 72) (by decide +kernel)) (by decide +kernel)), (eTm (List.mem_of_getElem? (i := 1112) (by decide +kernel)) (by decide +kernel))⟩, rfl, rfl, by decide +kernel, by decide +kernel, by decide +kernel⟩
theorem cvL_105 : eCalV RL 105 1 mX6_is := ⟨⟨(eTm (List.mem_of_getElem? (i := 626) (by decide +kernel)) (by decide +kernel)), (eTm (List.mem_of_getElem? (i := 627) (by decide +kernel)) (by decide +kernel)), (eTm (List.mem_of_getElem? (i := 628) (by decide +kernel)) (by decide +kernel)), (eTm (List.mem_of_getElem? (i := 66) (by decide +kernel)) (by decide +kernel)), (eTm (List.mem_of_getElem? (i := 629) (by decide +kernel)) (by decide +kernel))⟩, rfl, rfl, by decide +kernel, by decide +kernel, by decide +kernel⟩
theorem cvL_108 : eCalV RL 108 1 mX7_is := ⟨⟨(eTm (List.mem_of_getElem? (i := 1113) (by decide +kernel)) (by decide +kernel)), (eTm (List.mem_of_getElem? (i := 1114) (by decide +kernel)) (by decide +kernel)), (eTm (List.mem_of_getElem? (i := 1115) (by decide +kernel)) (by decide +kernel)), (eTm (List.mem_of_getElem? (i := 72) (by decide +kernel)) (by decide +kernel)), (eTm (List.mem_of_getElem? (i := 1116) (by decide +kernel)) (by decide +kernel))⟩, rfl, rfl, by decide +kernel, by decide +kernel, by decide +kernel⟩
theorem cvL_109 : eCalV RL 109 1 mX6_offer := ⟨⟨(eTm (List.mem_of_getElem? (i := 638) (by decide +kernel)) (by decide +kernel)), (eTm (List.mem_of_getElem? (i := 639) (by decide +kernel)) (by decide +kernel)), (eTm (List.mem_of_getElem? (i := 640) (by decide +kernel)) (by decide +kernel)), (eTm (List.mem_of_getElem? (i := 66) (by decide +kernel)) (by decide +kernel)), (eTm (List.mem_of_getElem? (i := 641) (by decide +kernel)) (by decide +kernel))⟩, rfl, rfl, by decide +kernel, by decide +kernel, by decide +kernel⟩
theorem cvL_112 : eCalV RL 112 1 mX7_offer := ⟨⟨(eTm (List.mem_of_getElem? (i := 1121) (by decide +kernel)) (by decide +kernel)), (eTm (List.mem_of_getElem? (i := 1122) (by decide +kernel)) (by decide +kernel)), (eTm (List.mem_of_getElem? (i := 1123) (by decide +kernel)) (by decide +kernel)), (eTm (List.mem_of_getElem? (i := 72) (by decide +kernel)) (by decide +kernel)), (eTm (List.mem_of_getElem? (i := 1124) (by decide +kernel)) (by decide +kernel))⟩, rfl, rfl, by decide +kernel, by decide +kernel, by decide +kernel⟩
theorem cvL_113 : eCalV RL 113 3 mX6_two := ⟨⟨(eTm (List.mem_of_getElem? (i := 657) (by decide +kernel)) (by decide +kernel)), (eTm (List.mem_of_getElem? (i := 658) (by decide +kernel)) (by decide +kernel)), (eTm (List.mem_of_getElem? (i := 659) (by decide +kernel)) (by decide +kernel)), (eTm (List.mem_of_getElem? (i := 66) (by decide +kernel)) (by decide +kernel)), (eTm (List.mem_of_getElem? (i := 660) (by decide +kernel)) (by decide +kernel))⟩, rfl, rfl, by decide +kernel, by decide +kernel, by decide +kernel⟩
theorem cvL_117 : eCalV RL 117 3 mX7_two := ⟨⟨(eTm (List.mem_of_getElem? (i := 1129) (by decide +kernel)) (by decide +kernel)), (eTm (List.mem_of_getElem? (i := 1130) (by decide +kernel)) (by decide +kernel)), (eTm (List.mem_of_getElem? (i := 1131) (by decide +kernel)) (by decide +kernel)), (eTm (List.mem_of_getElem? (i := 72) (by decide +kernel)) (by decide +kernel)), (eTm (List.mem_of_getElem? (i := 1132) (by decide +kernel)) (by decide +kernel))⟩, rfl, rfl, by decide +kernel, by decide +kernel, by decide +kernel⟩
theorem cvL_118 : eCalV RL 118 1 mX6_clouds := ⟨⟨(eTm (List.mem_of_getElem? (i := 676) (by decide +kernel)) (by decide +kernel)), (eTm (List.mem_of_getElem? (i := 677) (by decide +kernel)) (by decide +kernel)), (eTm (List.mem_of_getElem? (i := 678) (by decide +kernel)) (by decide +kernel)), (eTm (List.mem_of_getElem? (i := 66) (by decide +kernel)) (by decide +kernel)), (eTm (List.mem_of_getElem? (i := 679) (by decide +kernel)) (by decide +kernel))⟩, rfl, rfl, by decide +kernel, by decide +kernel, by decide +kernel⟩
theorem cvL_121 : eCalV RL 121 1 mX7_clouds := ⟨⟨(eTm (List.mem_of_getElem? (i := 1141) (by decide +kernel)) (by decide +kernel)), (eTm (List.mem_of_getElem? (i := 1142) (by decide +kernel)) (by decide +kernel)), (eTm (List.mem_of_getElem? (i := 1143) (by decide +kernel)) (by decide +kernel)), (eTm (List.mem_of_getElem? (i := 72) (by decide +kernel)) (by decide +kernel)), (eTm (List.mem_of_getElem? (i := 1144) (by decide +kernel)) (by decide +kernel))⟩, rfl, rfl, by decide +kernel, by decide +kernel, by decide +kernel⟩
theorem cvL_122 : eCalV RL 122 2 mX6_eclipses := ⟨⟨(eTm (List.mem_of_getElem? (i := 688) (by decide +kernel)) (by decide +kernel)), (eTm (List.mem_of_getElem? (i := 689) (by decide +kernel)) (by decide +kernel)), (eTm (List.mem_of_getElem? (i := 690) (by decide +kernel)) (by decide +kernel)), (eTm (List.mem_of_getElem? (i := 66) (by decide +kernel)) (by decide +kernel)), (eTm (List.mem_of_getElem? (i := 691) (by decide +kernel)) (by decide +kernel))⟩, rfl, rfl, by decide +kernel, by decide +kernel, by decide +kernel⟩
theorem cvL_125 : eCalV RL 125 2 mX7_eclipses := ⟨⟨(eTm (List.mem_of_getElem? (i := 1150) (by decide +kernel)) (by decide +kernel)), (eTm (List.mem_of_getElem? (i := 1151) (by decide +kernel)) (by decide +kernel)), (eTm (List.mem_of_getElem? (i := 1152) (by decide +kernel)) (by decide +kernel)), (eTm (List.mem_of_getElem? (i := 72) (by decide +kernel)) (by decide +kernel)), (eTm (List.mem_of_getElem? (i := 1153) (by decide +kernel)) (by decide +kernel))⟩, rfl, rfl, by decide +kernel, by decide +kernel, by decide +kernel⟩
theorem cvL_126 : eCalV RL 126 1 mX6_part := ⟨⟨(eTm (List.mem_of_getElem? (i := 708) (by decide +kernel)) (by decide +kernel)), (eTm (List.mem_of_getElem? (i := 709) (by decide +kernel)) (by decide +kernel)), (eTm (List.mem_of_getElem? (i := 710) (by decide +kernel)) (by decide +kernel)), (eTm (List.mem_of_getElem? (i := 66) (by decide +kernel)) (by decide +kernel)), (eTm (List.mem_of_getElem? (i := 711) (by decide +kernel)) (by decide +kernel))⟩, rfl, rfl, by decide +kernel, by decide +kernel, by decide +kernel⟩
theorem cvL_130 : eCalV RL 130 1 mX7_part := ⟨⟨(eTm (List.mem_of_getElem? (i := 1162) (by decide +kernel)) (by decide +kernel)), (eTm (List.mem_of_getElem? (i := 1163) (by decide +kernel)) (by decide +kernel)), (eTm (List.mem_of_getElem? (i := 1164) (by decide +kernel)) (by decide +kernel)), (eTm (List.mem_of_getElem? (i := 72) (by decide +kernel)) (by decide +kernel)), (eTm (List.mem_of_getElem? (i := 1165) (by decide +kernel)) (by decide +kernel))⟩, rfl, rfl, by decide +kernel, by decide +kernel, by decide +kernel⟩
theorem cvL_131 : eCalV RL 131 1 mX6_image := ⟨⟨(eTm (List.mem_of_getElem? (i := 712) (by decide +kernel)) (by decide +kernel)), (eTm (List.mem_of_getElem? (i := 713) (by decide +kernel)) (by decide +kernel)), (eTm (List.mem_of_getElem? (i := 714) (by decide +kernel)) (by decide +kernel)), (eTm (List.mem_of_getElem? (i := 66) (by decide +kernel)) (by decide +kernel)), (eTm (List.mem_of_getElem? (i := 715) (by decide +kernel)) (by decide +kernel))⟩, rfl, rfl, by decide +kernel, by decide +kernel, by decide +kernel⟩
theorem cvL_134 : eCalV RL 134 1 mX7_image := ⟨⟨(eTm (List.mem_of_getElem? (i := 1166) (by decide +kernel)) (by decide +kernel)), (eTm (List.mem_of_getElem? (i := 1167) (by decide +kernel)) (by decide +kernel)), (eTm (List.mem_of_getElem? (i := 1168) (by decide +kernel)) (by decide +kernel)), (eTm (List.mem_of_getElem? (i := 72) (by decide +kernel)) (by decide +kernel)), (eTm (List.mem_of_getElem? (i := 1169) (by decide +kernel)) (by decide +kernel))⟩, rfl, rfl, by decide +kernel, by decide +kernel, by decide +kernel⟩
theorem cvL_135 : eCalV RL 135 1 mX6_from := ⟨⟨(eTm (List.mem_of_getElem? (i := 716) (by decide +kernel)) (by decide +kernel)), (eTm (List.mem_of_getElem? (i := 717) (by decide +kernel)) (by decide +kernel)), (eTm (List.mem_of_getElem? (i := 718) (by decide +kernel)) (by decide +kernel)), (eTm (List.mem_of_getElem? (i := 66) (by decide +kernel)) (by decide +kernel)), (eTm (List.mem_of_getElem? (i := 719) (by decide +kernel)) (by decide +kernel))⟩, rfl, rfl, by decide +kernel, by decide +kernel, by decide +kernel⟩
theorem cvL_138 : eCalV RL 138 1 mX7_from := ⟨⟨(eTm (List.mem_of_getElem? (i := 1170) (by decide +kernel)) (by decide +kernel)), (eTm (List.mem_of_getElem? (i := 1171) (by decide +kernel)) (by decide +kernel)), (eTm (List.mem_of_getElem? (i := 1172) (by decide +kernel)) (by decide +kernel)), (eTm (List.mem_of_getElem? (i := 72) (by decide +kernel)) (by decide +kernel)), (eTm (List.mem_of_getElem? (i := 1173) (by decide +kernel)) (by decide +kernel))⟩, rfl, rfl, by decide +kernel, by decide +kernel, by decide +kernel⟩
theorem cvL_139 : eCalV RL 139 1 mX6_status := ⟨⟨(eTm (List.mem_of_getElem? (i := 720) (by decide +kernel)) (by decide +kernel)), (eTm (List.mem_of_getElem? (i := 721) (by decide +kernel)) (by decide +kernel)), (eTm (List.mem_of_getElem? (i := 722) (by decide +kernel)) (by decide +kernel)), (eTm (List.mem_of_getElem? (i := 66) (by decide +kernel)) (by decide +kernel)), (eTm (List.mem_of_getElem? (i := 723) (by decide +kernel)) (by decide +kernel))⟩, rfl, rfl, by decide +kernel, by decide +kernel, by decide +kernel⟩
theorem cvL_142 : eCalV RL 142 1 mX7_status := ⟨⟨(eTm (List.mem_of_getElem? (i := 1174) (by decide +kernel)) (by decide +kernel)), (eTm (List.mem_of_getElem? (i := 1175) (by decide +kernel)) (by decide +kernel)), (eTm (List.mem_of_getElem? (i := 1176) (by decide +kernel)) (by decide +kernel)), (eTm (List.mem_of_getElem? (i := 72) (by decide +kernel)) (by decide +kernel)), (eTm (List.mem_of_getElem? (i := 1177) (by decide +kernel)) (by decide +kernel))⟩, rfl, rfl, by decide +kernel, by decide +kernel, by decide +kernel⟩
theorem cvL_143 : eCalV RL 143 1 mX6_count := ⟨⟨(eTm (List.mem_of_getElem? (i := 724) (by decide +kernel)) (by decide +kernel)), (eTm (List.mem_of_getElem? (i := 725) (by decide +kernel)) (by decide +kernel)), (eTm (List.mem_of_getElem? (i := 726) (by decide +kernel)) (by decide +kernel)), (eTm (List.mem_of_getElem? (i := 66) (by decide +kernel)) (by decide +kernel)), (eTm (List.mem_of_getElem? (i := 727) (by decide +kernel)) (by decide +kernel))⟩, rfl, rfl, by decide +kernel, by decide +kernel, by decide +kernel⟩
theorem cvL_146 : eCalV RL 146 1 mX7_count := ⟨⟨(eTm (List.mem_of_getElem? (i := 1178) (by decide +kernel)) (by decide +kernel)), (eTm (List.mem_of_getElem? (i := 1179) (by decide +kernel)) (by decide +kernel)), (eTm (List.mem_of_getElem? (i := 1180) (by decide +kernel)) (by decide +kernel)), (eTm (List.mem_of_getElem? (i := 72) (by decide +kernel)) (by decide +kernel)), (eTm (List.mem_of_getElem? (i := 1181) (by decide +kernel)) (by decide +kernel))⟩, rfl, rfl, by decide +kernel, by decide +kernel, by decide +kernel⟩
theorem cvL_147 : eCalV RL 147 0 mX6_digest := ⟨⟨(eTm (List.mem_of_getElem? (i := 736) (by decide +kernel)) (by decide +kernel)), (eTm (List.mem_of_getElem? (i := 737) (by decide +kernel)) (by decide +kernel)), (eTm (List.mem_of_getElem? (i := 738) (by decide +kernel)) (by decide +kernel)), (eTm (List.mem_of_getElem? (i := 66) (by decide +kernel)) (by decide +kernel)), (eTm (List.mem_of_getElem? (i := 739) (by decide +kernel)) (by decide +kernel))⟩, rfl, rfl, by decide +kernel, by decide +kernel, by decide +kernel⟩
theorem cvL_151 : eCalV RL 151 0 mX7_digest := ⟨⟨(eTm (List.mem_of_getElem? (i := 1190) (by decide +kernel)) (by decide +kernel)), (eTm (List.mem_of_getElem? (i := 1191) (by decide +kernel)) (by decide +kernel)), (eTm (List.mem_of_getElem? (i := 1192) (by decide +kernel)) (by decide +kernel)), (eTm (List.mem_of_getElem? (i := 72) (by decide +kernel)) (by decide +kernel)), (eTm (List.mem_of_getElem? (i := 1193) (by decide +kernel)) (by decide +kernel))⟩, rfl, rfl, by decide +kernel, by decide +kernel, by decide +kernel⟩
theorem cvX7_75 : eCalV RX7 75 2 mX7_begin := ⟨⟨(eTm (List.mem_of_getElem? (i := 748) (by decide +kernel)) (by decide +kernel)), (eTm (List.mem_of_getElem? (i := 750) (by decide +kernel)) (by decide +kernel)), (eTm (List.mem_of_getElem? (i := 19) (by decide +kernel)) (by decide +kernel)), (eTm (List.mem_of_getElem? (i := 72) (by decide +kernel)) (by decide +kernel)), (eTm (List.mem_of_getElem? (i := 751) (by decide +kernel)) (by decide +kernel))⟩, rfl, rfl, by decide +kernel, by decide +kernel, by decide +kernel⟩
theorem csX7_88 : eCalS RX7 88 3 mX7_in := ⟨⟨(eTm (List.mem_of_getElem? (i := 856) (by decide +kernel)) (by decide +kernel)), (eTm (List.mem_of_getElem? (i := 857) (by decide +kernel)) (by decide +kernel)), (eTm (List.mem_of_getElem? (i := 72) (by decide +kernel)) (by decide +kernel)), (eTm (List.mem_of_getElem? (i := 858) (by decide +kernel)) (by decide +kernel))⟩, rfl, rfl, by decide +kernel, by decide +kernel, by decide +kernel⟩
theorem csX7_92 : eCalS RX7 92 1 mX7_isYard := ⟨⟨(eTm (List.mem_of_getElem? (i := 853) (by decide +kernel)) (by decide +kernel)), (eTm (List.mem_of_getElem? (i := 854) (by decide +kernel)) (by decide +kernel)), (eTm (List.mem_of_getElem? (i := 72) (by decide +kernel)) (by decide +kernel)), (eTm (List.mem_of_getElem? (i := 855) (by decide +kernel)) (by decide +kernel))⟩, rfl, rfl, by decide +kernel, by decide +kernel, by decide +kernel⟩
theorem cvX7_96 : eCalV RX7 96 0 mX7_bad := ⟨⟨(eTm (List.mem_of_getElem? (i := 859) (by decide +kernel)) (by decide +kernel)), (eTm (List.mem_of_getElem? (i := 861) (by decide +kernel)) (by decide +kernel)), (eTm (List.mem_of_getElem? (i := 20) (by decide +kernel)) (by decide +kernel)), (eTm (List.mem_of_getElem? (i := 72) (by decide +kernel)) (by decide +kernel)), (eTm (List.mem_of_getElem? (i := 862) (by decide +kernel)) (by decide +kernel))⟩, rfl, rfl, by decide +kernel, by decide +kernel, by decide +kernel⟩
theorem cvX7_100 : eCalV RX7 100 0 mX7_full := ⟨⟨(eTm (List.mem_of_getElem? (i := 875) (by decide +kernel)) (by decide +kernel)), (eTm (List.mem_of_getElem? (i := 877) (by decide +kernel)) (by decide +kernel)), (eTm (List.mem_of_getElem? (i := 21) (by decide +kernel)) (by decide +kernel)), (eTm (List.mem_of_getElem? (i := 72) (by decide +kernel)) (by decide +kernel)), (eTm (List.mem_of_getElem? (i := 878) (by decide +kernel)) (by decide +kernel))⟩, rfl, rfl, by decide +kernel, by decide +kernel, by decide +kernel⟩
theorem cvX7_103 : eCalV RX7 103 2 mX7_addOne := ⟨⟨(eTm (List.mem_of_getElem? (i := 879) (by decide +kernel)) (by decide +kernel)), (eTm (List.mem_of_getElem? (i := 881) (by decide +kernel)) (by decide +kernel)), (eTm (List.mem_of_getElem? (i := 22) (by decide +kernel)) (by decide +kernel)), (eTm (List.mem_of_getElem? (i := 72) (by decide +kernel)) (by decide +kernel)), (eTm (List.mem_of_getElem? (i := 882) (by decide +kernel)) (by decide +kernel))⟩, rfl, rfl, by decide +kernel, by decide +kernel, by decide +kernel⟩
theorem cvX7_113 : eCalV RX7 113 0 mX7_here := ⟨⟨(eTm (List.mem_of_getElem? (i := 907) (by decide +kernel)) (by decide +kernel)), (eTm (List.mem_of_getElem? (i := 909) (by decide +kernel)) (by decide +kernel)), (eTm (List.mem_of_getElem? (i := 26) (by decide +kernel)) (by decide +kernel)), (eTm (List.mem_of_getElem? (i := 72) (by decide +kernel)) (by decide +kernel)), (eTm (List.mem_of_getElem? (i := 910) (by decide +kernel)) (by decide +kernel))⟩, rfl, rfl, by decide +kernel, by decide +kernel, by decide +kernel⟩
theorem csX7_116 : eCalS RX7 116 1 mX7_isLetter := ⟨⟨(eTm (List.mem_of_getElem? (i := 919) (by decide +kernel)) (by decide +kernel)), (eTm (List.mem_of_getElem? (i := 920) (by decide +kernel)) (by decide +kernel)), (eTm (List.mem_of_getElem? (i := 72) (by decide +kernel)) (by decide +kernel)), (eTm (List.mem_of_getElem? (i := 921) (by decide +kernel)) (by decide +kernel))⟩, rfl, rfl, by decide +kernel, by decide +kernel, by decide +kernel⟩
theorem cvX7_119 : eCalV RX7 119 1 mX7_letter := ⟨⟨(eTm (List.mem_of_getElem? (i := 926) (by decide +kernel)) (by decide +kernel)), (eTm (List.mem_of_getElem? (i := 928) (by decide +kernel)) (by decide +kernel)), (eTm (List.mem_of_getElem? (i := 30) (by decide +kernel)) (by decide +kernel)), (eTm (List.mem_of_getElem? (i := 72) (by decide +kernel)) (by decide +kernel)), (eTm (List.mem_of_getElem? (i := 929) (by decide +kernel)) (by decide +kernel))⟩, rfl, rfl, by decide +kernel, by decide +kernel, by decide +kernel⟩
theorem cvX7_123 : eCalV RX7 123 0 mX7_wordSize := ⟨⟨(eTm (List.mem_of_getElem? (i := 915) (by decide +kernel)) (by decide +kernel)), (eTm (List.mem_of_getElem? (i := 917) (by decide +kernel)) (by decide +kernel)), (eTm (List.mem_of_getElem? (i := 28) (by decide +kernel)) (by decide +kernel)), (eTm (List.mem_of_getElem? (i := 72) (by decide +kernel)) (by decide +kernel)), (eTm (List.mem_of_getElem? (i := 918) (by decide +kernel)) (by decide +kernel))⟩, rfl, rfl, by decide +kernel, by decide +kernel, by decide +kernel⟩
theorem cvX7_126 : eCalV RX7 126 4 mX7_spells := ⟨⟨(eTm (List.mem_of_getElem? (i := 922) (by decide +kernel)) (by decide +kernel)), (eTm (List.mem_of_getElem? (i := 924) (by decide +kernel)) (by decide +kernel)), (eTm (List.mem_of_getElem? (i := 29) (by decide +kernel)) (by decide +kernel)), (eTm (List.mem_of_getElem? (i := 72) (by decide +kernel)) (by decide +kernel)), (eTm (List.mem_of_getElem? (i := 925) (by decide +kernel)) (by decide +kernel))⟩, rfl, rfl, by decide +kernel, by decide +kernel, by decide +kernel⟩
theorem cvX7_130 : eCalV RX7 130 0 mX7_skip := ⟨⟨(eTm (List.mem_of_getElem? (i := 903) (by decide +kernel)) (by decide +kernel)), (eTm (List.mem_of_getElem? (i := 905) (by decide +kernel)) (by decide +kernel)), (eTm (List.mem_of_getElem? (i := 25) (by decide +kernel)) (by decide +kernel)), (eTm (List.mem_of_getElem? (i := 72) (by decide +kernel)) (by decide +kernel)), (eTm (List.mem_of_getElem? (i := 906) (by decide +kernel)) (by decide +kernel))⟩, rfl, rfl, by decide +kernel, by decide +kernel, by decide +kernel⟩
theorem csX7_133 : eCalS RX7 133 1 mX7_isFigure := ⟨⟨(eTm (List.mem_of_getElem? (i := 934) (by decide +kernel)) (by decide +kernel)), (eTm (List.mem_of_getElem? (i := 935) (by decide +kernel)) (by decide +kernel)), (eTm (List.mem_of_getElem? (i := 72) (by decide +kernel)) (by decide +kernel)), (eTm (List.mem_of_getElem? (i := 936) (by decide +kernel)) (by decide +kernel))⟩, rfl, rfl, by decide +kernel, by decide +kernel, by decide +kernel⟩
theorem cvX7_139 : eCalV RX7 139 2 mX7_number := ⟨⟨(eTm (List.mem_of_getElem? (i := 930) (by decide +kernel)) (by decide +kernel)), (eTm (List.mem_of_getElem? (i := 932) (by decide +kernel)) (by decide +kernel)), (eTm (List.mem_of_getElem? (i := 31) (by decide +kernel)) (by decide +kernel)), (eTm (List.mem_of_getElem? (i := 72) (by decide +kernel)) (by decide +kernel)), (eTm (List.mem_of_getElem? (i := 933) (by decide +kernel)) (by decide +kernel))⟩, rfl, rfl, by decide +kernel, by decide +kernel, by decide +kernel⟩
theorem cvX7_146 : eCalV RX7 146 0 mX7_ends := ⟨⟨(eTm (List.mem_of_getElem? (i := 937) (by decide +kernel)) (by decide +kernel)), (eTm (List.mem_of_getElem? (i := 939) (by decide +kernel)) (by decide +kernel)), (eTm (List.mem_of_getElem? (i := 32) (by decide +kernel)) (by decide +kernel)), (eTm (List.mem_of_getElem? (i := 72) (by decide +kernel)) (by decide +kernel)), (eTm (List.mem_of_getElem? (i := 940) (by decide +kernel)) (by decide +kernel))⟩, rfl, rfl, by decide +kernel, by decide +kernel, by decide +kernel⟩
theorem cvX7_153 : eCalV RX7 153 0 mX7_wordHere := ⟨⟨(eTm (List.mem_of_getElem? (i := 911) (by decide +kernel)) (by decide +kernel)), (eTm (List.mem_of_getElem? (i := 913) (by decide +kernel)) (by decide +kernel)), (eTm (List.mem_of_getElem? (i := 27) (by decide +kernel)) (by decide +kernel)), (eTm (List.mem_of_getElem? (i := 72) (by decide +kernel)) (by decide +kernel)), (eTm (List.mem_of_getElem? (i := 914) (by decide +kernel)) (by decide +kernel))⟩, rfl, rfl, by decide +kernel, by decide +kernel, by decide +kernel⟩
theorem cvX7_156 : eCalV RX7 156 0 mX7_readsDark := ⟨⟨(eTm (List.mem_of_getElem? (i := 945) (by decide +kernel)) (by decide +kernel)), (eTm (List.mem_of_getElem? (i := 947) (by decide +kernel)) (by decide +kernel)), (eTm (List.mem_of_getElem? (i := 34) (by decide +kernel)) (by decide +kernel)), (eTm (List.mem_of_getElem? (i := 72) (by decide +kernel)) (by decide +kernel)), (eTm (List.mem_of_getElem? (i := 948) (by decide +kernel)) (by decide +kernel))⟩, rfl, rfl, by decide +kernel, by decide +kernel, by decide +kernel⟩
theorem cvX7_159 : eCalV RX7 159 0 mX7_readsHeights := ⟨⟨(eTm (List.mem_of_getElem? (i := 949) (by decide +kernel)) (by decide +kernel)), (eTm (List.mem_of_getElem? (i := 951) (by decide +kernel)) (by decide +kernel)), (eTm (List.mem_of_getElem? (i := 35) (by decide +kernel)) (by decide +kernel)), (eTm (List.mem_of_getElem? (i := 72) (by decide +kernel)) (by decide +kernel)), (eTm (List.mem_of_getElem? (i := 952) (by decide +kernel)) (by decide +kernel))⟩, rfl, rfl, by decide +kernel, by decide +kernel, by decide +kernel⟩
theorem cvX7_162 : eCalV RX7 162 0 mX7_readsOne := ⟨⟨(eTm (List.mem_of_getElem? (i := 953) (by decide +kernel)) (by decide +kernel)), (eTm (List.mem_of_getElem? (i := 955) (by decide +kernel)) (by decide +kernel)), (eTm (List.mem_of_getElem? (i := 36) (by decide +kernel)) (by decide +kernel)), (eTm (List.mem_of_getElem? (i := 72) (by decide +kernel)) (by decide +kernel)), (eTm (List.mem_of_getElem? (i := 956) (by decide +kernel)) (by decide +kernel))⟩, rfl, rfl, by decide +kernel, by decide +kernel, by decide +kernel⟩
theorem cvX7_165 : eCalV RX7 165 0 mX7_readsSeat := ⟨⟨(eTm (List.mem_of_getElem? (i := 957) (by decide +kernel)) (by decide +kernel)), (eTm (List.mem_of_getElem? (i := 959) (by decide +kernel)) (by decide +kernel)), (eTm (List.mem_of_getElem? (i := 37) (by decide +kernel)) (by decide +kernel)), (eTm (List.mem_of_getElem? (i := 72) (by decide +kernel)) (by decide +kernel)), (eTm (List.mem_of_getElem? (i := 960) (by decide +kernel)) (by decide +kernel))⟩, rfl, rfl, by decide +kernel, by decide +kernel, by decide +kernel⟩
theorem cvX7_171 : eCalV RX7 171 0 mX7_readsFirst := ⟨⟨(eTm (List.mem_of_getElem? (i := 899) (by decide +kernel)) (by decide +kernel)), (eTm (List.mem_of_getElem? (i := 901) (by decide +kernel)) (by decide +kernel)), (eTm (List.mem_of_getElem? (i := 24) (by decide +kernel)) (by decide +kernel)), (eTm (List.mem_of_getElem? (i := 72) (by decide +kernel)) (by decide +kernel)), (eTm (List.mem_of_getElem? (i := 902) (by decide +kernel)) (by decide +kernel))⟩, rfl, rfl, by decide +kernel, by decide +kernel, by decide +kernel⟩
theorem cvX7_174 : eCalV RX7 174 0 mX7_readsItem := ⟨⟨(eTm (List.mem_of_getElem? (i := 941) (by decide +kernel)) (by decide +kernel)), (eTm (List.mem_of_getElem? (i := 943) (by decide +kernel)) (by decide +kernel)), (eTm (List.mem_of_getElem? (i := 33) (by decide +kernel)) (by decide +kernel)), (eTm (List.mem_of_getElem? (i := 72) (by decide +kernel)) (by decide +kernel)), (eTm (List.mem_of_getElem? (i := 944) (by decide +kernel)) (by decide +kernel))⟩, rfl, rfl, by decide +kernel, by decide +kernel, by decide +kernel⟩
theorem cvX7_177 : eCalV RX7 177 0 mX7_readsHill := ⟨⟨(eTm (List.mem_of_getElem? (i := 895) (by decide +kernel)) (by decide +kernel)), (eTm (List.mem_of_getElem? (i := 897) (by decide +kernel)) (by decide +kernel)), (eTm (List.mem_of_getElem? (i := 23) (by decide +kernel)) (by decide +kernel)), (eTm (List.mem_of_getElem? (i := 72) (by decide +kernel)) (by decide +kernel)), (eTm (List.mem_of_getElem? (i := 898) (by decide +kernel)) (by decide +kernel))⟩, rfl, rfl, by decide +kernel, by decide +kernel, by decide +kernel⟩
theorem cvX7_180 : eCalV RX7 180 1 mX7_darkIn := ⟨⟨(eTm (List.mem_of_getElem? (i := 989) (by decide +kernel)) (by decide +kernel)), (eTm (List.mem_of_getElem? (i := 991) (by decide +kernel)) (by decide +kernel)), (eTm (List.mem_of_getElem? (i := 44) (by decide +kernel)) (by decide +kernel)), (eTm (List.mem_of_getElem? (i := 72) (by decide +kernel)) (by decide +kernel)), (eTm (List.mem_of_getElem? (i := 992) (by decide +kernel)) (by decide +kernel))⟩, rfl, rfl, by decide +kernel, by decide +kernel, by decide +kernel⟩
theorem csX7_183 : eCalS RX7 183 1 mX7_headBy := ⟨⟨(eTm (List.mem_of_getElem? (i := 993) (by decide +kernel)) (by decide +kernel)), (eTm (List.mem_of_getElem? (i := 994) (by decide +kernel)) (by decide +kernel)), (eTm (List.mem_of_getElem? (i := 72) (by decide +kernel)) (by decide +kernel)), (eTm (List.mem_of_getElem? (i := 995) (by decide +kernel)) (by decide +kernel))⟩, rfl, rfl, by decide +kernel, by decide +kernel, by decide +kernel⟩
theorem cvX7_186 : eCalV RX7 186 1 mX7_seen := ⟨⟨(eTm (List.mem_of_getElem? (i := 985) (by decide +kernel)) (by decide +kernel)), (eTm (List.mem_of_getElem? (i := 987) (by decide +kernel)) (by decide +kernel)), (eTm (List.mem_of_getElem? (i := 43) (by decide +kernel)) (by decide +kernel)), (eTm (List.mem_of_getElem? (i := 72) (by decide +kernel)) (by decide +kernel)), (eTm (List.mem_of_getElem? (i := 988) (by decide +kernel)) (by decide +kernel))⟩, rfl, rfl, by decide +kernel, by decide +kernel, by decide +kernel⟩
theorem csX7_189 : eCalS RX7 189 3 mX7_worthBy := ⟨⟨(eTm (List.mem_of_getElem? (i := 996) (by decide +kernel)) (by decide +kernel)), (eTm (List.mem_of_getElem? (i := 997) (by decide +kernel)) (by decide +kernel)), (eTm (List.mem_of_getElem? (i := 72) (by decide +kernel)) (by decide +kernel)), (eTm (List.mem_of_getElem? (i := 998) (by decide +kernel)) (by decide +kernel))⟩, rfl, rfl, by decide +kernel, by decide +kernel, by decide +kernel⟩
theorem cvX7_193 : eCalV RX7 193 1 mX7_who := ⟨⟨(eTm (List.mem_of_getElem? (i := 965) (by decide +kernel)) (by decide +kernel)), (eTm (List.mem_of_getElem? (i := 967) (by decide +kernel)) (by decide +kernel)), (eTm (List.mem_of_getElem? (i := 38) (by decide +kernel)) (by decide +kernel)), (eTm (List.mem_of_getElem? (i := 72) (by decide +kernel)) (by decide +kernel)), (eTm (List.mem_of_getElem? (i := 968) (by decide +kernel)) (by decide +kernel))⟩, rfl, rfl, by decide +kernel, by decide +kernel, by decide +kernel⟩
theorem cvX7_196 : eCalV RX7 196 2 mX7_lays := ⟨⟨(eTm (List.mem_of_getElem? (i := 1014) (by decide +kernel)) (by decide +kernel)), (eTm (List.mem_of_getElem? (i := 1016) (by decide +kernel)) (by decide +kernel)), (eTm (List.mem_of_getElem? (i := 48) (by decide +kernel)) (by decide +kernel)), (eTm (List.mem_of_getElem? (i := 72) (by decide +kernel)) (by decide +kernel)), (eTm (List.mem_of_getElem? (i := 1017) (by decide +kernel)) (by decide +kernel))⟩, rfl, rfl, by decide +kernel, by decide +kernel, by decide +kernel⟩
theorem cvX7_200 : eCalV RX7 200 1 mX7_winner := ⟨⟨(eTm (List.mem_of_getElem? (i := 969) (by decide +kernel)) (by decide +kernel)), (eTm (List.mem_of_getElem? (i := 971) (by decide +kernel)) (by decide +kernel)), (eTm (List.mem_of_getElem? (i := 39) (by decide +kernel)) (by decide +kernel)), (eTm (List.mem_of_getElem? (i := 72) (by decide +kernel)) (by decide +kernel)), (eTm (List.mem_of_getElem? (i := 972) (by decide +kernel)) (by decide +kernel))⟩, rfl, rfl, by decide +kernel, by decide +kernel, by decide +kernel⟩
theorem cvX7_203 : eCalV RX7 203 0 mX7_no := ⟨⟨(eTm (List.mem_of_getElem? (i := 1002) (by decide +kernel)) (by decide +kernel)), (eTm (List.mem_of_getElem? (i := 1004) (by decide +kernel)) (by decide +kernel)), (eTm (List.mem_of_getElem? (i := 45) (by decide +kernel)) (by decide +kernel)), (eTm (List.mem_of_getElem? (i := 72) (by decide +kernel)) (by decide +kernel)), (eTm (List.mem_of_getElem? (i := 1005) (by decide +kernel)) (by decide +kernel))⟩, rfl, rfl, by decide +kernel, by decide +kernel, by decide +kernel⟩
theorem cvX7_206 : eCalV RX7 206 2 mX7_priceOf := ⟨⟨(eTm (List.mem_of_getElem? (i := 1006) (by decide +kernel)) (by decide +kernel)), (eTm (List.mem_of_getElem? (i := 1008) (by decide +kernel)) (by decide +kernel)), (eTm (List.mem_of_getElem? (i := 46) (by decide +kernel)) (by decide +kernel)), (eTm (List.mem_of_getElem? (i := 72) (by decide +kernel)) (by decide +kernel)), (eTm (List.mem_of_getElem? (i := 1009) (by decide +kernel)) (by decide +kernel))⟩, rfl, rfl, by decide +kernel, by decide +kernel, by decide +kernel⟩
theorem cvX7_209 : eCalV RX7 209 0 mX7_notes := ⟨⟨(eTm (List.mem_of_getElem? (i := 1010) (by decide +kernel)) (by decide +kernel)), (eTm (List.mem_of_getElem? (i := 1012) (by decide +kernel)) (by decide +kernel)), (eTm (List.mem_of_getElem? (i := 47) (by decide +kernel)) (by decide +kernel)), (eTm (List.mem_of_getElem? (i := 72) (by decide +kernel)) (by decide +kernel)), (eTm (List.mem_of_getElem? (i := 1013) (by decide +kernel)) (by decide +kernel))⟩, rfl, rfl, by decide +kernel, by decide +kernel, by decide +kernel⟩
theorem cvX7_212 : eCalV RX7 212 1 mX7_isOne := ⟨⟨(eTm (List.mem_of_getElem? (i := 1022) (by decide +kernel)) (by decide +kernel)), (eTm (List.mem_of_getElem? (i := 1024) (by decide +kernel)) (by decide +kernel)), (eTm (List.mem_of_getElem? (i := 49) (by decide +kernel)) (by decide +kernel)), (eTm (List.mem_of_getElem? (i := 72) (by decide +kernel)) (by decide +kernel)), (eTm (List.mem_of_getElem? (i := 1025) (by decide +kernel)) (by decide +kernel))⟩, rfl, rfl, by decide +kernel, by decide +kernel, by decide +kernel⟩
theorem cvX7_215 : eCalV RX7 215 2 mX7_takes := ⟨⟨(eTm (List.mem_of_getElem? (i := 1034) (by decide +kernel)) (by decide +kernel)), (eTm (List.mem_of_getElem? (i := 1036) (by decide +kernel)) (by decide +kernel)), (eTm (List.mem_of_getElem? (i := 50) (by decide +kernel)) (by decide +kernel)), (eTm (List.mem_of_getElem? (i := 72) (by decide +kernel)) (by decide +kernel)), (eTm (List.mem_of_getElem? (i := 1037) (by decide +kernel)) (by decide +kernel))⟩, rfl, rfl, by decide +kernel, by decide +kernel, by decide +kernel⟩
theorem cvX7_218 : eCalV RX7 218 0 mX7_free := ⟨⟨(eTm (List.mem_of_getElem? (i := 1038) (by decide +kernel)) (by decide +kernel)), (eTm (List.mem_of_getElem? (i := 1040) (by decide +kernel)) (by decide +kernel)), (eTm (List.mem_of_getElem? (i := 51) (by decide +kernel)) (by decide +kernel)), (eTm (List.mem_of_getElem? (i := 72) (by decide +kernel)) (by decide +kernel)), (eTm (List.mem_of_getElem? (i := 1041) (by decide +kernel)) (by decide +kernel))⟩, rfl, rfl, by decide +kernel, by decide +kernel, by decide +kernel⟩
theorem cvX7_221 : eCalV RX7 221 0 mX7_ten := ⟨⟨(eTm (List.mem_of_getElem? (i := 1046) (by decide +kernel)) (by decide +kernel)), (eTm (List.mem_of_getElem? (i := 1048) (by decide +kernel)) (by decide +kernel)), (eTm (List.mem_of_getElem? (i := 52) (by decide +kernel)) (by decide +kernel)), (eTm (List.mem_of_getElem? (i := 72) (by decide +kernel)) (by decide +kernel)), (eTm (List.mem_of_getElem? (i := 1049) (by decide +kernel)) (by decide +kernel))⟩, rfl, rfl, by decide +kernel, by decide +kernel, by decide +kernel⟩
theorem cvX7_224 : eCalV RX7 224 2 mX7_seesIn := ⟨⟨(eTm (List.mem_of_getElem? (i := 981) (by decide +kernel)) (by decide +kernel)), (eTm (List.mem_of_getElem? (i := 983) (by decide +kernel)) (by decide +kernel)), (eTm (List.mem_of_getElem? (i := 42) (by decide +kernel)) (by decide +kernel)), (eTm (List.mem_of_getElem? (i := 72) (by decide +kernel)) (by decide +kernel)), (eTm (List.mem_of_getElem? (i := 984) (by decide +kernel)) (by decide +kernel))⟩, rfl, rfl, by decide +kernel, by decide +kernel, by decide +kernel⟩
theorem cvX7_227 : eCalV RX7 227 2 mX7_isOpen := ⟨⟨(eTm (List.mem_of_getElem? (i := 1058) (by decide +kernel)) (by decide +kernel)), (eTm (List.mem_of_getElem? (i := 1060) (by decide +kernel)) (by decide +kernel)), (eTm (List.mem_of_getElem? (i := 53) (by decide +kernel)) (by decide +kernel)), (eTm (List.mem_of_getElem? (i := 72) (by decide +kernel)) (by decide +kernel)), (eTm (List.mem_of_getElem? (i := 1061) (by decide +kernel)) (by decide +kernel))⟩, rfl, rfl, by decide +kernel, by decide +kernel, by decide +kernel⟩
theorem cvX7_230 : eCalV RX7 230 1 mX7_worth := ⟨⟨(eTm (List.mem_of_getElem? (i := 1066) (by decide +kernel)) (by decide +kernel)), (eTm (List.mem_of_getElem? (i := 1068) (by decide +kernel)) (by decide +kernel)), (eTm (List.mem_of_getElem? (i := 54) (by decide +kernel)) (by decide +kernel)), (eTm (List.mem_of_getElem? (i := 72) (by decide +kernel)) (by decide +kernel)), (eTm (List.mem_of_getElem? (i := 1069) (by decide +kernel)) (by decide +kernel))⟩, rfl, rfl, by decide +kernel, by decide +kernel, by decide +kernel⟩
theorem csX7_233 : eCalS RX7 233 2 mX7_lesser := ⟨⟨(eTm (List.mem_of_getElem? (i := 999) (by decide +kernel)) (by decide +kernel)), (eTm (List.mem_of_getElem? (i := 1000) (by decide +kernel)) (by decide +kernel)), (eTm (List.mem_of_getElem? (i := 72) (by decide +kernel)) (by decide +kernel)), (eTm (List.mem_of_getElem? (i := 1001) (by decide +kernel)) (by decide +kernel))⟩, rfl, rfl, by decide +kernel, by decide +kernel, by decide +kernel⟩
theorem cvX7_236 : eCalV RX7 236 2 mX7_worthIn := ⟨⟨(eTm (List.mem_of_getElem? (i := 977) (by decide +kernel)) (by decide +kernel)), (eTm (List.mem_of_getElem? (i := 979) (by decide +kernel)) (by decide +kernel)), (eTm (List.mem_of_getElem? (i := 41) (by decide +kernel)) (by decide +kernel)), (eTm (List.mem_of_getElem? (i := 72) (by decide +kernel)) (by decide +kernel)), (eTm (List.mem_of_getElem? (i := 980) (by decide +kernel)) (by decide +kernel))⟩, rfl, rfl, by decide +kernel, by decide +kernel, by decide +kernel⟩
theorem cvX7_239 : eCalV RX7 239 2 mX7_bidOf := ⟨⟨(eTm (List.mem_of_getElem? (i := 973) (by decide +kernel)) (by decide +kernel)), (eTm (List.mem_of_getElem? (i := 975) (by decide +kernel)) (by decide +kernel)), (eTm (List.mem_of_getElem? (i := 40) (by decide +kernel)) (by decide +kernel)), (eTm (List.mem_of_getElem? (i := 72) (by decide +kernel)) (by decide +kernel)), (eTm (List.mem_of_getElem? (i := 976) (by decide +kernel)) (by decide +kernel))⟩, rfl, rfl, by decide +kernel, by decide +kernel, by decide +kernel⟩
theorem cvX7_242 : eCalV RX7 242 1 mX7_othersSee := ⟨⟨(eTm (List.mem_of_getElem? (i := 1082) (by decide +kernel)) (by decide +kernel)), (eTm (List.mem_of_getElem? (i := 1084) (by decide +kernel)) (by decide +kernel)), (eTm (List.mem_of_getElem? (i := 56) (by decide +kernel)) (by decide +kernel)), (eTm (List.mem_of_getElem? (i := 72) (by decide +kernel)) (by decide +kernel)), (eTm (List.mem_of_getElem? (i := 1085) (by decide +kernel)) (by decide +kernel))⟩, rfl, rfl, by decide +kernel, by decide +kernel, by decide +kernel⟩
theorem cvX7_245 : eCalV RX7 245 2 mX7_hurtIn := ⟨⟨(eTm (List.mem_of_getElem? (i := 1078) (by decide +kernel)) (by decide +kernel)), (eTm (List.mem_of_getElem? (i := 1080) (by decide +kernel)) (by decide +kernel)), (eTm (List.mem_of_getElem? (i := 55) (by decide +kernel)) (by decide +kernel)), (eTm (List.mem_of_getElem? (i := 72) (by decide +kernel)) (by decide +kernel)), (eTm (List.mem_of_getElem? (i := 1081) (by decide +kernel)) (by decide +kernel))⟩, rfl, rfl, by decide +kernel, by decide +kernel, by decide +kernel⟩
theorem csX7_248 : eCalS RX7 248 2 mX7_has := ⟨⟨(eTm (List.mem_of_getElem? (i := 1098) (by decide +kernel)) (by decide +kernel)), (eTm (List.mem_of_getElem? (i := 1099) (by decide +kernel)) (by decide +kernel)), (eTm (List.mem_of_getElem? (i := 72) (by decide +kernel)) (by decide +kernel)), (eTm (List.mem_of_getElem? (i := 1100) (by decide +kernel)) (by decide +kernel))⟩, rfl, rfl, by decide +kernel, by decide +kernel, by decide +kernel⟩
theorem cvX7_251 : eCalV RX7 251 1 mX7_seatBy := ⟨⟨(eTm (List.mem_of_getElem? (i := 1094) (by decide +kernel)) (by decide +kernel)), (eTm (List.mem_of_getElem? (i := 1096) (by decide +kernel)) (by decide +kernel)), (eTm (List.mem_of_getElem? (i := 57) (by decide +kernel)) (by decide +kernel)), (eTm (List.mem_of_getElem? (i := 72) (by decide +kernel)) (by decide +kernel)), (eTm (List.mem_of_getElem? (i := 1097) (by decide +kernel)) (by decide +kernel))⟩, rfl, rfl, by decide +kernel, by decide +kernel, by decide +kernel⟩
theorem cvX7_254 : eCalV RX7 254 1 mX7_kindsOf := ⟨⟨(eTm (List.mem_of_getElem? (i := 1117) (by decide +kernel)) (by decide +kernel)), (eTm (List.mem_of_getElem? (i := 1119) (by decide +kernel)) (by decide +kernel)), (eTm (List.mem_of_getElem? (i := 58) (by decide +kernel)) (by decide +kernel)), (eTm (List.mem_of_getElem? (i := 72) (by decide +kernel)) (by decide +kernel)), (eTm (List.mem_of_getElem? (i := 1120) (by decide +kernel)) (by decide +kernel))⟩, rfl, rfl, by decide +kernel, by decide +kernel, by decide +kernel⟩
theorem csX7_258 : eCalS RX7 258 3 mX7_alike := ⟨⟨(eTm (List.mem_of_getElem? (i := 1126) (by decide +kernel)) (by decide +kernel)), (eTm (List.mem_of_getElem? (i := 1127) (by decide +kernel)) (by decide +kernel)), (eTm (List.mem_of_getElem? (i := 72) (by decide +kernel)) (by decide +kernel)), (eTm (List.mem_of_getElem? (i := 1128) (by decide +kernel)) (by decide +kernel))⟩, rfl, rfl, by decide +kernel, by decide +kernel, by decide +kernel⟩
theorem cvX7_261 : eCalV RX7 261 4 mX7_gets := ⟨⟨(eTm (List.mem_of_getElem? (i := 1137) (by decide +kernel)) (by decide +kernel)), (eTm (List.mem_of_getElem? (i := 1139) (by decide +kernel)) (by decide +kernel)), (eTm (List.mem_of_getElem? (i := 60) (by decide +kernel)) (by decide +kernel)), (eTm (List.mem_of_getElem? (i := 72) (by decide +kernel)) (by decide +kernel)), (eTm (List.mem_of_getElem? (i := 1140) (by decide +kernel)) (by decide +kernel))⟩, rfl, rfl, by decide +kernel, by decide +kernel, by decide +kernel⟩
theorem cvX7_265 : eCalV RX7 265 4 mX7_rests := ⟨⟨(eTm (List.mem_of_getElem? (i := 1133) (by decide +kernel)) (by decide +kernel)), (eTm (List.mem_of_getElem? (i := 1135) (by decide +kernel)) (by decide +kernel)), (eTm (List.mem_of_getElem? (i := 59) (by decide +kernel)) (by decide +kernel)), (eTm (List.mem_of_getElem? (i := 72) (by decide +kernel)) (by decide +kernel)), (eTm (List.mem_of_getElem? (i := 1136) (by decide +kernel)) (by decide +kernel))⟩, rfl, rfl, by decide +kernel, by decide +kernel, by decide +kernel⟩
theorem cvX7_273 : eCalV RX7 273 2 mX7_lay := ⟨⟨(eTm (List.mem_of_getElem? (i := 1146) (by decide +kernel)) (by decide +kernel)), (eTm (List.mem_of_getElem? (i := 1148) (by decide +kernel)) (by decide +kernel)), (eTm (List.mem_of_getElem? (i := 61) (by decide +kernel)) (by decide +kernel)), (eTm (List.mem_of_getElem? (i := 72) (by decide +kernel)) (by decide +kernel)), (eTm (List.mem_of_getElem? (i := 1149) (by decide +kernel)) (by decide +kernel))⟩, rfl, rfl, by decide +kernel, by decide +kernel, by decide +kernel⟩
theorem cvX7_292 : eCalV RX7 292 0 mX7_allPaid := ⟨⟨(eTm (List.mem_of_getElem? (i := 1186) (by decide +kernel)) (by decide +kernel)), (eTm (List.mem_of_getElem? (i := 1188) (by decide +kernel)) (by decide +kernel)), (eTm (List.mem_of_getElem? (i := 63) (by decide +kernel)) (by decide +kernel)), (eTm (List.mem_of_getElem? (i := 72) (by decide +kernel)) (by decide +kernel)), (eTm (List.mem_of_getElem? (i := 1189) (by decide +kernel)) (by decide +kernel))⟩, rfl, rfl, by decide +kernel, by decide +kernel, by decide +kernel⟩
theorem cvX7_295 : eCalV RX7 295 1 mX7_countOf := ⟨⟨(eTm (List.mem_of_getElem? (i := 1182) (by decide +kernel)) (by decide +kernel)), (eTm (List.mem_of_getElem? (i := 1184) (by decide +kernel)) (by decide +kernel)), (eTm (List.mem_of_getElem? (i := 62) (by decide +kernel)) (by decide +kernel)), (eTm (List.mem_of_getElem? (i := 72) (by decide +kernel)) (by decide +kernel)), (eTm (List.mem_of_getElem? (i := 1185) (by decide +kernel)) (by decide +kernel))⟩, rfl, rfl, by decide +kernel, by decide +kernel, by decide +kernel⟩
theorem cvX7_305 : eCalV RX7 305 1 mX7_mix := ⟨⟨(eTm (List.mem_of_getElem? (i := 1195) (by decide +kernel)) (by decide +kernel)), (eTm (List.mem_of_getElem? (i := 1197) (by decide +kernel)) (by decide +kernel)), (eTm (List.mem_of_getElem? (i := 64) (by decide +kernel)) (by decide +kernel)), (eTm (List.mem_of_getElem? (i := 72) (by decide +kernel)) (by decide +kernel)), (eTm (List.mem_of_getElem? (i := 1198) (by decide +kernel)) (by decide +kernel))⟩, rfl, rfl, by decide +kernel, by decide +kernel, by decide +kernel⟩
theorem ws_max : Cond.static Lib.Math.max.name ∈ eTb := (eTm (List.mem_of_getElem? (i := 494) (by decide +kernel)) (by decide +kernel))
theorem wc_max : Cond.code Lib.Math.max.name Lib.Math.max.code 2 (some .int) ∈ eTb := (eTm (List.mem_of_getElem? (i := 495) (by decide +kernel)) (by decide +kernel))
theorem ws_min : Cond.static Lib.Math.min.name ∈ eTb := (eTm (List.mem_of_getElem? (i := 500) (by decide +kernel)) (by decide +kernel))
theorem wc_min : Cond.code Lib.Math.min.name Lib.Math.min.code 2 (some .int) ∈ eTb := (eTm (List.mem_of_getElem? (i := 501) (by decide +kernel)) (by decide +kernel))
theorem ws_abs : Cond.static Lib.Math.abs.name ∈ eTb := (eTm (List.mem_of_getElem? (i := 491) (by decide +kernel)) (by decide +kernel))
theorem wc_abs : Cond.code Lib.Math.abs.name Lib.Math.abs.code 1 (some .int) ∈ eTb := (eTm (List.mem_of_getElem? (i := 492) (by decide +kernel)) (by decide +kernel))
theorem wi_math : Cond.initialized "java/lang/Math" ∈ eTb := (eTm (List.mem_of_getElem? (i := 79) (by decide +kernel)) (by decide +kernel))
theorem ws_copy : Cond.static arraycopyName ∈ eTb := (eTm (List.mem_of_getElem? (i := 448) (by decide +kernel)) (by decide +kernel))
theorem wn_copy : Cond.native arraycopyName ∈ eTb := (eTm (List.mem_of_getElem? (i := 449) (by decide +kernel)) (by decide +kernel))
theorem wi_sys : Cond.initialized "java/lang/System" ∈ eTb := (eTm (List.mem_of_getElem? (i := 78) (by decide +kernel)) (by decide +kernel))
theorem cn_darkFrom : eCalN 3 mX6_darkFrom := ⟨⟨(eTm (List.mem_of_getElem? (i := 488) (by decide +kernel)) (by decide +kernel)), (eTm (List.mem_of_getElem? (i := 66) (by decide +kernel)) (by decide +kernel)), (eTm (List.mem_of_getElem? (i := 489) (by decide +kernel)) (by decide +kernel))⟩, rfl, rfl, by decide +kernel, by decide +kernel, by decide +kernel⟩
theorem kiX4_25 : Cond.constant RX4 25 (-1000000) ∈ eTb := (eTm (List.mem_of_getElem? (i := 588) (by decide +kernel)) (by decide +kernel))
theorem kiX4_45 : Cond.constant RX4 45 (32768) ∈ eTb := (eTm (List.mem_of_getElem? (i := 608) (by decide +kernel)) (by decide +kernel))
theorem kiX6_225 : Cond.constant RX6 225 (999999) ∈ eTb := (eTm (List.mem_of_getElem? (i := 692) (by decide +kernel)) (by decide +kernel))
theorem kiX7_257 : Cond.constant RX7 257 (1048576) ∈ eTb := (eTm (List.mem_of_getElem? (i := 1125) (by decide +kernel)) (by decide +kernel))
theorem kiX7_277 : Cond.constant RX7 277 (999999) ∈ eTb := (eTm (List.mem_of_getElem? (i := 1154) (by decide +kernel)) (by decide +kernel))
theorem klX6_229 : Cond.constantLong RX6 229 (1103515245) ∈ eTb := (eTm (List.mem_of_getElem? (i := 697) (by decide +kernel)) (by decide +kernel))
theorem klX6_231 : Cond.constantLong RX6 231 (12345) ∈ eTb := (eTm (List.mem_of_getElem? (i := 698) (by decide +kernel)) (by decide +kernel))
theorem klX6_233 : Cond.constantLong RX6 233 (2147483648) ∈ eTb := (eTm (List.mem_of_getElem? (i := 699) (by decide +kernel)) (by decide +kernel))
theorem klX6_235 : Cond.constantLong RX6 235 (65536) ∈ eTb := (eTm (List.mem_of_getElem? (i := 700) (by decide +kernel)) (by decide +kernel))
theorem klX6_237 : Cond.constantLong RX6 237 (8) ∈ eTb := (eTm (List.mem_of_getElem? (i := 701) (by decide +kernel)) (by decide +kernel))
theorem klX6_239 : Cond.constantLong RX6 239 (1048576) ∈ eTb := (eTm (List.mem_of_getElem? (i := 702) (by decide +kernel)) (by decide +kernel))
theorem klX6_241 : Cond.constantLong RX6 241 (241) ∈ eTb := (eTm (List.mem_of_getElem? (i := 703) (by decide +kernel)) (by decide +kernel))
theorem klX6_250 : Cond.constantLong RX6 250 (1327) ∈ eTb := (eTm (List.mem_of_getElem? (i := 740) (by decide +kernel)) (by decide +kernel))
theorem klX6_252 : Cond.constantLong RX6 252 (31) ∈ eTb := (eTm (List.mem_of_getElem? (i := 741) (by decide +kernel)) (by decide +kernel))
theorem klX7_271 : Cond.constantLong RX7 271 (10) ∈ eTb := (eTm (List.mem_of_getElem? (i := 1145) (by decide +kernel)) (by decide +kernel))
theorem klX7_278 : Cond.constantLong RX7 278 (1103515245) ∈ eTb := (eTm (List.mem_of_getElem? (i := 1155) (by decide +kernel)) (by decide +kernel))
theorem klX7_280 : Cond.constantLong RX7 280 (12345) ∈ eTb := (eTm (List.mem_of_getElem? (i := 1156) (by decide +kernel)) (by decide +kernel))
theorem klX7_282 : Cond.constantLong RX7 282 (2147483648) ∈ eTb := (eTm (List.mem_of_getElem? (i := 1157) (by decide +kernel)) (by decide +kernel))
theorem klX7_284 : Cond.constantLong RX7 284 (65536) ∈ eTb := (eTm (List.mem_of_getElem? (i := 1158) (by decide +kernel)) (by decide +kernel))
theorem klX7_286 : Cond.constantLong RX7 286 (8) ∈ eTb := (eTm (List.mem_of_getElem? (i := 1159) (by decide +kernel)) (by decide +kernel))
theorem klX7_288 : Cond.constantLong RX7 288 (1048576) ∈ eTb := (eTm (List.mem_of_getElem? (i := 1160) (by decide +kernel)) (by decide +kernel))
theorem klX7_290 : Cond.constantLong RX7 290 (241) ∈ eTb := (eTm (List.mem_of_getElem? (i := 1161) (by decide +kernel)) (by decide +kernel))
theorem klX7_298 : Cond.constantLong RX7 298 (31) ∈ eTb := (eTm (List.mem_of_getElem? (i := 1199) (by decide +kernel)) (by decide +kernel))
theorem klX7_303 : Cond.constantLong RX7 303 (1327) ∈ eTb := (eTm (List.mem_of_getElem? (i := 1194) (by decide +kernel)) (by decide +kernel))
end
section
/-! not final fields; longs are the Model's alone -/
theorem nf2_0 : ∀ q : vw_C, vwCl[2]? = some q → (q.2.1 0).2.2.2 = false := fun q hq => by cases hq; rfl
theorem nf2_1 : ∀ q : vw_C, vwCl[2]? = some q → (q.2.1 1).2.2.2 = false := fun q hq => by cases hq; rfl
theorem nf2_3 : ∀ q : vw_C, vwCl[2]? = some q → (q.2.1 3).2.2.2 = false := fun q hq => by cases hq; rfl
theorem nf2_9 : ∀ q : vw_C, vwCl[2]? = some q → (q.2.1 9).2.2.2 = false := fun q hq => by cases hq; rfl
theorem nf2_11 : ∀ q : vw_C, vwCl[2]? = some q → (q.2.1 11).2.2.2 = false := fun q hq => by cases hq; rfl
theorem nf3_3 : ∀ q : vw_C, vwCl[3]? = some q → (q.2.1 3).2.2.2 = false := fun q hq => by cases hq; rfl
theorem nf4_1 : ∀ q : vw_C, vwCl[4]? = some q → (q.2.1 1).2.2.2 = false := fun q hq => by cases hq; rfl
theorem nf4_2 : ∀ q : vw_C, vwCl[4]? = some q → (q.2.1 2).2.2.2 = false := fun q hq => by cases hq; rfl
theorem nf4_3 : ∀ q : vw_C, vwCl[4]? = some q → (q.2.1 3).2.2.2 = false := fun q hq => by cases hq; rfl
theorem nf4_4 : ∀ q : vw_C, vwCl[4]? = some q → (q.2.1 4).2.2.2 = false := fun q hq => by cases hq; rfl
theorem nf4_5 : ∀ q : vw_C, vwCl[4]? = some q → (q.2.1 5).2.2.2 = false := fun q hq => by cases hq; rfl
theorem nf5_8 : ∀ q : vw_C, vwCl[5]? = some q → (q.2.1 8).2.2.2 = false := fun q hq => by cases hq; rfl
theorem nf5_9 : ∀ q : vw_C, vwCl[5]? = some q → (q.2.1 9).2.2.2 = false := fun q hq => by cases hq; rfl
theorem nf5_10 : ∀ q : vw_C, vwCl[5]? = some q → (q.2.1 10).2.2.2 = false := fun q hq => by cases hq; rfl
theorem nf5_11 : ∀ q : vw_C, vwCl[5]? = some q → (q.2.1 11).2.2.2 = false := fun q hq => by cases hq; rfl
theorem nf5_12 : ∀ q : vw_C, vwCl[5]? = some q → (q.2.1 12).2.2.2 = false := fun q hq => by cases hq; rfl
theorem nf6_1 : ∀ q : vw_C, vwCl[6]? = some q → (q.2.1 1).2.2.2 = false := fun q hq => by cases hq; rfl
theorem nf6_2 : ∀ q : vw_C, vwCl[6]? = some q → (q.2.1 2).2.2.2 = false := fun q hq => by cases hq; rfl
theorem nf6_3 : ∀ q : vw_C, vwCl[6]? = some q → (q.2.1 3).2.2.2 = false := fun q hq => by cases hq; rfl
theorem nf6_4 : ∀ q : vw_C, vwCl[6]? = some q → (q.2.1 4).2.2.2 = false := fun q hq => by cases hq; rfl
theorem nf6_15 : ∀ q : vw_C, vwCl[6]? = some q → (q.2.1 15).2.2.2 = false := fun q hq => by cases hq; rfl
theorem nf6_16 : ∀ q : vw_C, vwCl[6]? = some q → (q.2.1 16).2.2.2 = false := fun q hq => by cases hq; rfl
theorem nf6_17 : ∀ q : vw_C, vwCl[6]? = some q → (q.2.1 17).2.2.2 = false := fun q hq => by cases hq; rfl
theorem nf6_18 : ∀ q : vw_C, vwCl[6]? = some q → (q.2.1 18).2.2.2 = false := fun q hq => by cases hq; rfl
theorem nf6_19 : ∀ q : vw_C, vwCl[6]? = some q → (q.2.1 19).2.2.2 = false := fun q hq => by cases hq; rfl
theorem nf6_22 : ∀ q : vw_C, vwCl[6]? = some q → (q.2.1 22).2.2.2 = false := fun q hq => by cases hq; rfl
theorem nf6_24 : ∀ q : vw_C, vwCl[6]? = some q → (q.2.1 24).2.2.2 = false := fun q hq => by cases hq; rfl
theorem nf6_27 : ∀ q : vw_C, vwCl[6]? = some q → (q.2.1 27).2.2.2 = false := fun q hq => by cases hq; rfl
theorem nf6_28 : ∀ q : vw_C, vwCl[6]? = some q → (q.2.1 28).2.2.2 = false := fun q hq => by cases hq; rfl
theorem nf6_31 : ∀ q : vw_C, vwCl[6]? = some q → (q.2.1 31).2.2.2 = false := fun q hq => by cases hq; rfl
theorem hu_27 : ∀ j', (eModelF j').1 = 1 → (eModelF j').2 = 0 → j' = 27 := by
  intro j' h1 h2
  by_cases hj : j' < 32
  · exact (by decide : ∀ j', j' < 32 → (eModelF j').1 = 1 → (eModelF j').2 = 0 → j' = 27) j' hj h1 h2
  · exfalso
    have : eModelF j' = (0, 0) := by
      unfold eModelF
      split <;> first | rfl | omega
    rw [this] at h1
    cases h1
theorem hu_28 : ∀ j', (eModelF j').1 = 1 → (eModelF j').2 = 1 → j' = 28 := by
  intro j' h1 h2
  by_cases hj : j' < 32
  · exact (by decide : ∀ j', j' < 32 → (eModelF j').1 = 1 → (eModelF j').2 = 1 → j' = 28) j' hj h1 h2
  · exfalso
    have : eModelF j' = (0, 0) := by
      unfold eModelF
      split <;> first | rfl | omega
    rw [this] at h1
    cases h1
theorem hu_31 : ∀ j', (eModelF j').1 = 1 → (eModelF j').2 = 2 → j' = 31 := by
  intro j' h1 h2
  by_cases hj : j' < 32
  · exact (by decide : ∀ j', j' < 32 → (eModelF j').1 = 1 → (eModelF j').2 = 2 → j' = 31) j' hj h1 h2
  · exfalso
    have : eModelF j' = (0, 0) := by
      unfold eModelF
      split <;> first | rfl | omega
    rw [this] at h1
    cases h1
theorem hv_long : ∀ k' ci' N' fd', eSh k' = .inr (ci', N', fd') → ∀ j', j' < N' → (fd' j').1 = 1 → k' = 52 := by
  intro k' ci' N' fd' h j' hj h1
  by_cases hk : k' < 71
  · have key : ∀ k, k < 71 → (match eSh k with | .inl _ => true | .inr o => (List.range o.2.1).all (fun j => !((o.2.2 j).1 == 1) || k == 52)) = true := by decide
    have := key k' hk
    rw [h] at this
    have h2 := List.all_eq_true.mp this j' (List.mem_range.mpr hj)
    simp only [h1] at h2
    simpa using h2
  · exfalso
    have : eSh k' = eI 2 := by
      unfold eSh
      split <;> first | rfl | omega
    rw [this] at h
    cases h
end
section
/-! the instructions, decoded; printed by wip/gen/dec.py -/
theorem dX0_init_0 : decode cX0_init 0 = .ok (.aload_n 0, 1) := by decide +kernel
theorem dX0_init_1 : decode cX0_init 1 = .ok (.invokespecial 3, 3) := by decide +kernel
theorem dX0_init_4 : decode cX0_init 4 = .ok (.aload_n 0, 1) := by decide +kernel
theorem dX0_init_5 : decode cX0_init 5 = .ok (.bipush 64, 2) := by decide +kernel
theorem dX0_init_7 : decode cX0_init 7 = .ok (.newarray .int, 2) := by decide +kernel
theorem dX0_init_9 : decode cX0_init 9 = .ok (.putfield 9, 3) := by decide +kernel
theorem dX0_init_12 : decode cX0_init 12 = .ok (.aload_n 0, 1) := by decide +kernel
theorem dX0_init_13 : decode cX0_init 13 = .ok (.bipush 64, 2) := by decide +kernel
theorem dX0_init_15 : decode cX0_init 15 = .ok (.newarray .int, 2) := by decide +kernel
theorem dX0_init_17 : decode cX0_init 17 = .ok (.putfield 15, 3) := by decide +kernel
theorem dX0_init_20 : decode cX0_init 20 = .ok (.aload_n 0, 1) := by decide +kernel
theorem dX0_init_21 : decode cX0_init 21 = .ok (.bipush 8, 2) := by decide +kernel
theorem dX0_init_23 : decode cX0_init 23 = .ok (.newarray .int, 2) := by decide +kernel
theorem dX0_init_25 : decode cX0_init 25 = .ok (.putfield 18, 3) := by decide +kernel
theorem dX0_init_28 : decode cX0_init 28 = .ok (.aload_n 0, 1) := by decide +kernel
theorem dX0_init_29 : decode cX0_init 29 = .ok (.bipush 8, 2) := by decide +kernel
theorem dX0_init_31 : decode cX0_init 31 = .ok (.newarray .int, 2) := by decide +kernel
theorem dX0_init_33 : decode cX0_init 33 = .ok (.putfield 21, 3) := by decide +kernel
theorem dX0_init_36 : decode cX0_init 36 = .ok (.return_, 1) := by decide +kernel
theorem dX0_work_0 : decode cX0_work 0 = .ok (.iconst 0, 1) := by decide +kernel
theorem dX0_work_1 : decode cX0_work 1 = .ok (.istore 4, 2) := by decide +kernel
theorem dX0_work_3 : decode cX0_work 3 = .ok (.iload 4, 2) := by decide +kernel
theorem dX0_work_5 : decode cX0_work 5 = .ok (.bipush 8, 2) := by decide +kernel
theorem dX0_work_7 : decode cX0_work 7 = .ok (.if_icmp .ge 25, 3) := by decide +kernel
theorem dX0_work_10 : decode cX0_work 10 = .ok (.aload_n 0, 1) := by decide +kernel
theorem dX0_work_11 : decode cX0_work 11 = .ok (.getfield 18, 3) := by decide +kernel
theorem dX0_work_14 : decode cX0_work 14 = .ok (.iload 4, 2) := by decide +kernel
theorem dX0_work_16 : decode cX0_work 16 = .ok (.iconst 0, 1) := by decide +kernel
theorem dX0_work_17 : decode cX0_work 17 = .ok (.iastore, 1) := by decide +kernel
theorem dX0_work_18 : decode cX0_work 18 = .ok (.aload_n 0, 1) := by decide +kernel
theorem dX0_work_19 : decode cX0_work 19 = .ok (.getfield 21, 3) := by decide +kernel
theorem dX0_work_22 : decode cX0_work 22 = .ok (.iload 4, 2) := by decide +kernel
theorem dX0_work_24 : decode cX0_work 24 = .ok (.iconst 0, 1) := by decide +kernel
theorem dX0_work_25 : decode cX0_work 25 = .ok (.iastore, 1) := by decide +kernel
theorem dX0_work_26 : decode cX0_work 26 = .ok (.iinc 4 1, 3) := by decide +kernel
theorem dX0_work_29 : decode cX0_work 29 = .ok (.goto (-26), 3) := by decide +kernel
theorem dX0_work_32 : decode cX0_work 32 = .ok (.iconst 0, 1) := by decide +kernel
theorem dX0_work_33 : decode cX0_work 33 = .ok (.istore 4, 2) := by decide +kernel
theorem dX0_work_35 : decode cX0_work 35 = .ok (.iload 4, 2) := by decide +kernel
theorem dX0_work_37 : decode cX0_work 37 = .ok (.bipush 8, 2) := by decide +kernel
theorem dX0_work_39 : decode cX0_work 39 = .ok (.if_icmp .ge 117, 3) := by decide +kernel
theorem dX0_work_42 : decode cX0_work 42 = .ok (.iconst 0, 1) := by decide +kernel
theorem dX0_work_43 : decode cX0_work 43 = .ok (.istore 5, 2) := by decide +kernel
theorem dX0_work_45 : decode cX0_work 45 = .ok (.iload 5, 2) := by decide +kernel
theorem dX0_work_47 : decode cX0_work 47 = .ok (.bipush 8, 2) := by decide +kernel
theorem dX0_work_49 : decode cX0_work 49 = .ok (.if_icmp .ge 101, 3) := by decide +kernel
theorem dX0_work_52 : decode cX0_work 52 = .ok (.aload_n 1, 1) := by decide +kernel
theorem dX0_work_53 : decode cX0_work 53 = .ok (.iload_n 2, 1) := by decide +kernel
theorem dX0_work_54 : decode cX0_work 54 = .ok (.iload 4, 2) := by decide +kernel
theorem dX0_work_56 : decode cX0_work 56 = .ok (.iload_n 3, 1) := by decide +kernel
theorem dX0_work_57 : decode cX0_work 57 = .ok (.iload 5, 2) := by decide +kernel
theorem dX0_work_59 : decode cX0_work 59 = .ok (.invokestatic 24, 3) := by decide +kernel
theorem dX0_work_62 : decode cX0_work 62 = .ok (.istore 6, 2) := by decide +kernel
theorem dX0_work_64 : decode cX0_work 64 = .ok (.aload_n 1, 1) := by decide +kernel
theorem dX0_work_65 : decode cX0_work 65 = .ok (.iload_n 3, 1) := by decide +kernel
theorem dX0_work_66 : decode cX0_work 66 = .ok (.iload 5, 2) := by decide +kernel
theorem dX0_work_68 : decode cX0_work 68 = .ok (.iload_n 2, 1) := by decide +kernel
theorem dX0_work_69 : decode cX0_work 69 = .ok (.iload 4, 2) := by decide +kernel
theorem dX0_work_71 : decode cX0_work 71 = .ok (.invokestatic 24, 3) := by decide +kernel
theorem dX0_work_74 : decode cX0_work 74 = .ok (.istore 7, 2) := by decide +kernel
theorem dX0_work_76 : decode cX0_work 76 = .ok (.aload_n 0, 1) := by decide +kernel
theorem dX0_work_77 : decode cX0_work 77 = .ok (.getfield 9, 3) := by decide +kernel
theorem dX0_work_80 : decode cX0_work 80 = .ok (.bipush 8, 2) := by decide +kernel
theorem dX0_work_82 : decode cX0_work 82 = .ok (.iload 4, 2) := by decide +kernel
theorem dX0_work_84 : decode cX0_work 84 = .ok (.imul, 1) := by decide +kernel
theorem dX0_work_85 : decode cX0_work 85 = .ok (.iload 5, 2) := by decide +kernel
theorem dX0_work_87 : decode cX0_work 87 = .ok (.iadd, 1) := by decide +kernel
theorem dX0_work_88 : decode cX0_work 88 = .ok (.iload 6, 2) := by decide +kernel
theorem dX0_work_90 : decode cX0_work 90 = .ok (.iastore, 1) := by decide +kernel
theorem dX0_work_91 : decode cX0_work 91 = .ok (.aload_n 0, 1) := by decide +kernel
theorem dX0_work_92 : decode cX0_work 92 = .ok (.getfield 15, 3) := by decide +kernel
theorem dX0_work_95 : decode cX0_work 95 = .ok (.bipush 8, 2) := by decide +kernel
theorem dX0_work_97 : decode cX0_work 97 = .ok (.iload 4, 2) := by decide +kernel
theorem dX0_work_99 : decode cX0_work 99 = .ok (.imul, 1) := by decide +kernel
theorem dX0_work_100 : decode cX0_work 100 = .ok (.iload 5, 2) := by decide +kernel
theorem dX0_work_102 : decode cX0_work 102 = .ok (.iadd, 1) := by decide +kernel
theorem dX0_work_103 : decode cX0_work 103 = .ok (.iload 7, 2) := by decide +kernel
theorem dX0_work_105 : decode cX0_work 105 = .ok (.iastore, 1) := by decide +kernel
theorem dX0_work_106 : decode cX0_work 106 = .ok (.aload_n 0, 1) := by decide +kernel
theorem dX0_work_107 : decode cX0_work 107 = .ok (.getfield 18, 3) := by decide +kernel
theorem dX0_work_110 : decode cX0_work 110 = .ok (.iload 5, 2) := by decide +kernel
theorem dX0_work_112 : decode cX0_work 112 = .ok (.aload_n 0, 1) := by decide +kernel
theorem dX0_work_113 : decode cX0_work 113 = .ok (.getfield 18, 3) := by decide +kernel
theorem dX0_work_116 : decode cX0_work 116 = .ok (.iload 5, 2) := by decide +kernel
theorem dX0_work_118 : decode cX0_work 118 = .ok (.iaload, 1) := by decide +kernel
theorem dX0_work_119 : decode cX0_work 119 = .ok (.iload 6, 2) := by decide +kernel
theorem dX0_work_121 : decode cX0_work 121 = .ok (.invokestatic 28, 3) := by decide +kernel
theorem dX0_work_124 : decode cX0_work 124 = .ok (.iastore, 1) := by decide +kernel
theorem dX0_work_125 : decode cX0_work 125 = .ok (.aload_n 0, 1) := by decide +kernel
theorem dX0_work_126 : decode cX0_work 126 = .ok (.getfield 21, 3) := by decide +kernel
theorem dX0_work_129 : decode cX0_work 129 = .ok (.iload 4, 2) := by decide +kernel
theorem dX0_work_131 : decode cX0_work 131 = .ok (.aload_n 0, 1) := by decide +kernel
theorem dX0_work_132 : decode cX0_work 132 = .ok (.getfield 21, 3) := by decide +kernel
theorem dX0_work_135 : decode cX0_work 135 = .ok (.iload 4, 2) := by decide +kernel
theorem dX0_work_137 : decode cX0_work 137 = .ok (.iaload, 1) := by decide +kernel
theorem dX0_work_138 : decode cX0_work 138 = .ok (.iload 7, 2) := by decide +kernel
theorem dX0_work_140 : decode cX0_work 140 = .ok (.invokestatic 28, 3) := by decide +kernel
theorem dX0_work_143 : decode cX0_work 143 = .ok (.iastore, 1) := by decide +kernel
theorem dX0_work_144 : decode cX0_work 144 = .ok (.iinc 5 1, 3) := by decide +kernel
theorem dX0_work_147 : decode cX0_work 147 = .ok (.goto (-102), 3) := by decide +kernel
theorem dX0_work_150 : decode cX0_work 150 = .ok (.iinc 4 1, 3) := by decide +kernel
theorem dX0_work_153 : decode cX0_work 153 = .ok (.goto (-118), 3) := by decide +kernel
theorem dX0_work_156 : decode cX0_work 156 = .ok (.return_, 1) := by decide +kernel
theorem dX0_rests_0 : decode cX0_rests 0 = .ok (.aload_n 0, 1) := by decide +kernel
theorem dX0_rests_1 : decode cX0_rests 1 = .ok (.getfield 9, 3) := by decide +kernel
theorem dX0_rests_4 : decode cX0_rests 4 = .ok (.bipush 8, 2) := by decide +kernel
theorem dX0_rests_6 : decode cX0_rests 6 = .ok (.iload_n 1, 1) := by decide +kernel
theorem dX0_rests_7 : decode cX0_rests 7 = .ok (.imul, 1) := by decide +kernel
theorem dX0_rests_8 : decode cX0_rests 8 = .ok (.iload_n 2, 1) := by decide +kernel
theorem dX0_rests_9 : decode cX0_rests 9 = .ok (.iadd, 1) := by decide +kernel
theorem dX0_rests_10 : decode cX0_rests 10 = .ok (.iaload, 1) := by decide +kernel
theorem dX0_rests_11 : decode cX0_rests 11 = .ok (.aload_n 0, 1) := by decide +kernel
theorem dX0_rests_12 : decode cX0_rests 12 = .ok (.getfield 18, 3) := by decide +kernel
theorem dX0_rests_15 : decode cX0_rests 15 = .ok (.iload_n 2, 1) := by decide +kernel
theorem dX0_rests_16 : decode cX0_rests 16 = .ok (.iaload, 1) := by decide +kernel
theorem dX0_rests_17 : decode cX0_rests 17 = .ok (.if_icmp .ne 27, 3) := by decide +kernel
theorem dX0_rests_20 : decode cX0_rests 20 = .ok (.aload_n 0, 1) := by decide +kernel
theorem dX0_rests_21 : decode cX0_rests 21 = .ok (.getfield 15, 3) := by decide +kernel
theorem dX0_rests_24 : decode cX0_rests 24 = .ok (.bipush 8, 2) := by decide +kernel
theorem dX0_rests_26 : decode cX0_rests 26 = .ok (.iload_n 1, 1) := by decide +kernel
theorem dX0_rests_27 : decode cX0_rests 27 = .ok (.imul, 1) := by decide +kernel
theorem dX0_rests_28 : decode cX0_rests 28 = .ok (.iload_n 2, 1) := by decide +kernel
theorem dX0_rests_29 : decode cX0_rests 29 = .ok (.iadd, 1) := by decide +kernel
theorem dX0_rests_30 : decode cX0_rests 30 = .ok (.iaload, 1) := by decide +kernel
theorem dX0_rests_31 : decode cX0_rests 31 = .ok (.aload_n 0, 1) := by decide +kernel
theorem dX0_rests_32 : decode cX0_rests 32 = .ok (.getfield 21, 3) := by decide +kernel
theorem dX0_rests_35 : decode cX0_rests 35 = .ok (.iload_n 1, 1) := by decide +kernel
theorem dX0_rests_36 : decode cX0_rests 36 = .ok (.iaload, 1) := by decide +kernel
theorem dX0_rests_37 : decode cX0_rests 37 = .ok (.if_icmp .ne 7, 3) := by decide +kernel
theorem dX0_rests_40 : decode cX0_rests 40 = .ok (.iconst 1, 1) := by decide +kernel
theorem dX0_rests_41 : decode cX0_rests 41 = .ok (.goto 4, 3) := by decide +kernel
theorem dX0_rests_44 : decode cX0_rests 44 = .ok (.iconst 0, 1) := by decide +kernel
theorem dX0_rests_45 : decode cX0_rests 45 = .ok (.ireturn, 1) := by decide +kernel
theorem dX0_gets_0 : decode cX0_gets 0 = .ok (.iload_n 2, 1) := by decide +kernel
theorem dX0_gets_1 : decode cX0_gets 1 = .ok (.iload 4, 2) := by decide +kernel
theorem dX0_gets_3 : decode cX0_gets 3 = .ok (.if_icmp .eq 14, 3) := by decide +kernel
theorem dX0_gets_6 : decode cX0_gets 6 = .ok (.aload_n 0, 1) := by decide +kernel
theorem dX0_gets_7 : decode cX0_gets 7 = .ok (.iload_n 3, 1) := by decide +kernel
theorem dX0_gets_8 : decode cX0_gets 8 = .ok (.iload 4, 2) := by decide +kernel
theorem dX0_gets_10 : decode cX0_gets 10 = .ok (.iload_n 2, 1) := by decide +kernel
theorem dX0_gets_11 : decode cX0_gets 11 = .ok (.invokevirtual 34, 3) := by decide +kernel
theorem dX0_gets_14 : decode cX0_gets 14 = .ok (.ifCond .eq 5, 3) := by decide +kernel
theorem dX0_gets_17 : decode cX0_gets 17 = .ok (.iconst 0, 1) := by decide +kernel
theorem dX0_gets_18 : decode cX0_gets 18 = .ok (.ireturn, 1) := by decide +kernel
theorem dX0_gets_19 : decode cX0_gets 19 = .ok (.aload_n 0, 1) := by decide +kernel
theorem dX0_gets_20 : decode cX0_gets 20 = .ok (.getfield 40, 3) := by decide +kernel
theorem dX0_gets_23 : decode cX0_gets 23 = .ok (.iload_n 1, 1) := by decide +kernel
theorem dX0_gets_24 : decode cX0_gets 24 = .ok (.iaload, 1) := by decide +kernel
theorem dX0_gets_25 : decode cX0_gets 25 = .ok (.aload_n 0, 1) := by decide +kernel
theorem dX0_gets_26 : decode cX0_gets 26 = .ok (.iload_n 2, 1) := by decide +kernel
theorem dX0_gets_27 : decode cX0_gets 27 = .ok (.invokevirtual 43, 3) := by decide +kernel
theorem dX0_gets_30 : decode cX0_gets 30 = .ok (.aload_n 0, 1) := by decide +kernel
theorem dX0_gets_31 : decode cX0_gets 31 = .ok (.getfield 47, 3) := by decide +kernel
theorem dX0_gets_34 : decode cX0_gets 34 = .ok (.iload_n 2, 1) := by decide +kernel
theorem dX0_gets_35 : decode cX0_gets 35 = .ok (.iaload, 1) := by decide +kernel
theorem dX0_gets_36 : decode cX0_gets 36 = .ok (.invokestatic 50, 3) := by decide +kernel
theorem dX0_gets_39 : decode cX0_gets 39 = .ok (.ireturn, 1) := by decide +kernel
theorem dX1_init_0 : decode cX1_init 0 = .ok (.aload_n 0, 1) := by decide +kernel
theorem dX1_init_1 : decode cX1_init 1 = .ok (.invokespecial 3, 3) := by decide +kernel
theorem dX1_init_4 : decode cX1_init 4 = .ok (.aload_n 0, 1) := by decide +kernel
theorem dX1_init_5 : decode cX1_init 5 = .ok (.bipush 6, 2) := by decide +kernel
theorem dX1_init_7 : decode cX1_init 7 = .ok (.newarray .int, 2) := by decide +kernel
theorem dX1_init_9 : decode cX1_init 9 = .ok (.putfield 11, 3) := by decide +kernel
theorem dX1_init_12 : decode cX1_init 12 = .ok (.return_, 1) := by decide +kernel
theorem dX1_kindsOf_0 : decode cX1_kindsOf 0 = .ok (.iconst 0, 1) := by decide +kernel
theorem dX1_kindsOf_1 : decode cX1_kindsOf 1 = .ok (.istore_n 3, 1) := by decide +kernel
theorem dX1_kindsOf_2 : decode cX1_kindsOf 2 = .ok (.iconst 0, 1) := by decide +kernel
theorem dX1_kindsOf_3 : decode cX1_kindsOf 3 = .ok (.istore 4, 2) := by decide +kernel
theorem dX1_kindsOf_5 : decode cX1_kindsOf 5 = .ok (.iload 4, 2) := by decide +kernel
theorem dX1_kindsOf_7 : decode cX1_kindsOf 7 = .ok (.bipush 6, 2) := by decide +kernel
theorem dX1_kindsOf_9 : decode cX1_kindsOf 9 = .ok (.if_icmp .ge 26, 3) := by decide +kernel
theorem dX1_kindsOf_12 : decode cX1_kindsOf 12 = .ok (.aload_n 1, 1) := by decide +kernel
theorem dX1_kindsOf_13 : decode cX1_kindsOf 13 = .ok (.iload_n 2, 1) := by decide +kernel
theorem dX1_kindsOf_14 : decode cX1_kindsOf 14 = .ok (.iload 4, 2) := by decide +kernel
theorem dX1_kindsOf_16 : decode cX1_kindsOf 16 = .ok (.invokestatic 17, 3) := by decide +kernel
theorem dX1_kindsOf_19 : decode cX1_kindsOf 19 = .ok (.ifCond .eq 10, 3) := by decide +kernel
theorem dX1_kindsOf_22 : decode cX1_kindsOf 22 = .ok (.iload_n 3, 1) := by decide +kernel
theorem dX1_kindsOf_23 : decode cX1_kindsOf 23 = .ok (.iconst 1, 1) := by decide +kernel
theorem dX1_kindsOf_24 : decode cX1_kindsOf 24 = .ok (.iload 4, 2) := by decide +kernel
theorem dX1_kindsOf_26 : decode cX1_kindsOf 26 = .ok (.ishl, 1) := by decide +kernel
theorem dX1_kindsOf_27 : decode cX1_kindsOf 27 = .ok (.ior, 1) := by decide +kernel
theorem dX1_kindsOf_28 : decode cX1_kindsOf 28 = .ok (.istore_n 3, 1) := by decide +kernel
theorem dX1_kindsOf_29 : decode cX1_kindsOf 29 = .ok (.iinc 4 1, 3) := by decide +kernel
theorem dX1_kindsOf_32 : decode cX1_kindsOf 32 = .ok (.goto (-27), 3) := by decide +kernel
theorem dX1_kindsOf_35 : decode cX1_kindsOf 35 = .ok (.iload_n 3, 1) := by decide +kernel
theorem dX1_kindsOf_36 : decode cX1_kindsOf 36 = .ok (.ireturn, 1) := by decide +kernel
theorem dX1_nextFor_0 : decode cX1_nextFor 0 = .ok (.aload_n 0, 1) := by decide +kernel
theorem dX1_nextFor_1 : decode cX1_nextFor 1 = .ok (.aload_n 1, 1) := by decide +kernel
theorem dX1_nextFor_2 : decode cX1_nextFor 2 = .ok (.iload_n 2, 1) := by decide +kernel
theorem dX1_nextFor_3 : decode cX1_nextFor 3 = .ok (.invokevirtual 21, 3) := by decide +kernel
theorem dX1_nextFor_6 : decode cX1_nextFor 6 = .ok (.istore_n 3, 1) := by decide +kernel
theorem dX1_nextFor_7 : decode cX1_nextFor 7 = .ok (.iload_n 3, 1) := by decide +kernel
theorem dX1_nextFor_8 : decode cX1_nextFor 8 = .ok (.ifCond .ne 5, 3) := by decide +kernel
theorem dX1_nextFor_11 : decode cX1_nextFor 11 = .ok (.iconst (-1), 1) := by decide +kernel
theorem dX1_nextFor_12 : decode cX1_nextFor 12 = .ok (.ireturn, 1) := by decide +kernel
theorem dX1_nextFor_13 : decode cX1_nextFor 13 = .ok (.iconst (-1), 1) := by decide +kernel
theorem dX1_nextFor_14 : decode cX1_nextFor 14 = .ok (.istore 4, 2) := by decide +kernel
theorem dX1_nextFor_16 : decode cX1_nextFor 16 = .ok (.bipush 7, 2) := by decide +kernel
theorem dX1_nextFor_18 : decode cX1_nextFor 18 = .ok (.istore 5, 2) := by decide +kernel
theorem dX1_nextFor_20 : decode cX1_nextFor 20 = .ok (.iconst 0, 1) := by decide +kernel
theorem dX1_nextFor_21 : decode cX1_nextFor 21 = .ok (.istore 6, 2) := by decide +kernel
theorem dX1_nextFor_23 : decode cX1_nextFor 23 = .ok (.iload 6, 2) := by decide +kernel
theorem dX1_nextFor_25 : decode cX1_nextFor 25 = .ok (.bipush 8, 2) := by decide +kernel
theorem dX1_nextFor_27 : decode cX1_nextFor 27 = .ok (.if_icmp .ge 65, 3) := by decide +kernel
theorem dX1_nextFor_30 : decode cX1_nextFor 30 = .ok (.aload_n 1, 1) := by decide +kernel
theorem dX1_nextFor_31 : decode cX1_nextFor 31 = .ok (.iload 6, 2) := by decide +kernel
theorem dX1_nextFor_33 : decode cX1_nextFor 33 = .ok (.invokevirtual 25, 3) := by decide +kernel
theorem dX1_nextFor_36 : decode cX1_nextFor 36 = .ok (.istore 7, 2) := by decide +kernel
theorem dX1_nextFor_38 : decode cX1_nextFor 38 = .ok (.iconst 0, 1) := by decide +kernel
theorem dX1_nextFor_39 : decode cX1_nextFor 39 = .ok (.istore 8, 2) := by decide +kernel
theorem dX1_nextFor_41 : decode cX1_nextFor 41 = .ok (.iload 8, 2) := by decide +kernel
theorem dX1_nextFor_43 : decode cX1_nextFor 43 = .ok (.bipush 9, 2) := by decide +kernel
theorem dX1_nextFor_45 : decode cX1_nextFor 45 = .ok (.if_icmp .gt 41, 3) := by decide +kernel
theorem dX1_nextFor_48 : decode cX1_nextFor 48 = .ok (.aload_n 0, 1) := by decide +kernel
theorem dX1_nextFor_49 : decode cX1_nextFor 49 = .ok (.iload_n 3, 1) := by decide +kernel
theorem dX1_nextFor_50 : decode cX1_nextFor 50 = .ok (.iload 7, 2) := by decide +kernel
theorem dX1_nextFor_52 : decode cX1_nextFor 52 = .ok (.iload 8, 2) := by decide +kernel
theorem dX1_nextFor_54 : decode cX1_nextFor 54 = .ok (.invokevirtual 31, 3) := by decide +kernel
theorem dX1_nextFor_57 : decode cX1_nextFor 57 = .ok (.istore 9, 2) := by decide +kernel
theorem dX1_nextFor_59 : decode cX1_nextFor 59 = .ok (.iload 9, 2) := by decide +kernel
theorem dX1_nextFor_61 : decode cX1_nextFor 61 = .ok (.iload 5, 2) := by decide +kernel
theorem dX1_nextFor_63 : decode cX1_nextFor 63 = .ok (.if_icmp .ge 17, 3) := by decide +kernel
theorem dX1_nextFor_66 : decode cX1_nextFor 66 = .ok (.iload 9, 2) := by decide +kernel
theorem dX1_nextFor_68 : decode cX1_nextFor 68 = .ok (.istore 5, 2) := by decide +kernel
theorem dX1_nextFor_70 : decode cX1_nextFor 70 = .ok (.bipush 10, 2) := by decide +kernel
theorem dX1_nextFor_72 : decode cX1_nextFor 72 = .ok (.iload 6, 2) := by decide +kernel
theorem dX1_nextFor_74 : decode cX1_nextFor 74 = .ok (.imul, 1) := by decide +kernel
theorem dX1_nextFor_75 : decode cX1_nextFor 75 = .ok (.iload 8, 2) := by decide +kernel
theorem dX1_nextFor_77 : decode cX1_nextFor 77 = .ok (.iadd, 1) := by decide +kernel
theorem dX1_nextFor_78 : decode cX1_nextFor 78 = .ok (.istore 4, 2) := by decide +kernel
theorem dX1_nextFor_80 : decode cX1_nextFor 80 = .ok (.iinc 8 1, 3) := by decide +kernel
theorem dX1_nextFor_83 : decode cX1_nextFor 83 = .ok (.goto (-42), 3) := by decide +kernel
theorem dX1_nextFor_86 : decode cX1_nextFor 86 = .ok (.iinc 6 1, 3) := by decide +kernel
theorem dX1_nextFor_89 : decode cX1_nextFor 89 = .ok (.goto (-66), 3) := by decide +kernel
theorem dX1_nextFor_92 : decode cX1_nextFor 92 = .ok (.iload 4, 2) := by decide +kernel
theorem dX1_nextFor_94 : decode cX1_nextFor 94 = .ok (.ireturn, 1) := by decide +kernel
theorem dX1_fits_0 : decode cX1_fits 0 = .ok (.iconst 0, 1) := by decide +kernel
theorem dX1_fits_1 : decode cX1_fits 1 = .ok (.istore_n 3, 1) := by decide +kernel
theorem dX1_fits_2 : decode cX1_fits 2 = .ok (.iload_n 3, 1) := by decide +kernel
theorem dX1_fits_3 : decode cX1_fits 3 = .ok (.aload_n 0, 1) := by decide +kernel
theorem dX1_fits_4 : decode cX1_fits 4 = .ok (.getfield 35, 3) := by decide +kernel
theorem dX1_fits_7 : decode cX1_fits 7 = .ok (.if_icmp .ge 61, 3) := by decide +kernel
theorem dX1_fits_10 : decode cX1_fits 10 = .ok (.iload_n 3, 1) := by decide +kernel
theorem dX1_fits_11 : decode cX1_fits 11 = .ok (.iconst 4, 1) := by decide +kernel
theorem dX1_fits_12 : decode cX1_fits 12 = .ok (.imul, 1) := by decide +kernel
theorem dX1_fits_13 : decode cX1_fits 13 = .ok (.istore 4, 2) := by decide +kernel
theorem dX1_fits_15 : decode cX1_fits 15 = .ok (.aload_n 0, 1) := by decide +kernel
theorem dX1_fits_16 : decode cX1_fits 16 = .ok (.getfield 39, 3) := by decide +kernel
theorem dX1_fits_19 : decode cX1_fits 19 = .ok (.iload 4, 2) := by decide +kernel
theorem dX1_fits_21 : decode cX1_fits 21 = .ok (.iaload, 1) := by decide +kernel
theorem dX1_fits_22 : decode cX1_fits 22 = .ok (.iload_n 1, 1) := by decide +kernel
theorem dX1_fits_23 : decode cX1_fits 23 = .ok (.if_icmp .ne 39, 3) := by decide +kernel
theorem dX1_fits_26 : decode cX1_fits 26 = .ok (.iload_n 2, 1) := by decide +kernel
theorem dX1_fits_27 : decode cX1_fits 27 = .ok (.aload_n 0, 1) := by decide +kernel
theorem dX1_fits_28 : decode cX1_fits 28 = .ok (.getfield 39, 3) := by decide +kernel
theorem dX1_fits_31 : decode cX1_fits 31 = .ok (.iload 4, 2) := by decide +kernel
theorem dX1_fits_33 : decode cX1_fits 33 = .ok (.iconst 1, 1) := by decide +kernel
theorem dX1_fits_34 : decode cX1_fits 34 = .ok (.iadd, 1) := by decide +kernel
theorem dX1_fits_35 : decode cX1_fits 35 = .ok (.iaload, 1) := by decide +kernel
theorem dX1_fits_36 : decode cX1_fits 36 = .ok (.aload_n 0, 1) := by decide +kernel
theorem dX1_fits_37 : decode cX1_fits 37 = .ok (.getfield 39, 3) := by decide +kernel
theorem dX1_fits_40 : decode cX1_fits 40 = .ok (.iload 4, 2) := by decide +kernel
theorem dX1_fits_42 : decode cX1_fits 42 = .ok (.iconst 2, 1) := by decide +kernel
theorem dX1_fits_43 : decode cX1_fits 43 = .ok (.iadd, 1) := by decide +kernel
theorem dX1_fits_44 : decode cX1_fits 44 = .ok (.iaload, 1) := by decide +kernel
theorem dX1_fits_45 : decode cX1_fits 45 = .ok (.invokestatic 42, 3) := by decide +kernel
theorem dX1_fits_48 : decode cX1_fits 48 = .ok (.aload_n 0, 1) := by decide +kernel
theorem dX1_fits_49 : decode cX1_fits 49 = .ok (.getfield 39, 3) := by decide +kernel
theorem dX1_fits_52 : decode cX1_fits 52 = .ok (.iload 4, 2) := by decide +kernel
theorem dX1_fits_54 : decode cX1_fits 54 = .ok (.iconst 3, 1) := by decide +kernel
theorem dX1_fits_55 : decode cX1_fits 55 = .ok (.iadd, 1) := by decide +kernel
theorem dX1_fits_56 : decode cX1_fits 56 = .ok (.iaload, 1) := by decide +kernel
theorem dX1_fits_57 : decode cX1_fits 57 = .ok (.if_icmp .eq 5, 3) := by decide +kernel
theorem dX1_fits_60 : decode cX1_fits 60 = .ok (.iconst 0, 1) := by decide +kernel
theorem dX1_fits_61 : decode cX1_fits 61 = .ok (.ireturn, 1) := by decide +kernel
theorem dX1_fits_62 : decode cX1_fits 62 = .ok (.iinc 3 1, 3) := by decide +kernel
theorem dX1_fits_65 : decode cX1_fits 65 = .ok (.goto (-63), 3) := by decide +kernel
theorem dX1_fits_68 : decode cX1_fits 68 = .ok (.iconst 1, 1) := by decide +kernel
theorem dX1_fits_69 : decode cX1_fits 69 = .ok (.ireturn, 1) := by decide +kernel
theorem dX1_mostAlike_0 : decode cX1_mostAlike 0 = .ok (.iconst 0, 1) := by decide +kernel
theorem dX1_mostAlike_1 : decode cX1_mostAlike 1 = .ok (.istore 4, 2) := by decide +kernel
theorem dX1_mostAlike_3 : decode cX1_mostAlike 3 = .ok (.iload 4, 2) := by decide +kernel
theorem dX1_mostAlike_5 : decode cX1_mostAlike 5 = .ok (.bipush 6, 2) := by decide +kernel
theorem dX1_mostAlike_7 : decode cX1_mostAlike 7 = .ok (.if_icmp .ge 37, 3) := by decide +kernel
theorem dX1_mostAlike_10 : decode cX1_mostAlike 10 = .ok (.aload_n 0, 1) := by decide +kernel
theorem dX1_mostAlike_11 : decode cX1_mostAlike 11 = .ok (.getfield 11, 3) := by decide +kernel
theorem dX1_mostAlike_14 : decode cX1_mostAlike 14 = .ok (.iload 4, 2) := by decide +kernel
theorem dX1_mostAlike_16 : decode cX1_mostAlike 16 = .ok (.iload_n 1, 1) := by decide +kernel
theorem dX1_mostAlike_17 : decode cX1_mostAlike 17 = .ok (.iload 4, 2) := by decide +kernel
theorem dX1_mostAlike_19 : decode cX1_mostAlike 19 = .ok (.ishr, 1) := by decide +kernel
theorem dX1_mostAlike_20 : decode cX1_mostAlike 20 = .ok (.iconst 1, 1) := by decide +kernel
theorem dX1_mostAlike_21 : decode cX1_mostAlike 21 = .ok (.iand, 1) := by decide +kernel
theorem dX1_mostAlike_22 : decode cX1_mostAlike 22 = .ok (.iconst 1, 1) := by decide +kernel
theorem dX1_mostAlike_23 : decode cX1_mostAlike 23 = .ok (.if_icmp .ne 13, 3) := by decide +kernel
theorem dX1_mostAlike_26 : decode cX1_mostAlike 26 = .ok (.iload 4, 2) := by decide +kernel
theorem dX1_mostAlike_28 : decode cX1_mostAlike 28 = .ok (.iload_n 2, 1) := by decide +kernel
theorem dX1_mostAlike_29 : decode cX1_mostAlike 29 = .ok (.iload_n 3, 1) := by decide +kernel
theorem dX1_mostAlike_30 : decode cX1_mostAlike 30 = .ok (.invokestatic 42, 3) := by decide +kernel
theorem dX1_mostAlike_33 : decode cX1_mostAlike 33 = .ok (.goto 4, 3) := by decide +kernel
theorem dX1_mostAlike_36 : decode cX1_mostAlike 36 = .ok (.iconst (-1), 1) := by decide +kernel
theorem dX1_mostAlike_37 : decode cX1_mostAlike 37 = .ok (.iastore, 1) := by decide +kernel
theorem dX1_mostAlike_38 : decode cX1_mostAlike 38 = .ok (.iinc 4 1, 3) := by decide +kernel
theorem dX1_mostAlike_41 : decode cX1_mostAlike 41 = .ok (.goto (-38), 3) := by decide +kernel
theorem dX1_mostAlike_44 : decode cX1_mostAlike 44 = .ok (.iconst 0, 1) := by decide +kernel
theorem dX1_mostAlike_45 : decode cX1_mostAlike 45 = .ok (.istore 4, 2) := by decide +kernel
theorem dX1_mostAlike_47 : decode cX1_mostAlike 47 = .ok (.iconst 0, 1) := by decide +kernel
theorem dX1_mostAlike_48 : decode cX1_mostAlike 48 = .ok (.istore 5, 2) := by decide +kernel
theorem dX1_mostAlike_50 : decode cX1_mostAlike 50 = .ok (.iload 5, 2) := by decide +kernel
theorem dX1_mostAlike_52 : decode cX1_mostAlike 52 = .ok (.bipush 6, 2) := by decide +kernel
theorem dX1_mostAlike_54 : decode cX1_mostAlike 54 = .ok (.if_icmp .ge 33, 3) := by decide +kernel
theorem dX1_mostAlike_57 : decode cX1_mostAlike 57 = .ok (.aload_n 0, 1) := by decide +kernel
theorem dX1_mostAlike_58 : decode cX1_mostAlike 58 = .ok (.getfield 11, 3) := by decide +kernel
theorem dX1_mostAlike_61 : decode cX1_mostAlike 61 = .ok (.iload 5, 2) := by decide +kernel
theorem dX1_mostAlike_63 : decode cX1_mostAlike 63 = .ok (.iaload, 1) := by decide +kernel
theorem dX1_mostAlike_64 : decode cX1_mostAlike 64 = .ok (.iconst (-1), 1) := by decide +kernel
theorem dX1_mostAlike_65 : decode cX1_mostAlike 65 = .ok (.if_icmp .eq 16, 3) := by decide +kernel
theorem dX1_mostAlike_68 : decode cX1_mostAlike 68 = .ok (.iload 4, 2) := by decide +kernel
theorem dX1_mostAlike_70 : decode cX1_mostAlike 70 = .ok (.aload_n 0, 1) := by decide +kernel
theorem dX1_mostAlike_71 : decode cX1_mostAlike 71 = .ok (.iload 5, 2) := by decide +kernel
theorem dX1_mostAlike_73 : decode cX1_mostAlike 73 = .ok (.invokevirtual 45, 3) := by decide +kernel
theorem dX1_mostAlike_76 : decode cX1_mostAlike 76 = .ok (.invokestatic 48, 3) := by decide +kernel
theorem dX1_mostAlike_79 : decode cX1_mostAlike 79 = .ok (.istore 4, 2) := by decide +kernel
theorem dX1_mostAlike_81 : decode cX1_mostAlike 81 = .ok (.iinc 5 1, 3) := by decide +kernel
theorem dX1_mostAlike_84 : decode cX1_mostAlike 84 = .ok (.goto (-34), 3) := by decide +kernel
theorem dX1_mostAlike_87 : decode cX1_mostAlike 87 = .ok (.iload 4, 2) := by decide +kernel
theorem dX1_mostAlike_89 : decode cX1_mostAlike 89 = .ok (.ireturn, 1) := by decide +kernel
theorem dX1_likeOnes_0 : decode cX1_likeOnes 0 = .ok (.iconst 0, 1) := by decide +kernel
theorem dX1_likeOnes_1 : decode cX1_likeOnes 1 = .ok (.istore_n 2, 1) := by decide +kernel
theorem dX1_likeOnes_2 : decode cX1_likeOnes 2 = .ok (.iconst 0, 1) := by decide +kernel
theorem dX1_likeOnes_3 : decode cX1_likeOnes 3 = .ok (.istore_n 3, 1) := by decide +kernel
theorem dX1_likeOnes_4 : decode cX1_likeOnes 4 = .ok (.iload_n 3, 1) := by decide +kernel
theorem dX1_likeOnes_5 : decode cX1_likeOnes 5 = .ok (.bipush 6, 2) := by decide +kernel
theorem dX1_likeOnes_7 : decode cX1_likeOnes 7 = .ok (.if_icmp .ge 27, 3) := by decide +kernel
theorem dX1_likeOnes_10 : decode cX1_likeOnes 10 = .ok (.aload_n 0, 1) := by decide +kernel
theorem dX1_likeOnes_11 : decode cX1_likeOnes 11 = .ok (.getfield 11, 3) := by decide +kernel
theorem dX1_likeOnes_14 : decode cX1_likeOnes 14 = .ok (.iload_n 3, 1) := by decide +kernel
theorem dX1_likeOnes_15 : decode cX1_likeOnes 15 = .ok (.iaload, 1) := by decide +kernel
theorem dX1_likeOnes_16 : decode cX1_likeOnes 16 = .ok (.aload_n 0, 1) := by decide +kernel
theorem dX1_likeOnes_17 : decode cX1_likeOnes 17 = .ok (.getfield 11, 3) := by decide +kernel
theorem dX1_likeOnes_20 : decode cX1_likeOnes 20 = .ok (.iload_n 1, 1) := by decide +kernel
theorem dX1_likeOnes_21 : decode cX1_likeOnes 21 = .ok (.iaload, 1) := by decide +kernel
theorem dX1_likeOnes_22 : decode cX1_likeOnes 22 = .ok (.if_icmp .ne 6, 3) := by decide +kernel
theorem dX1_likeOnes_25 : decode cX1_likeOnes 25 = .ok (.iinc 2 1, 3) := by decide +kernel
theorem dX1_likeOnes_28 : decode cX1_likeOnes 28 = .ok (.iinc 3 1, 3) := by decide +kernel
theorem dX1_likeOnes_31 : decode cX1_likeOnes 31 = .ok (.goto (-27), 3) := by decide +kernel
theorem dX1_likeOnes_34 : decode cX1_likeOnes 34 = .ok (.iload_n 2, 1) := by decide +kernel
theorem dX1_likeOnes_35 : decode cX1_likeOnes 35 = .ok (.ireturn, 1) := by decide +kernel
theorem dX2_init_0 : decode cX2_init 0 = .ok (.aload_n 0, 1) := by decide +kernel
theorem dX2_init_1 : decode cX2_init 1 = .ok (.invokespecial 3, 3) := by decide +kernel
theorem dX2_init_4 : decode cX2_init 4 = .ok (.aload_n 0, 1) := by decide +kernel
theorem dX2_init_5 : decode cX2_init 5 = .ok (.iconst 3, 1) := by decide +kernel
theorem dX2_init_6 : decode cX2_init 6 = .ok (.putfield 9, 3) := by decide +kernel
theorem dX2_init_9 : decode cX2_init 9 = .ok (.aload_n 0, 1) := by decide +kernel
theorem dX2_init_10 : decode cX2_init 10 = .ok (.sipush 240, 3) := by decide +kernel
theorem dX2_init_13 : decode cX2_init 13 = .ok (.putfield 15, 3) := by decide +kernel
theorem dX2_init_16 : decode cX2_init 16 = .ok (.aload_n 0, 1) := by decide +kernel
theorem dX2_init_17 : decode cX2_init 17 = .ok (.bipush 8, 2) := by decide +kernel
theorem dX2_init_19 : decode cX2_init 19 = .ok (.newarray .int, 2) := by decide +kernel
theorem dX2_init_21 : decode cX2_init 21 = .ok (.putfield 18, 3) := by decide +kernel
theorem dX2_init_24 : decode cX2_init 24 = .ok (.aload_n 0, 1) := by decide +kernel
theorem dX2_init_25 : decode cX2_init 25 = .ok (.iconst 0, 1) := by decide +kernel
theorem dX2_init_26 : decode cX2_init 26 = .ok (.putfield 22, 3) := by decide +kernel
theorem dX2_init_29 : decode cX2_init 29 = .ok (.aload_n 0, 1) := by decide +kernel
theorem dX2_init_30 : decode cX2_init 30 = .ok (.iconst 5, 1) := by decide +kernel
theorem dX2_init_31 : decode cX2_init 31 = .ok (.newarray .int, 2) := by decide +kernel
theorem dX2_init_33 : decode cX2_init 33 = .ok (.putfield 25, 3) := by decide +kernel
theorem dX2_init_36 : decode cX2_init 36 = .ok (.aload_n 0, 1) := by decide +kernel
theorem dX2_init_37 : decode cX2_init 37 = .ok (.iconst 5, 1) := by decide +kernel
theorem dX2_init_38 : decode cX2_init 38 = .ok (.newarray .int, 2) := by decide +kernel
theorem dX2_init_40 : decode cX2_init 40 = .ok (.putfield 28, 3) := by decide +kernel
theorem dX2_init_43 : decode cX2_init 43 = .ok (.aload_n 0, 1) := by decide +kernel
theorem dX2_init_44 : decode cX2_init 44 = .ok (.iconst 5, 1) := by decide +kernel
theorem dX2_init_45 : decode cX2_init 45 = .ok (.newarray .int, 2) := by decide +kernel
theorem dX2_init_47 : decode cX2_init 47 = .ok (.putfield 31, 3) := by decide +kernel
theorem dX2_init_50 : decode cX2_init 50 = .ok (.aload_n 0, 1) := by decide +kernel
theorem dX2_init_51 : decode cX2_init 51 = .ok (.iconst 5, 1) := by decide +kernel
theorem dX2_init_52 : decode cX2_init 52 = .ok (.newarray .int, 2) := by decide +kernel
theorem dX2_init_54 : decode cX2_init 54 = .ok (.putfield 34, 3) := by decide +kernel
theorem dX2_init_57 : decode cX2_init 57 = .ok (.aload_n 0, 1) := by decide +kernel
theorem dX2_init_58 : decode cX2_init 58 = .ok (.iconst 5, 1) := by decide +kernel
theorem dX2_init_59 : decode cX2_init 59 = .ok (.newarray .int, 2) := by decide +kernel
theorem dX2_init_61 : decode cX2_init 61 = .ok (.putfield 37, 3) := by decide +kernel
theorem dX2_init_64 : decode cX2_init 64 = .ok (.aload_n 0, 1) := by decide +kernel
theorem dX2_init_65 : decode cX2_init 65 = .ok (.iconst 0, 1) := by decide +kernel
theorem dX2_init_66 : decode cX2_init 66 = .ok (.putfield 40, 3) := by decide +kernel
theorem dX2_init_69 : decode cX2_init 69 = .ok (.aload_n 0, 1) := by decide +kernel
theorem dX2_init_70 : decode cX2_init 70 = .ok (.bipush 24, 2) := by decide +kernel
theorem dX2_init_72 : decode cX2_init 72 = .ok (.newarray .int, 2) := by decide +kernel
theorem dX2_init_74 : decode cX2_init 74 = .ok (.putfield 43, 3) := by decide +kernel
theorem dX2_init_77 : decode cX2_init 77 = .ok (.aload_n 0, 1) := by decide +kernel
theorem dX2_init_78 : decode cX2_init 78 = .ok (.iconst 0, 1) := by decide +kernel
theorem dX2_init_79 : decode cX2_init 79 = .ok (.putfield 46, 3) := by decide +kernel
theorem dX2_init_82 : decode cX2_init 82 = .ok (.aload_n 0, 1) := by decide +kernel
theorem dX2_init_83 : decode cX2_init 83 = .ok (.bipush 120, 2) := by decide +kernel
theorem dX2_init_85 : decode cX2_init 85 = .ok (.newarray .int, 2) := by decide +kernel
theorem dX2_init_87 : decode cX2_init 87 = .ok (.putfield 49, 3) := by decide +kernel
theorem dX2_init_90 : decode cX2_init 90 = .ok (.return_, 1) := by decide +kernel
theorem dX2_begin_0 : decode cX2_begin 0 = .ok (.aload_n 0, 1) := by decide +kernel
theorem dX2_begin_1 : decode cX2_begin 1 = .ok (.iload_n 1, 1) := by decide +kernel
theorem dX2_begin_2 : decode cX2_begin 2 = .ok (.putfield 9, 3) := by decide +kernel
theorem dX2_begin_5 : decode cX2_begin 5 = .ok (.aload_n 0, 1) := by decide +kernel
theorem dX2_begin_6 : decode cX2_begin 6 = .ok (.iload_n 2, 1) := by decide +kernel
theorem dX2_begin_7 : decode cX2_begin 7 = .ok (.putfield 15, 3) := by decide +kernel
theorem dX2_begin_10 : decode cX2_begin 10 = .ok (.iconst 0, 1) := by decide +kernel
theorem dX2_begin_11 : decode cX2_begin 11 = .ok (.istore_n 3, 1) := by decide +kernel
theorem dX2_begin_12 : decode cX2_begin 12 = .ok (.iload_n 3, 1) := by decide +kernel
theorem dX2_begin_13 : decode cX2_begin 13 = .ok (.bipush 8, 2) := by decide +kernel
theorem dX2_begin_15 : decode cX2_begin 15 = .ok (.if_icmp .ge 16, 3) := by decide +kernel
theorem dX2_begin_18 : decode cX2_begin 18 = .ok (.aload_n 0, 1) := by decide +kernel
theorem dX2_begin_19 : decode cX2_begin 19 = .ok (.getfield 18, 3) := by decide +kernel
theorem dX2_begin_22 : decode cX2_begin 22 = .ok (.iload_n 3, 1) := by decide +kernel
theorem dX2_begin_23 : decode cX2_begin 23 = .ok (.iconst 0, 1) := by decide +kernel
theorem dX2_begin_24 : decode cX2_begin 24 = .ok (.iastore, 1) := by decide +kernel
theorem dX2_begin_25 : decode cX2_begin 25 = .ok (.iinc 3 1, 3) := by decide +kernel
theorem dX2_begin_28 : decode cX2_begin 28 = .ok (.goto (-16), 3) := by decide +kernel
theorem dX2_begin_31 : decode cX2_begin 31 = .ok (.aload_n 0, 1) := by decide +kernel
theorem dX2_begin_32 : decode cX2_begin 32 = .ok (.iconst 0, 1) := by decide +kernel
theorem dX2_begin_33 : decode cX2_begin 33 = .ok (.putfield 22, 3) := by decide +kernel
theorem dX2_begin_36 : decode cX2_begin 36 = .ok (.aload_n 0, 1) := by decide +kernel
theorem dX2_begin_37 : decode cX2_begin 37 = .ok (.iconst 0, 1) := by decide +kernel
theorem dX2_begin_38 : decode cX2_begin 38 = .ok (.putfield 40, 3) := by decide +kernel
theorem dX2_begin_41 : decode cX2_begin 41 = .ok (.aload_n 0, 1) := by decide +kernel
theorem dX2_begin_42 : decode cX2_begin 42 = .ok (.iconst 0, 1) := by decide +kernel
theorem dX2_begin_43 : decode cX2_begin 43 = .ok (.putfield 46, 3) := by decide +kernel
theorem dX2_begin_46 : decode cX2_begin 46 = .ok (.return_, 1) := by decide +kernel
theorem dX2_copyOf_0 : decode cX2_copyOf 0 = .ok (.aload_n 0, 1) := by decide +kernel
theorem dX2_copyOf_1 : decode cX2_copyOf 1 = .ok (.aload_n 1, 1) := by decide +kernel
theorem dX2_copyOf_2 : decode cX2_copyOf 2 = .ok (.getfield 9, 3) := by decide +kernel
theorem dX2_copyOf_5 : decode cX2_copyOf 5 = .ok (.putfield 9, 3) := by decide +kernel
theorem dX2_copyOf_8 : decode cX2_copyOf 8 = .ok (.aload_n 0, 1) := by decide +kernel
theorem dX2_copyOf_9 : decode cX2_copyOf 9 = .ok (.aload_n 1, 1) := by decide +kernel
theorem dX2_copyOf_10 : decode cX2_copyOf 10 = .ok (.getfield 15, 3) := by decide +kernel
theorem dX2_copyOf_13 : decode cX2_copyOf 13 = .ok (.putfield 15, 3) := by decide +kernel
theorem dX2_copyOf_16 : decode cX2_copyOf 16 = .ok (.aload_n 1, 1) := by decide +kernel
theorem dX2_copyOf_17 : decode cX2_copyOf 17 = .ok (.getfield 18, 3) := by decide +kernel
theorem dX2_copyOf_20 : decode cX2_copyOf 20 = .ok (.iconst 0, 1) := by decide +kernel
theorem dX2_copyOf_21 : decode cX2_copyOf 21 = .ok (.aload_n 0, 1) := by decide +kernel
theorem dX2_copyOf_22 : decode cX2_copyOf 22 = .ok (.getfield 18, 3) := by decide +kernel
theorem dX2_copyOf_25 : decode cX2_copyOf 25 = .ok (.iconst 0, 1) := by decide +kernel
theorem dX2_copyOf_26 : decode cX2_copyOf 26 = .ok (.bipush 8, 2) := by decide +kernel
theorem dX2_copyOf_28 : decode cX2_copyOf 28 = .ok (.invokestatic 52, 3) := by decide +kernel
theorem dX2_copyOf_31 : decode cX2_copyOf 31 = .ok (.aload_n 0, 1) := by decide +kernel
theorem dX2_copyOf_32 : decode cX2_copyOf 32 = .ok (.aload_n 1, 1) := by decide +kernel
theorem dX2_copyOf_33 : decode cX2_copyOf 33 = .ok (.getfield 22, 3) := by decide +kernel
theorem dX2_copyOf_36 : decode cX2_copyOf 36 = .ok (.putfield 22, 3) := by decide +kernel
theorem dX2_copyOf_39 : decode cX2_copyOf 39 = .ok (.aload_n 1, 1) := by decide +kernel
theorem dX2_copyOf_40 : decode cX2_copyOf 40 = .ok (.getfield 25, 3) := by decide +kernel
theorem dX2_copyOf_43 : decode cX2_copyOf 43 = .ok (.iconst 0, 1) := by decide +kernel
theorem dX2_copyOf_44 : decode cX2_copyOf 44 = .ok (.aload_n 0, 1) := by decide +kernel
theorem dX2_copyOf_45 : decode cX2_copyOf 45 = .ok (.getfield 25, 3) := by decide +kernel
theorem dX2_copyOf_48 : decode cX2_copyOf 48 = .ok (.iconst 0, 1) := by decide +kernel
theorem dX2_copyOf_49 : decode cX2_copyOf 49 = .ok (.iconst 5, 1) := by decide +kernel
theorem dX2_copyOf_50 : decode cX2_copyOf 50 = .ok (.invokestatic 52, 3) := by decide +kernel
theorem dX2_copyOf_53 : decode cX2_copyOf 53 = .ok (.aload_n 1, 1) := by decide +kernel
theorem dX2_copyOf_54 : decode cX2_copyOf 54 = .ok (.getfield 28, 3) := by decide +kernel
theorem dX2_copyOf_57 : decode cX2_copyOf 57 = .ok (.iconst 0, 1) := by decide +kernel
theorem dX2_copyOf_58 : decode cX2_copyOf 58 = .ok (.aload_n 0, 1) := by decide +kernel
theorem dX2_copyOf_59 : decode cX2_copyOf 59 = .ok (.getfield 28, 3) := by decide +kernel
theorem dX2_copyOf_62 : decode cX2_copyOf 62 = .ok (.iconst 0, 1) := by decide +kernel
theorem dX2_copyOf_63 : decode cX2_copyOf 63 = .ok (.iconst 5, 1) := by decide +kernel
theorem dX2_copyOf_64 : decode cX2_copyOf 64 = .ok (.invokestatic 52, 3) := by decide +kernel
theorem dX2_copyOf_67 : decode cX2_copyOf 67 = .ok (.aload_n 1, 1) := by decide +kernel
theorem dX2_copyOf_68 : decode cX2_copyOf 68 = .ok (.getfield 31, 3) := by decide +kernel
theorem dX2_copyOf_71 : decode cX2_copyOf 71 = .ok (.iconst 0, 1) := by decide +kernel
theorem dX2_copyOf_72 : decode cX2_copyOf 72 = .ok (.aload_n 0, 1) := by decide +kernel
theorem dX2_copyOf_73 : decode cX2_copyOf 73 = .ok (.getfield 31, 3) := by decide +kernel
theorem dX2_copyOf_76 : decode cX2_copyOf 76 = .ok (.iconst 0, 1) := by decide +kernel
theorem dX2_copyOf_77 : decode cX2_copyOf 77 = .ok (.iconst 5, 1) := by decide +kernel
theorem dX2_copyOf_78 : decode cX2_copyOf 78 = .ok (.invokestatic 52, 3) := by decide +kernel
theorem dX2_copyOf_81 : decode cX2_copyOf 81 = .ok (.aload_n 1, 1) := by decide +kernel
theorem dX2_copyOf_82 : decode cX2_copyOf 82 = .ok (.getfield 34, 3) := by decide +kernel
theorem dX2_copyOf_85 : decode cX2_copyOf 85 = .ok (.iconst 0, 1) := by decide +kernel
theorem dX2_copyOf_86 : decode cX2_copyOf 86 = .ok (.aload_n 0, 1) := by decide +kernel
theorem dX2_copyOf_87 : decode cX2_copyOf 87 = .ok (.getfield 34, 3) := by decide +kernel
theorem dX2_copyOf_90 : decode cX2_copyOf 90 = .ok (.iconst 0, 1) := by decide +kernel
theorem dX2_copyOf_91 : decode cX2_copyOf 91 = .ok (.iconst 5, 1) := by decide +kernel
theorem dX2_copyOf_92 : decode cX2_copyOf 92 = .ok (.invokestatic 52, 3) := by decide +kernel
theorem dX2_copyOf_95 : decode cX2_copyOf 95 = .ok (.aload_n 1, 1) := by decide +kernel
theorem dX2_copyOf_96 : decode cX2_copyOf 96 = .ok (.getfield 37, 3) := by decide +kernel
theorem dX2_copyOf_99 : decode cX2_copyOf 99 = .ok (.iconst 0, 1) := by decide +kernel
theorem dX2_copyOf_100 : decode cX2_copyOf 100 = .ok (.aload_n 0, 1) := by decide +kernel
theorem dX2_copyOf_101 : decode cX2_copyOf 101 = .ok (.getfield 37, 3) := by decide +kernel
theorem dX2_copyOf_104 : decode cX2_copyOf 104 = .ok (.iconst 0, 1) := by decide +kernel
theorem dX2_copyOf_105 : decode cX2_copyOf 105 = .ok (.iconst 5, 1) := by decide +kernel
theorem dX2_copyOf_106 : decode cX2_copyOf 106 = .ok (.invokestatic 52, 3) := by decide +kernel
theorem dX2_copyOf_109 : decode cX2_copyOf 109 = .ok (.aload_n 0, 1) := by decide +kernel
theorem dX2_copyOf_110 : decode cX2_copyOf 110 = .ok (.aload_n 1, 1) := by decide +kernel
theorem dX2_copyOf_111 : decode cX2_copyOf 111 = .ok (.getfield 40, 3) := by decide +kernel
theorem dX2_copyOf_114 : decode cX2_copyOf 114 = .ok (.putfield 40, 3) := by decide +kernel
theorem dX2_copyOf_117 : decode cX2_copyOf 117 = .ok (.aload_n 1, 1) := by decide +kernel
theorem dX2_copyOf_118 : decode cX2_copyOf 118 = .ok (.getfield 43, 3) := by decide +kernel
theorem dX2_copyOf_121 : decode cX2_copyOf 121 = .ok (.iconst 0, 1) := by decide +kernel
theorem dX2_copyOf_122 : decode cX2_copyOf 122 = .ok (.aload_n 0, 1) := by decide +kernel
theorem dX2_copyOf_123 : decode cX2_copyOf 123 = .ok (.getfield 43, 3) := by decide +kernel
theorem dX2_copyOf_126 : decode cX2_copyOf 126 = .ok (.iconst 0, 1) := by decide +kernel
theorem dX2_copyOf_127 : decode cX2_copyOf 127 = .ok (.bipush 24, 2) := by decide +kernel
theorem dX2_copyOf_129 : decode cX2_copyOf 129 = .ok (.invokestatic 52, 3) := by decide +kernel
theorem dX2_copyOf_132 : decode cX2_copyOf 132 = .ok (.aload_n 0, 1) := by decide +kernel
theorem dX2_copyOf_133 : decode cX2_copyOf 133 = .ok (.aload_n 1, 1) := by decide +kernel
theorem dX2_copyOf_134 : decode cX2_copyOf 134 = .ok (.getfield 46, 3) := by decide +kernel
theorem dX2_copyOf_137 : decode cX2_copyOf 137 = .ok (.putfield 46, 3) := by decide +kernel
theorem dX2_copyOf_140 : decode cX2_copyOf 140 = .ok (.aload_n 1, 1) := by decide +kernel
theorem dX2_copyOf_141 : decode cX2_copyOf 141 = .ok (.getfield 49, 3) := by decide +kernel
theorem dX2_copyOf_144 : decode cX2_copyOf 144 = .ok (.iconst 0, 1) := by decide +kernel
theorem dX2_copyOf_145 : decode cX2_copyOf 145 = .ok (.aload_n 0, 1) := by decide +kernel
theorem dX2_copyOf_146 : decode cX2_copyOf 146 = .ok (.getfield 49, 3) := by decide +kernel
theorem dX2_copyOf_149 : decode cX2_copyOf 149 = .ok (.iconst 0, 1) := by decide +kernel
theorem dX2_copyOf_150 : decode cX2_copyOf 150 = .ok (.bipush 120, 2) := by decide +kernel
theorem dX2_copyOf_152 : decode cX2_copyOf 152 = .ok (.invokestatic 52, 3) := by decide +kernel
theorem dX2_copyOf_155 : decode cX2_copyOf 155 = .ok (.return_, 1) := by decide +kernel
theorem dX2_addBidder_0 : decode cX2_addBidder 0 = .ok (.aload_n 0, 1) := by decide +kernel
theorem dX2_addBidder_1 : decode cX2_addBidder 1 = .ok (.getfield 22, 3) := by decide +kernel
theorem dX2_addBidder_4 : decode cX2_addBidder 4 = .ok (.istore_n 3, 1) := by decide +kernel
theorem dX2_addBidder_5 : decode cX2_addBidder 5 = .ok (.aload_n 0, 1) := by decide +kernel
theorem dX2_addBidder_6 : decode cX2_addBidder 6 = .ok (.getfield 25, 3) := by decide +kernel
theorem dX2_addBidder_9 : decode cX2_addBidder 9 = .ok (.iload_n 3, 1) := by decide +kernel
theorem dX2_addBidder_10 : decode cX2_addBidder 10 = .ok (.iload_n 1, 1) := by decide +kernel
theorem dX2_addBidder_11 : decode cX2_addBidder 11 = .ok (.iastore, 1) := by decide +kernel
theorem dX2_addBidder_12 : decode cX2_addBidder 12 = .ok (.aload_n 0, 1) := by decide +kernel
theorem dX2_addBidder_13 : decode cX2_addBidder 13 = .ok (.getfield 28, 3) := by decide +kernel
theorem dX2_addBidder_16 : decode cX2_addBidder 16 = .ok (.iload_n 3, 1) := by decide +kernel
theorem dX2_addBidder_17 : decode cX2_addBidder 17 = .ok (.iload_n 1, 1) := by decide +kernel
theorem dX2_addBidder_18 : decode cX2_addBidder 18 = .ok (.invokestatic 58, 3) := by decide +kernel
theorem dX2_addBidder_21 : decode cX2_addBidder 21 = .ok (.iastore, 1) := by decide +kernel
theorem dX2_addBidder_22 : decode cX2_addBidder 22 = .ok (.aload_n 0, 1) := by decide +kernel
theorem dX2_addBidder_23 : decode cX2_addBidder 23 = .ok (.getfield 31, 3) := by decide +kernel
theorem dX2_addBidder_26 : decode cX2_addBidder 26 = .ok (.iload_n 3, 1) := by decide +kernel
theorem dX2_addBidder_27 : decode cX2_addBidder 27 = .ok (.iload_n 2, 1) := by decide +kernel
theorem dX2_addBidder_28 : decode cX2_addBidder 28 = .ok (.iastore, 1) := by decide +kernel
theorem dX2_addBidder_29 : decode cX2_addBidder 29 = .ok (.aload_n 0, 1) := by decide +kernel
theorem dX2_addBidder_30 : decode cX2_addBidder 30 = .ok (.getfield 34, 3) := by decide +kernel
theorem dX2_addBidder_33 : decode cX2_addBidder 33 = .ok (.iload_n 3, 1) := by decide +kernel
theorem dX2_addBidder_34 : decode cX2_addBidder 34 = .ok (.iconst 0, 1) := by decide +kernel
theorem dX2_addBidder_35 : decode cX2_addBidder 35 = .ok (.iastore, 1) := by decide +kernel
theorem dX2_addBidder_36 : decode cX2_addBidder 36 = .ok (.aload_n 0, 1) := by decide +kernel
theorem dX2_addBidder_37 : decode cX2_addBidder 37 = .ok (.getfield 37, 3) := by decide +kernel
theorem dX2_addBidder_40 : decode cX2_addBidder 40 = .ok (.iload_n 3, 1) := by decide +kernel
theorem dX2_addBidder_41 : decode cX2_addBidder 41 = .ok (.iconst (-1), 1) := by decide +kernel
theorem dX2_addBidder_42 : decode cX2_addBidder 42 = .ok (.iastore, 1) := by decide +kernel
theorem dX2_addBidder_43 : decode cX2_addBidder 43 = .ok (.aload_n 0, 1) := by decide +kernel
theorem dX2_addBidder_44 : decode cX2_addBidder 44 = .ok (.dup, 1) := by decide +kernel
theorem dX2_addBidder_45 : decode cX2_addBidder 45 = .ok (.getfield 22, 3) := by decide +kernel
theorem dX2_addBidder_48 : decode cX2_addBidder 48 = .ok (.iconst 1, 1) := by decide +kernel
theorem dX2_addBidder_49 : decode cX2_addBidder 49 = .ok (.iadd, 1) := by decide +kernel
theorem dX2_addBidder_50 : decode cX2_addBidder 50 = .ok (.putfield 22, 3) := by decide +kernel
theorem dX2_addBidder_53 : decode cX2_addBidder 53 = .ok (.iload_n 3, 1) := by decide +kernel
theorem dX2_addBidder_54 : decode cX2_addBidder 54 = .ok (.ireturn, 1) := by decide +kernel
theorem dX2_remember_0 : decode cX2_remember 0 = .ok (.aload_n 0, 1) := by decide +kernel
theorem dX2_remember_1 : decode cX2_remember 1 = .ok (.getfield 46, 3) := by decide +kernel
theorem dX2_remember_4 : decode cX2_remember 4 = .ok (.bipush 8, 2) := by decide +kernel
theorem dX2_remember_6 : decode cX2_remember 6 = .ok (.if_icmp .lt 25, 3) := by decide +kernel
theorem dX2_remember_9 : decode cX2_remember 9 = .ok (.aload_n 0, 1) := by decide +kernel
theorem dX2_remember_10 : decode cX2_remember 10 = .ok (.getfield 49, 3) := by decide +kernel
theorem dX2_remember_13 : decode cX2_remember 13 = .ok (.bipush 15, 2) := by decide +kernel
theorem dX2_remember_15 : decode cX2_remember 15 = .ok (.aload_n 0, 1) := by decide +kernel
theorem dX2_remember_16 : decode cX2_remember 16 = .ok (.getfield 49, 3) := by decide +kernel
theorem dX2_remember_19 : decode cX2_remember 19 = .ok (.iconst 0, 1) := by decide +kernel
theorem dX2_remember_20 : decode cX2_remember 20 = .ok (.bipush 105, 2) := by decide +kernel
theorem dX2_remember_22 : decode cX2_remember 22 = .ok (.invokestatic 52, 3) := by decide +kernel
theorem dX2_remember_25 : decode cX2_remember 25 = .ok (.aload_n 0, 1) := by decide +kernel
theorem dX2_remember_26 : decode cX2_remember 26 = .ok (.bipush 7, 2) := by decide +kernel
theorem dX2_remember_28 : decode cX2_remember 28 = .ok (.putfield 46, 3) := by decide +kernel
theorem dX2_remember_31 : decode cX2_remember 31 = .ok (.aload_n 0, 1) := by decide +kernel
theorem dX2_remember_32 : decode cX2_remember 32 = .ok (.getfield 46, 3) := by decide +kernel
theorem dX2_remember_35 : decode cX2_remember 35 = .ok (.bipush 15, 2) := by decide +kernel
theorem dX2_remember_37 : decode cX2_remember 37 = .ok (.imul, 1) := by decide +kernel
theorem dX2_remember_38 : decode cX2_remember 38 = .ok (.istore_n 1, 1) := by decide +kernel
theorem dX2_remember_39 : decode cX2_remember 39 = .ok (.aload_n 0, 1) := by decide +kernel
theorem dX2_remember_40 : decode cX2_remember 40 = .ok (.getfield 37, 3) := by decide +kernel
theorem dX2_remember_43 : decode cX2_remember 43 = .ok (.iconst 0, 1) := by decide +kernel
theorem dX2_remember_44 : decode cX2_remember 44 = .ok (.aload_n 0, 1) := by decide +kernel
theorem dX2_remember_45 : decode cX2_remember 45 = .ok (.getfield 49, 3) := by decide +kernel
theorem dX2_remember_48 : decode cX2_remember 48 = .ok (.iload_n 1, 1) := by decide +kernel
theorem dX2_remember_49 : decode cX2_remember 49 = .ok (.iconst 5, 1) := by decide +kernel
theorem dX2_remember_50 : decode cX2_remember 50 = .ok (.invokestatic 52, 3) := by decide +kernel
theorem dX2_remember_53 : decode cX2_remember 53 = .ok (.aload_n 0, 1) := by decide +kernel
theorem dX2_remember_54 : decode cX2_remember 54 = .ok (.getfield 31, 3) := by decide +kernel
theorem dX2_remember_57 : decode cX2_remember 57 = .ok (.iconst 0, 1) := by decide +kernel
theorem dX2_remember_58 : decode cX2_remember 58 = .ok (.aload_n 0, 1) := by decide +kernel
theorem dX2_remember_59 : decode cX2_remember 59 = .ok (.getfield 49, 3) := by decide +kernel
theorem dX2_remember_62 : decode cX2_remember 62 = .ok (.iload_n 1, 1) := by decide +kernel
theorem dX2_remember_63 : decode cX2_remember 63 = .ok (.iconst 5, 1) := by decide +kernel
theorem dX2_remember_64 : decode cX2_remember 64 = .ok (.iadd, 1) := by decide +kernel
theorem dX2_remember_65 : decode cX2_remember 65 = .ok (.iconst 5, 1) := by decide +kernel
theorem dX2_remember_66 : decode cX2_remember 66 = .ok (.invokestatic 52, 3) := by decide +kernel
theorem dX2_remember_69 : decode cX2_remember 69 = .ok (.aload_n 0, 1) := by decide +kernel
theorem dX2_remember_70 : decode cX2_remember 70 = .ok (.getfield 34, 3) := by decide +kernel
theorem dX2_remember_73 : decode cX2_remember 73 = .ok (.iconst 0, 1) := by decide +kernel
theorem dX2_remember_74 : decode cX2_remember 74 = .ok (.aload_n 0, 1) := by decide +kernel
theorem dX2_remember_75 : decode cX2_remember 75 = .ok (.getfield 49, 3) := by decide +kernel
theorem dX2_remember_78 : decode cX2_remember 78 = .ok (.iload_n 1, 1) := by decide +kernel
theorem dX2_remember_79 : decode cX2_remember 79 = .ok (.bipush 10, 2) := by decide +kernel
theorem dX2_remember_81 : decode cX2_remember 81 = .ok (.iadd, 1) := by decide +kernel
theorem dX2_remember_82 : decode cX2_remember 82 = .ok (.iconst 5, 1) := by decide +kernel
theorem dX2_remember_83 : decode cX2_remember 83 = .ok (.invokestatic 52, 3) := by decide +kernel
theorem dX2_remember_86 : decode cX2_remember 86 = .ok (.aload_n 0, 1) := by decide +kernel
theorem dX2_remember_87 : decode cX2_remember 87 = .ok (.dup, 1) := by decide +kernel
theorem dX2_remember_88 : decode cX2_remember 88 = .ok (.getfield 46, 3) := by decide +kernel
theorem dX2_remember_91 : decode cX2_remember 91 = .ok (.iconst 1, 1) := by decide +kernel
theorem dX2_remember_92 : decode cX2_remember 92 = .ok (.iadd, 1) := by decide +kernel
theorem dX2_remember_93 : decode cX2_remember 93 = .ok (.putfield 46, 3) := by decide +kernel
theorem dX2_remember_96 : decode cX2_remember 96 = .ok (.return_, 1) := by decide +kernel
theorem dX2_stepBack_0 : decode cX2_stepBack 0 = .ok (.aload_n 0, 1) := by decide +kernel
theorem dX2_stepBack_1 : decode cX2_stepBack 1 = .ok (.dup, 1) := by decide +kernel
theorem dX2_stepBack_2 : decode cX2_stepBack 2 = .ok (.getfield 46, 3) := by decide +kernel
theorem dX2_stepBack_5 : decode cX2_stepBack 5 = .ok (.iconst 1, 1) := by decide +kernel
theorem dX2_stepBack_6 : decode cX2_stepBack 6 = .ok (.isub, 1) := by decide +kernel
theorem dX2_stepBack_7 : decode cX2_stepBack 7 = .ok (.putfield 46, 3) := by decide +kernel
theorem dX2_stepBack_10 : decode cX2_stepBack 10 = .ok (.aload_n 0, 1) := by decide +kernel
theorem dX2_stepBack_11 : decode cX2_stepBack 11 = .ok (.getfield 46, 3) := by decide +kernel
theorem dX2_stepBack_14 : decode cX2_stepBack 14 = .ok (.bipush 15, 2) := by decide +kernel
theorem dX2_stepBack_16 : decode cX2_stepBack 16 = .ok (.imul, 1) := by decide +kernel
theorem dX2_stepBack_17 : decode cX2_stepBack 17 = .ok (.istore_n 1, 1) := by decide +kernel
theorem dX2_stepBack_18 : decode cX2_stepBack 18 = .ok (.aload_n 0, 1) := by decide +kernel
theorem dX2_stepBack_19 : decode cX2_stepBack 19 = .ok (.getfield 49, 3) := by decide +kernel
theorem dX2_stepBack_22 : decode cX2_stepBack 22 = .ok (.iload_n 1, 1) := by decide +kernel
theorem dX2_stepBack_23 : decode cX2_stepBack 23 = .ok (.aload_n 0, 1) := by decide +kernel
theorem dX2_stepBack_24 : decode cX2_stepBack 24 = .ok (.getfield 37, 3) := by decide +kernel
theorem dX2_stepBack_27 : decode cX2_stepBack 27 = .ok (.iconst 0, 1) := by decide +kernel
theorem dX2_stepBack_28 : decode cX2_stepBack 28 = .ok (.iconst 5, 1) := by decide +kernel
theorem dX2_stepBack_29 : decode cX2_stepBack 29 = .ok (.invokestatic 52, 3) := by decide +kernel
theorem dX2_stepBack_32 : decode cX2_stepBack 32 = .ok (.aload_n 0, 1) := by decide +kernel
theorem dX2_stepBack_33 : decode cX2_stepBack 33 = .ok (.getfield 49, 3) := by decide +kernel
theorem dX2_stepBack_36 : decode cX2_stepBack 36 = .ok (.iload_n 1, 1) := by decide +kernel
theorem dX2_stepBack_37 : decode cX2_stepBack 37 = .ok (.iconst 5, 1) := by decide +kernel
theorem dX2_stepBack_38 : decode cX2_stepBack 38 = .ok (.iadd, 1) := by decide +kernel
theorem dX2_stepBack_39 : decode cX2_stepBack 39 = .ok (.aload_n 0, 1) := by decide +kernel
theorem dX2_stepBack_40 : decode cX2_stepBack 40 = .ok (.getfield 31, 3) := by decide +kernel
theorem dX2_stepBack_43 : decode cX2_stepBack 43 = .ok (.iconst 0, 1) := by decide +kernel
theorem dX2_stepBack_44 : decode cX2_stepBack 44 = .ok (.iconst 5, 1) := by decide +kernel
theorem dX2_stepBack_45 : decode cX2_stepBack 45 = .ok (.invokestatic 52, 3) := by decide +kernel
theorem dX2_stepBack_48 : decode cX2_stepBack 48 = .ok (.aload_n 0, 1) := by decide +kernel
theorem dX2_stepBack_49 : decode cX2_stepBack 49 = .ok (.getfield 49, 3) := by decide +kernel
theorem dX2_stepBack_52 : decode cX2_stepBack 52 = .ok (.iload_n 1, 1) := by decide +kernel
theorem dX2_stepBack_53 : decode cX2_stepBack 53 = .ok (.bipush 10, 2) := by decide +kernel
theorem dX2_stepBack_55 : decode cX2_stepBack 55 = .ok (.iadd, 1) := by decide +kernel
theorem dX2_stepBack_56 : decode cX2_stepBack 56 = .ok (.aload_n 0, 1) := by decide +kernel
theorem dX2_stepBack_57 : decode cX2_stepBack 57 = .ok (.getfield 34, 3) := by decide +kernel
theorem dX2_stepBack_60 : decode cX2_stepBack 60 = .ok (.iconst 0, 1) := by decide +kernel
theorem dX2_stepBack_61 : decode cX2_stepBack 61 = .ok (.iconst 5, 1) := by decide +kernel
theorem dX2_stepBack_62 : decode cX2_stepBack 62 = .ok (.invokestatic 52, 3) := by decide +kernel
theorem dX2_stepBack_65 : decode cX2_stepBack 65 = .ok (.return_, 1) := by decide +kernel
theorem dX2_darkIn_0 : decode cX2_darkIn 0 = .ok (.aload_n 0, 1) := by decide +kernel
theorem dX2_darkIn_1 : decode cX2_darkIn 1 = .ok (.getfield 9, 3) := by decide +kernel
theorem dX2_darkIn_4 : decode cX2_darkIn 4 = .ok (.aload_n 0, 1) := by decide +kernel
theorem dX2_darkIn_5 : decode cX2_darkIn 5 = .ok (.getfield 15, 3) := by decide +kernel
theorem dX2_darkIn_8 : decode cX2_darkIn 8 = .ok (.iload_n 1, 1) := by decide +kernel
theorem dX2_darkIn_9 : decode cX2_darkIn 9 = .ok (.invokestatic 64, 3) := by decide +kernel
theorem dX2_darkIn_12 : decode cX2_darkIn 12 = .ok (.ireturn, 1) := by decide +kernel
theorem dX2_holder_0 : decode cX2_holder 0 = .ok (.iconst 0, 1) := by decide +kernel
theorem dX2_holder_1 : decode cX2_holder 1 = .ok (.istore_n 2, 1) := by decide +kernel
theorem dX2_holder_2 : decode cX2_holder 2 = .ok (.iload_n 2, 1) := by decide +kernel
theorem dX2_holder_3 : decode cX2_holder 3 = .ok (.aload_n 0, 1) := by decide +kernel
theorem dX2_holder_4 : decode cX2_holder 4 = .ok (.getfield 22, 3) := by decide +kernel
theorem dX2_holder_7 : decode cX2_holder 7 = .ok (.if_icmp .ge 21, 3) := by decide +kernel
theorem dX2_holder_10 : decode cX2_holder 10 = .ok (.aload_n 0, 1) := by decide +kernel
theorem dX2_holder_11 : decode cX2_holder 11 = .ok (.getfield 37, 3) := by decide +kernel
theorem dX2_holder_14 : decode cX2_holder 14 = .ok (.iload_n 2, 1) := by decide +kernel
theorem dX2_holder_15 : decode cX2_holder 15 = .ok (.iaload, 1) := by decide +kernel
theorem dX2_holder_16 : decode cX2_holder 16 = .ok (.iload_n 1, 1) := by decide +kernel
theorem dX2_holder_17 : decode cX2_holder 17 = .ok (.if_icmp .ne 5, 3) := by decide +kernel
theorem dX2_holder_20 : decode cX2_holder 20 = .ok (.iload_n 2, 1) := by decide +kernel
theorem dX2_holder_21 : decode cX2_holder 21 = .ok (.ireturn, 1) := by decide +kernel
theorem dX2_holder_22 : decode cX2_holder 22 = .ok (.iinc 2 1, 3) := by decide +kernel
theorem dX2_holder_25 : decode cX2_holder 25 = .ok (.goto (-23), 3) := by decide +kernel
theorem dX2_holder_28 : decode cX2_holder 28 = .ok (.iconst (-1), 1) := by decide +kernel
theorem dX2_holder_29 : decode cX2_holder 29 = .ok (.ireturn, 1) := by decide +kernel
theorem dX2_isOpenTo_0 : decode cX2_isOpenTo 0 = .ok (.aload_n 0, 1) := by decide +kernel
theorem dX2_isOpenTo_1 : decode cX2_isOpenTo 1 = .ok (.iload_n 2, 1) := by decide +kernel
theorem dX2_isOpenTo_2 : decode cX2_isOpenTo 2 = .ok (.invokevirtual 68, 3) := by decide +kernel
theorem dX2_isOpenTo_5 : decode cX2_isOpenTo 5 = .ok (.istore_n 3, 1) := by decide +kernel
theorem dX2_isOpenTo_6 : decode cX2_isOpenTo 6 = .ok (.iload_n 3, 1) := by decide +kernel
theorem dX2_isOpenTo_7 : decode cX2_isOpenTo 7 = .ok (.iconst (-1), 1) := by decide +kernel
theorem dX2_isOpenTo_8 : decode cX2_isOpenTo 8 = .ok (.if_icmp .eq 8, 3) := by decide +kernel
theorem dX2_isOpenTo_11 : decode cX2_isOpenTo 11 = .ok (.iload_n 3, 1) := by decide +kernel
theorem dX2_isOpenTo_12 : decode cX2_isOpenTo 12 = .ok (.iload_n 1, 1) := by decide +kernel
theorem dX2_isOpenTo_13 : decode cX2_isOpenTo 13 = .ok (.if_icmp .ne 7, 3) := by decide +kernel
theorem dX2_isOpenTo_16 : decode cX2_isOpenTo 16 = .ok (.iconst 1, 1) := by decide +kernel
theorem dX2_isOpenTo_17 : decode cX2_isOpenTo 17 = .ok (.goto 4, 3) := by decide +kernel
theorem dX2_isOpenTo_20 : decode cX2_isOpenTo 20 = .ok (.iconst 0, 1) := by decide +kernel
theorem dX2_isOpenTo_21 : decode cX2_isOpenTo 21 = .ok (.ireturn, 1) := by decide +kernel
theorem dX2_freeYards_0 : decode cX2_freeYards 0 = .ok (.bipush 8, 2) := by decide +kernel
theorem dX2_freeYards_2 : decode cX2_freeYards 2 = .ok (.istore_n 1, 1) := by decide +kernel
theorem dX2_freeYards_3 : decode cX2_freeYards 3 = .ok (.iconst 0, 1) := by decide +kernel
theorem dX2_freeYards_4 : decode cX2_freeYards 4 = .ok (.istore_n 2, 1) := by decide +kernel
theorem dX2_freeYards_5 : decode cX2_freeYards 5 = .ok (.iload_n 2, 1) := by decide +kernel
theorem dX2_freeYards_6 : decode cX2_freeYards 6 = .ok (.aload_n 0, 1) := by decide +kernel
theorem dX2_freeYards_7 : decode cX2_freeYards 7 = .ok (.getfield 22, 3) := by decide +kernel
theorem dX2_freeYards_10 : decode cX2_freeYards 10 = .ok (.if_icmp .ge 22, 3) := by decide +kernel
theorem dX2_freeYards_13 : decode cX2_freeYards 13 = .ok (.aload_n 0, 1) := by decide +kernel
theorem dX2_freeYards_14 : decode cX2_freeYards 14 = .ok (.getfield 37, 3) := by decide +kernel
theorem dX2_freeYards_17 : decode cX2_freeYards 17 = .ok (.iload_n 2, 1) := by decide +kernel
theorem dX2_freeYards_18 : decode cX2_freeYards 18 = .ok (.iaload, 1) := by decide +kernel
theorem dX2_freeYards_19 : decode cX2_freeYards 19 = .ok (.iconst (-1), 1) := by decide +kernel
theorem dX2_freeYards_20 : decode cX2_freeYards 20 = .ok (.if_icmp .eq 6, 3) := by decide +kernel
theorem dX2_freeYards_23 : decode cX2_freeYards 23 = .ok (.iinc 1 (-1), 3) := by decide +kernel
theorem dX2_freeYards_26 : decode cX2_freeYards 26 = .ok (.iinc 2 1, 3) := by decide +kernel
theorem dX2_freeYards_29 : decode cX2_freeYards 29 = .ok (.goto (-24), 3) := by decide +kernel
theorem dX2_freeYards_32 : decode cX2_freeYards 32 = .ok (.iload_n 1, 1) := by decide +kernel
theorem dX2_freeYards_33 : decode cX2_freeYards 33 = .ok (.ireturn, 1) := by decide +kernel
theorem dX2_hides_0 : decode cX2_hides 0 = .ok (.iload_n 2, 1) := by decide +kernel
theorem dX2_hides_1 : decode cX2_hides 1 = .ok (.iload_n 3, 1) := by decide +kernel
theorem dX2_hides_2 : decode cX2_hides 2 = .ok (.if_icmp .ge 29, 3) := by decide +kernel
theorem dX2_hides_5 : decode cX2_hides 5 = .ok (.aload_n 0, 1) := by decide +kernel
theorem dX2_hides_6 : decode cX2_hides 6 = .ok (.getfield 18, 3) := by decide +kernel
theorem dX2_hides_9 : decode cX2_hides 9 = .ok (.iload_n 2, 1) := by decide +kernel
theorem dX2_hides_10 : decode cX2_hides 10 = .ok (.iaload, 1) := by decide +kernel
theorem dX2_hides_11 : decode cX2_hides 11 = .ok (.aload_n 0, 1) := by decide +kernel
theorem dX2_hides_12 : decode cX2_hides 12 = .ok (.getfield 28, 3) := by decide +kernel
theorem dX2_hides_15 : decode cX2_hides 15 = .ok (.iload_n 1, 1) := by decide +kernel
theorem dX2_hides_16 : decode cX2_hides 16 = .ok (.iaload, 1) := by decide +kernel
theorem dX2_hides_17 : decode cX2_hides 17 = .ok (.iadd, 1) := by decide +kernel
theorem dX2_hides_18 : decode cX2_hides 18 = .ok (.aload_n 0, 1) := by decide +kernel
theorem dX2_hides_19 : decode cX2_hides 19 = .ok (.getfield 18, 3) := by decide +kernel
theorem dX2_hides_22 : decode cX2_hides 22 = .ok (.iload_n 3, 1) := by decide +kernel
theorem dX2_hides_23 : decode cX2_hides 23 = .ok (.iaload, 1) := by decide +kernel
theorem dX2_hides_24 : decode cX2_hides 24 = .ok (.if_icmp .le 7, 3) := by decide +kernel
theorem dX2_hides_27 : decode cX2_hides 27 = .ok (.iconst 1, 1) := by decide +kernel
theorem dX2_hides_28 : decode cX2_hides 28 = .ok (.goto 4, 3) := by decide +kernel
theorem dX2_hides_31 : decode cX2_hides 31 = .ok (.iconst 0, 1) := by decide +kernel
theorem dX2_hides_32 : decode cX2_hides 32 = .ok (.ireturn, 1) := by decide +kernel
theorem dX2_isHidden_0 : decode cX2_isHidden 0 = .ok (.iconst 0, 1) := by decide +kernel
theorem dX2_isHidden_1 : decode cX2_isHidden 1 = .ok (.istore 4, 2) := by decide +kernel
theorem dX2_isHidden_3 : decode cX2_isHidden 3 = .ok (.iload 4, 2) := by decide +kernel
theorem dX2_isHidden_5 : decode cX2_isHidden 5 = .ok (.aload_n 0, 1) := by decide +kernel
theorem dX2_isHidden_6 : decode cX2_isHidden 6 = .ok (.getfield 22, 3) := by decide +kernel
theorem dX2_isHidden_9 : decode cX2_isHidden 9 = .ok (.if_icmp .ge 51, 3) := by decide +kernel
theorem dX2_isHidden_12 : decode cX2_isHidden 12 = .ok (.iload 4, 2) := by decide +kernel
theorem dX2_isHidden_14 : decode cX2_isHidden 14 = .ok (.iload_n 2, 1) := by decide +kernel
theorem dX2_isHidden_15 : decode cX2_isHidden 15 = .ok (.if_icmp .eq 39, 3) := by decide +kernel
theorem dX2_isHidden_18 : decode cX2_isHidden 18 = .ok (.iload 4, 2) := by decide +kernel
theorem dX2_isHidden_20 : decode cX2_isHidden 20 = .ok (.iload_n 3, 1) := by decide +kernel
theorem dX2_isHidden_21 : decode cX2_isHidden 21 = .ok (.if_icmp .eq 33, 3) := by decide +kernel
theorem dX2_isHidden_24 : decode cX2_isHidden 24 = .ok (.aload_n 0, 1) := by decide +kernel
theorem dX2_isHidden_25 : decode cX2_isHidden 25 = .ok (.getfield 37, 3) := by decide +kernel
theorem dX2_isHidden_28 : decode cX2_isHidden 28 = .ok (.iload 4, 2) := by decide +kernel
theorem dX2_isHidden_30 : decode cX2_isHidden 30 = .ok (.iaload, 1) := by decide +kernel
theorem dX2_isHidden_31 : decode cX2_isHidden 31 = .ok (.iconst (-1), 1) := by decide +kernel
theorem dX2_isHidden_32 : decode cX2_isHidden 32 = .ok (.if_icmp .eq 22, 3) := by decide +kernel
theorem dX2_isHidden_35 : decode cX2_isHidden 35 = .ok (.aload_n 0, 1) := by decide +kernel
theorem dX2_isHidden_36 : decode cX2_isHidden 36 = .ok (.iload 4, 2) := by decide +kernel
theorem dX2_isHidden_38 : decode cX2_isHidden 38 = .ok (.aload_n 0, 1) := by decide +kernel
theorem dX2_isHidden_39 : decode cX2_isHidden 39 = .ok (.getfield 37, 3) := by decide +kernel
theorem dX2_isHidden_42 : decode cX2_isHidden 42 = .ok (.iload 4, 2) := by decide +kernel
theorem dX2_isHidden_44 : decode cX2_isHidden 44 = .ok (.iaload, 1) := by decide +kernel
theorem dX2_isHidden_45 : decode cX2_isHidden 45 = .ok (.iload_n 1, 1) := by decide +kernel
theorem dX2_isHidden_46 : decode cX2_isHidden 46 = .ok (.invokevirtual 71, 3) := by decide +kernel
theorem dX2_isHidden_49 : decode cX2_isHidden 49 = .ok (.ifCond .eq 5, 3) := by decide +kernel
theorem dX2_isHidden_52 : decode cX2_isHidden 52 = .ok (.iconst 1, 1) := by decide +kernel
theorem dX2_isHidden_53 : decode cX2_isHidden 53 = .ok (.ireturn, 1) := by decide +kernel
theorem dX2_isHidden_54 : decode cX2_isHidden 54 = .ok (.iinc 4 1, 3) := by decide +kernel
theorem dX2_isHidden_57 : decode cX2_isHidden 57 = .ok (.goto (-54), 3) := by decide +kernel
theorem dX2_isHidden_60 : decode cX2_isHidden 60 = .ok (.iconst 0, 1) := by decide +kernel
theorem dX2_isHidden_61 : decode cX2_isHidden 61 = .ok (.ireturn, 1) := by decide +kernel
theorem dX2_seenIn_0 : decode cX2_seenIn 0 = .ok (.aload_n 0, 1) := by decide +kernel
theorem dX2_seenIn_1 : decode cX2_seenIn 1 = .ok (.iload_n 2, 1) := by decide +kernel
theorem dX2_seenIn_2 : decode cX2_seenIn 2 = .ok (.iload_n 1, 1) := by decide +kernel
theorem dX2_seenIn_3 : decode cX2_seenIn 3 = .ok (.iload_n 1, 1) := by decide +kernel
theorem dX2_seenIn_4 : decode cX2_seenIn 4 = .ok (.invokevirtual 75, 3) := by decide +kernel
theorem dX2_seenIn_7 : decode cX2_seenIn 7 = .ok (.ifCond .eq 7, 3) := by decide +kernel
theorem dX2_seenIn_10 : decode cX2_seenIn 10 = .ok (.iconst 0, 1) := by decide +kernel
theorem dX2_seenIn_11 : decode cX2_seenIn 11 = .ok (.goto 8, 3) := by decide +kernel
theorem dX2_seenIn_14 : decode cX2_seenIn 14 = .ok (.aload_n 0, 1) := by decide +kernel
theorem dX2_seenIn_15 : decode cX2_seenIn 15 = .ok (.iload_n 2, 1) := by decide +kernel
theorem dX2_seenIn_16 : decode cX2_seenIn 16 = .ok (.invokevirtual 78, 3) := by decide +kernel
theorem dX2_seenIn_19 : decode cX2_seenIn 19 = .ok (.ireturn, 1) := by decide +kernel
theorem dX2_seenNow_0 : decode cX2_seenNow 0 = .ok (.aload_n 0, 1) := by decide +kernel
theorem dX2_seenNow_1 : decode cX2_seenNow 1 = .ok (.getfield 37, 3) := by decide +kernel
theorem dX2_seenNow_4 : decode cX2_seenNow 4 = .ok (.iload_n 1, 1) := by decide +kernel
theorem dX2_seenNow_5 : decode cX2_seenNow 5 = .ok (.iaload, 1) := by decide +kernel
theorem dX2_seenNow_6 : decode cX2_seenNow 6 = .ok (.iconst (-1), 1) := by decide +kernel
theorem dX2_seenNow_7 : decode cX2_seenNow 7 = .ok (.if_icmp .ne 7, 3) := by decide +kernel
theorem dX2_seenNow_10 : decode cX2_seenNow 10 = .ok (.iconst 0, 1) := by decide +kernel
theorem dX2_seenNow_11 : decode cX2_seenNow 11 = .ok (.goto 14, 3) := by decide +kernel
theorem dX2_seenNow_14 : decode cX2_seenNow 14 = .ok (.aload_n 0, 1) := by decide +kernel
theorem dX2_seenNow_15 : decode cX2_seenNow 15 = .ok (.iload_n 1, 1) := by decide +kernel
theorem dX2_seenNow_16 : decode cX2_seenNow 16 = .ok (.aload_n 0, 1) := by decide +kernel
theorem dX2_seenNow_17 : decode cX2_seenNow 17 = .ok (.getfield 37, 3) := by decide +kernel
theorem dX2_seenNow_20 : decode cX2_seenNow 20 = .ok (.iload_n 1, 1) := by decide +kernel
theorem dX2_seenNow_21 : decode cX2_seenNow 21 = .ok (.iaload, 1) := by decide +kernel
theorem dX2_seenNow_22 : decode cX2_seenNow 22 = .ok (.invokevirtual 81, 3) := by decide +kernel
theorem dX2_seenNow_25 : decode cX2_seenNow 25 = .ok (.ireturn, 1) := by decide +kernel
theorem dX2_seenByAll_0 : decode cX2_seenByAll 0 = .ok (.iconst 0, 1) := by decide +kernel
theorem dX2_seenByAll_1 : decode cX2_seenByAll 1 = .ok (.istore_n 1, 1) := by decide +kernel
theorem dX2_seenByAll_2 : decode cX2_seenByAll 2 = .ok (.iconst 0, 1) := by decide +kernel
theorem dX2_seenByAll_3 : decode cX2_seenByAll 3 = .ok (.istore_n 2, 1) := by decide +kernel
theorem dX2_seenByAll_4 : decode cX2_seenByAll 4 = .ok (.iload_n 2, 1) := by decide +kernel
theorem dX2_seenByAll_5 : decode cX2_seenByAll 5 = .ok (.aload_n 0, 1) := by decide +kernel
theorem dX2_seenByAll_6 : decode cX2_seenByAll 6 = .ok (.getfield 22, 3) := by decide +kernel
theorem dX2_seenByAll_9 : decode cX2_seenByAll 9 = .ok (.if_icmp .ge 17, 3) := by decide +kernel
theorem dX2_seenByAll_12 : decode cX2_seenByAll 12 = .ok (.iload_n 1, 1) := by decide +kernel
theorem dX2_seenByAll_13 : decode cX2_seenByAll 13 = .ok (.aload_n 0, 1) := by decide +kernel
theorem dX2_seenByAll_14 : decode cX2_seenByAll 14 = .ok (.iload_n 2, 1) := by decide +kernel
theorem dX2_seenByAll_15 : decode cX2_seenByAll 15 = .ok (.invokevirtual 85, 3) := by decide +kernel
theorem dX2_seenByAll_18 : decode cX2_seenByAll 18 = .ok (.iadd, 1) := by decide +kernel
theorem dX2_seenByAll_19 : decode cX2_seenByAll 19 = .ok (.istore_n 1, 1) := by decide +kernel
theorem dX2_seenByAll_20 : decode cX2_seenByAll 20 = .ok (.iinc 2 1, 3) := by decide +kernel
theorem dX2_seenByAll_23 : decode cX2_seenByAll 23 = .ok (.goto (-19), 3) := by decide +kernel
theorem dX2_seenByAll_26 : decode cX2_seenByAll 26 = .ok (.iload_n 1, 1) := by decide +kernel
theorem dX2_seenByAll_27 : decode cX2_seenByAll 27 = .ok (.ireturn, 1) := by decide +kernel
theorem dX2_openSeats_0 : decode cX2_openSeats 0 = .ok (.iconst 0, 1) := by decide +kernel
theorem dX2_openSeats_1 : decode cX2_openSeats 1 = .ok (.istore_n 1, 1) := by decide +kernel
theorem dX2_openSeats_2 : decode cX2_openSeats 2 = .ok (.iconst 0, 1) := by decide +kernel
theorem dX2_openSeats_3 : decode cX2_openSeats 3 = .ok (.istore_n 2, 1) := by decide +kernel
theorem dX2_openSeats_4 : decode cX2_openSeats 4 = .ok (.iload_n 2, 1) := by decide +kernel
theorem dX2_openSeats_5 : decode cX2_openSeats 5 = .ok (.aload_n 0, 1) := by decide +kernel
theorem dX2_openSeats_6 : decode cX2_openSeats 6 = .ok (.getfield 22, 3) := by decide +kernel
theorem dX2_openSeats_9 : decode cX2_openSeats 9 = .ok (.if_icmp .ge 45, 3) := by decide +kernel
theorem dX2_openSeats_12 : decode cX2_openSeats 12 = .ok (.aload_n 0, 1) := by decide +kernel
theorem dX2_openSeats_13 : decode cX2_openSeats 13 = .ok (.getfield 37, 3) := by decide +kernel
theorem dX2_openSeats_16 : decode cX2_openSeats 16 = .ok (.iload_n 2, 1) := by decide +kernel
theorem dX2_openSeats_17 : decode cX2_openSeats 17 = .ok (.iaload, 1) := by decide +kernel
theorem dX2_openSeats_18 : decode cX2_openSeats 18 = .ok (.iconst (-1), 1) := by decide +kernel
theorem dX2_openSeats_19 : decode cX2_openSeats 19 = .ok (.if_icmp .eq 29, 3) := by decide +kernel
theorem dX2_openSeats_22 : decode cX2_openSeats 22 = .ok (.aload_n 0, 1) := by decide +kernel
theorem dX2_openSeats_23 : decode cX2_openSeats 23 = .ok (.aload_n 0, 1) := by decide +kernel
theorem dX2_openSeats_24 : decode cX2_openSeats 24 = .ok (.getfield 37, 3) := by decide +kernel
theorem dX2_openSeats_27 : decode cX2_openSeats 27 = .ok (.iload_n 2, 1) := by decide +kernel
theorem dX2_openSeats_28 : decode cX2_openSeats 28 = .ok (.iaload, 1) := by decide +kernel
theorem dX2_openSeats_29 : decode cX2_openSeats 29 = .ok (.iload_n 2, 1) := by decide +kernel
theorem dX2_openSeats_30 : decode cX2_openSeats 30 = .ok (.iload_n 2, 1) := by decide +kernel
theorem dX2_openSeats_31 : decode cX2_openSeats 31 = .ok (.invokevirtual 75, 3) := by decide +kernel
theorem dX2_openSeats_34 : decode cX2_openSeats 34 = .ok (.ifCond .ne 14, 3) := by decide +kernel
theorem dX2_openSeats_37 : decode cX2_openSeats 37 = .ok (.iload_n 1, 1) := by decide +kernel
theorem dX2_openSeats_38 : decode cX2_openSeats 38 = .ok (.iconst 1, 1) := by decide +kernel
theorem dX2_openSeats_39 : decode cX2_openSeats 39 = .ok (.aload_n 0, 1) := by decide +kernel
theorem dX2_openSeats_40 : decode cX2_openSeats 40 = .ok (.getfield 37, 3) := by decide +kernel
theorem dX2_openSeats_43 : decode cX2_openSeats 43 = .ok (.iload_n 2, 1) := by decide +kernel
theorem dX2_openSeats_44 : decode cX2_openSeats 44 = .ok (.iaload, 1) := by decide +kernel
theorem dX2_openSeats_45 : decode cX2_openSeats 45 = .ok (.ishl, 1) := by decide +kernel
theorem dX2_openSeats_46 : decode cX2_openSeats 46 = .ok (.ior, 1) := by decide +kernel
theorem dX2_openSeats_47 : decode cX2_openSeats 47 = .ok (.istore_n 1, 1) := by decide +kernel
theorem dX2_openSeats_48 : decode cX2_openSeats 48 = .ok (.iinc 2 1, 3) := by decide +kernel
theorem dX2_openSeats_51 : decode cX2_openSeats 51 = .ok (.goto (-47), 3) := by decide +kernel
theorem dX2_openSeats_54 : decode cX2_openSeats 54 = .ok (.iload_n 1, 1) := by decide +kernel
theorem dX2_openSeats_55 : decode cX2_openSeats 55 = .ok (.ireturn, 1) := by decide +kernel
theorem dX2_paidByAll_0 : decode cX2_paidByAll 0 = .ok (.iconst 0, 1) := by decide +kernel
theorem dX2_paidByAll_1 : decode cX2_paidByAll 1 = .ok (.istore_n 1, 1) := by decide +kernel
theorem dX2_paidByAll_2 : decode cX2_paidByAll 2 = .ok (.iconst 0, 1) := by decide +kernel
theorem dX2_paidByAll_3 : decode cX2_paidByAll 3 = .ok (.istore_n 2, 1) := by decide +kernel
theorem dX2_paidByAll_4 : decode cX2_paidByAll 4 = .ok (.iload_n 2, 1) := by decide +kernel
theorem dX2_paidByAll_5 : decode cX2_paidByAll 5 = .ok (.aload_n 0, 1) := by decide +kernel
theorem dX2_paidByAll_6 : decode cX2_paidByAll 6 = .ok (.getfield 22, 3) := by decide +kernel
theorem dX2_paidByAll_9 : decode cX2_paidByAll 9 = .ok (.if_icmp .ge 18, 3) := by decide +kernel
theorem dX2_paidByAll_12 : decode cX2_paidByAll 12 = .ok (.iload_n 1, 1) := by decide +kernel
theorem dX2_paidByAll_13 : decode cX2_paidByAll 13 = .ok (.aload_n 0, 1) := by decide +kernel
theorem dX2_paidByAll_14 : decode cX2_paidByAll 14 = .ok (.getfield 34, 3) := by decide +kernel
theorem dX2_paidByAll_17 : decode cX2_paidByAll 17 = .ok (.iload_n 2, 1) := by decide +kernel
theorem dX2_paidByAll_18 : decode cX2_paidByAll 18 = .ok (.iaload, 1) := by decide +kernel
theorem dX2_paidByAll_19 : decode cX2_paidByAll 19 = .ok (.iadd, 1) := by decide +kernel
theorem dX2_paidByAll_20 : decode cX2_paidByAll 20 = .ok (.istore_n 1, 1) := by decide +kernel
theorem dX2_paidByAll_21 : decode cX2_paidByAll 21 = .ok (.iinc 2 1, 3) := by decide +kernel
theorem dX2_paidByAll_24 : decode cX2_paidByAll 24 = .ok (.goto (-20), 3) := by decide +kernel
theorem dX2_paidByAll_27 : decode cX2_paidByAll 27 = .ok (.iload_n 1, 1) := by decide +kernel
theorem dX2_paidByAll_28 : decode cX2_paidByAll 28 = .ok (.ireturn, 1) := by decide +kernel
theorem dX2_worthIn_0 : decode cX2_worthIn 0 = .ok (.aload_n 0, 1) := by decide +kernel
theorem dX2_worthIn_1 : decode cX2_worthIn 1 = .ok (.getfield 25, 3) := by decide +kernel
theorem dX2_worthIn_4 : decode cX2_worthIn 4 = .ok (.iload_n 1, 1) := by decide +kernel
theorem dX2_worthIn_5 : decode cX2_worthIn 5 = .ok (.iaload, 1) := by decide +kernel
theorem dX2_worthIn_6 : decode cX2_worthIn 6 = .ok (.aload_n 0, 1) := by decide +kernel
theorem dX2_worthIn_7 : decode cX2_worthIn 7 = .ok (.iload_n 1, 1) := by decide +kernel
theorem dX2_worthIn_8 : decode cX2_worthIn 8 = .ok (.iload_n 2, 1) := by decide +kernel
theorem dX2_worthIn_9 : decode cX2_worthIn 9 = .ok (.invokevirtual 81, 3) := by decide +kernel
theorem dX2_worthIn_12 : decode cX2_worthIn 12 = .ok (.aload_n 0, 1) := by decide +kernel
theorem dX2_worthIn_13 : decode cX2_worthIn 13 = .ok (.getfield 18, 3) := by decide +kernel
theorem dX2_worthIn_16 : decode cX2_worthIn 16 = .ok (.iload_n 2, 1) := by decide +kernel
theorem dX2_worthIn_17 : decode cX2_worthIn 17 = .ok (.iaload, 1) := by decide +kernel
theorem dX2_worthIn_18 : decode cX2_worthIn 18 = .ok (.invokestatic 88, 3) := by decide +kernel
theorem dX2_worthIn_21 : decode cX2_worthIn 21 = .ok (.ireturn, 1) := by decide +kernel
theorem dX2_bid_0 : decode cX2_bid 0 = .ok (.aload_n 0, 1) := by decide +kernel
theorem dX2_bid_1 : decode cX2_bid 1 = .ok (.iload_n 1, 1) := by decide +kernel
theorem dX2_bid_2 : decode cX2_bid 2 = .ok (.iload_n 2, 1) := by decide +kernel
theorem dX2_bid_3 : decode cX2_bid 3 = .ok (.invokevirtual 91, 3) := by decide +kernel
theorem dX2_bid_6 : decode cX2_bid 6 = .ok (.aload_n 0, 1) := by decide +kernel
theorem dX2_bid_7 : decode cX2_bid 7 = .ok (.getfield 31, 3) := by decide +kernel
theorem dX2_bid_10 : decode cX2_bid 10 = .ok (.iload_n 1, 1) := by decide +kernel
theorem dX2_bid_11 : decode cX2_bid 11 = .ok (.iaload, 1) := by decide +kernel
theorem dX2_bid_12 : decode cX2_bid 12 = .ok (.invokestatic 94, 3) := by decide +kernel
theorem dX2_bid_15 : decode cX2_bid 15 = .ok (.ireturn, 1) := by decide +kernel
theorem dX2_topBidder_0 : decode cX2_topBidder 0 = .ok (.iconst (-1), 1) := by decide +kernel
theorem dX2_topBidder_1 : decode cX2_topBidder 1 = .ok (.istore_n 2, 1) := by decide +kernel
theorem dX2_topBidder_2 : decode cX2_topBidder 2 = .ok (.iconst 0, 1) := by decide +kernel
theorem dX2_topBidder_3 : decode cX2_topBidder 3 = .ok (.istore_n 3, 1) := by decide +kernel
theorem dX2_topBidder_4 : decode cX2_topBidder 4 = .ok (.iconst 0, 1) := by decide +kernel
theorem dX2_topBidder_5 : decode cX2_topBidder 5 = .ok (.istore 4, 2) := by decide +kernel
theorem dX2_topBidder_7 : decode cX2_topBidder 7 = .ok (.iload 4, 2) := by decide +kernel
theorem dX2_topBidder_9 : decode cX2_topBidder 9 = .ok (.aload_n 0, 1) := by decide +kernel
theorem dX2_topBidder_10 : decode cX2_topBidder 10 = .ok (.getfield 22, 3) := by decide +kernel
theorem dX2_topBidder_13 : decode cX2_topBidder 13 = .ok (.if_icmp .ge 41, 3) := by decide +kernel
theorem dX2_topBidder_16 : decode cX2_topBidder 16 = .ok (.aload_n 0, 1) := by decide +kernel
theorem dX2_topBidder_17 : decode cX2_topBidder 17 = .ok (.getfield 37, 3) := by decide +kernel
theorem dX2_topBidder_20 : decode cX2_topBidder 20 = .ok (.iload 4, 2) := by decide +kernel
theorem dX2_topBidder_22 : decode cX2_topBidder 22 = .ok (.iaload, 1) := by decide +kernel
theorem dX2_topBidder_23 : decode cX2_topBidder 23 = .ok (.iconst (-1), 1) := by decide +kernel
theorem dX2_topBidder_24 : decode cX2_topBidder 24 = .ok (.if_icmp .ne 24, 3) := by decide +kernel
theorem dX2_topBidder_27 : decode cX2_topBidder 27 = .ok (.aload_n 0, 1) := by decide +kernel
theorem dX2_topBidder_28 : decode cX2_topBidder 28 = .ok (.iload 4, 2) := by decide +kernel
theorem dX2_topBidder_30 : decode cX2_topBidder 30 = .ok (.iload_n 1, 1) := by decide +kernel
theorem dX2_topBidder_31 : decode cX2_topBidder 31 = .ok (.invokevirtual 99, 3) := by decide +kernel
theorem dX2_topBidder_34 : decode cX2_topBidder 34 = .ok (.istore 5, 2) := by decide +kernel
theorem dX2_topBidder_36 : decode cX2_topBidder 36 = .ok (.iload 5, 2) := by decide +kernel
theorem dX2_topBidder_38 : decode cX2_topBidder 38 = .ok (.iload_n 3, 1) := by decide +kernel
theorem dX2_topBidder_39 : decode cX2_topBidder 39 = .ok (.if_icmp .le 9, 3) := by decide +kernel
theorem dX2_topBidder_42 : decode cX2_topBidder 42 = .ok (.iload 5, 2) := by decide +kernel
theorem dX2_topBidder_44 : decode cX2_topBidder 44 = .ok (.istore_n 3, 1) := by decide +kernel
theorem dX2_topBidder_45 : decode cX2_topBidder 45 = .ok (.iload 4, 2) := by decide +kernel
theorem dX2_topBidder_47 : decode cX2_topBidder 47 = .ok (.istore_n 2, 1) := by decide +kernel
theorem dX2_topBidder_48 : decode cX2_topBidder 48 = .ok (.iinc 4 1, 3) := by decide +kernel
theorem dX2_topBidder_51 : decode cX2_topBidder 51 = .ok (.goto (-44), 3) := by decide +kernel
theorem dX2_topBidder_54 : decode cX2_topBidder 54 = .ok (.iload_n 2, 1) := by decide +kernel
theorem dX2_topBidder_55 : decode cX2_topBidder 55 = .ok (.ireturn, 1) := by decide +kernel
theorem dX2_price_0 : decode cX2_price 0 = .ok (.iconst 0, 1) := by decide +kernel
theorem dX2_price_1 : decode cX2_price 1 = .ok (.istore_n 3, 1) := by decide +kernel
theorem dX2_price_2 : decode cX2_price 2 = .ok (.iconst 0, 1) := by decide +kernel
theorem dX2_price_3 : decode cX2_price 3 = .ok (.istore 4, 2) := by decide +kernel
theorem dX2_price_5 : decode cX2_price 5 = .ok (.iload 4, 2) := by decide +kernel
theorem dX2_price_7 : decode cX2_price 7 = .ok (.aload_n 0, 1) := by decide +kernel
theorem dX2_price_8 : decode cX2_price 8 = .ok (.getfield 22, 3) := by decide +kernel
theorem dX2_price_11 : decode cX2_price 11 = .ok (.if_icmp .ge 38, 3) := by decide +kernel
theorem dX2_price_14 : decode cX2_price 14 = .ok (.iload 4, 2) := by decide +kernel
theorem dX2_price_16 : decode cX2_price 16 = .ok (.iload_n 2, 1) := by decide +kernel
theorem dX2_price_17 : decode cX2_price 17 = .ok (.if_icmp .eq 26, 3) := by decide +kernel
theorem dX2_price_20 : decode cX2_price 20 = .ok (.aload_n 0, 1) := by decide +kernel
theorem dX2_price_21 : decode cX2_price 21 = .ok (.getfield 37, 3) := by decide +kernel
theorem dX2_price_24 : decode cX2_price 24 = .ok (.iload 4, 2) := by decide +kernel
theorem dX2_price_26 : decode cX2_price 26 = .ok (.iaload, 1) := by decide +kernel
theorem dX2_price_27 : decode cX2_price 27 = .ok (.iconst (-1), 1) := by decide +kernel
theorem dX2_price_28 : decode cX2_price 28 = .ok (.if_icmp .ne 15, 3) := by decide +kernel
theorem dX2_price_31 : decode cX2_price 31 = .ok (.iload_n 3, 1) := by decide +kernel
theorem dX2_price_32 : decode cX2_price 32 = .ok (.aload_n 0, 1) := by decide +kernel
theorem dX2_price_33 : decode cX2_price 33 = .ok (.iload 4, 2) := by decide +kernel
theorem dX2_price_35 : decode cX2_price 35 = .ok (.iload_n 1, 1) := by decide +kernel
theorem dX2_price_36 : decode cX2_price 36 = .ok (.invokevirtual 99, 3) := by decide +kernel
theorem dX2_price_39 : decode cX2_price 39 = .ok (.invokestatic 102, 3) := by decide +kernel
theorem dX2_price_42 : decode cX2_price 42 = .ok (.istore_n 3, 1) := by decide +kernel
theorem dX2_price_43 : decode cX2_price 43 = .ok (.iinc 4 1, 3) := by decide +kernel
theorem dX2_price_46 : decode cX2_price 46 = .ok (.goto (-41), 3) := by decide +kernel
theorem dX2_price_49 : decode cX2_price 49 = .ok (.iload_n 3, 1) := by decide +kernel
theorem dX2_price_50 : decode cX2_price 50 = .ok (.ireturn, 1) := by decide +kernel
theorem dX2_harm_0 : decode cX2_harm 0 = .ok (.iconst 0, 1) := by decide +kernel
theorem dX2_harm_1 : decode cX2_harm 1 = .ok (.istore_n 3, 1) := by decide +kernel
theorem dX2_harm_2 : decode cX2_harm 2 = .ok (.iconst 0, 1) := by decide +kernel
theorem dX2_harm_3 : decode cX2_harm 3 = .ok (.istore 4, 2) := by decide +kernel
theorem dX2_harm_5 : decode cX2_harm 5 = .ok (.iload 4, 2) := by decide +kernel
theorem dX2_harm_7 : decode cX2_harm 7 = .ok (.aload_n 0, 1) := by decide +kernel
theorem dX2_harm_8 : decode cX2_harm 8 = .ok (.getfield 22, 3) := by decide +kernel
theorem dX2_harm_11 : decode cX2_harm 11 = .ok (.if_icmp .ge 62, 3) := by decide +kernel
theorem dX2_harm_14 : decode cX2_harm 14 = .ok (.aload_n 0, 1) := by decide +kernel
theorem dX2_harm_15 : decode cX2_harm 15 = .ok (.getfield 37, 3) := by decide +kernel
theorem dX2_harm_18 : decode cX2_harm 18 = .ok (.iload 4, 2) := by decide +kernel
theorem dX2_harm_20 : decode cX2_harm 20 = .ok (.iaload, 1) := by decide +kernel
theorem dX2_harm_21 : decode cX2_harm 21 = .ok (.istore 5, 2) := by decide +kernel
theorem dX2_harm_23 : decode cX2_harm 23 = .ok (.iload 4, 2) := by decide +kernel
theorem dX2_harm_25 : decode cX2_harm 25 = .ok (.iload_n 1, 1) := by decide +kernel
theorem dX2_harm_26 : decode cX2_harm 26 = .ok (.if_icmp .eq 41, 3) := by decide +kernel
theorem dX2_harm_29 : decode cX2_harm 29 = .ok (.iload 5, 2) := by decide +kernel
theorem dX2_harm_31 : decode cX2_harm 31 = .ok (.iconst (-1), 1) := by decide +kernel
theorem dX2_harm_32 : decode cX2_harm 32 = .ok (.if_icmp .eq 35, 3) := by decide +kernel
theorem dX2_harm_35 : decode cX2_harm 35 = .ok (.aload_n 0, 1) := by decide +kernel
theorem dX2_harm_36 : decode cX2_harm 36 = .ok (.iload_n 1, 1) := by decide +kernel
theorem dX2_harm_37 : decode cX2_harm 37 = .ok (.iload_n 2, 1) := by decide +kernel
theorem dX2_harm_38 : decode cX2_harm 38 = .ok (.iload 5, 2) := by decide +kernel
theorem dX2_harm_40 : decode cX2_harm 40 = .ok (.invokevirtual 71, 3) := by decide +kernel
theorem dX2_harm_43 : decode cX2_harm 43 = .ok (.ifCond .eq 24, 3) := by decide +kernel
theorem dX2_harm_46 : decode cX2_harm 46 = .ok (.aload_n 0, 1) := by decide +kernel
theorem dX2_harm_47 : decode cX2_harm 47 = .ok (.iload 5, 2) := by decide +kernel
theorem dX2_harm_49 : decode cX2_harm 49 = .ok (.iload 4, 2) := by decide +kernel
theorem dX2_harm_51 : decode cX2_harm 51 = .ok (.iload_n 1, 1) := by decide +kernel
theorem dX2_harm_52 : decode cX2_harm 52 = .ok (.invokevirtual 75, 3) := by decide +kernel
theorem dX2_harm_55 : decode cX2_harm 55 = .ok (.ifCond .ne 12, 3) := by decide +kernel
theorem dX2_harm_58 : decode cX2_harm 58 = .ok (.iload_n 3, 1) := by decide +kernel
theorem dX2_harm_59 : decode cX2_harm 59 = .ok (.aload_n 0, 1) := by decide +kernel
theorem dX2_harm_60 : decode cX2_harm 60 = .ok (.iload 5, 2) := by decide +kernel
theorem dX2_harm_62 : decode cX2_harm 62 = .ok (.invokevirtual 78, 3) := by decide +kernel
theorem dX2_harm_65 : decode cX2_harm 65 = .ok (.iadd, 1) := by decide +kernel
theorem dX2_harm_66 : decode cX2_harm 66 = .ok (.istore_n 3, 1) := by decide +kernel
theorem dX2_harm_67 : decode cX2_harm 67 = .ok (.iinc 4 1, 3) := by decide +kernel
theorem dX2_harm_70 : decode cX2_harm 70 = .ok (.goto (-65), 3) := by decide +kernel
theorem dX2_harm_73 : decode cX2_harm 73 = .ok (.iload_n 3, 1) := by decide +kernel
theorem dX2_harm_74 : decode cX2_harm 74 = .ok (.ireturn, 1) := by decide +kernel
theorem dX3_worth_0 : decode cX3_worth 0 = .ok (.iload_n 0, 1) := by decide +kernel
theorem dX3_worth_1 : decode cX3_worth 1 = .ok (.tableswitch 69 2 5 #[31, 35, 50, 63], 31) := by decide +kernel
theorem dX3_worth_32 : decode cX3_worth 32 = .ok (.iload_n 1, 1) := by decide +kernel
theorem dX3_worth_33 : decode cX3_worth 33 = .ok (.iconst 2, 1) := by decide +kernel
theorem dX3_worth_34 : decode cX3_worth 34 = .ok (.idiv, 1) := by decide +kernel
theorem dX3_worth_35 : decode cX3_worth 35 = .ok (.ireturn, 1) := by decide +kernel
theorem dX3_worth_36 : decode cX3_worth 36 = .ok (.iload_n 1, 1) := by decide +kernel
theorem dX3_worth_37 : decode cX3_worth 37 = .ok (.ifCond .ne 7, 3) := by decide +kernel
theorem dX3_worth_40 : decode cX3_worth 40 = .ok (.iconst 0, 1) := by decide +kernel
theorem dX3_worth_41 : decode cX3_worth 41 = .ok (.goto 9, 3) := by decide +kernel
theorem dX3_worth_44 : decode cX3_worth 44 = .ok (.iload_n 1, 1) := by decide +kernel
theorem dX3_worth_45 : decode cX3_worth 45 = .ok (.bipush 20, 2) := by decide +kernel
theorem dX3_worth_47 : decode cX3_worth 47 = .ok (.iload_n 2, 1) := by decide +kernel
theorem dX3_worth_48 : decode cX3_worth 48 = .ok (.imul, 1) := by decide +kernel
theorem dX3_worth_49 : decode cX3_worth 49 = .ok (.iadd, 1) := by decide +kernel
theorem dX3_worth_50 : decode cX3_worth 50 = .ok (.ireturn, 1) := by decide +kernel
theorem dX3_worth_51 : decode cX3_worth 51 = .ok (.iload_n 1, 1) := by decide +kernel
theorem dX3_worth_52 : decode cX3_worth 52 = .ok (.sipush 200, 3) := by decide +kernel
theorem dX3_worth_55 : decode cX3_worth 55 = .ok (.if_icmp .ge 7, 3) := by decide +kernel
theorem dX3_worth_58 : decode cX3_worth 58 = .ok (.iconst 0, 1) := by decide +kernel
theorem dX3_worth_59 : decode cX3_worth 59 = .ok (.goto 4, 3) := by decide +kernel
theorem dX3_worth_62 : decode cX3_worth 62 = .ok (.iload_n 1, 1) := by decide +kernel
theorem dX3_worth_63 : decode cX3_worth 63 = .ok (.ireturn, 1) := by decide +kernel
theorem dX3_worth_64 : decode cX3_worth 64 = .ok (.iconst 3, 1) := by decide +kernel
theorem dX3_worth_65 : decode cX3_worth 65 = .ok (.iload_n 1, 1) := by decide +kernel
theorem dX3_worth_66 : decode cX3_worth 66 = .ok (.iconst 2, 1) := by decide +kernel
theorem dX3_worth_67 : decode cX3_worth 67 = .ok (.idiv, 1) := by decide +kernel
theorem dX3_worth_68 : decode cX3_worth 68 = .ok (.imul, 1) := by decide +kernel
theorem dX3_worth_69 : decode cX3_worth 69 = .ok (.ireturn, 1) := by decide +kernel
theorem dX3_worth_70 : decode cX3_worth 70 = .ok (.iload_n 1, 1) := by decide +kernel
theorem dX3_worth_71 : decode cX3_worth 71 = .ok (.ireturn, 1) := by decide +kernel
theorem dX3_head_0 : decode cX3_head 0 = .ok (.iload_n 0, 1) := by decide +kernel
theorem dX3_head_1 : decode cX3_head 1 = .ok (.tableswitch 43 1 5 #[35, 43, 37, 39, 41], 35) := by decide +kernel
theorem dX3_head_36 : decode cX3_head 36 = .ok (.iconst 3, 1) := by decide +kernel
theorem dX3_head_37 : decode cX3_head 37 = .ok (.ireturn, 1) := by decide +kernel
theorem dX3_head_38 : decode cX3_head 38 = .ok (.iconst 0, 1) := by decide +kernel
theorem dX3_head_39 : decode cX3_head 39 = .ok (.ireturn, 1) := by decide +kernel
theorem dX3_head_40 : decode cX3_head 40 = .ok (.iconst 4, 1) := by decide +kernel
theorem dX3_head_41 : decode cX3_head 41 = .ok (.ireturn, 1) := by decide +kernel
theorem dX3_head_42 : decode cX3_head 42 = .ok (.iconst 0, 1) := by decide +kernel
theorem dX3_head_43 : decode cX3_head 43 = .ok (.ireturn, 1) := by decide +kernel
theorem dX3_head_44 : decode cX3_head 44 = .ok (.iconst 1, 1) := by decide +kernel
theorem dX3_head_45 : decode cX3_head 45 = .ok (.ireturn, 1) := by decide +kernel
end
section
/-! THE ENGINE, 5: the same over whole numbers (printed by wip/gen/mkz.py) -/
def iI (z : Int) : Int32 := Int32.ofInt z
def lI (z : Int) : Int64 := Int64.ofInt z
abbrev zi (z : Int) : Value := .int (iI z)
abbrev zl (z : Int) : Value := .long (lI z)
theorem iI_of (x : Int32) : iI x.toInt = x := Int32.ofInt_toInt x
theorem lI_of (x : Int64) : lI x.toInt = x := Int64.ofInt_toInt x
theorem iI_toInt {z : Int} (h : -2147483648 ≤ z ∧ z ≤ 2147483647) : (iI z).toInt = z := Int32.toInt_ofInt_of_le (by omega) (by omega)
theorem lI_toInt {z : Int} (h : -9223372036854775808 ≤ z ∧ z ≤ 9223372036854775807) : (lI z).toInt = z := Int64.toInt_ofInt_of_le (by omega) (by omega)
theorem iI_add (a b : Int) : iI a + iI b = iI (a + b) := (Int32.ofInt_add a b).symm
theorem iI_sub (a b : Int) : iI a - iI b = iI (a - b) := (Int32.ofInt_sub a b).symm
theorem iI_mul (a b : Int) : iI a * iI b = iI (a * b) := (Int32.ofInt_mul a b).symm
theorem lI_add (a b : Int) : lI a + lI b = lI (a + b) := (Int64.ofInt_add a b).symm
theorem lI_sub (a b : Int) : lI a - lI b = lI (a - b) := (Int64.ofInt_sub a b).symm
theorem lI_mul (a b : Int) : lI a * lI b = lI (a * b) := (Int64.ofInt_mul a b).symm
theorem iI_lt {a b : Int} (h : (-2147483648 ≤ a ∧ a ≤ 2147483647) ∧ (-2147483648 ≤ b ∧ b ≤ 2147483647)) : iI a < iI b ↔ a < b := by
  rw [Int32.lt_iff_toInt_lt, iI_toInt h.1, iI_toInt h.2]
theorem iI_le {a b : Int} (h : (-2147483648 ≤ a ∧ a ≤ 2147483647) ∧ (-2147483648 ≤ b ∧ b ≤ 2147483647)) : iI a ≤ iI b ↔ a ≤ b := by
  rw [Int32.le_iff_toInt_le, iI_toInt h.1, iI_toInt h.2]
theorem iI_eq {a b : Int} (h : (-2147483648 ≤ a ∧ a ≤ 2147483647) ∧ (-2147483648 ≤ b ∧ b ≤ 2147483647)) : iI a = iI b ↔ a = b := by
  rw [← Int32.toInt_inj, iI_toInt h.1, iI_toInt h.2]
theorem lI_eq {a b : Int} (h : (-9223372036854775808 ≤ a ∧ a ≤ 9223372036854775807) ∧ (-9223372036854775808 ≤ b ∧ b ≤ 9223372036854775807)) : lI a = lI b ↔ a = b := by
  rw [← Int64.toInt_inj, lI_toInt h.1, lI_toInt h.2]
theorem iI_0 : iI 0 = 0 := rfl
theorem iI_div {a b : Int} (h : 0 ≤ a ∧ a ≤ 2147483647) (hb : 0 < b ∧ b ≤ 2147483647) : iI a / iI b = iI (a / b) := by
  apply Int32.toInt_inj.mp
  have e : (iI a / iI b).toInt = a.tdiv b := by
    rw [Int32.toInt_div_of_ne_right _ _ (fun q => by
      have := congrArg Int32.toInt q
      rw [iI_toInt (by omega)] at this
      have h2 : (-1 : Int32).toInt = -1 := by decide
      omega), iI_toInt (by omega), iI_toInt (by omega)]
  have hle : a / b ≤ a := Int.ediv_le_self b h.1
  have hge : 0 ≤ a / b := Int.ediv_nonneg h.1 (by omega)
  rw [e, iI_toInt (by omega), Int.tdiv_eq_ediv_of_nonneg h.1]
theorem iI_rem {a b : Int} (h : 0 ≤ a ∧ a ≤ 2147483647) (hb : 0 < b ∧ b ≤ 2147483647) : iI a - iI a / iI b * iI b = iI (a % b) := by
  rw [iI_div h hb, iI_mul, iI_sub, Int.emod_def, Int.mul_comm]
theorem lI_div {a b : Int} (h : 0 ≤ a ∧ a ≤ 9223372036854775807) (hb : 0 < b ∧ b ≤ 9223372036854775807) : lI a / lI b = lI (a / b) := by
  apply Int64.toInt_inj.mp
  have e : (lI a / lI b).toInt = a.tdiv b := by
    rw [Int64.toInt_div_of_ne_right _ _ (fun q => by
      have := congrArg Int64.toInt q
      rw [lI_toInt (by omega)] at this
      have h2 : (-1 : Int64).toInt = -1 := by decide
      omega), lI_toInt (by omega), lI_toInt (by omega)]
  have hle : a / b ≤ a := Int.ediv_le_self b h.1
  have hge : 0 ≤ a / b := Int.ediv_nonneg h.1 (by omega)
  rw [e, lI_toInt (by omega), Int.tdiv_eq_ediv_of_nonneg h.1]
theorem lI_rem {a b : Int} (h : 0 ≤ a ∧ a ≤ 9223372036854775807) (hb : 0 < b ∧ b ≤ 9223372036854775807) : lI a - lI a / lI b * lI b = lI (a % b) := by
  rw [lI_div h hb, lI_mul, lI_sub, Int.emod_def, Int.mul_comm]
theorem iI_l {a : Int} (h : -2147483648 ≤ a ∧ a ≤ 2147483647) : (iI a).toInt64 = lI a := by
  apply Int64.toInt_inj.mp
  rw [Int32.toInt_toInt64, iI_toInt h, lI_toInt (by omega)]
theorem lI_i {a : Int} (h : -2147483648 ≤ a ∧ a ≤ 2147483647) : (lI a).toInt32 = iI a := by
  rw [← iI_l h, Int32.toInt32_toInt64]
theorem iI_n (n : Nat) : iI n = nI n := Int32.ofInt_eq_ofNat
theorem iI_in {z : Int} {i n : Nat} (h : z = i ∧ i < n) (hn : n ≤ 2147483647) : vp_in (iI z) n ∧ (iI z).toNatClampNeg = i := by
  obtain ⟨rfl, h2⟩ := h
  rw [iI_n]
  exact ⟨vp_in_nI h2 (by omega), nI_clamp (by omega)⟩
abbrev zSt : Type := (Nat → Nat → Int) × (Nat → Int)
def zz (ζ : zSt) : eSt := (fun k j => iI (ζ.1 k j), fun j => lI (ζ.2 j))
def zU (ζ : zSt) (k i : Nat) (x : Int) : zSt := (fun a b => if a = k ∧ b = i then x else ζ.1 a b, ζ.2)
def zL (ζ : zSt) (i : Nat) (x : Int) : zSt := (ζ.1, fun b => if b = i then x else ζ.2 b)
def zR (ζ : zSt) (k : Nat) (f : Nat → Int) : zSt := (fun a b => if a = k then f b else ζ.1 a b, ζ.2)
theorem zz_U (ζ : zSt) (k i : Nat) (x : Int) : eU (zz ζ) k i (iI x) = zz (zU ζ k i x) := by
  refine Prod.ext (funext fun a => funext fun b => ?_) rfl
  show va_up (zz ζ).1 k (upd ((zz ζ).1 k) i (iI x)) a b = iI (if a = k ∧ b = i then x else ζ.1 a b)
  unfold va_up upd
  by_cases ha : a = k
  · subst ha
    rw [if_pos rfl]
    by_cases hb : b = i
    · rw [if_pos hb, if_pos ⟨rfl, hb⟩]
    · rw [if_neg hb, if_neg (fun q => hb q.2)]; rfl
  · rw [if_neg ha, if_neg (fun q => ha q.1)]; rfl
theorem zz_L (ζ : zSt) (i : Nat) (x : Int) : eL (zz ζ) i (lI x) = zz (zL ζ i x) := by
  refine Prod.ext rfl (funext fun b => ?_)
  show vp_updL (zz ζ).2 i (lI x) b = lI (if b = i then x else ζ.2 b)
  unfold vp_updL
  split <;> rfl
theorem zz_R (ζ : zSt) (k : Nat) (f : Nat → Int) : eR (zz ζ) k (fun b => iI (f b)) = zz (zR ζ k f) := by
  refine Prod.ext (funext fun a => funext fun b => ?_) rfl
  show va_up (zz ζ).1 k (fun b => iI (f b)) a b = iI (if a = k then f b else ζ.1 a b)
  unfold va_up
  split <;> rfl
theorem zz_cpy (ζ : zSt) (k0 k1 sp dp n : Nat) : va_cpy ((zz ζ).1 k0) ((zz ζ).1 k1) sp dp n = fun b => iI (if dp ≤ b ∧ b < dp + n then ζ.1 k0 (sp + (b - dp)) else ζ.1 k1 b) := by
  funext b
  show va_cpy _ _ sp dp n b = _
  unfold va_cpy
  split <;> rfl
def zCp (ζ : zSt) (k0 k1 sp dp n : Nat) : zSt := zR ζ k1 (fun b => if dp ≤ b ∧ b < dp + n then ζ.1 k0 (sp + (b - dp)) else ζ.1 k1 b)
def ZW (X : eX) (B : eB) (A : Nat → Prop) (nL kc ks : Nat) (Q : State → Prop) (ζ : zSt) (pc : Nat) (ls : List (Option Value)) (st : List Value) : Prop := WW X B A nL kc ks Q (zz ζ) pc ls st
def zRun (l : Launch) (B : eB) (M : eM) (av : List Value) (ζ : zSt) (r : Option Value) (ζ' : zSt) : Prop := Run l B M av (zz ζ) r (zz ζ')
theorem zw_weak {X : eX} {B : eB} {A : Nat → Prop} {nL kc ks : Nat} {Q : State → Prop} {ζ : zSt} {pc : Nat} {ls ls' : List (Option Value)} {st : List Value} (h : ∀ (i : Nat) (v : Value), ls'[i]? = some (some v) → ls[i]? = some (some v)) (k : ZW X B A nL kc ks Q ζ pc ls' st) : ZW X B A nL kc ks Q ζ pc ls st := ww_weak h k
section ZI
variable {X : eX} {B : eB} {A : Nat → Prop} {R : Room} {own : String} {cc : ByteArray} {nL kc ks : Nat} {Q : State → Prop} {ζ τ : zSt} {pc nx : Nat} {ls : List (Option Value)} {st : List Value} {r : Option Value}

theorem zw_iconst {n : Int} (C : CX X B A R own cc nL kc ks) (d : decode cc pc = .ok (.iconst n, 1)) (hn : pc + 1 = nx) (k : ZW X B A nL kc ks Q ζ nx ls (zi n :: st)) : ZW X B A nL kc ks Q ζ pc ls st := ww_iconst C d rfl hn k
theorem zw_bipush {n v : Int} (C : CX X B A R own cc nL kc ks) (d : decode cc pc = .ok (.bipush n, 2)) (hv : (Int8.ofInt n).toInt32 = iI v) (hn : pc + 2 = nx) (k : ZW X B A nL kc ks Q ζ nx ls (zi v :: st)) : ZW X B A nL kc ks Q ζ pc ls st := ww_bipush C d hv hn k
theorem zw_sipush {n v : Int} (C : CX X B A R own cc nL kc ks) (d : decode cc pc = .ok (.sipush n, 3)) (hv : (Int16.ofInt n).toInt32 = iI v) (hn : pc + 3 = nx) (k : ZW X B A nL kc ks Q ζ nx ls (zi v :: st)) : ZW X B A nL kc ks Q ζ pc ls st := ww_sipush C d hv hn k
theorem zw_lconst {n : Fin 2} {v : Int} (C : CX X B A R own cc nL kc ks) (d : decode cc pc = .ok (.lconst n, 1)) (hv : Int64.ofNat (n : Nat) = lI v) (hn : pc + 1 = nx) (k : ZW X B A nL kc ks Q ζ nx ls (zl v :: st)) : ZW X B A nL kc ks Q ζ pc ls st := ww_lconst C d hv hn k
theorem zw_ldc {i : Nat} {w : Int32} {v : Int} (C : CX X B A R own cc nL kc ks) (d : decode cc pc = .ok (.ldc i, 2)) (hc : Cond.constant own i w ∈ eTb) (hv : w = iI v) (hn : pc + 2 = nx) (k : ZW X B A nL kc ks Q ζ nx ls (zi v :: st)) : ZW X B A nL kc ks Q ζ pc ls st := ww_ldc C d hc hn (by rw [hv]; exact k)
theorem zw_ldcw {i : Nat} {w : Int32} {v : Int} (C : CX X B A R own cc nL kc ks) (d : decode cc pc = .ok (.ldc_w i, 3)) (hc : Cond.constant own i w ∈ eTb) (hv : w = iI v) (hn : pc + 3 = nx) (k : ZW X B A nL kc ks Q ζ nx ls (zi v :: st)) : ZW X B A nL kc ks Q ζ pc ls st := ww_ldcw C d hc hn (by rw [hv]; exact k)
theorem zw_ldc2 {i : Nat} {w : Int64} {v : Int} (C : CX X B A R own cc nL kc ks) (d : decode cc pc = .ok (.ldc2_w i, 3)) (hc : Cond.constantLong own i w ∈ eTb) (hv : w = lI v) (hn : pc + 3 = nx) (k : ZW X B A nL kc ks Q ζ nx ls (zl v :: st)) : ZW X B A nL kc ks Q ζ pc ls st := ww_ldc2 C d hc hn (by rw [hv]; exact k)
theorem zw_iload_n {j : Fin 4} {i : Nat} {x : Int} (C : CX X B A R own cc nL kc ks) (d : decode cc pc = .ok (.iload_n j, 1)) (hj : (j : Nat) = i) (h : ls[i]? = some (some (zi x))) (hn : pc + 1 = nx) (k : ZW X B A nL kc ks Q ζ nx ls (zi x :: st)) : ZW X B A nL kc ks Q ζ pc ls st := ww_iload_n C d hj h hn k
theorem zw_iload {i : Nat} {x : Int} (C : CX X B A R own cc nL kc ks) (d : decode cc pc = .ok (.iload i, 2)) (h : ls[i]? = some (some (zi x))) (hn : pc + 2 = nx) (k : ZW X B A nL kc ks Q ζ nx ls (zi x :: st)) : ZW X B A nL kc ks Q ζ pc ls st := ww_iload C d h hn k
theorem zw_lload_n {j : Fin 4} {i : Nat} {x : Int} (C : CX X B A R own cc nL kc ks) (d : decode cc pc = .ok (.lload_n j, 1)) (hj : (j : Nat) = i) (h : ls[i]? = some (some (zl x))) (hn : pc + 1 = nx) (k : ZW X B A nL kc ks Q ζ nx ls (zl x :: st)) : ZW X B A nL kc ks Q ζ pc ls st := ww_lload_n C d hj h hn k
theorem zw_lload {i : Nat} {x : Int} (C : CX X B A R own cc nL kc ks) (d : decode cc pc = .ok (.lload i, 2)) (h : ls[i]? = some (some (zl x))) (hn : pc + 2 = nx) (k : ZW X B A nL kc ks Q ζ nx ls (zl x :: st)) : ZW X B A nL kc ks Q ζ pc ls st := ww_lload C d h hn k
theorem zw_aload_n {j : Fin 4} {i x : Nat} (C : CX X B A R own cc nL kc ks) (d : decode cc pc = .ok (.aload_n j, 1)) (hj : (j : Nat) = i) (h : ls[i]? = some (some (.ref x))) (hn : pc + 1 = nx) (k : ZW X B A nL kc ks Q ζ nx ls (.ref x :: st)) : ZW X B A nL kc ks Q ζ pc ls st := ww_aload_n C d hj h hn k
theorem zw_aload {i x : Nat} (C : CX X B A R own cc nL kc ks) (d : decode cc pc = .ok (.aload i, 2)) (h : ls[i]? = some (some (.ref x))) (hn : pc + 2 = nx) (k : ZW X B A nL kc ks Q ζ nx ls (.ref x :: st)) : ZW X B A nL kc ks Q ζ pc ls st := ww_aload C d h hn k
theorem zw_iadd {a b : Int} (C : CX X B A R own cc nL kc ks) (d : decode cc pc = .ok (.iadd, 1)) (hn : pc + 1 = nx) (k : ZW X B A nL kc ks Q ζ nx ls (zi (a + b) :: st)) : ZW X B A nL kc ks Q ζ pc ls (zi b :: zi a :: st) := ww_iadd C d hn (by rw [iI_add]; exact k)
theorem zw_isub {a b : Int} (C : CX X B A R own cc nL kc ks) (d : decode cc pc = .ok (.isub, 1)) (hn : pc + 1 = nx) (k : ZW X B A nL kc ks Q ζ nx ls (zi (a - b) :: st)) : ZW X B A nL kc ks Q ζ pc ls (zi b :: zi a :: st) := ww_isub C d hn (by rw [iI_sub]; exact k)
theorem zw_imul {a b : Int} (C : CX X B A R own cc nL kc ks) (d : decode cc pc = .ok (.imul, 1)) (hn : pc + 1 = nx) (k : ZW X B A nL kc ks Q ζ nx ls (zi (a * b) :: st)) : ZW X B A nL kc ks Q ζ pc ls (zi b :: zi a :: st) := ww_imul C d hn (by rw [iI_mul]; exact k)
theorem zw_ladd {a b : Int} (C : CX X B A R own cc nL kc ks) (d : decode cc pc = .ok (.ladd, 1)) (hn : pc + 1 = nx) (k : ZW X B A nL kc ks Q ζ nx ls (zl (a + b) :: st)) : ZW X B A nL kc ks Q ζ pc ls (zl b :: zl a :: st) := ww_ladd C d hn (by rw [lI_add]; exact k)
theorem zw_lsub {a b : Int} (C : CX X B A R own cc nL kc ks) (d : decode cc pc = .ok (.lsub, 1)) (hn : pc + 1 = nx) (k : ZW X B A nL kc ks Q ζ nx ls (zl (a - b) :: st)) : ZW X B A nL kc ks Q ζ pc ls (zl b :: zl a :: st) := ww_lsub C d hn (by rw [lI_sub]; exact k)
theorem zw_lmul {a b : Int} (C : CX X B A R own cc nL kc ks) (d : decode cc pc = .ok (.lmul, 1)) (hn : pc + 1 = nx) (k : ZW X B A nL kc ks Q ζ nx ls (zl (a * b) :: st)) : ZW X B A nL kc ks Q ζ pc ls (zl b :: zl a :: st) := ww_lmul C d hn (by rw [lI_mul]; exact k)
theorem zw_idiv {a b : Int} (C : CX X B A R own cc nL kc ks) (d : decode cc pc = .ok (.idiv, 1)) (h : (0 ≤ a ∧ a ≤ 2147483647) ∧ (0 < b ∧ b ≤ 2147483647)) (hn : pc + 1 = nx) (k : ZW X B A nL kc ks Q ζ nx ls (zi (a / b) :: st)) : ZW X B A nL kc ks Q ζ pc ls (zi b :: zi a :: st) := ww_idiv C d (fun q => by have := (iI_eq (a := b) (b := 0) (by omega)).mp q; omega) hn (by rw [iI_div h.1 h.2]; exact k)
theorem zw_irem {a b : Int} (C : CX X B A R own cc nL kc ks) (d : decode cc pc = .ok (.irem, 1)) (h : (0 ≤ a ∧ a ≤ 2147483647) ∧ (0 < b ∧ b ≤ 2147483647)) (hn : pc + 1 = nx) (k : ZW X B A nL kc ks Q ζ nx ls (zi (a % b) :: st)) : ZW X B A nL kc ks Q ζ pc ls (zi b :: zi a :: st) := ww_irem C d (fun q => by have := (iI_eq (a := b) (b := 0) (by omega)).mp q; omega) hn (by rw [iI_rem h.1 h.2]; exact k)
theorem zw_ldiv {a b : Int} (C : CX X B A R own cc nL kc ks) (d : decode cc pc = .ok (.ldiv, 1)) (h : (0 ≤ a ∧ a ≤ 9223372036854775807) ∧ (0 < b ∧ b ≤ 9223372036854775807)) (hn : pc + 1 = nx) (k : ZW X B A nL kc ks Q ζ nx ls (zl (a / b) :: st)) : ZW X B A nL kc ks Q ζ pc ls (zl b :: zl a :: st) := ww_ldiv C d (fun q => by have := (lI_eq (a := b) (b := 0) (by omega)).mp q; omega) hn (by rw [lI_div h.1 h.2]; exact k)
theorem zw_lrem {a b : Int} (C : CX X B A R own cc nL kc ks) (d : decode cc pc = .ok (.lrem, 1)) (h : (0 ≤ a ∧ a ≤ 9223372036854775807) ∧ (0 < b ∧ b ≤ 9223372036854775807)) (hn : pc + 1 = nx) (k : ZW X B A nL kc ks Q ζ nx ls (zl (a % b) :: st)) : ZW X B A nL kc ks Q ζ pc ls (zl b :: zl a :: st) := ww_lrem C d (fun q => by have := (lI_eq (a := b) (b := 0) (by omega)).mp q; omega) hn (by rw [lI_rem h.1 h.2]; exact k)
theorem zw_iand {a b c : Int} (C : CX X B A R own cc nL kc ks) (d : decode cc pc = .ok (.iand, 1)) (h : iI a &&& iI b = iI c) (hn : pc + 1 = nx) (k : ZW X B A nL kc ks Q ζ nx ls (zi c :: st)) : ZW X B A nL kc ks Q ζ pc ls (zi b :: zi a :: st) := ww_iand C d hn (by rw [h]; exact k)
theorem zw_ior {a b c : Int} (C : CX X B A R own cc nL kc ks) (d : decode cc pc = .ok (.ior, 1)) (h : iI a ||| iI b = iI c) (hn : pc + 1 = nx) (k : ZW X B A nL kc ks Q ζ nx ls (zi c :: st)) : ZW X B A nL kc ks Q ζ pc ls (zi b :: zi a :: st) := ww_ior C d hn (by rw [h]; exact k)
theorem zw_ishl {a b c : Int} (C : CX X B A R own cc nL kc ks) (d : decode cc pc = .ok (.ishl, 1)) (h : iI a <<< (iI b &&& 31) = iI c) (hn : pc + 1 = nx) (k : ZW X B A nL kc ks Q ζ nx ls (zi c :: st)) : ZW X B A nL kc ks Q ζ pc ls (zi b :: zi a :: st) := ww_ishl C d hn (by rw [h]; exact k)
theorem zw_ishr {a b c : Int} (C : CX X B A R own cc nL kc ks) (d : decode cc pc = .ok (.ishr, 1)) (h : iI a >>> (iI b &&& 31) = iI c) (hn : pc + 1 = nx) (k : ZW X B A nL kc ks Q ζ nx ls (zi c :: st)) : ZW X B A nL kc ks Q ζ pc ls (zi b :: zi a :: st) := ww_ishr C d hn (by rw [h]; exact k)
theorem zw_i2l {a : Int} (C : CX X B A R own cc nL kc ks) (d : decode cc pc = .ok (.i2l, 1)) (h : -2147483648 ≤ a ∧ a ≤ 2147483647) (hn : pc + 1 = nx) (k : ZW X B A nL kc ks Q ζ nx ls (zl a :: st)) : ZW X B A nL kc ks Q ζ pc ls (zi a :: st) := ww_i2l C d hn (by rw [iI_l h]; exact k)
theorem zw_l2i {a : Int} (C : CX X B A R own cc nL kc ks) (d : decode cc pc = .ok (.l2i, 1)) (h : -2147483648 ≤ a ∧ a ≤ 2147483647) (hn : pc + 1 = nx) (k : ZW X B A nL kc ks Q ζ nx ls (zi a :: st)) : ZW X B A nL kc ks Q ζ pc ls (zl a :: st) := ww_l2i C d hn (by rw [lI_i h]; exact k)
theorem zw_i2b {a c : Int} (C : CX X B A R own cc nL kc ks) (d : decode cc pc = .ok (.i2b, 1)) (h : (iI a).toInt8.toInt32 = iI c) (hn : pc + 1 = nx) (k : ZW X B A nL kc ks Q ζ nx ls (zi c :: st)) : ZW X B A nL kc ks Q ζ pc ls (zi a :: st) := ww_i2b C d hn (by rw [h]; exact k)
theorem zw_dup {v : Value} (C : CX X B A R own cc nL kc ks) (d : decode cc pc = .ok (.dup, 1)) (hc : v.category = 1) (hn : pc + 1 = nx) (k : ZW X B A nL kc ks Q ζ nx ls (v :: v :: st)) : ZW X B A nL kc ks Q ζ pc ls (v :: st) := ww_dup C d hc hn k
theorem zw_pop {v : Value} (C : CX X B A R own cc nL kc ks) (d : decode cc pc = .ok (.pop, 1)) (hc : v.category = 1) (hn : pc + 1 = nx) (k : ZW X B A nL kc ks Q ζ nx ls st) : ZW X B A nL kc ks Q ζ pc ls (v :: st) := ww_pop C d hc hn k
theorem zw_dup2 {v w : Value} (C : CX X B A R own cc nL kc ks) (d : decode cc pc = .ok (.dup2, 1)) (hc : v.category = 1) (hc2 : w.category = 1) (hn : pc + 1 = nx) (k : ZW X B A nL kc ks Q ζ nx ls (v :: w :: v :: w :: st)) : ZW X B A nL kc ks Q ζ pc ls (v :: w :: st) := ww_dup2 C d hc hc2 hn k
theorem zw_icmp_eq {a b : Int} {off : Int} {tgt : Nat} (C : CX X B A R own cc nL kc ks) (d : decode cc pc = .ok (.if_icmp .eq off, 3)) (ht : (pc : Int) + off = (tgt : Int)) (hn : pc + 3 = nx) (h : (-2147483648 ≤ a ∧ a ≤ 2147483647) ∧ (-2147483648 ≤ b ∧ b ≤ 2147483647)) (kt : a = b → ZW X B A nL kc ks Q ζ tgt ls st) (kf : a ≠ b → ZW X B A nL kc ks Q ζ nx ls st) : ZW X B A nL kc ks Q ζ pc ls (zi b :: zi a :: st) := ww_icmp_eq C d ht hn (fun q => kt ((iI_eq h).mp q)) (fun q => kf (fun z => q ((iI_eq h).mpr z)))
theorem zw_if_eq {a : Int} {off : Int} {tgt : Nat} (C : CX X B A R own cc nL kc ks) (d : decode cc pc = .ok (.ifCond .eq off, 3)) (ht : (pc : Int) + off = (tgt : Int)) (hn : pc + 3 = nx) (h0 : -2147483648 ≤ a ∧ a ≤ 2147483647) (kt : a = 0 → ZW X B A nL kc ks Q ζ tgt ls st) (kf : a ≠ 0 → ZW X B A nL kc ks Q ζ nx ls st) : ZW X B A nL kc ks Q ζ pc ls (zi a :: st) := by
  have h : (-2147483648 ≤ a ∧ a ≤ 2147483647) ∧ (-2147483648 ≤ (0 : Int) ∧ (0 : Int) ≤ 2147483647) := ⟨h0, by omega⟩
  exact ww_if_eq C d ht hn (fun q => kt ((iI_eq h).mp q)) (fun q => kf (fun z => q ((iI_eq h).mpr z)))
theorem zw_icmp_ne {a b : Int} {off : Int} {tgt : Nat} (C : CX X B A R own cc nL kc ks) (d : decode cc pc = .ok (.if_icmp .ne off, 3)) (ht : (pc : Int) + off = (tgt : Int)) (hn : pc + 3 = nx) (h : (-2147483648 ≤ a ∧ a ≤ 2147483647) ∧ (-2147483648 ≤ b ∧ b ≤ 2147483647)) (kt : a ≠ b → ZW X B A nL kc ks Q ζ tgt ls st) (kf : a = b → ZW X B A nL kc ks Q ζ nx ls st) : ZW X B A nL kc ks Q ζ pc ls (zi b :: zi a :: st) := ww_icmp_ne C d ht hn (fun q => kt (fun z => q ((iI_eq h).mpr z))) (fun q => kf ((iI_eq h).mp q))
theorem zw_if_ne {a : Int} {off : Int} {tgt : Nat} (C : CX X B A R own cc nL kc ks) (d : decode cc pc = .ok (.ifCond .ne off, 3)) (ht : (pc : Int) + off = (tgt : Int)) (hn : pc + 3 = nx) (h0 : -2147483648 ≤ a ∧ a ≤ 2147483647) (kt : a ≠ 0 → ZW X B A nL kc ks Q ζ tgt ls st) (kf : a = 0 → ZW X B A nL kc ks Q ζ nx ls st) : ZW X B A nL kc ks Q ζ pc ls (zi a :: st) := by
  have h : (-2147483648 ≤ a ∧ a ≤ 2147483647) ∧ (-2147483648 ≤ (0 : Int) ∧ (0 : Int) ≤ 2147483647) := ⟨h0, by omega⟩
  exact ww_if_ne C d ht hn (fun q => kt (fun z => q ((iI_eq h).mpr z))) (fun q => kf ((iI_eq h).mp q))
theorem zw_icmp_lt {a b : Int} {off : Int} {tgt : Nat} (C : CX X B A R own cc nL kc ks) (d : decode cc pc = .ok (.if_icmp .lt off, 3)) (ht : (pc : Int) + off = (tgt : Int)) (hn : pc + 3 = nx) (h : (-2147483648 ≤ a ∧ a ≤ 2147483647) ∧ (-2147483648 ≤ b ∧ b ≤ 2147483647)) (kt : a < b → ZW X B A nL kc ks Q ζ tgt ls st) (kf : b ≤ a → ZW X B A nL kc ks Q ζ nx ls st) : ZW X B A nL kc ks Q ζ pc ls (zi b :: zi a :: st) := ww_icmp_lt C d ht hn (fun q => kt ((iI_lt h).mp q)) (fun q => kf (Int.not_lt.mp (fun z => q ((iI_lt h).mpr z))))
theorem zw_if_lt {a : Int} {off : Int} {tgt : Nat} (C : CX X B A R own cc nL kc ks) (d : decode cc pc = .ok (.ifCond .lt off, 3)) (ht : (pc : Int) + off = (tgt : Int)) (hn : pc + 3 = nx) (h0 : -2147483648 ≤ a ∧ a ≤ 2147483647) (kt : a < 0 → ZW X B A nL kc ks Q ζ tgt ls st) (kf : 0 ≤ a → ZW X B A nL kc ks Q ζ nx ls st) : ZW X B A nL kc ks Q ζ pc ls (zi a :: st) := by
  have h : (-2147483648 ≤ a ∧ a ≤ 2147483647) ∧ (-2147483648 ≤ (0 : Int) ∧ (0 : Int) ≤ 2147483647) := ⟨h0, by omega⟩
  exact ww_if_lt C d ht hn (fun q => kt ((iI_lt h).mp q)) (fun q => kf (Int.not_lt.mp (fun z => q ((iI_lt h).mpr z))))
theorem zw_icmp_ge {a b : Int} {off : Int} {tgt : Nat} (C : CX X B A R own cc nL kc ks) (d : decode cc pc = .ok (.if_icmp .ge off, 3)) (ht : (pc : Int) + off = (tgt : Int)) (hn : pc + 3 = nx) (h : (-2147483648 ≤ a ∧ a ≤ 2147483647) ∧ (-2147483648 ≤ b ∧ b ≤ 2147483647)) (kt : b ≤ a → ZW X B A nL kc ks Q ζ tgt ls st) (kf : a < b → ZW X B A nL kc ks Q ζ nx ls st) : ZW X B A nL kc ks Q ζ pc ls (zi b :: zi a :: st) := ww_icmp_ge C d ht hn (fun q => kt ((iI_le ⟨h.2, h.1⟩).mp q)) (fun q => kf (Int.not_le.mp (fun z => q ((iI_le ⟨h.2, h.1⟩).mpr z))))
theorem zw_if_ge {a : Int} {off : Int} {tgt : Nat} (C : CX X B A R own cc nL kc ks) (d : decode cc pc = .ok (.ifCond .ge off, 3)) (ht : (pc : Int) + off = (tgt : Int)) (hn : pc + 3 = nx) (h0 : -2147483648 ≤ a ∧ a ≤ 2147483647) (kt : 0 ≤ a → ZW X B A nL kc ks Q ζ tgt ls st) (kf : a < 0 → ZW X B A nL kc ks Q ζ nx ls st) : ZW X B A nL kc ks Q ζ pc ls (zi a :: st) := by
  have h : (-2147483648 ≤ a ∧ a ≤ 2147483647) ∧ (-2147483648 ≤ (0 : Int) ∧ (0 : Int) ≤ 2147483647) := ⟨h0, by omega⟩
  exact ww_if_ge C d ht hn (fun q => kt ((iI_le ⟨h.2, h.1⟩).mp q)) (fun q => kf (Int.not_le.mp (fun z => q ((iI_le ⟨h.2, h.1⟩).mpr z))))
theorem zw_icmp_gt {a b : Int} {off : Int} {tgt : Nat} (C : CX X B A R own cc nL kc ks) (d : decode cc pc = .ok (.if_icmp .gt off, 3)) (ht : (pc : Int) + off = (tgt : Int)) (hn : pc + 3 = nx) (h : (-2147483648 ≤ a ∧ a ≤ 2147483647) ∧ (-2147483648 ≤ b ∧ b ≤ 2147483647)) (kt : b < a → ZW X B A nL kc ks Q ζ tgt ls st) (kf : a ≤ b → ZW X B A nL kc ks Q ζ nx ls st) : ZW X B A nL kc ks Q ζ pc ls (zi b :: zi a :: st) := ww_icmp_gt C d ht hn (fun q => kt ((iI_lt ⟨h.2, h.1⟩).mp q)) (fun q => kf (Int.not_lt.mp (fun z => q ((iI_lt ⟨h.2, h.1⟩).mpr z))))
theorem zw_if_gt {a : Int} {off : Int} {tgt : Nat} (C : CX X B A R own cc nL kc ks) (d : decode cc pc = .ok (.ifCond .gt off, 3)) (ht : (pc : Int) + off = (tgt : Int)) (hn : pc + 3 = nx) (h0 : -2147483648 ≤ a ∧ a ≤ 2147483647) (kt : 0 < a → ZW X B A nL kc ks Q ζ tgt ls st) (kf : a ≤ 0 → ZW X B A nL kc ks Q ζ nx ls st) : ZW X B A nL kc ks Q ζ pc ls (zi a :: st) := by
  have h : (-2147483648 ≤ a ∧ a ≤ 2147483647) ∧ (-2147483648 ≤ (0 : Int) ∧ (0 : Int) ≤ 2147483647) := ⟨h0, by omega⟩
  exact ww_if_gt C d ht hn (fun q => kt ((iI_lt ⟨h.2, h.1⟩).mp q)) (fun q => kf (Int.not_lt.mp (fun z => q ((iI_lt ⟨h.2, h.1⟩).mpr z))))
theorem zw_icmp_le {a b : Int} {off : Int} {tgt : Nat} (C : CX X B A R own cc nL kc ks) (d : decode cc pc = .ok (.if_icmp .le off, 3)) (ht : (pc : Int) + off = (tgt : Int)) (hn : pc + 3 = nx) (h : (-2147483648 ≤ a ∧ a ≤ 2147483647) ∧ (-2147483648 ≤ b ∧ b ≤ 2147483647)) (kt : a ≤ b → ZW X B A nL kc ks Q ζ tgt ls st) (kf : b < a → ZW X B A nL kc ks Q ζ nx ls st) : ZW X B A nL kc ks Q ζ pc ls (zi b :: zi a :: st) := ww_icmp_le C d ht hn (fun q => kt ((iI_le h).mp q)) (fun q => kf (Int.not_le.mp (fun z => q ((iI_le h).mpr z))))
theorem zw_if_le {a : Int} {off : Int} {tgt : Nat} (C : CX X B A R own cc nL kc ks) (d : decode cc pc = .ok (.ifCond .le off, 3)) (ht : (pc : Int) + off = (tgt : Int)) (hn : pc + 3 = nx) (h0 : -2147483648 ≤ a ∧ a ≤ 2147483647) (kt : a ≤ 0 → ZW X B A nL kc ks Q ζ tgt ls st) (kf : 0 < a → ZW X B A nL kc ks Q ζ nx ls st) : ZW X B A nL kc ks Q ζ pc ls (zi a :: st) := by
  have h : (-2147483648 ≤ a ∧ a ≤ 2147483647) ∧ (-2147483648 ≤ (0 : Int) ∧ (0 : Int) ≤ 2147483647) := ⟨h0, by omega⟩
  exact ww_if_le C d ht hn (fun q => kt ((iI_le h).mp q)) (fun q => kf (Int.not_le.mp (fun z => q ((iI_le h).mpr z))))
theorem zw_goto {off : Int} (C : CX X B A R own cc nL kc ks) (d : decode cc pc = .ok (.goto off, 3)) (ht : (pc : Int) + off = (nx : Int)) (k : ZW X B A nL kc ks Q ζ nx ls st) : ZW X B A nL kc ks Q ζ pc ls st := ww_goto C d ht k
theorem zw_tableOut {dflt lo hi : Int} {offs : Array Int} {len : Nat} {x : Int} (C : CX X B A R own cc nL kc ks) (d : decode cc pc = .ok (.tableswitch dflt lo hi offs, len)) (hx : -2147483648 ≤ x ∧ x ≤ 2147483647) (h : x < lo ∨ hi < x) (ht : (pc : Int) + dflt = (nx : Int)) (k : ZW X B A nL kc ks Q ζ nx ls st) : ZW X B A nL kc ks Q ζ pc ls (zi x :: st) := ww_tableOut C d (by rw [iI_toInt hx]; exact h) ht k
theorem zw_tableIn {dflt lo hi : Int} {offs : Array Int} {len : Nat} {x : Int} {off : Int} (C : CX X B A R own cc nL kc ks) (d : decode cc pc = .ok (.tableswitch dflt lo hi offs, len)) (hx : -2147483648 ≤ x ∧ x ≤ 2147483647) (h1 : ¬ x < lo) (h2 : ¬ hi < x) (ho : offs[(x - lo).toNat]? = some off) (ht : (pc : Int) + off = (nx : Int)) (k : ZW X B A nL kc ks Q ζ nx ls st) : ZW X B A nL kc ks Q ζ pc ls (zi x :: st) := ww_tableIn C d (by rw [iI_toInt hx]; exact h1) (by rw [iI_toInt hx]; exact h2) (by rw [iI_toInt hx]; exact ho) ht k
theorem zw_lookup {dflt : Int} {ps : Array (Int × Int)} {len : Nat} {x : Int} {off : Int} (C : CX X B A R own cc nL kc ks) (d : decode cc pc = .ok (.lookupswitch dflt ps, len)) (hx : -2147483648 ≤ x ∧ x ≤ 2147483647) (hp : (ps.toList.zip (ps.toList.drop 1)).all (fun (a, next) => a.1 < next.1) = true) (ho : Op.lookupswitch.offset ps.toList dflt x = off) (ht : (pc : Int) + off = (nx : Int)) (k : ZW X B A nL kc ks Q ζ nx ls st) : ZW X B A nL kc ks Q ζ pc ls (zi x :: st) := ww_lookup C d hp (by rw [iI_toInt hx]; exact ho) ht k
theorem zw_ist0 {x0 : Option Value} {q : List (Option Value)} {x : Int} (C : CX X B A R own cc nL kc ks) (d : eIst cc pc nx 0) (hi : 0 < nL) (k : ZW X B A nL kc ks Q ζ nx (some (zi x) :: q) st) : ZW X B A nL kc ks Q ζ pc (x0 :: q) (zi x :: st) := ww_ist0 C d hi k
theorem zw_iinc0 {q : List (Option Value)} {n : Int} {x : Int} (C : CX X B A R own cc nL kc ks) (d : decode cc pc = .ok (.iinc 0 n, 3)) (hn : pc + 3 = nx) (hi : 0 < nL) (k : ZW X B A nL kc ks Q ζ nx (some (zi (x + n)) :: q) st) : ZW X B A nL kc ks Q ζ pc (some (zi x) :: q) st := ww_iinc0 C d hn rfl hi (by rw [show Int32.ofInt n = iI n from rfl, iI_add]; exact k)
theorem zw_lst0 {x0 y : Option Value} {q : List (Option Value)} {x : Int} (C : CX X B A R own cc nL kc ks) (d : eLst cc pc nx 0) (hi : 0 + 1 < nL) (k : ZW X B A nL kc ks Q ζ nx (some (zl x) :: none :: q) st) : ZW X B A nL kc ks Q ζ pc (x0 :: y :: q) (zl x :: st) := ww_lst0 C d hi k
theorem zw_ist1 {x0 x1 : Option Value} {q : List (Option Value)} {x : Int} (C : CX X B A R own cc nL kc ks) (d : eIst cc pc nx 1) (hi : 1 < nL) (ho : eOne x0 = true) (k : ZW X B A nL kc ks Q ζ nx (x0 :: some (zi x) :: q) st) : ZW X B A nL kc ks Q ζ pc (x0 :: x1 :: q) (zi x :: st) := ww_ist1 C d hi ho k
theorem zw_iinc1 {x0 : Option Value} {q : List (Option Value)} {n : Int} {x : Int} (C : CX X B A R own cc nL kc ks) (d : decode cc pc = .ok (.iinc 1 n, 3)) (hn : pc + 3 = nx) (hi : 1 < nL) (ho : eOne x0 = true) (k : ZW X B A nL kc ks Q ζ nx (x0 :: some (zi (x + n)) :: q) st) : ZW X B A nL kc ks Q ζ pc (x0 :: some (zi x) :: q) st := ww_iinc1 C d hn rfl hi ho (by rw [show Int32.ofInt n = iI n from rfl, iI_add]; exact k)
theorem zw_lst1 {x0 x1 y : Option Value} {q : List (Option Value)} {x : Int} (C : CX X B A R own cc nL kc ks) (d : eLst cc pc nx 1) (hi : 1 + 1 < nL) (ho : eOne x0 = true) (k : ZW X B A nL kc ks Q ζ nx (x0 :: some (zl x) :: none :: q) st) : ZW X B A nL kc ks Q ζ pc (x0 :: x1 :: y :: q) (zl x :: st) := ww_lst1 C d hi ho k
theorem zw_ist2 {x0 x1 x2 : Option Value} {q : List (Option Value)} {x : Int} (C : CX X B A R own cc nL kc ks) (d : eIst cc pc nx 2) (hi : 2 < nL) (ho : eOne x1 = true) (k : ZW X B A nL kc ks Q ζ nx (x0 :: x1 :: some (zi x) :: q) st) : ZW X B A nL kc ks Q ζ pc (x0 :: x1 :: x2 :: q) (zi x :: st) := ww_ist2 C d hi ho k
theorem zw_iinc2 {x0 x1 : Option Value} {q : List (Option Value)} {n : Int} {x : Int} (C : CX X B A R own cc nL kc ks) (d : decode cc pc = .ok (.iinc 2 n, 3)) (hn : pc + 3 = nx) (hi : 2 < nL) (ho : eOne x1 = true) (k : ZW X B A nL kc ks Q ζ nx (x0 :: x1 :: some (zi (x + n)) :: q) st) : ZW X B A nL kc ks Q ζ pc (x0 :: x1 :: some (zi x) :: q) st := ww_iinc2 C d hn rfl hi ho (by rw [show Int32.ofInt n = iI n from rfl, iI_add]; exact k)
theorem zw_lst2 {x0 x1 x2 y : Option Value} {q : List (Option Value)} {x : Int} (C : CX X B A R own cc nL kc ks) (d : eLst cc pc nx 2) (hi : 2 + 1 < nL) (ho : eOne x1 = true) (k : ZW X B A nL kc ks Q ζ nx (x0 :: x1 :: some (zl x) :: none :: q) st) : ZW X B A nL kc ks Q ζ pc (x0 :: x1 :: x2 :: y :: q) (zl x :: st) := ww_lst2 C d hi ho k
theorem zw_ist3 {x0 x1 x2 x3 : Option Value} {q : List (Option Value)} {x : Int} (C : CX X B A R own cc nL kc ks) (d : eIst cc pc nx 3) (hi : 3 < nL) (ho : eOne x2 = true) (k : ZW X B A nL kc ks Q ζ nx (x0 :: x1 :: x2 :: some (zi x) :: q) st) : ZW X B A nL kc ks Q ζ pc (x0 :: x1 :: x2 :: x3 :: q) (zi x :: st) := ww_ist3 C d hi ho k
theorem zw_iinc3 {x0 x1 x2 : Option Value} {q : List (Option Value)} {n : Int} {x : Int} (C : CX X B A R own cc nL kc ks) (d : decode cc pc = .ok (.iinc 3 n, 3)) (hn : pc + 3 = nx) (hi : 3 < nL) (ho : eOne x2 = true) (k : ZW X B A nL kc ks Q ζ nx (x0 :: x1 :: x2 :: some (zi (x + n)) :: q) st) : ZW X B A nL kc ks Q ζ pc (x0 :: x1 :: x2 :: some (zi x) :: q) st := ww_iinc3 C d hn rfl hi ho (by rw [show Int32.ofInt n = iI n from rfl, iI_add]; exact k)
theorem zw_lst3 {x0 x1 x2 x3 y : Option Value} {q : List (Option Value)} {x : Int} (C : CX X B A R own cc nL kc ks) (d : eLst cc pc nx 3) (hi : 3 + 1 < nL) (ho : eOne x2 = true) (k : ZW X B A nL kc ks Q ζ nx (x0 :: x1 :: x2 :: some (zl x) :: none :: q) st) : ZW X B A nL kc ks Q ζ pc (x0 :: x1 :: x2 :: x3 :: y :: q) (zl x :: st) := ww_lst3 C d hi ho k
theorem zw_ist4 {x0 x1 x2 x3 x4 : Option Value} {q : List (Option Value)} {x : Int} (C : CX X B A R own cc nL kc ks) (d : eIst cc pc nx 4) (hi : 4 < nL) (ho : eOne x3 = true) (k : ZW X B A nL kc ks Q ζ nx (x0 :: x1 :: x2 :: x3 :: some (zi x) :: q) st) : ZW X B A nL kc ks Q ζ pc (x0 :: x1 :: x2 :: x3 :: x4 :: q) (zi x :: st) := ww_ist4 C d hi ho k
theorem zw_iinc4 {x0 x1 x2 x3 : Option Value} {q : List (Option Value)} {n : Int} {x : Int} (C : CX X B A R own cc nL kc ks) (d : decode cc pc = .ok (.iinc 4 n, 3)) (hn : pc + 3 = nx) (hi : 4 < nL) (ho : eOne x3 = true) (k : ZW X B A nL kc ks Q ζ nx (x0 :: x1 :: x2 :: x3 :: some (zi (x + n)) :: q) st) : ZW X B A nL kc ks Q ζ pc (x0 :: x1 :: x2 :: x3 :: some (zi x) :: q) st := ww_iinc4 C d hn rfl hi ho (by rw [show Int32.ofInt n = iI n from rfl, iI_add]; exact k)
theorem zw_lst4 {x0 x1 x2 x3 x4 y : Option Value} {q : List (Option Value)} {x : Int} (C : CX X B A R own cc nL kc ks) (d : eLst cc pc nx 4) (hi : 4 + 1 < nL) (ho : eOne x3 = true) (k : ZW X B A nL kc ks Q ζ nx (x0 :: x1 :: x2 :: x3 :: some (zl x) :: none :: q) st) : ZW X B A nL kc ks Q ζ pc (x0 :: x1 :: x2 :: x3 :: x4 :: y :: q) (zl x :: st) := ww_lst4 C d hi ho k
theorem zw_ist5 {x0 x1 x2 x3 x4 x5 : Option Value} {q : List (Option Value)} {x : Int} (C : CX X B A R own cc nL kc ks) (d : eIst cc pc nx 5) (hi : 5 < nL) (ho : eOne x4 = true) (k : ZW X B A nL kc ks Q ζ nx (x0 :: x1 :: x2 :: x3 :: x4 :: some (zi x) :: q) st) : ZW X B A nL kc ks Q ζ pc (x0 :: x1 :: x2 :: x3 :: x4 :: x5 :: q) (zi x :: st) := ww_ist5 C d hi ho k
theorem zw_iinc5 {x0 x1 x2 x3 x4 : Option Value} {q : List (Option Value)} {n : Int} {x : Int} (C : CX X B A R own cc nL kc ks) (d : decode cc pc = .ok (.iinc 5 n, 3)) (hn : pc + 3 = nx) (hi : 5 < nL) (ho : eOne x4 = true) (k : ZW X B A nL kc ks Q ζ nx (x0 :: x1 :: x2 :: x3 :: x4 :: some (zi (x + n)) :: q) st) : ZW X B A nL kc ks Q ζ pc (x0 :: x1 :: x2 :: x3 :: x4 :: some (zi x) :: q) st := ww_iinc5 C d hn rfl hi ho (by rw [show Int32.ofInt n = iI n from rfl, iI_add]; exact k)
theorem zw_lst5 {x0 x1 x2 x3 x4 x5 y : Option Value} {q : List (Option Value)} {x : Int} (C : CX X B A R own cc nL kc ks) (d : eLst cc pc nx 5) (hi : 5 + 1 < nL) (ho : eOne x4 = true) (k : ZW X B A nL kc ks Q ζ nx (x0 :: x1 :: x2 :: x3 :: x4 :: some (zl x) :: none :: q) st) : ZW X B A nL kc ks Q ζ pc (x0 :: x1 :: x2 :: x3 :: x4 :: x5 :: y :: q) (zl x :: st) := ww_lst5 C d hi ho k
theorem zw_ist6 {x0 x1 x2 x3 x4 x5 x6 : Option Value} {q : List (Option Value)} {x : Int} (C : CX X B A R own cc nL kc ks) (d : eIst cc pc nx 6) (hi : 6 < nL) (ho : eOne x5 = true) (k : ZW X B A nL kc ks Q ζ nx (x0 :: x1 :: x2 :: x3 :: x4 :: x5 :: some (zi x) :: q) st) : ZW X B A nL kc ks Q ζ pc (x0 :: x1 :: x2 :: x3 :: x4 :: x5 :: x6 :: q) (zi x :: st) := ww_ist6 C d hi ho k
theorem zw_iinc6 {x0 x1 x2 x3 x4 x5 : Option Value} {q : List (Option Value)} {n : Int} {x : Int} (C : CX X B A R own cc nL kc ks) (d : decode cc pc = .ok (.iinc 6 n, 3)) (hn : pc + 3 = nx) (hi : 6 < nL) (ho : eOne x5 = true) (k : ZW X B A nL kc ks Q ζ nx (x0 :: x1 :: x2 :: x3 :: x4 :: x5 :: some (zi (x + n)) :: q) st) : ZW X B A nL kc ks Q ζ pc (x0 :: x1 :: x2 :: x3 :: x4 :: x5 :: some (zi x) :: q) st := ww_iinc6 C d hn rfl hi ho (by rw [show Int32.ofInt n = iI n from rfl, iI_add]; exact k)
theorem zw_lst6 {x0 x1 x2 x3 x4 x5 x6 y : Option Value} {q : List (Option Value)} {x : Int} (C : CX X B A R own cc nL kc ks) (d : eLst cc pc nx 6) (hi : 6 + 1 < nL) (ho : eOne x5 = true) (k : ZW X B A nL kc ks Q ζ nx (x0 :: x1 :: x2 :: x3 :: x4 :: x5 :: some (zl x) :: none :: q) st) : ZW X B A nL kc ks Q ζ pc (x0 :: x1 :: x2 :: x3 :: x4 :: x5 :: x6 :: y :: q) (zl x :: st) := ww_lst6 C d hi ho k
theorem zw_ist7 {x0 x1 x2 x3 x4 x5 x6 x7 : Option Value} {q : List (Option Value)} {x : Int} (C : CX X B A R own cc nL kc ks) (d : eIst cc pc nx 7) (hi : 7 < nL) (ho : eOne x6 = true) (k : ZW X B A nL kc ks Q ζ nx (x0 :: x1 :: x2 :: x3 :: x4 :: x5 :: x6 :: some (zi x) :: q) st) : ZW X B A nL kc ks Q ζ pc (x0 :: x1 :: x2 :: x3 :: x4 :: x5 :: x6 :: x7 :: q) (zi x :: st) := ww_ist7 C d hi ho k
theorem zw_iinc7 {x0 x1 x2 x3 x4 x5 x6 : Option Value} {q : List (Option Value)} {n : Int} {x : Int} (C : CX X B A R own cc nL kc ks) (d : decode cc pc = .ok (.iinc 7 n, 3)) (hn : pc + 3 = nx) (hi : 7 < nL) (ho : eOne x6 = true) (k : ZW X B A nL kc ks Q ζ nx (x0 :: x1 :: x2 :: x3 :: x4 :: x5 :: x6 :: some (zi (x + n)) :: q) st) : ZW X B A nL kc ks Q ζ pc (x0 :: x1 :: x2 :: x3 :: x4 :: x5 :: x6 :: some (zi x) :: q) st := ww_iinc7 C d hn rfl hi ho (by rw [show Int32.ofInt n = iI n from rfl, iI_add]; exact k)
theorem zw_lst7 {x0 x1 x2 x3 x4 x5 x6 x7 y : Option Value} {q : List (Option Value)} {x : Int} (C : CX X B A R own cc nL kc ks) (d : eLst cc pc nx 7) (hi : 7 + 1 < nL) (ho : eOne x6 = true) (k : ZW X B A nL kc ks Q ζ nx (x0 :: x1 :: x2 :: x3 :: x4 :: x5 :: x6 :: some (zl x) :: none :: q) st) : ZW X B A nL kc ks Q ζ pc (x0 :: x1 :: x2 :: x3 :: x4 :: x5 :: x6 :: x7 :: y :: q) (zl x :: st) := ww_lst7 C d hi ho k
theorem zw_ist8 {x0 x1 x2 x3 x4 x5 x6 x7 x8 : Option Value} {q : List (Option Value)} {x : Int} (C : CX X B A R own cc nL kc ks) (d : eIst cc pc nx 8) (hi : 8 < nL) (ho : eOne x7 = true) (k : ZW X B A nL kc ks Q ζ nx (x0 :: x1 :: x2 :: x3 :: x4 :: x5 :: x6 :: x7 :: some (zi x) :: q) st) : ZW X B A nL kc ks Q ζ pc (x0 :: x1 :: x2 :: x3 :: x4 :: x5 :: x6 :: x7 :: x8 :: q) (zi x :: st) := ww_ist8 C d hi ho k
theorem zw_iinc8 {x0 x1 x2 x3 x4 x5 x6 x7 : Option Value} {q : List (Option Value)} {n : Int} {x : Int} (C : CX X B A R own cc nL kc ks) (d : decode cc pc = .ok (.iinc 8 n, 3)) (hn : pc + 3 = nx) (hi : 8 < nL) (ho : eOne x7 = true) (k : ZW X B A nL kc ks Q ζ nx (x0 :: x1 :: x2 :: x3 :: x4 :: x5 :: x6 :: x7 :: some (zi (x + n)) :: q) st) : ZW X B A nL kc ks Q ζ pc (x0 :: x1 :: x2 :: x3 :: x4 :: x5 :: x6 :: x7 :: some (zi x) :: q) st := ww_iinc8 C d hn rfl hi ho (by rw [show Int32.ofInt n = iI n from rfl, iI_add]; exact k)
theorem zw_lst8 {x0 x1 x2 x3 x4 x5 x6 x7 x8 y : Option Value} {q : List (Option Value)} {x : Int} (C : CX X B A R own cc nL kc ks) (d : eLst cc pc nx 8) (hi : 8 + 1 < nL) (ho : eOne x7 = true) (k : ZW X B A nL kc ks Q ζ nx (x0 :: x1 :: x2 :: x3 :: x4 :: x5 :: x6 :: x7 :: some (zl x) :: none :: q) st) : ZW X B A nL kc ks Q ζ pc (x0 :: x1 :: x2 :: x3 :: x4 :: x5 :: x6 :: x7 :: x8 :: y :: q) (zl x :: st) := ww_lst8 C d hi ho k
theorem zw_ist9 {x0 x1 x2 x3 x4 x5 x6 x7 x8 x9 : Option Value} {q : List (Option Value)} {x : Int} (C : CX X B A R own cc nL kc ks) (d : eIst cc pc nx 9) (hi : 9 < nL) (ho : eOne x8 = true) (k : ZW X B A nL kc ks Q ζ nx (x0 :: x1 :: x2 :: x3 :: x4 :: x5 :: x6 :: x7 :: x8 :: some (zi x) :: q) st) : ZW X B A nL kc ks Q ζ pc (x0 :: x1 :: x2 :: x3 :: x4 :: x5 :: x6 :: x7 :: x8 :: x9 :: q) (zi x :: st) := ww_ist9 C d hi ho k
theorem zw_iinc9 {x0 x1 x2 x3 x4 x5 x6 x7 x8 : Option Value} {q : List (Option Value)} {n : Int} {x : Int} (C : CX X B A R own cc nL kc ks) (d : decode cc pc = .ok (.iinc 9 n, 3)) (hn : pc + 3 = nx) (hi : 9 < nL) (ho : eOne x8 = true) (k : ZW X B A nL kc ks Q ζ nx (x0 :: x1 :: x2 :: x3 :: x4 :: x5 :: x6 :: x7 :: x8 :: some (zi (x + n)) :: q) st) : ZW X B A nL kc ks Q ζ pc (x0 :: x1 :: x2 :: x3 :: x4 :: x5 :: x6 :: x7 :: x8 :: some (zi x) :: q) st := ww_iinc9 C d hn rfl hi ho (by rw [show Int32.ofInt n = iI n from rfl, iI_add]; exact k)
theorem zw_lst9 {x0 x1 x2 x3 x4 x5 x6 x7 x8 x9 y : Option Value} {q : List (Option Value)} {x : Int} (C : CX X B A R own cc nL kc ks) (d : eLst cc pc nx 9) (hi : 9 + 1 < nL) (ho : eOne x8 = true) (k : ZW X B A nL kc ks Q ζ nx (x0 :: x1 :: x2 :: x3 :: x4 :: x5 :: x6 :: x7 :: x8 :: some (zl x) :: none :: q) st) : ZW X B A nL kc ks Q ζ pc (x0 :: x1 :: x2 :: x3 :: x4 :: x5 :: x6 :: x7 :: x8 :: x9 :: y :: q) (zl x :: st) := ww_lst9 C d hi ho k
theorem zw_ist10 {x0 x1 x2 x3 x4 x5 x6 x7 x8 x9 x10 : Option Value} {q : List (Option Value)} {x : Int} (C : CX X B A R own cc nL kc ks) (d : eIst cc pc nx 10) (hi : 10 < nL) (ho : eOne x9 = true) (k : ZW X B A nL kc ks Q ζ nx (x0 :: x1 :: x2 :: x3 :: x4 :: x5 :: x6 :: x7 :: x8 :: x9 :: some (zi x) :: q) st) : ZW X B A nL kc ks Q ζ pc (x0 :: x1 :: x2 :: x3 :: x4 :: x5 :: x6 :: x7 :: x8 :: x9 :: x10 :: q) (zi x :: st) := ww_ist10 C d hi ho k
theorem zw_iinc10 {x0 x1 x2 x3 x4 x5 x6 x7 x8 x9 : Option Value} {q : List (Option Value)} {n : Int} {x : Int} (C : CX X B A R own cc nL kc ks) (d : decode cc pc = .ok (.iinc 10 n, 3)) (hn : pc + 3 = nx) (hi : 10 < nL) (ho : eOne x9 = true) (k : ZW X B A nL kc ks Q ζ nx (x0 :: x1 :: x2 :: x3 :: x4 :: x5 :: x6 :: x7 :: x8 :: x9 :: some (zi (x + n)) :: q) st) : ZW X B A nL kc ks Q ζ pc (x0 :: x1 :: x2 :: x3 :: x4 :: x5 :: x6 :: x7 :: x8 :: x9 :: some (zi x) :: q) st := ww_iinc10 C d hn rfl hi ho (by rw [show Int32.ofInt n = iI n from rfl, iI_add]; exact k)
theorem zw_lst10 {x0 x1 x2 x3 x4 x5 x6 x7 x8 x9 x10 y : Option Value} {q : List (Option Value)} {x : Int} (C : CX X B A R own cc nL kc ks) (d : eLst cc pc nx 10) (hi : 10 + 1 < nL) (ho : eOne x9 = true) (k : ZW X B A nL kc ks Q ζ nx (x0 :: x1 :: x2 :: x3 :: x4 :: x5 :: x6 :: x7 :: x8 :: x9 :: some (zl x) :: none :: q) st) : ZW X B A nL kc ks Q ζ pc (x0 :: x1 :: x2 :: x3 :: x4 :: x5 :: x6 :: x7 :: x8 :: x9 :: x10 :: y :: q) (zl x :: st) := ww_lst10 C d hi ho k
theorem zw_ist11 {x0 x1 x2 x3 x4 x5 x6 x7 x8 x9 x10 x11 : Option Value} {q : List (Option Value)} {x : Int} (C : CX X B A R own cc nL kc ks) (d : eIst cc pc nx 11) (hi : 11 < nL) (ho : eOne x10 = true) (k : ZW X B A nL kc ks Q ζ nx (x0 :: x1 :: x2 :: x3 :: x4 :: x5 :: x6 :: x7 :: x8 :: x9 :: x10 :: some (zi x) :: q) st) : ZW X B A nL kc ks Q ζ pc (x0 :: x1 :: x2 :: x3 :: x4 :: x5 :: x6 :: x7 :: x8 :: x9 :: x10 :: x11 :: q) (zi x :: st) := ww_ist11 C d hi ho k
theorem zw_iinc11 {x0 x1 x2 x3 x4 x5 x6 x7 x8 x9 x10 : Option Value} {q : List (Option Value)} {n : Int} {x : Int} (C : CX X B A R own cc nL kc ks) (d : decode cc pc = .ok (.iinc 11 n, 3)) (hn : pc + 3 = nx) (hi : 11 < nL) (ho : eOne x10 = true) (k : ZW X B A nL kc ks Q ζ nx (x0 :: x1 :: x2 :: x3 :: x4 :: x5 :: x6 :: x7 :: x8 :: x9 :: x10 :: some (zi (x + n)) :: q) st) : ZW X B A nL kc ks Q ζ pc (x0 :: x1 :: x2 :: x3 :: x4 :: x5 :: x6 :: x7 :: x8 :: x9 :: x10 :: some (zi x) :: q) st := ww_iinc11 C d hn rfl hi ho (by rw [show Int32.ofInt n = iI n from rfl, iI_add]; exact k)
theorem zw_lst11 {x0 x1 x2 x3 x4 x5 x6 x7 x8 x9 x10 x11 y : Option Value} {q : List (Option Value)} {x : Int} (C : CX X B A R own cc nL kc ks) (d : eLst cc pc nx 11) (hi : 11 + 1 < nL) (ho : eOne x10 = true) (k : ZW X B A nL kc ks Q ζ nx (x0 :: x1 :: x2 :: x3 :: x4 :: x5 :: x6 :: x7 :: x8 :: x9 :: x10 :: some (zl x) :: none :: q) st) : ZW X B A nL kc ks Q ζ pc (x0 :: x1 :: x2 :: x3 :: x4 :: x5 :: x6 :: x7 :: x8 :: x9 :: x10 :: x11 :: y :: q) (zl x :: st) := ww_lst11 C d hi ho k
theorem zw_ist12 {x0 x1 x2 x3 x4 x5 x6 x7 x8 x9 x10 x11 x12 : Option Value} {q : List (Option Value)} {x : Int} (C : CX X B A R own cc nL kc ks) (d : eIst cc pc nx 12) (hi : 12 < nL) (ho : eOne x11 = true) (k : ZW X B A nL kc ks Q ζ nx (x0 :: x1 :: x2 :: x3 :: x4 :: x5 :: x6 :: x7 :: x8 :: x9 :: x10 :: x11 :: some (zi x) :: q) st) : ZW X B A nL kc ks Q ζ pc (x0 :: x1 :: x2 :: x3 :: x4 :: x5 :: x6 :: x7 :: x8 :: x9 :: x10 :: x11 :: x12 :: q) (zi x :: st) := ww_ist12 C d hi ho k
theorem zw_iinc12 {x0 x1 x2 x3 x4 x5 x6 x7 x8 x9 x10 x11 : Option Value} {q : List (Option Value)} {n : Int} {x : Int} (C : CX X B A R own cc nL kc ks) (d : decode cc pc = .ok (.iinc 12 n, 3)) (hn : pc + 3 = nx) (hi : 12 < nL) (ho : eOne x11 = true) (k : ZW X B A nL kc ks Q ζ nx (x0 :: x1 :: x2 :: x3 :: x4 :: x5 :: x6 :: x7 :: x8 :: x9 :: x10 :: x11 :: some (zi (x + n)) :: q) st) : ZW X B A nL kc ks Q ζ pc (x0 :: x1 :: x2 :: x3 :: x4 :: x5 :: x6 :: x7 :: x8 :: x9 :: x10 :: x11 :: some (zi x) :: q) st := ww_iinc12 C d hn rfl hi ho (by rw [show Int32.ofInt n = iI n from rfl, iI_add]; exact k)
theorem zw_lst12 {x0 x1 x2 x3 x4 x5 x6 x7 x8 x9 x10 x11 x12 y : Option Value} {q : List (Option Value)} {x : Int} (C : CX X B A R own cc nL kc ks) (d : eLst cc pc nx 12) (hi : 12 + 1 < nL) (ho : eOne x11 = true) (k : ZW X B A nL kc ks Q ζ nx (x0 :: x1 :: x2 :: x3 :: x4 :: x5 :: x6 :: x7 :: x8 :: x9 :: x10 :: x11 :: some (zl x) :: none :: q) st) : ZW X B A nL kc ks Q ζ pc (x0 :: x1 :: x2 :: x3 :: x4 :: x5 :: x6 :: x7 :: x8 :: x9 :: x10 :: x11 :: x12 :: y :: q) (zl x :: st) := ww_lst12 C d hi ho k
theorem zw_geti {idx ci j k0 N : Nat} {fd : Nat → Nat × Nat} (C : CX X B A R own cc nL kc ks) (d : decode cc pc = .ok (.getfield idx, 3)) (hn : pc + 3 = nx) (f : eFl own idx ci j) (hq : ∀ q : vw_C, vwCl[ci]? = some q → (∀ w ∈ u_ws q.1 q.2.1 q.2.2, w ∈ eTb)) (hk : Nat.blt k0 eN = true) (hs : eSh k0 = .inr (ci, N, fd)) (hj : Nat.blt j N = true) (hf : (fd j).1 = 0) (k : ZW X B A nL kc ks Q ζ nx ls (zi (ζ.1 k0 j) :: st)) : ZW X B A nL kc ks Q ζ pc ls (.ref k0 :: st) := ww_geti C d hn f hq hk hs hj hf k
theorem zw_getl {idx ci j k0 N i : Nat} {fd : Nat → Nat × Nat} (C : CX X B A R own cc nL kc ks) (d : decode cc pc = .ok (.getfield idx, 3)) (hn : pc + 3 = nx) (f : eFl own idx ci j) (hq : ∀ q : vw_C, vwCl[ci]? = some q → (∀ w ∈ u_ws q.1 q.2.1 q.2.2, w ∈ eTb)) (hk : Nat.blt k0 eN = true) (hs : eSh k0 = .inr (ci, N, fd)) (hj : Nat.blt j N = true) (hf : fd j = (1, i)) (k : ZW X B A nL kc ks Q ζ nx ls (zl (ζ.2 i) :: st)) : ZW X B A nL kc ks Q ζ pc ls (.ref k0 :: st) := ww_getl C d hn f hq hk hs hj hf k
theorem zw_getr {idx ci j k0 N t : Nat} {fd : Nat → Nat × Nat} (C : CX X B A R own cc nL kc ks) (d : decode cc pc = .ok (.getfield idx, 3)) (hn : pc + 3 = nx) (f : eFl own idx ci j) (hq : ∀ q : vw_C, vwCl[ci]? = some q → (∀ w ∈ u_ws q.1 q.2.1 q.2.2, w ∈ eTb)) (hk : Nat.blt k0 eN = true) (hs : eSh k0 = .inr (ci, N, fd)) (hj : Nat.blt j N = true) (hf : fd j = (2, t)) (k : ZW X B A nL kc ks Q ζ nx ls (.ref t :: st)) : ZW X B A nL kc ks Q ζ pc ls (.ref k0 :: st) := ww_getr C d hn f hq hk hs hj hf k
theorem zw_puti {idx ci j k0 N : Nat} {fd : Nat → Nat × Nat} {x : Int} {ty : Nat → FieldType} (C : CX X B A R own cc nL kc ks) (d : decode cc pc = .ok (.putfield idx, 3)) (hn : pc + 3 = nx) (f : eFl own idx ci j) (hc : eCl ci ty) (hw : ∀ q : vw_C, vwCl[ci]? = some q → (q.2.1 j).2.2.2 = false) (hk : Nat.blt k0 eN = true) (hs : eSh k0 = .inr (ci, N, fd)) (hj : Nat.blt j N = true) (hf : (fd j).1 = 0) (ht : ty j = .int) (k : ZW X B A nL kc ks Q (zU ζ k0 j x) nx ls st) : ZW X B A nL kc ks Q ζ pc ls (zi x :: .ref k0 :: st) := ww_puti C d hn f hc hw hk hs hj hf ht (by rw [zz_U]; exact k)
theorem zw_putl {idx ci j k0 N i : Nat} {fd : Nat → Nat × Nat} {x : Int} {ty : Nat → FieldType} (C : CX X B A R own cc nL kc ks) (d : decode cc pc = .ok (.putfield idx, 3)) (hn : pc + 3 = nx) (f : eFl own idx ci j) (hc : eCl ci ty) (hw : ∀ q : vw_C, vwCl[ci]? = some q → (q.2.1 j).2.2.2 = false) (hk : Nat.blt k0 eN = true) (hs : eSh k0 = .inr (ci, N, fd)) (hj : Nat.blt j N = true) (hf : fd j = (1, i)) (hu : ∀ j', (fd j').1 = 1 → (fd j').2 = i → j' = j) (hv : ∀ k' ci' N' fd', eSh k' = .inr (ci', N', fd') → ∀ j', j' < N' → (fd' j').1 = 1 → k' = k0) (ht : ty j = .long) (k : ZW X B A nL kc ks Q (zL ζ i x) nx ls st) : ZW X B A nL kc ks Q ζ pc ls (zl x :: .ref k0 :: st) := ww_putl C d hn f hc hw hk hs hj hf hu hv ht (by rw [zz_L]; exact k)
theorem zw_iald {k0 n : Nat} {g : Nat → Nat} {z : Int} (i : Nat) (C : CX X B A R own cc nL kc ks) (d : decode cc pc = .ok (.iaload, 1)) (hn : pc + 1 = nx) (hk : Nat.blt k0 eN = true) (hs : eSh k0 = .inl (1, n, g)) (hb : Nat.ble n 2147483647 = true) (h : z = i ∧ i < n) (k : ZW X B A nL kc ks Q ζ nx ls (zi (ζ.1 k0 i) :: st)) : ZW X B A nL kc ks Q ζ pc ls (zi z :: .ref k0 :: st) := by
  have hz := iI_in h (Nat.le_of_ble_eq_true hb)
  refine ww_iald C d hn hk hs hz.1 ?_
  rw [hz.2]
  exact k
theorem zw_bald {k0 n : Nat} {g : Nat → Nat} {z : Int} (i : Nat) (C : CX X B A R own cc nL kc ks) (d : decode cc pc = .ok (.baload, 1)) (hn : pc + 1 = nx) (hk : Nat.blt k0 eN = true) (hs : eSh k0 = .inl (0, n, g)) (hb : Nat.ble n 2147483647 = true) (h : z = i ∧ i < n) (k : ZW X B A nL kc ks Q ζ nx ls (zi (ζ.1 k0 i) :: st)) : ZW X B A nL kc ks Q ζ pc ls (zi z :: .ref k0 :: st) := by
  have hz := iI_in h (Nat.le_of_ble_eq_true hb)
  refine ww_bald C d hn hk hs hz.1 ?_
  rw [hz.2]
  exact k
theorem zw_zald {k0 n : Nat} {g : Nat → Nat} {z : Int} (i : Nat) (C : CX X B A R own cc nL kc ks) (d : decode cc pc = .ok (.baload, 1)) (hn : pc + 1 = nx) (hk : Nat.blt k0 eN = true) (hs : eSh k0 = .inl (2, n, g)) (hb : Nat.ble n 2147483647 = true) (h : z = i ∧ i < n) (k : ZW X B A nL kc ks Q ζ nx ls (zi (ζ.1 k0 i) :: st)) : ZW X B A nL kc ks Q ζ pc ls (zi z :: .ref k0 :: st) := by
  have hz := iI_in h (Nat.le_of_ble_eq_true hb)
  refine ww_zald C d hn hk hs hz.1 ?_
  rw [hz.2]
  exact k
theorem zw_aald {k0 n : Nat} {g : Nat → Nat} {z : Int} (i : Nat) (C : CX X B A R own cc nL kc ks) (d : decode cc pc = .ok (.aaload, 1)) (hn : pc + 1 = nx) (hk : Nat.blt k0 eN = true) (hs : eSh k0 = .inl (3, n, g)) (hb : Nat.ble n 2147483647 = true) (h : z = i ∧ i < n) (k : ZW X B A nL kc ks Q ζ nx ls (.ref (g i) :: st)) : ZW X B A nL kc ks Q ζ pc ls (zi z :: .ref k0 :: st) := by
  have hz := iI_in h (Nat.le_of_ble_eq_true hb)
  refine ww_aald C d hn hk hs hz.1 ?_
  rw [hz.2]
  exact k
theorem zw_iast {k0 n : Nat} {g : Nat → Nat} {z x : Int} (i : Nat) (C : CX X B A R own cc nL kc ks) (d : decode cc pc = .ok (.iastore, 1)) (hn : pc + 1 = nx) (hk : Nat.blt k0 eN = true) (hs : eSh k0 = .inl (1, n, g)) (hb : Nat.ble n 2147483647 = true) (h : z = i ∧ i < n) (k : ZW X B A nL kc ks Q (zU ζ k0 i x) nx ls st) : ZW X B A nL kc ks Q ζ pc ls (zi x :: zi z :: .ref k0 :: st) := by
  have hz := iI_in h (Nat.le_of_ble_eq_true hb)
  refine ww_iast C d hn hk hs hz.1 ?_
  rw [hz.2, zz_U]
  exact k
theorem zw_bast {k0 n : Nat} {g : Nat → Nat} {z x : Int} (i : Nat) (C : CX X B A R own cc nL kc ks) (d : decode cc pc = .ok (.bastore, 1)) (hn : pc + 1 = nx) (hk : Nat.blt k0 eN = true) (hs : eSh k0 = .inl (0, n, g)) (hb : Nat.ble n 2147483647 = true) (h : z = i ∧ i < n) (hx : vp_nar .byte (iI x) = iI x) (k : ZW X B A nL kc ks Q (zU ζ k0 i x) nx ls st) : ZW X B A nL kc ks Q ζ pc ls (zi x :: zi z :: .ref k0 :: st) := by
  have hz := iI_in h (Nat.le_of_ble_eq_true hb)
  refine ww_bast C d hn hk hs hz.1 ?_
  rw [hz.2, hx, zz_U]
  exact k
theorem zw_zast {k0 n : Nat} {g : Nat → Nat} {z x : Int} (i : Nat) (C : CX X B A R own cc nL kc ks) (d : decode cc pc = .ok (.bastore, 1)) (hn : pc + 1 = nx) (hk : Nat.blt k0 eN = true) (hs : eSh k0 = .inl (2, n, g)) (hb : Nat.ble n 2147483647 = true) (h : z = i ∧ i < n) (hx : vp_nar .boolean (iI x) = iI x) (k : ZW X B A nL kc ks Q (zU ζ k0 i x) nx ls st) : ZW X B A nL kc ks Q ζ pc ls (zi x :: zi z :: .ref k0 :: st) := by
  have hz := iI_in h (Nat.le_of_ble_eq_true hb)
  refine ww_zast C d hn hk hs hz.1 ?_
  rw [hz.2, hx, zz_U]
  exact k
theorem zw_copy {k0 k1 n0 n1 index : Nat} {g0 g1 : Nat → Nat} {a b c : Int} (sp dp n : Nat) (C : CX X B A R own cc nL kc ks) (d : decode cc pc = .ok (.invokestatic index, 3)) (hn : pc + 3 = nx) (hw : Cond.methodLink own index arraycopyName ∈ eTb) (hw1 : Cond.native arraycopyName ∈ eTb) (hw2 : Cond.static arraycopyName ∈ eTb) (hw3 : Cond.initialized "java/lang/System" ∈ eTb)
    (hk0 : Nat.blt k0 eN = true) (hk1 : Nat.blt k1 eN = true) (hs0 : eSh k0 = .inl (1, n0, g0)) (hs1 : eSh k1 = .inl (1, n1, g1)) (hb0 : Nat.ble n0 2147483647 = true) (hb1 : Nat.ble n1 2147483647 = true) (h : (a = sp ∧ b = dp ∧ c = n) ∧ (sp + n ≤ n0 ∧ dp + n ≤ n1)) (hf : 1 ≤ R.frames) (hl0 : 8 + (nativeFrameWords "java/lang/System" "arraycopy" 5 + 11) ≤ R.locals) (hst : (st.map fun v => v.category).sum ≤ 8)
    (k : ZW X B A nL kc ks Q (zCp ζ k0 k1 sp dp n) nx ls st) : ZW X B A nL kc ks Q ζ pc ls (zi c :: zi b :: .ref k1 :: zi a :: .ref k0 :: st) := by
  obtain ⟨⟨rfl, rfl, rfl⟩, h4, h5⟩ := h
  have hb0 := Nat.le_of_ble_eq_true hb0
  have hb1 := Nat.le_of_ble_eq_true hb1
  refine ww_copy C d hn hw hw1 hw2 hw3 hk0 hk1 hs0 hs1 ?_ ?_ ?_ ?_ ?_ hf hl0 hst ?_
  · rw [iI_n]; exact nI_pos (by omega)
  · rw [iI_n]; exact nI_pos (by omega)
  · rw [iI_n]; exact nI_pos (by omega)
  · rw [iI_n, iI_n, nI_clamp (by omega), nI_clamp (by omega)]; exact h4
  · rw [iI_n, iI_n, nI_clamp (by omega), nI_clamp (by omega)]; exact h5
  · rw [iI_n, iI_n, iI_n, nI_clamp (by omega), nI_clamp (by omega), nI_clamp (by omega), zz_cpy, zz_R]
    exact k
theorem zw_max {index : Nat} {a b : Int} (C : CX X B A R own cc nL kc ks) (d : decode cc pc = .ok (.invokestatic index, 3)) (hn : pc + 3 = nx) (hw : Cond.methodLink own index Lib.Math.max.name ∈ eTb) (hw1 : Cond.static Lib.Math.max.name ∈ eTb) (hw2 : Cond.initialized "java/lang/Math" ∈ eTb) (hw3 : Cond.code Lib.Math.max.name Lib.Math.max.code 2 (some .int) ∈ eTb) (hf : 1 ≤ R.frames) (hl0 : 8 + 13 ≤ R.locals) (hst : (st.map fun v => v.category).sum ≤ 8) (h : (-2147483648 ≤ a ∧ a ≤ 2147483647) ∧ (-2147483648 ≤ b ∧ b ≤ 2147483647))
    (k : ZW X B A nL kc ks Q ζ nx ls (zi (if a < b then b else a) :: st)) : ZW X B A nL kc ks Q ζ pc ls (zi b :: zi a :: st) := by
  refine ww_max C d hn hw hw1 hw2 hw3 hf hl0 hst ?_
  have e : (if iI a < iI b then iI b else iI a) = iI (if a < b then b else a) := by
    by_cases q : a < b
    · rw [if_pos q, if_pos ((iI_lt h).mpr q)]
    · rw [if_neg q, if_neg (fun z => q ((iI_lt h).mp z))]
  rw [e]
  exact k
theorem zw_min {index : Nat} {a b : Int} (C : CX X B A R own cc nL kc ks) (d : decode cc pc = .ok (.invokestatic index, 3)) (hn : pc + 3 = nx) (hw : Cond.methodLink own index Lib.Math.min.name ∈ eTb) (hw1 : Cond.static Lib.Math.min.name ∈ eTb) (hw2 : Cond.initialized "java/lang/Math" ∈ eTb) (hw3 : Cond.code Lib.Math.min.name Lib.Math.min.code 2 (some .int) ∈ eTb) (hf : 1 ≤ R.frames) (hl0 : 8 + 13 ≤ R.locals) (hst : (st.map fun v => v.category).sum ≤ 8) (h : (-2147483648 ≤ a ∧ a ≤ 2147483647) ∧ (-2147483648 ≤ b ∧ b ≤ 2147483647))
    (k : ZW X B A nL kc ks Q ζ nx ls (zi (if b < a then b else a) :: st)) : ZW X B A nL kc ks Q ζ pc ls (zi b :: zi a :: st) := by
  refine ww_min C d hn hw hw1 hw2 hw3 hf hl0 hst ?_
  have e : (if iI b < iI a then iI b else iI a) = iI (if b < a then b else a) := by
    by_cases q : b < a
    · rw [if_pos q, if_pos ((iI_lt ⟨h.2, h.1⟩).mpr q)]
    · rw [if_neg q, if_neg (fun z => q ((iI_lt ⟨h.2, h.1⟩).mp z))]
  rw [e]
  exact k
theorem zw_abs {index : Nat} {a : Int} (C : CX X B A R own cc nL kc ks) (d : decode cc pc = .ok (.invokestatic index, 3)) (hn : pc + 3 = nx) (hw : Cond.methodLink own index Lib.Math.abs.name ∈ eTb) (hw1 : Cond.static Lib.Math.abs.name ∈ eTb) (hw2 : Cond.initialized "java/lang/Math" ∈ eTb) (hw3 : Cond.code Lib.Math.abs.name Lib.Math.abs.code 1 (some .int) ∈ eTb) (hf : 1 ≤ R.frames) (hl0 : 8 + 13 ≤ R.locals) (hst : (st.map fun v => v.category).sum ≤ 8) (h : -2147483647 ≤ a ∧ a ≤ 2147483647)
    (k : ZW X B A nL kc ks Q ζ nx ls (zi (if 0 ≤ a then a else -a) :: st)) : ZW X B A nL kc ks Q ζ pc ls (zi a :: st) := by
  refine ww_abs C d hn hw hw1 hw2 hw3 hf hl0 hst ?_
  have e : (if 0 ≤ iI a then iI a else 0 - iI a) = iI (if 0 ≤ a then a else -a) := by
    have hz : (0 : Int32) ≤ iI a ↔ 0 ≤ a := iI_le (a := 0) (b := a) (by omega)
    by_cases q : 0 ≤ a
    · rw [if_pos q, if_pos (hz.mpr q)]
    · rw [if_neg q, if_neg (fun z => q (hz.mp z)), ← iI_0, iI_sub, Int.zero_sub]
  rw [e]
  exact k

theorem zw_iret {v : Int} (C : CX X B A R own cc nL 0 0) (hA : A = eAA B (xS X).heap.size) (hr : (xMeth X).sig.returnType = some .int) (hk : (xMeth X).locks = false) (d : decode cc pc = .ok (.ireturn, 1)) (e : r = some (zi v)) (e2 : τ = ζ) : ZW X B A nL 0 0 (eFin X B r (zz τ)) ζ pc ls [zi v] := ww_iret C hA hr hk d e (by rw [e2])
theorem zw_lret {v : Int} (C : CX X B A R own cc nL 0 0) (hA : A = eAA B (xS X).heap.size) (hr : (xMeth X).sig.returnType = some .long) (hk : (xMeth X).locks = false) (d : decode cc pc = .ok (.lreturn, 1)) (e : r = some (zl v)) (e2 : τ = ζ) : ZW X B A nL 0 0 (eFin X B r (zz τ)) ζ pc ls [zl v] := ww_lret C hA hr hk d e (by rw [e2])
theorem zw_zret {v : Int} (C : CX X B A R own cc nL 0 0) (hA : A = eAA B (xS X).heap.size) (hr : (xMeth X).sig.returnType = some .boolean) (hk : (xMeth X).locks = false) (d : decode cc pc = .ok (.ireturn, 1)) (hn : narrow .boolean (zi v) = zi v) (e : r = some (zi v)) (e2 : τ = ζ) : ZW X B A nL 0 0 (eFin X B r (zz τ)) ζ pc ls [zi v] := ww_zret C hA hr hk d hn e (by rw [e2])
theorem zw_vret (C : CX X B A R own cc nL 0 0) (hA : A = eAA B (xS X).heap.size) (hr : (xMeth X).sig.returnType = none) (hk : (xMeth X).locks = false) (d : decode cc pc = .ok (.return_, 1)) (e : r = none) (e2 : τ = ζ) : ZW X B A nL 0 0 (eFin X B r (zz τ)) ζ pc ls [] := ww_vret C hA hr hk d e (by rw [e2])
theorem zrun_intro {l : Launch} {M : eM} {av : List Value} (hy : plainName M.1.cls = true) (hc : M.2.2.2.2.cells = 0) (hs : M.2.2.2.2.slots = 0) (hls : eArgs av ++ List.replicate (M.2.2.1 - (eArgs av).length) none = ls) (hlen : (eArgs av).length ≤ M.2.2.1)
    (body : ∀ (X : eX) (A : Nat → Prop), CX X B A M.2.2.2.2 M.1.cls M.2.1 M.2.2.1 0 0 → xLa X = l → A = eAA B (xS X).heap.size → (xMeth X).sig.returnType = M.2.2.2.1 → (xMeth X).locks = false → ZW X B A M.2.2.1 0 0 (eFin X B r (zz τ)) ζ 0 ls []) : zRun l B M av ζ r τ := run_intro hy hc hs hls hlen body

theorem zw_cV01 {v : Value} {M : eM} {idx k0 ci N : Nat} {fd : Nat → Nat × Nat} {q : vw_C} (C : CX X B A R own cc nL kc ks) (d : decode cc pc = .ok (.invokevirtual idx, 3)) (hn : pc + 3 = nx) (w : eCalV own idx 0 M) (hq : vwCl[ci]? = some q) (hq1 : q.1 = M.1.cls) (hR : eRm R M) (hk : Nat.blt k0 eN = true) (hs : eSh k0 = .inr (ci, N, fd)) (hst : (st.map fun v => v.category).sum ≤ 8) (hrun : zRun (xLa X) B M (.ref k0 :: []) ζ (some v) τ) (k : ZW X B A nL kc ks Q τ nx ls (v :: st)) : ZW X B A nL kc ks Q ζ pc ls (.ref k0 :: st) := ww_cV01 C d hn w hq hq1 hR hk hs hst hrun k
theorem zw_cV00 {M : eM} {idx k0 ci N : Nat} {fd : Nat → Nat × Nat} {q : vw_C} (C : CX X B A R own cc nL kc ks) (d : decode cc pc = .ok (.invokevirtual idx, 3)) (hn : pc + 3 = nx) (w : eCalV own idx 0 M) (hq : vwCl[ci]? = some q) (hq1 : q.1 = M.1.cls) (hR : eRm R M) (hk : Nat.blt k0 eN = true) (hs : eSh k0 = .inr (ci, N, fd)) (hst : (st.map fun v => v.category).sum ≤ 8) (hrun : zRun (xLa X) B M (.ref k0 :: []) ζ (none) τ) (k : ZW X B A nL kc ks Q τ nx ls st) : ZW X B A nL kc ks Q ζ pc ls (.ref k0 :: st) := ww_cV00 C d hn w hq hq1 hR hk hs hst hrun k
theorem zw_cV11 {a1 : Value} {v : Value} {M : eM} {idx k0 ci N : Nat} {fd : Nat → Nat × Nat} {q : vw_C} (C : CX X B A R own cc nL kc ks) (d : decode cc pc = .ok (.invokevirtual idx, 3)) (hn : pc + 3 = nx) (w : eCalV own idx 1 M) (hq : vwCl[ci]? = some q) (hq1 : q.1 = M.1.cls) (hR : eRm R M) (hk : Nat.blt k0 eN = true) (hs : eSh k0 = .inr (ci, N, fd)) (hst : (st.map fun v => v.category).sum ≤ 8) (hrun : zRun (xLa X) B M (.ref k0 :: [a1]) ζ (some v) τ) (k : ZW X B A nL kc ks Q τ nx ls (v :: st)) : ZW X B A nL kc ks Q ζ pc ls (a1 :: .ref k0 :: st) := ww_cV11 C d hn w hq hq1 hR hk hs hst hrun k
theorem zw_cS11 {a1 : Value} {v : Value} {M : eM} {idx : Nat} (C : CX X B A R own cc nL kc ks) (d : decode cc pc = .ok (.invokestatic idx, 3)) (hn : pc + 3 = nx) (w : eCalS own idx 1 M) (hR : eRm R M) (hst : (st.map fun v => v.category).sum ≤ 8) (hrun : zRun (xLa X) B M [a1] ζ (some v) τ) (k : ZW X B A nL kc ks Q τ nx ls (v :: st)) : ZW X B A nL kc ks Q ζ pc ls (a1 :: st) := ww_cS11 C d hn w hR hst hrun k
theorem zw_cV10 {a1 : Value} {M : eM} {idx k0 ci N : Nat} {fd : Nat → Nat × Nat} {q : vw_C} (C : CX X B A R own cc nL kc ks) (d : decode cc pc = .ok (.invokevirtual idx, 3)) (hn : pc + 3 = nx) (w : eCalV own idx 1 M) (hq : vwCl[ci]? = some q) (hq1 : q.1 = M.1.cls) (hR : eRm R M) (hk : Nat.blt k0 eN = true) (hs : eSh k0 = .inr (ci, N, fd)) (hst : (st.map fun v => v.category).sum ≤ 8) (hrun : zRun (xLa X) B M (.ref k0 :: [a1]) ζ (none) τ) (k : ZW X B A nL kc ks Q τ nx ls st) : ZW X B A nL kc ks Q ζ pc ls (a1 :: .ref k0 :: st) := ww_cV10 C d hn w hq hq1 hR hk hs hst hrun k
theorem zw_cS10 {a1 : Value} {M : eM} {idx : Nat} (C : CX X B A R own cc nL kc ks) (d : decode cc pc = .ok (.invokestatic idx, 3)) (hn : pc + 3 = nx) (w : eCalS own idx 1 M) (hR : eRm R M) (hst : (st.map fun v => v.category).sum ≤ 8) (hrun : zRun (xLa X) B M [a1] ζ (none) τ) (k : ZW X B A nL kc ks Q τ nx ls st) : ZW X B A nL kc ks Q ζ pc ls (a1 :: st) := ww_cS10 C d hn w hR hst hrun k
theorem zw_cV21 {a1 a2 : Value} {v : Value} {M : eM} {idx k0 ci N : Nat} {fd : Nat → Nat × Nat} {q : vw_C} (C : CX X B A R own cc nL kc ks) (d : decode cc pc = .ok (.invokevirtual idx, 3)) (hn : pc + 3 = nx) (w : eCalV own idx 2 M) (hq : vwCl[ci]? = some q) (hq1 : q.1 = M.1.cls) (hR : eRm R M) (hk : Nat.blt k0 eN = true) (hs : eSh k0 = .inr (ci, N, fd)) (hst : (st.map fun v => v.category).sum ≤ 8) (hrun : zRun (xLa X) B M (.ref k0 :: [a1, a2]) ζ (some v) τ) (k : ZW X B A nL kc ks Q τ nx ls (v :: st)) : ZW X B A nL kc ks Q ζ pc ls (a2 :: a1 :: .ref k0 :: st) := ww_cV21 C d hn w hq hq1 hR hk hs hst hrun k
theorem zw_cS21 {a1 a2 : Value} {v : Value} {M : eM} {idx : Nat} (C : CX X B A R own cc nL kc ks) (d : decode cc pc = .ok (.invokestatic idx, 3)) (hn : pc + 3 = nx) (w : eCalS own idx 2 M) (hR : eRm R M) (hst : (st.map fun v => v.category).sum ≤ 8) (hrun : zRun (xLa X) B M [a1, a2] ζ (some v) τ) (k : ZW X B A nL kc ks Q τ nx ls (v :: st)) : ZW X B A nL kc ks Q ζ pc ls (a2 :: a1 :: st) := ww_cS21 C d hn w hR hst hrun k
theorem zw_cV20 {a1 a2 : Value} {M : eM} {idx k0 ci N : Nat} {fd : Nat → Nat × Nat} {q : vw_C} (C : CX X B A R own cc nL kc ks) (d : decode cc pc = .ok (.invokevirtual idx, 3)) (hn : pc + 3 = nx) (w : eCalV own idx 2 M) (hq : vwCl[ci]? = some q) (hq1 : q.1 = M.1.cls) (hR : eRm R M) (hk : Nat.blt k0 eN = true) (hs : eSh k0 = .inr (ci, N, fd)) (hst : (st.map fun v => v.category).sum ≤ 8) (hrun : zRun (xLa X) B M (.ref k0 :: [a1, a2]) ζ (none) τ) (k : ZW X B A nL kc ks Q τ nx ls st) : ZW X B A nL kc ks Q ζ pc ls (a2 :: a1 :: .ref k0 :: st) := ww_cV20 C d hn w hq hq1 hR hk hs hst hrun k
theorem zw_cS20 {a1 a2 : Value} {M : eM} {idx : Nat} (C : CX X B A R own cc nL kc ks) (d : decode cc pc = .ok (.invokestatic idx, 3)) (hn : pc + 3 = nx) (w : eCalS own idx 2 M) (hR : eRm R M) (hst : (st.map fun v => v.category).sum ≤ 8) (hrun : zRun (xLa X) B M [a1, a2] ζ (none) τ) (k : ZW X B A nL kc ks Q τ nx ls st) : ZW X B A nL kc ks Q ζ pc ls (a2 :: a1 :: st) := ww_cS20 C d hn w hR hst hrun k
theorem zw_cV31 {a1 a2 a3 : Value} {v : Value} {M : eM} {idx k0 ci N : Nat} {fd : Nat → Nat × Nat} {q : vw_C} (C : CX X B A R own cc nL kc ks) (d : decode cc pc = .ok (.invokevirtual idx, 3)) (hn : pc + 3 = nx) (w : eCalV own idx 3 M) (hq : vwCl[ci]? = some q) (hq1 : q.1 = M.1.cls) (hR : eRm R M) (hk : Nat.blt k0 eN = true) (hs : eSh k0 = .inr (ci, N, fd)) (hst : (st.map fun v => v.category).sum ≤ 8) (hrun : zRun (xLa X) B M (.ref k0 :: [a1, a2, a3]) ζ (some v) τ) (k : ZW X B A nL kc ks Q τ nx ls (v :: st)) : ZW X B A nL kc ks Q ζ pc ls (a3 :: a2 :: a1 :: .ref k0 :: st) := ww_cV31 C d hn w hq hq1 hR hk hs hst hrun k
theorem zw_cS31 {a1 a2 a3 : Value} {v : Value} {M : eM} {idx : Nat} (C : CX X B A R own cc nL kc ks) (d : decode cc pc = .ok (.invokestatic idx, 3)) (hn : pc + 3 = nx) (w : eCalS own idx 3 M) (hR : eRm R M) (hst : (st.map fun v => v.category).sum ≤ 8) (hrun : zRun (xLa X) B M [a1, a2, a3] ζ (some v) τ) (k : ZW X B A nL kc ks Q τ nx ls (v :: st)) : ZW X B A nL kc ks Q ζ pc ls (a3 :: a2 :: a1 :: st) := ww_cS31 C d hn w hR hst hrun k
theorem zw_cV30 {a1 a2 a3 : Value} {M : eM} {idx k0 ci N : Nat} {fd : Nat → Nat × Nat} {q : vw_C} (C : CX X B A R own cc nL kc ks) (d : decode cc pc = .ok (.invokevirtual idx, 3)) (hn : pc + 3 = nx) (w : eCalV own idx 3 M) (hq : vwCl[ci]? = some q) (hq1 : q.1 = M.1.cls) (hR : eRm R M) (hk : Nat.blt k0 eN = true) (hs : eSh k0 = .inr (ci, N, fd)) (hst : (st.map fun v => v.category).sum ≤ 8) (hrun : zRun (xLa X) B M (.ref k0 :: [a1, a2, a3]) ζ (none) τ) (k : ZW X B A nL kc ks Q τ nx ls st) : ZW X B A nL kc ks Q ζ pc ls (a3 :: a2 :: a1 :: .ref k0 :: st) := ww_cV30 C d hn w hq hq1 hR hk hs hst hrun k
theorem zw_cS30 {a1 a2 a3 : Value} {M : eM} {idx : Nat} (C : CX X B A R own cc nL kc ks) (d : decode cc pc = .ok (.invokestatic idx, 3)) (hn : pc + 3 = nx) (w : eCalS own idx 3 M) (hR : eRm R M) (hst : (st.map fun v => v.category).sum ≤ 8) (hrun : zRun (xLa X) B M [a1, a2, a3] ζ (none) τ) (k : ZW X B A nL kc ks Q τ nx ls st) : ZW X B A nL kc ks Q ζ pc ls (a3 :: a2 :: a1 :: st) := ww_cS30 C d hn w hR hst hrun k
theorem zw_cV41 {a1 a2 a3 a4 : Value} {v : Value} {M : eM} {idx k0 ci N : Nat} {fd : Nat → Nat × Nat} {q : vw_C} (C : CX X B A R own cc nL kc ks) (d : decode cc pc = .ok (.invokevirtual idx, 3)) (hn : pc + 3 = nx) (w : eCalV own idx 4 M) (hq : vwCl[ci]? = some q) (hq1 : q.1 = M.1.cls) (hR : eRm R M) (hk : Nat.blt k0 eN = true) (hs : eSh k0 = .inr (ci, N, fd)) (hst : (st.map fun v => v.category).sum ≤ 8) (hrun : zRun (xLa X) B M (.ref k0 :: [a1, a2, a3, a4]) ζ (some v) τ) (k : ZW X B A nL kc ks Q τ nx ls (v :: st)) : ZW X B A nL kc ks Q ζ pc ls (a4 :: a3 :: a2 :: a1 :: .ref k0 :: st) := ww_cV41 C d hn w hq hq1 hR hk hs hst hrun k
theorem zw_cS41 {a1 a2 a3 a4 : Value} {v : Value} {M : eM} {idx : Nat} (C : CX X B A R own cc nL kc ks) (d : decode cc pc = .ok (.invokestatic idx, 3)) (hn : pc + 3 = nx) (w : eCalS own idx 4 M) (hR : eRm R M) (hst : (st.map fun v => v.category).sum ≤ 8) (hrun : zRun (xLa X) B M [a1, a2, a3, a4] ζ (some v) τ) (k : ZW X B A nL kc ks Q τ nx ls (v :: st)) : ZW X B A nL kc ks Q ζ pc ls (a4 :: a3 :: a2 :: a1 :: st) := ww_cS41 C d hn w hR hst hrun k
theorem zw_cV40 {a1 a2 a3 a4 : Value} {M : eM} {idx k0 ci N : Nat} {fd : Nat → Nat × Nat} {q : vw_C} (C : CX X B A R own cc nL kc ks) (d : decode cc pc = .ok (.invokevirtual idx, 3)) (hn : pc + 3 = nx) (w : eCalV own idx 4 M) (hq : vwCl[ci]? = some q) (hq1 : q.1 = M.1.cls) (hR : eRm R M) (hk : Nat.blt k0 eN = true) (hs : eSh k0 = .inr (ci, N, fd)) (hst : (st.map fun v => v.category).sum ≤ 8) (hrun : zRun (xLa X) B M (.ref k0 :: [a1, a2, a3, a4]) ζ (none) τ) (k : ZW X B A nL kc ks Q τ nx ls st) : ZW X B A nL kc ks Q ζ pc ls (a4 :: a3 :: a2 :: a1 :: .ref k0 :: st) := ww_cV40 C d hn w hq hq1 hR hk hs hst hrun k
theorem zw_cS40 {a1 a2 a3 a4 : Value} {M : eM} {idx : Nat} (C : CX X B A R own cc nL kc ks) (d : decode cc pc = .ok (.invokestatic idx, 3)) (hn : pc + 3 = nx) (w : eCalS own idx 4 M) (hR : eRm R M) (hst : (st.map fun v => v.category).sum ≤ 8) (hrun : zRun (xLa X) B M [a1, a2, a3, a4] ζ (none) τ) (k : ZW X B A nL kc ks Q τ nx ls st) : ZW X B A nL kc ks Q ζ pc ls (a4 :: a3 :: a2 :: a1 :: st) := ww_cS40 C d hn w hR hst hrun k
theorem zw_cV51 {a1 a2 a3 a4 a5 : Value} {v : Value} {M : eM} {idx k0 ci N : Nat} {fd : Nat → Nat × Nat} {q : vw_C} (C : CX X B A R own cc nL kc ks) (d : decode cc pc = .ok (.invokevirtual idx, 3)) (hn : pc + 3 = nx) (w : eCalV own idx 5 M) (hq : vwCl[ci]? = some q) (hq1 : q.1 = M.1.cls) (hR : eRm R M) (hk : Nat.blt k0 eN = true) (hs : eSh k0 = .inr (ci, N, fd)) (hst : (st.map fun v => v.category).sum ≤ 8) (hrun : zRun (xLa X) B M (.ref k0 :: [a1, a2, a3, a4, a5]) ζ (some v) τ) (k : ZW X B A nL kc ks Q τ nx ls (v :: st)) : ZW X B A nL kc ks Q ζ pc ls (a5 :: a4 :: a3 :: a2 :: a1 :: .ref k0 :: st) := ww_cV51 C d hn w hq hq1 hR hk hs hst hrun k
theorem zw_cS51 {a1 a2 a3 a4 a5 : Value} {v : Value} {M : eM} {idx : Nat} (C : CX X B A R own cc nL kc ks) (d : decode cc pc = .ok (.invokestatic idx, 3)) (hn : pc + 3 = nx) (w : eCalS own idx 5 M) (hR : eRm R M) (hst : (st.map fun v => v.category).sum ≤ 8) (hrun : zRun (xLa X) B M [a1, a2, a3, a4, a5] ζ (some v) τ) (k : ZW X B A nL kc ks Q τ nx ls (v :: st)) : ZW X B A nL kc ks Q ζ pc ls (a5 :: a4 :: a3 :: a2 :: a1 :: st) := ww_cS51 C d hn w hR hst hrun k
theorem zw_cV50 {a1 a2 a3 a4 a5 : Value} {M : eM} {idx k0 ci N : Nat} {fd : Nat → Nat × Nat} {q : vw_C} (C : CX X B A R own cc nL kc ks) (d : decode cc pc = .ok (.invokevirtual idx, 3)) (hn : pc + 3 = nx) (w : eCalV own idx 5 M) (hq : vwCl[ci]? = some q) (hq1 : q.1 = M.1.cls) (hR : eRm R M) (hk : Nat.blt k0 eN = true) (hs : eSh k0 = .inr (ci, N, fd)) (hst : (st.map fun v => v.category).sum ≤ 8) (hrun : zRun (xLa X) B M (.ref k0 :: [a1, a2, a3, a4, a5]) ζ (none) τ) (k : ZW X B A nL kc ks Q τ nx ls st) : ZW X B A nL kc ks Q ζ pc ls (a5 :: a4 :: a3 :: a2 :: a1 :: .ref k0 :: st) := ww_cV50 C d hn w hq hq1 hR hk hs hst hrun k
theorem zw_cS50 {a1 a2 a3 a4 a5 : Value} {M : eM} {idx : Nat} (C : CX X B A R own cc nL kc ks) (d : decode cc pc = .ok (.invokestatic idx, 3)) (hn : pc + 3 = nx) (w : eCalS own idx 5 M) (hR : eRm R M) (hst : (st.map fun v => v.category).sum ≤ 8) (hrun : zRun (xLa X) B M [a1, a2, a3, a4, a5] ζ (none) τ) (k : ZW X B A nL kc ks Q τ nx ls st) : ZW X B A nL kc ks Q ζ pc ls (a5 :: a4 :: a3 :: a2 :: a1 :: st) := ww_cS50 C d hn w hR hst hrun k
theorem zw_cN31 {a1 a2 a3 v : Value} {M : eM} {idx : Nat} {host : String} (C : CX X B A R own cc nL kc ks) (d : decode cc pc = .ok (.invokestatic idx, 3)) (hn : pc + 3 = nx) (w0 : va_Nw (.methodLinkNest own idx M.1 host) (xS X)) (w : eCalN 3 M) (hR : eRm R M) (hst : (st.map fun v => v.category).sum ≤ 8) (hrun : zRun (xLa X) B M [a1, a2, a3] ζ (some v) τ) (k : ZW X B A nL kc ks Q τ nx ls (v :: st)) : ZW X B A nL kc ks Q ζ pc ls (a3 :: a2 :: a1 :: st) := ww_cN31 C d hn w0 w hR hst hrun k
end ZI
end
section
theorem zz_last : True := trivial
end
