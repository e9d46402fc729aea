section
/-- a private method of a class that the tables say can be made, by its rows of tables_1 -/
def lw_okq (q : MethodName × Nat) : Prop := (q.1.cls ≠ "java/lang/invoke/MethodHandle" ∧ q.1.cls ≠ "java/lang/invoke/VarHandle") ∧ Cond.instantiable q.1.cls q.2 ∈ tables_1 ∧ Cond.privateMethod q.1 ∈ tables_1 ∧ Cond.instanceMethod q.1 ∈ tables_1
theorem lw_p0 : lw_okq (⟨"BeatFollower$Scene", "isWindowOver", "(I)Z"⟩, 7) := ⟨⟨by decide +kernel, by decide +kernel⟩, List.mem_of_getElem? (i := 23) (by decide +kernel), List.mem_of_getElem? (i := 433) (by decide +kernel), List.mem_of_getElem? (i := 434) (by decide +kernel)⟩
theorem lw_p1 : lw_okq (⟨"BeatFollower$Scene", "halfWindow", "()I"⟩, 7) := ⟨⟨by decide +kernel, by decide +kernel⟩, List.mem_of_getElem? (i := 23) (by decide +kernel), List.mem_of_getElem? (i := 437) (by decide +kernel), List.mem_of_getElem? (i := 438) (by decide +kernel)⟩
theorem lw_p2 : lw_okq (⟨"BeatFollower$Scene", "holdBlow", "()V"⟩, 7) := ⟨⟨by decide +kernel, by decide +kernel⟩, List.mem_of_getElem? (i := 23) (by decide +kernel), List.mem_of_getElem? (i := 444) (by decide +kernel), List.mem_of_getElem? (i := 445) (by decide +kernel)⟩
theorem lw_p3 : lw_okq (⟨"BeatFollower$Scene", "judge", "(Z)V"⟩, 7) := ⟨⟨by decide +kernel, by decide +kernel⟩, List.mem_of_getElem? (i := 23) (by decide +kernel), List.mem_of_getElem? (i := 448) (by decide +kernel), List.mem_of_getElem? (i := 449) (by decide +kernel)⟩
theorem lw_p4 : lw_okq (⟨"BeatFollower$Scene", "loseLock", "()V"⟩, 7) := ⟨⟨by decide +kernel, by decide +kernel⟩, List.mem_of_getElem? (i := 23) (by decide +kernel), List.mem_of_getElem? (i := 452) (by decide +kernel), List.mem_of_getElem? (i := 453) (by decide +kernel)⟩
theorem lw_p5 : lw_okq (⟨"BeatFollower$Scene", "fallSilent", "()V"⟩, 7) := ⟨⟨by decide +kernel, by decide +kernel⟩, List.mem_of_getElem? (i := 23) (by decide +kernel), List.mem_of_getElem? (i := 456) (by decide +kernel), List.mem_of_getElem? (i := 457) (by decide +kernel)⟩
theorem lw_p6 : lw_okq (⟨"BeatFollower$Scene", "hearBeat", "(I)V"⟩, 7) := ⟨⟨by decide +kernel, by decide +kernel⟩, List.mem_of_getElem? (i := 23) (by decide +kernel), List.mem_of_getElem? (i := 468) (by decide +kernel), List.mem_of_getElem? (i := 469) (by decide +kernel)⟩
theorem lw_p7 : lw_okq (⟨"BeatFollower$Scene", "strikeWithBeat", "(II)V"⟩, 7) := ⟨⟨by decide +kernel, by decide +kernel⟩, List.mem_of_getElem? (i := 23) (by decide +kernel), List.mem_of_getElem? (i := 476) (by decide +kernel), List.mem_of_getElem? (i := 477) (by decide +kernel)⟩
theorem lw_p8 : lw_okq (⟨"BeatFollower$Scene", "passOver", "(II)V"⟩, 7) := ⟨⟨by decide +kernel, by decide +kernel⟩, List.mem_of_getElem? (i := 23) (by decide +kernel), List.mem_of_getElem? (i := 488) (by decide +kernel), List.mem_of_getElem? (i := 489) (by decide +kernel)⟩
theorem lw_p9 : lw_okq (⟨"BeatFollower$Scene", "takeBeat", "(II)V"⟩, 7) := ⟨⟨by decide +kernel, by decide +kernel⟩, List.mem_of_getElem? (i := 23) (by decide +kernel), List.mem_of_getElem? (i := 493) (by decide +kernel), List.mem_of_getElem? (i := 494) (by decide +kernel)⟩
theorem lw_p10 : lw_okq (⟨"BeatFollower$Scene", "nudge", "(I)V"⟩, 7) := ⟨⟨by decide +kernel, by decide +kernel⟩, List.mem_of_getElem? (i := 23) (by decide +kernel), List.mem_of_getElem? (i := 500) (by decide +kernel), List.mem_of_getElem? (i := 501) (by decide +kernel)⟩
theorem lw_p11 : lw_okq (⟨"BeatFollower", "playTrial", "(II)V"⟩, 7) := ⟨⟨by decide +kernel, by decide +kernel⟩, List.mem_of_getElem? (i := 15) (by decide +kernel), List.mem_of_getElem? (i := 576) (by decide +kernel), List.mem_of_getElem? (i := 577) (by decide +kernel)⟩
theorem lw_p12 : lw_okq (⟨"BeatFollower$Reader", "readPart", "(LBeatFollower$Pad;)V"⟩, 7) := ⟨⟨by decide +kernel, by decide +kernel⟩, List.mem_of_getElem? (i := 278) (by decide +kernel), List.mem_of_getElem? (i := 619) (by decide +kernel), List.mem_of_getElem? (i := 620) (by decide +kernel)⟩
theorem lw_p13 : lw_okq (⟨"BeatFollower$Reader", "readBeats", "(LBeatFollower$Pad;)V"⟩, 7) := ⟨⟨by decide +kernel, by decide +kernel⟩, List.mem_of_getElem? (i := 278) (by decide +kernel), List.mem_of_getElem? (i := 627) (by decide +kernel), List.mem_of_getElem? (i := 628) (by decide +kernel)⟩
theorem lw_p14 : lw_okq (⟨"BeatFollower$Reader", "readNumber", "(LBeatFollower$Pad;II)I"⟩, 7) := ⟨⟨by decide +kernel, by decide +kernel⟩, List.mem_of_getElem? (i := 278) (by decide +kernel), List.mem_of_getElem? (i := 631) (by decide +kernel), List.mem_of_getElem? (i := 632) (by decide +kernel)⟩
theorem lw_p15 : lw_okq (⟨"BeatFollower$Reader", "addBeats", "(II)V"⟩, 7) := ⟨⟨by decide +kernel, by decide +kernel⟩, List.mem_of_getElem? (i := 278) (by decide +kernel), List.mem_of_getElem? (i := 640) (by decide +kernel), List.mem_of_getElem? (i := 641) (by decide +kernel)⟩
def lw_privs_1 : List (MethodName × Nat) := [(⟨"BeatFollower$Scene", "isWindowOver", "(I)Z"⟩, 7), (⟨"BeatFollower$Scene", "halfWindow", "()I"⟩, 7), (⟨"BeatFollower$Scene", "holdBlow", "()V"⟩, 7), (⟨"BeatFollower$Scene", "judge", "(Z)V"⟩, 7), (⟨"BeatFollower$Scene", "loseLock", "()V"⟩, 7), (⟨"BeatFollower$Scene", "fallSilent", "()V"⟩, 7), (⟨"BeatFollower$Scene", "hearBeat", "(I)V"⟩, 7), (⟨"BeatFollower$Scene", "strikeWithBeat", "(II)V"⟩, 7), (⟨"BeatFollower$Scene", "passOver", "(II)V"⟩, 7), (⟨"BeatFollower$Scene", "takeBeat", "(II)V"⟩, 7), (⟨"BeatFollower$Scene", "nudge", "(I)V"⟩, 7), (⟨"BeatFollower", "playTrial", "(II)V"⟩, 7), (⟨"BeatFollower$Reader", "readPart", "(LBeatFollower$Pad;)V"⟩, 7), (⟨"BeatFollower$Reader", "readBeats", "(LBeatFollower$Pad;)V"⟩, 7), (⟨"BeatFollower$Reader", "readNumber", "(LBeatFollower$Pad;II)I"⟩, 7), (⟨"BeatFollower$Reader", "addBeats", "(II)V"⟩, 7)]
theorem lw_r1 : ∀ q ∈ lw_privs_1, lw_okq q := List.forall_mem_cons.mpr ⟨lw_p0, List.forall_mem_cons.mpr ⟨lw_p1, List.forall_mem_cons.mpr ⟨lw_p2, List.forall_mem_cons.mpr ⟨lw_p3, List.forall_mem_cons.mpr ⟨lw_p4, List.forall_mem_cons.mpr ⟨lw_p5, List.forall_mem_cons.mpr ⟨lw_p6, List.forall_mem_cons.mpr ⟨lw_p7, List.forall_mem_cons.mpr ⟨lw_p8, List.forall_mem_cons.mpr ⟨lw_p9, List.forall_mem_cons.mpr ⟨lw_p10, List.forall_mem_cons.mpr ⟨lw_p11, List.forall_mem_cons.mpr ⟨lw_p12, List.forall_mem_cons.mpr ⟨lw_p13, List.forall_mem_cons.mpr ⟨lw_p14, List.forall_mem_cons.mpr ⟨lw_p15, fun _ h => absurd h List.not_mem_nil⟩⟩⟩⟩⟩⟩⟩⟩⟩⟩⟩⟩⟩⟩⟩⟩
theorem lw_p16 : lw_okq (⟨"BeatFollower$Reader", "readEvenBeats", "(LBeatFollower$Pad;)V"⟩, 7) := ⟨⟨by decide +kernel, by decide +kernel⟩, List.mem_of_getElem? (i := 278) (by decide +kernel), List.mem_of_getElem? (i := 644) (by decide +kernel), List.mem_of_getElem? (i := 645) (by decide +kernel)⟩
theorem lw_p17 : lw_okq (⟨"BeatFollower$Reader", "readSign", "(LBeatFollower$Pad;C)V"⟩, 7) := ⟨⟨by decide +kernel, by decide +kernel⟩, List.mem_of_getElem? (i := 278) (by decide +kernel), List.mem_of_getElem? (i := 648) (by decide +kernel), List.mem_of_getElem? (i := 649) (by decide +kernel)⟩
theorem lw_p18 : lw_okq (⟨"BeatFollowerModel", "keep", "()V"⟩, 18) := ⟨⟨by decide +kernel, by decide +kernel⟩, List.mem_of_getElem? (i := 679) (by decide +kernel), List.mem_of_getElem? (i := 753) (by decide +kernel), List.mem_of_getElem? (i := 754) (by decide +kernel)⟩
theorem lw_p19 : lw_okq (⟨"BeatFollowerModel", "lastTime", "()I"⟩, 18) := ⟨⟨by decide +kernel, by decide +kernel⟩, List.mem_of_getElem? (i := 679) (by decide +kernel), List.mem_of_getElem? (i := 761) (by decide +kernel), List.mem_of_getElem? (i := 762) (by decide +kernel)⟩
theorem lw_p20 : lw_okq (⟨"BeatFollowerModel", "ofB", "(II)I"⟩, 18) := ⟨⟨by decide +kernel, by decide +kernel⟩, List.mem_of_getElem? (i := 679) (by decide +kernel), List.mem_of_getElem? (i := 765) (by decide +kernel), List.mem_of_getElem? (i := 766) (by decide +kernel)⟩
theorem lw_p21 : lw_okq (⟨"BeatFollowerModel", "nextTrue", "()I"⟩, 18) := ⟨⟨by decide +kernel, by decide +kernel⟩, List.mem_of_getElem? (i := 679) (by decide +kernel), List.mem_of_getElem? (i := 769) (by decide +kernel), List.mem_of_getElem? (i := 770) (by decide +kernel)⟩
theorem lw_p22 : lw_okq (⟨"BeatFollowerModel", "addBeat", "(II)V"⟩, 18) := ⟨⟨by decide +kernel, by decide +kernel⟩, List.mem_of_getElem? (i := 679) (by decide +kernel), List.mem_of_getElem? (i := 774) (by decide +kernel), List.mem_of_getElem? (i := 775) (by decide +kernel)⟩
theorem lw_p23 : lw_okq (⟨"BeatFollowerModel", "layB", "(III)V"⟩, 18) := ⟨⟨by decide +kernel, by decide +kernel⟩, List.mem_of_getElem? (i := 679) (by decide +kernel), List.mem_of_getElem? (i := 778) (by decide +kernel), List.mem_of_getElem? (i := 779) (by decide +kernel)⟩
theorem lw_p24 : lw_okq (⟨"BeatFollowerModel", "become", "(IIIII)V"⟩, 18) := ⟨⟨by decide +kernel, by decide +kernel⟩, List.mem_of_getElem? (i := 679) (by decide +kernel), List.mem_of_getElem? (i := 782) (by decide +kernel), List.mem_of_getElem? (i := 783) (by decide +kernel)⟩
theorem lw_p25 : lw_okq (⟨"BeatFollowerModel", "happenUpTo", "(I)V"⟩, 18) := ⟨⟨by decide +kernel, by decide +kernel⟩, List.mem_of_getElem? (i := 679) (by decide +kernel), List.mem_of_getElem? (i := 795) (by decide +kernel), List.mem_of_getElem? (i := 796) (by decide +kernel)⟩
theorem lw_p26 : lw_okq (⟨"BeatFollowerModel", "holdUpTo", "(I)V"⟩, 18) := ⟨⟨by decide +kernel, by decide +kernel⟩, List.mem_of_getElem? (i := 679) (by decide +kernel), List.mem_of_getElem? (i := 799) (by decide +kernel), List.mem_of_getElem? (i := 800) (by decide +kernel)⟩
theorem lw_p27 : lw_okq (⟨"BeatFollowerModel", "halfWindow", "()I"⟩, 18) := ⟨⟨by decide +kernel, by decide +kernel⟩, List.mem_of_getElem? (i := 679) (by decide +kernel), List.mem_of_getElem? (i := 803) (by decide +kernel), List.mem_of_getElem? (i := 804) (by decide +kernel)⟩
theorem lw_p28 : lw_okq (⟨"BeatFollowerModel", "holdOn", "()V"⟩, 18) := ⟨⟨by decide +kernel, by decide +kernel⟩, List.mem_of_getElem? (i := 679) (by decide +kernel), List.mem_of_getElem? (i := 807) (by decide +kernel), List.mem_of_getElem? (i := 808) (by decide +kernel)⟩
theorem lw_p29 : lw_okq (⟨"BeatFollowerModel", "strike", "(II)I"⟩, 18) := ⟨⟨by decide +kernel, by decide +kernel⟩, List.mem_of_getElem? (i := 679) (by decide +kernel), List.mem_of_getElem? (i := 811) (by decide +kernel), List.mem_of_getElem? (i := 812) (by decide +kernel)⟩
theorem lw_p30 : lw_okq (⟨"BeatFollowerModel", "judge", "(ZZ)V"⟩, 18) := ⟨⟨by decide +kernel, by decide +kernel⟩, List.mem_of_getElem? (i := 679) (by decide +kernel), List.mem_of_getElem? (i := 815) (by decide +kernel), List.mem_of_getElem? (i := 816) (by decide +kernel)⟩
theorem lw_p31 : lw_okq (⟨"BeatFollowerModel", "loseLock", "()V"⟩, 18) := ⟨⟨by decide +kernel, by decide +kernel⟩, List.mem_of_getElem? (i := 679) (by decide +kernel), List.mem_of_getElem? (i := 819) (by decide +kernel), List.mem_of_getElem? (i := 820) (by decide +kernel)⟩
def lw_privs_2 : List (MethodName × Nat) := [(⟨"BeatFollower$Reader", "readEvenBeats", "(LBeatFollower$Pad;)V"⟩, 7), (⟨"BeatFollower$Reader", "readSign", "(LBeatFollower$Pad;C)V"⟩, 7), (⟨"BeatFollowerModel", "keep", "()V"⟩, 18), (⟨"BeatFollowerModel", "lastTime", "()I"⟩, 18), (⟨"BeatFollowerModel", "ofB", "(II)I"⟩, 18), (⟨"BeatFollowerModel", "nextTrue", "()I"⟩, 18), (⟨"BeatFollowerModel", "addBeat", "(II)V"⟩, 18), (⟨"BeatFollowerModel", "layB", "(III)V"⟩, 18), (⟨"BeatFollowerModel", "become", "(IIIII)V"⟩, 18), (⟨"BeatFollowerModel", "happenUpTo", "(I)V"⟩, 18), (⟨"BeatFollowerModel", "holdUpTo", "(I)V"⟩, 18), (⟨"BeatFollowerModel", "halfWindow", "()I"⟩, 18), (⟨"BeatFollowerModel", "holdOn", "()V"⟩, 18), (⟨"BeatFollowerModel", "strike", "(II)I"⟩, 18), (⟨"BeatFollowerModel", "judge", "(ZZ)V"⟩, 18), (⟨"BeatFollowerModel", "loseLock", "()V"⟩, 18)]
theorem lw_r2 : ∀ q ∈ lw_privs_2, lw_okq q := List.forall_mem_cons.mpr ⟨lw_p16, List.forall_mem_cons.mpr ⟨lw_p17, List.forall_mem_cons.mpr ⟨lw_p18, List.forall_mem_cons.mpr ⟨lw_p19, List.forall_mem_cons.mpr ⟨lw_p20, List.forall_mem_cons.mpr ⟨lw_p21, List.forall_mem_cons.mpr ⟨lw_p22, List.forall_mem_cons.mpr ⟨lw_p23, List.forall_mem_cons.mpr ⟨lw_p24, List.forall_mem_cons.mpr ⟨lw_p25, List.forall_mem_cons.mpr ⟨lw_p26, List.forall_mem_cons.mpr ⟨lw_p27, List.forall_mem_cons.mpr ⟨lw_p28, List.forall_mem_cons.mpr ⟨lw_p29, List.forall_mem_cons.mpr ⟨lw_p30, List.forall_mem_cons.mpr ⟨lw_p31, fun _ h => absurd h List.not_mem_nil⟩⟩⟩⟩⟩⟩⟩⟩⟩⟩⟩⟩⟩⟩⟩⟩
theorem lw_p32 : lw_okq (⟨"BeatFollowerModel", "endBlow", "()V"⟩, 18) := ⟨⟨by decide +kernel, by decide +kernel⟩, List.mem_of_getElem? (i := 679) (by decide +kernel), List.mem_of_getElem? (i := 823) (by decide +kernel), List.mem_of_getElem? (i := 824) (by decide +kernel)⟩
theorem lw_p33 : lw_okq (⟨"BeatFollowerModel", "hear", "()V"⟩, 18) := ⟨⟨by decide +kernel, by decide +kernel⟩, List.mem_of_getElem? (i := 679) (by decide +kernel), List.mem_of_getElem? (i := 827) (by decide +kernel), List.mem_of_getElem? (i := 828) (by decide +kernel)⟩
theorem lw_p34 : lw_okq (⟨"BeatFollowerModel", "begin", "(I)V"⟩, 18) := ⟨⟨by decide +kernel, by decide +kernel⟩, List.mem_of_getElem? (i := 679) (by decide +kernel), List.mem_of_getElem? (i := 831) (by decide +kernel), List.mem_of_getElem? (i := 832) (by decide +kernel)⟩
theorem lw_p35 : lw_okq (⟨"BeatFollowerModel", "takeBeat", "(II)V"⟩, 18) := ⟨⟨by decide +kernel, by decide +kernel⟩, List.mem_of_getElem? (i := 679) (by decide +kernel), List.mem_of_getElem? (i := 835) (by decide +kernel), List.mem_of_getElem? (i := 836) (by decide +kernel)⟩
theorem lw_p36 : lw_okq (⟨"BeatFollowerModel", "beginAnew", "()V"⟩, 18) := ⟨⟨by decide +kernel, by decide +kernel⟩, List.mem_of_getElem? (i := 679) (by decide +kernel), List.mem_of_getElem? (i := 849) (by decide +kernel), List.mem_of_getElem? (i := 850) (by decide +kernel)⟩
theorem lw_p37 : lw_okq (⟨"BeatFollowerModel", "layAside", "()V"⟩, 18) := ⟨⟨by decide +kernel, by decide +kernel⟩, List.mem_of_getElem? (i := 679) (by decide +kernel), List.mem_of_getElem? (i := 877) (by decide +kernel), List.mem_of_getElem? (i := 878) (by decide +kernel)⟩
theorem lw_p38 : lw_okq (⟨"BeatFollowerModel", "layBack", "()V"⟩, 18) := ⟨⟨by decide +kernel, by decide +kernel⟩, List.mem_of_getElem? (i := 679) (by decide +kernel), List.mem_of_getElem? (i := 881) (by decide +kernel), List.mem_of_getElem? (i := 882) (by decide +kernel)⟩
theorem lw_p39 : lw_okq (⟨"BeatFollowerModel", "playAll", "(II)V"⟩, 18) := ⟨⟨by decide +kernel, by decide +kernel⟩, List.mem_of_getElem? (i := 679) (by decide +kernel), List.mem_of_getElem? (i := 889) (by decide +kernel), List.mem_of_getElem? (i := 890) (by decide +kernel)⟩
theorem lw_p40 : lw_okq (⟨"BeatFollowerModel", "ended", "(I)I"⟩, 18) := ⟨⟨by decide +kernel, by decide +kernel⟩, List.mem_of_getElem? (i := 679) (by decide +kernel), List.mem_of_getElem? (i := 893) (by decide +kernel), List.mem_of_getElem? (i := 894) (by decide +kernel)⟩
theorem lw_p41 : lw_okq (⟨"BeatFollowerModel", "takePart", "()V"⟩, 18) := ⟨⟨by decide +kernel, by decide +kernel⟩, List.mem_of_getElem? (i := 679) (by decide +kernel), List.mem_of_getElem? (i := 918) (by decide +kernel), List.mem_of_getElem? (i := 919) (by decide +kernel)⟩
theorem lw_p42 : lw_okq (⟨"BeatFollowerModel", "next", "()I"⟩, 18) := ⟨⟨by decide +kernel, by decide +kernel⟩, List.mem_of_getElem? (i := 679) (by decide +kernel), List.mem_of_getElem? (i := 922) (by decide +kernel), List.mem_of_getElem? (i := 923) (by decide +kernel)⟩
theorem lw_p43 : lw_okq (⟨"BeatFollowerModel", "takeBeats", "()V"⟩, 18) := ⟨⟨by decide +kernel, by decide +kernel⟩, List.mem_of_getElem? (i := 679) (by decide +kernel), List.mem_of_getElem? (i := 926) (by decide +kernel), List.mem_of_getElem? (i := 927) (by decide +kernel)⟩
theorem lw_p44 : lw_okq (⟨"BeatFollowerModel", "takeNumber", "(II)V"⟩, 18) := ⟨⟨by decide +kernel, by decide +kernel⟩, List.mem_of_getElem? (i := 679) (by decide +kernel), List.mem_of_getElem? (i := 930) (by decide +kernel), List.mem_of_getElem? (i := 931) (by decide +kernel)⟩
theorem lw_p45 : lw_okq (⟨"BeatFollowerModel", "enterBeat", "(I)V"⟩, 18) := ⟨⟨by decide +kernel, by decide +kernel⟩, List.mem_of_getElem? (i := 679) (by decide +kernel), List.mem_of_getElem? (i := 934) (by decide +kernel), List.mem_of_getElem? (i := 935) (by decide +kernel)⟩
theorem lw_p46 : lw_okq (⟨"BeatFollowerModel", "takeRow", "()V"⟩, 18) := ⟨⟨by decide +kernel, by decide +kernel⟩, List.mem_of_getElem? (i := 679) (by decide +kernel), List.mem_of_getElem? (i := 938) (by decide +kernel), List.mem_of_getElem? (i := 939) (by decide +kernel)⟩
theorem lw_p47 : lw_okq (⟨"BeatFollowerModel", "takeSign", "(I)V"⟩, 18) := ⟨⟨by decide +kernel, by decide +kernel⟩, List.mem_of_getElem? (i := 679) (by decide +kernel), List.mem_of_getElem? (i := 942) (by decide +kernel), List.mem_of_getElem? (i := 943) (by decide +kernel)⟩
def lw_privs_3 : List (MethodName × Nat) := [(⟨"BeatFollowerModel", "endBlow", "()V"⟩, 18), (⟨"BeatFollowerModel", "hear", "()V"⟩, 18), (⟨"BeatFollowerModel", "begin", "(I)V"⟩, 18), (⟨"BeatFollowerModel", "takeBeat", "(II)V"⟩, 18), (⟨"BeatFollowerModel", "beginAnew", "()V"⟩, 18), (⟨"BeatFollowerModel", "layAside", "()V"⟩, 18), (⟨"BeatFollowerModel", "layBack", "()V"⟩, 18), (⟨"BeatFollowerModel", "playAll", "(II)V"⟩, 18), (⟨"BeatFollowerModel", "ended", "(I)I"⟩, 18), (⟨"BeatFollowerModel", "takePart", "()V"⟩, 18), (⟨"BeatFollowerModel", "next", "()I"⟩, 18), (⟨"BeatFollowerModel", "takeBeats", "()V"⟩, 18), (⟨"BeatFollowerModel", "takeNumber", "(II)V"⟩, 18), (⟨"BeatFollowerModel", "enterBeat", "(I)V"⟩, 18), (⟨"BeatFollowerModel", "takeRow", "()V"⟩, 18), (⟨"BeatFollowerModel", "takeSign", "(I)V"⟩, 18)]
theorem lw_r3 : ∀ q ∈ lw_privs_3, lw_okq q := List.forall_mem_cons.mpr ⟨lw_p32, List.forall_mem_cons.mpr ⟨lw_p33, List.forall_mem_cons.mpr ⟨lw_p34, List.forall_mem_cons.mpr ⟨lw_p35, List.forall_mem_cons.mpr ⟨lw_p36, List.forall_mem_cons.mpr ⟨lw_p37, List.forall_mem_cons.mpr ⟨lw_p38, List.forall_mem_cons.mpr ⟨lw_p39, List.forall_mem_cons.mpr ⟨lw_p40, List.forall_mem_cons.mpr ⟨lw_p41, List.forall_mem_cons.mpr ⟨lw_p42, List.forall_mem_cons.mpr ⟨lw_p43, List.forall_mem_cons.mpr ⟨lw_p44, List.forall_mem_cons.mpr ⟨lw_p45, List.forall_mem_cons.mpr ⟨lw_p46, List.forall_mem_cons.mpr ⟨lw_p47, fun _ h => absurd h List.not_mem_nil⟩⟩⟩⟩⟩⟩⟩⟩⟩⟩⟩⟩⟩⟩⟩⟩
theorem lw_p48 : lw_okq (⟨"BeatFollowerModel", "whyNotPlan", "()I"⟩, 18) := ⟨⟨by decide +kernel, by decide +kernel⟩, List.mem_of_getElem? (i := 679) (by decide +kernel), List.mem_of_getElem? (i := 951) (by decide +kernel), List.mem_of_getElem? (i := 952) (by decide +kernel)⟩
def lw_privs_4 : List (MethodName × Nat) := [(⟨"BeatFollowerModel", "whyNotPlan", "()I"⟩, 18)]
theorem lw_r4 : ∀ q ∈ lw_privs_4, lw_okq q := List.forall_mem_cons.mpr ⟨lw_p48, fun _ h => absurd h List.not_mem_nil⟩
def lw_privs : List (MethodName × Nat) := lw_privs_1 ++ (lw_privs_2 ++ (lw_privs_3 ++ (lw_privs_4)))
def lw_tbl : List Cond := k2_sels lw_privs ++ tables_1
theorem lw_privs_ok : ∀ q ∈ lw_privs, lw_okq q := by
  show ∀ q ∈ lw_privs_1 ++ (lw_privs_2 ++ (lw_privs_3 ++ (lw_privs_4))), lw_okq q
  exact List.forall_mem_append.mpr ⟨lw_r1, List.forall_mem_append.mpr ⟨lw_r2, List.forall_mem_append.mpr ⟨lw_r3, lw_r4⟩⟩⟩
end
section
/-! ===== BEGIN words of one list among another's, by their places ===== -/
theorem goodIn_r {big : List Cond} (ws : List Cond) (ps : List Nat) (hp : ws = ps.filterMap (fun i => big[i]?)) (h : ws.all goodWord = true) : GoodIn big ws := by
  intro w hw
  have h1 := List.all_eq_true.mp h w hw
  rw [hp] at hw
  obtain ⟨i, -, hi⟩ := List.mem_filterMap.mp hw
  have hm : w ∈ big := by first | exact List.mem_of_getElem? hi | exact List.getElem?_mem hi
  exact ⟨hm, good_of_word h1⟩
theorem goodIn_app {big a b : List Cond} (ha : GoodIn big a) (hb : GoodIn big b) : GoodIn big (a ++ b) := fun w h => (List.mem_append.mp h).elim (ha w) (hb w)
theorem goodIn_ca {big a b : List Cond} {c : Cond} (ha : GoodIn big (c :: a)) (hb : GoodIn big b) : GoodIn big (c :: (a ++ b)) := fun w h => (List.mem_cons.mp h).elim (fun e => ha w (List.mem_cons.mpr (Or.inl e))) (fun h => (List.mem_append.mp h).elim (fun h => ha w (List.mem_cons.mpr (Or.inr h))) (hb w))
theorem goodIn_sub {big ws : List Cond} (hm : ∀ w ∈ ws, w ∈ big) (h : ws.all goodWord = true) : GoodIn big ws := fun w hw => ⟨hm w hw, good_of_word (List.all_eq_true.mp h w hw)⟩
/-! ===== END ===== -/

/-! ===== BEGIN printed: names, fields, word lists, decode rows ===== -/
def RX0 : String := "BeatFollower$Blows"
def TX0 : u_T := fun k => match k with
  | 0 => ("BeatFollower$Blows", "times", "[I", true)
  | 1 => ("BeatFollower$Blows", "beats", "[I", true)
  | 2 => ("BeatFollower$Blows", "periods", "[I", true)
  | 3 => ("BeatFollower$Blows", "states", "[I", true)
  | _ => ("BeatFollower$Blows", "many", "I", false)
def tyX0 : Nat → FieldType := fun k => match k with
  | 0 => .array .int
  | 1 => .array .int
  | 2 => .array .int
  | 3 => .array .int
  | _ => .int
abbrev wsX00 : List Cond := u_ws RX0 TX0 5
theorem nmX0 : ∀ a, a < 5 → ∀ b, b < 5 → a ≠ b → (TX0 a).2.1 ≠ (TX0 b).2.1 := by decide +kernel
theorem tyX0_ok : ∀ k, k < 5 → parseFieldDescriptor (TX0 k).2.2.1 = some (tyX0 k) := by decide +kernel
abbrev cX0_init : ByteArray := prog_2_method_1_code
def yX0_init : MethodName := ⟨RX0, "<init>", "()V"⟩
abbrev cX0_has : ByteArray := prog_2_method_2_code
def yX0_has : MethodName := ⟨RX0, "has", "(I)Z"⟩
abbrev cX0_rowOf : ByteArray := prog_2_method_3_code
def yX0_rowOf : MethodName := ⟨RX0, "rowOf", "(I)I"⟩
abbrev cX0_append : ByteArray := prog_2_method_4_code
def yX0_append : MethodName := ⟨RX0, "append", "(IIII)V"⟩
abbrev cX0_copyFrom : ByteArray := prog_2_method_5_code
def yX0_copyFrom : MethodName := ⟨RX0, "copyFrom", "(LBeatFollower$Blows;)V"⟩
def RX1 : String := "BeatFollower$Drummer"
def TX1 : u_T := fun k => match k with
  | 0 => ("BeatFollower$Drummer", "state", "I", false)
  | 1 => ("BeatFollower$Drummer", "period", "I", false)
  | 2 => ("BeatFollower$Drummer", "nextBlow", "I", false)
  | 3 => ("BeatFollower$Drummer", "goodInRow", "I", false)
  | 4 => ("BeatFollower$Drummer", "badInRow", "I", false)
  | 5 => ("BeatFollower$Drummer", "heldInRow", "I", false)
  | _ => ("BeatFollower$Drummer", "lead", "I", false)
def tyX1 : Nat → FieldType := fun k => match k with
  | 0 => .int
  | 1 => .int
  | 2 => .int
  | 3 => .int
  | 4 => .int
  | 5 => .int
  | _ => .int
abbrev wsX10 : List Cond := u_ws RX1 TX1 7
theorem nmX1 : ∀ a, a < 7 → ∀ b, b < 7 → a ≠ b → (TX1 a).2.1 ≠ (TX1 b).2.1 := by decide +kernel
theorem tyX1_ok : ∀ k, k < 7 → parseFieldDescriptor (TX1 k).2.2.1 = some (tyX1 k) := by decide +kernel
abbrev cX1_init : ByteArray := prog_3_method_1_code
def yX1_init : MethodName := ⟨RX1, "<init>", "()V"⟩
abbrev cX1_begin : ByteArray := prog_3_method_2_code
def yX1_begin : MethodName := ⟨RX1, "begin", "(I)V"⟩
abbrev cX1_copyFrom : ByteArray := prog_3_method_3_code
def yX1_copyFrom : MethodName := ⟨RX1, "copyFrom", "(LBeatFollower$Drummer;)V"⟩
def RX2 : String := "BeatFollower$Fates"
def TX2 : u_T := fun k => match k with
  | 0 => ("BeatFollower$Fates", "kinds", "[I", true)
  | 1 => ("BeatFollower$Fates", "blows", "[I", true)
  | 2 => ("BeatFollower$Fates", "offs", "[I", true)
  | _ => ("BeatFollower$Fates", "slips", "[I", true)
def tyX2 : Nat → FieldType := fun k => match k with
  | 0 => .array .int
  | 1 => .array .int
  | 2 => .array .int
  | _ => .array .int
abbrev wsX20 : List Cond := u_ws RX2 TX2 4
theorem nmX2 : ∀ a, a < 4 → ∀ b, b < 4 → a ≠ b → (TX2 a).2.1 ≠ (TX2 b).2.1 := by decide +kernel
theorem tyX2_ok : ∀ k, k < 4 → parseFieldDescriptor (TX2 k).2.2.1 = some (tyX2 k) := by decide +kernel
abbrev cX2_init : ByteArray := prog_4_method_1_code
def yX2_init : MethodName := ⟨RX2, "<init>", "()V"⟩
abbrev cX2_hasRow : ByteArray := prog_4_method_2_code
def yX2_hasRow : MethodName := ⟨RX2, "hasRow", "(I)Z"⟩
abbrev cX2_note : ByteArray := prog_4_method_3_code
def yX2_note : MethodName := ⟨RX2, "note", "(IIIII)V"⟩
abbrev cX2_kindOf : ByteArray := prog_4_method_4_code
def yX2_kindOf : MethodName := ⟨RX2, "kindOf", "(I)I"⟩
abbrev cX2_blowOf : ByteArray := prog_4_method_5_code
def yX2_blowOf : MethodName := ⟨RX2, "blowOf", "(I)I"⟩
abbrev cX2_offOf : ByteArray := prog_4_method_6_code
def yX2_offOf : MethodName := ⟨RX2, "offOf", "(I)I"⟩
abbrev cX2_slipOf : ByteArray := prog_4_method_7_code
def yX2_slipOf : MethodName := ⟨RX2, "slipOf", "(I)I"⟩
abbrev cX2_copyFrom : ByteArray := prog_4_method_8_code
def yX2_copyFrom : MethodName := ⟨RX2, "copyFrom", "(LBeatFollower$Fates;)V"⟩
def RX3 : String := "BeatFollower$History"
def TX3 : u_T := fun k => match k with
  | 0 => ("BeatFollower$History", "scenes", "[LBeatFollower$Scene;", true)
  | 1 => ("BeatFollower$History", "next", "I", false)
  | _ => ("BeatFollower$History", "many", "I", false)
def tyX3 : Nat → FieldType := fun k => match k with
  | 0 => .array (.object "BeatFollower$Scene")
  | 1 => .int
  | _ => .int
abbrev wsX30 : List Cond := u_ws RX3 TX3 3
theorem nmX3 : ∀ a, a < 3 → ∀ b, b < 3 → a ≠ b → (TX3 a).2.1 ≠ (TX3 b).2.1 := by decide +kernel
theorem tyX3_ok : ∀ k, k < 3 → parseFieldDescriptor (TX3 k).2.2.1 = some (tyX3 k) := by decide +kernel
abbrev cX3_init : ByteArray := prog_5_method_1_code
def yX3_init : MethodName := ⟨RX3, "<init>", "()V"⟩
abbrev cX3_record : ByteArray := prog_5_method_2_code
def yX3_record : MethodName := ⟨RX3, "record", "(LBeatFollower$Scene;)V"⟩
abbrev cX3_takeBack : ByteArray := prog_5_method_3_code
def yX3_takeBack : MethodName := ⟨RX3, "takeBack", "(LBeatFollower$Scene;)V"⟩
def RX4 : String := "BeatFollower$Pad"
def TX4 : u_T := fun k => match k with
  | 0 => ("BeatFollower$Pad", "signs", "[C", true)
  | _ => ("BeatFollower$Pad", "length", "I", false)
def tyX4 : Nat → FieldType := fun k => match k with
  | 0 => .array .char
  | _ => .int
abbrev wsX40 : List Cond := u_ws RX4 TX4 2
theorem nmX4 : ∀ a, a < 2 → ∀ b, b < 2 → a ≠ b → (TX4 a).2.1 ≠ (TX4 b).2.1 := by decide +kernel
theorem tyX4_ok : ∀ k, k < 2 → parseFieldDescriptor (TX4 k).2.2.1 = some (tyX4 k) := by decide +kernel
abbrev cX4_init : ByteArray := prog_6_method_1_code
def yX4_init : MethodName := ⟨RX4, "<init>", "()V"⟩
abbrev cX4_append : ByteArray := prog_6_method_2_code
def yX4_append : MethodName := ⟨RX4, "append", "(C)V"⟩
abbrev cX4_signAt : ByteArray := prog_6_method_3_code
def yX4_signAt : MethodName := ⟨RX4, "signAt", "(I)I"⟩
abbrev cX4_digitAt : ByteArray := prog_6_method_4_code
def yX4_digitAt : MethodName := ⟨RX4, "digitAt", "(I)I"⟩
def RX5 : String := "BeatFollower$Plan"
def TX5 : u_T := fun k => match k with
  | 0 => ("BeatFollower$Plan", "times", "[I", true)
  | 1 => ("BeatFollower$Plan", "numbers", "[I", true)
  | _ => ("BeatFollower$Plan", "many", "I", false)
def tyX5 : Nat → FieldType := fun k => match k with
  | 0 => .array .int
  | 1 => .array .int
  | _ => .int
abbrev wsX50 : List Cond := u_ws RX5 TX5 3
theorem nmX5 : ∀ a, a < 3 → ∀ b, b < 3 → a ≠ b → (TX5 a).2.1 ≠ (TX5 b).2.1 := by decide +kernel
theorem tyX5_ok : ∀ k, k < 3 → parseFieldDescriptor (TX5 k).2.2.1 = some (tyX5 k) := by decide +kernel
abbrev cX5_init : ByteArray := prog_7_method_1_code
def yX5_init : MethodName := ⟨RX5, "<init>", "()V"⟩
abbrev cX5_has : ByteArray := prog_7_method_2_code
def yX5_has : MethodName := ⟨RX5, "has", "(I)Z"⟩
abbrev cX5_timeOf : ByteArray := prog_7_method_3_code
def yX5_timeOf : MethodName := ⟨RX5, "timeOf", "(I)I"⟩
abbrev cX5_numberOf : ByteArray := prog_7_method_4_code
def yX5_numberOf : MethodName := ⟨RX5, "numberOf", "(I)I"⟩
abbrev cX5_lastTime : ByteArray := prog_7_method_5_code
def yX5_lastTime : MethodName := ⟨RX5, "lastTime", "()I"⟩
abbrev cX5_nextNumber : ByteArray := prog_7_method_6_code
def yX5_nextNumber : MethodName := ⟨RX5, "nextNumber", "()I"⟩
abbrev cX5_canHold : ByteArray := prog_7_method_7_code
def yX5_canHold : MethodName := ⟨RX5, "canHold", "(II)Z"⟩
abbrev cX5_append : ByteArray := prog_7_method_8_code
def yX5_append : MethodName := ⟨RX5, "append", "(II)V"⟩
abbrev cX5_appendAll : ByteArray := prog_7_method_9_code
def yX5_appendAll : MethodName := ⟨RX5, "appendAll", "(LBeatFollower$Reader;)Z"⟩
abbrev cX5_copyFrom : ByteArray := prog_7_method_10_code
def yX5_copyFrom : MethodName := ⟨RX5, "copyFrom", "(LBeatFollower$Plan;)V"⟩
abbrev cX5_copyWithout : ByteArray := prog_7_method_11_code
def yX5_copyWithout : MethodName := ⟨RX5, "copyWithout", "(LBeatFollower$Plan;I)V"⟩
def RX6 : String := "BeatFollower$Reader"
def TX6 : u_T := fun k => match k with
  | 0 => ("BeatFollower$Reader", "gaps", "[I", true)
  | 1 => ("BeatFollower$Reader", "misses", "[I", true)
  | 2 => ("BeatFollower$Reader", "many", "I", false)
  | 3 => ("BeatFollower$Reader", "fault", "I", false)
  | 4 => ("BeatFollower$Reader", "place", "I", false)
  | 5 => ("BeatFollower$Reader", "laid", "I", false)
  | _ => ("BeatFollower$Reader", "missed", "I", false)
def tyX6 : Nat → FieldType := fun k => match k with
  | 0 => .array .int
  | 1 => .array .int
  | 2 => .int
  | 3 => .int
  | 4 => .int
  | 5 => .int
  | _ => .int
abbrev wsX60 : List Cond := u_ws RX6 TX6 7
theorem nmX6 : ∀ a, a < 7 → ∀ b, b < 7 → a ≠ b → (TX6 a).2.1 ≠ (TX6 b).2.1 := by decide +kernel
theorem tyX6_ok : ∀ k, k < 7 → parseFieldDescriptor (TX6 k).2.2.1 = some (tyX6 k) := by decide +kernel
abbrev cX6_init : ByteArray := prog_8_method_1_code
def yX6_init : MethodName := ⟨RX6, "<init>", "()V"⟩
abbrev cX6_read : ByteArray := prog_8_method_2_code
def yX6_read : MethodName := ⟨RX6, "read", "(LBeatFollower$Pad;)V"⟩
abbrev cX6_readPart : ByteArray := prog_8_method_3_code
def yX6_readPart : MethodName := ⟨RX6, "readPart", "(LBeatFollower$Pad;)V"⟩
abbrev cX6_readBeats : ByteArray := prog_8_method_4_code
def yX6_readBeats : MethodName := ⟨RX6, "readBeats", "(LBeatFollower$Pad;)V"⟩
abbrev cX6_readEvenBeats : ByteArray := prog_8_method_5_code
def yX6_readEvenBeats : MethodName := ⟨RX6, "readEvenBeats", "(LBeatFollower$Pad;)V"⟩
abbrev cX6_readSign : ByteArray := prog_8_method_6_code
def yX6_readSign : MethodName := ⟨RX6, "readSign", "(LBeatFollower$Pad;C)V"⟩
abbrev cX6_readNumber : ByteArray := prog_8_method_7_code
def yX6_readNumber : MethodName := ⟨RX6, "readNumber", "(LBeatFollower$Pad;II)I"⟩
abbrev cX6_addBeats : ByteArray := prog_8_method_8_code
def yX6_addBeats : MethodName := ⟨RX6, "addBeats", "(II)V"⟩
def RX7 : String := "BeatFollower$Scene"
def TX7 : u_T := fun k => match k with
  | 0 => ("BeatFollower$Scene", "settings", "[I", true)
  | 1 => ("BeatFollower$Scene", "plan", "LBeatFollower$Plan;", true)
  | 2 => ("BeatFollower$Scene", "fates", "LBeatFollower$Fates;", true)
  | 3 => ("BeatFollower$Scene", "blows", "LBeatFollower$Blows;", true)
  | 4 => ("BeatFollower$Scene", "drummer", "LBeatFollower$Drummer;", true)
  | 5 => ("BeatFollower$Scene", "tally", "LBeatFollower$Tally;", true)
  | _ => ("BeatFollower$Scene", "time", "I", false)
def tyX7 : Nat → FieldType := fun k => match k with
  | 0 => .array .int
  | 1 => .object "BeatFollower$Plan"
  | 2 => .object "BeatFollower$Fates"
  | 3 => .object "BeatFollower$Blows"
  | 4 => .object "BeatFollower$Drummer"
  | 5 => .object "BeatFollower$Tally"
  | _ => .int
abbrev wsX70 : List Cond := u_ws RX7 TX7 7
theorem nmX7 : ∀ a, a < 7 → ∀ b, b < 7 → a ≠ b → (TX7 a).2.1 ≠ (TX7 b).2.1 := by decide +kernel
theorem tyX7_ok : ∀ k, k < 7 → parseFieldDescriptor (TX7 k).2.2.1 = some (tyX7 k) := by decide +kernel
abbrev cX7_init : ByteArray := prog_9_method_1_code
def yX7_init : MethodName := ⟨RX7, "<init>", "()V"⟩
abbrev cX7_begin : ByteArray := prog_9_method_2_code
def yX7_begin : MethodName := ⟨RX7, "begin", "()V"⟩
abbrev cX7_copyFrom : ByteArray := prog_9_method_3_code
def yX7_copyFrom : MethodName := ⟨RX7, "copyFrom", "(LBeatFollower$Scene;)V"⟩
abbrev cX7_firstPeriod : ByteArray := prog_9_method_4_code
def yX7_firstPeriod : MethodName := ⟨RX7, "firstPeriod", "()I"⟩
abbrev cX7_isHeard : ByteArray := prog_9_method_5_code
def yX7_isHeard : MethodName := ⟨RX7, "isHeard", "(I)Z"⟩
abbrev cX7_runTo : ByteArray := prog_9_method_6_code
def yX7_runTo : MethodName := ⟨RX7, "runTo", "(I)V"⟩
abbrev cX7_isWindowOver : ByteArray := prog_9_method_7_code
def yX7_isWindowOver : MethodName := ⟨RX7, "isWindowOver", "(I)Z"⟩
abbrev cX7_halfWindow : ByteArray := prog_9_method_8_code
def yX7_halfWindow : MethodName := ⟨RX7, "halfWindow", "()I"⟩
abbrev cX7_fateAt : ByteArray := prog_9_method_9_code
def yX7_fateAt : MethodName := ⟨RX7, "fateAt", "(I)I"⟩
abbrev cX7_hearBeat : ByteArray := prog_9_method_10_code
def yX7_hearBeat : MethodName := ⟨RX7, "hearBeat", "(I)V"⟩
abbrev cX7_strikeWithBeat : ByteArray := prog_9_method_11_code
def yX7_strikeWithBeat : MethodName := ⟨RX7, "strikeWithBeat", "(II)V"⟩
abbrev cX7_passOver : ByteArray := prog_9_method_12_code
def yX7_passOver : MethodName := ⟨RX7, "passOver", "(II)V"⟩
abbrev cX7_takeBeat : ByteArray := prog_9_method_13_code
def yX7_takeBeat : MethodName := ⟨RX7, "takeBeat", "(II)V"⟩
abbrev cX7_nudge : ByteArray := prog_9_method_14_code
def yX7_nudge : MethodName := ⟨RX7, "nudge", "(I)V"⟩
abbrev cX7_holdBlow : ByteArray := prog_9_method_15_code
def yX7_holdBlow : MethodName := ⟨RX7, "holdBlow", "()V"⟩
abbrev cX7_judge : ByteArray := prog_9_method_16_code
def yX7_judge : MethodName := ⟨RX7, "judge", "(Z)V"⟩
abbrev cX7_loseLock : ByteArray := prog_9_method_17_code
def yX7_loseLock : MethodName := ⟨RX7, "loseLock", "()V"⟩
abbrev cX7_fallSilent : ByteArray := prog_9_method_18_code
def yX7_fallSilent : MethodName := ⟨RX7, "fallSilent", "()V"⟩
def RX8 : String := "BeatFollower$Tally"
def TX8 : u_T := fun k => match k with
  | 0 => ("BeatFollower$Tally", "heard", "I", false)
  | 1 => ("BeatFollower$Tally", "passedOver", "I", false)
  | 2 => ("BeatFollower$Tally", "held", "I", false)
  | 3 => ("BeatFollower$Tally", "locksWon", "I", false)
  | 4 => ("BeatFollower$Tally", "locksLost", "I", false)
  | 5 => ("BeatFollower$Tally", "silences", "I", false)
  | 6 => ("BeatFollower$Tally", "slipsTold", "I", false)
  | 7 => ("BeatFollower$Tally", "slipSum", "I", false)
  | 8 => ("BeatFollower$Tally", "offSum", "I", false)
  | _ => ("BeatFollower$Tally", "heardLocked", "I", false)
def tyX8 : Nat → FieldType := fun k => match k with
  | 0 => .int
  | 1 => .int
  | 2 => .int
  | 3 => .int
  | 4 => .int
  | 5 => .int
  | 6 => .int
  | 7 => .int
  | 8 => .int
  | _ => .int
abbrev wsX80 : List Cond := u_ws RX8 TX8 10
theorem nmX8 : ∀ a, a < 10 → ∀ b, b < 10 → a ≠ b → (TX8 a).2.1 ≠ (TX8 b).2.1 := by decide +kernel
theorem tyX8_ok : ∀ k, k < 10 → parseFieldDescriptor (TX8 k).2.2.1 = some (tyX8 k) := by decide +kernel
abbrev cX8_init : ByteArray := prog_10_method_1_code
def yX8_init : MethodName := ⟨RX8, "<init>", "()V"⟩
abbrev cX8_addSlip : ByteArray := prog_10_method_2_code
def yX8_addSlip : MethodName := ⟨RX8, "addSlip", "(I)V"⟩
abbrev cX8_clear : ByteArray := prog_10_method_3_code
def yX8_clear : MethodName := ⟨RX8, "clear", "()V"⟩
abbrev cX8_copyFrom : ByteArray := prog_10_method_4_code
def yX8_copyFrom : MethodName := ⟨RX8, "copyFrom", "(LBeatFollower$Tally;)V"⟩
def RX9 : String := "BeatFollower"
def TX9 : u_T := fun k => match k with
  | 0 => ("BeatFollower", "scene", "LBeatFollower$Scene;", true)
  | 1 => ("BeatFollower", "trial", "LBeatFollower$Scene;", true)
  | 2 => ("BeatFollower", "history", "LBeatFollower$History;", true)
  | 3 => ("BeatFollower", "slots", "[LBeatFollower$Scene;", true)
  | 4 => ("BeatFollower", "saved", "[Z", true)
  | 5 => ("BeatFollower", "pad", "LBeatFollower$Pad;", true)
  | _ => ("BeatFollower", "reader", "LBeatFollower$Reader;", true)
def tyX9 : Nat → FieldType := fun k => match k with
  | 0 => .object "BeatFollower$Scene"
  | 1 => .object "BeatFollower$Scene"
  | 2 => .object "BeatFollower$History"
  | 3 => .array (.object "BeatFollower$Scene")
  | 4 => .array .boolean
  | 5 => .object "BeatFollower$Pad"
  | _ => .object "BeatFollower$Reader"
abbrev wsX90 : List Cond := u_ws RX9 TX9 7
theorem nmX9 : ∀ a, a < 7 → ∀ b, b < 7 → a ≠ b → (TX9 a).2.1 ≠ (TX9 b).2.1 := by decide +kernel
theorem tyX9_ok : ∀ k, k < 7 → parseFieldDescriptor (TX9 k).2.2.1 = some (tyX9 k) := by decide +kernel
abbrev cX9_init : ByteArray := prog_1_method_1_code
def yX9_init : MethodName := ⟨RX9, "<init>", "()V"⟩
abbrev cX9_set : ByteArray := prog_1_method_2_code
def yX9_set : MethodName := ⟨RX9, "set", "(II)I"⟩
abbrev cX9_beat : ByteArray := prog_1_method_3_code
def yX9_beat : MethodName := ⟨RX9, "beat", "(II)I"⟩
abbrev cX9_cut : ByteArray := prog_1_method_4_code
def yX9_cut : MethodName := ⟨RX9, "cut", "(I)I"⟩
abbrev cX9_pass : ByteArray := prog_1_method_5_code
def yX9_pass : MethodName := ⟨RX9, "pass", "(I)I"⟩
abbrev cX9_anew : ByteArray := prog_1_method_6_code
def yX9_anew : MethodName := ⟨RX9, "anew", "()I"⟩
abbrev cX9_ofBeat : ByteArray := prog_1_method_7_code
def yX9_ofBeat : MethodName := ⟨RX9, "ofBeat", "(II)I"⟩
abbrev cX9_ofBlow : ByteArray := prog_1_method_8_code
def yX9_ofBlow : MethodName := ⟨RX9, "ofBlow", "(II)I"⟩
abbrev cX9_count : ByteArray := prog_1_method_9_code
def yX9_count : MethodName := ⟨RX9, "count", "(I)I"⟩
abbrev cX9_slips : ByteArray := prog_1_method_10_code
def yX9_slips : MethodName := ⟨RX9, "slips", "()I"⟩
abbrev cX9_nextBlow : ByteArray := prog_1_method_11_code
def yX9_nextBlow : MethodName := ⟨RX9, "nextBlow", "(I)I"⟩
abbrev cX9_ifHeard : ByteArray := prog_1_method_12_code
def yX9_ifHeard : MethodName := ⟨RX9, "ifHeard", "(I)I"⟩
abbrev cX9_endWith : ByteArray := prog_1_method_13_code
def yX9_endWith : MethodName := ⟨RX9, "endWith", "(III)I"⟩
abbrev cX9_bestNudge : ByteArray := prog_1_method_14_code
def yX9_bestNudge : MethodName := ⟨RX9, "bestNudge", "(I)I"⟩
abbrev cX9_worstBeat : ByteArray := prog_1_method_15_code
def yX9_worstBeat : MethodName := ⟨RX9, "worstBeat", "(I)I"⟩
abbrev cX9_put : ByteArray := prog_1_method_16_code
def yX9_put : MethodName := ⟨RX9, "put", "(J)I"⟩
abbrev cX9_wipe : ByteArray := prog_1_method_17_code
def yX9_wipe : MethodName := ⟨RX9, "wipe", "()I"⟩
abbrev cX9_fault : ByteArray := prog_1_method_18_code
def yX9_fault : MethodName := ⟨RX9, "fault", "()I"⟩
abbrev cX9_plan : ByteArray := prog_1_method_19_code
def yX9_plan : MethodName := ⟨RX9, "plan", "()I"⟩
abbrev cX9_undo : ByteArray := prog_1_method_20_code
def yX9_undo : MethodName := ⟨RX9, "undo", "()I"⟩
abbrev cX9_save : ByteArray := prog_1_method_21_code
def yX9_save : MethodName := ⟨RX9, "save", "(I)I"⟩
abbrev cX9_restore : ByteArray := prog_1_method_22_code
def yX9_restore : MethodName := ⟨RX9, "restore", "(I)I"⟩
abbrev cX9_isIn : ByteArray := prog_1_method_23_code
def yX9_isIn : MethodName := ⟨RX9, "isIn", "(III)Z"⟩
abbrev cX9_isSetting : ByteArray := prog_1_method_24_code
def yX9_isSetting : MethodName := ⟨RX9, "isSetting", "(I)Z"⟩
abbrev cX9_charactersIn : ByteArray := prog_1_method_25_code
def yX9_charactersIn : MethodName := ⟨RX9, "charactersIn", "(J)I"⟩
abbrev cX9_playTrial : ByteArray := prog_1_method_26_code
def yX9_playTrial : MethodName := ⟨RX9, "playTrial", "(II)V"⟩
def RX10 : String := "BeatFollowerModel"
def TX10 : u_T := fun k => match k with
  | 0 => ("BeatFollowerModel", "at", "[I", true)
  | 1 => ("BeatFollowerModel", "past", "[I", true)
  | 2 => ("BeatFollowerModel", "pastFirst", "I", false)
  | 3 => ("BeatFollowerModel", "pastMany", "I", false)
  | 4 => ("BeatFollowerModel", "slots", "[I", true)
  | 5 => ("BeatFollowerModel", "isSaved", "[Z", true)
  | 6 => ("BeatFollowerModel", "aside", "[I", true)
  | 7 => ("BeatFollowerModel", "leftOut", "I", false)
  | 8 => ("BeatFollowerModel", "pad", "[I", true)
  | 9 => ("BeatFollowerModel", "padMany", "I", false)
  | 10 => ("BeatFollowerModel", "spot", "I", false)
  | 11 => ("BeatFollowerModel", "isWrong", "Z", false)
  | 12 => ("BeatFollowerModel", "taken", "I", false)
  | 13 => ("BeatFollowerModel", "beats", "I", false)
  | 14 => ("BeatFollowerModel", "laid", "I", false)
  | 15 => ("BeatFollowerModel", "missed", "I", false)
  | 16 => ("BeatFollowerModel", "afters", "[I", true)
  | _ => ("BeatFollowerModel", "misses", "[I", true)
def tyX10 : Nat → FieldType := fun k => match k with
  | 0 => .array .int
  | 1 => .array .int
  | 2 => .int
  | 3 => .int
  | 4 => .array .int
  | 5 => .array .boolean
  | 6 => .array .int
  | 7 => .int
  | 8 => .array .int
  | 9 => .int
  | 10 => .int
  | 11 => .boolean
  | 12 => .int
  | 13 => .int
  | 14 => .int
  | 15 => .int
  | 16 => .array .int
  | _ => .array .int
abbrev wsX100 : List Cond := u_ws RX10 TX10 18
theorem nmX10 : ∀ a, a < 18 → ∀ b, b < 18 → a ≠ b → (TX10 a).2.1 ≠ (TX10 b).2.1 := by decide +kernel
theorem tyX10_ok : ∀ k, k < 18 → parseFieldDescriptor (TX10 k).2.2.1 = some (tyX10 k) := by decide +kernel
abbrev cX10_init : ByteArray := prog_12_method_1_code
def yX10_init : MethodName := ⟨RX10, "<init>", "()V"⟩
abbrev cX10_in : ByteArray := prog_12_method_3_code
def yX10_in : MethodName := ⟨RX10, "in", "(III)Z"⟩
abbrev cX10_size : ByteArray := prog_12_method_4_code
def yX10_size : MethodName := ⟨RX10, "size", "(I)I"⟩
abbrev cX10_part : ByteArray := prog_12_method_5_code
def yX10_part : MethodName := ⟨RX10, "part", "(II)I"⟩
abbrev cX10_ofB : ByteArray := prog_12_method_6_code
def yX10_ofB : MethodName := ⟨RX10, "ofB", "(II)I"⟩
abbrev cX10_layB : ByteArray := prog_12_method_7_code
def yX10_layB : MethodName := ⟨RX10, "layB", "(III)V"⟩
abbrev cX10_keep : ByteArray := prog_12_method_8_code
def yX10_keep : MethodName := ⟨RX10, "keep", "()V"⟩
abbrev cX10_layAside : ByteArray := prog_12_method_9_code
def yX10_layAside : MethodName := ⟨RX10, "layAside", "()V"⟩
abbrev cX10_layBack : ByteArray := prog_12_method_10_code
def yX10_layBack : MethodName := ⟨RX10, "layBack", "()V"⟩
abbrev cX10_halfWindow : ByteArray := prog_12_method_11_code
def yX10_halfWindow : MethodName := ⟨RX10, "halfWindow", "()I"⟩
abbrev cX10_strike : ByteArray := prog_12_method_12_code
def yX10_strike : MethodName := ⟨RX10, "strike", "(II)I"⟩
abbrev cX10_endBlow : ByteArray := prog_12_method_13_code
def yX10_endBlow : MethodName := ⟨RX10, "endBlow", "()V"⟩
abbrev cX10_become : ByteArray := prog_12_method_14_code
def yX10_become : MethodName := ⟨RX10, "become", "(IIIII)V"⟩
abbrev cX10_loseLock : ByteArray := prog_12_method_15_code
def yX10_loseLock : MethodName := ⟨RX10, "loseLock", "()V"⟩
abbrev cX10_judge : ByteArray := prog_12_method_16_code
def yX10_judge : MethodName := ⟨RX10, "judge", "(ZZ)V"⟩
abbrev cX10_begin : ByteArray := prog_12_method_17_code
def yX10_begin : MethodName := ⟨RX10, "begin", "(I)V"⟩
abbrev cX10_takeBeat : ByteArray := prog_12_method_18_code
def yX10_takeBeat : MethodName := ⟨RX10, "takeBeat", "(II)V"⟩
abbrev cX10_hear : ByteArray := prog_12_method_19_code
def yX10_hear : MethodName := ⟨RX10, "hear", "()V"⟩
abbrev cX10_holdOn : ByteArray := prog_12_method_20_code
def yX10_holdOn : MethodName := ⟨RX10, "holdOn", "()V"⟩
abbrev cX10_holdUpTo : ByteArray := prog_12_method_21_code
def yX10_holdUpTo : MethodName := ⟨RX10, "holdUpTo", "(I)V"⟩
abbrev cX10_happenUpTo : ByteArray := prog_12_method_22_code
def yX10_happenUpTo : MethodName := ⟨RX10, "happenUpTo", "(I)V"⟩
abbrev cX10_lowest : ByteArray := prog_12_method_23_code
def yX10_lowest : MethodName := ⟨RX10, "lowest", "(I)I"⟩
abbrev cX10_highest : ByteArray := prog_12_method_24_code
def yX10_highest : MethodName := ⟨RX10, "highest", "(I)I"⟩
abbrev cX10_set : ByteArray := prog_12_method_25_code
def yX10_set : MethodName := ⟨RX10, "set", "(II)I"⟩
abbrev cX10_lastTime : ByteArray := prog_12_method_26_code
def yX10_lastTime : MethodName := ⟨RX10, "lastTime", "()I"⟩
abbrev cX10_nextTrue : ByteArray := prog_12_method_27_code
def yX10_nextTrue : MethodName := ⟨RX10, "nextTrue", "()I"⟩
abbrev cX10_addBeat : ByteArray := prog_12_method_28_code
def yX10_addBeat : MethodName := ⟨RX10, "addBeat", "(II)V"⟩
abbrev cX10_beat : ByteArray := prog_12_method_29_code
def yX10_beat : MethodName := ⟨RX10, "beat", "(II)I"⟩
abbrev cX10_cut : ByteArray := prog_12_method_30_code
def yX10_cut : MethodName := ⟨RX10, "cut", "(I)I"⟩
abbrev cX10_pass : ByteArray := prog_12_method_31_code
def yX10_pass : MethodName := ⟨RX10, "pass", "(I)I"⟩
abbrev cX10_beginAnew : ByteArray := prog_12_method_32_code
def yX10_beginAnew : MethodName := ⟨RX10, "beginAnew", "()V"⟩
abbrev cX10_anew : ByteArray := prog_12_method_33_code
def yX10_anew : MethodName := ⟨RX10, "anew", "()I"⟩
abbrev cX10_ofBeat : ByteArray := prog_12_method_34_code
def yX10_ofBeat : MethodName := ⟨RX10, "ofBeat", "(II)I"⟩
abbrev cX10_ofBlow : ByteArray := prog_12_method_35_code
def yX10_ofBlow : MethodName := ⟨RX10, "ofBlow", "(II)I"⟩
abbrev cX10_count : ByteArray := prog_12_method_36_code
def yX10_count : MethodName := ⟨RX10, "count", "(I)I"⟩
abbrev cX10_slips : ByteArray := prog_12_method_37_code
def yX10_slips : MethodName := ⟨RX10, "slips", "()I"⟩
abbrev cX10_nextBlow : ByteArray := prog_12_method_38_code
def yX10_nextBlow : MethodName := ⟨RX10, "nextBlow", "(I)I"⟩
abbrev cX10_ifHeard : ByteArray := prog_12_method_39_code
def yX10_ifHeard : MethodName := ⟨RX10, "ifHeard", "(I)I"⟩
abbrev cX10_playAll : ByteArray := prog_12_method_40_code
def yX10_playAll : MethodName := ⟨RX10, "playAll", "(II)V"⟩
abbrev cX10_ended : ByteArray := prog_12_method_41_code
def yX10_ended : MethodName := ⟨RX10, "ended", "(I)I"⟩
abbrev cX10_endWith : ByteArray := prog_12_method_42_code
def yX10_endWith : MethodName := ⟨RX10, "endWith", "(III)I"⟩
abbrev cX10_bestNudge : ByteArray := prog_12_method_43_code
def yX10_bestNudge : MethodName := ⟨RX10, "bestNudge", "(I)I"⟩
abbrev cX10_worstBeat : ByteArray := prog_12_method_44_code
def yX10_worstBeat : MethodName := ⟨RX10, "worstBeat", "(I)I"⟩
abbrev cX10_put : ByteArray := prog_12_method_45_code
def yX10_put : MethodName := ⟨RX10, "put", "(J)I"⟩
abbrev cX10_wipe : ByteArray := prog_12_method_46_code
def yX10_wipe : MethodName := ⟨RX10, "wipe", "()I"⟩
abbrev cX10_next : ByteArray := prog_12_method_47_code
def yX10_next : MethodName := ⟨RX10, "next", "()I"⟩
abbrev cX10_takeSign : ByteArray := prog_12_method_48_code
def yX10_takeSign : MethodName := ⟨RX10, "takeSign", "(I)V"⟩
abbrev cX10_takeNumber : ByteArray := prog_12_method_49_code
def yX10_takeNumber : MethodName := ⟨RX10, "takeNumber", "(II)V"⟩
abbrev cX10_enterBeat : ByteArray := prog_12_method_50_code
def yX10_enterBeat : MethodName := ⟨RX10, "enterBeat", "(I)V"⟩
abbrev cX10_takeBeats : ByteArray := prog_12_method_51_code
def yX10_takeBeats : MethodName := ⟨RX10, "takeBeats", "()V"⟩
abbrev cX10_takeRow : ByteArray := prog_12_method_52_code
def yX10_takeRow : MethodName := ⟨RX10, "takeRow", "()V"⟩
abbrev cX10_takePart : ByteArray := prog_12_method_53_code
def yX10_takePart : MethodName := ⟨RX10, "takePart", "()V"⟩
abbrev cX10_fault : ByteArray := prog_12_method_54_code
def yX10_fault : MethodName := ⟨RX10, "fault", "()I"⟩
abbrev cX10_whyNotPlan : ByteArray := prog_12_method_55_code
def yX10_whyNotPlan : MethodName := ⟨RX10, "whyNotPlan", "()I"⟩
abbrev cX10_plan : ByteArray := prog_12_method_56_code
def yX10_plan : MethodName := ⟨RX10, "plan", "()I"⟩
abbrev cX10_undo : ByteArray := prog_12_method_57_code
def yX10_undo : MethodName := ⟨RX10, "undo", "()I"⟩
abbrev cX10_save : ByteArray := prog_12_method_58_code
def yX10_save : MethodName := ⟨RX10, "save", "(I)I"⟩
abbrev cX10_restore : ByteArray := prog_12_method_59_code
def yX10_restore : MethodName := ⟨RX10, "restore", "(I)I"⟩
def RJ9 : String := "java/lang/Math"
def TJ9 : u_T := fun k => match k with
  | _ => ("", "", "", false)
def tyJ9 : Nat → FieldType := fun k => match k with
  | _ => .int
abbrev wsJ90 : List Cond := u_ws RJ9 TJ9 0
theorem nmJ9 : ∀ a, a < 0 → ∀ b, b < 0 → a ≠ b → (TJ9 a).2.1 ≠ (TJ9 b).2.1 := by decide +kernel
theorem tyJ9_ok : ∀ k, k < 0 → parseFieldDescriptor (TJ9 k).2.2.1 = some (tyJ9 k) := by decide +kernel
abbrev cJ9_floorDiv_7cf53 : ByteArray := prog_13_method_47_code
def yJ9_floorDiv_7cf53 : MethodName := ⟨RJ9, "floorDiv", "(II)I"⟩
abbrev cJ9_floorMod_7cf53 : ByteArray := prog_13_method_50_code
def yJ9_floorMod_7cf53 : MethodName := ⟨RJ9, "floorMod", "(II)I"⟩
abbrev cJ9_abs_0f7a4 : ByteArray := prog_13_method_59_code
def yJ9_abs_0f7a4 : MethodName := ⟨RJ9, "abs", "(I)I"⟩
abbrev cJ9_max_7cf53 : ByteArray := prog_13_method_65_code
def yJ9_max_7cf53 : MethodName := ⟨RJ9, "max", "(II)I"⟩
abbrev cJ9_min_7cf53 : ByteArray := prog_13_method_69_code
def yJ9_min_7cf53 : MethodName := ⟨RJ9, "min", "(II)I"⟩
def RJ10 : String := "java/lang/System"
def TJ10 : u_T := fun k => match k with
  | _ => ("", "", "", false)
def tyJ10 : Nat → FieldType := fun k => match k with
  | _ => .int
abbrev wsJ100 : List Cond := u_ws RJ10 TJ10 0
theorem nmJ10 : ∀ a, a < 0 → ∀ b, b < 0 → a ≠ b → (TJ10 a).2.1 ≠ (TJ10 b).2.1 := by decide +kernel
theorem tyJ10_ok : ∀ k, k < 0 → parseFieldDescriptor (TJ10 k).2.2.1 = some (tyJ10 k) := by decide +kernel
def RL : String := "BeatFollowerLaw"
abbrev cL_law : ByteArray := code
def yL_law : MethodName := ⟨RL, "law", "([I)Z"⟩
def wsX0_init : List Cond := .code yX0_init cX0_init 1 none :: ([.methodLink RX0 3 objectInit, .instanceMethod objectInit, .code objectInit ⟨#[0xb1]⟩ 1 none, .arrayClass .int, .fieldLink RX0 9 "BeatFollower$Blows" "times" "[I", .fieldLink RX0 15 "BeatFollower$Blows" "beats" "[I", .fieldLink RX0 18 "BeatFollower$Blows" "periods" "[I", .fieldLink RX0 21 "BeatFollower$Blows" "states" "[I"] ++ wsX00)
def wsX0_has : List Cond := .code yX0_has cX0_has 2 (some .boolean) :: ([.fieldLink RX0 24 "BeatFollower$Blows" "many" "I"] ++ wsX00)
def wsX0_rowOf : List Cond := .code yX0_rowOf cX0_rowOf 2 (some .int) :: ([])
def wsX0_append : List Cond := .code yX0_append cX0_append 6 none :: ([.fieldLink RX0 24 "BeatFollower$Blows" "many" "I", .fieldLink RX0 9 "BeatFollower$Blows" "times" "[I", .fieldLink RX0 15 "BeatFollower$Blows" "beats" "[I", .fieldLink RX0 18 "BeatFollower$Blows" "periods" "[I", .fieldLink RX0 21 "BeatFollower$Blows" "states" "[I", .methodLink RX0 28 yX0_rowOf, .instanceMethod yX0_rowOf, .selects RX0 yX0_rowOf yX0_rowOf, .initialized RX0, .code yX0_rowOf cX0_rowOf 2 (some .int)] ++ wsX00)
def wsX0_copyFrom : List Cond := .code yX0_copyFrom cX0_copyFrom 2 none :: ([.fieldLink RX0 9 "BeatFollower$Blows" "times" "[I", .methodLink RX0 32 arraycopyName, .native arraycopyName, .static arraycopyName, .initialized "java/lang/System", .fieldLink RX0 15 "BeatFollower$Blows" "beats" "[I", .fieldLink RX0 18 "BeatFollower$Blows" "periods" "[I", .fieldLink RX0 21 "BeatFollower$Blows" "states" "[I", .fieldLink RX0 24 "BeatFollower$Blows" "many" "I"] ++ wsX00)
def wsX1_init : List Cond := .code yX1_init cX1_init 1 none :: ([.methodLink RX1 3 objectInit, .instanceMethod objectInit, .code objectInit ⟨#[0xb1]⟩ 1 none])
def wsX1_begin : List Cond := .code yX1_begin cX1_begin 2 none :: ([.fieldLink RX1 9 "BeatFollower$Drummer" "state" "I", .fieldLink RX1 15 "BeatFollower$Drummer" "period" "I", .fieldLink RX1 18 "BeatFollower$Drummer" "nextBlow" "I", .fieldLink RX1 21 "BeatFollower$Drummer" "goodInRow" "I", .fieldLink RX1 24 "BeatFollower$Drummer" "badInRow" "I", .fieldLink RX1 27 "BeatFollower$Drummer" "heldInRow" "I", .fieldLink RX1 30 "BeatFollower$Drummer" "lead" "I"] ++ wsX10)
def wsX1_copyFrom : List Cond := .code yX1_copyFrom cX1_copyFrom 2 none :: ([.fieldLink RX1 9 "BeatFollower$Drummer" "state" "I", .fieldLink RX1 15 "BeatFollower$Drummer" "period" "I", .fieldLink RX1 18 "BeatFollower$Drummer" "nextBlow" "I", .fieldLink RX1 21 "BeatFollower$Drummer" "goodInRow" "I", .fieldLink RX1 24 "BeatFollower$Drummer" "badInRow" "I", .fieldLink RX1 27 "BeatFollower$Drummer" "heldInRow" "I", .fieldLink RX1 30 "BeatFollower$Drummer" "lead" "I"] ++ wsX10)
def wsX2_init : List Cond := .code yX2_init cX2_init 1 none :: ([.methodLink RX2 3 objectInit, .instanceMethod objectInit, .code objectInit ⟨#[0xb1]⟩ 1 none, .arrayClass .int, .fieldLink RX2 9 "BeatFollower$Fates" "kinds" "[I", .fieldLink RX2 15 "BeatFollower$Fates" "blows" "[I", .fieldLink RX2 18 "BeatFollower$Fates" "offs" "[I", .fieldLink RX2 21 "BeatFollower$Fates" "slips" "[I"] ++ wsX20)
def wsX2_hasRow : List Cond := .code yX2_hasRow cX2_hasRow 1 (some .boolean) :: ([])
def wsX2_note : List Cond := .code yX2_note cX2_note 6 none :: ([.fieldLink RX2 9 "BeatFollower$Fates" "kinds" "[I", .fieldLink RX2 15 "BeatFollower$Fates" "blows" "[I", .fieldLink RX2 18 "BeatFollower$Fates" "offs" "[I", .fieldLink RX2 21 "BeatFollower$Fates" "slips" "[I", .methodLink RX2 24 yX2_hasRow, .static yX2_hasRow, .initialized RX2, .code yX2_hasRow cX2_hasRow 1 (some .boolean)] ++ wsX20)
def wsX2_kindOf : List Cond := .code yX2_kindOf cX2_kindOf 2 (some .int) :: ([.fieldLink RX2 9 "BeatFollower$Fates" "kinds" "[I", .methodLink RX2 24 yX2_hasRow, .static yX2_hasRow, .initialized RX2, .code yX2_hasRow cX2_hasRow 1 (some .boolean)] ++ wsX20)
def wsX2_blowOf : List Cond := .code yX2_blowOf cX2_blowOf 2 (some .int) :: ([.fieldLink RX2 15 "BeatFollower$Fates" "blows" "[I", .methodLink RX2 24 yX2_hasRow, .static yX2_hasRow, .initialized RX2, .code yX2_hasRow cX2_hasRow 1 (some .boolean)] ++ wsX20)
def wsX2_offOf : List Cond := .code yX2_offOf cX2_offOf 2 (some .int) :: ([.fieldLink RX2 18 "BeatFollower$Fates" "offs" "[I", .methodLink RX2 24 yX2_hasRow, .static yX2_hasRow, .initialized RX2, .code yX2_hasRow cX2_hasRow 1 (some .boolean)] ++ wsX20)
def wsX2_slipOf : List Cond := .code yX2_slipOf cX2_slipOf 2 (some .int) :: ([.fieldLink RX2 21 "BeatFollower$Fates" "slips" "[I", .methodLink RX2 24 yX2_hasRow, .static yX2_hasRow, .initialized RX2, .code yX2_hasRow cX2_hasRow 1 (some .boolean)] ++ wsX20)
def wsX2_copyFrom : List Cond := .code yX2_copyFrom cX2_copyFrom 2 none :: ([.fieldLink RX2 9 "BeatFollower$Fates" "kinds" "[I", .methodLink RX2 28 arraycopyName, .native arraycopyName, .static arraycopyName, .initialized "java/lang/System", .fieldLink RX2 15 "BeatFollower$Fates" "blows" "[I", .fieldLink RX2 18 "BeatFollower$Fates" "offs" "[I", .fieldLink RX2 21 "BeatFollower$Fates" "slips" "[I"] ++ wsX20)
def wsX5_init : List Cond := .code yX5_init cX5_init 1 none :: ([.methodLink RX5 3 objectInit, .instanceMethod objectInit, .code objectInit ⟨#[0xb1]⟩ 1 none, .arrayClass .int, .fieldLink RX5 9 "BeatFollower$Plan" "times" "[I", .fieldLink RX5 15 "BeatFollower$Plan" "numbers" "[I"] ++ wsX50)
def wsX8_init : List Cond := .code yX8_init cX8_init 1 none :: ([.methodLink RX8 1 objectInit, .instanceMethod objectInit, .code objectInit ⟨#[0xb1]⟩ 1 none])
def wsX8_clear : List Cond := .code yX8_clear cX8_clear 1 none :: ([.fieldLink RX8 16 "BeatFollower$Tally" "heard" "I", .fieldLink RX8 19 "BeatFollower$Tally" "passedOver" "I", .fieldLink RX8 22 "BeatFollower$Tally" "held" "I", .fieldLink RX8 25 "BeatFollower$Tally" "locksWon" "I", .fieldLink RX8 28 "BeatFollower$Tally" "locksLost" "I", .fieldLink RX8 31 "BeatFollower$Tally" "silences" "I", .fieldLink RX8 13 "BeatFollower$Tally" "slipsTold" "I", .fieldLink RX8 7 "BeatFollower$Tally" "slipSum" "I", .fieldLink RX8 34 "BeatFollower$Tally" "offSum" "I", .fieldLink RX8 37 "BeatFollower$Tally" "heardLocked" "I"] ++ wsX80)
def wsX7_firstPeriod : List Cond := .code yX7_firstPeriod cX7_firstPeriod 1 (some .int) :: ([.fieldLink RX7 9 "BeatFollower$Scene" "settings" "[I"] ++ wsX70)
def wsX7_begin_r1 : List Cond := [Cond.fieldLink RX7 62 "BeatFollower$Scene" "time" "I", Cond.fieldLink RX7 32 "BeatFollower$Scene" "blows" "LBeatFollower$Blows;", Cond.fieldLink RX7 66 "BeatFollower$Blows" "many" "I", Cond.fieldLink RX7 46 "BeatFollower$Scene" "tally" "LBeatFollower$Tally;", Cond.fieldLink RX7 39 "BeatFollower$Scene" "drummer" "LBeatFollower$Drummer;", Cond.methodLink RX7 69 yX8_clear, Cond.instanceMethod yX8_clear, Cond.selects RX8 yX8_clear yX8_clear, Cond.initialized RX8, Cond.code yX8_clear cX8_clear 1 none, Cond.fieldLink RX8 16 "BeatFollower$Tally" "heard" "I", Cond.fieldLink RX8 19 "BeatFollower$Tally" "passedOver" "I", Cond.fieldLink RX8 22 "BeatFollower$Tally" "held" "I", Cond.fieldLink RX8 25 "BeatFollower$Tally" "locksWon" "I", Cond.fieldLink RX8 28 "BeatFollower$Tally" "locksLost" "I", Cond.fieldLink RX8 31 "BeatFollower$Tally" "silences" "I", Cond.fieldLink RX8 13 "BeatFollower$Tally" "slipsTold" "I", Cond.fieldLink RX8 7 "BeatFollower$Tally" "slipSum" "I", Cond.fieldLink RX8 34 "BeatFollower$Tally" "offSum" "I", Cond.fieldLink RX8 37 "BeatFollower$Tally" "heardLocked" "I", Cond.methodLink RX7 72 yX7_firstPeriod, Cond.instanceMethod yX7_firstPeriod, Cond.selects RX7 yX7_firstPeriod yX7_firstPeriod, Cond.initialized RX7]
def wsX7_begin_r2 : List Cond := [Cond.code yX7_firstPeriod cX7_firstPeriod 1 (some .int), Cond.fieldLink RX7 9 "BeatFollower$Scene" "settings" "[I", Cond.methodLink RX7 76 yX1_begin, Cond.instanceMethod yX1_begin, Cond.selects RX1 yX1_begin yX1_begin, Cond.initialized RX1, Cond.code yX1_begin cX1_begin 2 none, Cond.fieldLink RX1 9 "BeatFollower$Drummer" "state" "I", Cond.fieldLink RX1 15 "BeatFollower$Drummer" "period" "I", Cond.fieldLink RX1 18 "BeatFollower$Drummer" "nextBlow" "I", Cond.fieldLink RX1 21 "BeatFollower$Drummer" "goodInRow" "I", Cond.fieldLink RX1 24 "BeatFollower$Drummer" "badInRow" "I", Cond.fieldLink RX1 27 "BeatFollower$Drummer" "heldInRow" "I", Cond.fieldLink RX1 30 "BeatFollower$Drummer" "lead" "I"]
def wsX7_begin : List Cond := .code yX7_begin cX7_begin 1 none :: ((wsX7_begin_r1 ++ wsX7_begin_r2) ++ wsX70 ++ wsX00 ++ wsX80 ++ wsX10)
def wsX7_init_r1 : List Cond := [Cond.methodLink RX7 3 objectInit, Cond.instanceMethod objectInit, Cond.code objectInit ⟨#[0xb1]⟩ 1 none, Cond.arrayClass .int, Cond.fieldLink RX7 9 "BeatFollower$Scene" "settings" "[I", Cond.classLink RX7 15 RX5, Cond.instantiable RX5 3, Cond.initialized RX5, Cond.fieldLink RX7 18 "BeatFollower$Scene" "plan" "LBeatFollower$Plan;", Cond.classLink RX7 22 RX2, Cond.instantiable RX2 4, Cond.initialized RX2, Cond.fieldLink RX7 25 "BeatFollower$Scene" "fates" "LBeatFollower$Fates;", Cond.classLink RX7 29 RX0, Cond.instantiable RX0 5, Cond.initialized RX0, Cond.fieldLink RX7 32 "BeatFollower$Scene" "blows" "LBeatFollower$Blows;", Cond.classLink RX7 36 RX1, Cond.instantiable RX1 7, Cond.initialized RX1, Cond.fieldLink RX7 39 "BeatFollower$Scene" "drummer" "LBeatFollower$Drummer;", Cond.classLink RX7 43 RX8, Cond.instantiable RX8 10, Cond.initialized RX8]
def wsX7_init_r2 : List Cond := [Cond.fieldLink RX7 46 "BeatFollower$Scene" "tally" "LBeatFollower$Tally;", Cond.methodLink RX7 53 arraycopyName, Cond.native arraycopyName, Cond.static arraycopyName, Cond.initialized "java/lang/System", Cond.instanceMethod yX5_init, Cond.code yX5_init cX5_init 1 none, Cond.methodLink RX5 3 objectInit, Cond.fieldLink RX5 9 "BeatFollower$Plan" "times" "[I", Cond.fieldLink RX5 15 "BeatFollower$Plan" "numbers" "[I", Cond.instanceMethod yX2_init, Cond.code yX2_init cX2_init 1 none, Cond.methodLink RX2 3 objectInit, Cond.fieldLink RX2 9 "BeatFollower$Fates" "kinds" "[I", Cond.fieldLink RX2 15 "BeatFollower$Fates" "blows" "[I", Cond.fieldLink RX2 18 "BeatFollower$Fates" "offs" "[I", Cond.fieldLink RX2 21 "BeatFollower$Fates" "slips" "[I", Cond.instanceMethod yX0_init, Cond.code yX0_init cX0_init 1 none, Cond.methodLink RX0 3 objectInit, Cond.fieldLink RX0 9 "BeatFollower$Blows" "times" "[I", Cond.fieldLink RX0 15 "BeatFollower$Blows" "beats" "[I", Cond.fieldLink RX0 18 "BeatFollower$Blows" "periods" "[I", Cond.fieldLink RX0 21 "BeatFollower$Blows" "states" "[I"]
def wsX7_init_r3 : List Cond := [Cond.instanceMethod yX1_init, Cond.code yX1_init cX1_init 1 none, Cond.methodLink RX1 3 objectInit, Cond.instanceMethod yX8_init, Cond.code yX8_init cX8_init 1 none, Cond.methodLink RX8 1 objectInit, Cond.methodLink RX7 59 yX7_begin, Cond.instanceMethod yX7_begin, Cond.selects RX7 yX7_begin yX7_begin, Cond.initialized RX7, Cond.code yX7_begin cX7_begin 1 none, Cond.fieldLink RX7 62 "BeatFollower$Scene" "time" "I", Cond.fieldLink RX7 66 "BeatFollower$Blows" "many" "I", Cond.methodLink RX7 69 yX8_clear, Cond.instanceMethod yX8_clear, Cond.selects RX8 yX8_clear yX8_clear, Cond.code yX8_clear cX8_clear 1 none, Cond.fieldLink RX8 16 "BeatFollower$Tally" "heard" "I", Cond.fieldLink RX8 19 "BeatFollower$Tally" "passedOver" "I", Cond.fieldLink RX8 22 "BeatFollower$Tally" "held" "I", Cond.fieldLink RX8 25 "BeatFollower$Tally" "locksWon" "I", Cond.fieldLink RX8 28 "BeatFollower$Tally" "locksLost" "I", Cond.fieldLink RX8 31 "BeatFollower$Tally" "silences" "I", Cond.fieldLink RX8 13 "BeatFollower$Tally" "slipsTold" "I"]
def wsX7_init_r4 : List Cond := [Cond.fieldLink RX8 7 "BeatFollower$Tally" "slipSum" "I", Cond.fieldLink RX8 34 "BeatFollower$Tally" "offSum" "I", Cond.fieldLink RX8 37 "BeatFollower$Tally" "heardLocked" "I", Cond.methodLink RX7 72 yX7_firstPeriod, Cond.instanceMethod yX7_firstPeriod, Cond.selects RX7 yX7_firstPeriod yX7_firstPeriod, Cond.code yX7_firstPeriod cX7_firstPeriod 1 (some .int), Cond.methodLink RX7 76 yX1_begin, Cond.instanceMethod yX1_begin, Cond.selects RX1 yX1_begin yX1_begin, Cond.code yX1_begin cX1_begin 2 none, Cond.fieldLink RX1 9 "BeatFollower$Drummer" "state" "I", Cond.fieldLink RX1 15 "BeatFollower$Drummer" "period" "I", Cond.fieldLink RX1 18 "BeatFollower$Drummer" "nextBlow" "I", Cond.fieldLink RX1 21 "BeatFollower$Drummer" "goodInRow" "I", Cond.fieldLink RX1 24 "BeatFollower$Drummer" "badInRow" "I", Cond.fieldLink RX1 27 "BeatFollower$Drummer" "heldInRow" "I", Cond.fieldLink RX1 30 "BeatFollower$Drummer" "lead" "I"]
def wsX7_init : List Cond := .code yX7_init cX7_init 1 none :: ((wsX7_init_r1 ++ (wsX7_init_r2 ++ (wsX7_init_r3 ++ wsX7_init_r4))) ++ wsX70 ++ wsX50 ++ wsX20 ++ wsX00 ++ wsX10 ++ wsX80)
def wsX3_init_r1 : List Cond := [Cond.methodLink RX3 3 objectInit, Cond.instanceMethod objectInit, Cond.code objectInit ⟨#[0xb1]⟩ 1 none, Cond.classLink RX3 9 RX7, Cond.fieldLink RX3 11 "BeatFollower$History" "scenes" "[LBeatFollower$Scene;", Cond.instantiable RX7 7, Cond.initialized RX7, Cond.methodLink RX3 17 yX7_init, Cond.instanceMethod yX7_init, Cond.code yX7_init cX7_init 1 none, Cond.methodLink RX7 3 objectInit, Cond.arrayClass .int, Cond.fieldLink RX7 9 "BeatFollower$Scene" "settings" "[I", Cond.classLink RX7 15 RX5, Cond.instantiable RX5 3, Cond.initialized RX5, Cond.fieldLink RX7 18 "BeatFollower$Scene" "plan" "LBeatFollower$Plan;", Cond.classLink RX7 22 RX2, Cond.instantiable RX2 4, Cond.initialized RX2, Cond.fieldLink RX7 25 "BeatFollower$Scene" "fates" "LBeatFollower$Fates;", Cond.classLink RX7 29 RX0, Cond.instantiable RX0 5, Cond.initialized RX0]
def wsX3_init_r2 : List Cond := [Cond.fieldLink RX7 32 "BeatFollower$Scene" "blows" "LBeatFollower$Blows;", Cond.classLink RX7 36 RX1, Cond.instantiable RX1 7, Cond.initialized RX1, Cond.fieldLink RX7 39 "BeatFollower$Scene" "drummer" "LBeatFollower$Drummer;", Cond.classLink RX7 43 RX8, Cond.instantiable RX8 10, Cond.initialized RX8, Cond.fieldLink RX7 46 "BeatFollower$Scene" "tally" "LBeatFollower$Tally;", Cond.methodLink RX7 53 arraycopyName, Cond.native arraycopyName, Cond.static arraycopyName, Cond.initialized "java/lang/System", Cond.instanceMethod yX5_init, Cond.code yX5_init cX5_init 1 none, Cond.methodLink RX5 3 objectInit, Cond.fieldLink RX5 9 "BeatFollower$Plan" "times" "[I", Cond.fieldLink RX5 15 "BeatFollower$Plan" "numbers" "[I", Cond.instanceMethod yX2_init, Cond.code yX2_init cX2_init 1 none, Cond.methodLink RX2 3 objectInit, Cond.fieldLink RX2 9 "BeatFollower$Fates" "kinds" "[I", Cond.fieldLink RX2 15 "BeatFollower$Fates" "blows" "[I", Cond.fieldLink RX2 18 "BeatFollower$Fates" "offs" "[I"]
def wsX3_init_r3 : List Cond := [Cond.fieldLink RX2 21 "BeatFollower$Fates" "slips" "[I", Cond.instanceMethod yX0_init, Cond.code yX0_init cX0_init 1 none, Cond.methodLink RX0 3 objectInit, Cond.fieldLink RX0 9 "BeatFollower$Blows" "times" "[I", Cond.fieldLink RX0 15 "BeatFollower$Blows" "beats" "[I", Cond.fieldLink RX0 18 "BeatFollower$Blows" "periods" "[I", Cond.fieldLink RX0 21 "BeatFollower$Blows" "states" "[I", Cond.instanceMethod yX1_init, Cond.code yX1_init cX1_init 1 none, Cond.methodLink RX1 3 objectInit, Cond.instanceMethod yX8_init, Cond.code yX8_init cX8_init 1 none, Cond.methodLink RX8 1 objectInit, Cond.methodLink RX7 59 yX7_begin, Cond.instanceMethod yX7_begin, Cond.selects RX7 yX7_begin yX7_begin, Cond.code yX7_begin cX7_begin 1 none, Cond.fieldLink RX7 62 "BeatFollower$Scene" "time" "I", Cond.fieldLink RX7 66 "BeatFollower$Blows" "many" "I", Cond.methodLink RX7 69 yX8_clear, Cond.instanceMethod yX8_clear, Cond.selects RX8 yX8_clear yX8_clear, Cond.code yX8_clear cX8_clear 1 none]
def wsX3_init_r4 : List Cond := [Cond.fieldLink RX8 16 "BeatFollower$Tally" "heard" "I", Cond.fieldLink RX8 19 "BeatFollower$Tally" "passedOver" "I", Cond.fieldLink RX8 22 "BeatFollower$Tally" "held" "I", Cond.fieldLink RX8 25 "BeatFollower$Tally" "locksWon" "I", Cond.fieldLink RX8 28 "BeatFollower$Tally" "locksLost" "I", Cond.fieldLink RX8 31 "BeatFollower$Tally" "silences" "I", Cond.fieldLink RX8 13 "BeatFollower$Tally" "slipsTold" "I", Cond.fieldLink RX8 7 "BeatFollower$Tally" "slipSum" "I", Cond.fieldLink RX8 34 "BeatFollower$Tally" "offSum" "I", Cond.fieldLink RX8 37 "BeatFollower$Tally" "heardLocked" "I", Cond.methodLink RX7 72 yX7_firstPeriod, Cond.instanceMethod yX7_firstPeriod, Cond.selects RX7 yX7_firstPeriod yX7_firstPeriod, Cond.code yX7_firstPeriod cX7_firstPeriod 1 (some .int), Cond.methodLink RX7 76 yX1_begin, Cond.instanceMethod yX1_begin, Cond.selects RX1 yX1_begin yX1_begin, Cond.code yX1_begin cX1_begin 2 none, Cond.fieldLink RX1 9 "BeatFollower$Drummer" "state" "I", Cond.fieldLink RX1 15 "BeatFollower$Drummer" "period" "I", Cond.fieldLink RX1 18 "BeatFollower$Drummer" "nextBlow" "I", Cond.fieldLink RX1 21 "BeatFollower$Drummer" "goodInRow" "I", Cond.fieldLink RX1 24 "BeatFollower$Drummer" "badInRow" "I", Cond.fieldLink RX1 27 "BeatFollower$Drummer" "heldInRow" "I"]
def wsX3_init_r5 : List Cond := [Cond.fieldLink RX1 30 "BeatFollower$Drummer" "lead" "I"]
def wsX3_init : List Cond := .code yX3_init cX3_init 2 none :: ((wsX3_init_r1 ++ (wsX3_init_r2 ++ (wsX3_init_r3 ++ (wsX3_init_r4 ++ wsX3_init_r5)))) ++ wsX30 ++ wsX70 ++ wsX50 ++ wsX20 ++ wsX00 ++ wsX10 ++ wsX80)
def wsJ9_floorMod_7cf53 : List Cond := .code yJ9_floorMod_7cf53 cJ9_floorMod_7cf53 3 (some .int) :: ([])
def wsX5_copyFrom : List Cond := .code yX5_copyFrom cX5_copyFrom 2 none :: ([.fieldLink RX5 9 "BeatFollower$Plan" "times" "[I", .methodLink RX5 58 arraycopyName, .native arraycopyName, .static arraycopyName, .initialized "java/lang/System", .fieldLink RX5 15 "BeatFollower$Plan" "numbers" "[I", .fieldLink RX5 18 "BeatFollower$Plan" "many" "I"] ++ wsX50)
def wsX8_copyFrom : List Cond := .code yX8_copyFrom cX8_copyFrom 2 none :: ([.fieldLink RX8 16 "BeatFollower$Tally" "heard" "I", .fieldLink RX8 19 "BeatFollower$Tally" "passedOver" "I", .fieldLink RX8 22 "BeatFollower$Tally" "held" "I", .fieldLink RX8 25 "BeatFollower$Tally" "locksWon" "I", .fieldLink RX8 28 "BeatFollower$Tally" "locksLost" "I", .fieldLink RX8 31 "BeatFollower$Tally" "silences" "I", .fieldLink RX8 13 "BeatFollower$Tally" "slipsTold" "I", .fieldLink RX8 7 "BeatFollower$Tally" "slipSum" "I", .fieldLink RX8 34 "BeatFollower$Tally" "offSum" "I", .fieldLink RX8 37 "BeatFollower$Tally" "heardLocked" "I"] ++ wsX80)
def wsX7_copyFrom_r1 : List Cond := [Cond.fieldLink RX7 9 "BeatFollower$Scene" "settings" "[I", Cond.methodLink RX7 53 arraycopyName, Cond.native arraycopyName, Cond.static arraycopyName, Cond.initialized "java/lang/System", Cond.fieldLink RX7 18 "BeatFollower$Scene" "plan" "LBeatFollower$Plan;", Cond.fieldLink RX7 25 "BeatFollower$Scene" "fates" "LBeatFollower$Fates;", Cond.fieldLink RX7 32 "BeatFollower$Scene" "blows" "LBeatFollower$Blows;", Cond.fieldLink RX7 39 "BeatFollower$Scene" "drummer" "LBeatFollower$Drummer;", Cond.fieldLink RX7 46 "BeatFollower$Scene" "tally" "LBeatFollower$Tally;", Cond.fieldLink RX7 62 "BeatFollower$Scene" "time" "I", Cond.methodLink RX7 79 yX5_copyFrom, Cond.instanceMethod yX5_copyFrom, Cond.selects RX5 yX5_copyFrom yX5_copyFrom, Cond.initialized RX5, Cond.code yX5_copyFrom cX5_copyFrom 2 none, Cond.fieldLink RX5 9 "BeatFollower$Plan" "times" "[I", Cond.methodLink RX5 58 arraycopyName, Cond.fieldLink RX5 15 "BeatFollower$Plan" "numbers" "[I", Cond.fieldLink RX5 18 "BeatFollower$Plan" "many" "I", Cond.methodLink RX7 83 yX2_copyFrom, Cond.instanceMethod yX2_copyFrom, Cond.selects RX2 yX2_copyFrom yX2_copyFrom, Cond.initialized RX2]
def wsX7_copyFrom_r2 : List Cond := [Cond.code yX2_copyFrom cX2_copyFrom 2 none, Cond.fieldLink RX2 9 "BeatFollower$Fates" "kinds" "[I", Cond.methodLink RX2 28 arraycopyName, Cond.fieldLink RX2 15 "BeatFollower$Fates" "blows" "[I", Cond.fieldLink RX2 18 "BeatFollower$Fates" "offs" "[I", Cond.fieldLink RX2 21 "BeatFollower$Fates" "slips" "[I", Cond.methodLink RX7 86 yX0_copyFrom, Cond.instanceMethod yX0_copyFrom, Cond.selects RX0 yX0_copyFrom yX0_copyFrom, Cond.initialized RX0, Cond.code yX0_copyFrom cX0_copyFrom 2 none, Cond.fieldLink RX0 9 "BeatFollower$Blows" "times" "[I", Cond.methodLink RX0 32 arraycopyName, Cond.fieldLink RX0 15 "BeatFollower$Blows" "beats" "[I", Cond.fieldLink RX0 18 "BeatFollower$Blows" "periods" "[I", Cond.fieldLink RX0 21 "BeatFollower$Blows" "states" "[I", Cond.fieldLink RX0 24 "BeatFollower$Blows" "many" "I", Cond.methodLink RX7 89 yX1_copyFrom, Cond.instanceMethod yX1_copyFrom, Cond.selects RX1 yX1_copyFrom yX1_copyFrom, Cond.initialized RX1, Cond.code yX1_copyFrom cX1_copyFrom 2 none, Cond.fieldLink RX1 9 "BeatFollower$Drummer" "state" "I", Cond.fieldLink RX1 15 "BeatFollower$Drummer" "period" "I"]
def wsX7_copyFrom_r3 : List Cond := [Cond.fieldLink RX1 18 "BeatFollower$Drummer" "nextBlow" "I", Cond.fieldLink RX1 21 "BeatFollower$Drummer" "goodInRow" "I", Cond.fieldLink RX1 24 "BeatFollower$Drummer" "badInRow" "I", Cond.fieldLink RX1 27 "BeatFollower$Drummer" "heldInRow" "I", Cond.fieldLink RX1 30 "BeatFollower$Drummer" "lead" "I", Cond.methodLink RX7 92 yX8_copyFrom, Cond.instanceMethod yX8_copyFrom, Cond.selects RX8 yX8_copyFrom yX8_copyFrom, Cond.initialized RX8, Cond.code yX8_copyFrom cX8_copyFrom 2 none, Cond.fieldLink RX8 16 "BeatFollower$Tally" "heard" "I", Cond.fieldLink RX8 19 "BeatFollower$Tally" "passedOver" "I", Cond.fieldLink RX8 22 "BeatFollower$Tally" "held" "I", Cond.fieldLink RX8 25 "BeatFollower$Tally" "locksWon" "I", Cond.fieldLink RX8 28 "BeatFollower$Tally" "locksLost" "I", Cond.fieldLink RX8 31 "BeatFollower$Tally" "silences" "I", Cond.fieldLink RX8 13 "BeatFollower$Tally" "slipsTold" "I", Cond.fieldLink RX8 7 "BeatFollower$Tally" "slipSum" "I", Cond.fieldLink RX8 34 "BeatFollower$Tally" "offSum" "I", Cond.fieldLink RX8 37 "BeatFollower$Tally" "heardLocked" "I"]
def wsX7_copyFrom : List Cond := .code yX7_copyFrom cX7_copyFrom 2 none :: ((wsX7_copyFrom_r1 ++ (wsX7_copyFrom_r2 ++ wsX7_copyFrom_r3)) ++ wsX70 ++ wsX50 ++ wsX20 ++ wsX00 ++ wsX10 ++ wsX80)
def wsX3_record_r1 : List Cond := [Cond.fieldLink RX3 11 "BeatFollower$History" "scenes" "[LBeatFollower$Scene;", Cond.fieldLink RX3 18 "BeatFollower$History" "next" "I", Cond.fieldLink RX3 32 "BeatFollower$History" "many" "I", Cond.methodLink RX3 35 Lib.Math.min.name, Cond.static Lib.Math.min.name, Cond.initialized "java/lang/Math", Cond.code Lib.Math.min.name Lib.Math.min.code 2 (some .int), Cond.methodLink RX3 22 yJ9_floorMod_7cf53, Cond.static yJ9_floorMod_7cf53, Cond.initialized RJ9, Cond.code yJ9_floorMod_7cf53 cJ9_floorMod_7cf53 3 (some .int), Cond.methodLink RX3 28 yX7_copyFrom, Cond.instanceMethod yX7_copyFrom, Cond.selects RX7 yX7_copyFrom yX7_copyFrom, Cond.initialized RX7, Cond.code yX7_copyFrom cX7_copyFrom 2 none, Cond.fieldLink RX7 9 "BeatFollower$Scene" "settings" "[I", Cond.methodLink RX7 53 arraycopyName, Cond.native arraycopyName, Cond.static arraycopyName, Cond.initialized "java/lang/System", Cond.fieldLink RX7 18 "BeatFollower$Scene" "plan" "LBeatFollower$Plan;", Cond.fieldLink RX7 25 "BeatFollower$Scene" "fates" "LBeatFollower$Fates;", Cond.fieldLink RX7 32 "BeatFollower$Scene" "blows" "LBeatFollower$Blows;"]
def wsX3_record_r2 : List Cond := [Cond.fieldLink RX7 39 "BeatFollower$Scene" "drummer" "LBeatFollower$Drummer;", Cond.fieldLink RX7 46 "BeatFollower$Scene" "tally" "LBeatFollower$Tally;", Cond.fieldLink RX7 62 "BeatFollower$Scene" "time" "I", Cond.methodLink RX7 79 yX5_copyFrom, Cond.instanceMethod yX5_copyFrom, Cond.selects RX5 yX5_copyFrom yX5_copyFrom, Cond.initialized RX5, Cond.code yX5_copyFrom cX5_copyFrom 2 none, Cond.fieldLink RX5 9 "BeatFollower$Plan" "times" "[I", Cond.methodLink RX5 58 arraycopyName, Cond.fieldLink RX5 15 "BeatFollower$Plan" "numbers" "[I", Cond.fieldLink RX5 18 "BeatFollower$Plan" "many" "I", Cond.methodLink RX7 83 yX2_copyFrom, Cond.instanceMethod yX2_copyFrom, Cond.selects RX2 yX2_copyFrom yX2_copyFrom, Cond.initialized RX2, Cond.code yX2_copyFrom cX2_copyFrom 2 none, Cond.fieldLink RX2 9 "BeatFollower$Fates" "kinds" "[I", Cond.methodLink RX2 28 arraycopyName, Cond.fieldLink RX2 15 "BeatFollower$Fates" "blows" "[I", Cond.fieldLink RX2 18 "BeatFollower$Fates" "offs" "[I", Cond.fieldLink RX2 21 "BeatFollower$Fates" "slips" "[I", Cond.methodLink RX7 86 yX0_copyFrom, Cond.instanceMethod yX0_copyFrom]
def wsX3_record_r3 : List Cond := [Cond.selects RX0 yX0_copyFrom yX0_copyFrom, Cond.initialized RX0, Cond.code yX0_copyFrom cX0_copyFrom 2 none, Cond.fieldLink RX0 9 "BeatFollower$Blows" "times" "[I", Cond.methodLink RX0 32 arraycopyName, Cond.fieldLink RX0 15 "BeatFollower$Blows" "beats" "[I", Cond.fieldLink RX0 18 "BeatFollower$Blows" "periods" "[I", Cond.fieldLink RX0 21 "BeatFollower$Blows" "states" "[I", Cond.fieldLink RX0 24 "BeatFollower$Blows" "many" "I", Cond.methodLink RX7 89 yX1_copyFrom, Cond.instanceMethod yX1_copyFrom, Cond.selects RX1 yX1_copyFrom yX1_copyFrom, Cond.initialized RX1, Cond.code yX1_copyFrom cX1_copyFrom 2 none, Cond.fieldLink RX1 9 "BeatFollower$Drummer" "state" "I", Cond.fieldLink RX1 15 "BeatFollower$Drummer" "period" "I", Cond.fieldLink RX1 18 "BeatFollower$Drummer" "nextBlow" "I", Cond.fieldLink RX1 21 "BeatFollower$Drummer" "goodInRow" "I", Cond.fieldLink RX1 24 "BeatFollower$Drummer" "badInRow" "I", Cond.fieldLink RX1 27 "BeatFollower$Drummer" "heldInRow" "I", Cond.fieldLink RX1 30 "BeatFollower$Drummer" "lead" "I", Cond.methodLink RX7 92 yX8_copyFrom, Cond.instanceMethod yX8_copyFrom, Cond.selects RX8 yX8_copyFrom yX8_copyFrom]
def wsX3_record_r4 : List Cond := [Cond.initialized RX8, Cond.code yX8_copyFrom cX8_copyFrom 2 none, Cond.fieldLink RX8 16 "BeatFollower$Tally" "heard" "I", Cond.fieldLink RX8 19 "BeatFollower$Tally" "passedOver" "I", Cond.fieldLink RX8 22 "BeatFollower$Tally" "held" "I", Cond.fieldLink RX8 25 "BeatFollower$Tally" "locksWon" "I", Cond.fieldLink RX8 28 "BeatFollower$Tally" "locksLost" "I", Cond.fieldLink RX8 31 "BeatFollower$Tally" "silences" "I", Cond.fieldLink RX8 13 "BeatFollower$Tally" "slipsTold" "I", Cond.fieldLink RX8 7 "BeatFollower$Tally" "slipSum" "I", Cond.fieldLink RX8 34 "BeatFollower$Tally" "offSum" "I", Cond.fieldLink RX8 37 "BeatFollower$Tally" "heardLocked" "I"]
def wsX3_record : List Cond := .code yX3_record cX3_record 2 none :: ((wsX3_record_r1 ++ (wsX3_record_r2 ++ (wsX3_record_r3 ++ wsX3_record_r4))) ++ wsX30 ++ wsX70 ++ wsX50 ++ wsX20 ++ wsX00 ++ wsX10 ++ wsX80)
def wsX3_takeBack_r1 : List Cond := [Cond.fieldLink RX3 18 "BeatFollower$History" "next" "I", Cond.fieldLink RX3 32 "BeatFollower$History" "many" "I", Cond.fieldLink RX3 11 "BeatFollower$History" "scenes" "[LBeatFollower$Scene;", Cond.methodLink RX3 22 yJ9_floorMod_7cf53, Cond.static yJ9_floorMod_7cf53, Cond.initialized RJ9, Cond.code yJ9_floorMod_7cf53 cJ9_floorMod_7cf53 3 (some .int), Cond.methodLink RX3 28 yX7_copyFrom, Cond.instanceMethod yX7_copyFrom, Cond.selects RX7 yX7_copyFrom yX7_copyFrom, Cond.initialized RX7, Cond.code yX7_copyFrom cX7_copyFrom 2 none, Cond.fieldLink RX7 9 "BeatFollower$Scene" "settings" "[I", Cond.methodLink RX7 53 arraycopyName, Cond.native arraycopyName, Cond.static arraycopyName, Cond.initialized "java/lang/System", Cond.fieldLink RX7 18 "BeatFollower$Scene" "plan" "LBeatFollower$Plan;", Cond.fieldLink RX7 25 "BeatFollower$Scene" "fates" "LBeatFollower$Fates;", Cond.fieldLink RX7 32 "BeatFollower$Scene" "blows" "LBeatFollower$Blows;", Cond.fieldLink RX7 39 "BeatFollower$Scene" "drummer" "LBeatFollower$Drummer;", Cond.fieldLink RX7 46 "BeatFollower$Scene" "tally" "LBeatFollower$Tally;", Cond.fieldLink RX7 62 "BeatFollower$Scene" "time" "I", Cond.methodLink RX7 79 yX5_copyFrom]
def wsX3_takeBack_r2 : List Cond := [Cond.instanceMethod yX5_copyFrom, Cond.selects RX5 yX5_copyFrom yX5_copyFrom, Cond.initialized RX5, Cond.code yX5_copyFrom cX5_copyFrom 2 none, Cond.fieldLink RX5 9 "BeatFollower$Plan" "times" "[I", Cond.methodLink RX5 58 arraycopyName, Cond.fieldLink RX5 15 "BeatFollower$Plan" "numbers" "[I", Cond.fieldLink RX5 18 "BeatFollower$Plan" "many" "I", Cond.methodLink RX7 83 yX2_copyFrom, Cond.instanceMethod yX2_copyFrom, Cond.selects RX2 yX2_copyFrom yX2_copyFrom, Cond.initialized RX2, Cond.code yX2_copyFrom cX2_copyFrom 2 none, Cond.fieldLink RX2 9 "BeatFollower$Fates" "kinds" "[I", Cond.methodLink RX2 28 arraycopyName, Cond.fieldLink RX2 15 "BeatFollower$Fates" "blows" "[I", Cond.fieldLink RX2 18 "BeatFollower$Fates" "offs" "[I", Cond.fieldLink RX2 21 "BeatFollower$Fates" "slips" "[I", Cond.methodLink RX7 86 yX0_copyFrom, Cond.instanceMethod yX0_copyFrom, Cond.selects RX0 yX0_copyFrom yX0_copyFrom, Cond.initialized RX0, Cond.code yX0_copyFrom cX0_copyFrom 2 none, Cond.fieldLink RX0 9 "BeatFollower$Blows" "times" "[I"]
def wsX3_takeBack_r3 : List Cond := [Cond.methodLink RX0 32 arraycopyName, Cond.fieldLink RX0 15 "BeatFollower$Blows" "beats" "[I", Cond.fieldLink RX0 18 "BeatFollower$Blows" "periods" "[I", Cond.fieldLink RX0 21 "BeatFollower$Blows" "states" "[I", Cond.fieldLink RX0 24 "BeatFollower$Blows" "many" "I", Cond.methodLink RX7 89 yX1_copyFrom, Cond.instanceMethod yX1_copyFrom, Cond.selects RX1 yX1_copyFrom yX1_copyFrom, Cond.initialized RX1, Cond.code yX1_copyFrom cX1_copyFrom 2 none, Cond.fieldLink RX1 9 "BeatFollower$Drummer" "state" "I", Cond.fieldLink RX1 15 "BeatFollower$Drummer" "period" "I", Cond.fieldLink RX1 18 "BeatFollower$Drummer" "nextBlow" "I", Cond.fieldLink RX1 21 "BeatFollower$Drummer" "goodInRow" "I", Cond.fieldLink RX1 24 "BeatFollower$Drummer" "badInRow" "I", Cond.fieldLink RX1 27 "BeatFollower$Drummer" "heldInRow" "I", Cond.fieldLink RX1 30 "BeatFollower$Drummer" "lead" "I", Cond.methodLink RX7 92 yX8_copyFrom, Cond.instanceMethod yX8_copyFrom, Cond.selects RX8 yX8_copyFrom yX8_copyFrom, Cond.initialized RX8, Cond.code yX8_copyFrom cX8_copyFrom 2 none, Cond.fieldLink RX8 16 "BeatFollower$Tally" "heard" "I", Cond.fieldLink RX8 19 "BeatFollower$Tally" "passedOver" "I"]
def wsX3_takeBack_r4 : List Cond := [Cond.fieldLink RX8 22 "BeatFollower$Tally" "held" "I", Cond.fieldLink RX8 25 "BeatFollower$Tally" "locksWon" "I", Cond.fieldLink RX8 28 "BeatFollower$Tally" "locksLost" "I", Cond.fieldLink RX8 31 "BeatFollower$Tally" "silences" "I", Cond.fieldLink RX8 13 "BeatFollower$Tally" "slipsTold" "I", Cond.fieldLink RX8 7 "BeatFollower$Tally" "slipSum" "I", Cond.fieldLink RX8 34 "BeatFollower$Tally" "offSum" "I", Cond.fieldLink RX8 37 "BeatFollower$Tally" "heardLocked" "I"]
def wsX3_takeBack : List Cond := .code yX3_takeBack cX3_takeBack 2 none :: ((wsX3_takeBack_r1 ++ (wsX3_takeBack_r2 ++ (wsX3_takeBack_r3 ++ wsX3_takeBack_r4))) ++ wsX30 ++ wsX70 ++ wsX50 ++ wsX20 ++ wsX00 ++ wsX10 ++ wsX80)
def wsX4_init : List Cond := .code yX4_init cX4_init 1 none :: ([.methodLink RX4 3 objectInit, .instanceMethod objectInit, .code objectInit ⟨#[0xb1]⟩ 1 none, .arrayClass .char, .fieldLink RX4 9 "BeatFollower$Pad" "signs" "[C"] ++ wsX40)
def wsX4_append : List Cond := .code yX4_append cX4_append 2 none :: ([.fieldLink RX4 15 "BeatFollower$Pad" "length" "I", .fieldLink RX4 9 "BeatFollower$Pad" "signs" "[C"] ++ wsX40)
def wsX4_signAt : List Cond := .code yX4_signAt cX4_signAt 2 (some .int) :: ([.fieldLink RX4 15 "BeatFollower$Pad" "length" "I", .fieldLink RX4 9 "BeatFollower$Pad" "signs" "[C"] ++ wsX40)
def wsX4_digitAt : List Cond := .code yX4_digitAt cX4_digitAt 3 (some .int) :: ([.methodLink RX4 19 yX4_signAt, .instanceMethod yX4_signAt, .selects RX4 yX4_signAt yX4_signAt, .initialized RX4, .code yX4_signAt cX4_signAt 2 (some .int), .fieldLink RX4 15 "BeatFollower$Pad" "length" "I", .fieldLink RX4 9 "BeatFollower$Pad" "signs" "[C"] ++ wsX40)
def wsX5_has : List Cond := .code yX5_has cX5_has 2 (some .boolean) :: ([.fieldLink RX5 18 "BeatFollower$Plan" "many" "I"] ++ wsX50)
def wsX5_timeOf : List Cond := .code yX5_timeOf cX5_timeOf 2 (some .int) :: ([.fieldLink RX5 9 "BeatFollower$Plan" "times" "[I", .methodLink RX5 22 yX5_has, .instanceMethod yX5_has, .selects RX5 yX5_has yX5_has, .initialized RX5, .code yX5_has cX5_has 2 (some .boolean), .fieldLink RX5 18 "BeatFollower$Plan" "many" "I"] ++ wsX50)
def wsX5_numberOf : List Cond := .code yX5_numberOf cX5_numberOf 2 (some .int) :: ([.fieldLink RX5 15 "BeatFollower$Plan" "numbers" "[I", .methodLink RX5 22 yX5_has, .instanceMethod yX5_has, .selects RX5 yX5_has yX5_has, .initialized RX5, .code yX5_has cX5_has 2 (some .boolean), .fieldLink RX5 18 "BeatFollower$Plan" "many" "I"] ++ wsX50)
def wsX5_lastTime : List Cond := .code yX5_lastTime cX5_lastTime 1 (some .int) :: ([.fieldLink RX5 18 "BeatFollower$Plan" "many" "I", .methodLink RX5 26 yX5_timeOf, .instanceMethod yX5_timeOf, .selects RX5 yX5_timeOf yX5_timeOf, .initialized RX5, .code yX5_timeOf cX5_timeOf 2 (some .int), .fieldLink RX5 9 "BeatFollower$Plan" "times" "[I", .methodLink RX5 22 yX5_has, .instanceMethod yX5_has, .selects RX5 yX5_has yX5_has, .code yX5_has cX5_has 2 (some .boolean)] ++ wsX50)
def wsX5_nextNumber : List Cond := .code yX5_nextNumber cX5_nextNumber 1 (some .int) :: ([.fieldLink RX5 18 "BeatFollower$Plan" "many" "I", .methodLink RX5 30 yX5_numberOf, .instanceMethod yX5_numberOf, .selects RX5 yX5_numberOf yX5_numberOf, .initialized RX5, .code yX5_numberOf cX5_numberOf 2 (some .int), .fieldLink RX5 15 "BeatFollower$Plan" "numbers" "[I", .methodLink RX5 22 yX5_has, .instanceMethod yX5_has, .selects RX5 yX5_has yX5_has, .code yX5_has cX5_has 2 (some .boolean)] ++ wsX50)
def wsX5_canHold : List Cond := .code yX5_canHold cX5_canHold 3 (some .boolean) :: ([.fieldLink RX5 18 "BeatFollower$Plan" "many" "I", .constant RX5 33 (100000)] ++ wsX50)
def wsX5_append : List Cond := .code yX5_append cX5_append 3 none :: ([.fieldLink RX5 18 "BeatFollower$Plan" "many" "I", .fieldLink RX5 9 "BeatFollower$Plan" "times" "[I", .fieldLink RX5 15 "BeatFollower$Plan" "numbers" "[I"] ++ wsX50)
def wsX5_appendAll_r1 : List Cond := [Cond.fieldLink RX5 34 "BeatFollower$Reader" "many" "I", Cond.fieldLink RX5 41 "BeatFollower$Reader" "gaps" "[I", Cond.fieldLink RX5 47 "BeatFollower$Reader" "misses" "[I", Cond.methodLink RX5 37 yX5_lastTime, Cond.instanceMethod yX5_lastTime, Cond.selects RX5 yX5_lastTime yX5_lastTime, Cond.initialized RX5, Cond.code yX5_lastTime cX5_lastTime 1 (some .int), Cond.fieldLink RX5 18 "BeatFollower$Plan" "many" "I", Cond.methodLink RX5 26 yX5_timeOf, Cond.instanceMethod yX5_timeOf, Cond.selects RX5 yX5_timeOf yX5_timeOf, Cond.code yX5_timeOf cX5_timeOf 2 (some .int), Cond.fieldLink RX5 9 "BeatFollower$Plan" "times" "[I", Cond.methodLink RX5 22 yX5_has, Cond.instanceMethod yX5_has, Cond.selects RX5 yX5_has yX5_has, Cond.code yX5_has cX5_has 2 (some .boolean), Cond.methodLink RX5 44 yX5_nextNumber, Cond.instanceMethod yX5_nextNumber, Cond.selects RX5 yX5_nextNumber yX5_nextNumber, Cond.code yX5_nextNumber cX5_nextNumber 1 (some .int), Cond.methodLink RX5 30 yX5_numberOf, Cond.instanceMethod yX5_numberOf]
def wsX5_appendAll_r2 : List Cond := [Cond.selects RX5 yX5_numberOf yX5_numberOf, Cond.code yX5_numberOf cX5_numberOf 2 (some .int), Cond.fieldLink RX5 15 "BeatFollower$Plan" "numbers" "[I", Cond.methodLink RX5 50 yX5_canHold, Cond.instanceMethod yX5_canHold, Cond.selects RX5 yX5_canHold yX5_canHold, Cond.code yX5_canHold cX5_canHold 3 (some .boolean), Cond.constant RX5 33 (100000), Cond.methodLink RX5 54 yX5_append, Cond.instanceMethod yX5_append, Cond.selects RX5 yX5_append yX5_append, Cond.code yX5_append cX5_append 3 none]
def wsX5_appendAll : List Cond := .code yX5_appendAll cX5_appendAll 5 (some .boolean) :: ((wsX5_appendAll_r1 ++ wsX5_appendAll_r2) ++ wsX60 ++ wsX50)
def wsX5_copyWithout : List Cond := .code yX5_copyWithout cX5_copyWithout 4 none :: ([.fieldLink RX5 18 "BeatFollower$Plan" "many" "I", .methodLink RX5 26 yX5_timeOf, .instanceMethod yX5_timeOf, .selects RX5 yX5_timeOf yX5_timeOf, .initialized RX5, .code yX5_timeOf cX5_timeOf 2 (some .int), .fieldLink RX5 9 "BeatFollower$Plan" "times" "[I", .methodLink RX5 22 yX5_has, .instanceMethod yX5_has, .selects RX5 yX5_has yX5_has, .code yX5_has cX5_has 2 (some .boolean), .methodLink RX5 30 yX5_numberOf, .instanceMethod yX5_numberOf, .selects RX5 yX5_numberOf yX5_numberOf, .code yX5_numberOf cX5_numberOf 2 (some .int), .fieldLink RX5 15 "BeatFollower$Plan" "numbers" "[I", .methodLink RX5 54 yX5_append, .instanceMethod yX5_append, .selects RX5 yX5_append yX5_append, .code yX5_append cX5_append 3 none] ++ wsX50)
def wsX6_init : List Cond := .code yX6_init cX6_init 1 none :: ([.methodLink RX6 3 objectInit, .instanceMethod objectInit, .code objectInit ⟨#[0xb1]⟩ 1 none, .arrayClass .int, .fieldLink RX6 9 "BeatFollower$Reader" "gaps" "[I", .fieldLink RX6 15 "BeatFollower$Reader" "misses" "[I"] ++ wsX60)
def wsX6_readNumber : List Cond := .code yX6_readNumber cX6_readNumber 7 (some .int) :: ([.fieldLink RX6 22 "BeatFollower$Reader" "fault" "I", .fieldLink RX6 25 "BeatFollower$Reader" "place" "I", .methodLink RX6 65 yX4_digitAt, .instanceMethod yX4_digitAt, .selects RX4 yX4_digitAt yX4_digitAt, .initialized RX4, .code yX4_digitAt cX4_digitAt 3 (some .int), .methodLink RX4 19 yX4_signAt, .instanceMethod yX4_signAt, .selects RX4 yX4_signAt yX4_signAt, .code yX4_signAt cX4_signAt 2 (some .int), .fieldLink RX4 15 "BeatFollower$Pad" "length" "I", .fieldLink RX4 9 "BeatFollower$Pad" "signs" "[C"] ++ wsX60 ++ wsX40)
def wsX6_addBeats : List Cond := .code yX6_addBeats cX6_addBeats 4 none :: ([.fieldLink RX6 18 "BeatFollower$Reader" "many" "I", .fieldLink RX6 9 "BeatFollower$Reader" "gaps" "[I", .fieldLink RX6 28 "BeatFollower$Reader" "laid" "I", .fieldLink RX6 15 "BeatFollower$Reader" "misses" "[I", .fieldLink RX6 31 "BeatFollower$Reader" "missed" "I"] ++ wsX60)
def wsX6_readBeats_r1 : List Cond := [Cond.fieldLink RX6 22 "BeatFollower$Reader" "fault" "I", Cond.fieldLink RX6 25 "BeatFollower$Reader" "place" "I", Cond.methodLink RX6 57 yX6_readNumber, Cond.instanceMethod yX6_readNumber, Cond.selects RX6 yX6_readNumber yX6_readNumber, Cond.initialized RX6, Cond.code yX6_readNumber cX6_readNumber 7 (some .int), Cond.methodLink RX6 65 yX4_digitAt, Cond.instanceMethod yX4_digitAt, Cond.selects RX4 yX4_digitAt yX4_digitAt, Cond.initialized RX4, Cond.code yX4_digitAt cX4_digitAt 3 (some .int), Cond.methodLink RX4 19 yX4_signAt, Cond.instanceMethod yX4_signAt, Cond.selects RX4 yX4_signAt yX4_signAt, Cond.code yX4_signAt cX4_signAt 2 (some .int), Cond.fieldLink RX4 15 "BeatFollower$Pad" "length" "I", Cond.fieldLink RX4 9 "BeatFollower$Pad" "signs" "[C", Cond.methodLink RX6 61 yX6_addBeats, Cond.instanceMethod yX6_addBeats, Cond.selects RX6 yX6_addBeats yX6_addBeats, Cond.code yX6_addBeats cX6_addBeats 4 none, Cond.fieldLink RX6 18 "BeatFollower$Reader" "many" "I", Cond.fieldLink RX6 9 "BeatFollower$Reader" "gaps" "[I"]
def wsX6_readBeats_r2 : List Cond := [Cond.fieldLink RX6 28 "BeatFollower$Reader" "laid" "I", Cond.fieldLink RX6 15 "BeatFollower$Reader" "misses" "[I", Cond.fieldLink RX6 31 "BeatFollower$Reader" "missed" "I", Cond.methodLink RX6 47 yX4_signAt]
def wsX6_readBeats : List Cond := .code yX6_readBeats cX6_readBeats 3 none :: ((wsX6_readBeats_r1 ++ wsX6_readBeats_r2) ++ wsX60 ++ wsX40)
def wsX6_readSign : List Cond := .code yX6_readSign cX6_readSign 3 none :: ([.fieldLink RX6 22 "BeatFollower$Reader" "fault" "I", .fieldLink RX6 25 "BeatFollower$Reader" "place" "I", .methodLink RX6 47 yX4_signAt, .instanceMethod yX4_signAt, .selects RX4 yX4_signAt yX4_signAt, .initialized RX4, .code yX4_signAt cX4_signAt 2 (some .int), .fieldLink RX4 15 "BeatFollower$Pad" "length" "I", .fieldLink RX4 9 "BeatFollower$Pad" "signs" "[C"] ++ wsX60 ++ wsX40)
def wsX6_readEvenBeats_r1 : List Cond := [Cond.methodLink RX6 57 yX6_readNumber, Cond.instanceMethod yX6_readNumber, Cond.selects RX6 yX6_readNumber yX6_readNumber, Cond.initialized RX6, Cond.code yX6_readNumber cX6_readNumber 7 (some .int), Cond.fieldLink RX6 22 "BeatFollower$Reader" "fault" "I", Cond.fieldLink RX6 25 "BeatFollower$Reader" "place" "I", Cond.methodLink RX6 65 yX4_digitAt, Cond.instanceMethod yX4_digitAt, Cond.selects RX4 yX4_digitAt yX4_digitAt, Cond.initialized RX4, Cond.code yX4_digitAt cX4_digitAt 3 (some .int), Cond.methodLink RX4 19 yX4_signAt, Cond.instanceMethod yX4_signAt, Cond.selects RX4 yX4_signAt yX4_signAt, Cond.code yX4_signAt cX4_signAt 2 (some .int), Cond.fieldLink RX4 15 "BeatFollower$Pad" "length" "I", Cond.fieldLink RX4 9 "BeatFollower$Pad" "signs" "[C", Cond.methodLink RX6 43 yX6_readSign, Cond.instanceMethod yX6_readSign, Cond.selects RX6 yX6_readSign yX6_readSign, Cond.code yX6_readSign cX6_readSign 3 none, Cond.methodLink RX6 47 yX4_signAt, Cond.methodLink RX6 61 yX6_addBeats]
def wsX6_readEvenBeats_r2 : List Cond := [Cond.instanceMethod yX6_addBeats, Cond.selects RX6 yX6_addBeats yX6_addBeats, Cond.code yX6_addBeats cX6_addBeats 4 none, Cond.fieldLink RX6 18 "BeatFollower$Reader" "many" "I", Cond.fieldLink RX6 9 "BeatFollower$Reader" "gaps" "[I", Cond.fieldLink RX6 28 "BeatFollower$Reader" "laid" "I", Cond.fieldLink RX6 15 "BeatFollower$Reader" "misses" "[I", Cond.fieldLink RX6 31 "BeatFollower$Reader" "missed" "I"]
def wsX6_readEvenBeats : List Cond := .code yX6_readEvenBeats cX6_readEvenBeats 3 none :: ((wsX6_readEvenBeats_r1 ++ wsX6_readEvenBeats_r2) ++ wsX60 ++ wsX40)
def wsX6_readPart_r1 : List Cond := [Cond.fieldLink RX6 22 "BeatFollower$Reader" "fault" "I", Cond.fieldLink RX6 25 "BeatFollower$Reader" "place" "I", Cond.fieldLink RX6 31 "BeatFollower$Reader" "missed" "I", Cond.fieldLink RX6 28 "BeatFollower$Reader" "laid" "I", Cond.methodLink RX6 47 yX4_signAt, Cond.instanceMethod yX4_signAt, Cond.selects RX4 yX4_signAt yX4_signAt, Cond.initialized RX4, Cond.code yX4_signAt cX4_signAt 2 (some .int), Cond.fieldLink RX4 15 "BeatFollower$Pad" "length" "I", Cond.fieldLink RX4 9 "BeatFollower$Pad" "signs" "[C", Cond.methodLink RX6 51 yX6_readBeats, Cond.instanceMethod yX6_readBeats, Cond.selects RX6 yX6_readBeats yX6_readBeats, Cond.initialized RX6, Cond.code yX6_readBeats cX6_readBeats 3 none, Cond.methodLink RX6 57 yX6_readNumber, Cond.instanceMethod yX6_readNumber, Cond.selects RX6 yX6_readNumber yX6_readNumber, Cond.code yX6_readNumber cX6_readNumber 7 (some .int), Cond.methodLink RX6 65 yX4_digitAt, Cond.instanceMethod yX4_digitAt, Cond.selects RX4 yX4_digitAt yX4_digitAt, Cond.code yX4_digitAt cX4_digitAt 3 (some .int)]
def wsX6_readPart_r2 : List Cond := [Cond.methodLink RX4 19 yX4_signAt, Cond.methodLink RX6 61 yX6_addBeats, Cond.instanceMethod yX6_addBeats, Cond.selects RX6 yX6_addBeats yX6_addBeats, Cond.code yX6_addBeats cX6_addBeats 4 none, Cond.fieldLink RX6 18 "BeatFollower$Reader" "many" "I", Cond.fieldLink RX6 9 "BeatFollower$Reader" "gaps" "[I", Cond.fieldLink RX6 15 "BeatFollower$Reader" "misses" "[I", Cond.methodLink RX6 54 yX6_readEvenBeats, Cond.instanceMethod yX6_readEvenBeats, Cond.selects RX6 yX6_readEvenBeats yX6_readEvenBeats, Cond.code yX6_readEvenBeats cX6_readEvenBeats 3 none, Cond.methodLink RX6 43 yX6_readSign, Cond.instanceMethod yX6_readSign, Cond.selects RX6 yX6_readSign yX6_readSign, Cond.code yX6_readSign cX6_readSign 3 none]
def wsX6_readPart : List Cond := .code yX6_readPart cX6_readPart 3 none :: ((wsX6_readPart_r1 ++ wsX6_readPart_r2) ++ wsX60 ++ wsX40)
def wsX6_read_r1 : List Cond := [Cond.fieldLink RX6 18 "BeatFollower$Reader" "many" "I", Cond.fieldLink RX6 22 "BeatFollower$Reader" "fault" "I", Cond.fieldLink RX6 25 "BeatFollower$Reader" "place" "I", Cond.fieldLink RX6 28 "BeatFollower$Reader" "laid" "I", Cond.fieldLink RX6 31 "BeatFollower$Reader" "missed" "I", Cond.fieldLink RX6 38 "BeatFollower$Pad" "length" "I", Cond.methodLink RX6 34 yX6_readPart, Cond.instanceMethod yX6_readPart, Cond.selects RX6 yX6_readPart yX6_readPart, Cond.initialized RX6, Cond.code yX6_readPart cX6_readPart 3 none, Cond.methodLink RX6 47 yX4_signAt, Cond.instanceMethod yX4_signAt, Cond.selects RX4 yX4_signAt yX4_signAt, Cond.initialized RX4, Cond.code yX4_signAt cX4_signAt 2 (some .int), Cond.fieldLink RX4 15 "BeatFollower$Pad" "length" "I", Cond.fieldLink RX4 9 "BeatFollower$Pad" "signs" "[C", Cond.methodLink RX6 51 yX6_readBeats, Cond.instanceMethod yX6_readBeats, Cond.selects RX6 yX6_readBeats yX6_readBeats, Cond.code yX6_readBeats cX6_readBeats 3 none, Cond.methodLink RX6 57 yX6_readNumber, Cond.instanceMethod yX6_readNumber]
def wsX6_read_r2 : List Cond := [Cond.selects RX6 yX6_readNumber yX6_readNumber, Cond.code yX6_readNumber cX6_readNumber 7 (some .int), Cond.methodLink RX6 65 yX4_digitAt, Cond.instanceMethod yX4_digitAt, Cond.selects RX4 yX4_digitAt yX4_digitAt, Cond.code yX4_digitAt cX4_digitAt 3 (some .int), Cond.methodLink RX4 19 yX4_signAt, Cond.methodLink RX6 61 yX6_addBeats, Cond.instanceMethod yX6_addBeats, Cond.selects RX6 yX6_addBeats yX6_addBeats, Cond.code yX6_addBeats cX6_addBeats 4 none, Cond.fieldLink RX6 9 "BeatFollower$Reader" "gaps" "[I", Cond.fieldLink RX6 15 "BeatFollower$Reader" "misses" "[I", Cond.methodLink RX6 54 yX6_readEvenBeats, Cond.instanceMethod yX6_readEvenBeats, Cond.selects RX6 yX6_readEvenBeats yX6_readEvenBeats, Cond.code yX6_readEvenBeats cX6_readEvenBeats 3 none, Cond.methodLink RX6 43 yX6_readSign, Cond.instanceMethod yX6_readSign, Cond.selects RX6 yX6_readSign yX6_readSign, Cond.code yX6_readSign cX6_readSign 3 none]
def wsX6_read : List Cond := .code yX6_read cX6_read 3 none :: ((wsX6_read_r1 ++ wsX6_read_r2) ++ wsX60 ++ wsX40)
def wsX7_isHeard : List Cond := .code yX7_isHeard cX7_isHeard 2 (some .boolean) :: ([.fieldLink RX7 46 "BeatFollower$Scene" "tally" "LBeatFollower$Tally;", .fieldLink RX7 95 "BeatFollower$Tally" "heard" "I"] ++ wsX70 ++ wsX80)
def wsJ9_floorDiv_7cf53 : List Cond := .code yJ9_floorDiv_7cf53 cJ9_floorDiv_7cf53 3 (some .int) :: ([])
def wsX7_halfWindow : List Cond := .code yX7_halfWindow cX7_halfWindow 1 (some .int) :: ([.fieldLink RX7 39 "BeatFollower$Scene" "drummer" "LBeatFollower$Drummer;", .fieldLink RX7 126 "BeatFollower$Drummer" "period" "I", .fieldLink RX7 9 "BeatFollower$Scene" "settings" "[I", .methodLink RX7 129 yJ9_floorDiv_7cf53, .static yJ9_floorDiv_7cf53, .initialized RJ9, .code yJ9_floorDiv_7cf53 cJ9_floorDiv_7cf53 3 (some .int)] ++ wsX70 ++ wsX10)
def wsX7_isWindowOver : List Cond := .code yX7_isWindowOver cX7_isWindowOver 2 (some .boolean) :: ([.fieldLink RX7 39 "BeatFollower$Scene" "drummer" "LBeatFollower$Drummer;", .fieldLink RX7 120 "BeatFollower$Drummer" "nextBlow" "I", .methodLink RX7 123 yX7_halfWindow, .instanceMethod yX7_halfWindow, .selects RX7 yX7_halfWindow yX7_halfWindow, .initialized RX7, .code yX7_halfWindow cX7_halfWindow 1 (some .int), .fieldLink RX7 126 "BeatFollower$Drummer" "period" "I", .fieldLink RX7 9 "BeatFollower$Scene" "settings" "[I", .methodLink RX7 129 yJ9_floorDiv_7cf53, .static yJ9_floorDiv_7cf53, .initialized RJ9, .code yJ9_floorDiv_7cf53 cJ9_floorDiv_7cf53 3 (some .int)] ++ wsX70 ++ wsX10)
def wsX7_loseLock : List Cond := .code yX7_loseLock cX7_loseLock 1 none :: ([.fieldLink RX7 39 "BeatFollower$Scene" "drummer" "LBeatFollower$Drummer;", .fieldLink RX7 132 "BeatFollower$Drummer" "state" "I", .fieldLink RX7 197 "BeatFollower$Drummer" "goodInRow" "I", .fieldLink RX7 200 "BeatFollower$Drummer" "badInRow" "I", .fieldLink RX7 46 "BeatFollower$Scene" "tally" "LBeatFollower$Tally;", .fieldLink RX7 209 "BeatFollower$Tally" "locksLost" "I"] ++ wsX70 ++ wsX10 ++ wsX80)
def wsX7_judge : List Cond := .code yX7_judge cX7_judge 2 none :: ([.fieldLink RX7 39 "BeatFollower$Scene" "drummer" "LBeatFollower$Drummer;", .fieldLink RX7 197 "BeatFollower$Drummer" "goodInRow" "I", .fieldLink RX7 200 "BeatFollower$Drummer" "badInRow" "I", .fieldLink RX7 132 "BeatFollower$Drummer" "state" "I", .fieldLink RX7 9 "BeatFollower$Scene" "settings" "[I", .fieldLink RX7 46 "BeatFollower$Scene" "tally" "LBeatFollower$Tally;", .fieldLink RX7 203 "BeatFollower$Tally" "locksWon" "I", .methodLink RX7 206 yX7_loseLock, .instanceMethod yX7_loseLock, .selects RX7 yX7_loseLock yX7_loseLock, .initialized RX7, .code yX7_loseLock cX7_loseLock 1 none, .fieldLink RX7 209 "BeatFollower$Tally" "locksLost" "I"] ++ wsX70 ++ wsX10 ++ wsX80)
def wsX7_fallSilent : List Cond := .code yX7_fallSilent cX7_fallSilent 1 none :: ([.fieldLink RX7 46 "BeatFollower$Scene" "tally" "LBeatFollower$Tally;", .fieldLink RX7 212 "BeatFollower$Tally" "silences" "I", .fieldLink RX7 39 "BeatFollower$Scene" "drummer" "LBeatFollower$Drummer;", .fieldLink RX7 132 "BeatFollower$Drummer" "state" "I", .fieldLink RX7 197 "BeatFollower$Drummer" "goodInRow" "I", .fieldLink RX7 200 "BeatFollower$Drummer" "badInRow" "I", .fieldLink RX7 179 "BeatFollower$Drummer" "heldInRow" "I", .fieldLink RX7 120 "BeatFollower$Drummer" "nextBlow" "I", .methodLink RX7 206 yX7_loseLock, .instanceMethod yX7_loseLock, .selects RX7 yX7_loseLock yX7_loseLock, .initialized RX7, .code yX7_loseLock cX7_loseLock 1 none, .fieldLink RX7 209 "BeatFollower$Tally" "locksLost" "I"] ++ wsX70 ++ wsX80 ++ wsX10)
def wsX7_holdBlow_r1 : List Cond := [Cond.fieldLink RX7 39 "BeatFollower$Scene" "drummer" "LBeatFollower$Drummer;", Cond.fieldLink RX7 120 "BeatFollower$Drummer" "nextBlow" "I", Cond.fieldLink RX7 126 "BeatFollower$Drummer" "period" "I", Cond.fieldLink RX7 179 "BeatFollower$Drummer" "heldInRow" "I", Cond.fieldLink RX7 46 "BeatFollower$Scene" "tally" "LBeatFollower$Tally;", Cond.fieldLink RX7 191 "BeatFollower$Tally" "held" "I", Cond.fieldLink RX7 132 "BeatFollower$Drummer" "state" "I", Cond.fieldLink RX7 9 "BeatFollower$Scene" "settings" "[I", Cond.fieldLink RX7 32 "BeatFollower$Scene" "blows" "LBeatFollower$Blows;", Cond.methodLink RX7 169 yX7_judge, Cond.instanceMethod yX7_judge, Cond.selects RX7 yX7_judge yX7_judge, Cond.initialized RX7, Cond.code yX7_judge cX7_judge 2 none, Cond.fieldLink RX7 197 "BeatFollower$Drummer" "goodInRow" "I", Cond.fieldLink RX7 200 "BeatFollower$Drummer" "badInRow" "I", Cond.fieldLink RX7 203 "BeatFollower$Tally" "locksWon" "I", Cond.methodLink RX7 206 yX7_loseLock, Cond.instanceMethod yX7_loseLock, Cond.selects RX7 yX7_loseLock yX7_loseLock, Cond.code yX7_loseLock cX7_loseLock 1 none, Cond.fieldLink RX7 209 "BeatFollower$Tally" "locksLost" "I", Cond.methodLink RX7 194 yX7_fallSilent, Cond.instanceMethod yX7_fallSilent]
def wsX7_holdBlow_r2 : List Cond := [Cond.selects RX7 yX7_fallSilent yX7_fallSilent, Cond.code yX7_fallSilent cX7_fallSilent 1 none, Cond.fieldLink RX7 212 "BeatFollower$Tally" "silences" "I", Cond.methodLink RX7 161 yX0_append, Cond.instanceMethod yX0_append, Cond.selects RX0 yX0_append yX0_append, Cond.initialized RX0, Cond.code yX0_append cX0_append 6 none, Cond.fieldLink RX0 24 "BeatFollower$Blows" "many" "I", Cond.fieldLink RX0 9 "BeatFollower$Blows" "times" "[I", Cond.fieldLink RX0 15 "BeatFollower$Blows" "beats" "[I", Cond.fieldLink RX0 18 "BeatFollower$Blows" "periods" "[I", Cond.fieldLink RX0 21 "BeatFollower$Blows" "states" "[I", Cond.methodLink RX0 28 yX0_rowOf, Cond.instanceMethod yX0_rowOf, Cond.selects RX0 yX0_rowOf yX0_rowOf, Cond.code yX0_rowOf cX0_rowOf 2 (some .int)]
def wsX7_holdBlow : List Cond := .code yX7_holdBlow cX7_holdBlow 2 none :: ((wsX7_holdBlow_r1 ++ wsX7_holdBlow_r2) ++ wsX70 ++ wsX10 ++ wsX80 ++ wsX00)
def wsX7_fateAt : List Cond := .code yX7_fateAt cX7_fateAt 2 (some .int) :: ([.fieldLink RX7 39 "BeatFollower$Scene" "drummer" "LBeatFollower$Drummer;", .fieldLink RX7 120 "BeatFollower$Drummer" "nextBlow" "I", .methodLink RX7 123 yX7_halfWindow, .instanceMethod yX7_halfWindow, .selects RX7 yX7_halfWindow yX7_halfWindow, .initialized RX7, .code yX7_halfWindow cX7_halfWindow 1 (some .int), .fieldLink RX7 126 "BeatFollower$Drummer" "period" "I", .fieldLink RX7 9 "BeatFollower$Scene" "settings" "[I", .methodLink RX7 129 yJ9_floorDiv_7cf53, .static yJ9_floorDiv_7cf53, .initialized RJ9, .code yJ9_floorDiv_7cf53 cJ9_floorDiv_7cf53 3 (some .int)] ++ wsX70 ++ wsX10)
def wsX7_strikeWithBeat_r1 : List Cond := [Cond.fieldLink RX7 39 "BeatFollower$Scene" "drummer" "LBeatFollower$Drummer;", Cond.fieldLink RX7 126 "BeatFollower$Drummer" "period" "I", Cond.fieldLink RX7 120 "BeatFollower$Drummer" "nextBlow" "I", Cond.fieldLink RX7 18 "BeatFollower$Scene" "plan" "LBeatFollower$Plan;", Cond.fieldLink RX7 32 "BeatFollower$Scene" "blows" "LBeatFollower$Blows;", Cond.fieldLink RX7 66 "BeatFollower$Blows" "many" "I", Cond.fieldLink RX7 154 "BeatFollower$Drummer" "lead" "I", Cond.fieldLink RX7 25 "BeatFollower$Scene" "fates" "LBeatFollower$Fates;", Cond.fieldLink RX7 132 "BeatFollower$Drummer" "state" "I", Cond.methodLink RX7 151 yX5_numberOf, Cond.instanceMethod yX5_numberOf, Cond.selects RX5 yX5_numberOf yX5_numberOf, Cond.initialized RX5, Cond.code yX5_numberOf cX5_numberOf 2 (some .int), Cond.fieldLink RX5 15 "BeatFollower$Plan" "numbers" "[I", Cond.methodLink RX5 22 yX5_has, Cond.instanceMethod yX5_has, Cond.selects RX5 yX5_has yX5_has, Cond.code yX5_has cX5_has 2 (some .boolean), Cond.fieldLink RX5 18 "BeatFollower$Plan" "many" "I", Cond.methodLink RX7 157 yX2_note, Cond.instanceMethod yX2_note, Cond.selects RX2 yX2_note yX2_note, Cond.initialized RX2]
def wsX7_strikeWithBeat_r2 : List Cond := [Cond.code yX2_note cX2_note 6 none, Cond.fieldLink RX2 9 "BeatFollower$Fates" "kinds" "[I", Cond.fieldLink RX2 15 "BeatFollower$Fates" "blows" "[I", Cond.fieldLink RX2 18 "BeatFollower$Fates" "offs" "[I", Cond.fieldLink RX2 21 "BeatFollower$Fates" "slips" "[I", Cond.methodLink RX2 24 yX2_hasRow, Cond.static yX2_hasRow, Cond.code yX2_hasRow cX2_hasRow 1 (some .boolean), Cond.methodLink RX7 161 yX0_append, Cond.instanceMethod yX0_append, Cond.selects RX0 yX0_append yX0_append, Cond.initialized RX0, Cond.code yX0_append cX0_append 6 none, Cond.fieldLink RX0 24 "BeatFollower$Blows" "many" "I", Cond.fieldLink RX0 9 "BeatFollower$Blows" "times" "[I", Cond.fieldLink RX0 15 "BeatFollower$Blows" "beats" "[I", Cond.fieldLink RX0 18 "BeatFollower$Blows" "periods" "[I", Cond.fieldLink RX0 21 "BeatFollower$Blows" "states" "[I", Cond.methodLink RX0 28 yX0_rowOf, Cond.instanceMethod yX0_rowOf, Cond.selects RX0 yX0_rowOf yX0_rowOf, Cond.code yX0_rowOf cX0_rowOf 2 (some .int)]
def wsX7_strikeWithBeat : List Cond := .code yX7_strikeWithBeat cX7_strikeWithBeat 3 none :: ((wsX7_strikeWithBeat_r1 ++ wsX7_strikeWithBeat_r2) ++ wsX70 ++ wsX10 ++ wsX00 ++ wsX50 ++ wsX20)
def wsX7_passOver_r1 : List Cond := [Cond.fieldLink RX7 46 "BeatFollower$Scene" "tally" "LBeatFollower$Tally;", Cond.fieldLink RX7 165 "BeatFollower$Tally" "passedOver" "I", Cond.fieldLink RX7 25 "BeatFollower$Scene" "fates" "LBeatFollower$Fates;", Cond.constant RX7 168 (100000), Cond.methodLink RX7 157 yX2_note, Cond.instanceMethod yX2_note, Cond.selects RX2 yX2_note yX2_note, Cond.initialized RX2, Cond.code yX2_note cX2_note 6 none, Cond.fieldLink RX2 9 "BeatFollower$Fates" "kinds" "[I", Cond.fieldLink RX2 15 "BeatFollower$Fates" "blows" "[I", Cond.fieldLink RX2 18 "BeatFollower$Fates" "offs" "[I", Cond.fieldLink RX2 21 "BeatFollower$Fates" "slips" "[I", Cond.methodLink RX2 24 yX2_hasRow, Cond.static yX2_hasRow, Cond.code yX2_hasRow cX2_hasRow 1 (some .boolean), Cond.methodLink RX7 169 yX7_judge, Cond.instanceMethod yX7_judge, Cond.selects RX7 yX7_judge yX7_judge, Cond.initialized RX7, Cond.code yX7_judge cX7_judge 2 none, Cond.fieldLink RX7 39 "BeatFollower$Scene" "drummer" "LBeatFollower$Drummer;", Cond.fieldLink RX7 197 "BeatFollower$Drummer" "goodInRow" "I", Cond.fieldLink RX7 200 "BeatFollower$Drummer" "badInRow" "I"]
def wsX7_passOver_r2 : List Cond := [Cond.fieldLink RX7 132 "BeatFollower$Drummer" "state" "I", Cond.fieldLink RX7 9 "BeatFollower$Scene" "settings" "[I", Cond.fieldLink RX7 203 "BeatFollower$Tally" "locksWon" "I", Cond.methodLink RX7 206 yX7_loseLock, Cond.instanceMethod yX7_loseLock, Cond.selects RX7 yX7_loseLock yX7_loseLock, Cond.code yX7_loseLock cX7_loseLock 1 none, Cond.fieldLink RX7 209 "BeatFollower$Tally" "locksLost" "I"]
def wsX7_passOver : List Cond := .code yX7_passOver cX7_passOver 3 none :: ((wsX7_passOver_r1 ++ wsX7_passOver_r2) ++ wsX70 ++ wsX80 ++ wsX20 ++ wsX10)
def wsX7_nudge : List Cond := .code yX7_nudge cX7_nudge 3 none :: ([.fieldLink RX7 39 "BeatFollower$Scene" "drummer" "LBeatFollower$Drummer;", .fieldLink RX7 126 "BeatFollower$Drummer" "period" "I", .fieldLink RX7 9 "BeatFollower$Scene" "settings" "[I", .methodLink RX7 104 Lib.Math.min.name, .static Lib.Math.min.name, .initialized "java/lang/Math", .code Lib.Math.min.name Lib.Math.min.code 2 (some .int), .methodLink RX7 188 Lib.Math.max.name, .static Lib.Math.max.name, .code Lib.Math.max.name Lib.Math.max.code 2 (some .int), .fieldLink RX7 120 "BeatFollower$Drummer" "nextBlow" "I", .methodLink RX7 129 yJ9_floorDiv_7cf53, .static yJ9_floorDiv_7cf53, .initialized RJ9, .code yJ9_floorDiv_7cf53 cJ9_floorDiv_7cf53 3 (some .int)] ++ wsX70 ++ wsX10)
def wsX8_addSlip : List Cond := .code yX8_addSlip cX8_addSlip 2 none :: ([.fieldLink RX8 7 "BeatFollower$Tally" "slipSum" "I", .fieldLink RX8 13 "BeatFollower$Tally" "slipsTold" "I"] ++ wsX80)
def wsX7_takeBeat_r1 : List Cond := [Cond.fieldLink RX7 39 "BeatFollower$Scene" "drummer" "LBeatFollower$Drummer;", Cond.fieldLink RX7 120 "BeatFollower$Drummer" "nextBlow" "I", Cond.methodLink RX7 173 Lib.Math.abs.name, Cond.static Lib.Math.abs.name, Cond.initialized "java/lang/Math", Cond.code Lib.Math.abs.name Lib.Math.abs.code 1 (some .int), Cond.fieldLink RX7 126 "BeatFollower$Drummer" "period" "I", Cond.fieldLink RX7 9 "BeatFollower$Scene" "settings" "[I", Cond.fieldLink RX7 179 "BeatFollower$Drummer" "heldInRow" "I", Cond.fieldLink RX7 46 "BeatFollower$Scene" "tally" "LBeatFollower$Tally;", Cond.fieldLink RX7 182 "BeatFollower$Tally" "offSum" "I", Cond.fieldLink RX7 18 "BeatFollower$Scene" "plan" "LBeatFollower$Plan;", Cond.fieldLink RX7 32 "BeatFollower$Scene" "blows" "LBeatFollower$Blows;", Cond.fieldLink RX7 66 "BeatFollower$Blows" "many" "I", Cond.fieldLink RX7 154 "BeatFollower$Drummer" "lead" "I", Cond.fieldLink RX7 25 "BeatFollower$Scene" "fates" "LBeatFollower$Fates;", Cond.constant RX7 168 (100000), Cond.fieldLink RX7 132 "BeatFollower$Drummer" "state" "I", Cond.methodLink RX7 129 yJ9_floorDiv_7cf53, Cond.static yJ9_floorDiv_7cf53, Cond.initialized RJ9, Cond.code yJ9_floorDiv_7cf53 cJ9_floorDiv_7cf53 3 (some .int), Cond.methodLink RX7 176 yX7_nudge, Cond.instanceMethod yX7_nudge]
def wsX7_takeBeat_r2 : List Cond := [Cond.selects RX7 yX7_nudge yX7_nudge, Cond.initialized RX7, Cond.code yX7_nudge cX7_nudge 3 none, Cond.methodLink RX7 104 Lib.Math.min.name, Cond.static Lib.Math.min.name, Cond.code Lib.Math.min.name Lib.Math.min.code 2 (some .int), Cond.methodLink RX7 188 Lib.Math.max.name, Cond.static Lib.Math.max.name, Cond.code Lib.Math.max.name Lib.Math.max.code 2 (some .int), Cond.methodLink RX7 151 yX5_numberOf, Cond.instanceMethod yX5_numberOf, Cond.selects RX5 yX5_numberOf yX5_numberOf, Cond.initialized RX5, Cond.code yX5_numberOf cX5_numberOf 2 (some .int), Cond.fieldLink RX5 15 "BeatFollower$Plan" "numbers" "[I", Cond.methodLink RX5 22 yX5_has, Cond.instanceMethod yX5_has, Cond.selects RX5 yX5_has yX5_has, Cond.code yX5_has cX5_has 2 (some .boolean), Cond.fieldLink RX5 18 "BeatFollower$Plan" "many" "I", Cond.methodLink RX7 185 yX8_addSlip, Cond.instanceMethod yX8_addSlip, Cond.selects RX8 yX8_addSlip yX8_addSlip, Cond.initialized RX8]
def wsX7_takeBeat_r3 : List Cond := [Cond.code yX8_addSlip cX8_addSlip 2 none, Cond.fieldLink RX8 7 "BeatFollower$Tally" "slipSum" "I", Cond.fieldLink RX8 13 "BeatFollower$Tally" "slipsTold" "I", Cond.methodLink RX7 157 yX2_note, Cond.instanceMethod yX2_note, Cond.selects RX2 yX2_note yX2_note, Cond.initialized RX2, Cond.code yX2_note cX2_note 6 none, Cond.fieldLink RX2 9 "BeatFollower$Fates" "kinds" "[I", Cond.fieldLink RX2 15 "BeatFollower$Fates" "blows" "[I", Cond.fieldLink RX2 18 "BeatFollower$Fates" "offs" "[I", Cond.fieldLink RX2 21 "BeatFollower$Fates" "slips" "[I", Cond.methodLink RX2 24 yX2_hasRow, Cond.static yX2_hasRow, Cond.code yX2_hasRow cX2_hasRow 1 (some .boolean), Cond.methodLink RX7 169 yX7_judge, Cond.instanceMethod yX7_judge, Cond.selects RX7 yX7_judge yX7_judge, Cond.code yX7_judge cX7_judge 2 none, Cond.fieldLink RX7 197 "BeatFollower$Drummer" "goodInRow" "I", Cond.fieldLink RX7 200 "BeatFollower$Drummer" "badInRow" "I", Cond.fieldLink RX7 203 "BeatFollower$Tally" "locksWon" "I", Cond.methodLink RX7 206 yX7_loseLock, Cond.instanceMethod yX7_loseLock]
def wsX7_takeBeat_r4 : List Cond := [Cond.selects RX7 yX7_loseLock yX7_loseLock, Cond.code yX7_loseLock cX7_loseLock 1 none, Cond.fieldLink RX7 209 "BeatFollower$Tally" "locksLost" "I", Cond.methodLink RX7 161 yX0_append, Cond.instanceMethod yX0_append, Cond.selects RX0 yX0_append yX0_append, Cond.initialized RX0, Cond.code yX0_append cX0_append 6 none, Cond.fieldLink RX0 24 "BeatFollower$Blows" "many" "I", Cond.fieldLink RX0 9 "BeatFollower$Blows" "times" "[I", Cond.fieldLink RX0 15 "BeatFollower$Blows" "beats" "[I", Cond.fieldLink RX0 18 "BeatFollower$Blows" "periods" "[I", Cond.fieldLink RX0 21 "BeatFollower$Blows" "states" "[I", Cond.methodLink RX0 28 yX0_rowOf, Cond.instanceMethod yX0_rowOf, Cond.selects RX0 yX0_rowOf yX0_rowOf, Cond.code yX0_rowOf cX0_rowOf 2 (some .int)]
def wsX7_takeBeat : List Cond := .code yX7_takeBeat cX7_takeBeat 7 none :: ((wsX7_takeBeat_r1 ++ (wsX7_takeBeat_r2 ++ (wsX7_takeBeat_r3 ++ wsX7_takeBeat_r4))) ++ wsX70 ++ wsX10 ++ wsX80 ++ wsX00 ++ wsX50 ++ wsX20)
def wsX7_hearBeat_r1 : List Cond := [Cond.fieldLink RX7 18 "BeatFollower$Scene" "plan" "LBeatFollower$Plan;", Cond.fieldLink RX7 39 "BeatFollower$Scene" "drummer" "LBeatFollower$Drummer;", Cond.fieldLink RX7 132 "BeatFollower$Drummer" "state" "I", Cond.fieldLink RX7 46 "BeatFollower$Scene" "tally" "LBeatFollower$Tally;", Cond.fieldLink RX7 135 "BeatFollower$Tally" "heardLocked" "I", Cond.fieldLink RX7 95 "BeatFollower$Tally" "heard" "I", Cond.fieldLink RX7 120 "BeatFollower$Drummer" "nextBlow" "I", Cond.methodLink RX7 99 yX5_timeOf, Cond.instanceMethod yX5_timeOf, Cond.selects RX5 yX5_timeOf yX5_timeOf, Cond.initialized RX5, Cond.code yX5_timeOf cX5_timeOf 2 (some .int), Cond.fieldLink RX5 9 "BeatFollower$Plan" "times" "[I", Cond.methodLink RX5 22 yX5_has, Cond.instanceMethod yX5_has, Cond.selects RX5 yX5_has yX5_has, Cond.code yX5_has cX5_has 2 (some .boolean), Cond.fieldLink RX5 18 "BeatFollower$Plan" "many" "I", Cond.methodLink RX7 138 yX7_fateAt, Cond.instanceMethod yX7_fateAt, Cond.selects RX7 yX7_fateAt yX7_fateAt, Cond.initialized RX7, Cond.code yX7_fateAt cX7_fateAt 2 (some .int), Cond.methodLink RX7 123 yX7_halfWindow]
def wsX7_hearBeat_r2 : List Cond := [Cond.instanceMethod yX7_halfWindow, Cond.selects RX7 yX7_halfWindow yX7_halfWindow, Cond.code yX7_halfWindow cX7_halfWindow 1 (some .int), Cond.fieldLink RX7 126 "BeatFollower$Drummer" "period" "I", Cond.fieldLink RX7 9 "BeatFollower$Scene" "settings" "[I", Cond.methodLink RX7 129 yJ9_floorDiv_7cf53, Cond.static yJ9_floorDiv_7cf53, Cond.initialized RJ9, Cond.code yJ9_floorDiv_7cf53 cJ9_floorDiv_7cf53 3 (some .int), Cond.methodLink RX7 141 yX7_strikeWithBeat, Cond.instanceMethod yX7_strikeWithBeat, Cond.selects RX7 yX7_strikeWithBeat yX7_strikeWithBeat, Cond.code yX7_strikeWithBeat cX7_strikeWithBeat 3 none, Cond.fieldLink RX7 32 "BeatFollower$Scene" "blows" "LBeatFollower$Blows;", Cond.fieldLink RX7 66 "BeatFollower$Blows" "many" "I", Cond.fieldLink RX7 154 "BeatFollower$Drummer" "lead" "I", Cond.fieldLink RX7 25 "BeatFollower$Scene" "fates" "LBeatFollower$Fates;", Cond.methodLink RX7 151 yX5_numberOf, Cond.instanceMethod yX5_numberOf, Cond.selects RX5 yX5_numberOf yX5_numberOf, Cond.code yX5_numberOf cX5_numberOf 2 (some .int), Cond.fieldLink RX5 15 "BeatFollower$Plan" "numbers" "[I", Cond.methodLink RX7 157 yX2_note, Cond.instanceMethod yX2_note]
def wsX7_hearBeat_r3 : List Cond := [Cond.selects RX2 yX2_note yX2_note, Cond.initialized RX2, Cond.code yX2_note cX2_note 6 none, Cond.fieldLink RX2 9 "BeatFollower$Fates" "kinds" "[I", Cond.fieldLink RX2 15 "BeatFollower$Fates" "blows" "[I", Cond.fieldLink RX2 18 "BeatFollower$Fates" "offs" "[I", Cond.fieldLink RX2 21 "BeatFollower$Fates" "slips" "[I", Cond.methodLink RX2 24 yX2_hasRow, Cond.static yX2_hasRow, Cond.code yX2_hasRow cX2_hasRow 1 (some .boolean), Cond.methodLink RX7 161 yX0_append, Cond.instanceMethod yX0_append, Cond.selects RX0 yX0_append yX0_append, Cond.initialized RX0, Cond.code yX0_append cX0_append 6 none, Cond.fieldLink RX0 24 "BeatFollower$Blows" "many" "I", Cond.fieldLink RX0 9 "BeatFollower$Blows" "times" "[I", Cond.fieldLink RX0 15 "BeatFollower$Blows" "beats" "[I", Cond.fieldLink RX0 18 "BeatFollower$Blows" "periods" "[I", Cond.fieldLink RX0 21 "BeatFollower$Blows" "states" "[I", Cond.methodLink RX0 28 yX0_rowOf, Cond.instanceMethod yX0_rowOf, Cond.selects RX0 yX0_rowOf yX0_rowOf, Cond.code yX0_rowOf cX0_rowOf 2 (some .int)]
def wsX7_hearBeat_r4 : List Cond := [Cond.methodLink RX7 145 yX7_passOver, Cond.instanceMethod yX7_passOver, Cond.selects RX7 yX7_passOver yX7_passOver, Cond.code yX7_passOver cX7_passOver 3 none, Cond.fieldLink RX7 165 "BeatFollower$Tally" "passedOver" "I", Cond.constant RX7 168 (100000), Cond.methodLink RX7 169 yX7_judge, Cond.instanceMethod yX7_judge, Cond.selects RX7 yX7_judge yX7_judge, Cond.code yX7_judge cX7_judge 2 none, Cond.fieldLink RX7 197 "BeatFollower$Drummer" "goodInRow" "I", Cond.fieldLink RX7 200 "BeatFollower$Drummer" "badInRow" "I", Cond.fieldLink RX7 203 "BeatFollower$Tally" "locksWon" "I", Cond.methodLink RX7 206 yX7_loseLock, Cond.instanceMethod yX7_loseLock, Cond.selects RX7 yX7_loseLock yX7_loseLock, Cond.code yX7_loseLock cX7_loseLock 1 none, Cond.fieldLink RX7 209 "BeatFollower$Tally" "locksLost" "I", Cond.methodLink RX7 148 yX7_takeBeat, Cond.instanceMethod yX7_takeBeat, Cond.selects RX7 yX7_takeBeat yX7_takeBeat, Cond.code yX7_takeBeat cX7_takeBeat 7 none, Cond.methodLink RX7 173 Lib.Math.abs.name, Cond.static Lib.Math.abs.name]
def wsX7_hearBeat_r5 : List Cond := [Cond.initialized "java/lang/Math", Cond.code Lib.Math.abs.name Lib.Math.abs.code 1 (some .int), Cond.fieldLink RX7 179 "BeatFollower$Drummer" "heldInRow" "I", Cond.fieldLink RX7 182 "BeatFollower$Tally" "offSum" "I", Cond.methodLink RX7 176 yX7_nudge, Cond.instanceMethod yX7_nudge, Cond.selects RX7 yX7_nudge yX7_nudge, Cond.code yX7_nudge cX7_nudge 3 none, Cond.methodLink RX7 104 Lib.Math.min.name, Cond.static Lib.Math.min.name, Cond.code Lib.Math.min.name Lib.Math.min.code 2 (some .int), Cond.methodLink RX7 188 Lib.Math.max.name, Cond.static Lib.Math.max.name, Cond.code Lib.Math.max.name Lib.Math.max.code 2 (some .int), Cond.methodLink RX7 185 yX8_addSlip, Cond.instanceMethod yX8_addSlip, Cond.selects RX8 yX8_addSlip yX8_addSlip, Cond.initialized RX8, Cond.code yX8_addSlip cX8_addSlip 2 none, Cond.fieldLink RX8 7 "BeatFollower$Tally" "slipSum" "I", Cond.fieldLink RX8 13 "BeatFollower$Tally" "slipsTold" "I"]
def wsX7_hearBeat : List Cond := .code yX7_hearBeat cX7_hearBeat 3 none :: ((wsX7_hearBeat_r1 ++ (wsX7_hearBeat_r2 ++ (wsX7_hearBeat_r3 ++ (wsX7_hearBeat_r4 ++ wsX7_hearBeat_r5)))) ++ wsX70 ++ wsX10 ++ wsX80 ++ wsX50 ++ wsX00 ++ wsX20)
def wsX7_runTo_r1 : List Cond := [Cond.fieldLink RX7 46 "BeatFollower$Scene" "tally" "LBeatFollower$Tally;", Cond.fieldLink RX7 95 "BeatFollower$Tally" "heard" "I", Cond.fieldLink RX7 18 "BeatFollower$Scene" "plan" "LBeatFollower$Plan;", Cond.fieldLink RX7 98 "BeatFollower$Plan" "many" "I", Cond.constant RX7 103 (1000000), Cond.methodLink RX7 104 Lib.Math.min.name, Cond.static Lib.Math.min.name, Cond.initialized "java/lang/Math", Cond.code Lib.Math.min.name Lib.Math.min.code 2 (some .int), Cond.fieldLink RX7 62 "BeatFollower$Scene" "time" "I", Cond.methodLink RX7 99 yX5_timeOf, Cond.instanceMethod yX5_timeOf, Cond.selects RX5 yX5_timeOf yX5_timeOf, Cond.initialized RX5, Cond.code yX5_timeOf cX5_timeOf 2 (some .int), Cond.fieldLink RX5 9 "BeatFollower$Plan" "times" "[I", Cond.methodLink RX5 22 yX5_has, Cond.instanceMethod yX5_has, Cond.selects RX5 yX5_has yX5_has, Cond.code yX5_has cX5_has 2 (some .boolean), Cond.fieldLink RX5 18 "BeatFollower$Plan" "many" "I", Cond.methodLink RX7 110 yX7_isWindowOver, Cond.instanceMethod yX7_isWindowOver, Cond.selects RX7 yX7_isWindowOver yX7_isWindowOver]
def wsX7_runTo_r2 : List Cond := [Cond.initialized RX7, Cond.code yX7_isWindowOver cX7_isWindowOver 2 (some .boolean), Cond.fieldLink RX7 39 "BeatFollower$Scene" "drummer" "LBeatFollower$Drummer;", Cond.fieldLink RX7 120 "BeatFollower$Drummer" "nextBlow" "I", Cond.methodLink RX7 123 yX7_halfWindow, Cond.instanceMethod yX7_halfWindow, Cond.selects RX7 yX7_halfWindow yX7_halfWindow, Cond.code yX7_halfWindow cX7_halfWindow 1 (some .int), Cond.fieldLink RX7 126 "BeatFollower$Drummer" "period" "I", Cond.fieldLink RX7 9 "BeatFollower$Scene" "settings" "[I", Cond.methodLink RX7 129 yJ9_floorDiv_7cf53, Cond.static yJ9_floorDiv_7cf53, Cond.initialized RJ9, Cond.code yJ9_floorDiv_7cf53 cJ9_floorDiv_7cf53 3 (some .int), Cond.methodLink RX7 114 yX7_holdBlow, Cond.instanceMethod yX7_holdBlow, Cond.selects RX7 yX7_holdBlow yX7_holdBlow, Cond.code yX7_holdBlow cX7_holdBlow 2 none, Cond.fieldLink RX7 179 "BeatFollower$Drummer" "heldInRow" "I", Cond.fieldLink RX7 191 "BeatFollower$Tally" "held" "I", Cond.fieldLink RX7 132 "BeatFollower$Drummer" "state" "I", Cond.fieldLink RX7 32 "BeatFollower$Scene" "blows" "LBeatFollower$Blows;", Cond.methodLink RX7 169 yX7_judge, Cond.instanceMethod yX7_judge]
def wsX7_runTo_r3 : List Cond := [Cond.selects RX7 yX7_judge yX7_judge, Cond.code yX7_judge cX7_judge 2 none, Cond.fieldLink RX7 197 "BeatFollower$Drummer" "goodInRow" "I", Cond.fieldLink RX7 200 "BeatFollower$Drummer" "badInRow" "I", Cond.fieldLink RX7 203 "BeatFollower$Tally" "locksWon" "I", Cond.methodLink RX7 206 yX7_loseLock, Cond.instanceMethod yX7_loseLock, Cond.selects RX7 yX7_loseLock yX7_loseLock, Cond.code yX7_loseLock cX7_loseLock 1 none, Cond.fieldLink RX7 209 "BeatFollower$Tally" "locksLost" "I", Cond.methodLink RX7 194 yX7_fallSilent, Cond.instanceMethod yX7_fallSilent, Cond.selects RX7 yX7_fallSilent yX7_fallSilent, Cond.code yX7_fallSilent cX7_fallSilent 1 none, Cond.fieldLink RX7 212 "BeatFollower$Tally" "silences" "I", Cond.methodLink RX7 161 yX0_append, Cond.instanceMethod yX0_append, Cond.selects RX0 yX0_append yX0_append, Cond.initialized RX0, Cond.code yX0_append cX0_append 6 none, Cond.fieldLink RX0 24 "BeatFollower$Blows" "many" "I", Cond.fieldLink RX0 9 "BeatFollower$Blows" "times" "[I", Cond.fieldLink RX0 15 "BeatFollower$Blows" "beats" "[I", Cond.fieldLink RX0 18 "BeatFollower$Blows" "periods" "[I"]
def wsX7_runTo_r4 : List Cond := [Cond.fieldLink RX0 21 "BeatFollower$Blows" "states" "[I", Cond.methodLink RX0 28 yX0_rowOf, Cond.instanceMethod yX0_rowOf, Cond.selects RX0 yX0_rowOf yX0_rowOf, Cond.code yX0_rowOf cX0_rowOf 2 (some .int), Cond.methodLink RX7 117 yX7_hearBeat, Cond.instanceMethod yX7_hearBeat, Cond.selects RX7 yX7_hearBeat yX7_hearBeat, Cond.code yX7_hearBeat cX7_hearBeat 3 none, Cond.fieldLink RX7 135 "BeatFollower$Tally" "heardLocked" "I", Cond.methodLink RX7 138 yX7_fateAt, Cond.instanceMethod yX7_fateAt, Cond.selects RX7 yX7_fateAt yX7_fateAt, Cond.code yX7_fateAt cX7_fateAt 2 (some .int), Cond.methodLink RX7 141 yX7_strikeWithBeat, Cond.instanceMethod yX7_strikeWithBeat, Cond.selects RX7 yX7_strikeWithBeat yX7_strikeWithBeat, Cond.code yX7_strikeWithBeat cX7_strikeWithBeat 3 none, Cond.fieldLink RX7 66 "BeatFollower$Blows" "many" "I", Cond.fieldLink RX7 154 "BeatFollower$Drummer" "lead" "I", Cond.fieldLink RX7 25 "BeatFollower$Scene" "fates" "LBeatFollower$Fates;", Cond.methodLink RX7 151 yX5_numberOf, Cond.instanceMethod yX5_numberOf, Cond.selects RX5 yX5_numberOf yX5_numberOf]
def wsX7_runTo_r5 : List Cond := [Cond.code yX5_numberOf cX5_numberOf 2 (some .int), Cond.fieldLink RX5 15 "BeatFollower$Plan" "numbers" "[I", Cond.methodLink RX7 157 yX2_note, Cond.instanceMethod yX2_note, Cond.selects RX2 yX2_note yX2_note, Cond.initialized RX2, Cond.code yX2_note cX2_note 6 none, Cond.fieldLink RX2 9 "BeatFollower$Fates" "kinds" "[I", Cond.fieldLink RX2 15 "BeatFollower$Fates" "blows" "[I", Cond.fieldLink RX2 18 "BeatFollower$Fates" "offs" "[I", Cond.fieldLink RX2 21 "BeatFollower$Fates" "slips" "[I", Cond.methodLink RX2 24 yX2_hasRow, Cond.static yX2_hasRow, Cond.code yX2_hasRow cX2_hasRow 1 (some .boolean), Cond.methodLink RX7 145 yX7_passOver, Cond.instanceMethod yX7_passOver, Cond.selects RX7 yX7_passOver yX7_passOver, Cond.code yX7_passOver cX7_passOver 3 none, Cond.fieldLink RX7 165 "BeatFollower$Tally" "passedOver" "I", Cond.constant RX7 168 (100000), Cond.methodLink RX7 148 yX7_takeBeat, Cond.instanceMethod yX7_takeBeat, Cond.selects RX7 yX7_takeBeat yX7_takeBeat, Cond.code yX7_takeBeat cX7_takeBeat 7 none]
def wsX7_runTo_r6 : List Cond := [Cond.methodLink RX7 173 Lib.Math.abs.name, Cond.static Lib.Math.abs.name, Cond.code Lib.Math.abs.name Lib.Math.abs.code 1 (some .int), Cond.fieldLink RX7 182 "BeatFollower$Tally" "offSum" "I", Cond.methodLink RX7 176 yX7_nudge, Cond.instanceMethod yX7_nudge, Cond.selects RX7 yX7_nudge yX7_nudge, Cond.code yX7_nudge cX7_nudge 3 none, Cond.methodLink RX7 188 Lib.Math.max.name, Cond.static Lib.Math.max.name, Cond.code Lib.Math.max.name Lib.Math.max.code 2 (some .int), Cond.methodLink RX7 185 yX8_addSlip, Cond.instanceMethod yX8_addSlip, Cond.selects RX8 yX8_addSlip yX8_addSlip, Cond.initialized RX8, Cond.code yX8_addSlip cX8_addSlip 2 none, Cond.fieldLink RX8 7 "BeatFollower$Tally" "slipSum" "I", Cond.fieldLink RX8 13 "BeatFollower$Tally" "slipsTold" "I"]
def wsX7_runTo : List Cond := .code yX7_runTo cX7_runTo 4 none :: ((wsX7_runTo_r1 ++ (wsX7_runTo_r2 ++ (wsX7_runTo_r3 ++ (wsX7_runTo_r4 ++ (wsX7_runTo_r5 ++ wsX7_runTo_r6))))) ++ wsX70 ++ wsX80 ++ wsX50 ++ wsX10 ++ wsX00 ++ wsX20)
def wsX9_init_r1 : List Cond := [Cond.methodLink RX9 1 objectInit, Cond.instanceMethod objectInit, Cond.code objectInit ⟨#[0xb1]⟩ 1 none, Cond.classLink RX9 7 RX7, Cond.instantiable RX7 7, Cond.initialized RX7, Cond.fieldLink RX9 10 "BeatFollower" "scene" "LBeatFollower$Scene;", Cond.fieldLink RX9 16 "BeatFollower" "trial" "LBeatFollower$Scene;", Cond.classLink RX9 19 RX3, Cond.instantiable RX3 3, Cond.initialized RX3, Cond.fieldLink RX9 22 "BeatFollower" "history" "LBeatFollower$History;", Cond.fieldLink RX9 26 "BeatFollower" "slots" "[LBeatFollower$Scene;", Cond.arrayClass .boolean, Cond.fieldLink RX9 30 "BeatFollower" "saved" "[Z", Cond.classLink RX9 34 RX4, Cond.instantiable RX4 2, Cond.initialized RX4, Cond.fieldLink RX9 37 "BeatFollower" "pad" "LBeatFollower$Pad;", Cond.classLink RX9 41 RX6, Cond.instantiable RX6 7, Cond.initialized RX6, Cond.fieldLink RX9 44 "BeatFollower" "reader" "LBeatFollower$Reader;", Cond.methodLink RX9 9 yX7_init]
def wsX9_init_r2 : List Cond := [Cond.instanceMethod yX7_init, Cond.code yX7_init cX7_init 1 none, Cond.methodLink RX7 3 objectInit, Cond.arrayClass .int, Cond.fieldLink RX7 9 "BeatFollower$Scene" "settings" "[I", Cond.classLink RX7 15 RX5, Cond.instantiable RX5 3, Cond.initialized RX5, Cond.fieldLink RX7 18 "BeatFollower$Scene" "plan" "LBeatFollower$Plan;", Cond.classLink RX7 22 RX2, Cond.instantiable RX2 4, Cond.initialized RX2, Cond.fieldLink RX7 25 "BeatFollower$Scene" "fates" "LBeatFollower$Fates;", Cond.classLink RX7 29 RX0, Cond.instantiable RX0 5, Cond.initialized RX0, Cond.fieldLink RX7 32 "BeatFollower$Scene" "blows" "LBeatFollower$Blows;", Cond.classLink RX7 36 RX1, Cond.instantiable RX1 7, Cond.initialized RX1, Cond.fieldLink RX7 39 "BeatFollower$Scene" "drummer" "LBeatFollower$Drummer;", Cond.classLink RX7 43 RX8, Cond.instantiable RX8 10, Cond.initialized RX8]
def wsX9_init_r3 : List Cond := [Cond.fieldLink RX7 46 "BeatFollower$Scene" "tally" "LBeatFollower$Tally;", Cond.methodLink RX7 53 arraycopyName, Cond.native arraycopyName, Cond.static arraycopyName, Cond.initialized "java/lang/System", Cond.instanceMethod yX5_init, Cond.code yX5_init cX5_init 1 none, Cond.methodLink RX5 3 objectInit, Cond.fieldLink RX5 9 "BeatFollower$Plan" "times" "[I", Cond.fieldLink RX5 15 "BeatFollower$Plan" "numbers" "[I", Cond.instanceMethod yX2_init, Cond.code yX2_init cX2_init 1 none, Cond.methodLink RX2 3 objectInit, Cond.fieldLink RX2 9 "BeatFollower$Fates" "kinds" "[I", Cond.fieldLink RX2 15 "BeatFollower$Fates" "blows" "[I", Cond.fieldLink RX2 18 "BeatFollower$Fates" "offs" "[I", Cond.fieldLink RX2 21 "BeatFollower$Fates" "slips" "[I", Cond.instanceMethod yX0_init, Cond.code yX0_init cX0_init 1 none, Cond.methodLink RX0 3 objectInit, Cond.fieldLink RX0 9 "BeatFollower$Blows" "times" "[I", Cond.fieldLink RX0 15 "BeatFollower$Blows" "beats" "[I", Cond.fieldLink RX0 18 "BeatFollower$Blows" "periods" "[I", Cond.fieldLink RX0 21 "BeatFollower$Blows" "states" "[I"]
def wsX9_init_r4 : List Cond := [Cond.instanceMethod yX1_init, Cond.code yX1_init cX1_init 1 none, Cond.methodLink RX1 3 objectInit, Cond.instanceMethod yX8_init, Cond.code yX8_init cX8_init 1 none, Cond.methodLink RX8 1 objectInit, Cond.methodLink RX7 59 yX7_begin, Cond.instanceMethod yX7_begin, Cond.selects RX7 yX7_begin yX7_begin, Cond.code yX7_begin cX7_begin 1 none, Cond.fieldLink RX7 62 "BeatFollower$Scene" "time" "I", Cond.fieldLink RX7 66 "BeatFollower$Blows" "many" "I", Cond.methodLink RX7 69 yX8_clear, Cond.instanceMethod yX8_clear, Cond.selects RX8 yX8_clear yX8_clear, Cond.code yX8_clear cX8_clear 1 none, Cond.fieldLink RX8 16 "BeatFollower$Tally" "heard" "I", Cond.fieldLink RX8 19 "BeatFollower$Tally" "passedOver" "I", Cond.fieldLink RX8 22 "BeatFollower$Tally" "held" "I", Cond.fieldLink RX8 25 "BeatFollower$Tally" "locksWon" "I", Cond.fieldLink RX8 28 "BeatFollower$Tally" "locksLost" "I", Cond.fieldLink RX8 31 "BeatFollower$Tally" "silences" "I", Cond.fieldLink RX8 13 "BeatFollower$Tally" "slipsTold" "I", Cond.fieldLink RX8 7 "BeatFollower$Tally" "slipSum" "I"]
def wsX9_init_r5 : List Cond := [Cond.fieldLink RX8 34 "BeatFollower$Tally" "offSum" "I", Cond.fieldLink RX8 37 "BeatFollower$Tally" "heardLocked" "I", Cond.methodLink RX7 72 yX7_firstPeriod, Cond.instanceMethod yX7_firstPeriod, Cond.selects RX7 yX7_firstPeriod yX7_firstPeriod, Cond.code yX7_firstPeriod cX7_firstPeriod 1 (some .int), Cond.methodLink RX7 76 yX1_begin, Cond.instanceMethod yX1_begin, Cond.selects RX1 yX1_begin yX1_begin, Cond.code yX1_begin cX1_begin 2 none, Cond.fieldLink RX1 9 "BeatFollower$Drummer" "state" "I", Cond.fieldLink RX1 15 "BeatFollower$Drummer" "period" "I", Cond.fieldLink RX1 18 "BeatFollower$Drummer" "nextBlow" "I", Cond.fieldLink RX1 21 "BeatFollower$Drummer" "goodInRow" "I", Cond.fieldLink RX1 24 "BeatFollower$Drummer" "badInRow" "I", Cond.fieldLink RX1 27 "BeatFollower$Drummer" "heldInRow" "I", Cond.fieldLink RX1 30 "BeatFollower$Drummer" "lead" "I", Cond.methodLink RX9 21 yX3_init, Cond.instanceMethod yX3_init, Cond.code yX3_init cX3_init 2 none, Cond.methodLink RX3 3 objectInit, Cond.classLink RX3 9 RX7, Cond.fieldLink RX3 11 "BeatFollower$History" "scenes" "[LBeatFollower$Scene;", Cond.methodLink RX3 17 yX7_init]
def wsX9_init_r6 : List Cond := [Cond.instanceMethod yX4_init, Cond.code yX4_init cX4_init 1 none, Cond.methodLink RX4 3 objectInit, Cond.arrayClass .char, Cond.fieldLink RX4 9 "BeatFollower$Pad" "signs" "[C", Cond.instanceMethod yX6_init, Cond.code yX6_init cX6_init 1 none, Cond.methodLink RX6 3 objectInit, Cond.fieldLink RX6 9 "BeatFollower$Reader" "gaps" "[I", Cond.fieldLink RX6 15 "BeatFollower$Reader" "misses" "[I"]
def wsX9_init : List Cond := .code yX9_init cX9_init 2 none :: ((wsX9_init_r1 ++ (wsX9_init_r2 ++ (wsX9_init_r3 ++ (wsX9_init_r4 ++ (wsX9_init_r5 ++ wsX9_init_r6))))) ++ wsX70 ++ wsX90 ++ wsX30 ++ wsX40 ++ wsX60 ++ wsX50 ++ wsX20 ++ wsX00 ++ wsX10 ++ wsX80)
def wsX9_isIn : List Cond := .code yX9_isIn cX9_isIn 3 (some .boolean) :: ([])
def wsX9_isSetting : List Cond := .code yX9_isSetting cX9_isSetting 1 (some .boolean) :: ([.methodLink RX9 83 yX9_isIn, .static yX9_isIn, .initialized RX9, .code yX9_isIn cX9_isIn 3 (some .boolean)])
def wsX9_set_r1 : List Cond := [Cond.fieldLink RX9 52 "BeatFollower" "LOWEST" "[I", Cond.fieldLink RX9 56 "BeatFollower" "HIGHEST" "[I", Cond.fieldLink RX9 10 "BeatFollower" "scene" "LBeatFollower$Scene;", Cond.fieldLink RX9 59 "BeatFollower$Scene" "drummer" "LBeatFollower$Drummer;", Cond.fieldLink RX9 63 "BeatFollower$Drummer" "nextBlow" "I", Cond.fieldLink RX9 22 "BeatFollower" "history" "LBeatFollower$History;", Cond.fieldLink RX9 73 "BeatFollower$Scene" "settings" "[I", Cond.fieldLink RX9 80 "BeatFollower$Drummer" "period" "I", Cond.methodLink RX9 48 yX9_isSetting, Cond.static yX9_isSetting, Cond.initialized RX9, Cond.code yX9_isSetting cX9_isSetting 1 (some .boolean), Cond.methodLink RX9 83 yX9_isIn, Cond.static yX9_isIn, Cond.code yX9_isIn cX9_isIn 3 (some .boolean), Cond.methodLink RX9 69 yX3_record, Cond.instanceMethod yX3_record, Cond.selects RX3 yX3_record yX3_record, Cond.initialized RX3, Cond.code yX3_record cX3_record 2 none, Cond.fieldLink RX3 11 "BeatFollower$History" "scenes" "[LBeatFollower$Scene;", Cond.fieldLink RX3 18 "BeatFollower$History" "next" "I", Cond.fieldLink RX3 32 "BeatFollower$History" "many" "I", Cond.methodLink RX3 35 Lib.Math.min.name]
def wsX9_set_r2 : List Cond := [Cond.static Lib.Math.min.name, Cond.initialized "java/lang/Math", Cond.code Lib.Math.min.name Lib.Math.min.code 2 (some .int), Cond.methodLink RX3 22 yJ9_floorMod_7cf53, Cond.static yJ9_floorMod_7cf53, Cond.initialized RJ9, Cond.code yJ9_floorMod_7cf53 cJ9_floorMod_7cf53 3 (some .int), Cond.methodLink RX3 28 yX7_copyFrom, Cond.instanceMethod yX7_copyFrom, Cond.selects RX7 yX7_copyFrom yX7_copyFrom, Cond.initialized RX7, Cond.code yX7_copyFrom cX7_copyFrom 2 none, Cond.fieldLink RX7 9 "BeatFollower$Scene" "settings" "[I", Cond.methodLink RX7 53 arraycopyName, Cond.native arraycopyName, Cond.static arraycopyName, Cond.initialized "java/lang/System", Cond.fieldLink RX7 18 "BeatFollower$Scene" "plan" "LBeatFollower$Plan;", Cond.fieldLink RX7 25 "BeatFollower$Scene" "fates" "LBeatFollower$Fates;", Cond.fieldLink RX7 32 "BeatFollower$Scene" "blows" "LBeatFollower$Blows;", Cond.fieldLink RX7 39 "BeatFollower$Scene" "drummer" "LBeatFollower$Drummer;", Cond.fieldLink RX7 46 "BeatFollower$Scene" "tally" "LBeatFollower$Tally;", Cond.fieldLink RX7 62 "BeatFollower$Scene" "time" "I", Cond.methodLink RX7 79 yX5_copyFrom]
def wsX9_set_r3 : List Cond := [Cond.instanceMethod yX5_copyFrom, Cond.selects RX5 yX5_copyFrom yX5_copyFrom, Cond.initialized RX5, Cond.code yX5_copyFrom cX5_copyFrom 2 none, Cond.fieldLink RX5 9 "BeatFollower$Plan" "times" "[I", Cond.methodLink RX5 58 arraycopyName, Cond.fieldLink RX5 15 "BeatFollower$Plan" "numbers" "[I", Cond.fieldLink RX5 18 "BeatFollower$Plan" "many" "I", Cond.methodLink RX7 83 yX2_copyFrom, Cond.instanceMethod yX2_copyFrom, Cond.selects RX2 yX2_copyFrom yX2_copyFrom, Cond.initialized RX2, Cond.code yX2_copyFrom cX2_copyFrom 2 none, Cond.fieldLink RX2 9 "BeatFollower$Fates" "kinds" "[I", Cond.methodLink RX2 28 arraycopyName, Cond.fieldLink RX2 15 "BeatFollower$Fates" "blows" "[I", Cond.fieldLink RX2 18 "BeatFollower$Fates" "offs" "[I", Cond.fieldLink RX2 21 "BeatFollower$Fates" "slips" "[I", Cond.methodLink RX7 86 yX0_copyFrom, Cond.instanceMethod yX0_copyFrom, Cond.selects RX0 yX0_copyFrom yX0_copyFrom, Cond.initialized RX0, Cond.code yX0_copyFrom cX0_copyFrom 2 none, Cond.fieldLink RX0 9 "BeatFollower$Blows" "times" "[I"]
def wsX9_set_r4 : List Cond := [Cond.methodLink RX0 32 arraycopyName, Cond.fieldLink RX0 15 "BeatFollower$Blows" "beats" "[I", Cond.fieldLink RX0 18 "BeatFollower$Blows" "periods" "[I", Cond.fieldLink RX0 21 "BeatFollower$Blows" "states" "[I", Cond.fieldLink RX0 24 "BeatFollower$Blows" "many" "I", Cond.methodLink RX7 89 yX1_copyFrom, Cond.instanceMethod yX1_copyFrom, Cond.selects RX1 yX1_copyFrom yX1_copyFrom, Cond.initialized RX1, Cond.code yX1_copyFrom cX1_copyFrom 2 none, Cond.fieldLink RX1 9 "BeatFollower$Drummer" "state" "I", Cond.fieldLink RX1 15 "BeatFollower$Drummer" "period" "I", Cond.fieldLink RX1 18 "BeatFollower$Drummer" "nextBlow" "I", Cond.fieldLink RX1 21 "BeatFollower$Drummer" "goodInRow" "I", Cond.fieldLink RX1 24 "BeatFollower$Drummer" "badInRow" "I", Cond.fieldLink RX1 27 "BeatFollower$Drummer" "heldInRow" "I", Cond.fieldLink RX1 30 "BeatFollower$Drummer" "lead" "I", Cond.methodLink RX7 92 yX8_copyFrom, Cond.instanceMethod yX8_copyFrom, Cond.selects RX8 yX8_copyFrom yX8_copyFrom, Cond.initialized RX8, Cond.code yX8_copyFrom cX8_copyFrom 2 none, Cond.fieldLink RX8 16 "BeatFollower$Tally" "heard" "I", Cond.fieldLink RX8 19 "BeatFollower$Tally" "passedOver" "I"]
def wsX9_set_r5 : List Cond := [Cond.fieldLink RX8 22 "BeatFollower$Tally" "held" "I", Cond.fieldLink RX8 25 "BeatFollower$Tally" "locksWon" "I", Cond.fieldLink RX8 28 "BeatFollower$Tally" "locksLost" "I", Cond.fieldLink RX8 31 "BeatFollower$Tally" "silences" "I", Cond.fieldLink RX8 13 "BeatFollower$Tally" "slipsTold" "I", Cond.fieldLink RX8 7 "BeatFollower$Tally" "slipSum" "I", Cond.fieldLink RX8 34 "BeatFollower$Tally" "offSum" "I", Cond.fieldLink RX8 37 "BeatFollower$Tally" "heardLocked" "I", Cond.methodLink RX9 76 yX7_firstPeriod, Cond.instanceMethod yX7_firstPeriod, Cond.selects RX7 yX7_firstPeriod yX7_firstPeriod, Cond.code yX7_firstPeriod cX7_firstPeriod 1 (some .int)]
def wsX9_set : List Cond := .code yX9_set cX9_set 4 (some .int) :: ((wsX9_set_r1 ++ (wsX9_set_r2 ++ (wsX9_set_r3 ++ (wsX9_set_r4 ++ wsX9_set_r5)))) ++ wsX90 ++ wsX70 ++ wsX10 ++ wsX30 ++ wsX50 ++ wsX20 ++ wsX00 ++ wsX80)
def wsX9_beat_r1 : List Cond := [Cond.fieldLink RX9 10 "BeatFollower" "scene" "LBeatFollower$Scene;", Cond.fieldLink RX9 87 "BeatFollower$Scene" "plan" "LBeatFollower$Plan;", Cond.fieldLink RX9 103 "BeatFollower$Scene" "time" "I", Cond.fieldLink RX9 22 "BeatFollower" "history" "LBeatFollower$History;", Cond.fieldLink RX9 110 "BeatFollower$Plan" "many" "I", Cond.methodLink RX9 83 yX9_isIn, Cond.static yX9_isIn, Cond.initialized RX9, Cond.code yX9_isIn cX9_isIn 3 (some .boolean), Cond.methodLink RX9 91 yX5_lastTime, Cond.instanceMethod yX5_lastTime, Cond.selects RX5 yX5_lastTime yX5_lastTime, Cond.initialized RX5, Cond.code yX5_lastTime cX5_lastTime 1 (some .int), Cond.fieldLink RX5 18 "BeatFollower$Plan" "many" "I", Cond.methodLink RX5 26 yX5_timeOf, Cond.instanceMethod yX5_timeOf, Cond.selects RX5 yX5_timeOf yX5_timeOf, Cond.code yX5_timeOf cX5_timeOf 2 (some .int), Cond.fieldLink RX5 9 "BeatFollower$Plan" "times" "[I", Cond.methodLink RX5 22 yX5_has, Cond.instanceMethod yX5_has, Cond.selects RX5 yX5_has yX5_has, Cond.code yX5_has cX5_has 2 (some .boolean)]
def wsX9_beat_r2 : List Cond := [Cond.methodLink RX9 96 yX5_nextNumber, Cond.instanceMethod yX5_nextNumber, Cond.selects RX5 yX5_nextNumber yX5_nextNumber, Cond.code yX5_nextNumber cX5_nextNumber 1 (some .int), Cond.methodLink RX5 30 yX5_numberOf, Cond.instanceMethod yX5_numberOf, Cond.selects RX5 yX5_numberOf yX5_numberOf, Cond.code yX5_numberOf cX5_numberOf 2 (some .int), Cond.fieldLink RX5 15 "BeatFollower$Plan" "numbers" "[I", Cond.methodLink RX9 99 yX5_canHold, Cond.instanceMethod yX5_canHold, Cond.selects RX5 yX5_canHold yX5_canHold, Cond.code yX5_canHold cX5_canHold 3 (some .boolean), Cond.constant RX5 33 (100000), Cond.methodLink RX9 69 yX3_record, Cond.instanceMethod yX3_record, Cond.selects RX3 yX3_record yX3_record, Cond.initialized RX3, Cond.code yX3_record cX3_record 2 none, Cond.fieldLink RX3 11 "BeatFollower$History" "scenes" "[LBeatFollower$Scene;", Cond.fieldLink RX3 18 "BeatFollower$History" "next" "I", Cond.fieldLink RX3 32 "BeatFollower$History" "many" "I", Cond.methodLink RX3 35 Lib.Math.min.name, Cond.static Lib.Math.min.name]
def wsX9_beat_r3 : List Cond := [Cond.initialized "java/lang/Math", Cond.code Lib.Math.min.name Lib.Math.min.code 2 (some .int), Cond.methodLink RX3 22 yJ9_floorMod_7cf53, Cond.static yJ9_floorMod_7cf53, Cond.initialized RJ9, Cond.code yJ9_floorMod_7cf53 cJ9_floorMod_7cf53 3 (some .int), Cond.methodLink RX3 28 yX7_copyFrom, Cond.instanceMethod yX7_copyFrom, Cond.selects RX7 yX7_copyFrom yX7_copyFrom, Cond.initialized RX7, Cond.code yX7_copyFrom cX7_copyFrom 2 none, Cond.fieldLink RX7 9 "BeatFollower$Scene" "settings" "[I", Cond.methodLink RX7 53 arraycopyName, Cond.native arraycopyName, Cond.static arraycopyName, Cond.initialized "java/lang/System", Cond.fieldLink RX7 18 "BeatFollower$Scene" "plan" "LBeatFollower$Plan;", Cond.fieldLink RX7 25 "BeatFollower$Scene" "fates" "LBeatFollower$Fates;", Cond.fieldLink RX7 32 "BeatFollower$Scene" "blows" "LBeatFollower$Blows;", Cond.fieldLink RX7 39 "BeatFollower$Scene" "drummer" "LBeatFollower$Drummer;", Cond.fieldLink RX7 46 "BeatFollower$Scene" "tally" "LBeatFollower$Tally;", Cond.fieldLink RX7 62 "BeatFollower$Scene" "time" "I", Cond.methodLink RX7 79 yX5_copyFrom, Cond.instanceMethod yX5_copyFrom]
def wsX9_beat_r4 : List Cond := [Cond.selects RX5 yX5_copyFrom yX5_copyFrom, Cond.code yX5_copyFrom cX5_copyFrom 2 none, Cond.methodLink RX5 58 arraycopyName, Cond.methodLink RX7 83 yX2_copyFrom, Cond.instanceMethod yX2_copyFrom, Cond.selects RX2 yX2_copyFrom yX2_copyFrom, Cond.initialized RX2, Cond.code yX2_copyFrom cX2_copyFrom 2 none, Cond.fieldLink RX2 9 "BeatFollower$Fates" "kinds" "[I", Cond.methodLink RX2 28 arraycopyName, Cond.fieldLink RX2 15 "BeatFollower$Fates" "blows" "[I", Cond.fieldLink RX2 18 "BeatFollower$Fates" "offs" "[I", Cond.fieldLink RX2 21 "BeatFollower$Fates" "slips" "[I", Cond.methodLink RX7 86 yX0_copyFrom, Cond.instanceMethod yX0_copyFrom, Cond.selects RX0 yX0_copyFrom yX0_copyFrom, Cond.initialized RX0, Cond.code yX0_copyFrom cX0_copyFrom 2 none, Cond.fieldLink RX0 9 "BeatFollower$Blows" "times" "[I", Cond.methodLink RX0 32 arraycopyName, Cond.fieldLink RX0 15 "BeatFollower$Blows" "beats" "[I", Cond.fieldLink RX0 18 "BeatFollower$Blows" "periods" "[I", Cond.fieldLink RX0 21 "BeatFollower$Blows" "states" "[I", Cond.fieldLink RX0 24 "BeatFollower$Blows" "many" "I"]
def wsX9_beat_r5 : List Cond := [Cond.methodLink RX7 89 yX1_copyFrom, Cond.instanceMethod yX1_copyFrom, Cond.selects RX1 yX1_copyFrom yX1_copyFrom, Cond.initialized RX1, Cond.code yX1_copyFrom cX1_copyFrom 2 none, Cond.fieldLink RX1 9 "BeatFollower$Drummer" "state" "I", Cond.fieldLink RX1 15 "BeatFollower$Drummer" "period" "I", Cond.fieldLink RX1 18 "BeatFollower$Drummer" "nextBlow" "I", Cond.fieldLink RX1 21 "BeatFollower$Drummer" "goodInRow" "I", Cond.fieldLink RX1 24 "BeatFollower$Drummer" "badInRow" "I", Cond.fieldLink RX1 27 "BeatFollower$Drummer" "heldInRow" "I", Cond.fieldLink RX1 30 "BeatFollower$Drummer" "lead" "I", Cond.methodLink RX7 92 yX8_copyFrom, Cond.instanceMethod yX8_copyFrom, Cond.selects RX8 yX8_copyFrom yX8_copyFrom, Cond.initialized RX8, Cond.code yX8_copyFrom cX8_copyFrom 2 none, Cond.fieldLink RX8 16 "BeatFollower$Tally" "heard" "I", Cond.fieldLink RX8 19 "BeatFollower$Tally" "passedOver" "I", Cond.fieldLink RX8 22 "BeatFollower$Tally" "held" "I", Cond.fieldLink RX8 25 "BeatFollower$Tally" "locksWon" "I", Cond.fieldLink RX8 28 "BeatFollower$Tally" "locksLost" "I", Cond.fieldLink RX8 31 "BeatFollower$Tally" "silences" "I", Cond.fieldLink RX8 13 "BeatFollower$Tally" "slipsTold" "I"]
def wsX9_beat_r6 : List Cond := [Cond.fieldLink RX8 7 "BeatFollower$Tally" "slipSum" "I", Cond.fieldLink RX8 34 "BeatFollower$Tally" "offSum" "I", Cond.fieldLink RX8 37 "BeatFollower$Tally" "heardLocked" "I", Cond.methodLink RX9 106 yX5_append, Cond.instanceMethod yX5_append, Cond.selects RX5 yX5_append yX5_append, Cond.code yX5_append cX5_append 3 none]
def wsX9_beat : List Cond := .code yX9_beat cX9_beat 5 (some .int) :: ((wsX9_beat_r1 ++ (wsX9_beat_r2 ++ (wsX9_beat_r3 ++ (wsX9_beat_r4 ++ (wsX9_beat_r5 ++ wsX9_beat_r6))))) ++ wsX90 ++ wsX70 ++ wsX50 ++ wsX30 ++ wsX20 ++ wsX00 ++ wsX10 ++ wsX80)
def wsX9_cut_r1 : List Cond := [Cond.fieldLink RX9 10 "BeatFollower" "scene" "LBeatFollower$Scene;", Cond.fieldLink RX9 87 "BeatFollower$Scene" "plan" "LBeatFollower$Plan;", Cond.fieldLink RX9 110 "BeatFollower$Plan" "many" "I", Cond.fieldLink RX9 113 "BeatFollower$Scene" "tally" "LBeatFollower$Tally;", Cond.fieldLink RX9 117 "BeatFollower$Tally" "heard" "I", Cond.fieldLink RX9 22 "BeatFollower" "history" "LBeatFollower$History;", Cond.methodLink RX9 83 yX9_isIn, Cond.static yX9_isIn, Cond.initialized RX9, Cond.code yX9_isIn cX9_isIn 3 (some .boolean), Cond.methodLink RX9 69 yX3_record, Cond.instanceMethod yX3_record, Cond.selects RX3 yX3_record yX3_record, Cond.initialized RX3, Cond.code yX3_record cX3_record 2 none, Cond.fieldLink RX3 11 "BeatFollower$History" "scenes" "[LBeatFollower$Scene;", Cond.fieldLink RX3 18 "BeatFollower$History" "next" "I", Cond.fieldLink RX3 32 "BeatFollower$History" "many" "I", Cond.methodLink RX3 35 Lib.Math.min.name, Cond.static Lib.Math.min.name, Cond.initialized "java/lang/Math", Cond.code Lib.Math.min.name Lib.Math.min.code 2 (some .int), Cond.methodLink RX3 22 yJ9_floorMod_7cf53, Cond.static yJ9_floorMod_7cf53]
def wsX9_cut_r2 : List Cond := [Cond.initialized RJ9, Cond.code yJ9_floorMod_7cf53 cJ9_floorMod_7cf53 3 (some .int), Cond.methodLink RX3 28 yX7_copyFrom, Cond.instanceMethod yX7_copyFrom, Cond.selects RX7 yX7_copyFrom yX7_copyFrom, Cond.initialized RX7, Cond.code yX7_copyFrom cX7_copyFrom 2 none, Cond.fieldLink RX7 9 "BeatFollower$Scene" "settings" "[I", Cond.methodLink RX7 53 arraycopyName, Cond.native arraycopyName, Cond.static arraycopyName, Cond.initialized "java/lang/System", Cond.fieldLink RX7 18 "BeatFollower$Scene" "plan" "LBeatFollower$Plan;", Cond.fieldLink RX7 25 "BeatFollower$Scene" "fates" "LBeatFollower$Fates;", Cond.fieldLink RX7 32 "BeatFollower$Scene" "blows" "LBeatFollower$Blows;", Cond.fieldLink RX7 39 "BeatFollower$Scene" "drummer" "LBeatFollower$Drummer;", Cond.fieldLink RX7 46 "BeatFollower$Scene" "tally" "LBeatFollower$Tally;", Cond.fieldLink RX7 62 "BeatFollower$Scene" "time" "I", Cond.methodLink RX7 79 yX5_copyFrom, Cond.instanceMethod yX5_copyFrom, Cond.selects RX5 yX5_copyFrom yX5_copyFrom, Cond.initialized RX5, Cond.code yX5_copyFrom cX5_copyFrom 2 none, Cond.fieldLink RX5 9 "BeatFollower$Plan" "times" "[I"]
def wsX9_cut_r3 : List Cond := [Cond.methodLink RX5 58 arraycopyName, Cond.fieldLink RX5 15 "BeatFollower$Plan" "numbers" "[I", Cond.fieldLink RX5 18 "BeatFollower$Plan" "many" "I", Cond.methodLink RX7 83 yX2_copyFrom, Cond.instanceMethod yX2_copyFrom, Cond.selects RX2 yX2_copyFrom yX2_copyFrom, Cond.initialized RX2, Cond.code yX2_copyFrom cX2_copyFrom 2 none, Cond.fieldLink RX2 9 "BeatFollower$Fates" "kinds" "[I", Cond.methodLink RX2 28 arraycopyName, Cond.fieldLink RX2 15 "BeatFollower$Fates" "blows" "[I", Cond.fieldLink RX2 18 "BeatFollower$Fates" "offs" "[I", Cond.fieldLink RX2 21 "BeatFollower$Fates" "slips" "[I", Cond.methodLink RX7 86 yX0_copyFrom, Cond.instanceMethod yX0_copyFrom, Cond.selects RX0 yX0_copyFrom yX0_copyFrom, Cond.initialized RX0, Cond.code yX0_copyFrom cX0_copyFrom 2 none, Cond.fieldLink RX0 9 "BeatFollower$Blows" "times" "[I", Cond.methodLink RX0 32 arraycopyName, Cond.fieldLink RX0 15 "BeatFollower$Blows" "beats" "[I", Cond.fieldLink RX0 18 "BeatFollower$Blows" "periods" "[I", Cond.fieldLink RX0 21 "BeatFollower$Blows" "states" "[I", Cond.fieldLink RX0 24 "BeatFollower$Blows" "many" "I"]
def wsX9_cut_r4 : List Cond := [Cond.methodLink RX7 89 yX1_copyFrom, Cond.instanceMethod yX1_copyFrom, Cond.selects RX1 yX1_copyFrom yX1_copyFrom, Cond.initialized RX1, Cond.code yX1_copyFrom cX1_copyFrom 2 none, Cond.fieldLink RX1 9 "BeatFollower$Drummer" "state" "I", Cond.fieldLink RX1 15 "BeatFollower$Drummer" "period" "I", Cond.fieldLink RX1 18 "BeatFollower$Drummer" "nextBlow" "I", Cond.fieldLink RX1 21 "BeatFollower$Drummer" "goodInRow" "I", Cond.fieldLink RX1 24 "BeatFollower$Drummer" "badInRow" "I", Cond.fieldLink RX1 27 "BeatFollower$Drummer" "heldInRow" "I", Cond.fieldLink RX1 30 "BeatFollower$Drummer" "lead" "I", Cond.methodLink RX7 92 yX8_copyFrom, Cond.instanceMethod yX8_copyFrom, Cond.selects RX8 yX8_copyFrom yX8_copyFrom, Cond.initialized RX8, Cond.code yX8_copyFrom cX8_copyFrom 2 none, Cond.fieldLink RX8 16 "BeatFollower$Tally" "heard" "I", Cond.fieldLink RX8 19 "BeatFollower$Tally" "passedOver" "I", Cond.fieldLink RX8 22 "BeatFollower$Tally" "held" "I", Cond.fieldLink RX8 25 "BeatFollower$Tally" "locksWon" "I", Cond.fieldLink RX8 28 "BeatFollower$Tally" "locksLost" "I", Cond.fieldLink RX8 31 "BeatFollower$Tally" "silences" "I", Cond.fieldLink RX8 13 "BeatFollower$Tally" "slipsTold" "I"]
def wsX9_cut_r5 : List Cond := [Cond.fieldLink RX8 7 "BeatFollower$Tally" "slipSum" "I", Cond.fieldLink RX8 34 "BeatFollower$Tally" "offSum" "I", Cond.fieldLink RX8 37 "BeatFollower$Tally" "heardLocked" "I"]
def wsX9_cut : List Cond := .code yX9_cut cX9_cut 2 (some .int) :: ((wsX9_cut_r1 ++ (wsX9_cut_r2 ++ (wsX9_cut_r3 ++ (wsX9_cut_r4 ++ wsX9_cut_r5)))) ++ wsX90 ++ wsX70 ++ wsX50 ++ wsX80 ++ wsX30 ++ wsX20 ++ wsX00 ++ wsX10)
def wsX9_pass_r1 : List Cond := [Cond.fieldLink RX9 10 "BeatFollower" "scene" "LBeatFollower$Scene;", Cond.fieldLink RX9 103 "BeatFollower$Scene" "time" "I", Cond.constant RX9 122 (120000), Cond.fieldLink RX9 22 "BeatFollower" "history" "LBeatFollower$History;", Cond.methodLink RX9 83 yX9_isIn, Cond.static yX9_isIn, Cond.initialized RX9, Cond.code yX9_isIn cX9_isIn 3 (some .boolean), Cond.methodLink RX9 69 yX3_record, Cond.instanceMethod yX3_record, Cond.selects RX3 yX3_record yX3_record, Cond.initialized RX3, Cond.code yX3_record cX3_record 2 none, Cond.fieldLink RX3 11 "BeatFollower$History" "scenes" "[LBeatFollower$Scene;", Cond.fieldLink RX3 18 "BeatFollower$History" "next" "I", Cond.fieldLink RX3 32 "BeatFollower$History" "many" "I", Cond.methodLink RX3 35 Lib.Math.min.name, Cond.static Lib.Math.min.name, Cond.initialized "java/lang/Math", Cond.code Lib.Math.min.name Lib.Math.min.code 2 (some .int), Cond.methodLink RX3 22 yJ9_floorMod_7cf53, Cond.static yJ9_floorMod_7cf53, Cond.initialized RJ9, Cond.code yJ9_floorMod_7cf53 cJ9_floorMod_7cf53 3 (some .int)]
def wsX9_pass_r2 : List Cond := [Cond.methodLink RX3 28 yX7_copyFrom, Cond.instanceMethod yX7_copyFrom, Cond.selects RX7 yX7_copyFrom yX7_copyFrom, Cond.initialized RX7, Cond.code yX7_copyFrom cX7_copyFrom 2 none, Cond.fieldLink RX7 9 "BeatFollower$Scene" "settings" "[I", Cond.methodLink RX7 53 arraycopyName, Cond.native arraycopyName, Cond.static arraycopyName, Cond.initialized "java/lang/System", Cond.fieldLink RX7 18 "BeatFollower$Scene" "plan" "LBeatFollower$Plan;", Cond.fieldLink RX7 25 "BeatFollower$Scene" "fates" "LBeatFollower$Fates;", Cond.fieldLink RX7 32 "BeatFollower$Scene" "blows" "LBeatFollower$Blows;", Cond.fieldLink RX7 39 "BeatFollower$Scene" "drummer" "LBeatFollower$Drummer;", Cond.fieldLink RX7 46 "BeatFollower$Scene" "tally" "LBeatFollower$Tally;", Cond.fieldLink RX7 62 "BeatFollower$Scene" "time" "I", Cond.methodLink RX7 79 yX5_copyFrom, Cond.instanceMethod yX5_copyFrom, Cond.selects RX5 yX5_copyFrom yX5_copyFrom, Cond.initialized RX5, Cond.code yX5_copyFrom cX5_copyFrom 2 none, Cond.fieldLink RX5 9 "BeatFollower$Plan" "times" "[I", Cond.methodLink RX5 58 arraycopyName, Cond.fieldLink RX5 15 "BeatFollower$Plan" "numbers" "[I"]
def wsX9_pass_r3 : List Cond := [Cond.fieldLink RX5 18 "BeatFollower$Plan" "many" "I", Cond.methodLink RX7 83 yX2_copyFrom, Cond.instanceMethod yX2_copyFrom, Cond.selects RX2 yX2_copyFrom yX2_copyFrom, Cond.initialized RX2, Cond.code yX2_copyFrom cX2_copyFrom 2 none, Cond.fieldLink RX2 9 "BeatFollower$Fates" "kinds" "[I", Cond.methodLink RX2 28 arraycopyName, Cond.fieldLink RX2 15 "BeatFollower$Fates" "blows" "[I", Cond.fieldLink RX2 18 "BeatFollower$Fates" "offs" "[I", Cond.fieldLink RX2 21 "BeatFollower$Fates" "slips" "[I", Cond.methodLink RX7 86 yX0_copyFrom, Cond.instanceMethod yX0_copyFrom, Cond.selects RX0 yX0_copyFrom yX0_copyFrom, Cond.initialized RX0, Cond.code yX0_copyFrom cX0_copyFrom 2 none, Cond.fieldLink RX0 9 "BeatFollower$Blows" "times" "[I", Cond.methodLink RX0 32 arraycopyName, Cond.fieldLink RX0 15 "BeatFollower$Blows" "beats" "[I", Cond.fieldLink RX0 18 "BeatFollower$Blows" "periods" "[I", Cond.fieldLink RX0 21 "BeatFollower$Blows" "states" "[I", Cond.fieldLink RX0 24 "BeatFollower$Blows" "many" "I", Cond.methodLink RX7 89 yX1_copyFrom, Cond.instanceMethod yX1_copyFrom]
def wsX9_pass_r4 : List Cond := [Cond.selects RX1 yX1_copyFrom yX1_copyFrom, Cond.initialized RX1, Cond.code yX1_copyFrom cX1_copyFrom 2 none, Cond.fieldLink RX1 9 "BeatFollower$Drummer" "state" "I", Cond.fieldLink RX1 15 "BeatFollower$Drummer" "period" "I", Cond.fieldLink RX1 18 "BeatFollower$Drummer" "nextBlow" "I", Cond.fieldLink RX1 21 "BeatFollower$Drummer" "goodInRow" "I", Cond.fieldLink RX1 24 "BeatFollower$Drummer" "badInRow" "I", Cond.fieldLink RX1 27 "BeatFollower$Drummer" "heldInRow" "I", Cond.fieldLink RX1 30 "BeatFollower$Drummer" "lead" "I", Cond.methodLink RX7 92 yX8_copyFrom, Cond.instanceMethod yX8_copyFrom, Cond.selects RX8 yX8_copyFrom yX8_copyFrom, Cond.initialized RX8, Cond.code yX8_copyFrom cX8_copyFrom 2 none, Cond.fieldLink RX8 16 "BeatFollower$Tally" "heard" "I", Cond.fieldLink RX8 19 "BeatFollower$Tally" "passedOver" "I", Cond.fieldLink RX8 22 "BeatFollower$Tally" "held" "I", Cond.fieldLink RX8 25 "BeatFollower$Tally" "locksWon" "I", Cond.fieldLink RX8 28 "BeatFollower$Tally" "locksLost" "I", Cond.fieldLink RX8 31 "BeatFollower$Tally" "silences" "I", Cond.fieldLink RX8 13 "BeatFollower$Tally" "slipsTold" "I", Cond.fieldLink RX8 7 "BeatFollower$Tally" "slipSum" "I", Cond.fieldLink RX8 34 "BeatFollower$Tally" "offSum" "I"]
def wsX9_pass_r5 : List Cond := [Cond.fieldLink RX8 37 "BeatFollower$Tally" "heardLocked" "I", Cond.methodLink RX9 123 yX7_runTo, Cond.instanceMethod yX7_runTo, Cond.selects RX7 yX7_runTo yX7_runTo, Cond.code yX7_runTo cX7_runTo 4 none, Cond.fieldLink RX7 95 "BeatFollower$Tally" "heard" "I", Cond.fieldLink RX7 98 "BeatFollower$Plan" "many" "I", Cond.constant RX7 103 (1000000), Cond.methodLink RX7 104 Lib.Math.min.name, Cond.methodLink RX7 99 yX5_timeOf, Cond.instanceMethod yX5_timeOf, Cond.selects RX5 yX5_timeOf yX5_timeOf, Cond.code yX5_timeOf cX5_timeOf 2 (some .int), Cond.methodLink RX5 22 yX5_has, Cond.instanceMethod yX5_has, Cond.selects RX5 yX5_has yX5_has, Cond.code yX5_has cX5_has 2 (some .boolean), Cond.methodLink RX7 110 yX7_isWindowOver, Cond.instanceMethod yX7_isWindowOver, Cond.selects RX7 yX7_isWindowOver yX7_isWindowOver, Cond.code yX7_isWindowOver cX7_isWindowOver 2 (some .boolean), Cond.fieldLink RX7 120 "BeatFollower$Drummer" "nextBlow" "I", Cond.methodLink RX7 123 yX7_halfWindow, Cond.instanceMethod yX7_halfWindow]
def wsX9_pass_r6 : List Cond := [Cond.selects RX7 yX7_halfWindow yX7_halfWindow, Cond.code yX7_halfWindow cX7_halfWindow 1 (some .int), Cond.fieldLink RX7 126 "BeatFollower$Drummer" "period" "I", Cond.methodLink RX7 129 yJ9_floorDiv_7cf53, Cond.static yJ9_floorDiv_7cf53, Cond.code yJ9_floorDiv_7cf53 cJ9_floorDiv_7cf53 3 (some .int), Cond.methodLink RX7 114 yX7_holdBlow, Cond.instanceMethod yX7_holdBlow, Cond.selects RX7 yX7_holdBlow yX7_holdBlow, Cond.code yX7_holdBlow cX7_holdBlow 2 none, Cond.fieldLink RX7 179 "BeatFollower$Drummer" "heldInRow" "I", Cond.fieldLink RX7 191 "BeatFollower$Tally" "held" "I", Cond.fieldLink RX7 132 "BeatFollower$Drummer" "state" "I", Cond.methodLink RX7 169 yX7_judge, Cond.instanceMethod yX7_judge, Cond.selects RX7 yX7_judge yX7_judge, Cond.code yX7_judge cX7_judge 2 none, Cond.fieldLink RX7 197 "BeatFollower$Drummer" "goodInRow" "I", Cond.fieldLink RX7 200 "BeatFollower$Drummer" "badInRow" "I", Cond.fieldLink RX7 203 "BeatFollower$Tally" "locksWon" "I", Cond.methodLink RX7 206 yX7_loseLock, Cond.instanceMethod yX7_loseLock, Cond.selects RX7 yX7_loseLock yX7_loseLock, Cond.code yX7_loseLock cX7_loseLock 1 none]
def wsX9_pass_r7 : List Cond := [Cond.fieldLink RX7 209 "BeatFollower$Tally" "locksLost" "I", Cond.methodLink RX7 194 yX7_fallSilent, Cond.instanceMethod yX7_fallSilent, Cond.selects RX7 yX7_fallSilent yX7_fallSilent, Cond.code yX7_fallSilent cX7_fallSilent 1 none, Cond.fieldLink RX7 212 "BeatFollower$Tally" "silences" "I", Cond.methodLink RX7 161 yX0_append, Cond.instanceMethod yX0_append, Cond.selects RX0 yX0_append yX0_append, Cond.code yX0_append cX0_append 6 none, Cond.methodLink RX0 28 yX0_rowOf, Cond.instanceMethod yX0_rowOf, Cond.selects RX0 yX0_rowOf yX0_rowOf, Cond.code yX0_rowOf cX0_rowOf 2 (some .int), Cond.methodLink RX7 117 yX7_hearBeat, Cond.instanceMethod yX7_hearBeat, Cond.selects RX7 yX7_hearBeat yX7_hearBeat, Cond.code yX7_hearBeat cX7_hearBeat 3 none, Cond.fieldLink RX7 135 "BeatFollower$Tally" "heardLocked" "I", Cond.methodLink RX7 138 yX7_fateAt, Cond.instanceMethod yX7_fateAt, Cond.selects RX7 yX7_fateAt yX7_fateAt, Cond.code yX7_fateAt cX7_fateAt 2 (some .int), Cond.methodLink RX7 141 yX7_strikeWithBeat]
def wsX9_pass_r8 : List Cond := [Cond.instanceMethod yX7_strikeWithBeat, Cond.selects RX7 yX7_strikeWithBeat yX7_strikeWithBeat, Cond.code yX7_strikeWithBeat cX7_strikeWithBeat 3 none, Cond.fieldLink RX7 66 "BeatFollower$Blows" "many" "I", Cond.fieldLink RX7 154 "BeatFollower$Drummer" "lead" "I", Cond.methodLink RX7 151 yX5_numberOf, Cond.instanceMethod yX5_numberOf, Cond.selects RX5 yX5_numberOf yX5_numberOf, Cond.code yX5_numberOf cX5_numberOf 2 (some .int), Cond.methodLink RX7 157 yX2_note, Cond.instanceMethod yX2_note, Cond.selects RX2 yX2_note yX2_note, Cond.code yX2_note cX2_note 6 none, Cond.methodLink RX2 24 yX2_hasRow, Cond.static yX2_hasRow, Cond.code yX2_hasRow cX2_hasRow 1 (some .boolean), Cond.methodLink RX7 145 yX7_passOver, Cond.instanceMethod yX7_passOver, Cond.selects RX7 yX7_passOver yX7_passOver, Cond.code yX7_passOver cX7_passOver 3 none, Cond.fieldLink RX7 165 "BeatFollower$Tally" "passedOver" "I", Cond.constant RX7 168 (100000), Cond.methodLink RX7 148 yX7_takeBeat, Cond.instanceMethod yX7_takeBeat]
def wsX9_pass_r9 : List Cond := [Cond.selects RX7 yX7_takeBeat yX7_takeBeat, Cond.code yX7_takeBeat cX7_takeBeat 7 none, Cond.methodLink RX7 173 Lib.Math.abs.name, Cond.static Lib.Math.abs.name, Cond.code Lib.Math.abs.name Lib.Math.abs.code 1 (some .int), Cond.fieldLink RX7 182 "BeatFollower$Tally" "offSum" "I", Cond.methodLink RX7 176 yX7_nudge, Cond.instanceMethod yX7_nudge, Cond.selects RX7 yX7_nudge yX7_nudge, Cond.code yX7_nudge cX7_nudge 3 none, Cond.methodLink RX7 188 Lib.Math.max.name, Cond.static Lib.Math.max.name, Cond.code Lib.Math.max.name Lib.Math.max.code 2 (some .int), Cond.methodLink RX7 185 yX8_addSlip, Cond.instanceMethod yX8_addSlip, Cond.selects RX8 yX8_addSlip yX8_addSlip, Cond.code yX8_addSlip cX8_addSlip 2 none]
def wsX9_pass : List Cond := .code yX9_pass cX9_pass 2 (some .int) :: ((wsX9_pass_r1 ++ (wsX9_pass_r2 ++ (wsX9_pass_r3 ++ (wsX9_pass_r4 ++ (wsX9_pass_r5 ++ (wsX9_pass_r6 ++ (wsX9_pass_r7 ++ (wsX9_pass_r8 ++ wsX9_pass_r9)))))))) ++ wsX90 ++ wsX70 ++ wsX30 ++ wsX50 ++ wsX20 ++ wsX00 ++ wsX10 ++ wsX80)
def wsX9_anew_r1 : List Cond := [Cond.fieldLink RX9 22 "BeatFollower" "history" "LBeatFollower$History;", Cond.fieldLink RX9 10 "BeatFollower" "scene" "LBeatFollower$Scene;", Cond.fieldLink RX9 87 "BeatFollower$Scene" "plan" "LBeatFollower$Plan;", Cond.fieldLink RX9 110 "BeatFollower$Plan" "many" "I", Cond.methodLink RX9 69 yX3_record, Cond.instanceMethod yX3_record, Cond.selects RX3 yX3_record yX3_record, Cond.initialized RX3, Cond.code yX3_record cX3_record 2 none, Cond.fieldLink RX3 11 "BeatFollower$History" "scenes" "[LBeatFollower$Scene;", Cond.fieldLink RX3 18 "BeatFollower$History" "next" "I", Cond.fieldLink RX3 32 "BeatFollower$History" "many" "I", Cond.methodLink RX3 35 Lib.Math.min.name, Cond.static Lib.Math.min.name, Cond.initialized "java/lang/Math", Cond.code Lib.Math.min.name Lib.Math.min.code 2 (some .int), Cond.methodLink RX3 22 yJ9_floorMod_7cf53, Cond.static yJ9_floorMod_7cf53, Cond.initialized RJ9, Cond.code yJ9_floorMod_7cf53 cJ9_floorMod_7cf53 3 (some .int), Cond.methodLink RX3 28 yX7_copyFrom, Cond.instanceMethod yX7_copyFrom, Cond.selects RX7 yX7_copyFrom yX7_copyFrom, Cond.initialized RX7]
def wsX9_anew_r2 : List Cond := [Cond.code yX7_copyFrom cX7_copyFrom 2 none, Cond.fieldLink RX7 9 "BeatFollower$Scene" "settings" "[I", Cond.methodLink RX7 53 arraycopyName, Cond.native arraycopyName, Cond.static arraycopyName, Cond.initialized "java/lang/System", Cond.fieldLink RX7 18 "BeatFollower$Scene" "plan" "LBeatFollower$Plan;", Cond.fieldLink RX7 25 "BeatFollower$Scene" "fates" "LBeatFollower$Fates;", Cond.fieldLink RX7 32 "BeatFollower$Scene" "blows" "LBeatFollower$Blows;", Cond.fieldLink RX7 39 "BeatFollower$Scene" "drummer" "LBeatFollower$Drummer;", Cond.fieldLink RX7 46 "BeatFollower$Scene" "tally" "LBeatFollower$Tally;", Cond.fieldLink RX7 62 "BeatFollower$Scene" "time" "I", Cond.methodLink RX7 79 yX5_copyFrom, Cond.instanceMethod yX5_copyFrom, Cond.selects RX5 yX5_copyFrom yX5_copyFrom, Cond.initialized RX5, Cond.code yX5_copyFrom cX5_copyFrom 2 none, Cond.fieldLink RX5 9 "BeatFollower$Plan" "times" "[I", Cond.methodLink RX5 58 arraycopyName, Cond.fieldLink RX5 15 "BeatFollower$Plan" "numbers" "[I", Cond.fieldLink RX5 18 "BeatFollower$Plan" "many" "I", Cond.methodLink RX7 83 yX2_copyFrom, Cond.instanceMethod yX2_copyFrom, Cond.selects RX2 yX2_copyFrom yX2_copyFrom]
def wsX9_anew_r3 : List Cond := [Cond.initialized RX2, Cond.code yX2_copyFrom cX2_copyFrom 2 none, Cond.fieldLink RX2 9 "BeatFollower$Fates" "kinds" "[I", Cond.methodLink RX2 28 arraycopyName, Cond.fieldLink RX2 15 "BeatFollower$Fates" "blows" "[I", Cond.fieldLink RX2 18 "BeatFollower$Fates" "offs" "[I", Cond.fieldLink RX2 21 "BeatFollower$Fates" "slips" "[I", Cond.methodLink RX7 86 yX0_copyFrom, Cond.instanceMethod yX0_copyFrom, Cond.selects RX0 yX0_copyFrom yX0_copyFrom, Cond.initialized RX0, Cond.code yX0_copyFrom cX0_copyFrom 2 none, Cond.fieldLink RX0 9 "BeatFollower$Blows" "times" "[I", Cond.methodLink RX0 32 arraycopyName, Cond.fieldLink RX0 15 "BeatFollower$Blows" "beats" "[I", Cond.fieldLink RX0 18 "BeatFollower$Blows" "periods" "[I", Cond.fieldLink RX0 21 "BeatFollower$Blows" "states" "[I", Cond.fieldLink RX0 24 "BeatFollower$Blows" "many" "I", Cond.methodLink RX7 89 yX1_copyFrom, Cond.instanceMethod yX1_copyFrom, Cond.selects RX1 yX1_copyFrom yX1_copyFrom, Cond.initialized RX1, Cond.code yX1_copyFrom cX1_copyFrom 2 none, Cond.fieldLink RX1 9 "BeatFollower$Drummer" "state" "I"]
def wsX9_anew_r4 : List Cond := [Cond.fieldLink RX1 15 "BeatFollower$Drummer" "period" "I", Cond.fieldLink RX1 18 "BeatFollower$Drummer" "nextBlow" "I", Cond.fieldLink RX1 21 "BeatFollower$Drummer" "goodInRow" "I", Cond.fieldLink RX1 24 "BeatFollower$Drummer" "badInRow" "I", Cond.fieldLink RX1 27 "BeatFollower$Drummer" "heldInRow" "I", Cond.fieldLink RX1 30 "BeatFollower$Drummer" "lead" "I", Cond.methodLink RX7 92 yX8_copyFrom, Cond.instanceMethod yX8_copyFrom, Cond.selects RX8 yX8_copyFrom yX8_copyFrom, Cond.initialized RX8, Cond.code yX8_copyFrom cX8_copyFrom 2 none, Cond.fieldLink RX8 16 "BeatFollower$Tally" "heard" "I", Cond.fieldLink RX8 19 "BeatFollower$Tally" "passedOver" "I", Cond.fieldLink RX8 22 "BeatFollower$Tally" "held" "I", Cond.fieldLink RX8 25 "BeatFollower$Tally" "locksWon" "I", Cond.fieldLink RX8 28 "BeatFollower$Tally" "locksLost" "I", Cond.fieldLink RX8 31 "BeatFollower$Tally" "silences" "I", Cond.fieldLink RX8 13 "BeatFollower$Tally" "slipsTold" "I", Cond.fieldLink RX8 7 "BeatFollower$Tally" "slipSum" "I", Cond.fieldLink RX8 34 "BeatFollower$Tally" "offSum" "I", Cond.fieldLink RX8 37 "BeatFollower$Tally" "heardLocked" "I", Cond.methodLink RX9 127 yX7_begin, Cond.instanceMethod yX7_begin, Cond.selects RX7 yX7_begin yX7_begin]
def wsX9_anew_r5 : List Cond := [Cond.code yX7_begin cX7_begin 1 none, Cond.fieldLink RX7 66 "BeatFollower$Blows" "many" "I", Cond.methodLink RX7 69 yX8_clear, Cond.instanceMethod yX8_clear, Cond.selects RX8 yX8_clear yX8_clear, Cond.code yX8_clear cX8_clear 1 none, Cond.methodLink RX7 72 yX7_firstPeriod, Cond.instanceMethod yX7_firstPeriod, Cond.selects RX7 yX7_firstPeriod yX7_firstPeriod, Cond.code yX7_firstPeriod cX7_firstPeriod 1 (some .int), Cond.methodLink RX7 76 yX1_begin, Cond.instanceMethod yX1_begin, Cond.selects RX1 yX1_begin yX1_begin, Cond.code yX1_begin cX1_begin 2 none]
def wsX9_anew : List Cond := .code yX9_anew cX9_anew 1 (some .int) :: ((wsX9_anew_r1 ++ (wsX9_anew_r2 ++ (wsX9_anew_r3 ++ (wsX9_anew_r4 ++ wsX9_anew_r5)))) ++ wsX90 ++ wsX70 ++ wsX50 ++ wsX30 ++ wsX20 ++ wsX00 ++ wsX10 ++ wsX80)
def wsX9_ofBeat_r1 : List Cond := [Cond.fieldLink RX9 10 "BeatFollower" "scene" "LBeatFollower$Scene;", Cond.fieldLink RX9 87 "BeatFollower$Scene" "plan" "LBeatFollower$Plan;", Cond.fieldLink RX9 143 "BeatFollower$Scene" "fates" "LBeatFollower$Fates;", Cond.methodLink RX9 130 yX5_has, Cond.instanceMethod yX5_has, Cond.selects RX5 yX5_has yX5_has, Cond.initialized RX5, Cond.code yX5_has cX5_has 2 (some .boolean), Cond.fieldLink RX5 18 "BeatFollower$Plan" "many" "I", Cond.methodLink RX9 133 yX5_timeOf, Cond.instanceMethod yX5_timeOf, Cond.selects RX5 yX5_timeOf yX5_timeOf, Cond.code yX5_timeOf cX5_timeOf 2 (some .int), Cond.fieldLink RX5 9 "BeatFollower$Plan" "times" "[I", Cond.methodLink RX5 22 yX5_has, Cond.methodLink RX9 137 yX5_numberOf, Cond.instanceMethod yX5_numberOf, Cond.selects RX5 yX5_numberOf yX5_numberOf, Cond.code yX5_numberOf cX5_numberOf 2 (some .int), Cond.fieldLink RX5 15 "BeatFollower$Plan" "numbers" "[I", Cond.methodLink RX9 140 yX7_isHeard, Cond.instanceMethod yX7_isHeard, Cond.selects RX7 yX7_isHeard yX7_isHeard, Cond.initialized RX7]
def wsX9_ofBeat_r2 : List Cond := [Cond.code yX7_isHeard cX7_isHeard 2 (some .boolean), Cond.fieldLink RX7 46 "BeatFollower$Scene" "tally" "LBeatFollower$Tally;", Cond.fieldLink RX7 95 "BeatFollower$Tally" "heard" "I", Cond.methodLink RX9 147 yX2_kindOf, Cond.instanceMethod yX2_kindOf, Cond.selects RX2 yX2_kindOf yX2_kindOf, Cond.initialized RX2, Cond.code yX2_kindOf cX2_kindOf 2 (some .int), Cond.fieldLink RX2 9 "BeatFollower$Fates" "kinds" "[I", Cond.methodLink RX2 24 yX2_hasRow, Cond.static yX2_hasRow, Cond.code yX2_hasRow cX2_hasRow 1 (some .boolean), Cond.methodLink RX9 152 yX2_blowOf, Cond.instanceMethod yX2_blowOf, Cond.selects RX2 yX2_blowOf yX2_blowOf, Cond.code yX2_blowOf cX2_blowOf 2 (some .int), Cond.fieldLink RX2 15 "BeatFollower$Fates" "blows" "[I", Cond.methodLink RX9 155 yX2_offOf, Cond.instanceMethod yX2_offOf, Cond.selects RX2 yX2_offOf yX2_offOf, Cond.code yX2_offOf cX2_offOf 2 (some .int), Cond.fieldLink RX2 18 "BeatFollower$Fates" "offs" "[I", Cond.methodLink RX9 158 yX2_slipOf, Cond.instanceMethod yX2_slipOf]
def wsX9_ofBeat_r3 : List Cond := [Cond.selects RX2 yX2_slipOf yX2_slipOf, Cond.code yX2_slipOf cX2_slipOf 2 (some .int), Cond.fieldLink RX2 21 "BeatFollower$Fates" "slips" "[I"]
def wsX9_ofBeat : List Cond := .code yX9_ofBeat cX9_ofBeat 3 (some .int) :: ((wsX9_ofBeat_r1 ++ (wsX9_ofBeat_r2 ++ wsX9_ofBeat_r3)) ++ wsX90 ++ wsX70 ++ wsX50 ++ wsX80 ++ wsX20)
def wsX9_ofBlow : List Cond := .code yX9_ofBlow cX9_ofBlow 4 (some .int) :: ([.fieldLink RX9 10 "BeatFollower" "scene" "LBeatFollower$Scene;", .fieldLink RX9 161 "BeatFollower$Scene" "blows" "LBeatFollower$Blows;", .fieldLink RX9 171 "BeatFollower$Blows" "times" "[I", .fieldLink RX9 174 "BeatFollower$Blows" "beats" "[I", .fieldLink RX9 177 "BeatFollower$Blows" "periods" "[I", .fieldLink RX9 180 "BeatFollower$Blows" "states" "[I", .methodLink RX9 165 yX0_has, .instanceMethod yX0_has, .selects RX0 yX0_has yX0_has, .initialized RX0, .code yX0_has cX0_has 2 (some .boolean), .fieldLink RX0 24 "BeatFollower$Blows" "many" "I", .methodLink RX9 168 yX0_rowOf, .instanceMethod yX0_rowOf, .selects RX0 yX0_rowOf yX0_rowOf, .code yX0_rowOf cX0_rowOf 2 (some .int)] ++ wsX90 ++ wsX70 ++ wsX00)
def wsX9_count_r1 : List Cond := [Cond.fieldLink RX9 10 "BeatFollower" "scene" "LBeatFollower$Scene;", Cond.fieldLink RX9 73 "BeatFollower$Scene" "settings" "[I", Cond.fieldLink RX9 103 "BeatFollower$Scene" "time" "I", Cond.fieldLink RX9 59 "BeatFollower$Scene" "drummer" "LBeatFollower$Drummer;", Cond.fieldLink RX9 183 "BeatFollower$Drummer" "state" "I", Cond.fieldLink RX9 80 "BeatFollower$Drummer" "period" "I", Cond.fieldLink RX9 63 "BeatFollower$Drummer" "nextBlow" "I", Cond.fieldLink RX9 161 "BeatFollower$Scene" "blows" "LBeatFollower$Blows;", Cond.fieldLink RX9 186 "BeatFollower$Blows" "many" "I", Cond.fieldLink RX9 113 "BeatFollower$Scene" "tally" "LBeatFollower$Tally;", Cond.fieldLink RX9 187 "BeatFollower$Tally" "held" "I", Cond.fieldLink RX9 117 "BeatFollower$Tally" "heard" "I", Cond.fieldLink RX9 190 "BeatFollower$Tally" "passedOver" "I", Cond.fieldLink RX9 193 "BeatFollower$Tally" "locksWon" "I", Cond.fieldLink RX9 196 "BeatFollower$Tally" "locksLost" "I", Cond.fieldLink RX9 199 "BeatFollower$Tally" "slipsTold" "I", Cond.fieldLink RX9 202 "BeatFollower$Drummer" "goodInRow" "I", Cond.fieldLink RX9 205 "BeatFollower$Drummer" "badInRow" "I", Cond.fieldLink RX9 208 "BeatFollower$Drummer" "heldInRow" "I", Cond.fieldLink RX9 87 "BeatFollower$Scene" "plan" "LBeatFollower$Plan;", Cond.fieldLink RX9 110 "BeatFollower$Plan" "many" "I", Cond.fieldLink RX9 211 "BeatFollower$Tally" "silences" "I", Cond.fieldLink RX9 37 "BeatFollower" "pad" "LBeatFollower$Pad;", Cond.fieldLink RX9 214 "BeatFollower$Pad" "length" "I"]
def wsX9_count_r2 : List Cond := [Cond.fieldLink RX9 22 "BeatFollower" "history" "LBeatFollower$History;", Cond.fieldLink RX9 217 "BeatFollower$History" "many" "I", Cond.methodLink RX9 83 yX9_isIn, Cond.static yX9_isIn, Cond.initialized RX9, Cond.code yX9_isIn cX9_isIn 3 (some .boolean)]
def wsX9_count : List Cond := .code yX9_count cX9_count 2 (some .int) :: ((wsX9_count_r1 ++ wsX9_count_r2) ++ wsX90 ++ wsX70 ++ wsX10 ++ wsX00 ++ wsX80 ++ wsX50 ++ wsX40 ++ wsX30)
def wsX9_slips : List Cond := .code yX9_slips cX9_slips 1 (some .int) :: ([.constant RX9 218 (100000), .fieldLink RX9 10 "BeatFollower" "scene" "LBeatFollower$Scene;", .fieldLink RX9 113 "BeatFollower$Scene" "tally" "LBeatFollower$Tally;", .fieldLink RX9 219 "BeatFollower$Tally" "slipSum" "I"] ++ wsX90 ++ wsX70 ++ wsX80)
def wsX9_nextBlow : List Cond := .code yX9_nextBlow cX9_nextBlow 4 (some .int) :: ([.fieldLink RX9 10 "BeatFollower" "scene" "LBeatFollower$Scene;", .fieldLink RX9 59 "BeatFollower$Scene" "drummer" "LBeatFollower$Drummer;", .fieldLink RX9 63 "BeatFollower$Drummer" "nextBlow" "I", .fieldLink RX9 208 "BeatFollower$Drummer" "heldInRow" "I", .fieldLink RX9 73 "BeatFollower$Scene" "settings" "[I", .fieldLink RX9 80 "BeatFollower$Drummer" "period" "I", .methodLink RX9 83 yX9_isIn, .static yX9_isIn, .initialized RX9, .code yX9_isIn cX9_isIn 3 (some .boolean)] ++ wsX90 ++ wsX70 ++ wsX10)
def wsX9_ifHeard_r1 : List Cond := [Cond.fieldLink RX9 16 "BeatFollower" "trial" "LBeatFollower$Scene;", Cond.fieldLink RX9 10 "BeatFollower" "scene" "LBeatFollower$Scene;", Cond.fieldLink RX9 87 "BeatFollower$Scene" "plan" "LBeatFollower$Plan;", Cond.fieldLink RX9 113 "BeatFollower$Scene" "tally" "LBeatFollower$Tally;", Cond.fieldLink RX9 117 "BeatFollower$Tally" "heard" "I", Cond.fieldLink RX9 110 "BeatFollower$Plan" "many" "I", Cond.fieldLink RX9 103 "BeatFollower$Scene" "time" "I", Cond.methodLink RX9 83 yX9_isIn, Cond.static yX9_isIn, Cond.initialized RX9, Cond.code yX9_isIn cX9_isIn 3 (some .boolean), Cond.methodLink RX9 222 yX7_copyFrom, Cond.instanceMethod yX7_copyFrom, Cond.selects RX7 yX7_copyFrom yX7_copyFrom, Cond.initialized RX7, Cond.code yX7_copyFrom cX7_copyFrom 2 none, Cond.fieldLink RX7 9 "BeatFollower$Scene" "settings" "[I", Cond.methodLink RX7 53 arraycopyName, Cond.native arraycopyName, Cond.static arraycopyName, Cond.initialized "java/lang/System", Cond.fieldLink RX7 18 "BeatFollower$Scene" "plan" "LBeatFollower$Plan;", Cond.fieldLink RX7 25 "BeatFollower$Scene" "fates" "LBeatFollower$Fates;", Cond.fieldLink RX7 32 "BeatFollower$Scene" "blows" "LBeatFollower$Blows;"]
def wsX9_ifHeard_r2 : List Cond := [Cond.fieldLink RX7 39 "BeatFollower$Scene" "drummer" "LBeatFollower$Drummer;", Cond.fieldLink RX7 46 "BeatFollower$Scene" "tally" "LBeatFollower$Tally;", Cond.fieldLink RX7 62 "BeatFollower$Scene" "time" "I", Cond.methodLink RX7 79 yX5_copyFrom, Cond.instanceMethod yX5_copyFrom, Cond.selects RX5 yX5_copyFrom yX5_copyFrom, Cond.initialized RX5, Cond.code yX5_copyFrom cX5_copyFrom 2 none, Cond.fieldLink RX5 9 "BeatFollower$Plan" "times" "[I", Cond.methodLink RX5 58 arraycopyName, Cond.fieldLink RX5 15 "BeatFollower$Plan" "numbers" "[I", Cond.fieldLink RX5 18 "BeatFollower$Plan" "many" "I", Cond.methodLink RX7 83 yX2_copyFrom, Cond.instanceMethod yX2_copyFrom, Cond.selects RX2 yX2_copyFrom yX2_copyFrom, Cond.initialized RX2, Cond.code yX2_copyFrom cX2_copyFrom 2 none, Cond.fieldLink RX2 9 "BeatFollower$Fates" "kinds" "[I", Cond.methodLink RX2 28 arraycopyName, Cond.fieldLink RX2 15 "BeatFollower$Fates" "blows" "[I", Cond.fieldLink RX2 18 "BeatFollower$Fates" "offs" "[I", Cond.fieldLink RX2 21 "BeatFollower$Fates" "slips" "[I", Cond.methodLink RX7 86 yX0_copyFrom, Cond.instanceMethod yX0_copyFrom]
def wsX9_ifHeard_r3 : List Cond := [Cond.selects RX0 yX0_copyFrom yX0_copyFrom, Cond.initialized RX0, Cond.code yX0_copyFrom cX0_copyFrom 2 none, Cond.fieldLink RX0 9 "BeatFollower$Blows" "times" "[I", Cond.methodLink RX0 32 arraycopyName, Cond.fieldLink RX0 15 "BeatFollower$Blows" "beats" "[I", Cond.fieldLink RX0 18 "BeatFollower$Blows" "periods" "[I", Cond.fieldLink RX0 21 "BeatFollower$Blows" "states" "[I", Cond.fieldLink RX0 24 "BeatFollower$Blows" "many" "I", Cond.methodLink RX7 89 yX1_copyFrom, Cond.instanceMethod yX1_copyFrom, Cond.selects RX1 yX1_copyFrom yX1_copyFrom, Cond.initialized RX1, Cond.code yX1_copyFrom cX1_copyFrom 2 none, Cond.fieldLink RX1 9 "BeatFollower$Drummer" "state" "I", Cond.fieldLink RX1 15 "BeatFollower$Drummer" "period" "I", Cond.fieldLink RX1 18 "BeatFollower$Drummer" "nextBlow" "I", Cond.fieldLink RX1 21 "BeatFollower$Drummer" "goodInRow" "I", Cond.fieldLink RX1 24 "BeatFollower$Drummer" "badInRow" "I", Cond.fieldLink RX1 27 "BeatFollower$Drummer" "heldInRow" "I", Cond.fieldLink RX1 30 "BeatFollower$Drummer" "lead" "I", Cond.methodLink RX7 92 yX8_copyFrom, Cond.instanceMethod yX8_copyFrom, Cond.selects RX8 yX8_copyFrom yX8_copyFrom]
def wsX9_ifHeard_r4 : List Cond := [Cond.initialized RX8, Cond.code yX8_copyFrom cX8_copyFrom 2 none, Cond.fieldLink RX8 16 "BeatFollower$Tally" "heard" "I", Cond.fieldLink RX8 19 "BeatFollower$Tally" "passedOver" "I", Cond.fieldLink RX8 22 "BeatFollower$Tally" "held" "I", Cond.fieldLink RX8 25 "BeatFollower$Tally" "locksWon" "I", Cond.fieldLink RX8 28 "BeatFollower$Tally" "locksLost" "I", Cond.fieldLink RX8 31 "BeatFollower$Tally" "silences" "I", Cond.fieldLink RX8 13 "BeatFollower$Tally" "slipsTold" "I", Cond.fieldLink RX8 7 "BeatFollower$Tally" "slipSum" "I", Cond.fieldLink RX8 34 "BeatFollower$Tally" "offSum" "I", Cond.fieldLink RX8 37 "BeatFollower$Tally" "heardLocked" "I", Cond.methodLink RX9 123 yX7_runTo, Cond.instanceMethod yX7_runTo, Cond.selects RX7 yX7_runTo yX7_runTo, Cond.code yX7_runTo cX7_runTo 4 none, Cond.fieldLink RX7 95 "BeatFollower$Tally" "heard" "I", Cond.fieldLink RX7 98 "BeatFollower$Plan" "many" "I", Cond.constant RX7 103 (1000000), Cond.methodLink RX7 104 Lib.Math.min.name, Cond.static Lib.Math.min.name, Cond.initialized "java/lang/Math", Cond.code Lib.Math.min.name Lib.Math.min.code 2 (some .int), Cond.methodLink RX7 99 yX5_timeOf]
def wsX9_ifHeard_r5 : List Cond := [Cond.instanceMethod yX5_timeOf, Cond.selects RX5 yX5_timeOf yX5_timeOf, Cond.code yX5_timeOf cX5_timeOf 2 (some .int), Cond.methodLink RX5 22 yX5_has, Cond.instanceMethod yX5_has, Cond.selects RX5 yX5_has yX5_has, Cond.code yX5_has cX5_has 2 (some .boolean), Cond.methodLink RX7 110 yX7_isWindowOver, Cond.instanceMethod yX7_isWindowOver, Cond.selects RX7 yX7_isWindowOver yX7_isWindowOver, Cond.code yX7_isWindowOver cX7_isWindowOver 2 (some .boolean), Cond.fieldLink RX7 120 "BeatFollower$Drummer" "nextBlow" "I", Cond.methodLink RX7 123 yX7_halfWindow, Cond.instanceMethod yX7_halfWindow, Cond.selects RX7 yX7_halfWindow yX7_halfWindow, Cond.code yX7_halfWindow cX7_halfWindow 1 (some .int), Cond.fieldLink RX7 126 "BeatFollower$Drummer" "period" "I", Cond.methodLink RX7 129 yJ9_floorDiv_7cf53, Cond.static yJ9_floorDiv_7cf53, Cond.initialized RJ9, Cond.code yJ9_floorDiv_7cf53 cJ9_floorDiv_7cf53 3 (some .int), Cond.methodLink RX7 114 yX7_holdBlow, Cond.instanceMethod yX7_holdBlow, Cond.selects RX7 yX7_holdBlow yX7_holdBlow]
def wsX9_ifHeard_r6 : List Cond := [Cond.code yX7_holdBlow cX7_holdBlow 2 none, Cond.fieldLink RX7 179 "BeatFollower$Drummer" "heldInRow" "I", Cond.fieldLink RX7 191 "BeatFollower$Tally" "held" "I", Cond.fieldLink RX7 132 "BeatFollower$Drummer" "state" "I", Cond.methodLink RX7 169 yX7_judge, Cond.instanceMethod yX7_judge, Cond.selects RX7 yX7_judge yX7_judge, Cond.code yX7_judge cX7_judge 2 none, Cond.fieldLink RX7 197 "BeatFollower$Drummer" "goodInRow" "I", Cond.fieldLink RX7 200 "BeatFollower$Drummer" "badInRow" "I", Cond.fieldLink RX7 203 "BeatFollower$Tally" "locksWon" "I", Cond.methodLink RX7 206 yX7_loseLock, Cond.instanceMethod yX7_loseLock, Cond.selects RX7 yX7_loseLock yX7_loseLock, Cond.code yX7_loseLock cX7_loseLock 1 none, Cond.fieldLink RX7 209 "BeatFollower$Tally" "locksLost" "I", Cond.methodLink RX7 194 yX7_fallSilent, Cond.instanceMethod yX7_fallSilent, Cond.selects RX7 yX7_fallSilent yX7_fallSilent, Cond.code yX7_fallSilent cX7_fallSilent 1 none, Cond.fieldLink RX7 212 "BeatFollower$Tally" "silences" "I", Cond.methodLink RX7 161 yX0_append, Cond.instanceMethod yX0_append, Cond.selects RX0 yX0_append yX0_append]
def wsX9_ifHeard_r7 : List Cond := [Cond.code yX0_append cX0_append 6 none, Cond.methodLink RX0 28 yX0_rowOf, Cond.instanceMethod yX0_rowOf, Cond.selects RX0 yX0_rowOf yX0_rowOf, Cond.code yX0_rowOf cX0_rowOf 2 (some .int), Cond.methodLink RX7 117 yX7_hearBeat, Cond.instanceMethod yX7_hearBeat, Cond.selects RX7 yX7_hearBeat yX7_hearBeat, Cond.code yX7_hearBeat cX7_hearBeat 3 none, Cond.fieldLink RX7 135 "BeatFollower$Tally" "heardLocked" "I", Cond.methodLink RX7 138 yX7_fateAt, Cond.instanceMethod yX7_fateAt, Cond.selects RX7 yX7_fateAt yX7_fateAt, Cond.code yX7_fateAt cX7_fateAt 2 (some .int), Cond.methodLink RX7 141 yX7_strikeWithBeat, Cond.instanceMethod yX7_strikeWithBeat, Cond.selects RX7 yX7_strikeWithBeat yX7_strikeWithBeat, Cond.code yX7_strikeWithBeat cX7_strikeWithBeat 3 none, Cond.fieldLink RX7 66 "BeatFollower$Blows" "many" "I", Cond.fieldLink RX7 154 "BeatFollower$Drummer" "lead" "I", Cond.methodLink RX7 151 yX5_numberOf, Cond.instanceMethod yX5_numberOf, Cond.selects RX5 yX5_numberOf yX5_numberOf, Cond.code yX5_numberOf cX5_numberOf 2 (some .int)]
def wsX9_ifHeard_r8 : List Cond := [Cond.methodLink RX7 157 yX2_note, Cond.instanceMethod yX2_note, Cond.selects RX2 yX2_note yX2_note, Cond.code yX2_note cX2_note 6 none, Cond.methodLink RX2 24 yX2_hasRow, Cond.static yX2_hasRow, Cond.code yX2_hasRow cX2_hasRow 1 (some .boolean), Cond.methodLink RX7 145 yX7_passOver, Cond.instanceMethod yX7_passOver, Cond.selects RX7 yX7_passOver yX7_passOver, Cond.code yX7_passOver cX7_passOver 3 none, Cond.fieldLink RX7 165 "BeatFollower$Tally" "passedOver" "I", Cond.constant RX7 168 (100000), Cond.methodLink RX7 148 yX7_takeBeat, Cond.instanceMethod yX7_takeBeat, Cond.selects RX7 yX7_takeBeat yX7_takeBeat, Cond.code yX7_takeBeat cX7_takeBeat 7 none, Cond.methodLink RX7 173 Lib.Math.abs.name, Cond.static Lib.Math.abs.name, Cond.code Lib.Math.abs.name Lib.Math.abs.code 1 (some .int), Cond.fieldLink RX7 182 "BeatFollower$Tally" "offSum" "I", Cond.methodLink RX7 176 yX7_nudge, Cond.instanceMethod yX7_nudge, Cond.selects RX7 yX7_nudge yX7_nudge]
def wsX9_ifHeard_r9 : List Cond := [Cond.code yX7_nudge cX7_nudge 3 none, Cond.methodLink RX7 188 Lib.Math.max.name, Cond.static Lib.Math.max.name, Cond.code Lib.Math.max.name Lib.Math.max.code 2 (some .int), Cond.methodLink RX7 185 yX8_addSlip, Cond.instanceMethod yX8_addSlip, Cond.selects RX8 yX8_addSlip yX8_addSlip, Cond.code yX8_addSlip cX8_addSlip 2 none, Cond.methodLink RX9 225 yX7_fateAt]
def wsX9_ifHeard : List Cond := .code yX9_ifHeard cX9_ifHeard 2 (some .int) :: ((wsX9_ifHeard_r1 ++ (wsX9_ifHeard_r2 ++ (wsX9_ifHeard_r3 ++ (wsX9_ifHeard_r4 ++ (wsX9_ifHeard_r5 ++ (wsX9_ifHeard_r6 ++ (wsX9_ifHeard_r7 ++ (wsX9_ifHeard_r8 ++ wsX9_ifHeard_r9)))))))) ++ wsX90 ++ wsX70 ++ wsX80 ++ wsX50 ++ wsX20 ++ wsX00 ++ wsX10)
def wsX9_playTrial_r1 : List Cond := [Cond.fieldLink RX9 10 "BeatFollower" "scene" "LBeatFollower$Scene;", Cond.fieldLink RX9 73 "BeatFollower$Scene" "settings" "[I", Cond.fieldLink RX9 16 "BeatFollower" "trial" "LBeatFollower$Scene;", Cond.methodLink RX9 268 arraycopyName, Cond.native arraycopyName, Cond.static arraycopyName, Cond.initialized "java/lang/System", Cond.fieldLink RX9 87 "BeatFollower$Scene" "plan" "LBeatFollower$Plan;", Cond.methodLink RX9 127 yX7_begin, Cond.instanceMethod yX7_begin, Cond.selects RX7 yX7_begin yX7_begin, Cond.initialized RX7, Cond.code yX7_begin cX7_begin 1 none, Cond.fieldLink RX7 62 "BeatFollower$Scene" "time" "I", Cond.fieldLink RX7 32 "BeatFollower$Scene" "blows" "LBeatFollower$Blows;", Cond.fieldLink RX7 66 "BeatFollower$Blows" "many" "I", Cond.fieldLink RX7 46 "BeatFollower$Scene" "tally" "LBeatFollower$Tally;", Cond.fieldLink RX7 39 "BeatFollower$Scene" "drummer" "LBeatFollower$Drummer;", Cond.methodLink RX7 69 yX8_clear, Cond.instanceMethod yX8_clear, Cond.selects RX8 yX8_clear yX8_clear, Cond.initialized RX8, Cond.code yX8_clear cX8_clear 1 none, Cond.fieldLink RX8 16 "BeatFollower$Tally" "heard" "I"]
def wsX9_playTrial_r2 : List Cond := [Cond.fieldLink RX8 19 "BeatFollower$Tally" "passedOver" "I", Cond.fieldLink RX8 22 "BeatFollower$Tally" "held" "I", Cond.fieldLink RX8 25 "BeatFollower$Tally" "locksWon" "I", Cond.fieldLink RX8 28 "BeatFollower$Tally" "locksLost" "I", Cond.fieldLink RX8 31 "BeatFollower$Tally" "silences" "I", Cond.fieldLink RX8 13 "BeatFollower$Tally" "slipsTold" "I", Cond.fieldLink RX8 7 "BeatFollower$Tally" "slipSum" "I", Cond.fieldLink RX8 34 "BeatFollower$Tally" "offSum" "I", Cond.fieldLink RX8 37 "BeatFollower$Tally" "heardLocked" "I", Cond.methodLink RX7 72 yX7_firstPeriod, Cond.instanceMethod yX7_firstPeriod, Cond.selects RX7 yX7_firstPeriod yX7_firstPeriod, Cond.code yX7_firstPeriod cX7_firstPeriod 1 (some .int), Cond.fieldLink RX7 9 "BeatFollower$Scene" "settings" "[I", Cond.methodLink RX7 76 yX1_begin, Cond.instanceMethod yX1_begin, Cond.selects RX1 yX1_begin yX1_begin, Cond.initialized RX1, Cond.code yX1_begin cX1_begin 2 none, Cond.fieldLink RX1 9 "BeatFollower$Drummer" "state" "I", Cond.fieldLink RX1 15 "BeatFollower$Drummer" "period" "I", Cond.fieldLink RX1 18 "BeatFollower$Drummer" "nextBlow" "I", Cond.fieldLink RX1 21 "BeatFollower$Drummer" "goodInRow" "I", Cond.fieldLink RX1 24 "BeatFollower$Drummer" "badInRow" "I"]
def wsX9_playTrial_r3 : List Cond := [Cond.fieldLink RX1 27 "BeatFollower$Drummer" "heldInRow" "I", Cond.fieldLink RX1 30 "BeatFollower$Drummer" "lead" "I", Cond.methodLink RX9 91 yX5_lastTime, Cond.instanceMethod yX5_lastTime, Cond.selects RX5 yX5_lastTime yX5_lastTime, Cond.initialized RX5, Cond.code yX5_lastTime cX5_lastTime 1 (some .int), Cond.fieldLink RX5 18 "BeatFollower$Plan" "many" "I", Cond.methodLink RX5 26 yX5_timeOf, Cond.instanceMethod yX5_timeOf, Cond.selects RX5 yX5_timeOf yX5_timeOf, Cond.code yX5_timeOf cX5_timeOf 2 (some .int), Cond.fieldLink RX5 9 "BeatFollower$Plan" "times" "[I", Cond.methodLink RX5 22 yX5_has, Cond.instanceMethod yX5_has, Cond.selects RX5 yX5_has yX5_has, Cond.code yX5_has cX5_has 2 (some .boolean), Cond.methodLink RX9 123 yX7_runTo, Cond.instanceMethod yX7_runTo, Cond.selects RX7 yX7_runTo yX7_runTo, Cond.code yX7_runTo cX7_runTo 4 none, Cond.fieldLink RX7 95 "BeatFollower$Tally" "heard" "I", Cond.fieldLink RX7 18 "BeatFollower$Scene" "plan" "LBeatFollower$Plan;", Cond.fieldLink RX7 98 "BeatFollower$Plan" "many" "I"]
def wsX9_playTrial_r4 : List Cond := [Cond.constant RX7 103 (1000000), Cond.methodLink RX7 104 Lib.Math.min.name, Cond.static Lib.Math.min.name, Cond.initialized "java/lang/Math", Cond.code Lib.Math.min.name Lib.Math.min.code 2 (some .int), Cond.methodLink RX7 99 yX5_timeOf, Cond.methodLink RX7 110 yX7_isWindowOver, Cond.instanceMethod yX7_isWindowOver, Cond.selects RX7 yX7_isWindowOver yX7_isWindowOver, Cond.code yX7_isWindowOver cX7_isWindowOver 2 (some .boolean), Cond.fieldLink RX7 120 "BeatFollower$Drummer" "nextBlow" "I", Cond.methodLink RX7 123 yX7_halfWindow, Cond.instanceMethod yX7_halfWindow, Cond.selects RX7 yX7_halfWindow yX7_halfWindow, Cond.code yX7_halfWindow cX7_halfWindow 1 (some .int), Cond.fieldLink RX7 126 "BeatFollower$Drummer" "period" "I", Cond.methodLink RX7 129 yJ9_floorDiv_7cf53, Cond.static yJ9_floorDiv_7cf53, Cond.initialized RJ9, Cond.code yJ9_floorDiv_7cf53 cJ9_floorDiv_7cf53 3 (some .int), Cond.methodLink RX7 114 yX7_holdBlow, Cond.instanceMethod yX7_holdBlow, Cond.selects RX7 yX7_holdBlow yX7_holdBlow, Cond.code yX7_holdBlow cX7_holdBlow 2 none]
def wsX9_playTrial_r5 : List Cond := [Cond.fieldLink RX7 179 "BeatFollower$Drummer" "heldInRow" "I", Cond.fieldLink RX7 191 "BeatFollower$Tally" "held" "I", Cond.fieldLink RX7 132 "BeatFollower$Drummer" "state" "I", Cond.methodLink RX7 169 yX7_judge, Cond.instanceMethod yX7_judge, Cond.selects RX7 yX7_judge yX7_judge, Cond.code yX7_judge cX7_judge 2 none, Cond.fieldLink RX7 197 "BeatFollower$Drummer" "goodInRow" "I", Cond.fieldLink RX7 200 "BeatFollower$Drummer" "badInRow" "I", Cond.fieldLink RX7 203 "BeatFollower$Tally" "locksWon" "I", Cond.methodLink RX7 206 yX7_loseLock, Cond.instanceMethod yX7_loseLock, Cond.selects RX7 yX7_loseLock yX7_loseLock, Cond.code yX7_loseLock cX7_loseLock 1 none, Cond.fieldLink RX7 209 "BeatFollower$Tally" "locksLost" "I", Cond.methodLink RX7 194 yX7_fallSilent, Cond.instanceMethod yX7_fallSilent, Cond.selects RX7 yX7_fallSilent yX7_fallSilent, Cond.code yX7_fallSilent cX7_fallSilent 1 none, Cond.fieldLink RX7 212 "BeatFollower$Tally" "silences" "I", Cond.methodLink RX7 161 yX0_append, Cond.instanceMethod yX0_append, Cond.selects RX0 yX0_append yX0_append, Cond.initialized RX0]
def wsX9_playTrial_r6 : List Cond := [Cond.code yX0_append cX0_append 6 none, Cond.fieldLink RX0 24 "BeatFollower$Blows" "many" "I", Cond.fieldLink RX0 9 "BeatFollower$Blows" "times" "[I", Cond.fieldLink RX0 15 "BeatFollower$Blows" "beats" "[I", Cond.fieldLink RX0 18 "BeatFollower$Blows" "periods" "[I", Cond.fieldLink RX0 21 "BeatFollower$Blows" "states" "[I", Cond.methodLink RX0 28 yX0_rowOf, Cond.instanceMethod yX0_rowOf, Cond.selects RX0 yX0_rowOf yX0_rowOf, Cond.code yX0_rowOf cX0_rowOf 2 (some .int), Cond.methodLink RX7 117 yX7_hearBeat, Cond.instanceMethod yX7_hearBeat, Cond.selects RX7 yX7_hearBeat yX7_hearBeat, Cond.code yX7_hearBeat cX7_hearBeat 3 none, Cond.fieldLink RX7 135 "BeatFollower$Tally" "heardLocked" "I", Cond.methodLink RX7 138 yX7_fateAt, Cond.instanceMethod yX7_fateAt, Cond.selects RX7 yX7_fateAt yX7_fateAt, Cond.code yX7_fateAt cX7_fateAt 2 (some .int), Cond.methodLink RX7 141 yX7_strikeWithBeat, Cond.instanceMethod yX7_strikeWithBeat, Cond.selects RX7 yX7_strikeWithBeat yX7_strikeWithBeat, Cond.code yX7_strikeWithBeat cX7_strikeWithBeat 3 none, Cond.fieldLink RX7 154 "BeatFollower$Drummer" "lead" "I"]
def wsX9_playTrial_r7 : List Cond := [Cond.fieldLink RX7 25 "BeatFollower$Scene" "fates" "LBeatFollower$Fates;", Cond.methodLink RX7 151 yX5_numberOf, Cond.instanceMethod yX5_numberOf, Cond.selects RX5 yX5_numberOf yX5_numberOf, Cond.code yX5_numberOf cX5_numberOf 2 (some .int), Cond.fieldLink RX5 15 "BeatFollower$Plan" "numbers" "[I", Cond.methodLink RX7 157 yX2_note, Cond.instanceMethod yX2_note, Cond.selects RX2 yX2_note yX2_note, Cond.initialized RX2, Cond.code yX2_note cX2_note 6 none, Cond.fieldLink RX2 9 "BeatFollower$Fates" "kinds" "[I", Cond.fieldLink RX2 15 "BeatFollower$Fates" "blows" "[I", Cond.fieldLink RX2 18 "BeatFollower$Fates" "offs" "[I", Cond.fieldLink RX2 21 "BeatFollower$Fates" "slips" "[I", Cond.methodLink RX2 24 yX2_hasRow, Cond.static yX2_hasRow, Cond.code yX2_hasRow cX2_hasRow 1 (some .boolean), Cond.methodLink RX7 145 yX7_passOver, Cond.instanceMethod yX7_passOver, Cond.selects RX7 yX7_passOver yX7_passOver, Cond.code yX7_passOver cX7_passOver 3 none, Cond.fieldLink RX7 165 "BeatFollower$Tally" "passedOver" "I", Cond.constant RX7 168 (100000)]
def wsX9_playTrial_r8 : List Cond := [Cond.methodLink RX7 148 yX7_takeBeat, Cond.instanceMethod yX7_takeBeat, Cond.selects RX7 yX7_takeBeat yX7_takeBeat, Cond.code yX7_takeBeat cX7_takeBeat 7 none, Cond.methodLink RX7 173 Lib.Math.abs.name, Cond.static Lib.Math.abs.name, Cond.code Lib.Math.abs.name Lib.Math.abs.code 1 (some .int), Cond.fieldLink RX7 182 "BeatFollower$Tally" "offSum" "I", Cond.methodLink RX7 176 yX7_nudge, Cond.instanceMethod yX7_nudge, Cond.selects RX7 yX7_nudge yX7_nudge, Cond.code yX7_nudge cX7_nudge 3 none, Cond.methodLink RX7 188 Lib.Math.max.name, Cond.static Lib.Math.max.name, Cond.code Lib.Math.max.name Lib.Math.max.code 2 (some .int), Cond.methodLink RX7 185 yX8_addSlip, Cond.instanceMethod yX8_addSlip, Cond.selects RX8 yX8_addSlip yX8_addSlip, Cond.code yX8_addSlip cX8_addSlip 2 none]
def wsX9_playTrial : List Cond := .code yX9_playTrial cX9_playTrial 3 none :: ((wsX9_playTrial_r1 ++ (wsX9_playTrial_r2 ++ (wsX9_playTrial_r3 ++ (wsX9_playTrial_r4 ++ (wsX9_playTrial_r5 ++ (wsX9_playTrial_r6 ++ (wsX9_playTrial_r7 ++ wsX9_playTrial_r8))))))) ++ wsX90 ++ wsX70 ++ wsX00 ++ wsX80 ++ wsX10 ++ wsX50 ++ wsX20)
def wsX9_endWith_r1 : List Cond := [Cond.fieldLink RX9 16 "BeatFollower" "trial" "LBeatFollower$Scene;", Cond.fieldLink RX9 87 "BeatFollower$Scene" "plan" "LBeatFollower$Plan;", Cond.fieldLink RX9 10 "BeatFollower" "scene" "LBeatFollower$Scene;", Cond.fieldLink RX9 113 "BeatFollower$Scene" "tally" "LBeatFollower$Tally;", Cond.fieldLink RX9 234 "BeatFollower$Tally" "offSum" "I", Cond.fieldLink RX9 190 "BeatFollower$Tally" "passedOver" "I", Cond.fieldLink RX9 187 "BeatFollower$Tally" "held" "I", Cond.fieldLink RX9 199 "BeatFollower$Tally" "slipsTold" "I", Cond.fieldLink RX9 237 "BeatFollower$Tally" "heardLocked" "I", Cond.methodLink RX9 83 yX9_isIn, Cond.static yX9_isIn, Cond.initialized RX9, Cond.code yX9_isIn cX9_isIn 3 (some .boolean), Cond.methodLink RX9 228 yX5_copyFrom, Cond.instanceMethod yX5_copyFrom, Cond.selects RX5 yX5_copyFrom yX5_copyFrom, Cond.initialized RX5, Cond.code yX5_copyFrom cX5_copyFrom 2 none, Cond.fieldLink RX5 9 "BeatFollower$Plan" "times" "[I", Cond.methodLink RX5 58 arraycopyName, Cond.native arraycopyName, Cond.static arraycopyName, Cond.initialized "java/lang/System", Cond.fieldLink RX5 15 "BeatFollower$Plan" "numbers" "[I"]
def wsX9_endWith_r2 : List Cond := [Cond.fieldLink RX5 18 "BeatFollower$Plan" "many" "I", Cond.methodLink RX9 231 yX9_playTrial, Cond.instanceMethod yX9_playTrial, Cond.selects RX9 yX9_playTrial yX9_playTrial, Cond.code yX9_playTrial cX9_playTrial 3 none, Cond.fieldLink RX9 73 "BeatFollower$Scene" "settings" "[I", Cond.methodLink RX9 268 arraycopyName, Cond.methodLink RX9 127 yX7_begin, Cond.instanceMethod yX7_begin, Cond.selects RX7 yX7_begin yX7_begin, Cond.initialized RX7, Cond.code yX7_begin cX7_begin 1 none, Cond.fieldLink RX7 62 "BeatFollower$Scene" "time" "I", Cond.fieldLink RX7 32 "BeatFollower$Scene" "blows" "LBeatFollower$Blows;", Cond.fieldLink RX7 66 "BeatFollower$Blows" "many" "I", Cond.fieldLink RX7 46 "BeatFollower$Scene" "tally" "LBeatFollower$Tally;", Cond.fieldLink RX7 39 "BeatFollower$Scene" "drummer" "LBeatFollower$Drummer;", Cond.methodLink RX7 69 yX8_clear, Cond.instanceMethod yX8_clear, Cond.selects RX8 yX8_clear yX8_clear, Cond.initialized RX8, Cond.code yX8_clear cX8_clear 1 none, Cond.fieldLink RX8 16 "BeatFollower$Tally" "heard" "I", Cond.fieldLink RX8 19 "BeatFollower$Tally" "passedOver" "I"]
def wsX9_endWith_r3 : List Cond := [Cond.fieldLink RX8 22 "BeatFollower$Tally" "held" "I", Cond.fieldLink RX8 25 "BeatFollower$Tally" "locksWon" "I", Cond.fieldLink RX8 28 "BeatFollower$Tally" "locksLost" "I", Cond.fieldLink RX8 31 "BeatFollower$Tally" "silences" "I", Cond.fieldLink RX8 13 "BeatFollower$Tally" "slipsTold" "I", Cond.fieldLink RX8 7 "BeatFollower$Tally" "slipSum" "I", Cond.fieldLink RX8 34 "BeatFollower$Tally" "offSum" "I", Cond.fieldLink RX8 37 "BeatFollower$Tally" "heardLocked" "I", Cond.methodLink RX7 72 yX7_firstPeriod, Cond.instanceMethod yX7_firstPeriod, Cond.selects RX7 yX7_firstPeriod yX7_firstPeriod, Cond.code yX7_firstPeriod cX7_firstPeriod 1 (some .int), Cond.fieldLink RX7 9 "BeatFollower$Scene" "settings" "[I", Cond.methodLink RX7 76 yX1_begin, Cond.instanceMethod yX1_begin, Cond.selects RX1 yX1_begin yX1_begin, Cond.initialized RX1, Cond.code yX1_begin cX1_begin 2 none, Cond.fieldLink RX1 9 "BeatFollower$Drummer" "state" "I", Cond.fieldLink RX1 15 "BeatFollower$Drummer" "period" "I", Cond.fieldLink RX1 18 "BeatFollower$Drummer" "nextBlow" "I", Cond.fieldLink RX1 21 "BeatFollower$Drummer" "goodInRow" "I", Cond.fieldLink RX1 24 "BeatFollower$Drummer" "badInRow" "I", Cond.fieldLink RX1 27 "BeatFollower$Drummer" "heldInRow" "I"]
def wsX9_endWith_r4 : List Cond := [Cond.fieldLink RX1 30 "BeatFollower$Drummer" "lead" "I", Cond.methodLink RX9 91 yX5_lastTime, Cond.instanceMethod yX5_lastTime, Cond.selects RX5 yX5_lastTime yX5_lastTime, Cond.code yX5_lastTime cX5_lastTime 1 (some .int), Cond.methodLink RX5 26 yX5_timeOf, Cond.instanceMethod yX5_timeOf, Cond.selects RX5 yX5_timeOf yX5_timeOf, Cond.code yX5_timeOf cX5_timeOf 2 (some .int), Cond.methodLink RX5 22 yX5_has, Cond.instanceMethod yX5_has, Cond.selects RX5 yX5_has yX5_has, Cond.code yX5_has cX5_has 2 (some .boolean), Cond.methodLink RX9 123 yX7_runTo, Cond.instanceMethod yX7_runTo, Cond.selects RX7 yX7_runTo yX7_runTo, Cond.code yX7_runTo cX7_runTo 4 none, Cond.fieldLink RX7 95 "BeatFollower$Tally" "heard" "I", Cond.fieldLink RX7 18 "BeatFollower$Scene" "plan" "LBeatFollower$Plan;", Cond.fieldLink RX7 98 "BeatFollower$Plan" "many" "I", Cond.constant RX7 103 (1000000), Cond.methodLink RX7 104 Lib.Math.min.name, Cond.static Lib.Math.min.name, Cond.initialized "java/lang/Math"]
def wsX9_endWith_r5 : List Cond := [Cond.code Lib.Math.min.name Lib.Math.min.code 2 (some .int), Cond.methodLink RX7 99 yX5_timeOf, Cond.methodLink RX7 110 yX7_isWindowOver, Cond.instanceMethod yX7_isWindowOver, Cond.selects RX7 yX7_isWindowOver yX7_isWindowOver, Cond.code yX7_isWindowOver cX7_isWindowOver 2 (some .boolean), Cond.fieldLink RX7 120 "BeatFollower$Drummer" "nextBlow" "I", Cond.methodLink RX7 123 yX7_halfWindow, Cond.instanceMethod yX7_halfWindow, Cond.selects RX7 yX7_halfWindow yX7_halfWindow, Cond.code yX7_halfWindow cX7_halfWindow 1 (some .int), Cond.fieldLink RX7 126 "BeatFollower$Drummer" "period" "I", Cond.methodLink RX7 129 yJ9_floorDiv_7cf53, Cond.static yJ9_floorDiv_7cf53, Cond.initialized RJ9, Cond.code yJ9_floorDiv_7cf53 cJ9_floorDiv_7cf53 3 (some .int), Cond.methodLink RX7 114 yX7_holdBlow, Cond.instanceMethod yX7_holdBlow, Cond.selects RX7 yX7_holdBlow yX7_holdBlow, Cond.code yX7_holdBlow cX7_holdBlow 2 none, Cond.fieldLink RX7 179 "BeatFollower$Drummer" "heldInRow" "I", Cond.fieldLink RX7 191 "BeatFollower$Tally" "held" "I", Cond.fieldLink RX7 132 "BeatFollower$Drummer" "state" "I", Cond.methodLink RX7 169 yX7_judge]
def wsX9_endWith_r6 : List Cond := [Cond.instanceMethod yX7_judge, Cond.selects RX7 yX7_judge yX7_judge, Cond.code yX7_judge cX7_judge 2 none, Cond.fieldLink RX7 197 "BeatFollower$Drummer" "goodInRow" "I", Cond.fieldLink RX7 200 "BeatFollower$Drummer" "badInRow" "I", Cond.fieldLink RX7 203 "BeatFollower$Tally" "locksWon" "I", Cond.methodLink RX7 206 yX7_loseLock, Cond.instanceMethod yX7_loseLock, Cond.selects RX7 yX7_loseLock yX7_loseLock, Cond.code yX7_loseLock cX7_loseLock 1 none, Cond.fieldLink RX7 209 "BeatFollower$Tally" "locksLost" "I", Cond.methodLink RX7 194 yX7_fallSilent, Cond.instanceMethod yX7_fallSilent, Cond.selects RX7 yX7_fallSilent yX7_fallSilent, Cond.code yX7_fallSilent cX7_fallSilent 1 none, Cond.fieldLink RX7 212 "BeatFollower$Tally" "silences" "I", Cond.methodLink RX7 161 yX0_append, Cond.instanceMethod yX0_append, Cond.selects RX0 yX0_append yX0_append, Cond.initialized RX0, Cond.code yX0_append cX0_append 6 none, Cond.fieldLink RX0 24 "BeatFollower$Blows" "many" "I", Cond.fieldLink RX0 9 "BeatFollower$Blows" "times" "[I", Cond.fieldLink RX0 15 "BeatFollower$Blows" "beats" "[I"]
def wsX9_endWith_r7 : List Cond := [Cond.fieldLink RX0 18 "BeatFollower$Blows" "periods" "[I", Cond.fieldLink RX0 21 "BeatFollower$Blows" "states" "[I", Cond.methodLink RX0 28 yX0_rowOf, Cond.instanceMethod yX0_rowOf, Cond.selects RX0 yX0_rowOf yX0_rowOf, Cond.code yX0_rowOf cX0_rowOf 2 (some .int), Cond.methodLink RX7 117 yX7_hearBeat, Cond.instanceMethod yX7_hearBeat, Cond.selects RX7 yX7_hearBeat yX7_hearBeat, Cond.code yX7_hearBeat cX7_hearBeat 3 none, Cond.fieldLink RX7 135 "BeatFollower$Tally" "heardLocked" "I", Cond.methodLink RX7 138 yX7_fateAt, Cond.instanceMethod yX7_fateAt, Cond.selects RX7 yX7_fateAt yX7_fateAt, Cond.code yX7_fateAt cX7_fateAt 2 (some .int), Cond.methodLink RX7 141 yX7_strikeWithBeat, Cond.instanceMethod yX7_strikeWithBeat, Cond.selects RX7 yX7_strikeWithBeat yX7_strikeWithBeat, Cond.code yX7_strikeWithBeat cX7_strikeWithBeat 3 none, Cond.fieldLink RX7 154 "BeatFollower$Drummer" "lead" "I", Cond.fieldLink RX7 25 "BeatFollower$Scene" "fates" "LBeatFollower$Fates;", Cond.methodLink RX7 151 yX5_numberOf, Cond.instanceMethod yX5_numberOf, Cond.selects RX5 yX5_numberOf yX5_numberOf]
def wsX9_endWith_r8 : List Cond := [Cond.code yX5_numberOf cX5_numberOf 2 (some .int), Cond.methodLink RX7 157 yX2_note, Cond.instanceMethod yX2_note, Cond.selects RX2 yX2_note yX2_note, Cond.initialized RX2, Cond.code yX2_note cX2_note 6 none, Cond.fieldLink RX2 9 "BeatFollower$Fates" "kinds" "[I", Cond.fieldLink RX2 15 "BeatFollower$Fates" "blows" "[I", Cond.fieldLink RX2 18 "BeatFollower$Fates" "offs" "[I", Cond.fieldLink RX2 21 "BeatFollower$Fates" "slips" "[I", Cond.methodLink RX2 24 yX2_hasRow, Cond.static yX2_hasRow, Cond.code yX2_hasRow cX2_hasRow 1 (some .boolean), Cond.methodLink RX7 145 yX7_passOver, Cond.instanceMethod yX7_passOver, Cond.selects RX7 yX7_passOver yX7_passOver, Cond.code yX7_passOver cX7_passOver 3 none, Cond.fieldLink RX7 165 "BeatFollower$Tally" "passedOver" "I", Cond.constant RX7 168 (100000), Cond.methodLink RX7 148 yX7_takeBeat, Cond.instanceMethod yX7_takeBeat, Cond.selects RX7 yX7_takeBeat yX7_takeBeat, Cond.code yX7_takeBeat cX7_takeBeat 7 none, Cond.methodLink RX7 173 Lib.Math.abs.name]
def wsX9_endWith_r9 : List Cond := [Cond.static Lib.Math.abs.name, Cond.code Lib.Math.abs.name Lib.Math.abs.code 1 (some .int), Cond.fieldLink RX7 182 "BeatFollower$Tally" "offSum" "I", Cond.methodLink RX7 176 yX7_nudge, Cond.instanceMethod yX7_nudge, Cond.selects RX7 yX7_nudge yX7_nudge, Cond.code yX7_nudge cX7_nudge 3 none, Cond.methodLink RX7 188 Lib.Math.max.name, Cond.static Lib.Math.max.name, Cond.code Lib.Math.max.name Lib.Math.max.code 2 (some .int), Cond.methodLink RX7 185 yX8_addSlip, Cond.instanceMethod yX8_addSlip, Cond.selects RX8 yX8_addSlip yX8_addSlip, Cond.code yX8_addSlip cX8_addSlip 2 none]
def wsX9_endWith : List Cond := .code yX9_endWith cX9_endWith 4 (some .int) :: ((wsX9_endWith_r1 ++ (wsX9_endWith_r2 ++ (wsX9_endWith_r3 ++ (wsX9_endWith_r4 ++ (wsX9_endWith_r5 ++ (wsX9_endWith_r6 ++ (wsX9_endWith_r7 ++ (wsX9_endWith_r8 ++ wsX9_endWith_r9)))))))) ++ wsX90 ++ wsX70 ++ wsX80 ++ wsX50 ++ wsX00 ++ wsX10 ++ wsX20)
def wsX9_bestNudge_r1 : List Cond := [Cond.fieldLink RX9 10 "BeatFollower" "scene" "LBeatFollower$Scene;", Cond.fieldLink RX9 87 "BeatFollower$Scene" "plan" "LBeatFollower$Plan;", Cond.fieldLink RX9 110 "BeatFollower$Plan" "many" "I", Cond.fieldLink RX9 16 "BeatFollower" "trial" "LBeatFollower$Scene;", Cond.constant RX9 240 (1000000), Cond.fieldLink RX9 73 "BeatFollower$Scene" "settings" "[I", Cond.fieldLink RX9 113 "BeatFollower$Scene" "tally" "LBeatFollower$Tally;", Cond.fieldLink RX9 199 "BeatFollower$Tally" "slipsTold" "I", Cond.fieldLink RX9 234 "BeatFollower$Tally" "offSum" "I", Cond.methodLink RX9 228 yX5_copyFrom, Cond.instanceMethod yX5_copyFrom, Cond.selects RX5 yX5_copyFrom yX5_copyFrom, Cond.initialized RX5, Cond.code yX5_copyFrom cX5_copyFrom 2 none, Cond.fieldLink RX5 9 "BeatFollower$Plan" "times" "[I", Cond.methodLink RX5 58 arraycopyName, Cond.native arraycopyName, Cond.static arraycopyName, Cond.initialized "java/lang/System", Cond.fieldLink RX5 15 "BeatFollower$Plan" "numbers" "[I", Cond.fieldLink RX5 18 "BeatFollower$Plan" "many" "I", Cond.methodLink RX9 231 yX9_playTrial, Cond.instanceMethod yX9_playTrial, Cond.selects RX9 yX9_playTrial yX9_playTrial]
def wsX9_bestNudge_r2 : List Cond := [Cond.initialized RX9, Cond.code yX9_playTrial cX9_playTrial 3 none, Cond.methodLink RX9 268 arraycopyName, Cond.methodLink RX9 127 yX7_begin, Cond.instanceMethod yX7_begin, Cond.selects RX7 yX7_begin yX7_begin, Cond.initialized RX7, Cond.code yX7_begin cX7_begin 1 none, Cond.fieldLink RX7 62 "BeatFollower$Scene" "time" "I", Cond.fieldLink RX7 32 "BeatFollower$Scene" "blows" "LBeatFollower$Blows;", Cond.fieldLink RX7 66 "BeatFollower$Blows" "many" "I", Cond.fieldLink RX7 46 "BeatFollower$Scene" "tally" "LBeatFollower$Tally;", Cond.fieldLink RX7 39 "BeatFollower$Scene" "drummer" "LBeatFollower$Drummer;", Cond.methodLink RX7 69 yX8_clear, Cond.instanceMethod yX8_clear, Cond.selects RX8 yX8_clear yX8_clear, Cond.initialized RX8, Cond.code yX8_clear cX8_clear 1 none, Cond.fieldLink RX8 16 "BeatFollower$Tally" "heard" "I", Cond.fieldLink RX8 19 "BeatFollower$Tally" "passedOver" "I", Cond.fieldLink RX8 22 "BeatFollower$Tally" "held" "I", Cond.fieldLink RX8 25 "BeatFollower$Tally" "locksWon" "I", Cond.fieldLink RX8 28 "BeatFollower$Tally" "locksLost" "I", Cond.fieldLink RX8 31 "BeatFollower$Tally" "silences" "I"]
def wsX9_bestNudge_r3 : List Cond := [Cond.fieldLink RX8 13 "BeatFollower$Tally" "slipsTold" "I", Cond.fieldLink RX8 7 "BeatFollower$Tally" "slipSum" "I", Cond.fieldLink RX8 34 "BeatFollower$Tally" "offSum" "I", Cond.fieldLink RX8 37 "BeatFollower$Tally" "heardLocked" "I", Cond.methodLink RX7 72 yX7_firstPeriod, Cond.instanceMethod yX7_firstPeriod, Cond.selects RX7 yX7_firstPeriod yX7_firstPeriod, Cond.code yX7_firstPeriod cX7_firstPeriod 1 (some .int), Cond.fieldLink RX7 9 "BeatFollower$Scene" "settings" "[I", Cond.methodLink RX7 76 yX1_begin, Cond.instanceMethod yX1_begin, Cond.selects RX1 yX1_begin yX1_begin, Cond.initialized RX1, Cond.code yX1_begin cX1_begin 2 none, Cond.fieldLink RX1 9 "BeatFollower$Drummer" "state" "I", Cond.fieldLink RX1 15 "BeatFollower$Drummer" "period" "I", Cond.fieldLink RX1 18 "BeatFollower$Drummer" "nextBlow" "I", Cond.fieldLink RX1 21 "BeatFollower$Drummer" "goodInRow" "I", Cond.fieldLink RX1 24 "BeatFollower$Drummer" "badInRow" "I", Cond.fieldLink RX1 27 "BeatFollower$Drummer" "heldInRow" "I", Cond.fieldLink RX1 30 "BeatFollower$Drummer" "lead" "I", Cond.methodLink RX9 91 yX5_lastTime, Cond.instanceMethod yX5_lastTime, Cond.selects RX5 yX5_lastTime yX5_lastTime]
def wsX9_bestNudge_r4 : List Cond := [Cond.code yX5_lastTime cX5_lastTime 1 (some .int), Cond.methodLink RX5 26 yX5_timeOf, Cond.instanceMethod yX5_timeOf, Cond.selects RX5 yX5_timeOf yX5_timeOf, Cond.code yX5_timeOf cX5_timeOf 2 (some .int), Cond.methodLink RX5 22 yX5_has, Cond.instanceMethod yX5_has, Cond.selects RX5 yX5_has yX5_has, Cond.code yX5_has cX5_has 2 (some .boolean), Cond.methodLink RX9 123 yX7_runTo, Cond.instanceMethod yX7_runTo, Cond.selects RX7 yX7_runTo yX7_runTo, Cond.code yX7_runTo cX7_runTo 4 none, Cond.fieldLink RX7 95 "BeatFollower$Tally" "heard" "I", Cond.fieldLink RX7 18 "BeatFollower$Scene" "plan" "LBeatFollower$Plan;", Cond.fieldLink RX7 98 "BeatFollower$Plan" "many" "I", Cond.constant RX7 103 (1000000), Cond.methodLink RX7 104 Lib.Math.min.name, Cond.static Lib.Math.min.name, Cond.initialized "java/lang/Math", Cond.code Lib.Math.min.name Lib.Math.min.code 2 (some .int), Cond.methodLink RX7 99 yX5_timeOf, Cond.methodLink RX7 110 yX7_isWindowOver, Cond.instanceMethod yX7_isWindowOver]
def wsX9_bestNudge_r5 : List Cond := [Cond.selects RX7 yX7_isWindowOver yX7_isWindowOver, Cond.code yX7_isWindowOver cX7_isWindowOver 2 (some .boolean), Cond.fieldLink RX7 120 "BeatFollower$Drummer" "nextBlow" "I", Cond.methodLink RX7 123 yX7_halfWindow, Cond.instanceMethod yX7_halfWindow, Cond.selects RX7 yX7_halfWindow yX7_halfWindow, Cond.code yX7_halfWindow cX7_halfWindow 1 (some .int), Cond.fieldLink RX7 126 "BeatFollower$Drummer" "period" "I", Cond.methodLink RX7 129 yJ9_floorDiv_7cf53, Cond.static yJ9_floorDiv_7cf53, Cond.initialized RJ9, Cond.code yJ9_floorDiv_7cf53 cJ9_floorDiv_7cf53 3 (some .int), Cond.methodLink RX7 114 yX7_holdBlow, Cond.instanceMethod yX7_holdBlow, Cond.selects RX7 yX7_holdBlow yX7_holdBlow, Cond.code yX7_holdBlow cX7_holdBlow 2 none, Cond.fieldLink RX7 179 "BeatFollower$Drummer" "heldInRow" "I", Cond.fieldLink RX7 191 "BeatFollower$Tally" "held" "I", Cond.fieldLink RX7 132 "BeatFollower$Drummer" "state" "I", Cond.methodLink RX7 169 yX7_judge, Cond.instanceMethod yX7_judge, Cond.selects RX7 yX7_judge yX7_judge, Cond.code yX7_judge cX7_judge 2 none, Cond.fieldLink RX7 197 "BeatFollower$Drummer" "goodInRow" "I"]
def wsX9_bestNudge_r6 : List Cond := [Cond.fieldLink RX7 200 "BeatFollower$Drummer" "badInRow" "I", Cond.fieldLink RX7 203 "BeatFollower$Tally" "locksWon" "I", Cond.methodLink RX7 206 yX7_loseLock, Cond.instanceMethod yX7_loseLock, Cond.selects RX7 yX7_loseLock yX7_loseLock, Cond.code yX7_loseLock cX7_loseLock 1 none, Cond.fieldLink RX7 209 "BeatFollower$Tally" "locksLost" "I", Cond.methodLink RX7 194 yX7_fallSilent, Cond.instanceMethod yX7_fallSilent, Cond.selects RX7 yX7_fallSilent yX7_fallSilent, Cond.code yX7_fallSilent cX7_fallSilent 1 none, Cond.fieldLink RX7 212 "BeatFollower$Tally" "silences" "I", Cond.methodLink RX7 161 yX0_append, Cond.instanceMethod yX0_append, Cond.selects RX0 yX0_append yX0_append, Cond.initialized RX0, Cond.code yX0_append cX0_append 6 none, Cond.fieldLink RX0 24 "BeatFollower$Blows" "many" "I", Cond.fieldLink RX0 9 "BeatFollower$Blows" "times" "[I", Cond.fieldLink RX0 15 "BeatFollower$Blows" "beats" "[I", Cond.fieldLink RX0 18 "BeatFollower$Blows" "periods" "[I", Cond.fieldLink RX0 21 "BeatFollower$Blows" "states" "[I", Cond.methodLink RX0 28 yX0_rowOf, Cond.instanceMethod yX0_rowOf]
def wsX9_bestNudge_r7 : List Cond := [Cond.selects RX0 yX0_rowOf yX0_rowOf, Cond.code yX0_rowOf cX0_rowOf 2 (some .int), Cond.methodLink RX7 117 yX7_hearBeat, Cond.instanceMethod yX7_hearBeat, Cond.selects RX7 yX7_hearBeat yX7_hearBeat, Cond.code yX7_hearBeat cX7_hearBeat 3 none, Cond.fieldLink RX7 135 "BeatFollower$Tally" "heardLocked" "I", Cond.methodLink RX7 138 yX7_fateAt, Cond.instanceMethod yX7_fateAt, Cond.selects RX7 yX7_fateAt yX7_fateAt, Cond.code yX7_fateAt cX7_fateAt 2 (some .int), Cond.methodLink RX7 141 yX7_strikeWithBeat, Cond.instanceMethod yX7_strikeWithBeat, Cond.selects RX7 yX7_strikeWithBeat yX7_strikeWithBeat, Cond.code yX7_strikeWithBeat cX7_strikeWithBeat 3 none, Cond.fieldLink RX7 154 "BeatFollower$Drummer" "lead" "I", Cond.fieldLink RX7 25 "BeatFollower$Scene" "fates" "LBeatFollower$Fates;", Cond.methodLink RX7 151 yX5_numberOf, Cond.instanceMethod yX5_numberOf, Cond.selects RX5 yX5_numberOf yX5_numberOf, Cond.code yX5_numberOf cX5_numberOf 2 (some .int), Cond.methodLink RX7 157 yX2_note, Cond.instanceMethod yX2_note, Cond.selects RX2 yX2_note yX2_note]
def wsX9_bestNudge_r8 : List Cond := [Cond.initialized RX2, Cond.code yX2_note cX2_note 6 none, Cond.fieldLink RX2 9 "BeatFollower$Fates" "kinds" "[I", Cond.fieldLink RX2 15 "BeatFollower$Fates" "blows" "[I", Cond.fieldLink RX2 18 "BeatFollower$Fates" "offs" "[I", Cond.fieldLink RX2 21 "BeatFollower$Fates" "slips" "[I", Cond.methodLink RX2 24 yX2_hasRow, Cond.static yX2_hasRow, Cond.code yX2_hasRow cX2_hasRow 1 (some .boolean), Cond.methodLink RX7 145 yX7_passOver, Cond.instanceMethod yX7_passOver, Cond.selects RX7 yX7_passOver yX7_passOver, Cond.code yX7_passOver cX7_passOver 3 none, Cond.fieldLink RX7 165 "BeatFollower$Tally" "passedOver" "I", Cond.constant RX7 168 (100000), Cond.methodLink RX7 148 yX7_takeBeat, Cond.instanceMethod yX7_takeBeat, Cond.selects RX7 yX7_takeBeat yX7_takeBeat, Cond.code yX7_takeBeat cX7_takeBeat 7 none, Cond.methodLink RX7 173 Lib.Math.abs.name, Cond.static Lib.Math.abs.name, Cond.code Lib.Math.abs.name Lib.Math.abs.code 1 (some .int), Cond.fieldLink RX7 182 "BeatFollower$Tally" "offSum" "I", Cond.methodLink RX7 176 yX7_nudge]
def wsX9_bestNudge_r9 : List Cond := [Cond.instanceMethod yX7_nudge, Cond.selects RX7 yX7_nudge yX7_nudge, Cond.code yX7_nudge cX7_nudge 3 none, Cond.methodLink RX7 188 Lib.Math.max.name, Cond.static Lib.Math.max.name, Cond.code Lib.Math.max.name Lib.Math.max.code 2 (some .int), Cond.methodLink RX7 185 yX8_addSlip, Cond.instanceMethod yX8_addSlip, Cond.selects RX8 yX8_addSlip yX8_addSlip, Cond.code yX8_addSlip cX8_addSlip 2 none]
def wsX9_bestNudge : List Cond := .code yX9_bestNudge cX9_bestNudge 8 (some .int) :: ((wsX9_bestNudge_r1 ++ (wsX9_bestNudge_r2 ++ (wsX9_bestNudge_r3 ++ (wsX9_bestNudge_r4 ++ (wsX9_bestNudge_r5 ++ (wsX9_bestNudge_r6 ++ (wsX9_bestNudge_r7 ++ (wsX9_bestNudge_r8 ++ wsX9_bestNudge_r9)))))))) ++ wsX90 ++ wsX70 ++ wsX50 ++ wsX80 ++ wsX00 ++ wsX10 ++ wsX20)
def wsX9_worstBeat_r1 : List Cond := [Cond.fieldLink RX9 10 "BeatFollower" "scene" "LBeatFollower$Scene;", Cond.fieldLink RX9 87 "BeatFollower$Scene" "plan" "LBeatFollower$Plan;", Cond.fieldLink RX9 110 "BeatFollower$Plan" "many" "I", Cond.constant RX9 240 (1000000), Cond.fieldLink RX9 16 "BeatFollower" "trial" "LBeatFollower$Scene;", Cond.fieldLink RX9 73 "BeatFollower$Scene" "settings" "[I", Cond.fieldLink RX9 113 "BeatFollower$Scene" "tally" "LBeatFollower$Tally;", Cond.fieldLink RX9 199 "BeatFollower$Tally" "slipsTold" "I", Cond.methodLink RX9 83 yX9_isIn, Cond.static yX9_isIn, Cond.initialized RX9, Cond.code yX9_isIn cX9_isIn 3 (some .boolean), Cond.methodLink RX9 241 yX5_copyWithout, Cond.instanceMethod yX5_copyWithout, Cond.selects RX5 yX5_copyWithout yX5_copyWithout, Cond.initialized RX5, Cond.code yX5_copyWithout cX5_copyWithout 4 none, Cond.fieldLink RX5 18 "BeatFollower$Plan" "many" "I", Cond.methodLink RX5 26 yX5_timeOf, Cond.instanceMethod yX5_timeOf, Cond.selects RX5 yX5_timeOf yX5_timeOf, Cond.code yX5_timeOf cX5_timeOf 2 (some .int), Cond.fieldLink RX5 9 "BeatFollower$Plan" "times" "[I", Cond.methodLink RX5 22 yX5_has]
def wsX9_worstBeat_r2 : List Cond := [Cond.instanceMethod yX5_has, Cond.selects RX5 yX5_has yX5_has, Cond.code yX5_has cX5_has 2 (some .boolean), Cond.methodLink RX5 30 yX5_numberOf, Cond.instanceMethod yX5_numberOf, Cond.selects RX5 yX5_numberOf yX5_numberOf, Cond.code yX5_numberOf cX5_numberOf 2 (some .int), Cond.fieldLink RX5 15 "BeatFollower$Plan" "numbers" "[I", Cond.methodLink RX5 54 yX5_append, Cond.instanceMethod yX5_append, Cond.selects RX5 yX5_append yX5_append, Cond.code yX5_append cX5_append 3 none, Cond.methodLink RX9 231 yX9_playTrial, Cond.instanceMethod yX9_playTrial, Cond.selects RX9 yX9_playTrial yX9_playTrial, Cond.code yX9_playTrial cX9_playTrial 3 none, Cond.methodLink RX9 268 arraycopyName, Cond.native arraycopyName, Cond.static arraycopyName, Cond.initialized "java/lang/System", Cond.methodLink RX9 127 yX7_begin, Cond.instanceMethod yX7_begin, Cond.selects RX7 yX7_begin yX7_begin, Cond.initialized RX7]
def wsX9_worstBeat_r3 : List Cond := [Cond.code yX7_begin cX7_begin 1 none, Cond.fieldLink RX7 62 "BeatFollower$Scene" "time" "I", Cond.fieldLink RX7 32 "BeatFollower$Scene" "blows" "LBeatFollower$Blows;", Cond.fieldLink RX7 66 "BeatFollower$Blows" "many" "I", Cond.fieldLink RX7 46 "BeatFollower$Scene" "tally" "LBeatFollower$Tally;", Cond.fieldLink RX7 39 "BeatFollower$Scene" "drummer" "LBeatFollower$Drummer;", Cond.methodLink RX7 69 yX8_clear, Cond.instanceMethod yX8_clear, Cond.selects RX8 yX8_clear yX8_clear, Cond.initialized RX8, Cond.code yX8_clear cX8_clear 1 none, Cond.fieldLink RX8 16 "BeatFollower$Tally" "heard" "I", Cond.fieldLink RX8 19 "BeatFollower$Tally" "passedOver" "I", Cond.fieldLink RX8 22 "BeatFollower$Tally" "held" "I", Cond.fieldLink RX8 25 "BeatFollower$Tally" "locksWon" "I", Cond.fieldLink RX8 28 "BeatFollower$Tally" "locksLost" "I", Cond.fieldLink RX8 31 "BeatFollower$Tally" "silences" "I", Cond.fieldLink RX8 13 "BeatFollower$Tally" "slipsTold" "I", Cond.fieldLink RX8 7 "BeatFollower$Tally" "slipSum" "I", Cond.fieldLink RX8 34 "BeatFollower$Tally" "offSum" "I", Cond.fieldLink RX8 37 "BeatFollower$Tally" "heardLocked" "I", Cond.methodLink RX7 72 yX7_firstPeriod, Cond.instanceMethod yX7_firstPeriod, Cond.selects RX7 yX7_firstPeriod yX7_firstPeriod]
def wsX9_worstBeat_r4 : List Cond := [Cond.code yX7_firstPeriod cX7_firstPeriod 1 (some .int), Cond.fieldLink RX7 9 "BeatFollower$Scene" "settings" "[I", Cond.methodLink RX7 76 yX1_begin, Cond.instanceMethod yX1_begin, Cond.selects RX1 yX1_begin yX1_begin, Cond.initialized RX1, Cond.code yX1_begin cX1_begin 2 none, Cond.fieldLink RX1 9 "BeatFollower$Drummer" "state" "I", Cond.fieldLink RX1 15 "BeatFollower$Drummer" "period" "I", Cond.fieldLink RX1 18 "BeatFollower$Drummer" "nextBlow" "I", Cond.fieldLink RX1 21 "BeatFollower$Drummer" "goodInRow" "I", Cond.fieldLink RX1 24 "BeatFollower$Drummer" "badInRow" "I", Cond.fieldLink RX1 27 "BeatFollower$Drummer" "heldInRow" "I", Cond.fieldLink RX1 30 "BeatFollower$Drummer" "lead" "I", Cond.methodLink RX9 91 yX5_lastTime, Cond.instanceMethod yX5_lastTime, Cond.selects RX5 yX5_lastTime yX5_lastTime, Cond.code yX5_lastTime cX5_lastTime 1 (some .int), Cond.methodLink RX9 123 yX7_runTo, Cond.instanceMethod yX7_runTo, Cond.selects RX7 yX7_runTo yX7_runTo, Cond.code yX7_runTo cX7_runTo 4 none, Cond.fieldLink RX7 95 "BeatFollower$Tally" "heard" "I", Cond.fieldLink RX7 18 "BeatFollower$Scene" "plan" "LBeatFollower$Plan;"]
def wsX9_worstBeat_r5 : List Cond := [Cond.fieldLink RX7 98 "BeatFollower$Plan" "many" "I", Cond.constant RX7 103 (1000000), Cond.methodLink RX7 104 Lib.Math.min.name, Cond.static Lib.Math.min.name, Cond.initialized "java/lang/Math", Cond.code Lib.Math.min.name Lib.Math.min.code 2 (some .int), Cond.methodLink RX7 99 yX5_timeOf, Cond.methodLink RX7 110 yX7_isWindowOver, Cond.instanceMethod yX7_isWindowOver, Cond.selects RX7 yX7_isWindowOver yX7_isWindowOver, Cond.code yX7_isWindowOver cX7_isWindowOver 2 (some .boolean), Cond.fieldLink RX7 120 "BeatFollower$Drummer" "nextBlow" "I", Cond.methodLink RX7 123 yX7_halfWindow, Cond.instanceMethod yX7_halfWindow, Cond.selects RX7 yX7_halfWindow yX7_halfWindow, Cond.code yX7_halfWindow cX7_halfWindow 1 (some .int), Cond.fieldLink RX7 126 "BeatFollower$Drummer" "period" "I", Cond.methodLink RX7 129 yJ9_floorDiv_7cf53, Cond.static yJ9_floorDiv_7cf53, Cond.initialized RJ9, Cond.code yJ9_floorDiv_7cf53 cJ9_floorDiv_7cf53 3 (some .int), Cond.methodLink RX7 114 yX7_holdBlow, Cond.instanceMethod yX7_holdBlow, Cond.selects RX7 yX7_holdBlow yX7_holdBlow]
def wsX9_worstBeat_r6 : List Cond := [Cond.code yX7_holdBlow cX7_holdBlow 2 none, Cond.fieldLink RX7 179 "BeatFollower$Drummer" "heldInRow" "I", Cond.fieldLink RX7 191 "BeatFollower$Tally" "held" "I", Cond.fieldLink RX7 132 "BeatFollower$Drummer" "state" "I", Cond.methodLink RX7 169 yX7_judge, Cond.instanceMethod yX7_judge, Cond.selects RX7 yX7_judge yX7_judge, Cond.code yX7_judge cX7_judge 2 none, Cond.fieldLink RX7 197 "BeatFollower$Drummer" "goodInRow" "I", Cond.fieldLink RX7 200 "BeatFollower$Drummer" "badInRow" "I", Cond.fieldLink RX7 203 "BeatFollower$Tally" "locksWon" "I", Cond.methodLink RX7 206 yX7_loseLock, Cond.instanceMethod yX7_loseLock, Cond.selects RX7 yX7_loseLock yX7_loseLock, Cond.code yX7_loseLock cX7_loseLock 1 none, Cond.fieldLink RX7 209 "BeatFollower$Tally" "locksLost" "I", Cond.methodLink RX7 194 yX7_fallSilent, Cond.instanceMethod yX7_fallSilent, Cond.selects RX7 yX7_fallSilent yX7_fallSilent, Cond.code yX7_fallSilent cX7_fallSilent 1 none, Cond.fieldLink RX7 212 "BeatFollower$Tally" "silences" "I", Cond.methodLink RX7 161 yX0_append, Cond.instanceMethod yX0_append, Cond.selects RX0 yX0_append yX0_append]
def wsX9_worstBeat_r7 : List Cond := [Cond.initialized RX0, Cond.code yX0_append cX0_append 6 none, Cond.fieldLink RX0 24 "BeatFollower$Blows" "many" "I", Cond.fieldLink RX0 9 "BeatFollower$Blows" "times" "[I", Cond.fieldLink RX0 15 "BeatFollower$Blows" "beats" "[I", Cond.fieldLink RX0 18 "BeatFollower$Blows" "periods" "[I", Cond.fieldLink RX0 21 "BeatFollower$Blows" "states" "[I", Cond.methodLink RX0 28 yX0_rowOf, Cond.instanceMethod yX0_rowOf, Cond.selects RX0 yX0_rowOf yX0_rowOf, Cond.code yX0_rowOf cX0_rowOf 2 (some .int), Cond.methodLink RX7 117 yX7_hearBeat, Cond.instanceMethod yX7_hearBeat, Cond.selects RX7 yX7_hearBeat yX7_hearBeat, Cond.code yX7_hearBeat cX7_hearBeat 3 none, Cond.fieldLink RX7 135 "BeatFollower$Tally" "heardLocked" "I", Cond.methodLink RX7 138 yX7_fateAt, Cond.instanceMethod yX7_fateAt, Cond.selects RX7 yX7_fateAt yX7_fateAt, Cond.code yX7_fateAt cX7_fateAt 2 (some .int), Cond.methodLink RX7 141 yX7_strikeWithBeat, Cond.instanceMethod yX7_strikeWithBeat, Cond.selects RX7 yX7_strikeWithBeat yX7_strikeWithBeat, Cond.code yX7_strikeWithBeat cX7_strikeWithBeat 3 none]
def wsX9_worstBeat_r8 : List Cond := [Cond.fieldLink RX7 154 "BeatFollower$Drummer" "lead" "I", Cond.fieldLink RX7 25 "BeatFollower$Scene" "fates" "LBeatFollower$Fates;", Cond.methodLink RX7 151 yX5_numberOf, Cond.methodLink RX7 157 yX2_note, Cond.instanceMethod yX2_note, Cond.selects RX2 yX2_note yX2_note, Cond.initialized RX2, Cond.code yX2_note cX2_note 6 none, Cond.fieldLink RX2 9 "BeatFollower$Fates" "kinds" "[I", Cond.fieldLink RX2 15 "BeatFollower$Fates" "blows" "[I", Cond.fieldLink RX2 18 "BeatFollower$Fates" "offs" "[I", Cond.fieldLink RX2 21 "BeatFollower$Fates" "slips" "[I", Cond.methodLink RX2 24 yX2_hasRow, Cond.static yX2_hasRow, Cond.code yX2_hasRow cX2_hasRow 1 (some .boolean), Cond.methodLink RX7 145 yX7_passOver, Cond.instanceMethod yX7_passOver, Cond.selects RX7 yX7_passOver yX7_passOver, Cond.code yX7_passOver cX7_passOver 3 none, Cond.fieldLink RX7 165 "BeatFollower$Tally" "passedOver" "I", Cond.constant RX7 168 (100000), Cond.methodLink RX7 148 yX7_takeBeat, Cond.instanceMethod yX7_takeBeat, Cond.selects RX7 yX7_takeBeat yX7_takeBeat]
def wsX9_worstBeat_r9 : List Cond := [Cond.code yX7_takeBeat cX7_takeBeat 7 none, Cond.methodLink RX7 173 Lib.Math.abs.name, Cond.static Lib.Math.abs.name, Cond.code Lib.Math.abs.name Lib.Math.abs.code 1 (some .int), Cond.fieldLink RX7 182 "BeatFollower$Tally" "offSum" "I", Cond.methodLink RX7 176 yX7_nudge, Cond.instanceMethod yX7_nudge, Cond.selects RX7 yX7_nudge yX7_nudge, Cond.code yX7_nudge cX7_nudge 3 none, Cond.methodLink RX7 188 Lib.Math.max.name, Cond.static Lib.Math.max.name, Cond.code Lib.Math.max.name Lib.Math.max.code 2 (some .int), Cond.methodLink RX7 185 yX8_addSlip, Cond.instanceMethod yX8_addSlip, Cond.selects RX8 yX8_addSlip yX8_addSlip, Cond.code yX8_addSlip cX8_addSlip 2 none]
def wsX9_worstBeat : List Cond := .code yX9_worstBeat cX9_worstBeat 5 (some .int) :: ((wsX9_worstBeat_r1 ++ (wsX9_worstBeat_r2 ++ (wsX9_worstBeat_r3 ++ (wsX9_worstBeat_r4 ++ (wsX9_worstBeat_r5 ++ (wsX9_worstBeat_r6 ++ (wsX9_worstBeat_r7 ++ (wsX9_worstBeat_r8 ++ wsX9_worstBeat_r9)))))))) ++ wsX90 ++ wsX70 ++ wsX50 ++ wsX80 ++ wsX00 ++ wsX10 ++ wsX20)
def wsX9_charactersIn : List Cond := .code yX9_charactersIn cX9_charactersIn 6 (some .int) :: ([.constantLong RX9 249 (255), .methodLink RX9 83 yX9_isIn, .static yX9_isIn, .initialized RX9, .code yX9_isIn cX9_isIn 3 (some .boolean)])
def wsX9_put : List Cond := .code yX9_put cX9_put 5 (some .int) :: ([.fieldLink RX9 37 "BeatFollower" "pad" "LBeatFollower$Pad;", .fieldLink RX9 214 "BeatFollower$Pad" "length" "I", .constantLong RX9 249 (255), .methodLink RX9 245 yX9_charactersIn, .static yX9_charactersIn, .initialized RX9, .code yX9_charactersIn cX9_charactersIn 6 (some .int), .methodLink RX9 83 yX9_isIn, .static yX9_isIn, .code yX9_isIn cX9_isIn 3 (some .boolean), .methodLink RX9 251 yX4_append, .instanceMethod yX4_append, .selects RX4 yX4_append yX4_append, .initialized RX4, .code yX4_append cX4_append 2 none, .fieldLink RX4 15 "BeatFollower$Pad" "length" "I", .fieldLink RX4 9 "BeatFollower$Pad" "signs" "[C"] ++ wsX90 ++ wsX40)
def wsX9_wipe : List Cond := .code yX9_wipe cX9_wipe 2 (some .int) :: ([.fieldLink RX9 37 "BeatFollower" "pad" "LBeatFollower$Pad;", .fieldLink RX9 214 "BeatFollower$Pad" "length" "I"] ++ wsX90 ++ wsX40)
def wsX9_fault_r1 : List Cond := [Cond.fieldLink RX9 44 "BeatFollower" "reader" "LBeatFollower$Reader;", Cond.fieldLink RX9 37 "BeatFollower" "pad" "LBeatFollower$Pad;", Cond.fieldLink RX9 258 "BeatFollower$Reader" "fault" "I", Cond.methodLink RX9 254 yX6_read, Cond.instanceMethod yX6_read, Cond.selects RX6 yX6_read yX6_read, Cond.initialized RX6, Cond.code yX6_read cX6_read 3 none, Cond.fieldLink RX6 18 "BeatFollower$Reader" "many" "I", Cond.fieldLink RX6 22 "BeatFollower$Reader" "fault" "I", Cond.fieldLink RX6 25 "BeatFollower$Reader" "place" "I", Cond.fieldLink RX6 28 "BeatFollower$Reader" "laid" "I", Cond.fieldLink RX6 31 "BeatFollower$Reader" "missed" "I", Cond.fieldLink RX6 38 "BeatFollower$Pad" "length" "I", Cond.methodLink RX6 34 yX6_readPart, Cond.instanceMethod yX6_readPart, Cond.selects RX6 yX6_readPart yX6_readPart, Cond.code yX6_readPart cX6_readPart 3 none, Cond.methodLink RX6 47 yX4_signAt, Cond.instanceMethod yX4_signAt, Cond.selects RX4 yX4_signAt yX4_signAt, Cond.initialized RX4, Cond.code yX4_signAt cX4_signAt 2 (some .int), Cond.fieldLink RX4 15 "BeatFollower$Pad" "length" "I"]
def wsX9_fault_r2 : List Cond := [Cond.fieldLink RX4 9 "BeatFollower$Pad" "signs" "[C", Cond.methodLink RX6 51 yX6_readBeats, Cond.instanceMethod yX6_readBeats, Cond.selects RX6 yX6_readBeats yX6_readBeats, Cond.code yX6_readBeats cX6_readBeats 3 none, Cond.methodLink RX6 57 yX6_readNumber, Cond.instanceMethod yX6_readNumber, Cond.selects RX6 yX6_readNumber yX6_readNumber, Cond.code yX6_readNumber cX6_readNumber 7 (some .int), Cond.methodLink RX6 65 yX4_digitAt, Cond.instanceMethod yX4_digitAt, Cond.selects RX4 yX4_digitAt yX4_digitAt, Cond.code yX4_digitAt cX4_digitAt 3 (some .int), Cond.methodLink RX4 19 yX4_signAt, Cond.methodLink RX6 61 yX6_addBeats, Cond.instanceMethod yX6_addBeats, Cond.selects RX6 yX6_addBeats yX6_addBeats, Cond.code yX6_addBeats cX6_addBeats 4 none, Cond.fieldLink RX6 9 "BeatFollower$Reader" "gaps" "[I", Cond.fieldLink RX6 15 "BeatFollower$Reader" "misses" "[I", Cond.methodLink RX6 54 yX6_readEvenBeats, Cond.instanceMethod yX6_readEvenBeats, Cond.selects RX6 yX6_readEvenBeats yX6_readEvenBeats, Cond.code yX6_readEvenBeats cX6_readEvenBeats 3 none]
def wsX9_fault_r3 : List Cond := [Cond.methodLink RX6 43 yX6_readSign, Cond.instanceMethod yX6_readSign, Cond.selects RX6 yX6_readSign yX6_readSign, Cond.code yX6_readSign cX6_readSign 3 none]
def wsX9_fault : List Cond := .code yX9_fault cX9_fault 1 (some .int) :: ((wsX9_fault_r1 ++ (wsX9_fault_r2 ++ wsX9_fault_r3)) ++ wsX90 ++ wsX60 ++ wsX40)
def wsX9_plan_r1 : List Cond := [Cond.fieldLink RX9 44 "BeatFollower" "reader" "LBeatFollower$Reader;", Cond.fieldLink RX9 37 "BeatFollower" "pad" "LBeatFollower$Pad;", Cond.fieldLink RX9 258 "BeatFollower$Reader" "fault" "I", Cond.fieldLink RX9 16 "BeatFollower" "trial" "LBeatFollower$Scene;", Cond.fieldLink RX9 87 "BeatFollower$Scene" "plan" "LBeatFollower$Plan;", Cond.fieldLink RX9 10 "BeatFollower" "scene" "LBeatFollower$Scene;", Cond.fieldLink RX9 110 "BeatFollower$Plan" "many" "I", Cond.fieldLink RX9 103 "BeatFollower$Scene" "time" "I", Cond.fieldLink RX9 22 "BeatFollower" "history" "LBeatFollower$History;", Cond.fieldLink RX9 214 "BeatFollower$Pad" "length" "I", Cond.methodLink RX9 254 yX6_read, Cond.instanceMethod yX6_read, Cond.selects RX6 yX6_read yX6_read, Cond.initialized RX6, Cond.code yX6_read cX6_read 3 none, Cond.fieldLink RX6 18 "BeatFollower$Reader" "many" "I", Cond.fieldLink RX6 22 "BeatFollower$Reader" "fault" "I", Cond.fieldLink RX6 25 "BeatFollower$Reader" "place" "I", Cond.fieldLink RX6 28 "BeatFollower$Reader" "laid" "I", Cond.fieldLink RX6 31 "BeatFollower$Reader" "missed" "I", Cond.fieldLink RX6 38 "BeatFollower$Pad" "length" "I", Cond.methodLink RX6 34 yX6_readPart, Cond.instanceMethod yX6_readPart, Cond.selects RX6 yX6_readPart yX6_readPart]
def wsX9_plan_r2 : List Cond := [Cond.code yX6_readPart cX6_readPart 3 none, Cond.methodLink RX6 47 yX4_signAt, Cond.instanceMethod yX4_signAt, Cond.selects RX4 yX4_signAt yX4_signAt, Cond.initialized RX4, Cond.code yX4_signAt cX4_signAt 2 (some .int), Cond.fieldLink RX4 15 "BeatFollower$Pad" "length" "I", Cond.fieldLink RX4 9 "BeatFollower$Pad" "signs" "[C", Cond.methodLink RX6 51 yX6_readBeats, Cond.instanceMethod yX6_readBeats, Cond.selects RX6 yX6_readBeats yX6_readBeats, Cond.code yX6_readBeats cX6_readBeats 3 none, Cond.methodLink RX6 57 yX6_readNumber, Cond.instanceMethod yX6_readNumber, Cond.selects RX6 yX6_readNumber yX6_readNumber, Cond.code yX6_readNumber cX6_readNumber 7 (some .int), Cond.methodLink RX6 65 yX4_digitAt, Cond.instanceMethod yX4_digitAt, Cond.selects RX4 yX4_digitAt yX4_digitAt, Cond.code yX4_digitAt cX4_digitAt 3 (some .int), Cond.methodLink RX4 19 yX4_signAt, Cond.methodLink RX6 61 yX6_addBeats, Cond.instanceMethod yX6_addBeats, Cond.selects RX6 yX6_addBeats yX6_addBeats]
def wsX9_plan_r3 : List Cond := [Cond.code yX6_addBeats cX6_addBeats 4 none, Cond.fieldLink RX6 9 "BeatFollower$Reader" "gaps" "[I", Cond.fieldLink RX6 15 "BeatFollower$Reader" "misses" "[I", Cond.methodLink RX6 54 yX6_readEvenBeats, Cond.instanceMethod yX6_readEvenBeats, Cond.selects RX6 yX6_readEvenBeats yX6_readEvenBeats, Cond.code yX6_readEvenBeats cX6_readEvenBeats 3 none, Cond.methodLink RX6 43 yX6_readSign, Cond.instanceMethod yX6_readSign, Cond.selects RX6 yX6_readSign yX6_readSign, Cond.code yX6_readSign cX6_readSign 3 none, Cond.methodLink RX9 228 yX5_copyFrom, Cond.instanceMethod yX5_copyFrom, Cond.selects RX5 yX5_copyFrom yX5_copyFrom, Cond.initialized RX5, Cond.code yX5_copyFrom cX5_copyFrom 2 none, Cond.fieldLink RX5 9 "BeatFollower$Plan" "times" "[I", Cond.methodLink RX5 58 arraycopyName, Cond.native arraycopyName, Cond.static arraycopyName, Cond.initialized "java/lang/System", Cond.fieldLink RX5 15 "BeatFollower$Plan" "numbers" "[I", Cond.fieldLink RX5 18 "BeatFollower$Plan" "many" "I", Cond.methodLink RX9 261 yX5_appendAll]
def wsX9_plan_r4 : List Cond := [Cond.instanceMethod yX5_appendAll, Cond.selects RX5 yX5_appendAll yX5_appendAll, Cond.code yX5_appendAll cX5_appendAll 5 (some .boolean), Cond.fieldLink RX5 34 "BeatFollower$Reader" "many" "I", Cond.fieldLink RX5 41 "BeatFollower$Reader" "gaps" "[I", Cond.fieldLink RX5 47 "BeatFollower$Reader" "misses" "[I", Cond.methodLink RX5 37 yX5_lastTime, Cond.instanceMethod yX5_lastTime, Cond.selects RX5 yX5_lastTime yX5_lastTime, Cond.code yX5_lastTime cX5_lastTime 1 (some .int), Cond.methodLink RX5 26 yX5_timeOf, Cond.instanceMethod yX5_timeOf, Cond.selects RX5 yX5_timeOf yX5_timeOf, Cond.code yX5_timeOf cX5_timeOf 2 (some .int), Cond.methodLink RX5 22 yX5_has, Cond.instanceMethod yX5_has, Cond.selects RX5 yX5_has yX5_has, Cond.code yX5_has cX5_has 2 (some .boolean), Cond.methodLink RX5 44 yX5_nextNumber, Cond.instanceMethod yX5_nextNumber, Cond.selects RX5 yX5_nextNumber yX5_nextNumber, Cond.code yX5_nextNumber cX5_nextNumber 1 (some .int), Cond.methodLink RX5 30 yX5_numberOf, Cond.instanceMethod yX5_numberOf]
def wsX9_plan_r5 : List Cond := [Cond.selects RX5 yX5_numberOf yX5_numberOf, Cond.code yX5_numberOf cX5_numberOf 2 (some .int), Cond.methodLink RX5 50 yX5_canHold, Cond.instanceMethod yX5_canHold, Cond.selects RX5 yX5_canHold yX5_canHold, Cond.code yX5_canHold cX5_canHold 3 (some .boolean), Cond.constant RX5 33 (100000), Cond.methodLink RX5 54 yX5_append, Cond.instanceMethod yX5_append, Cond.selects RX5 yX5_append yX5_append, Cond.code yX5_append cX5_append 3 none, Cond.methodLink RX9 130 yX5_has, Cond.methodLink RX9 133 yX5_timeOf, Cond.methodLink RX9 69 yX3_record, Cond.instanceMethod yX3_record, Cond.selects RX3 yX3_record yX3_record, Cond.initialized RX3, Cond.code yX3_record cX3_record 2 none, Cond.fieldLink RX3 11 "BeatFollower$History" "scenes" "[LBeatFollower$Scene;", Cond.fieldLink RX3 18 "BeatFollower$History" "next" "I", Cond.fieldLink RX3 32 "BeatFollower$History" "many" "I", Cond.methodLink RX3 35 Lib.Math.min.name, Cond.static Lib.Math.min.name, Cond.initialized "java/lang/Math"]
def wsX9_plan_r6 : List Cond := [Cond.code Lib.Math.min.name Lib.Math.min.code 2 (some .int), Cond.methodLink RX3 22 yJ9_floorMod_7cf53, Cond.static yJ9_floorMod_7cf53, Cond.initialized RJ9, Cond.code yJ9_floorMod_7cf53 cJ9_floorMod_7cf53 3 (some .int), Cond.methodLink RX3 28 yX7_copyFrom, Cond.instanceMethod yX7_copyFrom, Cond.selects RX7 yX7_copyFrom yX7_copyFrom, Cond.initialized RX7, Cond.code yX7_copyFrom cX7_copyFrom 2 none, Cond.fieldLink RX7 9 "BeatFollower$Scene" "settings" "[I", Cond.methodLink RX7 53 arraycopyName, Cond.fieldLink RX7 18 "BeatFollower$Scene" "plan" "LBeatFollower$Plan;", Cond.fieldLink RX7 25 "BeatFollower$Scene" "fates" "LBeatFollower$Fates;", Cond.fieldLink RX7 32 "BeatFollower$Scene" "blows" "LBeatFollower$Blows;", Cond.fieldLink RX7 39 "BeatFollower$Scene" "drummer" "LBeatFollower$Drummer;", Cond.fieldLink RX7 46 "BeatFollower$Scene" "tally" "LBeatFollower$Tally;", Cond.fieldLink RX7 62 "BeatFollower$Scene" "time" "I", Cond.methodLink RX7 79 yX5_copyFrom, Cond.methodLink RX7 83 yX2_copyFrom, Cond.instanceMethod yX2_copyFrom, Cond.selects RX2 yX2_copyFrom yX2_copyFrom, Cond.initialized RX2, Cond.code yX2_copyFrom cX2_copyFrom 2 none]
def wsX9_plan_r7 : List Cond := [Cond.fieldLink RX2 9 "BeatFollower$Fates" "kinds" "[I", Cond.methodLink RX2 28 arraycopyName, Cond.fieldLink RX2 15 "BeatFollower$Fates" "blows" "[I", Cond.fieldLink RX2 18 "BeatFollower$Fates" "offs" "[I", Cond.fieldLink RX2 21 "BeatFollower$Fates" "slips" "[I", Cond.methodLink RX7 86 yX0_copyFrom, Cond.instanceMethod yX0_copyFrom, Cond.selects RX0 yX0_copyFrom yX0_copyFrom, Cond.initialized RX0, Cond.code yX0_copyFrom cX0_copyFrom 2 none, Cond.fieldLink RX0 9 "BeatFollower$Blows" "times" "[I", Cond.methodLink RX0 32 arraycopyName, Cond.fieldLink RX0 15 "BeatFollower$Blows" "beats" "[I", Cond.fieldLink RX0 18 "BeatFollower$Blows" "periods" "[I", Cond.fieldLink RX0 21 "BeatFollower$Blows" "states" "[I", Cond.fieldLink RX0 24 "BeatFollower$Blows" "many" "I", Cond.methodLink RX7 89 yX1_copyFrom, Cond.instanceMethod yX1_copyFrom, Cond.selects RX1 yX1_copyFrom yX1_copyFrom, Cond.initialized RX1, Cond.code yX1_copyFrom cX1_copyFrom 2 none, Cond.fieldLink RX1 9 "BeatFollower$Drummer" "state" "I", Cond.fieldLink RX1 15 "BeatFollower$Drummer" "period" "I", Cond.fieldLink RX1 18 "BeatFollower$Drummer" "nextBlow" "I"]
def wsX9_plan_r8 : List Cond := [Cond.fieldLink RX1 21 "BeatFollower$Drummer" "goodInRow" "I", Cond.fieldLink RX1 24 "BeatFollower$Drummer" "badInRow" "I", Cond.fieldLink RX1 27 "BeatFollower$Drummer" "heldInRow" "I", Cond.fieldLink RX1 30 "BeatFollower$Drummer" "lead" "I", Cond.methodLink RX7 92 yX8_copyFrom, Cond.instanceMethod yX8_copyFrom, Cond.selects RX8 yX8_copyFrom yX8_copyFrom, Cond.initialized RX8, Cond.code yX8_copyFrom cX8_copyFrom 2 none, Cond.fieldLink RX8 16 "BeatFollower$Tally" "heard" "I", Cond.fieldLink RX8 19 "BeatFollower$Tally" "passedOver" "I", Cond.fieldLink RX8 22 "BeatFollower$Tally" "held" "I", Cond.fieldLink RX8 25 "BeatFollower$Tally" "locksWon" "I", Cond.fieldLink RX8 28 "BeatFollower$Tally" "locksLost" "I", Cond.fieldLink RX8 31 "BeatFollower$Tally" "silences" "I", Cond.fieldLink RX8 13 "BeatFollower$Tally" "slipsTold" "I", Cond.fieldLink RX8 7 "BeatFollower$Tally" "slipSum" "I", Cond.fieldLink RX8 34 "BeatFollower$Tally" "offSum" "I", Cond.fieldLink RX8 37 "BeatFollower$Tally" "heardLocked" "I"]
def wsX9_plan : List Cond := .code yX9_plan cX9_plan 2 (some .int) :: ((wsX9_plan_r1 ++ (wsX9_plan_r2 ++ (wsX9_plan_r3 ++ (wsX9_plan_r4 ++ (wsX9_plan_r5 ++ (wsX9_plan_r6 ++ (wsX9_plan_r7 ++ wsX9_plan_r8))))))) ++ wsX90 ++ wsX60 ++ wsX70 ++ wsX50 ++ wsX40 ++ wsX30 ++ wsX20 ++ wsX00 ++ wsX10 ++ wsX80)
def wsX9_undo_r1 : List Cond := [Cond.fieldLink RX9 22 "BeatFollower" "history" "LBeatFollower$History;", Cond.fieldLink RX9 217 "BeatFollower$History" "many" "I", Cond.fieldLink RX9 10 "BeatFollower" "scene" "LBeatFollower$Scene;", Cond.methodLink RX9 265 yX3_takeBack, Cond.instanceMethod yX3_takeBack, Cond.selects RX3 yX3_takeBack yX3_takeBack, Cond.initialized RX3, Cond.code yX3_takeBack cX3_takeBack 2 none, Cond.fieldLink RX3 18 "BeatFollower$History" "next" "I", Cond.fieldLink RX3 32 "BeatFollower$History" "many" "I", Cond.fieldLink RX3 11 "BeatFollower$History" "scenes" "[LBeatFollower$Scene;", Cond.methodLink RX3 22 yJ9_floorMod_7cf53, Cond.static yJ9_floorMod_7cf53, Cond.initialized RJ9, Cond.code yJ9_floorMod_7cf53 cJ9_floorMod_7cf53 3 (some .int), Cond.methodLink RX3 28 yX7_copyFrom, Cond.instanceMethod yX7_copyFrom, Cond.selects RX7 yX7_copyFrom yX7_copyFrom, Cond.initialized RX7, Cond.code yX7_copyFrom cX7_copyFrom 2 none, Cond.fieldLink RX7 9 "BeatFollower$Scene" "settings" "[I", Cond.methodLink RX7 53 arraycopyName, Cond.native arraycopyName, Cond.static arraycopyName]
def wsX9_undo_r2 : List Cond := [Cond.initialized "java/lang/System", Cond.fieldLink RX7 18 "BeatFollower$Scene" "plan" "LBeatFollower$Plan;", Cond.fieldLink RX7 25 "BeatFollower$Scene" "fates" "LBeatFollower$Fates;", Cond.fieldLink RX7 32 "BeatFollower$Scene" "blows" "LBeatFollower$Blows;", Cond.fieldLink RX7 39 "BeatFollower$Scene" "drummer" "LBeatFollower$Drummer;", Cond.fieldLink RX7 46 "BeatFollower$Scene" "tally" "LBeatFollower$Tally;", Cond.fieldLink RX7 62 "BeatFollower$Scene" "time" "I", Cond.methodLink RX7 79 yX5_copyFrom, Cond.instanceMethod yX5_copyFrom, Cond.selects RX5 yX5_copyFrom yX5_copyFrom, Cond.initialized RX5, Cond.code yX5_copyFrom cX5_copyFrom 2 none, Cond.fieldLink RX5 9 "BeatFollower$Plan" "times" "[I", Cond.methodLink RX5 58 arraycopyName, Cond.fieldLink RX5 15 "BeatFollower$Plan" "numbers" "[I", Cond.fieldLink RX5 18 "BeatFollower$Plan" "many" "I", Cond.methodLink RX7 83 yX2_copyFrom, Cond.instanceMethod yX2_copyFrom, Cond.selects RX2 yX2_copyFrom yX2_copyFrom, Cond.initialized RX2, Cond.code yX2_copyFrom cX2_copyFrom 2 none, Cond.fieldLink RX2 9 "BeatFollower$Fates" "kinds" "[I", Cond.methodLink RX2 28 arraycopyName, Cond.fieldLink RX2 15 "BeatFollower$Fates" "blows" "[I"]
def wsX9_undo_r3 : List Cond := [Cond.fieldLink RX2 18 "BeatFollower$Fates" "offs" "[I", Cond.fieldLink RX2 21 "BeatFollower$Fates" "slips" "[I", Cond.methodLink RX7 86 yX0_copyFrom, Cond.instanceMethod yX0_copyFrom, Cond.selects RX0 yX0_copyFrom yX0_copyFrom, Cond.initialized RX0, Cond.code yX0_copyFrom cX0_copyFrom 2 none, Cond.fieldLink RX0 9 "BeatFollower$Blows" "times" "[I", Cond.methodLink RX0 32 arraycopyName, Cond.fieldLink RX0 15 "BeatFollower$Blows" "beats" "[I", Cond.fieldLink RX0 18 "BeatFollower$Blows" "periods" "[I", Cond.fieldLink RX0 21 "BeatFollower$Blows" "states" "[I", Cond.fieldLink RX0 24 "BeatFollower$Blows" "many" "I", Cond.methodLink RX7 89 yX1_copyFrom, Cond.instanceMethod yX1_copyFrom, Cond.selects RX1 yX1_copyFrom yX1_copyFrom, Cond.initialized RX1, Cond.code yX1_copyFrom cX1_copyFrom 2 none, Cond.fieldLink RX1 9 "BeatFollower$Drummer" "state" "I", Cond.fieldLink RX1 15 "BeatFollower$Drummer" "period" "I", Cond.fieldLink RX1 18 "BeatFollower$Drummer" "nextBlow" "I", Cond.fieldLink RX1 21 "BeatFollower$Drummer" "goodInRow" "I", Cond.fieldLink RX1 24 "BeatFollower$Drummer" "badInRow" "I", Cond.fieldLink RX1 27 "BeatFollower$Drummer" "heldInRow" "I"]
def wsX9_undo_r4 : List Cond := [Cond.fieldLink RX1 30 "BeatFollower$Drummer" "lead" "I", Cond.methodLink RX7 92 yX8_copyFrom, Cond.instanceMethod yX8_copyFrom, Cond.selects RX8 yX8_copyFrom yX8_copyFrom, Cond.initialized RX8, Cond.code yX8_copyFrom cX8_copyFrom 2 none, Cond.fieldLink RX8 16 "BeatFollower$Tally" "heard" "I", Cond.fieldLink RX8 19 "BeatFollower$Tally" "passedOver" "I", Cond.fieldLink RX8 22 "BeatFollower$Tally" "held" "I", Cond.fieldLink RX8 25 "BeatFollower$Tally" "locksWon" "I", Cond.fieldLink RX8 28 "BeatFollower$Tally" "locksLost" "I", Cond.fieldLink RX8 31 "BeatFollower$Tally" "silences" "I", Cond.fieldLink RX8 13 "BeatFollower$Tally" "slipsTold" "I", Cond.fieldLink RX8 7 "BeatFollower$Tally" "slipSum" "I", Cond.fieldLink RX8 34 "BeatFollower$Tally" "offSum" "I", Cond.fieldLink RX8 37 "BeatFollower$Tally" "heardLocked" "I"]
def wsX9_undo : List Cond := .code yX9_undo cX9_undo 1 (some .int) :: ((wsX9_undo_r1 ++ (wsX9_undo_r2 ++ (wsX9_undo_r3 ++ wsX9_undo_r4))) ++ wsX90 ++ wsX30 ++ wsX70 ++ wsX50 ++ wsX20 ++ wsX00 ++ wsX10 ++ wsX80)
def wsX9_save_r1 : List Cond := [Cond.fieldLink RX9 26 "BeatFollower" "slots" "[LBeatFollower$Scene;", Cond.fieldLink RX9 10 "BeatFollower" "scene" "LBeatFollower$Scene;", Cond.fieldLink RX9 30 "BeatFollower" "saved" "[Z", Cond.fieldLink RX9 103 "BeatFollower$Scene" "time" "I", Cond.methodLink RX9 83 yX9_isIn, Cond.static yX9_isIn, Cond.initialized RX9, Cond.code yX9_isIn cX9_isIn 3 (some .boolean), Cond.methodLink RX9 222 yX7_copyFrom, Cond.instanceMethod yX7_copyFrom, Cond.selects RX7 yX7_copyFrom yX7_copyFrom, Cond.initialized RX7, Cond.code yX7_copyFrom cX7_copyFrom 2 none, Cond.fieldLink RX7 9 "BeatFollower$Scene" "settings" "[I", Cond.methodLink RX7 53 arraycopyName, Cond.native arraycopyName, Cond.static arraycopyName, Cond.initialized "java/lang/System", Cond.fieldLink RX7 18 "BeatFollower$Scene" "plan" "LBeatFollower$Plan;", Cond.fieldLink RX7 25 "BeatFollower$Scene" "fates" "LBeatFollower$Fates;", Cond.fieldLink RX7 32 "BeatFollower$Scene" "blows" "LBeatFollower$Blows;", Cond.fieldLink RX7 39 "BeatFollower$Scene" "drummer" "LBeatFollower$Drummer;", Cond.fieldLink RX7 46 "BeatFollower$Scene" "tally" "LBeatFollower$Tally;", Cond.fieldLink RX7 62 "BeatFollower$Scene" "time" "I"]
def wsX9_save_r2 : List Cond := [Cond.methodLink RX7 79 yX5_copyFrom, Cond.instanceMethod yX5_copyFrom, Cond.selects RX5 yX5_copyFrom yX5_copyFrom, Cond.initialized RX5, Cond.code yX5_copyFrom cX5_copyFrom 2 none, Cond.fieldLink RX5 9 "BeatFollower$Plan" "times" "[I", Cond.methodLink RX5 58 arraycopyName, Cond.fieldLink RX5 15 "BeatFollower$Plan" "numbers" "[I", Cond.fieldLink RX5 18 "BeatFollower$Plan" "many" "I", Cond.methodLink RX7 83 yX2_copyFrom, Cond.instanceMethod yX2_copyFrom, Cond.selects RX2 yX2_copyFrom yX2_copyFrom, Cond.initialized RX2, Cond.code yX2_copyFrom cX2_copyFrom 2 none, Cond.fieldLink RX2 9 "BeatFollower$Fates" "kinds" "[I", Cond.methodLink RX2 28 arraycopyName, Cond.fieldLink RX2 15 "BeatFollower$Fates" "blows" "[I", Cond.fieldLink RX2 18 "BeatFollower$Fates" "offs" "[I", Cond.fieldLink RX2 21 "BeatFollower$Fates" "slips" "[I", Cond.methodLink RX7 86 yX0_copyFrom, Cond.instanceMethod yX0_copyFrom, Cond.selects RX0 yX0_copyFrom yX0_copyFrom, Cond.initialized RX0, Cond.code yX0_copyFrom cX0_copyFrom 2 none]
def wsX9_save_r3 : List Cond := [Cond.fieldLink RX0 9 "BeatFollower$Blows" "times" "[I", Cond.methodLink RX0 32 arraycopyName, Cond.fieldLink RX0 15 "BeatFollower$Blows" "beats" "[I", Cond.fieldLink RX0 18 "BeatFollower$Blows" "periods" "[I", Cond.fieldLink RX0 21 "BeatFollower$Blows" "states" "[I", Cond.fieldLink RX0 24 "BeatFollower$Blows" "many" "I", Cond.methodLink RX7 89 yX1_copyFrom, Cond.instanceMethod yX1_copyFrom, Cond.selects RX1 yX1_copyFrom yX1_copyFrom, Cond.initialized RX1, Cond.code yX1_copyFrom cX1_copyFrom 2 none, Cond.fieldLink RX1 9 "BeatFollower$Drummer" "state" "I", Cond.fieldLink RX1 15 "BeatFollower$Drummer" "period" "I", Cond.fieldLink RX1 18 "BeatFollower$Drummer" "nextBlow" "I", Cond.fieldLink RX1 21 "BeatFollower$Drummer" "goodInRow" "I", Cond.fieldLink RX1 24 "BeatFollower$Drummer" "badInRow" "I", Cond.fieldLink RX1 27 "BeatFollower$Drummer" "heldInRow" "I", Cond.fieldLink RX1 30 "BeatFollower$Drummer" "lead" "I", Cond.methodLink RX7 92 yX8_copyFrom, Cond.instanceMethod yX8_copyFrom, Cond.selects RX8 yX8_copyFrom yX8_copyFrom, Cond.initialized RX8, Cond.code yX8_copyFrom cX8_copyFrom 2 none, Cond.fieldLink RX8 16 "BeatFollower$Tally" "heard" "I"]
def wsX9_save_r4 : List Cond := [Cond.fieldLink RX8 19 "BeatFollower$Tally" "passedOver" "I", Cond.fieldLink RX8 22 "BeatFollower$Tally" "held" "I", Cond.fieldLink RX8 25 "BeatFollower$Tally" "locksWon" "I", Cond.fieldLink RX8 28 "BeatFollower$Tally" "locksLost" "I", Cond.fieldLink RX8 31 "BeatFollower$Tally" "silences" "I", Cond.fieldLink RX8 13 "BeatFollower$Tally" "slipsTold" "I", Cond.fieldLink RX8 7 "BeatFollower$Tally" "slipSum" "I", Cond.fieldLink RX8 34 "BeatFollower$Tally" "offSum" "I", Cond.fieldLink RX8 37 "BeatFollower$Tally" "heardLocked" "I"]
def wsX9_save : List Cond := .code yX9_save cX9_save 2 (some .int) :: ((wsX9_save_r1 ++ (wsX9_save_r2 ++ (wsX9_save_r3 ++ wsX9_save_r4))) ++ wsX90 ++ wsX70 ++ wsX50 ++ wsX20 ++ wsX00 ++ wsX10 ++ wsX80)
def wsX9_restore_r1 : List Cond := [Cond.fieldLink RX9 30 "BeatFollower" "saved" "[Z", Cond.fieldLink RX9 22 "BeatFollower" "history" "LBeatFollower$History;", Cond.fieldLink RX9 10 "BeatFollower" "scene" "LBeatFollower$Scene;", Cond.fieldLink RX9 26 "BeatFollower" "slots" "[LBeatFollower$Scene;", Cond.fieldLink RX9 103 "BeatFollower$Scene" "time" "I", Cond.methodLink RX9 83 yX9_isIn, Cond.static yX9_isIn, Cond.initialized RX9, Cond.code yX9_isIn cX9_isIn 3 (some .boolean), Cond.methodLink RX9 69 yX3_record, Cond.instanceMethod yX3_record, Cond.selects RX3 yX3_record yX3_record, Cond.initialized RX3, Cond.code yX3_record cX3_record 2 none, Cond.fieldLink RX3 11 "BeatFollower$History" "scenes" "[LBeatFollower$Scene;", Cond.fieldLink RX3 18 "BeatFollower$History" "next" "I", Cond.fieldLink RX3 32 "BeatFollower$History" "many" "I", Cond.methodLink RX3 35 Lib.Math.min.name, Cond.static Lib.Math.min.name, Cond.initialized "java/lang/Math", Cond.code Lib.Math.min.name Lib.Math.min.code 2 (some .int), Cond.methodLink RX3 22 yJ9_floorMod_7cf53, Cond.static yJ9_floorMod_7cf53, Cond.initialized RJ9]
def wsX9_restore_r2 : List Cond := [Cond.code yJ9_floorMod_7cf53 cJ9_floorMod_7cf53 3 (some .int), Cond.methodLink RX3 28 yX7_copyFrom, Cond.instanceMethod yX7_copyFrom, Cond.selects RX7 yX7_copyFrom yX7_copyFrom, Cond.initialized RX7, Cond.code yX7_copyFrom cX7_copyFrom 2 none, Cond.fieldLink RX7 9 "BeatFollower$Scene" "settings" "[I", Cond.methodLink RX7 53 arraycopyName, Cond.native arraycopyName, Cond.static arraycopyName, Cond.initialized "java/lang/System", Cond.fieldLink RX7 18 "BeatFollower$Scene" "plan" "LBeatFollower$Plan;", Cond.fieldLink RX7 25 "BeatFollower$Scene" "fates" "LBeatFollower$Fates;", Cond.fieldLink RX7 32 "BeatFollower$Scene" "blows" "LBeatFollower$Blows;", Cond.fieldLink RX7 39 "BeatFollower$Scene" "drummer" "LBeatFollower$Drummer;", Cond.fieldLink RX7 46 "BeatFollower$Scene" "tally" "LBeatFollower$Tally;", Cond.fieldLink RX7 62 "BeatFollower$Scene" "time" "I", Cond.methodLink RX7 79 yX5_copyFrom, Cond.instanceMethod yX5_copyFrom, Cond.selects RX5 yX5_copyFrom yX5_copyFrom, Cond.initialized RX5, Cond.code yX5_copyFrom cX5_copyFrom 2 none, Cond.fieldLink RX5 9 "BeatFollower$Plan" "times" "[I", Cond.methodLink RX5 58 arraycopyName]
def wsX9_restore_r3 : List Cond := [Cond.fieldLink RX5 15 "BeatFollower$Plan" "numbers" "[I", Cond.fieldLink RX5 18 "BeatFollower$Plan" "many" "I", Cond.methodLink RX7 83 yX2_copyFrom, Cond.instanceMethod yX2_copyFrom, Cond.selects RX2 yX2_copyFrom yX2_copyFrom, Cond.initialized RX2, Cond.code yX2_copyFrom cX2_copyFrom 2 none, Cond.fieldLink RX2 9 "BeatFollower$Fates" "kinds" "[I", Cond.methodLink RX2 28 arraycopyName, Cond.fieldLink RX2 15 "BeatFollower$Fates" "blows" "[I", Cond.fieldLink RX2 18 "BeatFollower$Fates" "offs" "[I", Cond.fieldLink RX2 21 "BeatFollower$Fates" "slips" "[I", Cond.methodLink RX7 86 yX0_copyFrom, Cond.instanceMethod yX0_copyFrom, Cond.selects RX0 yX0_copyFrom yX0_copyFrom, Cond.initialized RX0, Cond.code yX0_copyFrom cX0_copyFrom 2 none, Cond.fieldLink RX0 9 "BeatFollower$Blows" "times" "[I", Cond.methodLink RX0 32 arraycopyName, Cond.fieldLink RX0 15 "BeatFollower$Blows" "beats" "[I", Cond.fieldLink RX0 18 "BeatFollower$Blows" "periods" "[I", Cond.fieldLink RX0 21 "BeatFollower$Blows" "states" "[I", Cond.fieldLink RX0 24 "BeatFollower$Blows" "many" "I", Cond.methodLink RX7 89 yX1_copyFrom]
def wsX9_restore_r4 : List Cond := [Cond.instanceMethod yX1_copyFrom, Cond.selects RX1 yX1_copyFrom yX1_copyFrom, Cond.initialized RX1, Cond.code yX1_copyFrom cX1_copyFrom 2 none, Cond.fieldLink RX1 9 "BeatFollower$Drummer" "state" "I", Cond.fieldLink RX1 15 "BeatFollower$Drummer" "period" "I", Cond.fieldLink RX1 18 "BeatFollower$Drummer" "nextBlow" "I", Cond.fieldLink RX1 21 "BeatFollower$Drummer" "goodInRow" "I", Cond.fieldLink RX1 24 "BeatFollower$Drummer" "badInRow" "I", Cond.fieldLink RX1 27 "BeatFollower$Drummer" "heldInRow" "I", Cond.fieldLink RX1 30 "BeatFollower$Drummer" "lead" "I", Cond.methodLink RX7 92 yX8_copyFrom, Cond.instanceMethod yX8_copyFrom, Cond.selects RX8 yX8_copyFrom yX8_copyFrom, Cond.initialized RX8, Cond.code yX8_copyFrom cX8_copyFrom 2 none, Cond.fieldLink RX8 16 "BeatFollower$Tally" "heard" "I", Cond.fieldLink RX8 19 "BeatFollower$Tally" "passedOver" "I", Cond.fieldLink RX8 22 "BeatFollower$Tally" "held" "I", Cond.fieldLink RX8 25 "BeatFollower$Tally" "locksWon" "I", Cond.fieldLink RX8 28 "BeatFollower$Tally" "locksLost" "I", Cond.fieldLink RX8 31 "BeatFollower$Tally" "silences" "I", Cond.fieldLink RX8 13 "BeatFollower$Tally" "slipsTold" "I", Cond.fieldLink RX8 7 "BeatFollower$Tally" "slipSum" "I"]
def wsX9_restore_r5 : List Cond := [Cond.fieldLink RX8 34 "BeatFollower$Tally" "offSum" "I", Cond.fieldLink RX8 37 "BeatFollower$Tally" "heardLocked" "I", Cond.methodLink RX9 222 yX7_copyFrom]
def wsX9_restore : List Cond := .code yX9_restore cX9_restore 2 (some .int) :: ((wsX9_restore_r1 ++ (wsX9_restore_r2 ++ (wsX9_restore_r3 ++ (wsX9_restore_r4 ++ wsX9_restore_r5)))) ++ wsX90 ++ wsX70 ++ wsX30 ++ wsX50 ++ wsX20 ++ wsX00 ++ wsX10 ++ wsX80)
def wsX10_init : List Cond := .code yX10_init cX10_init 1 none :: ([.methodLink RX10 1 objectInit, .instanceMethod objectInit, .code objectInit ⟨#[0xb1]⟩ 1 none, .arrayClass .int, .fieldLink RX10 7 "BeatFollowerModel" "at" "[I", .fieldLink RX10 13 "BeatFollowerModel" "past" "[I", .fieldLink RX10 16 "BeatFollowerModel" "slots" "[I", .arrayClass .boolean, .fieldLink RX10 19 "BeatFollowerModel" "isSaved" "[Z", .fieldLink RX10 23 "BeatFollowerModel" "aside" "[I", .fieldLink RX10 26 "BeatFollowerModel" "leftOut" "I", .fieldLink RX10 30 "BeatFollowerModel" "pad" "[I", .fieldLink RX10 33 "BeatFollowerModel" "afters" "[I", .fieldLink RX10 36 "BeatFollowerModel" "misses" "[I"] ++ wsX100)
def wsX10_in : List Cond := .code yX10_in cX10_in 3 (some .boolean) :: ([])
def wsX10_size : List Cond := .code yX10_size cX10_size 1 (some .int) :: ([])
def wsX10_part : List Cond := .code yX10_part cX10_part 2 (some .int) :: ([])
def wsX10_ofB : List Cond := .code yX10_ofB cX10_ofB 3 (some .int) :: ([.fieldLink RX10 7 "BeatFollowerModel" "at" "[I"] ++ wsX100)
def wsX10_layB : List Cond := .code yX10_layB cX10_layB 4 none :: ([.fieldLink RX10 7 "BeatFollowerModel" "at" "[I"] ++ wsX100)
def wsX10_keep : List Cond := .code yX10_keep cX10_keep 3 none :: ([.fieldLink RX10 39 "BeatFollowerModel" "pastMany" "I", .fieldLink RX10 42 "BeatFollowerModel" "pastFirst" "I", .fieldLink RX10 13 "BeatFollowerModel" "past" "[I", .fieldLink RX10 7 "BeatFollowerModel" "at" "[I"] ++ wsX100)
def wsX10_layAside : List Cond := .code yX10_layAside cX10_layAside 2 none :: ([.fieldLink RX10 23 "BeatFollowerModel" "aside" "[I", .fieldLink RX10 7 "BeatFollowerModel" "at" "[I"] ++ wsX100)
def wsX10_layBack : List Cond := .code yX10_layBack cX10_layBack 2 none :: ([.fieldLink RX10 7 "BeatFollowerModel" "at" "[I", .fieldLink RX10 23 "BeatFollowerModel" "aside" "[I"] ++ wsX100)
def wsX10_halfWindow : List Cond := .code yX10_halfWindow cX10_halfWindow 1 (some .int) :: ([.fieldLink RX10 7 "BeatFollowerModel" "at" "[I"] ++ wsX100)
def wsX10_strike : List Cond := .code yX10_strike cX10_strike 5 (some .int) :: ([.fieldLink RX10 7 "BeatFollowerModel" "at" "[I"] ++ wsX100)
def wsX10_endBlow : List Cond := .code yX10_endBlow cX10_endBlow 2 none :: ([.fieldLink RX10 7 "BeatFollowerModel" "at" "[I"] ++ wsX100)
def wsX10_become : List Cond := .code yX10_become cX10_become 6 none :: ([.methodLink RX10 45 yX10_layB, .instanceMethod yX10_layB, .selects RX10 yX10_layB yX10_layB, .initialized RX10, .code yX10_layB cX10_layB 4 none, .fieldLink RX10 7 "BeatFollowerModel" "at" "[I"] ++ wsX100)
def wsX10_loseLock : List Cond := .code yX10_loseLock cX10_loseLock 1 none :: ([.fieldLink RX10 7 "BeatFollowerModel" "at" "[I"] ++ wsX100)
def wsX10_judge : List Cond := .code yX10_judge cX10_judge 3 none :: ([.fieldLink RX10 7 "BeatFollowerModel" "at" "[I", .methodLink RX10 49 yX10_loseLock, .instanceMethod yX10_loseLock, .selects RX10 yX10_loseLock yX10_loseLock, .initialized RX10, .code yX10_loseLock cX10_loseLock 1 none] ++ wsX100)
def wsX10_begin : List Cond := .code yX10_begin cX10_begin 3 none :: ([.fieldLink RX10 7 "BeatFollowerModel" "at" "[I", .methodLink RX10 52 yX10_ofB, .instanceMethod yX10_ofB, .selects RX10 yX10_ofB yX10_ofB, .initialized RX10, .code yX10_ofB cX10_ofB 3 (some .int), .methodLink RX10 56 yX10_strike, .instanceMethod yX10_strike, .selects RX10 yX10_strike yX10_strike, .code yX10_strike cX10_strike 5 (some .int), .methodLink RX10 59 yX10_become, .instanceMethod yX10_become, .selects RX10 yX10_become yX10_become, .code yX10_become cX10_become 6 none, .methodLink RX10 45 yX10_layB, .instanceMethod yX10_layB, .selects RX10 yX10_layB yX10_layB, .code yX10_layB cX10_layB 4 none, .methodLink RX10 63 yX10_endBlow, .instanceMethod yX10_endBlow, .selects RX10 yX10_endBlow yX10_endBlow, .code yX10_endBlow cX10_endBlow 2 none] ++ wsX100)
def wsX10_takeBeat_r1 : List Cond := [Cond.fieldLink RX10 7 "BeatFollowerModel" "at" "[I", Cond.methodLink RX10 56 yX10_strike, Cond.instanceMethod yX10_strike, Cond.selects RX10 yX10_strike yX10_strike, Cond.initialized RX10, Cond.code yX10_strike cX10_strike 5 (some .int), Cond.methodLink RX10 66 yX10_part, Cond.static yX10_part, Cond.code yX10_part cX10_part 2 (some .int), Cond.methodLink RX10 52 yX10_ofB, Cond.instanceMethod yX10_ofB, Cond.selects RX10 yX10_ofB yX10_ofB, Cond.code yX10_ofB cX10_ofB 3 (some .int), Cond.methodLink RX10 69 yX10_size, Cond.static yX10_size, Cond.code yX10_size cX10_size 1 (some .int), Cond.methodLink RX10 59 yX10_become, Cond.instanceMethod yX10_become, Cond.selects RX10 yX10_become yX10_become, Cond.code yX10_become cX10_become 6 none, Cond.methodLink RX10 45 yX10_layB, Cond.instanceMethod yX10_layB, Cond.selects RX10 yX10_layB yX10_layB, Cond.code yX10_layB cX10_layB 4 none]
def wsX10_takeBeat_r2 : List Cond := [Cond.methodLink RX10 73 yX10_judge, Cond.instanceMethod yX10_judge, Cond.selects RX10 yX10_judge yX10_judge, Cond.code yX10_judge cX10_judge 3 none, Cond.methodLink RX10 49 yX10_loseLock, Cond.instanceMethod yX10_loseLock, Cond.selects RX10 yX10_loseLock yX10_loseLock, Cond.code yX10_loseLock cX10_loseLock 1 none, Cond.methodLink RX10 63 yX10_endBlow, Cond.instanceMethod yX10_endBlow, Cond.selects RX10 yX10_endBlow yX10_endBlow, Cond.code yX10_endBlow cX10_endBlow 2 none]
def wsX10_takeBeat : List Cond := .code yX10_takeBeat cX10_takeBeat 8 none :: ((wsX10_takeBeat_r1 ++ wsX10_takeBeat_r2) ++ wsX100)
def wsX10_hear_r1 : List Cond := [Cond.fieldLink RX10 7 "BeatFollowerModel" "at" "[I", Cond.fieldLink RX10 26 "BeatFollowerModel" "leftOut" "I", Cond.methodLink RX10 77 yX10_begin, Cond.instanceMethod yX10_begin, Cond.selects RX10 yX10_begin yX10_begin, Cond.initialized RX10, Cond.code yX10_begin cX10_begin 3 none, Cond.methodLink RX10 52 yX10_ofB, Cond.instanceMethod yX10_ofB, Cond.selects RX10 yX10_ofB yX10_ofB, Cond.code yX10_ofB cX10_ofB 3 (some .int), Cond.methodLink RX10 56 yX10_strike, Cond.instanceMethod yX10_strike, Cond.selects RX10 yX10_strike yX10_strike, Cond.code yX10_strike cX10_strike 5 (some .int), Cond.methodLink RX10 59 yX10_become, Cond.instanceMethod yX10_become, Cond.selects RX10 yX10_become yX10_become, Cond.code yX10_become cX10_become 6 none, Cond.methodLink RX10 45 yX10_layB, Cond.instanceMethod yX10_layB, Cond.selects RX10 yX10_layB yX10_layB, Cond.code yX10_layB cX10_layB 4 none, Cond.methodLink RX10 63 yX10_endBlow]
def wsX10_hear_r2 : List Cond := [Cond.instanceMethod yX10_endBlow, Cond.selects RX10 yX10_endBlow yX10_endBlow, Cond.code yX10_endBlow cX10_endBlow 2 none, Cond.methodLink RX10 81 yX10_halfWindow, Cond.instanceMethod yX10_halfWindow, Cond.selects RX10 yX10_halfWindow yX10_halfWindow, Cond.code yX10_halfWindow cX10_halfWindow 1 (some .int), Cond.methodLink RX10 73 yX10_judge, Cond.instanceMethod yX10_judge, Cond.selects RX10 yX10_judge yX10_judge, Cond.code yX10_judge cX10_judge 3 none, Cond.methodLink RX10 49 yX10_loseLock, Cond.instanceMethod yX10_loseLock, Cond.selects RX10 yX10_loseLock yX10_loseLock, Cond.code yX10_loseLock cX10_loseLock 1 none, Cond.methodLink RX10 85 yX10_takeBeat, Cond.instanceMethod yX10_takeBeat, Cond.selects RX10 yX10_takeBeat yX10_takeBeat, Cond.code yX10_takeBeat cX10_takeBeat 8 none, Cond.methodLink RX10 66 yX10_part, Cond.static yX10_part, Cond.code yX10_part cX10_part 2 (some .int), Cond.methodLink RX10 69 yX10_size, Cond.static yX10_size]
def wsX10_hear_r3 : List Cond := [Cond.code yX10_size cX10_size 1 (some .int)]
def wsX10_hear : List Cond := .code yX10_hear cX10_hear 3 none :: ((wsX10_hear_r1 ++ (wsX10_hear_r2 ++ wsX10_hear_r3)) ++ wsX100)
def wsX10_holdOn : List Cond := .code yX10_holdOn cX10_holdOn 1 none :: ([.fieldLink RX10 7 "BeatFollowerModel" "at" "[I", .methodLink RX10 56 yX10_strike, .instanceMethod yX10_strike, .selects RX10 yX10_strike yX10_strike, .initialized RX10, .code yX10_strike cX10_strike 5 (some .int), .methodLink RX10 73 yX10_judge, .instanceMethod yX10_judge, .selects RX10 yX10_judge yX10_judge, .code yX10_judge cX10_judge 3 none, .methodLink RX10 49 yX10_loseLock, .instanceMethod yX10_loseLock, .selects RX10 yX10_loseLock yX10_loseLock, .code yX10_loseLock cX10_loseLock 1 none, .methodLink RX10 63 yX10_endBlow, .instanceMethod yX10_endBlow, .selects RX10 yX10_endBlow yX10_endBlow, .code yX10_endBlow cX10_endBlow 2 none] ++ wsX100)
def wsX10_holdUpTo_r1 : List Cond := [Cond.fieldLink RX10 7 "BeatFollowerModel" "at" "[I", Cond.methodLink RX10 81 yX10_halfWindow, Cond.instanceMethod yX10_halfWindow, Cond.selects RX10 yX10_halfWindow yX10_halfWindow, Cond.initialized RX10, Cond.code yX10_halfWindow cX10_halfWindow 1 (some .int), Cond.methodLink RX10 89 yX10_holdOn, Cond.instanceMethod yX10_holdOn, Cond.selects RX10 yX10_holdOn yX10_holdOn, Cond.code yX10_holdOn cX10_holdOn 1 none, Cond.methodLink RX10 56 yX10_strike, Cond.instanceMethod yX10_strike, Cond.selects RX10 yX10_strike yX10_strike, Cond.code yX10_strike cX10_strike 5 (some .int), Cond.methodLink RX10 73 yX10_judge, Cond.instanceMethod yX10_judge, Cond.selects RX10 yX10_judge yX10_judge, Cond.code yX10_judge cX10_judge 3 none, Cond.methodLink RX10 49 yX10_loseLock, Cond.instanceMethod yX10_loseLock, Cond.selects RX10 yX10_loseLock yX10_loseLock, Cond.code yX10_loseLock cX10_loseLock 1 none, Cond.methodLink RX10 63 yX10_endBlow, Cond.instanceMethod yX10_endBlow]
def wsX10_holdUpTo_r2 : List Cond := [Cond.selects RX10 yX10_endBlow yX10_endBlow, Cond.code yX10_endBlow cX10_endBlow 2 none]
def wsX10_holdUpTo : List Cond := .code yX10_holdUpTo cX10_holdUpTo 2 none :: ((wsX10_holdUpTo_r1 ++ wsX10_holdUpTo_r2) ++ wsX100)
def wsX10_happenUpTo_r1 : List Cond := [Cond.fieldLink RX10 7 "BeatFollowerModel" "at" "[I", Cond.fieldLink RX10 26 "BeatFollowerModel" "leftOut" "I", Cond.methodLink RX10 52 yX10_ofB, Cond.instanceMethod yX10_ofB, Cond.selects RX10 yX10_ofB yX10_ofB, Cond.initialized RX10, Cond.code yX10_ofB cX10_ofB 3 (some .int), Cond.methodLink RX10 92 yX10_holdUpTo, Cond.instanceMethod yX10_holdUpTo, Cond.selects RX10 yX10_holdUpTo yX10_holdUpTo, Cond.code yX10_holdUpTo cX10_holdUpTo 2 none, Cond.methodLink RX10 81 yX10_halfWindow, Cond.instanceMethod yX10_halfWindow, Cond.selects RX10 yX10_halfWindow yX10_halfWindow, Cond.code yX10_halfWindow cX10_halfWindow 1 (some .int), Cond.methodLink RX10 89 yX10_holdOn, Cond.instanceMethod yX10_holdOn, Cond.selects RX10 yX10_holdOn yX10_holdOn, Cond.code yX10_holdOn cX10_holdOn 1 none, Cond.methodLink RX10 56 yX10_strike, Cond.instanceMethod yX10_strike, Cond.selects RX10 yX10_strike yX10_strike, Cond.code yX10_strike cX10_strike 5 (some .int), Cond.methodLink RX10 73 yX10_judge]
def wsX10_happenUpTo_r2 : List Cond := [Cond.instanceMethod yX10_judge, Cond.selects RX10 yX10_judge yX10_judge, Cond.code yX10_judge cX10_judge 3 none, Cond.methodLink RX10 49 yX10_loseLock, Cond.instanceMethod yX10_loseLock, Cond.selects RX10 yX10_loseLock yX10_loseLock, Cond.code yX10_loseLock cX10_loseLock 1 none, Cond.methodLink RX10 63 yX10_endBlow, Cond.instanceMethod yX10_endBlow, Cond.selects RX10 yX10_endBlow yX10_endBlow, Cond.code yX10_endBlow cX10_endBlow 2 none, Cond.methodLink RX10 95 yX10_hear, Cond.instanceMethod yX10_hear, Cond.selects RX10 yX10_hear yX10_hear, Cond.code yX10_hear cX10_hear 3 none, Cond.methodLink RX10 77 yX10_begin, Cond.instanceMethod yX10_begin, Cond.selects RX10 yX10_begin yX10_begin, Cond.code yX10_begin cX10_begin 3 none, Cond.methodLink RX10 59 yX10_become, Cond.instanceMethod yX10_become, Cond.selects RX10 yX10_become yX10_become, Cond.code yX10_become cX10_become 6 none, Cond.methodLink RX10 45 yX10_layB]
def wsX10_happenUpTo_r3 : List Cond := [Cond.instanceMethod yX10_layB, Cond.selects RX10 yX10_layB yX10_layB, Cond.code yX10_layB cX10_layB 4 none, Cond.methodLink RX10 85 yX10_takeBeat, Cond.instanceMethod yX10_takeBeat, Cond.selects RX10 yX10_takeBeat yX10_takeBeat, Cond.code yX10_takeBeat cX10_takeBeat 8 none, Cond.methodLink RX10 66 yX10_part, Cond.static yX10_part, Cond.code yX10_part cX10_part 2 (some .int), Cond.methodLink RX10 69 yX10_size, Cond.static yX10_size, Cond.code yX10_size cX10_size 1 (some .int)]
def wsX10_happenUpTo : List Cond := .code yX10_happenUpTo cX10_happenUpTo 2 none :: ((wsX10_happenUpTo_r1 ++ (wsX10_happenUpTo_r2 ++ wsX10_happenUpTo_r3)) ++ wsX100)
def wsX10_lowest : List Cond := .code yX10_lowest cX10_lowest 1 (some .int) :: ([])
def wsX10_highest : List Cond := .code yX10_highest cX10_highest 1 (some .int) :: ([])
def wsX10_set : List Cond := .code yX10_set cX10_set 4 (some .int) :: ([.fieldLink RX10 7 "BeatFollowerModel" "at" "[I", .methodLink RX10 98 yX10_in, .static yX10_in, .initialized RX10, .code yX10_in cX10_in 3 (some .boolean), .methodLink RX10 102 yX10_lowest, .static yX10_lowest, .code yX10_lowest cX10_lowest 1 (some .int), .methodLink RX10 105 yX10_highest, .static yX10_highest, .code yX10_highest cX10_highest 1 (some .int), .methodLink RX10 108 yX10_keep, .instanceMethod yX10_keep, .selects RX10 yX10_keep yX10_keep, .code yX10_keep cX10_keep 3 none, .fieldLink RX10 39 "BeatFollowerModel" "pastMany" "I", .fieldLink RX10 42 "BeatFollowerModel" "pastFirst" "I", .fieldLink RX10 13 "BeatFollowerModel" "past" "[I"] ++ wsX100)
def wsX10_lastTime : List Cond := .code yX10_lastTime cX10_lastTime 1 (some .int) :: ([.fieldLink RX10 7 "BeatFollowerModel" "at" "[I", .methodLink RX10 52 yX10_ofB, .instanceMethod yX10_ofB, .selects RX10 yX10_ofB yX10_ofB, .initialized RX10, .code yX10_ofB cX10_ofB 3 (some .int)] ++ wsX100)
def wsX10_nextTrue : List Cond := .code yX10_nextTrue cX10_nextTrue 1 (some .int) :: ([.fieldLink RX10 7 "BeatFollowerModel" "at" "[I", .methodLink RX10 52 yX10_ofB, .instanceMethod yX10_ofB, .selects RX10 yX10_ofB yX10_ofB, .initialized RX10, .code yX10_ofB cX10_ofB 3 (some .int)] ++ wsX100)
def wsX10_addBeat : List Cond := .code yX10_addBeat cX10_addBeat 4 none :: ([.fieldLink RX10 7 "BeatFollowerModel" "at" "[I", .methodLink RX10 45 yX10_layB, .instanceMethod yX10_layB, .selects RX10 yX10_layB yX10_layB, .initialized RX10, .code yX10_layB cX10_layB 4 none, .methodLink RX10 59 yX10_become, .instanceMethod yX10_become, .selects RX10 yX10_become yX10_become, .code yX10_become cX10_become 6 none] ++ wsX100)
def wsX10_beat_r1 : List Cond := [Cond.fieldLink RX10 7 "BeatFollowerModel" "at" "[I", Cond.constant RX10 117 (100000), Cond.methodLink RX10 98 yX10_in, Cond.static yX10_in, Cond.initialized RX10, Cond.code yX10_in cX10_in 3 (some .boolean), Cond.methodLink RX10 111 yX10_lastTime, Cond.instanceMethod yX10_lastTime, Cond.selects RX10 yX10_lastTime yX10_lastTime, Cond.code yX10_lastTime cX10_lastTime 1 (some .int), Cond.methodLink RX10 52 yX10_ofB, Cond.instanceMethod yX10_ofB, Cond.selects RX10 yX10_ofB yX10_ofB, Cond.code yX10_ofB cX10_ofB 3 (some .int), Cond.methodLink RX10 114 yX10_nextTrue, Cond.instanceMethod yX10_nextTrue, Cond.selects RX10 yX10_nextTrue yX10_nextTrue, Cond.code yX10_nextTrue cX10_nextTrue 1 (some .int), Cond.methodLink RX10 108 yX10_keep, Cond.instanceMethod yX10_keep, Cond.selects RX10 yX10_keep yX10_keep, Cond.code yX10_keep cX10_keep 3 none, Cond.fieldLink RX10 39 "BeatFollowerModel" "pastMany" "I", Cond.fieldLink RX10 42 "BeatFollowerModel" "pastFirst" "I"]
def wsX10_beat_r2 : List Cond := [Cond.fieldLink RX10 13 "BeatFollowerModel" "past" "[I", Cond.methodLink RX10 118 yX10_addBeat, Cond.instanceMethod yX10_addBeat, Cond.selects RX10 yX10_addBeat yX10_addBeat, Cond.code yX10_addBeat cX10_addBeat 4 none, Cond.methodLink RX10 45 yX10_layB, Cond.instanceMethod yX10_layB, Cond.selects RX10 yX10_layB yX10_layB, Cond.code yX10_layB cX10_layB 4 none, Cond.methodLink RX10 59 yX10_become, Cond.instanceMethod yX10_become, Cond.selects RX10 yX10_become yX10_become, Cond.code yX10_become cX10_become 6 none]
def wsX10_beat : List Cond := .code yX10_beat cX10_beat 5 (some .int) :: ((wsX10_beat_r1 ++ wsX10_beat_r2) ++ wsX100)
def wsX10_cut : List Cond := .code yX10_cut cX10_cut 2 (some .int) :: ([.fieldLink RX10 7 "BeatFollowerModel" "at" "[I", .methodLink RX10 98 yX10_in, .static yX10_in, .initialized RX10, .code yX10_in cX10_in 3 (some .boolean), .methodLink RX10 108 yX10_keep, .instanceMethod yX10_keep, .selects RX10 yX10_keep yX10_keep, .code yX10_keep cX10_keep 3 none, .fieldLink RX10 39 "BeatFollowerModel" "pastMany" "I", .fieldLink RX10 42 "BeatFollowerModel" "pastFirst" "I", .fieldLink RX10 13 "BeatFollowerModel" "past" "[I"] ++ wsX100)
def wsX10_pass_r1 : List Cond := [Cond.fieldLink RX10 7 "BeatFollowerModel" "at" "[I", Cond.constant RX10 121 (120000), Cond.methodLink RX10 98 yX10_in, Cond.static yX10_in, Cond.initialized RX10, Cond.code yX10_in cX10_in 3 (some .boolean), Cond.methodLink RX10 108 yX10_keep, Cond.instanceMethod yX10_keep, Cond.selects RX10 yX10_keep yX10_keep, Cond.code yX10_keep cX10_keep 3 none, Cond.fieldLink RX10 39 "BeatFollowerModel" "pastMany" "I", Cond.fieldLink RX10 42 "BeatFollowerModel" "pastFirst" "I", Cond.fieldLink RX10 13 "BeatFollowerModel" "past" "[I", Cond.methodLink RX10 122 yX10_happenUpTo, Cond.instanceMethod yX10_happenUpTo, Cond.selects RX10 yX10_happenUpTo yX10_happenUpTo, Cond.code yX10_happenUpTo cX10_happenUpTo 2 none, Cond.fieldLink RX10 26 "BeatFollowerModel" "leftOut" "I", Cond.methodLink RX10 52 yX10_ofB, Cond.instanceMethod yX10_ofB, Cond.selects RX10 yX10_ofB yX10_ofB, Cond.code yX10_ofB cX10_ofB 3 (some .int), Cond.methodLink RX10 92 yX10_holdUpTo, Cond.instanceMethod yX10_holdUpTo]
def wsX10_pass_r2 : List Cond := [Cond.selects RX10 yX10_holdUpTo yX10_holdUpTo, Cond.code yX10_holdUpTo cX10_holdUpTo 2 none, Cond.methodLink RX10 81 yX10_halfWindow, Cond.instanceMethod yX10_halfWindow, Cond.selects RX10 yX10_halfWindow yX10_halfWindow, Cond.code yX10_halfWindow cX10_halfWindow 1 (some .int), Cond.methodLink RX10 89 yX10_holdOn, Cond.instanceMethod yX10_holdOn, Cond.selects RX10 yX10_holdOn yX10_holdOn, Cond.code yX10_holdOn cX10_holdOn 1 none, Cond.methodLink RX10 56 yX10_strike, Cond.instanceMethod yX10_strike, Cond.selects RX10 yX10_strike yX10_strike, Cond.code yX10_strike cX10_strike 5 (some .int), Cond.methodLink RX10 73 yX10_judge, Cond.instanceMethod yX10_judge, Cond.selects RX10 yX10_judge yX10_judge, Cond.code yX10_judge cX10_judge 3 none, Cond.methodLink RX10 49 yX10_loseLock, Cond.instanceMethod yX10_loseLock, Cond.selects RX10 yX10_loseLock yX10_loseLock, Cond.code yX10_loseLock cX10_loseLock 1 none, Cond.methodLink RX10 63 yX10_endBlow, Cond.instanceMethod yX10_endBlow]
def wsX10_pass_r3 : List Cond := [Cond.selects RX10 yX10_endBlow yX10_endBlow, Cond.code yX10_endBlow cX10_endBlow 2 none, Cond.methodLink RX10 95 yX10_hear, Cond.instanceMethod yX10_hear, Cond.selects RX10 yX10_hear yX10_hear, Cond.code yX10_hear cX10_hear 3 none, Cond.methodLink RX10 77 yX10_begin, Cond.instanceMethod yX10_begin, Cond.selects RX10 yX10_begin yX10_begin, Cond.code yX10_begin cX10_begin 3 none, Cond.methodLink RX10 59 yX10_become, Cond.instanceMethod yX10_become, Cond.selects RX10 yX10_become yX10_become, Cond.code yX10_become cX10_become 6 none, Cond.methodLink RX10 45 yX10_layB, Cond.instanceMethod yX10_layB, Cond.selects RX10 yX10_layB yX10_layB, Cond.code yX10_layB cX10_layB 4 none, Cond.methodLink RX10 85 yX10_takeBeat, Cond.instanceMethod yX10_takeBeat, Cond.selects RX10 yX10_takeBeat yX10_takeBeat, Cond.code yX10_takeBeat cX10_takeBeat 8 none, Cond.methodLink RX10 66 yX10_part, Cond.static yX10_part]
def wsX10_pass_r4 : List Cond := [Cond.code yX10_part cX10_part 2 (some .int), Cond.methodLink RX10 69 yX10_size, Cond.static yX10_size, Cond.code yX10_size cX10_size 1 (some .int)]
def wsX10_pass : List Cond := .code yX10_pass cX10_pass 2 (some .int) :: ((wsX10_pass_r1 ++ (wsX10_pass_r2 ++ (wsX10_pass_r3 ++ wsX10_pass_r4))) ++ wsX100)
def wsX10_beginAnew : List Cond := .code yX10_beginAnew cX10_beginAnew 3 none :: ([.fieldLink RX10 7 "BeatFollowerModel" "at" "[I", .methodLink RX10 59 yX10_become, .instanceMethod yX10_become, .selects RX10 yX10_become yX10_become, .initialized RX10, .code yX10_become cX10_become 6 none, .methodLink RX10 45 yX10_layB, .instanceMethod yX10_layB, .selects RX10 yX10_layB yX10_layB, .code yX10_layB cX10_layB 4 none] ++ wsX100)
def wsX10_anew : List Cond := .code yX10_anew cX10_anew 1 (some .int) :: ([.fieldLink RX10 7 "BeatFollowerModel" "at" "[I", .methodLink RX10 108 yX10_keep, .instanceMethod yX10_keep, .selects RX10 yX10_keep yX10_keep, .initialized RX10, .code yX10_keep cX10_keep 3 none, .fieldLink RX10 39 "BeatFollowerModel" "pastMany" "I", .fieldLink RX10 42 "BeatFollowerModel" "pastFirst" "I", .fieldLink RX10 13 "BeatFollowerModel" "past" "[I", .methodLink RX10 125 yX10_beginAnew, .instanceMethod yX10_beginAnew, .selects RX10 yX10_beginAnew yX10_beginAnew, .code yX10_beginAnew cX10_beginAnew 3 none, .methodLink RX10 59 yX10_become, .instanceMethod yX10_become, .selects RX10 yX10_become yX10_become, .code yX10_become cX10_become 6 none, .methodLink RX10 45 yX10_layB, .instanceMethod yX10_layB, .selects RX10 yX10_layB yX10_layB, .code yX10_layB cX10_layB 4 none] ++ wsX100)
def wsX10_ofBeat : List Cond := .code yX10_ofBeat cX10_ofBeat 5 (some .int) :: ([.fieldLink RX10 7 "BeatFollowerModel" "at" "[I", .constant RX10 117 (100000), .methodLink RX10 98 yX10_in, .static yX10_in, .initialized RX10, .code yX10_in cX10_in 3 (some .boolean), .methodLink RX10 52 yX10_ofB, .instanceMethod yX10_ofB, .selects RX10 yX10_ofB yX10_ofB, .code yX10_ofB cX10_ofB 3 (some .int)] ++ wsX100)
def wsX10_ofBlow : List Cond := .code yX10_ofBlow cX10_ofBlow 3 (some .int) :: ([.fieldLink RX10 7 "BeatFollowerModel" "at" "[I", .methodLink RX10 98 yX10_in, .static yX10_in, .initialized RX10, .code yX10_in cX10_in 3 (some .boolean)] ++ wsX100)
def wsX10_count : List Cond := .code yX10_count cX10_count 2 (some .int) :: ([.fieldLink RX10 7 "BeatFollowerModel" "at" "[I", .fieldLink RX10 128 "BeatFollowerModel" "padMany" "I", .fieldLink RX10 39 "BeatFollowerModel" "pastMany" "I", .methodLink RX10 98 yX10_in, .static yX10_in, .initialized RX10, .code yX10_in cX10_in 3 (some .boolean)] ++ wsX100)
def wsX10_slips : List Cond := .code yX10_slips cX10_slips 1 (some .int) :: ([.constant RX10 117 (100000), .fieldLink RX10 7 "BeatFollowerModel" "at" "[I"] ++ wsX100)
def wsX10_nextBlow : List Cond := .code yX10_nextBlow cX10_nextBlow 3 (some .int) :: ([.fieldLink RX10 7 "BeatFollowerModel" "at" "[I", .methodLink RX10 98 yX10_in, .static yX10_in, .initialized RX10, .code yX10_in cX10_in 3 (some .boolean)] ++ wsX100)
def wsX10_ifHeard_r1 : List Cond := [Cond.fieldLink RX10 7 "BeatFollowerModel" "at" "[I", Cond.methodLink RX10 98 yX10_in, Cond.static yX10_in, Cond.initialized RX10, Cond.code yX10_in cX10_in 3 (some .boolean), Cond.methodLink RX10 131 yX10_layAside, Cond.instanceMethod yX10_layAside, Cond.selects RX10 yX10_layAside yX10_layAside, Cond.code yX10_layAside cX10_layAside 2 none, Cond.fieldLink RX10 23 "BeatFollowerModel" "aside" "[I", Cond.methodLink RX10 92 yX10_holdUpTo, Cond.instanceMethod yX10_holdUpTo, Cond.selects RX10 yX10_holdUpTo yX10_holdUpTo, Cond.code yX10_holdUpTo cX10_holdUpTo 2 none, Cond.methodLink RX10 81 yX10_halfWindow, Cond.instanceMethod yX10_halfWindow, Cond.selects RX10 yX10_halfWindow yX10_halfWindow, Cond.code yX10_halfWindow cX10_halfWindow 1 (some .int), Cond.methodLink RX10 89 yX10_holdOn, Cond.instanceMethod yX10_holdOn, Cond.selects RX10 yX10_holdOn yX10_holdOn, Cond.code yX10_holdOn cX10_holdOn 1 none, Cond.methodLink RX10 56 yX10_strike, Cond.instanceMethod yX10_strike]
def wsX10_ifHeard_r2 : List Cond := [Cond.selects RX10 yX10_strike yX10_strike, Cond.code yX10_strike cX10_strike 5 (some .int), Cond.methodLink RX10 73 yX10_judge, Cond.instanceMethod yX10_judge, Cond.selects RX10 yX10_judge yX10_judge, Cond.code yX10_judge cX10_judge 3 none, Cond.methodLink RX10 49 yX10_loseLock, Cond.instanceMethod yX10_loseLock, Cond.selects RX10 yX10_loseLock yX10_loseLock, Cond.code yX10_loseLock cX10_loseLock 1 none, Cond.methodLink RX10 63 yX10_endBlow, Cond.instanceMethod yX10_endBlow, Cond.selects RX10 yX10_endBlow yX10_endBlow, Cond.code yX10_endBlow cX10_endBlow 2 none, Cond.methodLink RX10 134 yX10_layBack, Cond.instanceMethod yX10_layBack, Cond.selects RX10 yX10_layBack yX10_layBack, Cond.code yX10_layBack cX10_layBack 2 none]
def wsX10_ifHeard : List Cond := .code yX10_ifHeard cX10_ifHeard 4 (some .int) :: ((wsX10_ifHeard_r1 ++ wsX10_ifHeard_r2) ++ wsX100)
def wsX10_playAll_r1 : List Cond := [Cond.fieldLink RX10 7 "BeatFollowerModel" "at" "[I", Cond.fieldLink RX10 26 "BeatFollowerModel" "leftOut" "I", Cond.methodLink RX10 125 yX10_beginAnew, Cond.instanceMethod yX10_beginAnew, Cond.selects RX10 yX10_beginAnew yX10_beginAnew, Cond.initialized RX10, Cond.code yX10_beginAnew cX10_beginAnew 3 none, Cond.methodLink RX10 59 yX10_become, Cond.instanceMethod yX10_become, Cond.selects RX10 yX10_become yX10_become, Cond.code yX10_become cX10_become 6 none, Cond.methodLink RX10 45 yX10_layB, Cond.instanceMethod yX10_layB, Cond.selects RX10 yX10_layB yX10_layB, Cond.code yX10_layB cX10_layB 4 none, Cond.methodLink RX10 52 yX10_ofB, Cond.instanceMethod yX10_ofB, Cond.selects RX10 yX10_ofB yX10_ofB, Cond.code yX10_ofB cX10_ofB 3 (some .int), Cond.methodLink RX10 92 yX10_holdUpTo, Cond.instanceMethod yX10_holdUpTo, Cond.selects RX10 yX10_holdUpTo yX10_holdUpTo, Cond.code yX10_holdUpTo cX10_holdUpTo 2 none, Cond.methodLink RX10 81 yX10_halfWindow]
def wsX10_playAll_r2 : List Cond := [Cond.instanceMethod yX10_halfWindow, Cond.selects RX10 yX10_halfWindow yX10_halfWindow, Cond.code yX10_halfWindow cX10_halfWindow 1 (some .int), Cond.methodLink RX10 89 yX10_holdOn, Cond.instanceMethod yX10_holdOn, Cond.selects RX10 yX10_holdOn yX10_holdOn, Cond.code yX10_holdOn cX10_holdOn 1 none, Cond.methodLink RX10 56 yX10_strike, Cond.instanceMethod yX10_strike, Cond.selects RX10 yX10_strike yX10_strike, Cond.code yX10_strike cX10_strike 5 (some .int), Cond.methodLink RX10 73 yX10_judge, Cond.instanceMethod yX10_judge, Cond.selects RX10 yX10_judge yX10_judge, Cond.code yX10_judge cX10_judge 3 none, Cond.methodLink RX10 49 yX10_loseLock, Cond.instanceMethod yX10_loseLock, Cond.selects RX10 yX10_loseLock yX10_loseLock, Cond.code yX10_loseLock cX10_loseLock 1 none, Cond.methodLink RX10 63 yX10_endBlow, Cond.instanceMethod yX10_endBlow, Cond.selects RX10 yX10_endBlow yX10_endBlow, Cond.code yX10_endBlow cX10_endBlow 2 none, Cond.methodLink RX10 95 yX10_hear]
def wsX10_playAll_r3 : List Cond := [Cond.instanceMethod yX10_hear, Cond.selects RX10 yX10_hear yX10_hear, Cond.code yX10_hear cX10_hear 3 none, Cond.methodLink RX10 77 yX10_begin, Cond.instanceMethod yX10_begin, Cond.selects RX10 yX10_begin yX10_begin, Cond.code yX10_begin cX10_begin 3 none, Cond.methodLink RX10 85 yX10_takeBeat, Cond.instanceMethod yX10_takeBeat, Cond.selects RX10 yX10_takeBeat yX10_takeBeat, Cond.code yX10_takeBeat cX10_takeBeat 8 none, Cond.methodLink RX10 66 yX10_part, Cond.static yX10_part, Cond.code yX10_part cX10_part 2 (some .int), Cond.methodLink RX10 69 yX10_size, Cond.static yX10_size, Cond.code yX10_size cX10_size 1 (some .int)]
def wsX10_playAll : List Cond := .code yX10_playAll cX10_playAll 3 none :: ((wsX10_playAll_r1 ++ (wsX10_playAll_r2 ++ wsX10_playAll_r3)) ++ wsX100)
def wsX10_ended : List Cond := .code yX10_ended cX10_ended 2 (some .int) :: ([.fieldLink RX10 7 "BeatFollowerModel" "at" "[I"] ++ wsX100)
def wsX10_endWith_r1 : List Cond := [Cond.methodLink RX10 98 yX10_in, Cond.static yX10_in, Cond.initialized RX10, Cond.code yX10_in cX10_in 3 (some .boolean), Cond.methodLink RX10 131 yX10_layAside, Cond.instanceMethod yX10_layAside, Cond.selects RX10 yX10_layAside yX10_layAside, Cond.code yX10_layAside cX10_layAside 2 none, Cond.fieldLink RX10 23 "BeatFollowerModel" "aside" "[I", Cond.fieldLink RX10 7 "BeatFollowerModel" "at" "[I", Cond.methodLink RX10 137 yX10_playAll, Cond.instanceMethod yX10_playAll, Cond.selects RX10 yX10_playAll yX10_playAll, Cond.code yX10_playAll cX10_playAll 3 none, Cond.fieldLink RX10 26 "BeatFollowerModel" "leftOut" "I", Cond.methodLink RX10 125 yX10_beginAnew, Cond.instanceMethod yX10_beginAnew, Cond.selects RX10 yX10_beginAnew yX10_beginAnew, Cond.code yX10_beginAnew cX10_beginAnew 3 none, Cond.methodLink RX10 59 yX10_become, Cond.instanceMethod yX10_become, Cond.selects RX10 yX10_become yX10_become, Cond.code yX10_become cX10_become 6 none, Cond.methodLink RX10 45 yX10_layB]
def wsX10_endWith_r2 : List Cond := [Cond.instanceMethod yX10_layB, Cond.selects RX10 yX10_layB yX10_layB, Cond.code yX10_layB cX10_layB 4 none, Cond.methodLink RX10 52 yX10_ofB, Cond.instanceMethod yX10_ofB, Cond.selects RX10 yX10_ofB yX10_ofB, Cond.code yX10_ofB cX10_ofB 3 (some .int), Cond.methodLink RX10 92 yX10_holdUpTo, Cond.instanceMethod yX10_holdUpTo, Cond.selects RX10 yX10_holdUpTo yX10_holdUpTo, Cond.code yX10_holdUpTo cX10_holdUpTo 2 none, Cond.methodLink RX10 81 yX10_halfWindow, Cond.instanceMethod yX10_halfWindow, Cond.selects RX10 yX10_halfWindow yX10_halfWindow, Cond.code yX10_halfWindow cX10_halfWindow 1 (some .int), Cond.methodLink RX10 89 yX10_holdOn, Cond.instanceMethod yX10_holdOn, Cond.selects RX10 yX10_holdOn yX10_holdOn, Cond.code yX10_holdOn cX10_holdOn 1 none, Cond.methodLink RX10 56 yX10_strike, Cond.instanceMethod yX10_strike, Cond.selects RX10 yX10_strike yX10_strike, Cond.code yX10_strike cX10_strike 5 (some .int), Cond.methodLink RX10 73 yX10_judge]
def wsX10_endWith_r3 : List Cond := [Cond.instanceMethod yX10_judge, Cond.selects RX10 yX10_judge yX10_judge, Cond.code yX10_judge cX10_judge 3 none, Cond.methodLink RX10 49 yX10_loseLock, Cond.instanceMethod yX10_loseLock, Cond.selects RX10 yX10_loseLock yX10_loseLock, Cond.code yX10_loseLock cX10_loseLock 1 none, Cond.methodLink RX10 63 yX10_endBlow, Cond.instanceMethod yX10_endBlow, Cond.selects RX10 yX10_endBlow yX10_endBlow, Cond.code yX10_endBlow cX10_endBlow 2 none, Cond.methodLink RX10 95 yX10_hear, Cond.instanceMethod yX10_hear, Cond.selects RX10 yX10_hear yX10_hear, Cond.code yX10_hear cX10_hear 3 none, Cond.methodLink RX10 77 yX10_begin, Cond.instanceMethod yX10_begin, Cond.selects RX10 yX10_begin yX10_begin, Cond.code yX10_begin cX10_begin 3 none, Cond.methodLink RX10 85 yX10_takeBeat, Cond.instanceMethod yX10_takeBeat, Cond.selects RX10 yX10_takeBeat yX10_takeBeat, Cond.code yX10_takeBeat cX10_takeBeat 8 none, Cond.methodLink RX10 66 yX10_part]
def wsX10_endWith_r4 : List Cond := [Cond.static yX10_part, Cond.code yX10_part cX10_part 2 (some .int), Cond.methodLink RX10 69 yX10_size, Cond.static yX10_size, Cond.code yX10_size cX10_size 1 (some .int), Cond.methodLink RX10 140 yX10_ended, Cond.instanceMethod yX10_ended, Cond.selects RX10 yX10_ended yX10_ended, Cond.code yX10_ended cX10_ended 2 (some .int), Cond.methodLink RX10 134 yX10_layBack, Cond.instanceMethod yX10_layBack, Cond.selects RX10 yX10_layBack yX10_layBack, Cond.code yX10_layBack cX10_layBack 2 none]
def wsX10_endWith : List Cond := .code yX10_endWith cX10_endWith 5 (some .int) :: ((wsX10_endWith_r1 ++ (wsX10_endWith_r2 ++ (wsX10_endWith_r3 ++ wsX10_endWith_r4))) ++ wsX100)
def wsX10_bestNudge_r1 : List Cond := [Cond.fieldLink RX10 7 "BeatFollowerModel" "at" "[I", Cond.methodLink RX10 98 yX10_in, Cond.static yX10_in, Cond.initialized RX10, Cond.code yX10_in cX10_in 3 (some .boolean), Cond.methodLink RX10 131 yX10_layAside, Cond.instanceMethod yX10_layAside, Cond.selects RX10 yX10_layAside yX10_layAside, Cond.code yX10_layAside cX10_layAside 2 none, Cond.fieldLink RX10 23 "BeatFollowerModel" "aside" "[I", Cond.methodLink RX10 137 yX10_playAll, Cond.instanceMethod yX10_playAll, Cond.selects RX10 yX10_playAll yX10_playAll, Cond.code yX10_playAll cX10_playAll 3 none, Cond.fieldLink RX10 26 "BeatFollowerModel" "leftOut" "I", Cond.methodLink RX10 125 yX10_beginAnew, Cond.instanceMethod yX10_beginAnew, Cond.selects RX10 yX10_beginAnew yX10_beginAnew, Cond.code yX10_beginAnew cX10_beginAnew 3 none, Cond.methodLink RX10 59 yX10_become, Cond.instanceMethod yX10_become, Cond.selects RX10 yX10_become yX10_become, Cond.code yX10_become cX10_become 6 none, Cond.methodLink RX10 45 yX10_layB]
def wsX10_bestNudge_r2 : List Cond := [Cond.instanceMethod yX10_layB, Cond.selects RX10 yX10_layB yX10_layB, Cond.code yX10_layB cX10_layB 4 none, Cond.methodLink RX10 52 yX10_ofB, Cond.instanceMethod yX10_ofB, Cond.selects RX10 yX10_ofB yX10_ofB, Cond.code yX10_ofB cX10_ofB 3 (some .int), Cond.methodLink RX10 92 yX10_holdUpTo, Cond.instanceMethod yX10_holdUpTo, Cond.selects RX10 yX10_holdUpTo yX10_holdUpTo, Cond.code yX10_holdUpTo cX10_holdUpTo 2 none, Cond.methodLink RX10 81 yX10_halfWindow, Cond.instanceMethod yX10_halfWindow, Cond.selects RX10 yX10_halfWindow yX10_halfWindow, Cond.code yX10_halfWindow cX10_halfWindow 1 (some .int), Cond.methodLink RX10 89 yX10_holdOn, Cond.instanceMethod yX10_holdOn, Cond.selects RX10 yX10_holdOn yX10_holdOn, Cond.code yX10_holdOn cX10_holdOn 1 none, Cond.methodLink RX10 56 yX10_strike, Cond.instanceMethod yX10_strike, Cond.selects RX10 yX10_strike yX10_strike, Cond.code yX10_strike cX10_strike 5 (some .int), Cond.methodLink RX10 73 yX10_judge]
def wsX10_bestNudge_r3 : List Cond := [Cond.instanceMethod yX10_judge, Cond.selects RX10 yX10_judge yX10_judge, Cond.code yX10_judge cX10_judge 3 none, Cond.methodLink RX10 49 yX10_loseLock, Cond.instanceMethod yX10_loseLock, Cond.selects RX10 yX10_loseLock yX10_loseLock, Cond.code yX10_loseLock cX10_loseLock 1 none, Cond.methodLink RX10 63 yX10_endBlow, Cond.instanceMethod yX10_endBlow, Cond.selects RX10 yX10_endBlow yX10_endBlow, Cond.code yX10_endBlow cX10_endBlow 2 none, Cond.methodLink RX10 95 yX10_hear, Cond.instanceMethod yX10_hear, Cond.selects RX10 yX10_hear yX10_hear, Cond.code yX10_hear cX10_hear 3 none, Cond.methodLink RX10 77 yX10_begin, Cond.instanceMethod yX10_begin, Cond.selects RX10 yX10_begin yX10_begin, Cond.code yX10_begin cX10_begin 3 none, Cond.methodLink RX10 85 yX10_takeBeat, Cond.instanceMethod yX10_takeBeat, Cond.selects RX10 yX10_takeBeat yX10_takeBeat, Cond.code yX10_takeBeat cX10_takeBeat 8 none, Cond.methodLink RX10 66 yX10_part]
def wsX10_bestNudge_r4 : List Cond := [Cond.static yX10_part, Cond.code yX10_part cX10_part 2 (some .int), Cond.methodLink RX10 69 yX10_size, Cond.static yX10_size, Cond.code yX10_size cX10_size 1 (some .int), Cond.methodLink RX10 134 yX10_layBack, Cond.instanceMethod yX10_layBack, Cond.selects RX10 yX10_layBack yX10_layBack, Cond.code yX10_layBack cX10_layBack 2 none]
def wsX10_bestNudge : List Cond := .code yX10_bestNudge cX10_bestNudge 8 (some .int) :: ((wsX10_bestNudge_r1 ++ (wsX10_bestNudge_r2 ++ (wsX10_bestNudge_r3 ++ wsX10_bestNudge_r4))) ++ wsX100)
def wsX10_worstBeat_r1 : List Cond := [Cond.fieldLink RX10 7 "BeatFollowerModel" "at" "[I", Cond.fieldLink RX10 26 "BeatFollowerModel" "leftOut" "I", Cond.methodLink RX10 98 yX10_in, Cond.static yX10_in, Cond.initialized RX10, Cond.code yX10_in cX10_in 3 (some .boolean), Cond.methodLink RX10 131 yX10_layAside, Cond.instanceMethod yX10_layAside, Cond.selects RX10 yX10_layAside yX10_layAside, Cond.code yX10_layAside cX10_layAside 2 none, Cond.fieldLink RX10 23 "BeatFollowerModel" "aside" "[I", Cond.methodLink RX10 137 yX10_playAll, Cond.instanceMethod yX10_playAll, Cond.selects RX10 yX10_playAll yX10_playAll, Cond.code yX10_playAll cX10_playAll 3 none, Cond.methodLink RX10 125 yX10_beginAnew, Cond.instanceMethod yX10_beginAnew, Cond.selects RX10 yX10_beginAnew yX10_beginAnew, Cond.code yX10_beginAnew cX10_beginAnew 3 none, Cond.methodLink RX10 59 yX10_become, Cond.instanceMethod yX10_become, Cond.selects RX10 yX10_become yX10_become, Cond.code yX10_become cX10_become 6 none, Cond.methodLink RX10 45 yX10_layB]
def wsX10_worstBeat_r2 : List Cond := [Cond.instanceMethod yX10_layB, Cond.selects RX10 yX10_layB yX10_layB, Cond.code yX10_layB cX10_layB 4 none, Cond.methodLink RX10 52 yX10_ofB, Cond.instanceMethod yX10_ofB, Cond.selects RX10 yX10_ofB yX10_ofB, Cond.code yX10_ofB cX10_ofB 3 (some .int), Cond.methodLink RX10 92 yX10_holdUpTo, Cond.instanceMethod yX10_holdUpTo, Cond.selects RX10 yX10_holdUpTo yX10_holdUpTo, Cond.code yX10_holdUpTo cX10_holdUpTo 2 none, Cond.methodLink RX10 81 yX10_halfWindow, Cond.instanceMethod yX10_halfWindow, Cond.selects RX10 yX10_halfWindow yX10_halfWindow, Cond.code yX10_halfWindow cX10_halfWindow 1 (some .int), Cond.methodLink RX10 89 yX10_holdOn, Cond.instanceMethod yX10_holdOn, Cond.selects RX10 yX10_holdOn yX10_holdOn, Cond.code yX10_holdOn cX10_holdOn 1 none, Cond.methodLink RX10 56 yX10_strike, Cond.instanceMethod yX10_strike, Cond.selects RX10 yX10_strike yX10_strike, Cond.code yX10_strike cX10_strike 5 (some .int), Cond.methodLink RX10 73 yX10_judge]
def wsX10_worstBeat_r3 : List Cond := [Cond.instanceMethod yX10_judge, Cond.selects RX10 yX10_judge yX10_judge, Cond.code yX10_judge cX10_judge 3 none, Cond.methodLink RX10 49 yX10_loseLock, Cond.instanceMethod yX10_loseLock, Cond.selects RX10 yX10_loseLock yX10_loseLock, Cond.code yX10_loseLock cX10_loseLock 1 none, Cond.methodLink RX10 63 yX10_endBlow, Cond.instanceMethod yX10_endBlow, Cond.selects RX10 yX10_endBlow yX10_endBlow, Cond.code yX10_endBlow cX10_endBlow 2 none, Cond.methodLink RX10 95 yX10_hear, Cond.instanceMethod yX10_hear, Cond.selects RX10 yX10_hear yX10_hear, Cond.code yX10_hear cX10_hear 3 none, Cond.methodLink RX10 77 yX10_begin, Cond.instanceMethod yX10_begin, Cond.selects RX10 yX10_begin yX10_begin, Cond.code yX10_begin cX10_begin 3 none, Cond.methodLink RX10 85 yX10_takeBeat, Cond.instanceMethod yX10_takeBeat, Cond.selects RX10 yX10_takeBeat yX10_takeBeat, Cond.code yX10_takeBeat cX10_takeBeat 8 none, Cond.methodLink RX10 66 yX10_part]
def wsX10_worstBeat_r4 : List Cond := [Cond.static yX10_part, Cond.code yX10_part cX10_part 2 (some .int), Cond.methodLink RX10 69 yX10_size, Cond.static yX10_size, Cond.code yX10_size cX10_size 1 (some .int), Cond.methodLink RX10 134 yX10_layBack, Cond.instanceMethod yX10_layBack, Cond.selects RX10 yX10_layBack yX10_layBack, Cond.code yX10_layBack cX10_layBack 2 none]
def wsX10_worstBeat : List Cond := .code yX10_worstBeat cX10_worstBeat 6 (some .int) :: ((wsX10_worstBeat_r1 ++ (wsX10_worstBeat_r2 ++ (wsX10_worstBeat_r3 ++ wsX10_worstBeat_r4))) ++ wsX100)
def wsX10_put : List Cond := .code yX10_put cX10_put 7 (some .int) :: ([.constantLong RX10 143 (255), .fieldLink RX10 128 "BeatFollowerModel" "padMany" "I", .fieldLink RX10 30 "BeatFollowerModel" "pad" "[I", .methodLink RX10 98 yX10_in, .static yX10_in, .initialized RX10, .code yX10_in cX10_in 3 (some .boolean)] ++ wsX100)
def wsX10_wipe : List Cond := .code yX10_wipe cX10_wipe 2 (some .int) :: ([.fieldLink RX10 128 "BeatFollowerModel" "padMany" "I"] ++ wsX100)
def wsX10_next : List Cond := .code yX10_next cX10_next 1 (some .int) :: ([.fieldLink RX10 145 "BeatFollowerModel" "spot" "I", .fieldLink RX10 128 "BeatFollowerModel" "padMany" "I", .fieldLink RX10 30 "BeatFollowerModel" "pad" "[I"] ++ wsX100)
def wsX10_takeSign : List Cond := .code yX10_takeSign cX10_takeSign 2 none :: ([.fieldLink RX10 148 "BeatFollowerModel" "isWrong" "Z", .fieldLink RX10 145 "BeatFollowerModel" "spot" "I", .methodLink RX10 152 yX10_next, .instanceMethod yX10_next, .selects RX10 yX10_next yX10_next, .initialized RX10, .code yX10_next cX10_next 1 (some .int), .fieldLink RX10 128 "BeatFollowerModel" "padMany" "I", .fieldLink RX10 30 "BeatFollowerModel" "pad" "[I"] ++ wsX100)
def wsX10_takeNumber : List Cond := .code yX10_takeNumber cX10_takeNumber 3 none :: ([.fieldLink RX10 148 "BeatFollowerModel" "isWrong" "Z", .fieldLink RX10 155 "BeatFollowerModel" "taken" "I", .fieldLink RX10 145 "BeatFollowerModel" "spot" "I", .methodLink RX10 152 yX10_next, .instanceMethod yX10_next, .selects RX10 yX10_next yX10_next, .initialized RX10, .code yX10_next cX10_next 1 (some .int), .fieldLink RX10 128 "BeatFollowerModel" "padMany" "I", .fieldLink RX10 30 "BeatFollowerModel" "pad" "[I", .methodLink RX10 98 yX10_in, .static yX10_in, .code yX10_in cX10_in 3 (some .boolean)] ++ wsX100)
def wsX10_enterBeat : List Cond := .code yX10_enterBeat cX10_enterBeat 2 none :: ([.fieldLink RX10 158 "BeatFollowerModel" "beats" "I", .fieldLink RX10 33 "BeatFollowerModel" "afters" "[I", .fieldLink RX10 161 "BeatFollowerModel" "laid" "I", .fieldLink RX10 36 "BeatFollowerModel" "misses" "[I", .fieldLink RX10 164 "BeatFollowerModel" "missed" "I"] ++ wsX100)
def wsX10_takeBeats_r1 : List Cond := [Cond.fieldLink RX10 155 "BeatFollowerModel" "taken" "I", Cond.fieldLink RX10 148 "BeatFollowerModel" "isWrong" "Z", Cond.fieldLink RX10 145 "BeatFollowerModel" "spot" "I", Cond.methodLink RX10 167 yX10_takeNumber, Cond.instanceMethod yX10_takeNumber, Cond.selects RX10 yX10_takeNumber yX10_takeNumber, Cond.initialized RX10, Cond.code yX10_takeNumber cX10_takeNumber 3 none, Cond.methodLink RX10 152 yX10_next, Cond.instanceMethod yX10_next, Cond.selects RX10 yX10_next yX10_next, Cond.code yX10_next cX10_next 1 (some .int), Cond.fieldLink RX10 128 "BeatFollowerModel" "padMany" "I", Cond.fieldLink RX10 30 "BeatFollowerModel" "pad" "[I", Cond.methodLink RX10 98 yX10_in, Cond.static yX10_in, Cond.code yX10_in cX10_in 3 (some .boolean), Cond.methodLink RX10 170 yX10_enterBeat, Cond.instanceMethod yX10_enterBeat, Cond.selects RX10 yX10_enterBeat yX10_enterBeat, Cond.code yX10_enterBeat cX10_enterBeat 2 none, Cond.fieldLink RX10 158 "BeatFollowerModel" "beats" "I", Cond.fieldLink RX10 33 "BeatFollowerModel" "afters" "[I", Cond.fieldLink RX10 161 "BeatFollowerModel" "laid" "I"]
def wsX10_takeBeats_r2 : List Cond := [Cond.fieldLink RX10 36 "BeatFollowerModel" "misses" "[I", Cond.fieldLink RX10 164 "BeatFollowerModel" "missed" "I"]
def wsX10_takeBeats : List Cond := .code yX10_takeBeats cX10_takeBeats 1 none :: ((wsX10_takeBeats_r1 ++ wsX10_takeBeats_r2) ++ wsX100)
def wsX10_takeRow_r1 : List Cond := [Cond.fieldLink RX10 155 "BeatFollowerModel" "taken" "I", Cond.fieldLink RX10 148 "BeatFollowerModel" "isWrong" "Z", Cond.methodLink RX10 167 yX10_takeNumber, Cond.instanceMethod yX10_takeNumber, Cond.selects RX10 yX10_takeNumber yX10_takeNumber, Cond.initialized RX10, Cond.code yX10_takeNumber cX10_takeNumber 3 none, Cond.fieldLink RX10 145 "BeatFollowerModel" "spot" "I", Cond.methodLink RX10 152 yX10_next, Cond.instanceMethod yX10_next, Cond.selects RX10 yX10_next yX10_next, Cond.code yX10_next cX10_next 1 (some .int), Cond.fieldLink RX10 128 "BeatFollowerModel" "padMany" "I", Cond.fieldLink RX10 30 "BeatFollowerModel" "pad" "[I", Cond.methodLink RX10 98 yX10_in, Cond.static yX10_in, Cond.code yX10_in cX10_in 3 (some .boolean), Cond.methodLink RX10 173 yX10_takeSign, Cond.instanceMethod yX10_takeSign, Cond.selects RX10 yX10_takeSign yX10_takeSign, Cond.code yX10_takeSign cX10_takeSign 2 none, Cond.methodLink RX10 170 yX10_enterBeat, Cond.instanceMethod yX10_enterBeat, Cond.selects RX10 yX10_enterBeat yX10_enterBeat]
def wsX10_takeRow_r2 : List Cond := [Cond.code yX10_enterBeat cX10_enterBeat 2 none, Cond.fieldLink RX10 158 "BeatFollowerModel" "beats" "I", Cond.fieldLink RX10 33 "BeatFollowerModel" "afters" "[I", Cond.fieldLink RX10 161 "BeatFollowerModel" "laid" "I", Cond.fieldLink RX10 36 "BeatFollowerModel" "misses" "[I", Cond.fieldLink RX10 164 "BeatFollowerModel" "missed" "I"]
def wsX10_takeRow : List Cond := .code yX10_takeRow cX10_takeRow 3 none :: ((wsX10_takeRow_r1 ++ wsX10_takeRow_r2) ++ wsX100)
def wsX10_takePart_r1 : List Cond := [Cond.fieldLink RX10 145 "BeatFollowerModel" "spot" "I", Cond.fieldLink RX10 164 "BeatFollowerModel" "missed" "I", Cond.fieldLink RX10 155 "BeatFollowerModel" "taken" "I", Cond.fieldLink RX10 161 "BeatFollowerModel" "laid" "I", Cond.fieldLink RX10 148 "BeatFollowerModel" "isWrong" "Z", Cond.methodLink RX10 152 yX10_next, Cond.instanceMethod yX10_next, Cond.selects RX10 yX10_next yX10_next, Cond.initialized RX10, Cond.code yX10_next cX10_next 1 (some .int), Cond.fieldLink RX10 128 "BeatFollowerModel" "padMany" "I", Cond.fieldLink RX10 30 "BeatFollowerModel" "pad" "[I", Cond.methodLink RX10 176 yX10_takeBeats, Cond.instanceMethod yX10_takeBeats, Cond.selects RX10 yX10_takeBeats yX10_takeBeats, Cond.code yX10_takeBeats cX10_takeBeats 1 none, Cond.methodLink RX10 167 yX10_takeNumber, Cond.instanceMethod yX10_takeNumber, Cond.selects RX10 yX10_takeNumber yX10_takeNumber, Cond.code yX10_takeNumber cX10_takeNumber 3 none, Cond.methodLink RX10 98 yX10_in, Cond.static yX10_in, Cond.code yX10_in cX10_in 3 (some .boolean), Cond.methodLink RX10 170 yX10_enterBeat]
def wsX10_takePart_r2 : List Cond := [Cond.instanceMethod yX10_enterBeat, Cond.selects RX10 yX10_enterBeat yX10_enterBeat, Cond.code yX10_enterBeat cX10_enterBeat 2 none, Cond.fieldLink RX10 158 "BeatFollowerModel" "beats" "I", Cond.fieldLink RX10 33 "BeatFollowerModel" "afters" "[I", Cond.fieldLink RX10 36 "BeatFollowerModel" "misses" "[I", Cond.methodLink RX10 179 yX10_takeRow, Cond.instanceMethod yX10_takeRow, Cond.selects RX10 yX10_takeRow yX10_takeRow, Cond.code yX10_takeRow cX10_takeRow 3 none, Cond.methodLink RX10 173 yX10_takeSign, Cond.instanceMethod yX10_takeSign, Cond.selects RX10 yX10_takeSign yX10_takeSign, Cond.code yX10_takeSign cX10_takeSign 2 none]
def wsX10_takePart : List Cond := .code yX10_takePart cX10_takePart 2 none :: ((wsX10_takePart_r1 ++ wsX10_takePart_r2) ++ wsX100)
def wsX10_fault_r1 : List Cond := [Cond.fieldLink RX10 145 "BeatFollowerModel" "spot" "I", Cond.fieldLink RX10 148 "BeatFollowerModel" "isWrong" "Z", Cond.fieldLink RX10 158 "BeatFollowerModel" "beats" "I", Cond.fieldLink RX10 161 "BeatFollowerModel" "laid" "I", Cond.fieldLink RX10 164 "BeatFollowerModel" "missed" "I", Cond.fieldLink RX10 128 "BeatFollowerModel" "padMany" "I", Cond.methodLink RX10 182 yX10_takePart, Cond.instanceMethod yX10_takePart, Cond.selects RX10 yX10_takePart yX10_takePart, Cond.initialized RX10, Cond.code yX10_takePart cX10_takePart 2 none, Cond.fieldLink RX10 155 "BeatFollowerModel" "taken" "I", Cond.methodLink RX10 152 yX10_next, Cond.instanceMethod yX10_next, Cond.selects RX10 yX10_next yX10_next, Cond.code yX10_next cX10_next 1 (some .int), Cond.fieldLink RX10 30 "BeatFollowerModel" "pad" "[I", Cond.methodLink RX10 176 yX10_takeBeats, Cond.instanceMethod yX10_takeBeats, Cond.selects RX10 yX10_takeBeats yX10_takeBeats, Cond.code yX10_takeBeats cX10_takeBeats 1 none, Cond.methodLink RX10 167 yX10_takeNumber, Cond.instanceMethod yX10_takeNumber, Cond.selects RX10 yX10_takeNumber yX10_takeNumber]
def wsX10_fault_r2 : List Cond := [Cond.code yX10_takeNumber cX10_takeNumber 3 none, Cond.methodLink RX10 98 yX10_in, Cond.static yX10_in, Cond.code yX10_in cX10_in 3 (some .boolean), Cond.methodLink RX10 170 yX10_enterBeat, Cond.instanceMethod yX10_enterBeat, Cond.selects RX10 yX10_enterBeat yX10_enterBeat, Cond.code yX10_enterBeat cX10_enterBeat 2 none, Cond.fieldLink RX10 33 "BeatFollowerModel" "afters" "[I", Cond.fieldLink RX10 36 "BeatFollowerModel" "misses" "[I", Cond.methodLink RX10 179 yX10_takeRow, Cond.instanceMethod yX10_takeRow, Cond.selects RX10 yX10_takeRow yX10_takeRow, Cond.code yX10_takeRow cX10_takeRow 3 none, Cond.methodLink RX10 173 yX10_takeSign, Cond.instanceMethod yX10_takeSign, Cond.selects RX10 yX10_takeSign yX10_takeSign, Cond.code yX10_takeSign cX10_takeSign 2 none]
def wsX10_fault : List Cond := .code yX10_fault cX10_fault 1 (some .int) :: ((wsX10_fault_r1 ++ wsX10_fault_r2) ++ wsX100)
def wsX10_whyNotPlan : List Cond := .code yX10_whyNotPlan cX10_whyNotPlan 5 (some .int) :: ([.fieldLink RX10 7 "BeatFollowerModel" "at" "[I", .fieldLink RX10 158 "BeatFollowerModel" "beats" "I", .fieldLink RX10 33 "BeatFollowerModel" "afters" "[I", .fieldLink RX10 36 "BeatFollowerModel" "misses" "[I", .constant RX10 117 (100000), .methodLink RX10 111 yX10_lastTime, .instanceMethod yX10_lastTime, .selects RX10 yX10_lastTime yX10_lastTime, .initialized RX10, .code yX10_lastTime cX10_lastTime 1 (some .int), .methodLink RX10 52 yX10_ofB, .instanceMethod yX10_ofB, .selects RX10 yX10_ofB yX10_ofB, .code yX10_ofB cX10_ofB 3 (some .int), .methodLink RX10 114 yX10_nextTrue, .instanceMethod yX10_nextTrue, .selects RX10 yX10_nextTrue yX10_nextTrue, .code yX10_nextTrue cX10_nextTrue 1 (some .int)] ++ wsX100)
def wsX10_plan_r1 : List Cond := [Cond.fieldLink RX10 158 "BeatFollowerModel" "beats" "I", Cond.fieldLink RX10 33 "BeatFollowerModel" "afters" "[I", Cond.fieldLink RX10 36 "BeatFollowerModel" "misses" "[I", Cond.fieldLink RX10 128 "BeatFollowerModel" "padMany" "I", Cond.fieldLink RX10 7 "BeatFollowerModel" "at" "[I", Cond.methodLink RX10 185 yX10_fault, Cond.instanceMethod yX10_fault, Cond.selects RX10 yX10_fault yX10_fault, Cond.initialized RX10, Cond.code yX10_fault cX10_fault 1 (some .int), Cond.fieldLink RX10 145 "BeatFollowerModel" "spot" "I", Cond.fieldLink RX10 148 "BeatFollowerModel" "isWrong" "Z", Cond.fieldLink RX10 161 "BeatFollowerModel" "laid" "I", Cond.fieldLink RX10 164 "BeatFollowerModel" "missed" "I", Cond.methodLink RX10 182 yX10_takePart, Cond.instanceMethod yX10_takePart, Cond.selects RX10 yX10_takePart yX10_takePart, Cond.code yX10_takePart cX10_takePart 2 none, Cond.fieldLink RX10 155 "BeatFollowerModel" "taken" "I", Cond.methodLink RX10 152 yX10_next, Cond.instanceMethod yX10_next, Cond.selects RX10 yX10_next yX10_next, Cond.code yX10_next cX10_next 1 (some .int), Cond.fieldLink RX10 30 "BeatFollowerModel" "pad" "[I"]
def wsX10_plan_r2 : List Cond := [Cond.methodLink RX10 176 yX10_takeBeats, Cond.instanceMethod yX10_takeBeats, Cond.selects RX10 yX10_takeBeats yX10_takeBeats, Cond.code yX10_takeBeats cX10_takeBeats 1 none, Cond.methodLink RX10 167 yX10_takeNumber, Cond.instanceMethod yX10_takeNumber, Cond.selects RX10 yX10_takeNumber yX10_takeNumber, Cond.code yX10_takeNumber cX10_takeNumber 3 none, Cond.methodLink RX10 98 yX10_in, Cond.static yX10_in, Cond.code yX10_in cX10_in 3 (some .boolean), Cond.methodLink RX10 170 yX10_enterBeat, Cond.instanceMethod yX10_enterBeat, Cond.selects RX10 yX10_enterBeat yX10_enterBeat, Cond.code yX10_enterBeat cX10_enterBeat 2 none, Cond.methodLink RX10 179 yX10_takeRow, Cond.instanceMethod yX10_takeRow, Cond.selects RX10 yX10_takeRow yX10_takeRow, Cond.code yX10_takeRow cX10_takeRow 3 none, Cond.methodLink RX10 173 yX10_takeSign, Cond.instanceMethod yX10_takeSign, Cond.selects RX10 yX10_takeSign yX10_takeSign, Cond.code yX10_takeSign cX10_takeSign 2 none, Cond.methodLink RX10 188 yX10_whyNotPlan]
def wsX10_plan_r3 : List Cond := [Cond.instanceMethod yX10_whyNotPlan, Cond.selects RX10 yX10_whyNotPlan yX10_whyNotPlan, Cond.code yX10_whyNotPlan cX10_whyNotPlan 5 (some .int), Cond.constant RX10 117 (100000), Cond.methodLink RX10 111 yX10_lastTime, Cond.instanceMethod yX10_lastTime, Cond.selects RX10 yX10_lastTime yX10_lastTime, Cond.code yX10_lastTime cX10_lastTime 1 (some .int), Cond.methodLink RX10 52 yX10_ofB, Cond.instanceMethod yX10_ofB, Cond.selects RX10 yX10_ofB yX10_ofB, Cond.code yX10_ofB cX10_ofB 3 (some .int), Cond.methodLink RX10 114 yX10_nextTrue, Cond.instanceMethod yX10_nextTrue, Cond.selects RX10 yX10_nextTrue yX10_nextTrue, Cond.code yX10_nextTrue cX10_nextTrue 1 (some .int), Cond.methodLink RX10 108 yX10_keep, Cond.instanceMethod yX10_keep, Cond.selects RX10 yX10_keep yX10_keep, Cond.code yX10_keep cX10_keep 3 none, Cond.fieldLink RX10 39 "BeatFollowerModel" "pastMany" "I", Cond.fieldLink RX10 42 "BeatFollowerModel" "pastFirst" "I", Cond.fieldLink RX10 13 "BeatFollowerModel" "past" "[I", Cond.methodLink RX10 118 yX10_addBeat]
def wsX10_plan_r4 : List Cond := [Cond.instanceMethod yX10_addBeat, Cond.selects RX10 yX10_addBeat yX10_addBeat, Cond.code yX10_addBeat cX10_addBeat 4 none, Cond.methodLink RX10 45 yX10_layB, Cond.instanceMethod yX10_layB, Cond.selects RX10 yX10_layB yX10_layB, Cond.code yX10_layB cX10_layB 4 none, Cond.methodLink RX10 59 yX10_become, Cond.instanceMethod yX10_become, Cond.selects RX10 yX10_become yX10_become, Cond.code yX10_become cX10_become 6 none]
def wsX10_plan : List Cond := .code yX10_plan cX10_plan 3 (some .int) :: ((wsX10_plan_r1 ++ (wsX10_plan_r2 ++ (wsX10_plan_r3 ++ wsX10_plan_r4))) ++ wsX100)
def wsX10_undo : List Cond := .code yX10_undo cX10_undo 3 (some .int) :: ([.fieldLink RX10 39 "BeatFollowerModel" "pastMany" "I", .fieldLink RX10 42 "BeatFollowerModel" "pastFirst" "I", .fieldLink RX10 7 "BeatFollowerModel" "at" "[I", .fieldLink RX10 13 "BeatFollowerModel" "past" "[I"] ++ wsX100)
def wsX10_save : List Cond := .code yX10_save cX10_save 3 (some .int) :: ([.fieldLink RX10 16 "BeatFollowerModel" "slots" "[I", .fieldLink RX10 7 "BeatFollowerModel" "at" "[I", .fieldLink RX10 19 "BeatFollowerModel" "isSaved" "[Z", .methodLink RX10 98 yX10_in, .static yX10_in, .initialized RX10, .code yX10_in cX10_in 3 (some .boolean)] ++ wsX100)
def wsX10_restore : List Cond := .code yX10_restore cX10_restore 3 (some .int) :: ([.fieldLink RX10 19 "BeatFollowerModel" "isSaved" "[Z", .fieldLink RX10 7 "BeatFollowerModel" "at" "[I", .fieldLink RX10 16 "BeatFollowerModel" "slots" "[I", .methodLink RX10 98 yX10_in, .static yX10_in, .initialized RX10, .code yX10_in cX10_in 3 (some .boolean), .methodLink RX10 108 yX10_keep, .instanceMethod yX10_keep, .selects RX10 yX10_keep yX10_keep, .code yX10_keep cX10_keep 3 none, .fieldLink RX10 39 "BeatFollowerModel" "pastMany" "I", .fieldLink RX10 42 "BeatFollowerModel" "pastFirst" "I", .fieldLink RX10 13 "BeatFollowerModel" "past" "[I"] ++ wsX100)
def wsJ9_abs_0f7a4 : List Cond := .code yJ9_abs_0f7a4 cJ9_abs_0f7a4 1 (some .int) :: ([])
def wsJ9_max_7cf53 : List Cond := .code yJ9_max_7cf53 cJ9_max_7cf53 2 (some .int) :: ([])
def wsJ9_min_7cf53 : List Cond := .code yJ9_min_7cf53 cJ9_min_7cf53 2 (some .int) :: ([])
abbrev vwCl : List vw_C := [(RX0, TX0, 5), (RX1, TX1, 7), (RX2, TX2, 4), (RX3, TX3, 3), (RX4, TX4, 2), (RX5, TX5, 3), (RX6, TX6, 7), (RX7, TX7, 7), (RX8, TX8, 10), (RX9, TX9, 7), (RX10, TX10, 18)]
end
section
theorem dX10_init_0 : decode cX10_init 0 = .ok (.aload_n 0, 1) := by decide +kernel
theorem dX10_init_1 : decode cX10_init 1 = .ok (.invokespecial 1, 3) := by decide +kernel
theorem dX10_init_4 : decode cX10_init 4 = .ok (.aload_n 0, 1) := by decide +kernel
theorem dX10_init_5 : decode cX10_init 5 = .ok (.sipush 672, 3) := by decide +kernel
theorem dX10_init_8 : decode cX10_init 8 = .ok (.newarray .int, 2) := by decide +kernel
theorem dX10_init_10 : decode cX10_init 10 = .ok (.putfield 7, 3) := by decide +kernel
theorem dX10_init_13 : decode cX10_init 13 = .ok (.aload_n 0, 1) := by decide +kernel
theorem dX10_init_14 : decode cX10_init 14 = .ok (.sipush 4032, 3) := by decide +kernel
theorem dX10_init_17 : decode cX10_init 17 = .ok (.newarray .int, 2) := by decide +kernel
theorem dX10_init_19 : decode cX10_init 19 = .ok (.putfield 13, 3) := by decide +kernel
theorem dX10_init_22 : decode cX10_init 22 = .ok (.aload_n 0, 1) := by decide +kernel
theorem dX10_init_23 : decode cX10_init 23 = .ok (.sipush 1344, 3) := by decide +kernel
theorem dX10_init_26 : decode cX10_init 26 = .ok (.newarray .int, 2) := by decide +kernel
theorem dX10_init_28 : decode cX10_init 28 = .ok (.putfield 16, 3) := by decide +kernel
theorem dX10_init_31 : decode cX10_init 31 = .ok (.aload_n 0, 1) := by decide +kernel
theorem dX10_init_32 : decode cX10_init 32 = .ok (.iconst 2, 1) := by decide +kernel
theorem dX10_init_33 : decode cX10_init 33 = .ok (.newarray .boolean, 2) := by decide +kernel
theorem dX10_init_35 : decode cX10_init 35 = .ok (.putfield 19, 3) := by decide +kernel
theorem dX10_init_38 : decode cX10_init 38 = .ok (.aload_n 0, 1) := by decide +kernel
theorem dX10_init_39 : decode cX10_init 39 = .ok (.sipush 672, 3) := by decide +kernel
theorem dX10_init_42 : decode cX10_init 42 = .ok (.newarray .int, 2) := by decide +kernel
theorem dX10_init_44 : decode cX10_init 44 = .ok (.putfield 23, 3) := by decide +kernel
theorem dX10_init_47 : decode cX10_init 47 = .ok (.aload_n 0, 1) := by decide +kernel
theorem dX10_init_48 : decode cX10_init 48 = .ok (.bipush (-6), 2) := by decide +kernel
theorem dX10_init_50 : decode cX10_init 50 = .ok (.putfield 26, 3) := by decide +kernel
theorem dX10_init_53 : decode cX10_init 53 = .ok (.aload_n 0, 1) := by decide +kernel
theorem dX10_init_54 : decode cX10_init 54 = .ok (.bipush 80, 2) := by decide +kernel
theorem dX10_init_56 : decode cX10_init 56 = .ok (.newarray .int, 2) := by decide +kernel
theorem dX10_init_58 : decode cX10_init 58 = .ok (.putfield 30, 3) := by decide +kernel
theorem dX10_init_61 : decode cX10_init 61 = .ok (.aload_n 0, 1) := by decide +kernel
theorem dX10_init_62 : decode cX10_init 62 = .ok (.bipush 65, 2) := by decide +kernel
theorem dX10_init_64 : decode cX10_init 64 = .ok (.newarray .int, 2) := by decide +kernel
theorem dX10_init_66 : decode cX10_init 66 = .ok (.putfield 33, 3) := by decide +kernel
theorem dX10_init_69 : decode cX10_init 69 = .ok (.aload_n 0, 1) := by decide +kernel
theorem dX10_init_70 : decode cX10_init 70 = .ok (.bipush 65, 2) := by decide +kernel
theorem dX10_init_72 : decode cX10_init 72 = .ok (.newarray .int, 2) := by decide +kernel
theorem dX10_init_74 : decode cX10_init 74 = .ok (.putfield 36, 3) := by decide +kernel
theorem dX10_init_77 : decode cX10_init 77 = .ok (.aload_n 0, 1) := by decide +kernel
theorem dX10_init_78 : decode cX10_init 78 = .ok (.getfield 7, 3) := by decide +kernel
theorem dX10_init_81 : decode cX10_init 81 = .ok (.iconst 0, 1) := by decide +kernel
theorem dX10_init_82 : decode cX10_init 82 = .ok (.bipush 100, 2) := by decide +kernel
theorem dX10_init_84 : decode cX10_init 84 = .ok (.iastore, 1) := by decide +kernel
theorem dX10_init_85 : decode cX10_init 85 = .ok (.aload_n 0, 1) := by decide +kernel
theorem dX10_init_86 : decode cX10_init 86 = .ok (.getfield 7, 3) := by decide +kernel
theorem dX10_init_89 : decode cX10_init 89 = .ok (.iconst 1, 1) := by decide +kernel
theorem dX10_init_90 : decode cX10_init 90 = .ok (.bipush 30, 2) := by decide +kernel
theorem dX10_init_92 : decode cX10_init 92 = .ok (.iastore, 1) := by decide +kernel
theorem dX10_init_93 : decode cX10_init 93 = .ok (.aload_n 0, 1) := by decide +kernel
theorem dX10_init_94 : decode cX10_init 94 = .ok (.getfield 7, 3) := by decide +kernel
theorem dX10_init_97 : decode cX10_init 97 = .ok (.iconst 2, 1) := by decide +kernel
theorem dX10_init_98 : decode cX10_init 98 = .ok (.bipush 8, 2) := by decide +kernel
theorem dX10_init_100 : decode cX10_init 100 = .ok (.iastore, 1) := by decide +kernel
theorem dX10_init_101 : decode cX10_init 101 = .ok (.aload_n 0, 1) := by decide +kernel
theorem dX10_init_102 : decode cX10_init 102 = .ok (.getfield 7, 3) := by decide +kernel
theorem dX10_init_105 : decode cX10_init 105 = .ok (.iconst 3, 1) := by decide +kernel
theorem dX10_init_106 : decode cX10_init 106 = .ok (.iconst 4, 1) := by decide +kernel
theorem dX10_init_107 : decode cX10_init 107 = .ok (.iastore, 1) := by decide +kernel
theorem dX10_init_108 : decode cX10_init 108 = .ok (.aload_n 0, 1) := by decide +kernel
theorem dX10_init_109 : decode cX10_init 109 = .ok (.getfield 7, 3) := by decide +kernel
theorem dX10_init_112 : decode cX10_init 112 = .ok (.iconst 4, 1) := by decide +kernel
theorem dX10_init_113 : decode cX10_init 113 = .ok (.bipush 8, 2) := by decide +kernel
theorem dX10_init_115 : decode cX10_init 115 = .ok (.iastore, 1) := by decide +kernel
theorem dX10_init_116 : decode cX10_init 116 = .ok (.aload_n 0, 1) := by decide +kernel
theorem dX10_init_117 : decode cX10_init 117 = .ok (.getfield 7, 3) := by decide +kernel
theorem dX10_init_120 : decode cX10_init 120 = .ok (.iconst 5, 1) := by decide +kernel
theorem dX10_init_121 : decode cX10_init 121 = .ok (.iconst 3, 1) := by decide +kernel
theorem dX10_init_122 : decode cX10_init 122 = .ok (.iastore, 1) := by decide +kernel
theorem dX10_init_123 : decode cX10_init 123 = .ok (.aload_n 0, 1) := by decide +kernel
theorem dX10_init_124 : decode cX10_init 124 = .ok (.getfield 7, 3) := by decide +kernel
theorem dX10_init_127 : decode cX10_init 127 = .ok (.bipush 6, 2) := by decide +kernel
theorem dX10_init_129 : decode cX10_init 129 = .ok (.iconst 3, 1) := by decide +kernel
theorem dX10_init_130 : decode cX10_init 130 = .ok (.iastore, 1) := by decide +kernel
theorem dX10_init_131 : decode cX10_init 131 = .ok (.aload_n 0, 1) := by decide +kernel
theorem dX10_init_132 : decode cX10_init 132 = .ok (.getfield 7, 3) := by decide +kernel
theorem dX10_init_135 : decode cX10_init 135 = .ok (.bipush 7, 2) := by decide +kernel
theorem dX10_init_137 : decode cX10_init 137 = .ok (.bipush 6, 2) := by decide +kernel
theorem dX10_init_139 : decode cX10_init 139 = .ok (.iastore, 1) := by decide +kernel
theorem dX10_init_140 : decode cX10_init 140 = .ok (.aload_n 0, 1) := by decide +kernel
theorem dX10_init_141 : decode cX10_init 141 = .ok (.getfield 7, 3) := by decide +kernel
theorem dX10_init_144 : decode cX10_init 144 = .ok (.bipush 10, 2) := by decide +kernel
theorem dX10_init_146 : decode cX10_init 146 = .ok (.sipush 400, 3) := by decide +kernel
theorem dX10_init_149 : decode cX10_init 149 = .ok (.iastore, 1) := by decide +kernel
theorem dX10_init_150 : decode cX10_init 150 = .ok (.aload_n 0, 1) := by decide +kernel
theorem dX10_init_151 : decode cX10_init 151 = .ok (.getfield 7, 3) := by decide +kernel
theorem dX10_init_154 : decode cX10_init 154 = .ok (.bipush 11, 2) := by decide +kernel
theorem dX10_init_156 : decode cX10_init 156 = .ok (.bipush (-6), 2) := by decide +kernel
theorem dX10_init_158 : decode cX10_init 158 = .ok (.iastore, 1) := by decide +kernel
theorem dX10_init_159 : decode cX10_init 159 = .ok (.return_, 1) := by decide +kernel
theorem dX10_in_0 : decode cX10_in 0 = .ok (.iload_n 0, 1) := by decide +kernel
theorem dX10_in_1 : decode cX10_in 1 = .ok (.iload_n 1, 1) := by decide +kernel
theorem dX10_in_2 : decode cX10_in 2 = .ok (.if_icmp .lt 12, 3) := by decide +kernel
theorem dX10_in_5 : decode cX10_in 5 = .ok (.iload_n 0, 1) := by decide +kernel
theorem dX10_in_6 : decode cX10_in 6 = .ok (.iload_n 2, 1) := by decide +kernel
theorem dX10_in_7 : decode cX10_in 7 = .ok (.if_icmp .gt 7, 3) := by decide +kernel
theorem dX10_in_10 : decode cX10_in 10 = .ok (.iconst 1, 1) := by decide +kernel
theorem dX10_in_11 : decode cX10_in 11 = .ok (.goto 4, 3) := by decide +kernel
theorem dX10_in_14 : decode cX10_in 14 = .ok (.iconst 0, 1) := by decide +kernel
theorem dX10_in_15 : decode cX10_in 15 = .ok (.ireturn, 1) := by decide +kernel
theorem dX10_size_0 : decode cX10_size 0 = .ok (.iload_n 0, 1) := by decide +kernel
theorem dX10_size_1 : decode cX10_size 1 = .ok (.ifCond .ge 8, 3) := by decide +kernel
theorem dX10_size_4 : decode cX10_size 4 = .ok (.iload_n 0, 1) := by decide +kernel
theorem dX10_size_5 : decode cX10_size 5 = .ok (.ineg, 1) := by decide +kernel
theorem dX10_size_6 : decode cX10_size 6 = .ok (.goto 4, 3) := by decide +kernel
theorem dX10_size_9 : decode cX10_size 9 = .ok (.iload_n 0, 1) := by decide +kernel
theorem dX10_size_10 : decode cX10_size 10 = .ok (.ireturn, 1) := by decide +kernel
theorem dX10_part_0 : decode cX10_part 0 = .ok (.iload_n 0, 1) := by decide +kernel
theorem dX10_part_1 : decode cX10_part 1 = .ok (.ifCond .lt 9, 3) := by decide +kernel
theorem dX10_part_4 : decode cX10_part 4 = .ok (.iload_n 0, 1) := by decide +kernel
theorem dX10_part_5 : decode cX10_part 5 = .ok (.iload_n 1, 1) := by decide +kernel
theorem dX10_part_6 : decode cX10_part 6 = .ok (.idiv, 1) := by decide +kernel
theorem dX10_part_7 : decode cX10_part 7 = .ok (.goto 11, 3) := by decide +kernel
theorem dX10_part_10 : decode cX10_part 10 = .ok (.iload_n 1, 1) := by decide +kernel
theorem dX10_part_11 : decode cX10_part 11 = .ok (.iconst 1, 1) := by decide +kernel
theorem dX10_part_12 : decode cX10_part 12 = .ok (.isub, 1) := by decide +kernel
theorem dX10_part_13 : decode cX10_part 13 = .ok (.iload_n 0, 1) := by decide +kernel
theorem dX10_part_14 : decode cX10_part 14 = .ok (.isub, 1) := by decide +kernel
theorem dX10_part_15 : decode cX10_part 15 = .ok (.iload_n 1, 1) := by decide +kernel
theorem dX10_part_16 : decode cX10_part 16 = .ok (.idiv, 1) := by decide +kernel
theorem dX10_part_17 : decode cX10_part 17 = .ok (.ineg, 1) := by decide +kernel
theorem dX10_part_18 : decode cX10_part 18 = .ok (.ireturn, 1) := by decide +kernel
theorem dX10_ofB_0 : decode cX10_ofB 0 = .ok (.aload_n 0, 1) := by decide +kernel
theorem dX10_ofB_1 : decode cX10_ofB 1 = .ok (.getfield 7, 3) := by decide +kernel
theorem dX10_ofB_4 : decode cX10_ofB 4 = .ok (.bipush 32, 2) := by decide +kernel
theorem dX10_ofB_6 : decode cX10_ofB 6 = .ok (.bipush 6, 2) := by decide +kernel
theorem dX10_ofB_8 : decode cX10_ofB 8 = .ok (.iload_n 1, 1) := by decide +kernel
theorem dX10_ofB_9 : decode cX10_ofB 9 = .ok (.imul, 1) := by decide +kernel
theorem dX10_ofB_10 : decode cX10_ofB 10 = .ok (.iadd, 1) := by decide +kernel
theorem dX10_ofB_11 : decode cX10_ofB 11 = .ok (.iload_n 2, 1) := by decide +kernel
theorem dX10_ofB_12 : decode cX10_ofB 12 = .ok (.iadd, 1) := by decide +kernel
theorem dX10_ofB_13 : decode cX10_ofB 13 = .ok (.iaload, 1) := by decide +kernel
theorem dX10_ofB_14 : decode cX10_ofB 14 = .ok (.ireturn, 1) := by decide +kernel
theorem dX10_layB_0 : decode cX10_layB 0 = .ok (.aload_n 0, 1) := by decide +kernel
theorem dX10_layB_1 : decode cX10_layB 1 = .ok (.getfield 7, 3) := by decide +kernel
theorem dX10_layB_4 : decode cX10_layB 4 = .ok (.bipush 32, 2) := by decide +kernel
theorem dX10_layB_6 : decode cX10_layB 6 = .ok (.bipush 6, 2) := by decide +kernel
theorem dX10_layB_8 : decode cX10_layB 8 = .ok (.iload_n 1, 1) := by decide +kernel
theorem dX10_layB_9 : decode cX10_layB 9 = .ok (.imul, 1) := by decide +kernel
theorem dX10_layB_10 : decode cX10_layB 10 = .ok (.iadd, 1) := by decide +kernel
theorem dX10_layB_11 : decode cX10_layB 11 = .ok (.iload_n 2, 1) := by decide +kernel
theorem dX10_layB_12 : decode cX10_layB 12 = .ok (.iadd, 1) := by decide +kernel
theorem dX10_layB_13 : decode cX10_layB 13 = .ok (.iload_n 3, 1) := by decide +kernel
theorem dX10_layB_14 : decode cX10_layB 14 = .ok (.iastore, 1) := by decide +kernel
theorem dX10_layB_15 : decode cX10_layB 15 = .ok (.return_, 1) := by decide +kernel
theorem dX10_keep_0 : decode cX10_keep 0 = .ok (.aload_n 0, 1) := by decide +kernel
theorem dX10_keep_1 : decode cX10_keep 1 = .ok (.getfield 39, 3) := by decide +kernel
theorem dX10_keep_4 : decode cX10_keep 4 = .ok (.bipush 6, 2) := by decide +kernel
theorem dX10_keep_6 : decode cX10_keep 6 = .ok (.if_icmp .ne 26, 3) := by decide +kernel
theorem dX10_keep_9 : decode cX10_keep 9 = .ok (.aload_n 0, 1) := by decide +kernel
theorem dX10_keep_10 : decode cX10_keep 10 = .ok (.aload_n 0, 1) := by decide +kernel
theorem dX10_keep_11 : decode cX10_keep 11 = .ok (.getfield 42, 3) := by decide +kernel
theorem dX10_keep_14 : decode cX10_keep 14 = .ok (.iconst 1, 1) := by decide +kernel
theorem dX10_keep_15 : decode cX10_keep 15 = .ok (.iadd, 1) := by decide +kernel
theorem dX10_keep_16 : decode cX10_keep 16 = .ok (.bipush 6, 2) := by decide +kernel
theorem dX10_keep_18 : decode cX10_keep 18 = .ok (.irem, 1) := by decide +kernel
theorem dX10_keep_19 : decode cX10_keep 19 = .ok (.putfield 42, 3) := by decide +kernel
theorem dX10_keep_22 : decode cX10_keep 22 = .ok (.aload_n 0, 1) := by decide +kernel
theorem dX10_keep_23 : decode cX10_keep 23 = .ok (.dup, 1) := by decide +kernel
theorem dX10_keep_24 : decode cX10_keep 24 = .ok (.getfield 39, 3) := by decide +kernel
theorem dX10_keep_27 : decode cX10_keep 27 = .ok (.iconst 1, 1) := by decide +kernel
theorem dX10_keep_28 : decode cX10_keep 28 = .ok (.isub, 1) := by decide +kernel
theorem dX10_keep_29 : decode cX10_keep 29 = .ok (.putfield 39, 3) := by decide +kernel
theorem dX10_keep_32 : decode cX10_keep 32 = .ok (.aload_n 0, 1) := by decide +kernel
theorem dX10_keep_33 : decode cX10_keep 33 = .ok (.getfield 42, 3) := by decide +kernel
theorem dX10_keep_36 : decode cX10_keep 36 = .ok (.aload_n 0, 1) := by decide +kernel
theorem dX10_keep_37 : decode cX10_keep 37 = .ok (.getfield 39, 3) := by decide +kernel
theorem dX10_keep_40 : decode cX10_keep 40 = .ok (.iadd, 1) := by decide +kernel
theorem dX10_keep_41 : decode cX10_keep 41 = .ok (.bipush 6, 2) := by decide +kernel
theorem dX10_keep_43 : decode cX10_keep 43 = .ok (.irem, 1) := by decide +kernel
theorem dX10_keep_44 : decode cX10_keep 44 = .ok (.istore_n 1, 1) := by decide +kernel
theorem dX10_keep_45 : decode cX10_keep 45 = .ok (.iconst 0, 1) := by decide +kernel
theorem dX10_keep_46 : decode cX10_keep 46 = .ok (.istore_n 2, 1) := by decide +kernel
theorem dX10_keep_47 : decode cX10_keep 47 = .ok (.iload_n 2, 1) := by decide +kernel
theorem dX10_keep_48 : decode cX10_keep 48 = .ok (.sipush 672, 3) := by decide +kernel
theorem dX10_keep_51 : decode cX10_keep 51 = .ok (.if_icmp .ge 27, 3) := by decide +kernel
theorem dX10_keep_54 : decode cX10_keep 54 = .ok (.aload_n 0, 1) := by decide +kernel
theorem dX10_keep_55 : decode cX10_keep 55 = .ok (.getfield 13, 3) := by decide +kernel
theorem dX10_keep_58 : decode cX10_keep 58 = .ok (.sipush 672, 3) := by decide +kernel
theorem dX10_keep_61 : decode cX10_keep 61 = .ok (.iload_n 1, 1) := by decide +kernel
theorem dX10_keep_62 : decode cX10_keep 62 = .ok (.imul, 1) := by decide +kernel
theorem dX10_keep_63 : decode cX10_keep 63 = .ok (.iload_n 2, 1) := by decide +kernel
theorem dX10_keep_64 : decode cX10_keep 64 = .ok (.iadd, 1) := by decide +kernel
theorem dX10_keep_65 : decode cX10_keep 65 = .ok (.aload_n 0, 1) := by decide +kernel
theorem dX10_keep_66 : decode cX10_keep 66 = .ok (.getfield 7, 3) := by decide +kernel
theorem dX10_keep_69 : decode cX10_keep 69 = .ok (.iload_n 2, 1) := by decide +kernel
theorem dX10_keep_70 : decode cX10_keep 70 = .ok (.iaload, 1) := by decide +kernel
theorem dX10_keep_71 : decode cX10_keep 71 = .ok (.iastore, 1) := by decide +kernel
theorem dX10_keep_72 : decode cX10_keep 72 = .ok (.iinc 2 1, 3) := by decide +kernel
theorem dX10_keep_75 : decode cX10_keep 75 = .ok (.goto (-28), 3) := by decide +kernel
theorem dX10_keep_78 : decode cX10_keep 78 = .ok (.aload_n 0, 1) := by decide +kernel
theorem dX10_keep_79 : decode cX10_keep 79 = .ok (.dup, 1) := by decide +kernel
theorem dX10_keep_80 : decode cX10_keep 80 = .ok (.getfield 39, 3) := by decide +kernel
theorem dX10_keep_83 : decode cX10_keep 83 = .ok (.iconst 1, 1) := by decide +kernel
theorem dX10_keep_84 : decode cX10_keep 84 = .ok (.iadd, 1) := by decide +kernel
theorem dX10_keep_85 : decode cX10_keep 85 = .ok (.putfield 39, 3) := by decide +kernel
theorem dX10_keep_88 : decode cX10_keep 88 = .ok (.return_, 1) := by decide +kernel
theorem dX10_layAside_0 : decode cX10_layAside 0 = .ok (.iconst 0, 1) := by decide +kernel
theorem dX10_layAside_1 : decode cX10_layAside 1 = .ok (.istore_n 1, 1) := by decide +kernel
theorem dX10_layAside_2 : decode cX10_layAside 2 = .ok (.iload_n 1, 1) := by decide +kernel
theorem dX10_layAside_3 : decode cX10_layAside 3 = .ok (.sipush 672, 3) := by decide +kernel
theorem dX10_layAside_6 : decode cX10_layAside 6 = .ok (.if_icmp .ge 21, 3) := by decide +kernel
theorem dX10_layAside_9 : decode cX10_layAside 9 = .ok (.aload_n 0, 1) := by decide +kernel
theorem dX10_layAside_10 : decode cX10_layAside 10 = .ok (.getfield 23, 3) := by decide +kernel
theorem dX10_layAside_13 : decode cX10_layAside 13 = .ok (.iload_n 1, 1) := by decide +kernel
theorem dX10_layAside_14 : decode cX10_layAside 14 = .ok (.aload_n 0, 1) := by decide +kernel
theorem dX10_layAside_15 : decode cX10_layAside 15 = .ok (.getfield 7, 3) := by decide +kernel
theorem dX10_layAside_18 : decode cX10_layAside 18 = .ok (.iload_n 1, 1) := by decide +kernel
theorem dX10_layAside_19 : decode cX10_layAside 19 = .ok (.iaload, 1) := by decide +kernel
theorem dX10_layAside_20 : decode cX10_layAside 20 = .ok (.iastore, 1) := by decide +kernel
theorem dX10_layAside_21 : decode cX10_layAside 21 = .ok (.iinc 1 1, 3) := by decide +kernel
theorem dX10_layAside_24 : decode cX10_layAside 24 = .ok (.goto (-22), 3) := by decide +kernel
theorem dX10_layAside_27 : decode cX10_layAside 27 = .ok (.return_, 1) := by decide +kernel
theorem dX10_layBack_0 : decode cX10_layBack 0 = .ok (.iconst 0, 1) := by decide +kernel
theorem dX10_layBack_1 : decode cX10_layBack 1 = .ok (.istore_n 1, 1) := by decide +kernel
theorem dX10_layBack_2 : decode cX10_layBack 2 = .ok (.iload_n 1, 1) := by decide +kernel
theorem dX10_layBack_3 : decode cX10_layBack 3 = .ok (.sipush 672, 3) := by decide +kernel
theorem dX10_layBack_6 : decode cX10_layBack 6 = .ok (.if_icmp .ge 21, 3) := by decide +kernel
theorem dX10_layBack_9 : decode cX10_layBack 9 = .ok (.aload_n 0, 1) := by decide +kernel
theorem dX10_layBack_10 : decode cX10_layBack 10 = .ok (.getfield 7, 3) := by decide +kernel
theorem dX10_layBack_13 : decode cX10_layBack 13 = .ok (.iload_n 1, 1) := by decide +kernel
theorem dX10_layBack_14 : decode cX10_layBack 14 = .ok (.aload_n 0, 1) := by decide +kernel
theorem dX10_layBack_15 : decode cX10_layBack 15 = .ok (.getfield 23, 3) := by decide +kernel
theorem dX10_layBack_18 : decode cX10_layBack 18 = .ok (.iload_n 1, 1) := by decide +kernel
theorem dX10_layBack_19 : decode cX10_layBack 19 = .ok (.iaload, 1) := by decide +kernel
theorem dX10_layBack_20 : decode cX10_layBack 20 = .ok (.iastore, 1) := by decide +kernel
theorem dX10_layBack_21 : decode cX10_layBack 21 = .ok (.iinc 1 1, 3) := by decide +kernel
theorem dX10_layBack_24 : decode cX10_layBack 24 = .ok (.goto (-22), 3) := by decide +kernel
theorem dX10_layBack_27 : decode cX10_layBack 27 = .ok (.return_, 1) := by decide +kernel
theorem dX10_halfWindow_0 : decode cX10_halfWindow 0 = .ok (.aload_n 0, 1) := by decide +kernel
theorem dX10_halfWindow_1 : decode cX10_halfWindow 1 = .ok (.getfield 7, 3) := by decide +kernel
theorem dX10_halfWindow_4 : decode cX10_halfWindow 4 = .ok (.bipush 10, 2) := by decide +kernel
theorem dX10_halfWindow_6 : decode cX10_halfWindow 6 = .ok (.iaload, 1) := by decide +kernel
theorem dX10_halfWindow_7 : decode cX10_halfWindow 7 = .ok (.aload_n 0, 1) := by decide +kernel
theorem dX10_halfWindow_8 : decode cX10_halfWindow 8 = .ok (.getfield 7, 3) := by decide +kernel
theorem dX10_halfWindow_11 : decode cX10_halfWindow 11 = .ok (.iconst 1, 1) := by decide +kernel
theorem dX10_halfWindow_12 : decode cX10_halfWindow 12 = .ok (.iaload, 1) := by decide +kernel
theorem dX10_halfWindow_13 : decode cX10_halfWindow 13 = .ok (.imul, 1) := by decide +kernel
theorem dX10_halfWindow_14 : decode cX10_halfWindow 14 = .ok (.bipush 100, 2) := by decide +kernel
theorem dX10_halfWindow_16 : decode cX10_halfWindow 16 = .ok (.idiv, 1) := by decide +kernel
theorem dX10_halfWindow_17 : decode cX10_halfWindow 17 = .ok (.ireturn, 1) := by decide +kernel
theorem dX10_strike_0 : decode cX10_strike 0 = .ok (.aload_n 0, 1) := by decide +kernel
theorem dX10_strike_1 : decode cX10_strike 1 = .ok (.getfield 7, 3) := by decide +kernel
theorem dX10_strike_4 : decode cX10_strike 4 = .ok (.bipush 12, 2) := by decide +kernel
theorem dX10_strike_6 : decode cX10_strike 6 = .ok (.iaload, 1) := by decide +kernel
theorem dX10_strike_7 : decode cX10_strike 7 = .ok (.istore_n 3, 1) := by decide +kernel
theorem dX10_strike_8 : decode cX10_strike 8 = .ok (.sipush 416, 3) := by decide +kernel
theorem dX10_strike_11 : decode cX10_strike 11 = .ok (.iconst 4, 1) := by decide +kernel
theorem dX10_strike_12 : decode cX10_strike 12 = .ok (.iload_n 3, 1) := by decide +kernel
theorem dX10_strike_13 : decode cX10_strike 13 = .ok (.bipush 64, 2) := by decide +kernel
theorem dX10_strike_15 : decode cX10_strike 15 = .ok (.irem, 1) := by decide +kernel
theorem dX10_strike_16 : decode cX10_strike 16 = .ok (.imul, 1) := by decide +kernel
theorem dX10_strike_17 : decode cX10_strike 17 = .ok (.iadd, 1) := by decide +kernel
theorem dX10_strike_18 : decode cX10_strike 18 = .ok (.istore 4, 2) := by decide +kernel
theorem dX10_strike_20 : decode cX10_strike 20 = .ok (.aload_n 0, 1) := by decide +kernel
theorem dX10_strike_21 : decode cX10_strike 21 = .ok (.getfield 7, 3) := by decide +kernel
theorem dX10_strike_24 : decode cX10_strike 24 = .ok (.iload 4, 2) := by decide +kernel
theorem dX10_strike_26 : decode cX10_strike 26 = .ok (.iload_n 1, 1) := by decide +kernel
theorem dX10_strike_27 : decode cX10_strike 27 = .ok (.iastore, 1) := by decide +kernel
theorem dX10_strike_28 : decode cX10_strike 28 = .ok (.aload_n 0, 1) := by decide +kernel
theorem dX10_strike_29 : decode cX10_strike 29 = .ok (.getfield 7, 3) := by decide +kernel
theorem dX10_strike_32 : decode cX10_strike 32 = .ok (.iload 4, 2) := by decide +kernel
theorem dX10_strike_34 : decode cX10_strike 34 = .ok (.iconst 1, 1) := by decide +kernel
theorem dX10_strike_35 : decode cX10_strike 35 = .ok (.iadd, 1) := by decide +kernel
theorem dX10_strike_36 : decode cX10_strike 36 = .ok (.iload_n 2, 1) := by decide +kernel
theorem dX10_strike_37 : decode cX10_strike 37 = .ok (.iastore, 1) := by decide +kernel
theorem dX10_strike_38 : decode cX10_strike 38 = .ok (.aload_n 0, 1) := by decide +kernel
theorem dX10_strike_39 : decode cX10_strike 39 = .ok (.getfield 7, 3) := by decide +kernel
theorem dX10_strike_42 : decode cX10_strike 42 = .ok (.bipush 12, 2) := by decide +kernel
theorem dX10_strike_44 : decode cX10_strike 44 = .ok (.dup2, 1) := by decide +kernel
theorem dX10_strike_45 : decode cX10_strike 45 = .ok (.iaload, 1) := by decide +kernel
theorem dX10_strike_46 : decode cX10_strike 46 = .ok (.iconst 1, 1) := by decide +kernel
theorem dX10_strike_47 : decode cX10_strike 47 = .ok (.iadd, 1) := by decide +kernel
theorem dX10_strike_48 : decode cX10_strike 48 = .ok (.iastore, 1) := by decide +kernel
theorem dX10_strike_49 : decode cX10_strike 49 = .ok (.iload_n 3, 1) := by decide +kernel
theorem dX10_strike_50 : decode cX10_strike 50 = .ok (.ireturn, 1) := by decide +kernel
theorem dX10_endBlow_0 : decode cX10_endBlow 0 = .ok (.sipush 416, 3) := by decide +kernel
theorem dX10_endBlow_3 : decode cX10_endBlow 3 = .ok (.iconst 4, 1) := by decide +kernel
theorem dX10_endBlow_4 : decode cX10_endBlow 4 = .ok (.aload_n 0, 1) := by decide +kernel
theorem dX10_endBlow_5 : decode cX10_endBlow 5 = .ok (.getfield 7, 3) := by decide +kernel
theorem dX10_endBlow_8 : decode cX10_endBlow 8 = .ok (.bipush 12, 2) := by decide +kernel
theorem dX10_endBlow_10 : decode cX10_endBlow 10 = .ok (.iaload, 1) := by decide +kernel
theorem dX10_endBlow_11 : decode cX10_endBlow 11 = .ok (.iconst 1, 1) := by decide +kernel
theorem dX10_endBlow_12 : decode cX10_endBlow 12 = .ok (.isub, 1) := by decide +kernel
theorem dX10_endBlow_13 : decode cX10_endBlow 13 = .ok (.bipush 64, 2) := by decide +kernel
theorem dX10_endBlow_15 : decode cX10_endBlow 15 = .ok (.irem, 1) := by decide +kernel
theorem dX10_endBlow_16 : decode cX10_endBlow 16 = .ok (.imul, 1) := by decide +kernel
theorem dX10_endBlow_17 : decode cX10_endBlow 17 = .ok (.iadd, 1) := by decide +kernel
theorem dX10_endBlow_18 : decode cX10_endBlow 18 = .ok (.istore_n 1, 1) := by decide +kernel
theorem dX10_endBlow_19 : decode cX10_endBlow 19 = .ok (.aload_n 0, 1) := by decide +kernel
theorem dX10_endBlow_20 : decode cX10_endBlow 20 = .ok (.getfield 7, 3) := by decide +kernel
theorem dX10_endBlow_23 : decode cX10_endBlow 23 = .ok (.iload_n 1, 1) := by decide +kernel
theorem dX10_endBlow_24 : decode cX10_endBlow 24 = .ok (.iconst 2, 1) := by decide +kernel
theorem dX10_endBlow_25 : decode cX10_endBlow 25 = .ok (.iadd, 1) := by decide +kernel
theorem dX10_endBlow_26 : decode cX10_endBlow 26 = .ok (.aload_n 0, 1) := by decide +kernel
theorem dX10_endBlow_27 : decode cX10_endBlow 27 = .ok (.getfield 7, 3) := by decide +kernel
theorem dX10_endBlow_30 : decode cX10_endBlow 30 = .ok (.bipush 10, 2) := by decide +kernel
theorem dX10_endBlow_32 : decode cX10_endBlow 32 = .ok (.iaload, 1) := by decide +kernel
theorem dX10_endBlow_33 : decode cX10_endBlow 33 = .ok (.iastore, 1) := by decide +kernel
theorem dX10_endBlow_34 : decode cX10_endBlow 34 = .ok (.aload_n 0, 1) := by decide +kernel
theorem dX10_endBlow_35 : decode cX10_endBlow 35 = .ok (.getfield 7, 3) := by decide +kernel
theorem dX10_endBlow_38 : decode cX10_endBlow 38 = .ok (.iload_n 1, 1) := by decide +kernel
theorem dX10_endBlow_39 : decode cX10_endBlow 39 = .ok (.iconst 3, 1) := by decide +kernel
theorem dX10_endBlow_40 : decode cX10_endBlow 40 = .ok (.iadd, 1) := by decide +kernel
theorem dX10_endBlow_41 : decode cX10_endBlow 41 = .ok (.aload_n 0, 1) := by decide +kernel
theorem dX10_endBlow_42 : decode cX10_endBlow 42 = .ok (.getfield 7, 3) := by decide +kernel
theorem dX10_endBlow_45 : decode cX10_endBlow 45 = .ok (.bipush 9, 2) := by decide +kernel
theorem dX10_endBlow_47 : decode cX10_endBlow 47 = .ok (.iaload, 1) := by decide +kernel
theorem dX10_endBlow_48 : decode cX10_endBlow 48 = .ok (.iastore, 1) := by decide +kernel
theorem dX10_endBlow_49 : decode cX10_endBlow 49 = .ok (.return_, 1) := by decide +kernel
set_option maxRecDepth 20000 in
theorem ggX10_become_X10_layB : GoodIn wsX10_become wsX10_layB := goodIn_r _ [5, 6, 7, 8, 9, 10, 11, 12, 13, 14, 15, 16, 17, 18, 19, 20, 21, 22, 23, 24] (by decide +kernel) (by decide +kernel)
set_option maxRecDepth 20000 in
theorem gX10_become_X10_layB : GoodIn wsX10_become (wsV RX10 45 RX10 yX10_layB wsX10_layB) := goodIn_app (goodIn_of _ (by decide +kernel)) ggX10_become_X10_layB
theorem dX10_become_0 : decode cX10_become 0 = .ok (.aload_n 0, 1) := by decide +kernel
theorem dX10_become_1 : decode cX10_become 1 = .ok (.iload_n 1, 1) := by decide +kernel
theorem dX10_become_2 : decode cX10_become 2 = .ok (.iconst 2, 1) := by decide +kernel
theorem dX10_become_3 : decode cX10_become 3 = .ok (.iload_n 2, 1) := by decide +kernel
theorem dX10_become_4 : decode cX10_become 4 = .ok (.invokevirtual 45, 3) := by decide +kernel
theorem dX10_become_7 : decode cX10_become 7 = .ok (.aload_n 0, 1) := by decide +kernel
theorem dX10_become_8 : decode cX10_become 8 = .ok (.iload_n 1, 1) := by decide +kernel
theorem dX10_become_9 : decode cX10_become 9 = .ok (.iconst 3, 1) := by decide +kernel
theorem dX10_become_10 : decode cX10_become 10 = .ok (.iload_n 3, 1) := by decide +kernel
theorem dX10_become_11 : decode cX10_become 11 = .ok (.invokevirtual 45, 3) := by decide +kernel
theorem dX10_become_14 : decode cX10_become 14 = .ok (.aload_n 0, 1) := by decide +kernel
theorem dX10_become_15 : decode cX10_become 15 = .ok (.iload_n 1, 1) := by decide +kernel
theorem dX10_become_16 : decode cX10_become 16 = .ok (.iconst 4, 1) := by decide +kernel
theorem dX10_become_17 : decode cX10_become 17 = .ok (.iload 4, 2) := by decide +kernel
theorem dX10_become_19 : decode cX10_become 19 = .ok (.invokevirtual 45, 3) := by decide +kernel
theorem dX10_become_22 : decode cX10_become 22 = .ok (.aload_n 0, 1) := by decide +kernel
theorem dX10_become_23 : decode cX10_become 23 = .ok (.iload_n 1, 1) := by decide +kernel
theorem dX10_become_24 : decode cX10_become 24 = .ok (.iconst 5, 1) := by decide +kernel
theorem dX10_become_25 : decode cX10_become 25 = .ok (.iload 5, 2) := by decide +kernel
theorem dX10_become_27 : decode cX10_become 27 = .ok (.invokevirtual 45, 3) := by decide +kernel
theorem dX10_become_30 : decode cX10_become 30 = .ok (.return_, 1) := by decide +kernel
theorem dX10_loseLock_0 : decode cX10_loseLock 0 = .ok (.aload_n 0, 1) := by decide +kernel
theorem dX10_loseLock_1 : decode cX10_loseLock 1 = .ok (.getfield 7, 3) := by decide +kernel
theorem dX10_loseLock_4 : decode cX10_loseLock 4 = .ok (.bipush 17, 2) := by decide +kernel
theorem dX10_loseLock_6 : decode cX10_loseLock 6 = .ok (.dup2, 1) := by decide +kernel
theorem dX10_loseLock_7 : decode cX10_loseLock 7 = .ok (.iaload, 1) := by decide +kernel
theorem dX10_loseLock_8 : decode cX10_loseLock 8 = .ok (.iconst 1, 1) := by decide +kernel
theorem dX10_loseLock_9 : decode cX10_loseLock 9 = .ok (.iadd, 1) := by decide +kernel
theorem dX10_loseLock_10 : decode cX10_loseLock 10 = .ok (.iastore, 1) := by decide +kernel
theorem dX10_loseLock_11 : decode cX10_loseLock 11 = .ok (.aload_n 0, 1) := by decide +kernel
theorem dX10_loseLock_12 : decode cX10_loseLock 12 = .ok (.getfield 7, 3) := by decide +kernel
theorem dX10_loseLock_15 : decode cX10_loseLock 15 = .ok (.bipush 9, 2) := by decide +kernel
theorem dX10_loseLock_17 : decode cX10_loseLock 17 = .ok (.iconst 0, 1) := by decide +kernel
theorem dX10_loseLock_18 : decode cX10_loseLock 18 = .ok (.iastore, 1) := by decide +kernel
theorem dX10_loseLock_19 : decode cX10_loseLock 19 = .ok (.aload_n 0, 1) := by decide +kernel
theorem dX10_loseLock_20 : decode cX10_loseLock 20 = .ok (.getfield 7, 3) := by decide +kernel
theorem dX10_loseLock_23 : decode cX10_loseLock 23 = .ok (.bipush 19, 2) := by decide +kernel
theorem dX10_loseLock_25 : decode cX10_loseLock 25 = .ok (.iconst 0, 1) := by decide +kernel
theorem dX10_loseLock_26 : decode cX10_loseLock 26 = .ok (.iastore, 1) := by decide +kernel
theorem dX10_loseLock_27 : decode cX10_loseLock 27 = .ok (.aload_n 0, 1) := by decide +kernel
theorem dX10_loseLock_28 : decode cX10_loseLock 28 = .ok (.getfield 7, 3) := by decide +kernel
theorem dX10_loseLock_31 : decode cX10_loseLock 31 = .ok (.bipush 20, 2) := by decide +kernel
theorem dX10_loseLock_33 : decode cX10_loseLock 33 = .ok (.iconst 0, 1) := by decide +kernel
theorem dX10_loseLock_34 : decode cX10_loseLock 34 = .ok (.iastore, 1) := by decide +kernel
theorem dX10_loseLock_35 : decode cX10_loseLock 35 = .ok (.return_, 1) := by decide +kernel
set_option maxRecDepth 20000 in
theorem ggX10_judge_X10_loseLock : GoodIn wsX10_judge wsX10_loseLock := goodIn_r _ [6, 1, 7, 8, 9, 10, 11, 12, 13, 14, 15, 16, 17, 18, 19, 20, 21, 22, 23, 24] (by decide +kernel) (by decide +kernel)
set_option maxRecDepth 20000 in
theorem gX10_judge_X10_loseLock : GoodIn wsX10_judge (wsV RX10 49 RX10 yX10_loseLock wsX10_loseLock) := goodIn_app (goodIn_of _ (by decide +kernel)) ggX10_judge_X10_loseLock
theorem dX10_judge_0 : decode cX10_judge 0 = .ok (.aload_n 0, 1) := by decide +kernel
theorem dX10_judge_1 : decode cX10_judge 1 = .ok (.getfield 7, 3) := by decide +kernel
theorem dX10_judge_4 : decode cX10_judge 4 = .ok (.bipush 19, 2) := by decide +kernel
theorem dX10_judge_6 : decode cX10_judge 6 = .ok (.iload_n 1, 1) := by decide +kernel
theorem dX10_judge_7 : decode cX10_judge 7 = .ok (.ifCond .eq 15, 3) := by decide +kernel
theorem dX10_judge_10 : decode cX10_judge 10 = .ok (.aload_n 0, 1) := by decide +kernel
theorem dX10_judge_11 : decode cX10_judge 11 = .ok (.getfield 7, 3) := by decide +kernel
theorem dX10_judge_14 : decode cX10_judge 14 = .ok (.bipush 19, 2) := by decide +kernel
theorem dX10_judge_16 : decode cX10_judge 16 = .ok (.iaload, 1) := by decide +kernel
theorem dX10_judge_17 : decode cX10_judge 17 = .ok (.iconst 1, 1) := by decide +kernel
theorem dX10_judge_18 : decode cX10_judge 18 = .ok (.iadd, 1) := by decide +kernel
theorem dX10_judge_19 : decode cX10_judge 19 = .ok (.goto 4, 3) := by decide +kernel
theorem dX10_judge_22 : decode cX10_judge 22 = .ok (.iconst 0, 1) := by decide +kernel
theorem dX10_judge_23 : decode cX10_judge 23 = .ok (.iastore, 1) := by decide +kernel
theorem dX10_judge_24 : decode cX10_judge 24 = .ok (.aload_n 0, 1) := by decide +kernel
theorem dX10_judge_25 : decode cX10_judge 25 = .ok (.getfield 7, 3) := by decide +kernel
theorem dX10_judge_28 : decode cX10_judge 28 = .ok (.bipush 20, 2) := by decide +kernel
theorem dX10_judge_30 : decode cX10_judge 30 = .ok (.iload_n 1, 1) := by decide +kernel
theorem dX10_judge_31 : decode cX10_judge 31 = .ok (.ifCond .eq 7, 3) := by decide +kernel
theorem dX10_judge_34 : decode cX10_judge 34 = .ok (.iconst 0, 1) := by decide +kernel
theorem dX10_judge_35 : decode cX10_judge 35 = .ok (.goto 12, 3) := by decide +kernel
theorem dX10_judge_38 : decode cX10_judge 38 = .ok (.aload_n 0, 1) := by decide +kernel
theorem dX10_judge_39 : decode cX10_judge 39 = .ok (.getfield 7, 3) := by decide +kernel
theorem dX10_judge_42 : decode cX10_judge 42 = .ok (.bipush 20, 2) := by decide +kernel
theorem dX10_judge_44 : decode cX10_judge 44 = .ok (.iaload, 1) := by decide +kernel
theorem dX10_judge_45 : decode cX10_judge 45 = .ok (.iconst 1, 1) := by decide +kernel
theorem dX10_judge_46 : decode cX10_judge 46 = .ok (.iadd, 1) := by decide +kernel
theorem dX10_judge_47 : decode cX10_judge 47 = .ok (.iastore, 1) := by decide +kernel
theorem dX10_judge_48 : decode cX10_judge 48 = .ok (.aload_n 0, 1) := by decide +kernel
theorem dX10_judge_49 : decode cX10_judge 49 = .ok (.getfield 7, 3) := by decide +kernel
theorem dX10_judge_52 : decode cX10_judge 52 = .ok (.bipush 9, 2) := by decide +kernel
theorem dX10_judge_54 : decode cX10_judge 54 = .ok (.iaload, 1) := by decide +kernel
theorem dX10_judge_55 : decode cX10_judge 55 = .ok (.iconst 1, 1) := by decide +kernel
theorem dX10_judge_56 : decode cX10_judge 56 = .ok (.if_icmp .eq 42, 3) := by decide +kernel
theorem dX10_judge_59 : decode cX10_judge 59 = .ok (.iload_n 2, 1) := by decide +kernel
theorem dX10_judge_60 : decode cX10_judge 60 = .ok (.ifCond .eq 38, 3) := by decide +kernel
theorem dX10_judge_63 : decode cX10_judge 63 = .ok (.aload_n 0, 1) := by decide +kernel
theorem dX10_judge_64 : decode cX10_judge 64 = .ok (.getfield 7, 3) := by decide +kernel
theorem dX10_judge_67 : decode cX10_judge 67 = .ok (.bipush 19, 2) := by decide +kernel
theorem dX10_judge_69 : decode cX10_judge 69 = .ok (.iaload, 1) := by decide +kernel
theorem dX10_judge_70 : decode cX10_judge 70 = .ok (.aload_n 0, 1) := by decide +kernel
theorem dX10_judge_71 : decode cX10_judge 71 = .ok (.getfield 7, 3) := by decide +kernel
theorem dX10_judge_74 : decode cX10_judge 74 = .ok (.iconst 5, 1) := by decide +kernel
theorem dX10_judge_75 : decode cX10_judge 75 = .ok (.iaload, 1) := by decide +kernel
theorem dX10_judge_76 : decode cX10_judge 76 = .ok (.if_icmp .lt 22, 3) := by decide +kernel
theorem dX10_judge_79 : decode cX10_judge 79 = .ok (.aload_n 0, 1) := by decide +kernel
theorem dX10_judge_80 : decode cX10_judge 80 = .ok (.getfield 7, 3) := by decide +kernel
theorem dX10_judge_83 : decode cX10_judge 83 = .ok (.bipush 9, 2) := by decide +kernel
theorem dX10_judge_85 : decode cX10_judge 85 = .ok (.iconst 1, 1) := by decide +kernel
theorem dX10_judge_86 : decode cX10_judge 86 = .ok (.iastore, 1) := by decide +kernel
theorem dX10_judge_87 : decode cX10_judge 87 = .ok (.aload_n 0, 1) := by decide +kernel
theorem dX10_judge_88 : decode cX10_judge 88 = .ok (.getfield 7, 3) := by decide +kernel
theorem dX10_judge_91 : decode cX10_judge 91 = .ok (.bipush 16, 2) := by decide +kernel
theorem dX10_judge_93 : decode cX10_judge 93 = .ok (.dup2, 1) := by decide +kernel
theorem dX10_judge_94 : decode cX10_judge 94 = .ok (.iaload, 1) := by decide +kernel
theorem dX10_judge_95 : decode cX10_judge 95 = .ok (.iconst 1, 1) := by decide +kernel
theorem dX10_judge_96 : decode cX10_judge 96 = .ok (.iadd, 1) := by decide +kernel
theorem dX10_judge_97 : decode cX10_judge 97 = .ok (.iastore, 1) := by decide +kernel
theorem dX10_judge_98 : decode cX10_judge 98 = .ok (.aload_n 0, 1) := by decide +kernel
theorem dX10_judge_99 : decode cX10_judge 99 = .ok (.getfield 7, 3) := by decide +kernel
theorem dX10_judge_102 : decode cX10_judge 102 = .ok (.bipush 9, 2) := by decide +kernel
theorem dX10_judge_104 : decode cX10_judge 104 = .ok (.iaload, 1) := by decide +kernel
theorem dX10_judge_105 : decode cX10_judge 105 = .ok (.ifCond .eq 24, 3) := by decide +kernel
theorem dX10_judge_108 : decode cX10_judge 108 = .ok (.aload_n 0, 1) := by decide +kernel
theorem dX10_judge_109 : decode cX10_judge 109 = .ok (.getfield 7, 3) := by decide +kernel
theorem dX10_judge_112 : decode cX10_judge 112 = .ok (.bipush 20, 2) := by decide +kernel
theorem dX10_judge_114 : decode cX10_judge 114 = .ok (.iaload, 1) := by decide +kernel
theorem dX10_judge_115 : decode cX10_judge 115 = .ok (.aload_n 0, 1) := by decide +kernel
theorem dX10_judge_116 : decode cX10_judge 116 = .ok (.getfield 7, 3) := by decide +kernel
theorem dX10_judge_119 : decode cX10_judge 119 = .ok (.bipush 6, 2) := by decide +kernel
theorem dX10_judge_121 : decode cX10_judge 121 = .ok (.iaload, 1) := by decide +kernel
theorem dX10_judge_122 : decode cX10_judge 122 = .ok (.if_icmp .lt 7, 3) := by decide +kernel
theorem dX10_judge_125 : decode cX10_judge 125 = .ok (.aload_n 0, 1) := by decide +kernel
theorem dX10_judge_126 : decode cX10_judge 126 = .ok (.invokevirtual 49, 3) := by decide +kernel
theorem dX10_judge_129 : decode cX10_judge 129 = .ok (.return_, 1) := by decide +kernel
set_option maxRecDepth 20000 in
theorem ggX10_begin_X10_ofB : GoodIn wsX10_begin wsX10_ofB := goodIn_r _ [6, 1, 23, 24, 25, 26, 27, 28, 29, 30, 31, 32, 33, 34, 35, 36, 37, 38, 39, 40] (by decide +kernel) (by decide +kernel)
set_option maxRecDepth 20000 in
theorem gX10_begin_X10_ofB : GoodIn wsX10_begin (wsV RX10 52 RX10 yX10_ofB wsX10_ofB) := goodIn_app (goodIn_of _ (by decide +kernel)) ggX10_begin_X10_ofB
set_option maxRecDepth 20000 in
theorem ggX10_begin_X10_strike : GoodIn wsX10_begin wsX10_strike := goodIn_r _ [10, 1, 23, 24, 25, 26, 27, 28, 29, 30, 31, 32, 33, 34, 35, 36, 37, 38, 39, 40] (by decide +kernel) (by decide +kernel)
set_option maxRecDepth 20000 in
theorem gX10_begin_X10_strike : GoodIn wsX10_begin (wsV RX10 56 RX10 yX10_strike wsX10_strike) := goodIn_app (goodIn_of _ (by decide +kernel)) ggX10_begin_X10_strike
set_option maxRecDepth 20000 in
theorem ggX10_begin_X10_become : GoodIn wsX10_begin wsX10_become := goodIn_r _ [14, 15, 16, 17, 5, 18, 1, 23, 24, 25, 26, 27, 28, 29, 30, 31, 32, 33, 34, 35, 36, 37, 38, 39, 40] (by decide +kernel) (by decide +kernel)
set_option maxRecDepth 20000 in
theorem gX10_begin_X10_become : GoodIn wsX10_begin (wsV RX10 59 RX10 yX10_become wsX10_become) := goodIn_app (goodIn_of _ (by decide +kernel)) ggX10_begin_X10_become
set_option maxRecDepth 20000 in
theorem ggX10_begin_X10_endBlow : GoodIn wsX10_begin wsX10_endBlow := goodIn_r _ [22, 1, 23, 24, 25, 26, 27, 28, 29, 30, 31, 32, 33, 34, 35, 36, 37, 38, 39, 40] (by decide +kernel) (by decide +kernel)
set_option maxRecDepth 20000 in
theorem gX10_begin_X10_endBlow : GoodIn wsX10_begin (wsV RX10 63 RX10 yX10_endBlow wsX10_endBlow) := goodIn_app (goodIn_of _ (by decide +kernel)) ggX10_begin_X10_endBlow
theorem dX10_begin_0 : decode cX10_begin 0 = .ok (.aload_n 0, 1) := by decide +kernel
theorem dX10_begin_1 : decode cX10_begin 1 = .ok (.iconst 4, 1) := by decide +kernel
theorem dX10_begin_2 : decode cX10_begin 2 = .ok (.aload_n 0, 1) := by decide +kernel
theorem dX10_begin_3 : decode cX10_begin 3 = .ok (.iload_n 1, 1) := by decide +kernel
theorem dX10_begin_4 : decode cX10_begin 4 = .ok (.iconst 0, 1) := by decide +kernel
theorem dX10_begin_5 : decode cX10_begin 5 = .ok (.invokevirtual 52, 3) := by decide +kernel
theorem dX10_begin_8 : decode cX10_begin 8 = .ok (.imul, 1) := by decide +kernel
theorem dX10_begin_9 : decode cX10_begin 9 = .ok (.iload_n 1, 1) := by decide +kernel
theorem dX10_begin_10 : decode cX10_begin 10 = .ok (.invokevirtual 56, 3) := by decide +kernel
theorem dX10_begin_13 : decode cX10_begin 13 = .ok (.istore_n 2, 1) := by decide +kernel
theorem dX10_begin_14 : decode cX10_begin 14 = .ok (.aload_n 0, 1) := by decide +kernel
theorem dX10_begin_15 : decode cX10_begin 15 = .ok (.getfield 7, 3) := by decide +kernel
theorem dX10_begin_18 : decode cX10_begin 18 = .ok (.bipush 11, 2) := by decide +kernel
theorem dX10_begin_20 : decode cX10_begin 20 = .ok (.iconst 4, 1) := by decide +kernel
theorem dX10_begin_21 : decode cX10_begin 21 = .ok (.aload_n 0, 1) := by decide +kernel
theorem dX10_begin_22 : decode cX10_begin 22 = .ok (.iload_n 1, 1) := by decide +kernel
theorem dX10_begin_23 : decode cX10_begin 23 = .ok (.iconst 0, 1) := by decide +kernel
theorem dX10_begin_24 : decode cX10_begin 24 = .ok (.invokevirtual 52, 3) := by decide +kernel
theorem dX10_begin_27 : decode cX10_begin 27 = .ok (.imul, 1) := by decide +kernel
theorem dX10_begin_28 : decode cX10_begin 28 = .ok (.aload_n 0, 1) := by decide +kernel
theorem dX10_begin_29 : decode cX10_begin 29 = .ok (.getfield 7, 3) := by decide +kernel
theorem dX10_begin_32 : decode cX10_begin 32 = .ok (.bipush 10, 2) := by decide +kernel
theorem dX10_begin_34 : decode cX10_begin 34 = .ok (.iaload, 1) := by decide +kernel
theorem dX10_begin_35 : decode cX10_begin 35 = .ok (.iadd, 1) := by decide +kernel
theorem dX10_begin_36 : decode cX10_begin 36 = .ok (.iastore, 1) := by decide +kernel
theorem dX10_begin_37 : decode cX10_begin 37 = .ok (.aload_n 0, 1) := by decide +kernel
theorem dX10_begin_38 : decode cX10_begin 38 = .ok (.getfield 7, 3) := by decide +kernel
theorem dX10_begin_41 : decode cX10_begin 41 = .ok (.bipush 25, 2) := by decide +kernel
theorem dX10_begin_43 : decode cX10_begin 43 = .ok (.aload_n 0, 1) := by decide +kernel
theorem dX10_begin_44 : decode cX10_begin 44 = .ok (.iload_n 1, 1) := by decide +kernel
theorem dX10_begin_45 : decode cX10_begin 45 = .ok (.iconst 1, 1) := by decide +kernel
theorem dX10_begin_46 : decode cX10_begin 46 = .ok (.invokevirtual 52, 3) := by decide +kernel
theorem dX10_begin_49 : decode cX10_begin 49 = .ok (.iload_n 2, 1) := by decide +kernel
theorem dX10_begin_50 : decode cX10_begin 50 = .ok (.isub, 1) := by decide +kernel
theorem dX10_begin_51 : decode cX10_begin 51 = .ok (.iastore, 1) := by decide +kernel
theorem dX10_begin_52 : decode cX10_begin 52 = .ok (.aload_n 0, 1) := by decide +kernel
theorem dX10_begin_53 : decode cX10_begin 53 = .ok (.iload_n 1, 1) := by decide +kernel
theorem dX10_begin_54 : decode cX10_begin 54 = .ok (.iconst 3, 1) := by decide +kernel
theorem dX10_begin_55 : decode cX10_begin 55 = .ok (.iload_n 2, 1) := by decide +kernel
theorem dX10_begin_56 : decode cX10_begin 56 = .ok (.bipush (-6), 2) := by decide +kernel
theorem dX10_begin_58 : decode cX10_begin 58 = .ok (.iconst 0, 1) := by decide +kernel
theorem dX10_begin_59 : decode cX10_begin 59 = .ok (.invokevirtual 59, 3) := by decide +kernel
theorem dX10_begin_62 : decode cX10_begin 62 = .ok (.aload_n 0, 1) := by decide +kernel
theorem dX10_begin_63 : decode cX10_begin 63 = .ok (.invokevirtual 63, 3) := by decide +kernel
theorem dX10_begin_66 : decode cX10_begin 66 = .ok (.return_, 1) := by decide +kernel
set_option maxRecDepth 20000 in
theorem ggX10_takeBeat_X10_strike : GoodIn wsX10_takeBeat wsX10_strike := goodIn_r _ [6, 1, 37, 38, 39, 40, 41, 42, 43, 44, 45, 46, 47, 48, 49, 50, 51, 52, 53, 54] (by decide +kernel) (by decide +kernel)
set_option maxRecDepth 20000 in
theorem gX10_takeBeat_X10_strike : GoodIn wsX10_takeBeat (wsV RX10 56 RX10 yX10_strike wsX10_strike) := goodIn_app (goodIn_of _ (by decide +kernel)) ggX10_takeBeat_X10_strike
set_option maxRecDepth 20000 in
theorem ggX10_takeBeat_X10_part : GoodIn wsX10_takeBeat wsX10_part := goodIn_r _ [9] (by decide +kernel) (by decide +kernel)
set_option maxRecDepth 20000 in
theorem gX10_takeBeat_X10_part : GoodIn wsX10_takeBeat (va_wsS RX10 66 yX10_part wsX10_part) := goodIn_app (goodIn_of _ (by decide +kernel)) ggX10_takeBeat_X10_part
set_option maxRecDepth 20000 in
theorem ggX10_takeBeat_X10_ofB : GoodIn wsX10_takeBeat wsX10_ofB := goodIn_r _ [13, 1, 37, 38, 39, 40, 41, 42, 43, 44, 45, 46, 47, 48, 49, 50, 51, 52, 53, 54] (by decide +kernel) (by decide +kernel)
set_option maxRecDepth 20000 in
theorem gX10_takeBeat_X10_ofB : GoodIn wsX10_takeBeat (wsV RX10 52 RX10 yX10_ofB wsX10_ofB) := goodIn_app (goodIn_of _ (by decide +kernel)) ggX10_takeBeat_X10_ofB
set_option maxRecDepth 20000 in
theorem ggX10_takeBeat_X10_size : GoodIn wsX10_takeBeat wsX10_size := goodIn_r _ [16] (by decide +kernel) (by decide +kernel)
set_option maxRecDepth 20000 in
theorem gX10_takeBeat_X10_size : GoodIn wsX10_takeBeat (va_wsS RX10 69 yX10_size wsX10_size) := goodIn_app (goodIn_of _ (by decide +kernel)) ggX10_takeBeat_X10_size
set_option maxRecDepth 20000 in
theorem ggX10_takeBeat_X10_become : GoodIn wsX10_takeBeat wsX10_become := goodIn_r _ [20, 21, 22, 23, 5, 24, 1, 37, 38, 39, 40, 41, 42, 43, 44, 45, 46, 47, 48, 49, 50, 51, 52, 53, 54] (by decide +kernel) (by decide +kernel)
set_option maxRecDepth 20000 in
theorem gX10_takeBeat_X10_become : GoodIn wsX10_takeBeat (wsV RX10 59 RX10 yX10_become wsX10_become) := goodIn_app (goodIn_of _ (by decide +kernel)) ggX10_takeBeat_X10_become
set_option maxRecDepth 20000 in
theorem ggX10_takeBeat_X10_judge : GoodIn wsX10_takeBeat wsX10_judge := goodIn_r _ [28, 1, 29, 30, 31, 5, 32, 37, 38, 39, 40, 41, 42, 43, 44, 45, 46, 47, 48, 49, 50, 51, 52, 53, 54] (by decide +kernel) (by decide +kernel)
set_option maxRecDepth 20000 in
theorem gX10_takeBeat_X10_judge : GoodIn wsX10_takeBeat (wsV RX10 73 RX10 yX10_judge wsX10_judge) := goodIn_app (goodIn_of _ (by decide +kernel)) ggX10_takeBeat_X10_judge
set_option maxRecDepth 20000 in
theorem ggX10_takeBeat_X10_endBlow : GoodIn wsX10_takeBeat wsX10_endBlow := goodIn_r _ [36, 1, 37, 38, 39, 40, 41, 42, 43, 44, 45, 46, 47, 48, 49, 50, 51, 52, 53, 54] (by decide +kernel) (by decide +kernel)
set_option maxRecDepth 20000 in
theorem gX10_takeBeat_X10_endBlow : GoodIn wsX10_takeBeat (wsV RX10 63 RX10 yX10_endBlow wsX10_endBlow) := goodIn_app (goodIn_of _ (by decide +kernel)) ggX10_takeBeat_X10_endBlow
theorem dX10_takeBeat_0 : decode cX10_takeBeat 0 = .ok (.aload_n 0, 1) := by decide +kernel
theorem dX10_takeBeat_1 : decode cX10_takeBeat 1 = .ok (.aload_n 0, 1) := by decide +kernel
theorem dX10_takeBeat_2 : decode cX10_takeBeat 2 = .ok (.getfield 7, 3) := by decide +kernel
theorem dX10_takeBeat_5 : decode cX10_takeBeat 5 = .ok (.bipush 11, 2) := by decide +kernel
theorem dX10_takeBeat_7 : decode cX10_takeBeat 7 = .ok (.iaload, 1) := by decide +kernel
theorem dX10_takeBeat_8 : decode cX10_takeBeat 8 = .ok (.iload_n 1, 1) := by decide +kernel
theorem dX10_takeBeat_9 : decode cX10_takeBeat 9 = .ok (.invokevirtual 56, 3) := by decide +kernel
theorem dX10_takeBeat_12 : decode cX10_takeBeat 12 = .ok (.istore_n 3, 1) := by decide +kernel
theorem dX10_takeBeat_13 : decode cX10_takeBeat 13 = .ok (.aload_n 0, 1) := by decide +kernel
theorem dX10_takeBeat_14 : decode cX10_takeBeat 14 = .ok (.getfield 7, 3) := by decide +kernel
theorem dX10_takeBeat_17 : decode cX10_takeBeat 17 = .ok (.bipush 10, 2) := by decide +kernel
theorem dX10_takeBeat_19 : decode cX10_takeBeat 19 = .ok (.iaload, 1) := by decide +kernel
theorem dX10_takeBeat_20 : decode cX10_takeBeat 20 = .ok (.istore 4, 2) := by decide +kernel
theorem dX10_takeBeat_22 : decode cX10_takeBeat 22 = .ok (.iload 4, 2) := by decide +kernel
theorem dX10_takeBeat_24 : decode cX10_takeBeat 24 = .ok (.iload_n 2, 1) := by decide +kernel
theorem dX10_takeBeat_25 : decode cX10_takeBeat 25 = .ok (.aload_n 0, 1) := by decide +kernel
theorem dX10_takeBeat_26 : decode cX10_takeBeat 26 = .ok (.getfield 7, 3) := by decide +kernel
theorem dX10_takeBeat_29 : decode cX10_takeBeat 29 = .ok (.iconst 3, 1) := by decide +kernel
theorem dX10_takeBeat_30 : decode cX10_takeBeat 30 = .ok (.iaload, 1) := by decide +kernel
theorem dX10_takeBeat_31 : decode cX10_takeBeat 31 = .ok (.imul, 1) := by decide +kernel
theorem dX10_takeBeat_32 : decode cX10_takeBeat 32 = .ok (.bipush 16, 2) := by decide +kernel
theorem dX10_takeBeat_34 : decode cX10_takeBeat 34 = .ok (.invokestatic 66, 3) := by decide +kernel
theorem dX10_takeBeat_37 : decode cX10_takeBeat 37 = .ok (.iadd, 1) := by decide +kernel
theorem dX10_takeBeat_38 : decode cX10_takeBeat 38 = .ok (.istore 5, 2) := by decide +kernel
theorem dX10_takeBeat_40 : decode cX10_takeBeat 40 = .ok (.iload 5, 2) := by decide +kernel
theorem dX10_takeBeat_42 : decode cX10_takeBeat 42 = .ok (.iconst 2, 1) := by decide +kernel
theorem dX10_takeBeat_43 : decode cX10_takeBeat 43 = .ok (.aload_n 0, 1) := by decide +kernel
theorem dX10_takeBeat_44 : decode cX10_takeBeat 44 = .ok (.getfield 7, 3) := by decide +kernel
theorem dX10_takeBeat_47 : decode cX10_takeBeat 47 = .ok (.iconst 0, 1) := by decide +kernel
theorem dX10_takeBeat_48 : decode cX10_takeBeat 48 = .ok (.iaload, 1) := by decide +kernel
theorem dX10_takeBeat_49 : decode cX10_takeBeat 49 = .ok (.imul, 1) := by decide +kernel
theorem dX10_takeBeat_50 : decode cX10_takeBeat 50 = .ok (.if_icmp .ge 14, 3) := by decide +kernel
theorem dX10_takeBeat_53 : decode cX10_takeBeat 53 = .ok (.iconst 2, 1) := by decide +kernel
theorem dX10_takeBeat_54 : decode cX10_takeBeat 54 = .ok (.aload_n 0, 1) := by decide +kernel
theorem dX10_takeBeat_55 : decode cX10_takeBeat 55 = .ok (.getfield 7, 3) := by decide +kernel
theorem dX10_takeBeat_58 : decode cX10_takeBeat 58 = .ok (.iconst 0, 1) := by decide +kernel
theorem dX10_takeBeat_59 : decode cX10_takeBeat 59 = .ok (.iaload, 1) := by decide +kernel
theorem dX10_takeBeat_60 : decode cX10_takeBeat 60 = .ok (.imul, 1) := by decide +kernel
theorem dX10_takeBeat_61 : decode cX10_takeBeat 61 = .ok (.goto 31, 3) := by decide +kernel
theorem dX10_takeBeat_64 : decode cX10_takeBeat 64 = .ok (.iload 5, 2) := by decide +kernel
theorem dX10_takeBeat_66 : decode cX10_takeBeat 66 = .ok (.bipush 8, 2) := by decide +kernel
theorem dX10_takeBeat_68 : decode cX10_takeBeat 68 = .ok (.aload_n 0, 1) := by decide +kernel
theorem dX10_takeBeat_69 : decode cX10_takeBeat 69 = .ok (.getfield 7, 3) := by decide +kernel
theorem dX10_takeBeat_72 : decode cX10_takeBeat 72 = .ok (.iconst 0, 1) := by decide +kernel
theorem dX10_takeBeat_73 : decode cX10_takeBeat 73 = .ok (.iaload, 1) := by decide +kernel
theorem dX10_takeBeat_74 : decode cX10_takeBeat 74 = .ok (.imul, 1) := by decide +kernel
theorem dX10_takeBeat_75 : decode cX10_takeBeat 75 = .ok (.if_icmp .le 15, 3) := by decide +kernel
theorem dX10_takeBeat_78 : decode cX10_takeBeat 78 = .ok (.bipush 8, 2) := by decide +kernel
theorem dX10_takeBeat_80 : decode cX10_takeBeat 80 = .ok (.aload_n 0, 1) := by decide +kernel
theorem dX10_takeBeat_81 : decode cX10_takeBeat 81 = .ok (.getfield 7, 3) := by decide +kernel
theorem dX10_takeBeat_84 : decode cX10_takeBeat 84 = .ok (.iconst 0, 1) := by decide +kernel
theorem dX10_takeBeat_85 : decode cX10_takeBeat 85 = .ok (.iaload, 1) := by decide +kernel
theorem dX10_takeBeat_86 : decode cX10_takeBeat 86 = .ok (.imul, 1) := by decide +kernel
theorem dX10_takeBeat_87 : decode cX10_takeBeat 87 = .ok (.goto 5, 3) := by decide +kernel
theorem dX10_takeBeat_90 : decode cX10_takeBeat 90 = .ok (.iload 5, 2) := by decide +kernel
theorem dX10_takeBeat_92 : decode cX10_takeBeat 92 = .ok (.istore 5, 2) := by decide +kernel
theorem dX10_takeBeat_94 : decode cX10_takeBeat 94 = .ok (.aload_n 0, 1) := by decide +kernel
theorem dX10_takeBeat_95 : decode cX10_takeBeat 95 = .ok (.getfield 7, 3) := by decide +kernel
theorem dX10_takeBeat_98 : decode cX10_takeBeat 98 = .ok (.bipush 10, 2) := by decide +kernel
theorem dX10_takeBeat_100 : decode cX10_takeBeat 100 = .ok (.iload 5, 2) := by decide +kernel
theorem dX10_takeBeat_102 : decode cX10_takeBeat 102 = .ok (.iastore, 1) := by decide +kernel
theorem dX10_takeBeat_103 : decode cX10_takeBeat 103 = .ok (.aload_n 0, 1) := by decide +kernel
theorem dX10_takeBeat_104 : decode cX10_takeBeat 104 = .ok (.getfield 7, 3) := by decide +kernel
theorem dX10_takeBeat_107 : decode cX10_takeBeat 107 = .ok (.bipush 11, 2) := by decide +kernel
theorem dX10_takeBeat_109 : decode cX10_takeBeat 109 = .ok (.dup2, 1) := by decide +kernel
theorem dX10_takeBeat_110 : decode cX10_takeBeat 110 = .ok (.iaload, 1) := by decide +kernel
theorem dX10_takeBeat_111 : decode cX10_takeBeat 111 = .ok (.iload_n 2, 1) := by decide +kernel
theorem dX10_takeBeat_112 : decode cX10_takeBeat 112 = .ok (.aload_n 0, 1) := by decide +kernel
theorem dX10_takeBeat_113 : decode cX10_takeBeat 113 = .ok (.getfield 7, 3) := by decide +kernel
theorem dX10_takeBeat_116 : decode cX10_takeBeat 116 = .ok (.iconst 2, 1) := by decide +kernel
theorem dX10_takeBeat_117 : decode cX10_takeBeat 117 = .ok (.iaload, 1) := by decide +kernel
theorem dX10_takeBeat_118 : decode cX10_takeBeat 118 = .ok (.imul, 1) := by decide +kernel
theorem dX10_takeBeat_119 : decode cX10_takeBeat 119 = .ok (.bipush 16, 2) := by decide +kernel
theorem dX10_takeBeat_121 : decode cX10_takeBeat 121 = .ok (.invokestatic 66, 3) := by decide +kernel
theorem dX10_takeBeat_124 : decode cX10_takeBeat 124 = .ok (.iload 5, 2) := by decide +kernel
theorem dX10_takeBeat_126 : decode cX10_takeBeat 126 = .ok (.iadd, 1) := by decide +kernel
theorem dX10_takeBeat_127 : decode cX10_takeBeat 127 = .ok (.iadd, 1) := by decide +kernel
theorem dX10_takeBeat_128 : decode cX10_takeBeat 128 = .ok (.iastore, 1) := by decide +kernel
theorem dX10_takeBeat_129 : decode cX10_takeBeat 129 = .ok (.aload_n 0, 1) := by decide +kernel
theorem dX10_takeBeat_130 : decode cX10_takeBeat 130 = .ok (.getfield 7, 3) := by decide +kernel
theorem dX10_takeBeat_133 : decode cX10_takeBeat 133 = .ok (.bipush 21, 2) := by decide +kernel
theorem dX10_takeBeat_135 : decode cX10_takeBeat 135 = .ok (.iconst 0, 1) := by decide +kernel
theorem dX10_takeBeat_136 : decode cX10_takeBeat 136 = .ok (.iastore, 1) := by decide +kernel
theorem dX10_takeBeat_137 : decode cX10_takeBeat 137 = .ok (.aload_n 0, 1) := by decide +kernel
theorem dX10_takeBeat_138 : decode cX10_takeBeat 138 = .ok (.iload_n 1, 1) := by decide +kernel
theorem dX10_takeBeat_139 : decode cX10_takeBeat 139 = .ok (.iconst 1, 1) := by decide +kernel
theorem dX10_takeBeat_140 : decode cX10_takeBeat 140 = .ok (.invokevirtual 52, 3) := by decide +kernel
theorem dX10_takeBeat_143 : decode cX10_takeBeat 143 = .ok (.iload_n 3, 1) := by decide +kernel
theorem dX10_takeBeat_144 : decode cX10_takeBeat 144 = .ok (.isub, 1) := by decide +kernel
theorem dX10_takeBeat_145 : decode cX10_takeBeat 145 = .ok (.istore 6, 2) := by decide +kernel
theorem dX10_takeBeat_147 : decode cX10_takeBeat 147 = .ok (.iload 6, 2) := by decide +kernel
theorem dX10_takeBeat_149 : decode cX10_takeBeat 149 = .ok (.aload_n 0, 1) := by decide +kernel
theorem dX10_takeBeat_150 : decode cX10_takeBeat 150 = .ok (.getfield 7, 3) := by decide +kernel
theorem dX10_takeBeat_153 : decode cX10_takeBeat 153 = .ok (.bipush 25, 2) := by decide +kernel
theorem dX10_takeBeat_155 : decode cX10_takeBeat 155 = .ok (.iaload, 1) := by decide +kernel
theorem dX10_takeBeat_156 : decode cX10_takeBeat 156 = .ok (.isub, 1) := by decide +kernel
theorem dX10_takeBeat_157 : decode cX10_takeBeat 157 = .ok (.istore 7, 2) := by decide +kernel
theorem dX10_takeBeat_159 : decode cX10_takeBeat 159 = .ok (.aload_n 0, 1) := by decide +kernel
theorem dX10_takeBeat_160 : decode cX10_takeBeat 160 = .ok (.getfield 7, 3) := by decide +kernel
theorem dX10_takeBeat_163 : decode cX10_takeBeat 163 = .ok (.bipush 25, 2) := by decide +kernel
theorem dX10_takeBeat_165 : decode cX10_takeBeat 165 = .ok (.iload 6, 2) := by decide +kernel
theorem dX10_takeBeat_167 : decode cX10_takeBeat 167 = .ok (.iastore, 1) := by decide +kernel
theorem dX10_takeBeat_168 : decode cX10_takeBeat 168 = .ok (.aload_n 0, 1) := by decide +kernel
theorem dX10_takeBeat_169 : decode cX10_takeBeat 169 = .ok (.getfield 7, 3) := by decide +kernel
theorem dX10_takeBeat_172 : decode cX10_takeBeat 172 = .ok (.bipush 18, 2) := by decide +kernel
theorem dX10_takeBeat_174 : decode cX10_takeBeat 174 = .ok (.dup2, 1) := by decide +kernel
theorem dX10_takeBeat_175 : decode cX10_takeBeat 175 = .ok (.iaload, 1) := by decide +kernel
theorem dX10_takeBeat_176 : decode cX10_takeBeat 176 = .ok (.iload 7, 2) := by decide +kernel
theorem dX10_takeBeat_178 : decode cX10_takeBeat 178 = .ok (.ifCond .ne 7, 3) := by decide +kernel
theorem dX10_takeBeat_181 : decode cX10_takeBeat 181 = .ok (.iconst 0, 1) := by decide +kernel
theorem dX10_takeBeat_182 : decode cX10_takeBeat 182 = .ok (.goto 4, 3) := by decide +kernel
theorem dX10_takeBeat_185 : decode cX10_takeBeat 185 = .ok (.iconst 1, 1) := by decide +kernel
theorem dX10_takeBeat_186 : decode cX10_takeBeat 186 = .ok (.iadd, 1) := by decide +kernel
theorem dX10_takeBeat_187 : decode cX10_takeBeat 187 = .ok (.iastore, 1) := by decide +kernel
theorem dX10_takeBeat_188 : decode cX10_takeBeat 188 = .ok (.aload_n 0, 1) := by decide +kernel
theorem dX10_takeBeat_189 : decode cX10_takeBeat 189 = .ok (.getfield 7, 3) := by decide +kernel
theorem dX10_takeBeat_192 : decode cX10_takeBeat 192 = .ok (.bipush 24, 2) := by decide +kernel
theorem dX10_takeBeat_194 : decode cX10_takeBeat 194 = .ok (.dup2, 1) := by decide +kernel
theorem dX10_takeBeat_195 : decode cX10_takeBeat 195 = .ok (.iaload, 1) := by decide +kernel
theorem dX10_takeBeat_196 : decode cX10_takeBeat 196 = .ok (.iload 7, 2) := by decide +kernel
theorem dX10_takeBeat_198 : decode cX10_takeBeat 198 = .ok (.iadd, 1) := by decide +kernel
theorem dX10_takeBeat_199 : decode cX10_takeBeat 199 = .ok (.iastore, 1) := by decide +kernel
theorem dX10_takeBeat_200 : decode cX10_takeBeat 200 = .ok (.aload_n 0, 1) := by decide +kernel
theorem dX10_takeBeat_201 : decode cX10_takeBeat 201 = .ok (.getfield 7, 3) := by decide +kernel
theorem dX10_takeBeat_204 : decode cX10_takeBeat 204 = .ok (.bipush 26, 2) := by decide +kernel
theorem dX10_takeBeat_206 : decode cX10_takeBeat 206 = .ok (.dup2, 1) := by decide +kernel
theorem dX10_takeBeat_207 : decode cX10_takeBeat 207 = .ok (.iaload, 1) := by decide +kernel
theorem dX10_takeBeat_208 : decode cX10_takeBeat 208 = .ok (.iload_n 2, 1) := by decide +kernel
theorem dX10_takeBeat_209 : decode cX10_takeBeat 209 = .ok (.invokestatic 69, 3) := by decide +kernel
theorem dX10_takeBeat_212 : decode cX10_takeBeat 212 = .ok (.iadd, 1) := by decide +kernel
theorem dX10_takeBeat_213 : decode cX10_takeBeat 213 = .ok (.iastore, 1) := by decide +kernel
theorem dX10_takeBeat_214 : decode cX10_takeBeat 214 = .ok (.aload_n 0, 1) := by decide +kernel
theorem dX10_takeBeat_215 : decode cX10_takeBeat 215 = .ok (.iload_n 1, 1) := by decide +kernel
theorem dX10_takeBeat_216 : decode cX10_takeBeat 216 = .ok (.iconst 2, 1) := by decide +kernel
theorem dX10_takeBeat_217 : decode cX10_takeBeat 217 = .ok (.iload_n 3, 1) := by decide +kernel
theorem dX10_takeBeat_218 : decode cX10_takeBeat 218 = .ok (.iload_n 2, 1) := by decide +kernel
theorem dX10_takeBeat_219 : decode cX10_takeBeat 219 = .ok (.iload 7, 2) := by decide +kernel
theorem dX10_takeBeat_221 : decode cX10_takeBeat 221 = .ok (.invokevirtual 59, 3) := by decide +kernel
theorem dX10_takeBeat_224 : decode cX10_takeBeat 224 = .ok (.aload_n 0, 1) := by decide +kernel
theorem dX10_takeBeat_225 : decode cX10_takeBeat 225 = .ok (.iload_n 2, 1) := by decide +kernel
theorem dX10_takeBeat_226 : decode cX10_takeBeat 226 = .ok (.invokestatic 69, 3) := by decide +kernel
theorem dX10_takeBeat_229 : decode cX10_takeBeat 229 = .ok (.iload 4, 2) := by decide +kernel
theorem dX10_takeBeat_231 : decode cX10_takeBeat 231 = .ok (.aload_n 0, 1) := by decide +kernel
theorem dX10_takeBeat_232 : decode cX10_takeBeat 232 = .ok (.getfield 7, 3) := by decide +kernel
theorem dX10_takeBeat_235 : decode cX10_takeBeat 235 = .ok (.iconst 4, 1) := by decide +kernel
theorem dX10_takeBeat_236 : decode cX10_takeBeat 236 = .ok (.iaload, 1) := by decide +kernel
theorem dX10_takeBeat_237 : decode cX10_takeBeat 237 = .ok (.imul, 1) := by decide +kernel
theorem dX10_takeBeat_238 : decode cX10_takeBeat 238 = .ok (.bipush 100, 2) := by decide +kernel
theorem dX10_takeBeat_240 : decode cX10_takeBeat 240 = .ok (.idiv, 1) := by decide +kernel
theorem dX10_takeBeat_241 : decode cX10_takeBeat 241 = .ok (.if_icmp .gt 7, 3) := by decide +kernel
theorem dX10_takeBeat_244 : decode cX10_takeBeat 244 = .ok (.iconst 1, 1) := by decide +kernel
theorem dX10_takeBeat_245 : decode cX10_takeBeat 245 = .ok (.goto 4, 3) := by decide +kernel
theorem dX10_takeBeat_248 : decode cX10_takeBeat 248 = .ok (.iconst 0, 1) := by decide +kernel
theorem dX10_takeBeat_249 : decode cX10_takeBeat 249 = .ok (.iconst 1, 1) := by decide +kernel
theorem dX10_takeBeat_250 : decode cX10_takeBeat 250 = .ok (.invokevirtual 73, 3) := by decide +kernel
theorem dX10_takeBeat_253 : decode cX10_takeBeat 253 = .ok (.aload_n 0, 1) := by decide +kernel
theorem dX10_takeBeat_254 : decode cX10_takeBeat 254 = .ok (.invokevirtual 63, 3) := by decide +kernel
theorem dX10_takeBeat_257 : decode cX10_takeBeat 257 = .ok (.return_, 1) := by decide +kernel
set_option maxRecDepth 20000 in
theorem ggX10_hear_X10_begin : GoodIn wsX10_hear wsX10_begin := goodIn_r _ [7, 1, 8, 9, 10, 6, 11, 12, 13, 14, 15, 16, 17, 18, 19, 20, 21, 22, 23, 24, 25, 26, 27, 50, 51, 52, 53, 54, 55, 56, 57, 58, 59, 60, 61, 62, 63, 64, 65, 66, 67] (by decide +kernel) (by decide +kernel)
set_option maxRecDepth 20000 in
theorem gX10_hear_X10_begin : GoodIn wsX10_hear (wsV RX10 77 RX10 yX10_begin wsX10_begin) := goodIn_app (goodIn_of _ (by decide +kernel)) ggX10_hear_X10_begin
set_option maxRecDepth 20000 in
theorem ggX10_hear_X10_ofB : GoodIn wsX10_hear wsX10_ofB := goodIn_r _ [11, 1, 50, 51, 52, 53, 54, 55, 56, 57, 58, 59, 60, 61, 62, 63, 64, 65, 66, 67] (by decide +kernel) (by decide +kernel)
set_option maxRecDepth 20000 in
theorem gX10_hear_X10_ofB : GoodIn wsX10_hear (wsV RX10 52 RX10 yX10_ofB wsX10_ofB) := goodIn_app (goodIn_of _ (by decide +kernel)) ggX10_hear_X10_ofB
set_option maxRecDepth 20000 in
theorem ggX10_hear_X10_halfWindow : GoodIn wsX10_hear wsX10_halfWindow := goodIn_r _ [31, 1, 50, 51, 52, 53, 54, 55, 56, 57, 58, 59, 60, 61, 62, 63, 64, 65, 66, 67] (by decide +kernel) (by decide +kernel)
set_option maxRecDepth 20000 in
theorem gX10_hear_X10_halfWindow : GoodIn wsX10_hear (wsV RX10 81 RX10 yX10_halfWindow wsX10_halfWindow) := goodIn_app (goodIn_of _ (by decide +kernel)) ggX10_hear_X10_halfWindow
set_option maxRecDepth 20000 in
theorem ggX10_hear_X10_become : GoodIn wsX10_hear wsX10_become := goodIn_r _ [19, 20, 21, 22, 6, 23, 1, 50, 51, 52, 53, 54, 55, 56, 57, 58, 59, 60, 61, 62, 63, 64, 65, 66, 67] (by decide +kernel) (by decide +kernel)
set_option maxRecDepth 20000 in
theorem gX10_hear_X10_become : GoodIn wsX10_hear (wsV RX10 59 RX10 yX10_become wsX10_become) := goodIn_app (goodIn_of _ (by decide +kernel)) ggX10_hear_X10_become
set_option maxRecDepth 20000 in
theorem ggX10_hear_X10_judge : GoodIn wsX10_hear wsX10_judge := goodIn_r _ [35, 1, 36, 37, 38, 6, 39, 50, 51, 52, 53, 54, 55, 56, 57, 58, 59, 60, 61, 62, 63, 64, 65, 66, 67] (by decide +kernel) (by decide +kernel)
set_option maxRecDepth 20000 in
theorem gX10_hear_X10_judge : GoodIn wsX10_hear (wsV RX10 73 RX10 yX10_judge wsX10_judge) := goodIn_app (goodIn_of _ (by decide +kernel)) ggX10_hear_X10_judge
set_option maxRecDepth 20000 in
theorem ggX10_hear_X10_takeBeat : GoodIn wsX10_hear wsX10_takeBeat := goodIn_r _ [43, 1, 12, 13, 14, 6, 15, 44, 45, 46, 8, 9, 10, 11, 47, 48, 49, 16, 17, 18, 19, 20, 21, 22, 23, 32, 33, 34, 35, 36, 37, 38, 39, 24, 25, 26, 27, 50, 51, 52, 53, 54, 55, 56, 57, 58, 59, 60, 61, 62, 63, 64, 65, 66, 67] (by decide +kernel) (by decide +kernel)
set_option maxRecDepth 20000 in
theorem gX10_hear_X10_takeBeat : GoodIn wsX10_hear (wsV RX10 85 RX10 yX10_takeBeat wsX10_takeBeat) := goodIn_app (goodIn_of _ (by decide +kernel)) ggX10_hear_X10_takeBeat
theorem dX10_hear_0 : decode cX10_hear 0 = .ok (.aload_n 0, 1) := by decide +kernel
theorem dX10_hear_1 : decode cX10_hear 1 = .ok (.getfield 7, 3) := by decide +kernel
theorem dX10_hear_4 : decode cX10_hear 4 = .ok (.bipush 14, 2) := by decide +kernel
theorem dX10_hear_6 : decode cX10_hear 6 = .ok (.iaload, 1) := by decide +kernel
theorem dX10_hear_7 : decode cX10_hear 7 = .ok (.istore_n 1, 1) := by decide +kernel
theorem dX10_hear_8 : decode cX10_hear 8 = .ok (.aload_n 0, 1) := by decide +kernel
theorem dX10_hear_9 : decode cX10_hear 9 = .ok (.getfield 7, 3) := by decide +kernel
theorem dX10_hear_12 : decode cX10_hear 12 = .ok (.bipush 14, 2) := by decide +kernel
theorem dX10_hear_14 : decode cX10_hear 14 = .ok (.dup2, 1) := by decide +kernel
theorem dX10_hear_15 : decode cX10_hear 15 = .ok (.iaload, 1) := by decide +kernel
theorem dX10_hear_16 : decode cX10_hear 16 = .ok (.iconst 1, 1) := by decide +kernel
theorem dX10_hear_17 : decode cX10_hear 17 = .ok (.iadd, 1) := by decide +kernel
theorem dX10_hear_18 : decode cX10_hear 18 = .ok (.iastore, 1) := by decide +kernel
theorem dX10_hear_19 : decode cX10_hear 19 = .ok (.iload_n 1, 1) := by decide +kernel
theorem dX10_hear_20 : decode cX10_hear 20 = .ok (.aload_n 0, 1) := by decide +kernel
theorem dX10_hear_21 : decode cX10_hear 21 = .ok (.getfield 26, 3) := by decide +kernel
theorem dX10_hear_24 : decode cX10_hear 24 = .ok (.if_icmp .ne 4, 3) := by decide +kernel
theorem dX10_hear_27 : decode cX10_hear 27 = .ok (.return_, 1) := by decide +kernel
theorem dX10_hear_28 : decode cX10_hear 28 = .ok (.aload_n 0, 1) := by decide +kernel
theorem dX10_hear_29 : decode cX10_hear 29 = .ok (.getfield 7, 3) := by decide +kernel
theorem dX10_hear_32 : decode cX10_hear 32 = .ok (.bipush 27, 2) := by decide +kernel
theorem dX10_hear_34 : decode cX10_hear 34 = .ok (.dup2, 1) := by decide +kernel
theorem dX10_hear_35 : decode cX10_hear 35 = .ok (.iaload, 1) := by decide +kernel
theorem dX10_hear_36 : decode cX10_hear 36 = .ok (.aload_n 0, 1) := by decide +kernel
theorem dX10_hear_37 : decode cX10_hear 37 = .ok (.getfield 7, 3) := by decide +kernel
theorem dX10_hear_40 : decode cX10_hear 40 = .ok (.bipush 9, 2) := by decide +kernel
theorem dX10_hear_42 : decode cX10_hear 42 = .ok (.iaload, 1) := by decide +kernel
theorem dX10_hear_43 : decode cX10_hear 43 = .ok (.iconst 1, 1) := by decide +kernel
theorem dX10_hear_44 : decode cX10_hear 44 = .ok (.if_icmp .ne 7, 3) := by decide +kernel
theorem dX10_hear_47 : decode cX10_hear 47 = .ok (.iconst 1, 1) := by decide +kernel
theorem dX10_hear_48 : decode cX10_hear 48 = .ok (.goto 4, 3) := by decide +kernel
theorem dX10_hear_51 : decode cX10_hear 51 = .ok (.iconst 0, 1) := by decide +kernel
theorem dX10_hear_52 : decode cX10_hear 52 = .ok (.iadd, 1) := by decide +kernel
theorem dX10_hear_53 : decode cX10_hear 53 = .ok (.iastore, 1) := by decide +kernel
theorem dX10_hear_54 : decode cX10_hear 54 = .ok (.aload_n 0, 1) := by decide +kernel
theorem dX10_hear_55 : decode cX10_hear 55 = .ok (.getfield 7, 3) := by decide +kernel
theorem dX10_hear_58 : decode cX10_hear 58 = .ok (.bipush 11, 2) := by decide +kernel
theorem dX10_hear_60 : decode cX10_hear 60 = .ok (.iaload, 1) := by decide +kernel
theorem dX10_hear_61 : decode cX10_hear 61 = .ok (.ifCond .ge 9, 3) := by decide +kernel
theorem dX10_hear_64 : decode cX10_hear 64 = .ok (.aload_n 0, 1) := by decide +kernel
theorem dX10_hear_65 : decode cX10_hear 65 = .ok (.iload_n 1, 1) := by decide +kernel
theorem dX10_hear_66 : decode cX10_hear 66 = .ok (.invokevirtual 77, 3) := by decide +kernel
theorem dX10_hear_69 : decode cX10_hear 69 = .ok (.return_, 1) := by decide +kernel
theorem dX10_hear_70 : decode cX10_hear 70 = .ok (.iconst 4, 1) := by decide +kernel
theorem dX10_hear_71 : decode cX10_hear 71 = .ok (.aload_n 0, 1) := by decide +kernel
theorem dX10_hear_72 : decode cX10_hear 72 = .ok (.iload_n 1, 1) := by decide +kernel
theorem dX10_hear_73 : decode cX10_hear 73 = .ok (.iconst 0, 1) := by decide +kernel
theorem dX10_hear_74 : decode cX10_hear 74 = .ok (.invokevirtual 52, 3) := by decide +kernel
theorem dX10_hear_77 : decode cX10_hear 77 = .ok (.imul, 1) := by decide +kernel
theorem dX10_hear_78 : decode cX10_hear 78 = .ok (.aload_n 0, 1) := by decide +kernel
theorem dX10_hear_79 : decode cX10_hear 79 = .ok (.getfield 7, 3) := by decide +kernel
theorem dX10_hear_82 : decode cX10_hear 82 = .ok (.bipush 11, 2) := by decide +kernel
theorem dX10_hear_84 : decode cX10_hear 84 = .ok (.iaload, 1) := by decide +kernel
theorem dX10_hear_85 : decode cX10_hear 85 = .ok (.isub, 1) := by decide +kernel
theorem dX10_hear_86 : decode cX10_hear 86 = .ok (.istore_n 2, 1) := by decide +kernel
theorem dX10_hear_87 : decode cX10_hear 87 = .ok (.iload_n 2, 1) := by decide +kernel
theorem dX10_hear_88 : decode cX10_hear 88 = .ok (.aload_n 0, 1) := by decide +kernel
theorem dX10_hear_89 : decode cX10_hear 89 = .ok (.invokevirtual 81, 3) := by decide +kernel
theorem dX10_hear_92 : decode cX10_hear 92 = .ok (.ineg, 1) := by decide +kernel
theorem dX10_hear_93 : decode cX10_hear 93 = .ok (.if_icmp .ge 34, 3) := by decide +kernel
theorem dX10_hear_96 : decode cX10_hear 96 = .ok (.aload_n 0, 1) := by decide +kernel
theorem dX10_hear_97 : decode cX10_hear 97 = .ok (.iload_n 1, 1) := by decide +kernel
theorem dX10_hear_98 : decode cX10_hear 98 = .ok (.iconst 1, 1) := by decide +kernel
theorem dX10_hear_99 : decode cX10_hear 99 = .ok (.bipush (-6), 2) := by decide +kernel
theorem dX10_hear_101 : decode cX10_hear 101 = .ok (.iload_n 2, 1) := by decide +kernel
theorem dX10_hear_102 : decode cX10_hear 102 = .ok (.bipush (-6), 2) := by decide +kernel
theorem dX10_hear_104 : decode cX10_hear 104 = .ok (.invokevirtual 59, 3) := by decide +kernel
theorem dX10_hear_107 : decode cX10_hear 107 = .ok (.aload_n 0, 1) := by decide +kernel
theorem dX10_hear_108 : decode cX10_hear 108 = .ok (.getfield 7, 3) := by decide +kernel
theorem dX10_hear_111 : decode cX10_hear 111 = .ok (.bipush 15, 2) := by decide +kernel
theorem dX10_hear_113 : decode cX10_hear 113 = .ok (.dup2, 1) := by decide +kernel
theorem dX10_hear_114 : decode cX10_hear 114 = .ok (.iaload, 1) := by decide +kernel
theorem dX10_hear_115 : decode cX10_hear 115 = .ok (.iconst 1, 1) := by decide +kernel
theorem dX10_hear_116 : decode cX10_hear 116 = .ok (.iadd, 1) := by decide +kernel
theorem dX10_hear_117 : decode cX10_hear 117 = .ok (.iastore, 1) := by decide +kernel
theorem dX10_hear_118 : decode cX10_hear 118 = .ok (.aload_n 0, 1) := by decide +kernel
theorem dX10_hear_119 : decode cX10_hear 119 = .ok (.iconst 0, 1) := by decide +kernel
theorem dX10_hear_120 : decode cX10_hear 120 = .ok (.iconst 0, 1) := by decide +kernel
theorem dX10_hear_121 : decode cX10_hear 121 = .ok (.invokevirtual 73, 3) := by decide +kernel
theorem dX10_hear_124 : decode cX10_hear 124 = .ok (.goto 9, 3) := by decide +kernel
theorem dX10_hear_127 : decode cX10_hear 127 = .ok (.aload_n 0, 1) := by decide +kernel
theorem dX10_hear_128 : decode cX10_hear 128 = .ok (.iload_n 1, 1) := by decide +kernel
theorem dX10_hear_129 : decode cX10_hear 129 = .ok (.iload_n 2, 1) := by decide +kernel
theorem dX10_hear_130 : decode cX10_hear 130 = .ok (.invokevirtual 85, 3) := by decide +kernel
theorem dX10_hear_133 : decode cX10_hear 133 = .ok (.return_, 1) := by decide +kernel
set_option maxRecDepth 20000 in
theorem ggX10_holdOn_X10_strike : GoodIn wsX10_holdOn wsX10_strike := goodIn_r _ [6, 1, 19, 20, 21, 22, 23, 24, 25, 26, 27, 28, 29, 30, 31, 32, 33, 34, 35, 36] (by decide +kernel) (by decide +kernel)
set_option maxRecDepth 20000 in
theorem gX10_holdOn_X10_strike : GoodIn wsX10_holdOn (wsV RX10 56 RX10 yX10_strike wsX10_strike) := goodIn_app (goodIn_of _ (by decide +kernel)) ggX10_holdOn_X10_strike
set_option maxRecDepth 20000 in
theorem ggX10_holdOn_X10_judge : GoodIn wsX10_holdOn wsX10_judge := goodIn_r _ [10, 1, 11, 12, 13, 5, 14, 19, 20, 21, 22, 23, 24, 25, 26, 27, 28, 29, 30, 31, 32, 33, 34, 35, 36] (by decide +kernel) (by decide +kernel)
set_option maxRecDepth 20000 in
theorem gX10_holdOn_X10_judge : GoodIn wsX10_holdOn (wsV RX10 73 RX10 yX10_judge wsX10_judge) := goodIn_app (goodIn_of _ (by decide +kernel)) ggX10_holdOn_X10_judge
set_option maxRecDepth 20000 in
theorem ggX10_holdOn_X10_endBlow : GoodIn wsX10_holdOn wsX10_endBlow := goodIn_r _ [18, 1, 19, 20, 21, 22, 23, 24, 25, 26, 27, 28, 29, 30, 31, 32, 33, 34, 35, 36] (by decide +kernel) (by decide +kernel)
set_option maxRecDepth 20000 in
theorem gX10_holdOn_X10_endBlow : GoodIn wsX10_holdOn (wsV RX10 63 RX10 yX10_endBlow wsX10_endBlow) := goodIn_app (goodIn_of _ (by decide +kernel)) ggX10_holdOn_X10_endBlow
theorem dX10_holdOn_0 : decode cX10_holdOn 0 = .ok (.aload_n 0, 1) := by decide +kernel
theorem dX10_holdOn_1 : decode cX10_holdOn 1 = .ok (.aload_n 0, 1) := by decide +kernel
theorem dX10_holdOn_2 : decode cX10_holdOn 2 = .ok (.getfield 7, 3) := by decide +kernel
theorem dX10_holdOn_5 : decode cX10_holdOn 5 = .ok (.bipush 11, 2) := by decide +kernel
theorem dX10_holdOn_7 : decode cX10_holdOn 7 = .ok (.iaload, 1) := by decide +kernel
theorem dX10_holdOn_8 : decode cX10_holdOn 8 = .ok (.bipush (-6), 2) := by decide +kernel
theorem dX10_holdOn_10 : decode cX10_holdOn 10 = .ok (.invokevirtual 56, 3) := by decide +kernel
theorem dX10_holdOn_13 : decode cX10_holdOn 13 = .ok (.pop, 1) := by decide +kernel
theorem dX10_holdOn_14 : decode cX10_holdOn 14 = .ok (.aload_n 0, 1) := by decide +kernel
theorem dX10_holdOn_15 : decode cX10_holdOn 15 = .ok (.getfield 7, 3) := by decide +kernel
theorem dX10_holdOn_18 : decode cX10_holdOn 18 = .ok (.bipush 11, 2) := by decide +kernel
theorem dX10_holdOn_20 : decode cX10_holdOn 20 = .ok (.dup2, 1) := by decide +kernel
theorem dX10_holdOn_21 : decode cX10_holdOn 21 = .ok (.iaload, 1) := by decide +kernel
theorem dX10_holdOn_22 : decode cX10_holdOn 22 = .ok (.aload_n 0, 1) := by decide +kernel
theorem dX10_holdOn_23 : decode cX10_holdOn 23 = .ok (.getfield 7, 3) := by decide +kernel
theorem dX10_holdOn_26 : decode cX10_holdOn 26 = .ok (.bipush 10, 2) := by decide +kernel
theorem dX10_holdOn_28 : decode cX10_holdOn 28 = .ok (.iaload, 1) := by decide +kernel
theorem dX10_holdOn_29 : decode cX10_holdOn 29 = .ok (.iadd, 1) := by decide +kernel
theorem dX10_holdOn_30 : decode cX10_holdOn 30 = .ok (.iastore, 1) := by decide +kernel
theorem dX10_holdOn_31 : decode cX10_holdOn 31 = .ok (.aload_n 0, 1) := by decide +kernel
theorem dX10_holdOn_32 : decode cX10_holdOn 32 = .ok (.getfield 7, 3) := by decide +kernel
theorem dX10_holdOn_35 : decode cX10_holdOn 35 = .ok (.bipush 13, 2) := by decide +kernel
theorem dX10_holdOn_37 : decode cX10_holdOn 37 = .ok (.dup2, 1) := by decide +kernel
theorem dX10_holdOn_38 : decode cX10_holdOn 38 = .ok (.iaload, 1) := by decide +kernel
theorem dX10_holdOn_39 : decode cX10_holdOn 39 = .ok (.iconst 1, 1) := by decide +kernel
theorem dX10_holdOn_40 : decode cX10_holdOn 40 = .ok (.iadd, 1) := by decide +kernel
theorem dX10_holdOn_41 : decode cX10_holdOn 41 = .ok (.iastore, 1) := by decide +kernel
theorem dX10_holdOn_42 : decode cX10_holdOn 42 = .ok (.aload_n 0, 1) := by decide +kernel
theorem dX10_holdOn_43 : decode cX10_holdOn 43 = .ok (.getfield 7, 3) := by decide +kernel
theorem dX10_holdOn_46 : decode cX10_holdOn 46 = .ok (.bipush 21, 2) := by decide +kernel
theorem dX10_holdOn_48 : decode cX10_holdOn 48 = .ok (.dup2, 1) := by decide +kernel
theorem dX10_holdOn_49 : decode cX10_holdOn 49 = .ok (.iaload, 1) := by decide +kernel
theorem dX10_holdOn_50 : decode cX10_holdOn 50 = .ok (.iconst 1, 1) := by decide +kernel
theorem dX10_holdOn_51 : decode cX10_holdOn 51 = .ok (.iadd, 1) := by decide +kernel
theorem dX10_holdOn_52 : decode cX10_holdOn 52 = .ok (.iastore, 1) := by decide +kernel
theorem dX10_holdOn_53 : decode cX10_holdOn 53 = .ok (.aload_n 0, 1) := by decide +kernel
theorem dX10_holdOn_54 : decode cX10_holdOn 54 = .ok (.getfield 7, 3) := by decide +kernel
theorem dX10_holdOn_57 : decode cX10_holdOn 57 = .ok (.bipush 9, 2) := by decide +kernel
theorem dX10_holdOn_59 : decode cX10_holdOn 59 = .ok (.aload_n 0, 1) := by decide +kernel
theorem dX10_holdOn_60 : decode cX10_holdOn 60 = .ok (.getfield 7, 3) := by decide +kernel
theorem dX10_holdOn_63 : decode cX10_holdOn 63 = .ok (.bipush 9, 2) := by decide +kernel
theorem dX10_holdOn_65 : decode cX10_holdOn 65 = .ok (.iaload, 1) := by decide +kernel
theorem dX10_holdOn_66 : decode cX10_holdOn 66 = .ok (.iconst 1, 1) := by decide +kernel
theorem dX10_holdOn_67 : decode cX10_holdOn 67 = .ok (.if_icmp .ne 7, 3) := by decide +kernel
theorem dX10_holdOn_70 : decode cX10_holdOn 70 = .ok (.iconst 2, 1) := by decide +kernel
theorem dX10_holdOn_71 : decode cX10_holdOn 71 = .ok (.goto 10, 3) := by decide +kernel
theorem dX10_holdOn_74 : decode cX10_holdOn 74 = .ok (.aload_n 0, 1) := by decide +kernel
theorem dX10_holdOn_75 : decode cX10_holdOn 75 = .ok (.getfield 7, 3) := by decide +kernel
theorem dX10_holdOn_78 : decode cX10_holdOn 78 = .ok (.bipush 9, 2) := by decide +kernel
theorem dX10_holdOn_80 : decode cX10_holdOn 80 = .ok (.iaload, 1) := by decide +kernel
theorem dX10_holdOn_81 : decode cX10_holdOn 81 = .ok (.iastore, 1) := by decide +kernel
theorem dX10_holdOn_82 : decode cX10_holdOn 82 = .ok (.aload_n 0, 1) := by decide +kernel
theorem dX10_holdOn_83 : decode cX10_holdOn 83 = .ok (.iconst 0, 1) := by decide +kernel
theorem dX10_holdOn_84 : decode cX10_holdOn 84 = .ok (.iconst 0, 1) := by decide +kernel
theorem dX10_holdOn_85 : decode cX10_holdOn 85 = .ok (.invokevirtual 73, 3) := by decide +kernel
theorem dX10_holdOn_88 : decode cX10_holdOn 88 = .ok (.aload_n 0, 1) := by decide +kernel
theorem dX10_holdOn_89 : decode cX10_holdOn 89 = .ok (.getfield 7, 3) := by decide +kernel
theorem dX10_holdOn_92 : decode cX10_holdOn 92 = .ok (.bipush 21, 2) := by decide +kernel
theorem dX10_holdOn_94 : decode cX10_holdOn 94 = .ok (.iaload, 1) := by decide +kernel
theorem dX10_holdOn_95 : decode cX10_holdOn 95 = .ok (.aload_n 0, 1) := by decide +kernel
theorem dX10_holdOn_96 : decode cX10_holdOn 96 = .ok (.getfield 7, 3) := by decide +kernel
theorem dX10_holdOn_99 : decode cX10_holdOn 99 = .ok (.bipush 7, 2) := by decide +kernel
theorem dX10_holdOn_101 : decode cX10_holdOn 101 = .ok (.iaload, 1) := by decide +kernel
theorem dX10_holdOn_102 : decode cX10_holdOn 102 = .ok (.if_icmp .lt 80, 3) := by decide +kernel
theorem dX10_holdOn_105 : decode cX10_holdOn 105 = .ok (.aload_n 0, 1) := by decide +kernel
theorem dX10_holdOn_106 : decode cX10_holdOn 106 = .ok (.getfield 7, 3) := by decide +kernel
theorem dX10_holdOn_109 : decode cX10_holdOn 109 = .ok (.bipush 23, 2) := by decide +kernel
theorem dX10_holdOn_111 : decode cX10_holdOn 111 = .ok (.dup2, 1) := by decide +kernel
theorem dX10_holdOn_112 : decode cX10_holdOn 112 = .ok (.iaload, 1) := by decide +kernel
theorem dX10_holdOn_113 : decode cX10_holdOn 113 = .ok (.iconst 1, 1) := by decide +kernel
theorem dX10_holdOn_114 : decode cX10_holdOn 114 = .ok (.iadd, 1) := by decide +kernel
theorem dX10_holdOn_115 : decode cX10_holdOn 115 = .ok (.iastore, 1) := by decide +kernel
theorem dX10_holdOn_116 : decode cX10_holdOn 116 = .ok (.aload_n 0, 1) := by decide +kernel
theorem dX10_holdOn_117 : decode cX10_holdOn 117 = .ok (.getfield 7, 3) := by decide +kernel
theorem dX10_holdOn_120 : decode cX10_holdOn 120 = .ok (.bipush 17, 2) := by decide +kernel
theorem dX10_holdOn_122 : decode cX10_holdOn 122 = .ok (.dup2, 1) := by decide +kernel
theorem dX10_holdOn_123 : decode cX10_holdOn 123 = .ok (.iaload, 1) := by decide +kernel
theorem dX10_holdOn_124 : decode cX10_holdOn 124 = .ok (.aload_n 0, 1) := by decide +kernel
theorem dX10_holdOn_125 : decode cX10_holdOn 125 = .ok (.getfield 7, 3) := by decide +kernel
theorem dX10_holdOn_128 : decode cX10_holdOn 128 = .ok (.bipush 9, 2) := by decide +kernel
theorem dX10_holdOn_130 : decode cX10_holdOn 130 = .ok (.iaload, 1) := by decide +kernel
theorem dX10_holdOn_131 : decode cX10_holdOn 131 = .ok (.ifCond .ne 7, 3) := by decide +kernel
theorem dX10_holdOn_134 : decode cX10_holdOn 134 = .ok (.iconst 0, 1) := by decide +kernel
theorem dX10_holdOn_135 : decode cX10_holdOn 135 = .ok (.goto 4, 3) := by decide +kernel
theorem dX10_holdOn_138 : decode cX10_holdOn 138 = .ok (.iconst 1, 1) := by decide +kernel
theorem dX10_holdOn_139 : decode cX10_holdOn 139 = .ok (.iadd, 1) := by decide +kernel
theorem dX10_holdOn_140 : decode cX10_holdOn 140 = .ok (.iastore, 1) := by decide +kernel
theorem dX10_holdOn_141 : decode cX10_holdOn 141 = .ok (.aload_n 0, 1) := by decide +kernel
theorem dX10_holdOn_142 : decode cX10_holdOn 142 = .ok (.getfield 7, 3) := by decide +kernel
theorem dX10_holdOn_145 : decode cX10_holdOn 145 = .ok (.bipush 9, 2) := by decide +kernel
theorem dX10_holdOn_147 : decode cX10_holdOn 147 = .ok (.iconst 0, 1) := by decide +kernel
theorem dX10_holdOn_148 : decode cX10_holdOn 148 = .ok (.iastore, 1) := by decide +kernel
theorem dX10_holdOn_149 : decode cX10_holdOn 149 = .ok (.aload_n 0, 1) := by decide +kernel
theorem dX10_holdOn_150 : decode cX10_holdOn 150 = .ok (.getfield 7, 3) := by decide +kernel
theorem dX10_holdOn_153 : decode cX10_holdOn 153 = .ok (.bipush 19, 2) := by decide +kernel
theorem dX10_holdOn_155 : decode cX10_holdOn 155 = .ok (.iconst 0, 1) := by decide +kernel
theorem dX10_holdOn_156 : decode cX10_holdOn 156 = .ok (.iastore, 1) := by decide +kernel
theorem dX10_holdOn_157 : decode cX10_holdOn 157 = .ok (.aload_n 0, 1) := by decide +kernel
theorem dX10_holdOn_158 : decode cX10_holdOn 158 = .ok (.getfield 7, 3) := by decide +kernel
theorem dX10_holdOn_161 : decode cX10_holdOn 161 = .ok (.bipush 20, 2) := by decide +kernel
theorem dX10_holdOn_163 : decode cX10_holdOn 163 = .ok (.iconst 0, 1) := by decide +kernel
theorem dX10_holdOn_164 : decode cX10_holdOn 164 = .ok (.iastore, 1) := by decide +kernel
theorem dX10_holdOn_165 : decode cX10_holdOn 165 = .ok (.aload_n 0, 1) := by decide +kernel
theorem dX10_holdOn_166 : decode cX10_holdOn 166 = .ok (.getfield 7, 3) := by decide +kernel
theorem dX10_holdOn_169 : decode cX10_holdOn 169 = .ok (.bipush 21, 2) := by decide +kernel
theorem dX10_holdOn_171 : decode cX10_holdOn 171 = .ok (.iconst 0, 1) := by decide +kernel
theorem dX10_holdOn_172 : decode cX10_holdOn 172 = .ok (.iastore, 1) := by decide +kernel
theorem dX10_holdOn_173 : decode cX10_holdOn 173 = .ok (.aload_n 0, 1) := by decide +kernel
theorem dX10_holdOn_174 : decode cX10_holdOn 174 = .ok (.getfield 7, 3) := by decide +kernel
theorem dX10_holdOn_177 : decode cX10_holdOn 177 = .ok (.bipush 11, 2) := by decide +kernel
theorem dX10_holdOn_179 : decode cX10_holdOn 179 = .ok (.bipush (-6), 2) := by decide +kernel
theorem dX10_holdOn_181 : decode cX10_holdOn 181 = .ok (.iastore, 1) := by decide +kernel
theorem dX10_holdOn_182 : decode cX10_holdOn 182 = .ok (.aload_n 0, 1) := by decide +kernel
theorem dX10_holdOn_183 : decode cX10_holdOn 183 = .ok (.invokevirtual 63, 3) := by decide +kernel
theorem dX10_holdOn_186 : decode cX10_holdOn 186 = .ok (.return_, 1) := by decide +kernel
set_option maxRecDepth 20000 in
theorem ggX10_holdUpTo_X10_halfWindow : GoodIn wsX10_holdUpTo wsX10_halfWindow := goodIn_r _ [6, 1, 27, 28, 29, 30, 31, 32, 33, 34, 35, 36, 37, 38, 39, 40, 41, 42, 43, 44] (by decide +kernel) (by decide +kernel)
set_option maxRecDepth 20000 in
theorem gX10_holdUpTo_X10_halfWindow : GoodIn wsX10_holdUpTo (wsV RX10 81 RX10 yX10_halfWindow wsX10_halfWindow) := goodIn_app (goodIn_of _ (by decide +kernel)) ggX10_holdUpTo_X10_halfWindow
set_option maxRecDepth 20000 in
theorem ggX10_holdUpTo_X10_holdOn : GoodIn wsX10_holdUpTo wsX10_holdOn := goodIn_r _ [10, 1, 11, 12, 13, 5, 14, 15, 16, 17, 18, 19, 20, 21, 22, 23, 24, 25, 26, 27, 28, 29, 30, 31, 32, 33, 34, 35, 36, 37, 38, 39, 40, 41, 42, 43, 44] (by decide +kernel) (by decide +kernel)
set_option maxRecDepth 20000 in
theorem gX10_holdUpTo_X10_holdOn : GoodIn wsX10_holdUpTo (wsV RX10 89 RX10 yX10_holdOn wsX10_holdOn) := goodIn_app (goodIn_of _ (by decide +kernel)) ggX10_holdUpTo_X10_holdOn
theorem dX10_holdUpTo_0 : decode cX10_holdUpTo 0 = .ok (.aload_n 0, 1) := by decide +kernel
theorem dX10_holdUpTo_1 : decode cX10_holdUpTo 1 = .ok (.getfield 7, 3) := by decide +kernel
theorem dX10_holdUpTo_4 : decode cX10_holdUpTo 4 = .ok (.bipush 11, 2) := by decide +kernel
theorem dX10_holdUpTo_6 : decode cX10_holdUpTo 6 = .ok (.iaload, 1) := by decide +kernel
theorem dX10_holdUpTo_7 : decode cX10_holdUpTo 7 = .ok (.ifCond .lt 28, 3) := by decide +kernel
theorem dX10_holdUpTo_10 : decode cX10_holdUpTo 10 = .ok (.aload_n 0, 1) := by decide +kernel
theorem dX10_holdUpTo_11 : decode cX10_holdUpTo 11 = .ok (.getfield 7, 3) := by decide +kernel
theorem dX10_holdUpTo_14 : decode cX10_holdUpTo 14 = .ok (.bipush 11, 2) := by decide +kernel
theorem dX10_holdUpTo_16 : decode cX10_holdUpTo 16 = .ok (.iaload, 1) := by decide +kernel
theorem dX10_holdUpTo_17 : decode cX10_holdUpTo 17 = .ok (.aload_n 0, 1) := by decide +kernel
theorem dX10_holdUpTo_18 : decode cX10_holdUpTo 18 = .ok (.invokevirtual 81, 3) := by decide +kernel
theorem dX10_holdUpTo_21 : decode cX10_holdUpTo 21 = .ok (.iadd, 1) := by decide +kernel
theorem dX10_holdUpTo_22 : decode cX10_holdUpTo 22 = .ok (.iconst 1, 1) := by decide +kernel
theorem dX10_holdUpTo_23 : decode cX10_holdUpTo 23 = .ok (.iadd, 1) := by decide +kernel
theorem dX10_holdUpTo_24 : decode cX10_holdUpTo 24 = .ok (.iload_n 1, 1) := by decide +kernel
theorem dX10_holdUpTo_25 : decode cX10_holdUpTo 25 = .ok (.if_icmp .gt 10, 3) := by decide +kernel
theorem dX10_holdUpTo_28 : decode cX10_holdUpTo 28 = .ok (.aload_n 0, 1) := by decide +kernel
theorem dX10_holdUpTo_29 : decode cX10_holdUpTo 29 = .ok (.invokevirtual 89, 3) := by decide +kernel
theorem dX10_holdUpTo_32 : decode cX10_holdUpTo 32 = .ok (.goto (-32), 3) := by decide +kernel
theorem dX10_holdUpTo_35 : decode cX10_holdUpTo 35 = .ok (.return_, 1) := by decide +kernel
set_option maxRecDepth 20000 in
theorem ggX10_happenUpTo_X10_ofB : GoodIn wsX10_happenUpTo wsX10_ofB := goodIn_r _ [7, 1, 62, 63, 64, 65, 66, 67, 68, 69, 70, 71, 72, 73, 74, 75, 76, 77, 78, 79] (by decide +kernel) (by decide +kernel)
set_option maxRecDepth 20000 in
theorem gX10_happenUpTo_X10_ofB : GoodIn wsX10_happenUpTo (wsV RX10 52 RX10 yX10_ofB wsX10_ofB) := goodIn_app (goodIn_of _ (by decide +kernel)) ggX10_happenUpTo_X10_ofB
set_option maxRecDepth 20000 in
theorem ggX10_happenUpTo_X10_holdUpTo : GoodIn wsX10_happenUpTo wsX10_holdUpTo := goodIn_r _ [11, 1, 12, 13, 14, 6, 15, 16, 17, 18, 19, 20, 21, 22, 23, 24, 25, 26, 27, 28, 29, 30, 31, 32, 33, 34, 35, 62, 63, 64, 65, 66, 67, 68, 69, 70, 71, 72, 73, 74, 75, 76, 77, 78, 79] (by decide +kernel) (by decide +kernel)
set_option maxRecDepth 20000 in
theorem gX10_happenUpTo_X10_holdUpTo : GoodIn wsX10_happenUpTo (wsV RX10 92 RX10 yX10_holdUpTo wsX10_holdUpTo) := goodIn_app (goodIn_of _ (by decide +kernel)) ggX10_happenUpTo_X10_holdUpTo
set_option maxRecDepth 20000 in
theorem ggX10_happenUpTo_X10_hear : GoodIn wsX10_happenUpTo wsX10_hear := goodIn_r _ [39, 1, 2, 40, 41, 42, 6, 43, 3, 4, 5, 7, 20, 21, 22, 23, 44, 45, 46, 47, 48, 49, 50, 51, 32, 33, 34, 35, 12, 13, 14, 15, 24, 25, 26, 27, 28, 29, 30, 31, 52, 53, 54, 55, 56, 57, 58, 59, 60, 61, 62, 63, 64, 65, 66, 67, 68, 69, 70, 71, 72, 73, 74, 75, 76, 77, 78, 79] (by decide +kernel) (by decide +kernel)
set_option maxRecDepth 20000 in
theorem gX10_happenUpTo_X10_hear : GoodIn wsX10_happenUpTo (wsV RX10 95 RX10 yX10_hear wsX10_hear) := goodIn_app (goodIn_of _ (by decide +kernel)) ggX10_happenUpTo_X10_hear
theorem dX10_happenUpTo_0 : decode cX10_happenUpTo 0 = .ok (.aload_n 0, 1) := by decide +kernel
theorem dX10_happenUpTo_1 : decode cX10_happenUpTo 1 = .ok (.getfield 7, 3) := by decide +kernel
theorem dX10_happenUpTo_4 : decode cX10_happenUpTo 4 = .ok (.bipush 14, 2) := by decide +kernel
theorem dX10_happenUpTo_6 : decode cX10_happenUpTo 6 = .ok (.iaload, 1) := by decide +kernel
theorem dX10_happenUpTo_7 : decode cX10_happenUpTo 7 = .ok (.aload_n 0, 1) := by decide +kernel
theorem dX10_happenUpTo_8 : decode cX10_happenUpTo 8 = .ok (.getfield 7, 3) := by decide +kernel
theorem dX10_happenUpTo_11 : decode cX10_happenUpTo 11 = .ok (.bipush 22, 2) := by decide +kernel
theorem dX10_happenUpTo_13 : decode cX10_happenUpTo 13 = .ok (.iaload, 1) := by decide +kernel
theorem dX10_happenUpTo_14 : decode cX10_happenUpTo 14 = .ok (.if_icmp .ge 65, 3) := by decide +kernel
theorem dX10_happenUpTo_17 : decode cX10_happenUpTo 17 = .ok (.iconst 4, 1) := by decide +kernel
theorem dX10_happenUpTo_18 : decode cX10_happenUpTo 18 = .ok (.aload_n 0, 1) := by decide +kernel
theorem dX10_happenUpTo_19 : decode cX10_happenUpTo 19 = .ok (.aload_n 0, 1) := by decide +kernel
theorem dX10_happenUpTo_20 : decode cX10_happenUpTo 20 = .ok (.getfield 7, 3) := by decide +kernel
theorem dX10_happenUpTo_23 : decode cX10_happenUpTo 23 = .ok (.bipush 14, 2) := by decide +kernel
theorem dX10_happenUpTo_25 : decode cX10_happenUpTo 25 = .ok (.iaload, 1) := by decide +kernel
theorem dX10_happenUpTo_26 : decode cX10_happenUpTo 26 = .ok (.iconst 0, 1) := by decide +kernel
theorem dX10_happenUpTo_27 : decode cX10_happenUpTo 27 = .ok (.invokevirtual 52, 3) := by decide +kernel
theorem dX10_happenUpTo_30 : decode cX10_happenUpTo 30 = .ok (.imul, 1) := by decide +kernel
theorem dX10_happenUpTo_31 : decode cX10_happenUpTo 31 = .ok (.iload_n 1, 1) := by decide +kernel
theorem dX10_happenUpTo_32 : decode cX10_happenUpTo 32 = .ok (.if_icmp .gt 47, 3) := by decide +kernel
theorem dX10_happenUpTo_35 : decode cX10_happenUpTo 35 = .ok (.aload_n 0, 1) := by decide +kernel
theorem dX10_happenUpTo_36 : decode cX10_happenUpTo 36 = .ok (.aload_n 0, 1) := by decide +kernel
theorem dX10_happenUpTo_37 : decode cX10_happenUpTo 37 = .ok (.getfield 7, 3) := by decide +kernel
theorem dX10_happenUpTo_40 : decode cX10_happenUpTo 40 = .ok (.bipush 14, 2) := by decide +kernel
theorem dX10_happenUpTo_42 : decode cX10_happenUpTo 42 = .ok (.iaload, 1) := by decide +kernel
theorem dX10_happenUpTo_43 : decode cX10_happenUpTo 43 = .ok (.aload_n 0, 1) := by decide +kernel
theorem dX10_happenUpTo_44 : decode cX10_happenUpTo 44 = .ok (.getfield 26, 3) := by decide +kernel
theorem dX10_happenUpTo_47 : decode cX10_happenUpTo 47 = .ok (.if_icmp .ne 8, 3) := by decide +kernel
theorem dX10_happenUpTo_50 : decode cX10_happenUpTo 50 = .ok (.bipush (-6), 2) := by decide +kernel
theorem dX10_happenUpTo_52 : decode cX10_happenUpTo 52 = .ok (.goto 17, 3) := by decide +kernel
theorem dX10_happenUpTo_55 : decode cX10_happenUpTo 55 = .ok (.iconst 4, 1) := by decide +kernel
theorem dX10_happenUpTo_56 : decode cX10_happenUpTo 56 = .ok (.aload_n 0, 1) := by decide +kernel
theorem dX10_happenUpTo_57 : decode cX10_happenUpTo 57 = .ok (.aload_n 0, 1) := by decide +kernel
theorem dX10_happenUpTo_58 : decode cX10_happenUpTo 58 = .ok (.getfield 7, 3) := by decide +kernel
theorem dX10_happenUpTo_61 : decode cX10_happenUpTo 61 = .ok (.bipush 14, 2) := by decide +kernel
theorem dX10_happenUpTo_63 : decode cX10_happenUpTo 63 = .ok (.iaload, 1) := by decide +kernel
theorem dX10_happenUpTo_64 : decode cX10_happenUpTo 64 = .ok (.iconst 0, 1) := by decide +kernel
theorem dX10_happenUpTo_65 : decode cX10_happenUpTo 65 = .ok (.invokevirtual 52, 3) := by decide +kernel
theorem dX10_happenUpTo_68 : decode cX10_happenUpTo 68 = .ok (.imul, 1) := by decide +kernel
theorem dX10_happenUpTo_69 : decode cX10_happenUpTo 69 = .ok (.invokevirtual 92, 3) := by decide +kernel
theorem dX10_happenUpTo_72 : decode cX10_happenUpTo 72 = .ok (.aload_n 0, 1) := by decide +kernel
theorem dX10_happenUpTo_73 : decode cX10_happenUpTo 73 = .ok (.invokevirtual 95, 3) := by decide +kernel
theorem dX10_happenUpTo_76 : decode cX10_happenUpTo 76 = .ok (.goto (-76), 3) := by decide +kernel
theorem dX10_happenUpTo_79 : decode cX10_happenUpTo 79 = .ok (.aload_n 0, 1) := by decide +kernel
theorem dX10_happenUpTo_80 : decode cX10_happenUpTo 80 = .ok (.iload_n 1, 1) := by decide +kernel
theorem dX10_happenUpTo_81 : decode cX10_happenUpTo 81 = .ok (.invokevirtual 92, 3) := by decide +kernel
theorem dX10_happenUpTo_84 : decode cX10_happenUpTo 84 = .ok (.return_, 1) := by decide +kernel
theorem dX10_lowest_0 : decode cX10_lowest 0 = .ok (.iload_n 0, 1) := by decide +kernel
theorem dX10_lowest_1 : decode cX10_lowest 1 = .ok (.tableswitch 54 0 7 #[47, 50, 54, 54, 54, 52, 52, 52], 47) := by decide +kernel
theorem dX10_lowest_48 : decode cX10_lowest 48 = .ok (.bipush 20, 2) := by decide +kernel
theorem dX10_lowest_50 : decode cX10_lowest 50 = .ok (.ireturn, 1) := by decide +kernel
theorem dX10_lowest_51 : decode cX10_lowest 51 = .ok (.iconst 5, 1) := by decide +kernel
theorem dX10_lowest_52 : decode cX10_lowest 52 = .ok (.ireturn, 1) := by decide +kernel
theorem dX10_lowest_53 : decode cX10_lowest 53 = .ok (.iconst 1, 1) := by decide +kernel
theorem dX10_lowest_54 : decode cX10_lowest 54 = .ok (.ireturn, 1) := by decide +kernel
theorem dX10_lowest_55 : decode cX10_lowest 55 = .ok (.iconst 0, 1) := by decide +kernel
theorem dX10_lowest_56 : decode cX10_lowest 56 = .ok (.ireturn, 1) := by decide +kernel
theorem dX10_highest_0 : decode cX10_highest 0 = .ok (.iload_n 0, 1) := by decide +kernel
theorem dX10_highest_1 : decode cX10_highest 1 = .ok (.tableswitch 63 0 7 #[47, 51, 54, 54, 57, 63, 63, 60], 47) := by decide +kernel
theorem dX10_highest_48 : decode cX10_highest 48 = .ok (.sipush 400, 3) := by decide +kernel
theorem dX10_highest_51 : decode cX10_highest 51 = .ok (.ireturn, 1) := by decide +kernel
theorem dX10_highest_52 : decode cX10_highest 52 = .ok (.bipush 50, 2) := by decide +kernel
theorem dX10_highest_54 : decode cX10_highest 54 = .ok (.ireturn, 1) := by decide +kernel
theorem dX10_highest_55 : decode cX10_highest 55 = .ok (.bipush 16, 2) := by decide +kernel
theorem dX10_highest_57 : decode cX10_highest 57 = .ok (.ireturn, 1) := by decide +kernel
theorem dX10_highest_58 : decode cX10_highest 58 = .ok (.bipush 40, 2) := by decide +kernel
theorem dX10_highest_60 : decode cX10_highest 60 = .ok (.ireturn, 1) := by decide +kernel
theorem dX10_highest_61 : decode cX10_highest 61 = .ok (.bipush 20, 2) := by decide +kernel
theorem dX10_highest_63 : decode cX10_highest 63 = .ok (.ireturn, 1) := by decide +kernel
theorem dX10_highest_64 : decode cX10_highest 64 = .ok (.bipush 8, 2) := by decide +kernel
theorem dX10_highest_66 : decode cX10_highest 66 = .ok (.ireturn, 1) := by decide +kernel
set_option maxRecDepth 20000 in
theorem ggX10_set_X10_in : GoodIn wsX10_set wsX10_in := goodIn_r _ [5] (by decide +kernel) (by decide +kernel)
set_option maxRecDepth 20000 in
theorem gX10_set_X10_in : GoodIn wsX10_set (va_wsS RX10 98 yX10_in wsX10_in) := goodIn_app (goodIn_of _ (by decide +kernel)) ggX10_set_X10_in
set_option maxRecDepth 20000 in
theorem ggX10_set_X10_lowest : GoodIn wsX10_set wsX10_lowest := goodIn_r _ [8] (by decide +kernel) (by decide +kernel)
set_option maxRecDepth 20000 in
theorem gX10_set_X10_lowest : GoodIn wsX10_set (va_wsS RX10 102 yX10_lowest wsX10_lowest) := goodIn_app (goodIn_of _ (by decide +kernel)) ggX10_set_X10_lowest
set_option maxRecDepth 20000 in
theorem ggX10_set_X10_highest : GoodIn wsX10_set wsX10_highest := goodIn_r _ [11] (by decide +kernel) (by decide +kernel)
set_option maxRecDepth 20000 in
theorem gX10_set_X10_highest : GoodIn wsX10_set (va_wsS RX10 105 yX10_highest wsX10_highest) := goodIn_app (goodIn_of _ (by decide +kernel)) ggX10_set_X10_highest
set_option maxRecDepth 20000 in
theorem ggX10_set_X10_keep : GoodIn wsX10_set wsX10_keep := goodIn_r _ [15, 16, 17, 18, 1, 19, 20, 21, 22, 23, 24, 25, 26, 27, 28, 29, 30, 31, 32, 33, 34, 35, 36] (by decide +kernel) (by decide +kernel)
set_option maxRecDepth 20000 in
theorem gX10_set_X10_keep : GoodIn wsX10_set (wsV RX10 108 RX10 yX10_keep wsX10_keep) := goodIn_app (goodIn_of _ (by decide +kernel)) ggX10_set_X10_keep
theorem dX10_set_0 : decode cX10_set 0 = .ok (.iload_n 1, 1) := by decide +kernel
theorem dX10_set_1 : decode cX10_set 1 = .ok (.iconst 0, 1) := by decide +kernel
theorem dX10_set_2 : decode cX10_set 2 = .ok (.bipush 7, 2) := by decide +kernel
theorem dX10_set_4 : decode cX10_set 4 = .ok (.invokestatic 98, 3) := by decide +kernel
theorem dX10_set_7 : decode cX10_set 7 = .ok (.ifCond .eq 18, 3) := by decide +kernel
theorem dX10_set_10 : decode cX10_set 10 = .ok (.iload_n 2, 1) := by decide +kernel
theorem dX10_set_11 : decode cX10_set 11 = .ok (.iload_n 1, 1) := by decide +kernel
theorem dX10_set_12 : decode cX10_set 12 = .ok (.invokestatic 102, 3) := by decide +kernel
theorem dX10_set_15 : decode cX10_set 15 = .ok (.iload_n 1, 1) := by decide +kernel
theorem dX10_set_16 : decode cX10_set 16 = .ok (.invokestatic 105, 3) := by decide +kernel
theorem dX10_set_19 : decode cX10_set 19 = .ok (.invokestatic 98, 3) := by decide +kernel
theorem dX10_set_22 : decode cX10_set 22 = .ok (.ifCond .ne 6, 3) := by decide +kernel
theorem dX10_set_25 : decode cX10_set 25 = .ok (.bipush (-2), 2) := by decide +kernel
theorem dX10_set_27 : decode cX10_set 27 = .ok (.ireturn, 1) := by decide +kernel
theorem dX10_set_28 : decode cX10_set 28 = .ok (.iload_n 1, 1) := by decide +kernel
theorem dX10_set_29 : decode cX10_set 29 = .ok (.ifCond .ne 16, 3) := by decide +kernel
theorem dX10_set_32 : decode cX10_set 32 = .ok (.aload_n 0, 1) := by decide +kernel
theorem dX10_set_33 : decode cX10_set 33 = .ok (.getfield 7, 3) := by decide +kernel
theorem dX10_set_36 : decode cX10_set 36 = .ok (.bipush 11, 2) := by decide +kernel
theorem dX10_set_38 : decode cX10_set 38 = .ok (.iaload, 1) := by decide +kernel
theorem dX10_set_39 : decode cX10_set 39 = .ok (.ifCond .lt 6, 3) := by decide +kernel
theorem dX10_set_42 : decode cX10_set 42 = .ok (.bipush (-5), 2) := by decide +kernel
theorem dX10_set_44 : decode cX10_set 44 = .ok (.ireturn, 1) := by decide +kernel
theorem dX10_set_45 : decode cX10_set 45 = .ok (.aload_n 0, 1) := by decide +kernel
theorem dX10_set_46 : decode cX10_set 46 = .ok (.invokevirtual 108, 3) := by decide +kernel
theorem dX10_set_49 : decode cX10_set 49 = .ok (.aload_n 0, 1) := by decide +kernel
theorem dX10_set_50 : decode cX10_set 50 = .ok (.getfield 7, 3) := by decide +kernel
theorem dX10_set_53 : decode cX10_set 53 = .ok (.iload_n 1, 1) := by decide +kernel
theorem dX10_set_54 : decode cX10_set 54 = .ok (.iaload, 1) := by decide +kernel
theorem dX10_set_55 : decode cX10_set 55 = .ok (.istore_n 3, 1) := by decide +kernel
theorem dX10_set_56 : decode cX10_set 56 = .ok (.aload_n 0, 1) := by decide +kernel
theorem dX10_set_57 : decode cX10_set 57 = .ok (.getfield 7, 3) := by decide +kernel
theorem dX10_set_60 : decode cX10_set 60 = .ok (.iload_n 1, 1) := by decide +kernel
theorem dX10_set_61 : decode cX10_set 61 = .ok (.iload_n 2, 1) := by decide +kernel
theorem dX10_set_62 : decode cX10_set 62 = .ok (.iastore, 1) := by decide +kernel
theorem dX10_set_63 : decode cX10_set 63 = .ok (.aload_n 0, 1) := by decide +kernel
theorem dX10_set_64 : decode cX10_set 64 = .ok (.getfield 7, 3) := by decide +kernel
theorem dX10_set_67 : decode cX10_set 67 = .ok (.bipush 10, 2) := by decide +kernel
theorem dX10_set_69 : decode cX10_set 69 = .ok (.iload_n 1, 1) := by decide +kernel
theorem dX10_set_70 : decode cX10_set 70 = .ok (.ifCond .ne 9, 3) := by decide +kernel
theorem dX10_set_73 : decode cX10_set 73 = .ok (.iconst 4, 1) := by decide +kernel
theorem dX10_set_74 : decode cX10_set 74 = .ok (.iload_n 2, 1) := by decide +kernel
theorem dX10_set_75 : decode cX10_set 75 = .ok (.imul, 1) := by decide +kernel
theorem dX10_set_76 : decode cX10_set 76 = .ok (.goto 10, 3) := by decide +kernel
theorem dX10_set_79 : decode cX10_set 79 = .ok (.aload_n 0, 1) := by decide +kernel
theorem dX10_set_80 : decode cX10_set 80 = .ok (.getfield 7, 3) := by decide +kernel
theorem dX10_set_83 : decode cX10_set 83 = .ok (.bipush 10, 2) := by decide +kernel
theorem dX10_set_85 : decode cX10_set 85 = .ok (.iaload, 1) := by decide +kernel
theorem dX10_set_86 : decode cX10_set 86 = .ok (.iastore, 1) := by decide +kernel
theorem dX10_set_87 : decode cX10_set 87 = .ok (.iload_n 3, 1) := by decide +kernel
theorem dX10_set_88 : decode cX10_set 88 = .ok (.ireturn, 1) := by decide +kernel
set_option maxRecDepth 20000 in
theorem ggX10_lastTime_X10_ofB : GoodIn wsX10_lastTime wsX10_ofB := goodIn_r _ [6, 1, 7, 8, 9, 10, 11, 12, 13, 14, 15, 16, 17, 18, 19, 20, 21, 22, 23, 24] (by decide +kernel) (by decide +kernel)
set_option maxRecDepth 20000 in
theorem gX10_lastTime_X10_ofB : GoodIn wsX10_lastTime (wsV RX10 52 RX10 yX10_ofB wsX10_ofB) := goodIn_app (goodIn_of _ (by decide +kernel)) ggX10_lastTime_X10_ofB
theorem dX10_lastTime_0 : decode cX10_lastTime 0 = .ok (.aload_n 0, 1) := by decide +kernel
theorem dX10_lastTime_1 : decode cX10_lastTime 1 = .ok (.getfield 7, 3) := by decide +kernel
theorem dX10_lastTime_4 : decode cX10_lastTime 4 = .ok (.bipush 22, 2) := by decide +kernel
theorem dX10_lastTime_6 : decode cX10_lastTime 6 = .ok (.iaload, 1) := by decide +kernel
theorem dX10_lastTime_7 : decode cX10_lastTime 7 = .ok (.ifCond .ne 7, 3) := by decide +kernel
theorem dX10_lastTime_10 : decode cX10_lastTime 10 = .ok (.iconst 0, 1) := by decide +kernel
theorem dX10_lastTime_11 : decode cX10_lastTime 11 = .ok (.goto 17, 3) := by decide +kernel
theorem dX10_lastTime_14 : decode cX10_lastTime 14 = .ok (.aload_n 0, 1) := by decide +kernel
theorem dX10_lastTime_15 : decode cX10_lastTime 15 = .ok (.aload_n 0, 1) := by decide +kernel
theorem dX10_lastTime_16 : decode cX10_lastTime 16 = .ok (.getfield 7, 3) := by decide +kernel
theorem dX10_lastTime_19 : decode cX10_lastTime 19 = .ok (.bipush 22, 2) := by decide +kernel
theorem dX10_lastTime_21 : decode cX10_lastTime 21 = .ok (.iaload, 1) := by decide +kernel
theorem dX10_lastTime_22 : decode cX10_lastTime 22 = .ok (.iconst 1, 1) := by decide +kernel
theorem dX10_lastTime_23 : decode cX10_lastTime 23 = .ok (.isub, 1) := by decide +kernel
theorem dX10_lastTime_24 : decode cX10_lastTime 24 = .ok (.iconst 0, 1) := by decide +kernel
theorem dX10_lastTime_25 : decode cX10_lastTime 25 = .ok (.invokevirtual 52, 3) := by decide +kernel
theorem dX10_lastTime_28 : decode cX10_lastTime 28 = .ok (.ireturn, 1) := by decide +kernel
set_option maxRecDepth 20000 in
theorem ggX10_nextTrue_X10_ofB : GoodIn wsX10_nextTrue wsX10_ofB := goodIn_r _ [6, 1, 7, 8, 9, 10, 11, 12, 13, 14, 15, 16, 17, 18, 19, 20, 21, 22, 23, 24] (by decide +kernel) (by decide +kernel)
set_option maxRecDepth 20000 in
theorem gX10_nextTrue_X10_ofB : GoodIn wsX10_nextTrue (wsV RX10 52 RX10 yX10_ofB wsX10_ofB) := goodIn_app (goodIn_of _ (by decide +kernel)) ggX10_nextTrue_X10_ofB
theorem dX10_nextTrue_0 : decode cX10_nextTrue 0 = .ok (.aload_n 0, 1) := by decide +kernel
theorem dX10_nextTrue_1 : decode cX10_nextTrue 1 = .ok (.getfield 7, 3) := by decide +kernel
theorem dX10_nextTrue_4 : decode cX10_nextTrue 4 = .ok (.bipush 22, 2) := by decide +kernel
theorem dX10_nextTrue_6 : decode cX10_nextTrue 6 = .ok (.iaload, 1) := by decide +kernel
theorem dX10_nextTrue_7 : decode cX10_nextTrue 7 = .ok (.ifCond .ne 7, 3) := by decide +kernel
theorem dX10_nextTrue_10 : decode cX10_nextTrue 10 = .ok (.iconst 0, 1) := by decide +kernel
theorem dX10_nextTrue_11 : decode cX10_nextTrue 11 = .ok (.goto 19, 3) := by decide +kernel
theorem dX10_nextTrue_14 : decode cX10_nextTrue 14 = .ok (.aload_n 0, 1) := by decide +kernel
theorem dX10_nextTrue_15 : decode cX10_nextTrue 15 = .ok (.aload_n 0, 1) := by decide +kernel
theorem dX10_nextTrue_16 : decode cX10_nextTrue 16 = .ok (.getfield 7, 3) := by decide +kernel
theorem dX10_nextTrue_19 : decode cX10_nextTrue 19 = .ok (.bipush 22, 2) := by decide +kernel
theorem dX10_nextTrue_21 : decode cX10_nextTrue 21 = .ok (.iaload, 1) := by decide +kernel
theorem dX10_nextTrue_22 : decode cX10_nextTrue 22 = .ok (.iconst 1, 1) := by decide +kernel
theorem dX10_nextTrue_23 : decode cX10_nextTrue 23 = .ok (.isub, 1) := by decide +kernel
theorem dX10_nextTrue_24 : decode cX10_nextTrue 24 = .ok (.iconst 1, 1) := by decide +kernel
theorem dX10_nextTrue_25 : decode cX10_nextTrue 25 = .ok (.invokevirtual 52, 3) := by decide +kernel
theorem dX10_nextTrue_28 : decode cX10_nextTrue 28 = .ok (.iconst 1, 1) := by decide +kernel
theorem dX10_nextTrue_29 : decode cX10_nextTrue 29 = .ok (.iadd, 1) := by decide +kernel
theorem dX10_nextTrue_30 : decode cX10_nextTrue 30 = .ok (.ireturn, 1) := by decide +kernel
set_option maxRecDepth 20000 in
theorem ggX10_addBeat_X10_layB : GoodIn wsX10_addBeat wsX10_layB := goodIn_r _ [6, 1, 11, 12, 13, 14, 15, 16, 17, 18, 19, 20, 21, 22, 23, 24, 25, 26, 27, 28] (by decide +kernel) (by decide +kernel)
set_option maxRecDepth 20000 in
theorem gX10_addBeat_X10_layB : GoodIn wsX10_addBeat (wsV RX10 45 RX10 yX10_layB wsX10_layB) := goodIn_app (goodIn_of _ (by decide +kernel)) ggX10_addBeat_X10_layB
set_option maxRecDepth 20000 in
theorem ggX10_addBeat_X10_become : GoodIn wsX10_addBeat wsX10_become := goodIn_r _ [10, 2, 3, 4, 5, 6, 1, 11, 12, 13, 14, 15, 16, 17, 18, 19, 20, 21, 22, 23, 24, 25, 26, 27, 28] (by decide +kernel) (by decide +kernel)
set_option maxRecDepth 20000 in
theorem gX10_addBeat_X10_become : GoodIn wsX10_addBeat (wsV RX10 59 RX10 yX10_become wsX10_become) := goodIn_app (goodIn_of _ (by decide +kernel)) ggX10_addBeat_X10_become
theorem dX10_addBeat_0 : decode cX10_addBeat 0 = .ok (.aload_n 0, 1) := by decide +kernel
theorem dX10_addBeat_1 : decode cX10_addBeat 1 = .ok (.getfield 7, 3) := by decide +kernel
theorem dX10_addBeat_4 : decode cX10_addBeat 4 = .ok (.bipush 22, 2) := by decide +kernel
theorem dX10_addBeat_6 : decode cX10_addBeat 6 = .ok (.iaload, 1) := by decide +kernel
theorem dX10_addBeat_7 : decode cX10_addBeat 7 = .ok (.istore_n 3, 1) := by decide +kernel
theorem dX10_addBeat_8 : decode cX10_addBeat 8 = .ok (.aload_n 0, 1) := by decide +kernel
theorem dX10_addBeat_9 : decode cX10_addBeat 9 = .ok (.iload_n 3, 1) := by decide +kernel
theorem dX10_addBeat_10 : decode cX10_addBeat 10 = .ok (.iconst 0, 1) := by decide +kernel
theorem dX10_addBeat_11 : decode cX10_addBeat 11 = .ok (.iload_n 1, 1) := by decide +kernel
theorem dX10_addBeat_12 : decode cX10_addBeat 12 = .ok (.invokevirtual 45, 3) := by decide +kernel
theorem dX10_addBeat_15 : decode cX10_addBeat 15 = .ok (.aload_n 0, 1) := by decide +kernel
theorem dX10_addBeat_16 : decode cX10_addBeat 16 = .ok (.iload_n 3, 1) := by decide +kernel
theorem dX10_addBeat_17 : decode cX10_addBeat 17 = .ok (.iconst 1, 1) := by decide +kernel
theorem dX10_addBeat_18 : decode cX10_addBeat 18 = .ok (.iload_n 2, 1) := by decide +kernel
theorem dX10_addBeat_19 : decode cX10_addBeat 19 = .ok (.invokevirtual 45, 3) := by decide +kernel
theorem dX10_addBeat_22 : decode cX10_addBeat 22 = .ok (.aload_n 0, 1) := by decide +kernel
theorem dX10_addBeat_23 : decode cX10_addBeat 23 = .ok (.iload_n 3, 1) := by decide +kernel
theorem dX10_addBeat_24 : decode cX10_addBeat 24 = .ok (.iconst 0, 1) := by decide +kernel
theorem dX10_addBeat_25 : decode cX10_addBeat 25 = .ok (.bipush (-6), 2) := by decide +kernel
theorem dX10_addBeat_27 : decode cX10_addBeat 27 = .ok (.bipush (-6), 2) := by decide +kernel
theorem dX10_addBeat_29 : decode cX10_addBeat 29 = .ok (.bipush (-6), 2) := by decide +kernel
theorem dX10_addBeat_31 : decode cX10_addBeat 31 = .ok (.invokevirtual 59, 3) := by decide +kernel
theorem dX10_addBeat_34 : decode cX10_addBeat 34 = .ok (.aload_n 0, 1) := by decide +kernel
theorem dX10_addBeat_35 : decode cX10_addBeat 35 = .ok (.getfield 7, 3) := by decide +kernel
theorem dX10_addBeat_38 : decode cX10_addBeat 38 = .ok (.bipush 22, 2) := by decide +kernel
theorem dX10_addBeat_40 : decode cX10_addBeat 40 = .ok (.dup2, 1) := by decide +kernel
theorem dX10_addBeat_41 : decode cX10_addBeat 41 = .ok (.iaload, 1) := by decide +kernel
theorem dX10_addBeat_42 : decode cX10_addBeat 42 = .ok (.iconst 1, 1) := by decide +kernel
theorem dX10_addBeat_43 : decode cX10_addBeat 43 = .ok (.iadd, 1) := by decide +kernel
theorem dX10_addBeat_44 : decode cX10_addBeat 44 = .ok (.iastore, 1) := by decide +kernel
theorem dX10_addBeat_45 : decode cX10_addBeat 45 = .ok (.return_, 1) := by decide +kernel
set_option maxRecDepth 20000 in
theorem ggX10_beat_X10_in : GoodIn wsX10_beat wsX10_in := goodIn_r _ [6] (by decide +kernel) (by decide +kernel)
set_option maxRecDepth 20000 in
theorem gX10_beat_X10_in : GoodIn wsX10_beat (va_wsS RX10 98 yX10_in wsX10_in) := goodIn_app (goodIn_of _ (by decide +kernel)) ggX10_beat_X10_in
set_option maxRecDepth 20000 in
theorem ggX10_beat_X10_lastTime : GoodIn wsX10_beat wsX10_lastTime := goodIn_r _ [10, 1, 11, 12, 13, 5, 14, 38, 39, 40, 41, 42, 43, 44, 45, 46, 47, 48, 49, 50, 51, 52, 53, 54, 55] (by decide +kernel) (by decide +kernel)
set_option maxRecDepth 20000 in
theorem gX10_beat_X10_lastTime : GoodIn wsX10_beat (wsV RX10 111 RX10 yX10_lastTime wsX10_lastTime) := goodIn_app (goodIn_of _ (by decide +kernel)) ggX10_beat_X10_lastTime
set_option maxRecDepth 20000 in
theorem ggX10_beat_X10_nextTrue : GoodIn wsX10_beat wsX10_nextTrue := goodIn_r _ [18, 1, 11, 12, 13, 5, 14, 38, 39, 40, 41, 42, 43, 44, 45, 46, 47, 48, 49, 50, 51, 52, 53, 54, 55] (by decide +kernel) (by decide +kernel)
set_option maxRecDepth 20000 in
theorem gX10_beat_X10_nextTrue : GoodIn wsX10_beat (wsV RX10 114 RX10 yX10_nextTrue wsX10_nextTrue) := goodIn_app (goodIn_of _ (by decide +kernel)) ggX10_beat_X10_nextTrue
set_option maxRecDepth 20000 in
theorem ggX10_beat_X10_keep : GoodIn wsX10_beat wsX10_keep := goodIn_r _ [22, 23, 24, 25, 1, 38, 39, 40, 41, 42, 43, 44, 45, 46, 47, 48, 49, 50, 51, 52, 53, 54, 55] (by decide +kernel) (by decide +kernel)
set_option maxRecDepth 20000 in
theorem gX10_beat_X10_keep : GoodIn wsX10_beat (wsV RX10 108 RX10 yX10_keep wsX10_keep) := goodIn_app (goodIn_of _ (by decide +kernel)) ggX10_beat_X10_keep
set_option maxRecDepth 20000 in
theorem ggX10_beat_X10_addBeat : GoodIn wsX10_beat wsX10_addBeat := goodIn_r _ [29, 1, 30, 31, 32, 5, 33, 34, 35, 36, 37, 38, 39, 40, 41, 42, 43, 44, 45, 46, 47, 48, 49, 50, 51, 52, 53, 54, 55] (by decide +kernel) (by decide +kernel)
set_option maxRecDepth 20000 in
theorem gX10_beat_X10_addBeat : GoodIn wsX10_beat (wsV RX10 118 RX10 yX10_addBeat wsX10_addBeat) := goodIn_app (goodIn_of _ (by decide +kernel)) ggX10_beat_X10_addBeat
theorem dX10_beat_0 : decode cX10_beat 0 = .ok (.iload_n 1, 1) := by decide +kernel
theorem dX10_beat_1 : decode cX10_beat 1 = .ok (.iconst 1, 1) := by decide +kernel
theorem dX10_beat_2 : decode cX10_beat 2 = .ok (.sipush 9999, 3) := by decide +kernel
theorem dX10_beat_5 : decode cX10_beat 5 = .ok (.invokestatic 98, 3) := by decide +kernel
theorem dX10_beat_8 : decode cX10_beat 8 = .ok (.ifCond .eq 13, 3) := by decide +kernel
theorem dX10_beat_11 : decode cX10_beat 11 = .ok (.iload_n 2, 1) := by decide +kernel
theorem dX10_beat_12 : decode cX10_beat 12 = .ok (.iconst 0, 1) := by decide +kernel
theorem dX10_beat_13 : decode cX10_beat 13 = .ok (.bipush 99, 2) := by decide +kernel
theorem dX10_beat_15 : decode cX10_beat 15 = .ok (.invokestatic 98, 3) := by decide +kernel
theorem dX10_beat_18 : decode cX10_beat 18 = .ok (.ifCond .ne 6, 3) := by decide +kernel
theorem dX10_beat_21 : decode cX10_beat 21 = .ok (.bipush (-2), 2) := by decide +kernel
theorem dX10_beat_23 : decode cX10_beat 23 = .ok (.ireturn, 1) := by decide +kernel
theorem dX10_beat_24 : decode cX10_beat 24 = .ok (.aload_n 0, 1) := by decide +kernel
theorem dX10_beat_25 : decode cX10_beat 25 = .ok (.invokevirtual 111, 3) := by decide +kernel
theorem dX10_beat_28 : decode cX10_beat 28 = .ok (.iload_n 1, 1) := by decide +kernel
theorem dX10_beat_29 : decode cX10_beat 29 = .ok (.iadd, 1) := by decide +kernel
theorem dX10_beat_30 : decode cX10_beat 30 = .ok (.istore_n 3, 1) := by decide +kernel
theorem dX10_beat_31 : decode cX10_beat 31 = .ok (.aload_n 0, 1) := by decide +kernel
theorem dX10_beat_32 : decode cX10_beat 32 = .ok (.invokevirtual 114, 3) := by decide +kernel
theorem dX10_beat_35 : decode cX10_beat 35 = .ok (.iload_n 2, 1) := by decide +kernel
theorem dX10_beat_36 : decode cX10_beat 36 = .ok (.iadd, 1) := by decide +kernel
theorem dX10_beat_37 : decode cX10_beat 37 = .ok (.istore 4, 2) := by decide +kernel
theorem dX10_beat_39 : decode cX10_beat 39 = .ok (.aload_n 0, 1) := by decide +kernel
theorem dX10_beat_40 : decode cX10_beat 40 = .ok (.getfield 7, 3) := by decide +kernel
theorem dX10_beat_43 : decode cX10_beat 43 = .ok (.bipush 22, 2) := by decide +kernel
theorem dX10_beat_45 : decode cX10_beat 45 = .ok (.iaload, 1) := by decide +kernel
theorem dX10_beat_46 : decode cX10_beat 46 = .ok (.bipush 64, 2) := by decide +kernel
theorem dX10_beat_48 : decode cX10_beat 48 = .ok (.if_icmp .eq 17, 3) := by decide +kernel
theorem dX10_beat_51 : decode cX10_beat 51 = .ok (.iload_n 3, 1) := by decide +kernel
theorem dX10_beat_52 : decode cX10_beat 52 = .ok (.ldc 117, 2) := by decide +kernel
theorem dX10_beat_54 : decode cX10_beat 54 = .ok (.if_icmp .gt 11, 3) := by decide +kernel
theorem dX10_beat_57 : decode cX10_beat 57 = .ok (.iload 4, 2) := by decide +kernel
theorem dX10_beat_59 : decode cX10_beat 59 = .ok (.sipush 1000, 3) := by decide +kernel
theorem dX10_beat_62 : decode cX10_beat 62 = .ok (.if_icmp .le 6, 3) := by decide +kernel
theorem dX10_beat_65 : decode cX10_beat 65 = .ok (.bipush (-4), 2) := by decide +kernel
theorem dX10_beat_67 : decode cX10_beat 67 = .ok (.ireturn, 1) := by decide +kernel
theorem dX10_beat_68 : decode cX10_beat 68 = .ok (.iload_n 3, 1) := by decide +kernel
theorem dX10_beat_69 : decode cX10_beat 69 = .ok (.aload_n 0, 1) := by decide +kernel
theorem dX10_beat_70 : decode cX10_beat 70 = .ok (.getfield 7, 3) := by decide +kernel
theorem dX10_beat_73 : decode cX10_beat 73 = .ok (.bipush 8, 2) := by decide +kernel
theorem dX10_beat_75 : decode cX10_beat 75 = .ok (.iaload, 1) := by decide +kernel
theorem dX10_beat_76 : decode cX10_beat 76 = .ok (.if_icmp .gt 6, 3) := by decide +kernel
theorem dX10_beat_79 : decode cX10_beat 79 = .ok (.bipush (-5), 2) := by decide +kernel
theorem dX10_beat_81 : decode cX10_beat 81 = .ok (.ireturn, 1) := by decide +kernel
theorem dX10_beat_82 : decode cX10_beat 82 = .ok (.aload_n 0, 1) := by decide +kernel
theorem dX10_beat_83 : decode cX10_beat 83 = .ok (.invokevirtual 108, 3) := by decide +kernel
theorem dX10_beat_86 : decode cX10_beat 86 = .ok (.aload_n 0, 1) := by decide +kernel
theorem dX10_beat_87 : decode cX10_beat 87 = .ok (.iload_n 3, 1) := by decide +kernel
theorem dX10_beat_88 : decode cX10_beat 88 = .ok (.iload 4, 2) := by decide +kernel
theorem dX10_beat_90 : decode cX10_beat 90 = .ok (.invokevirtual 118, 3) := by decide +kernel
theorem dX10_beat_93 : decode cX10_beat 93 = .ok (.aload_n 0, 1) := by decide +kernel
theorem dX10_beat_94 : decode cX10_beat 94 = .ok (.getfield 7, 3) := by decide +kernel
theorem dX10_beat_97 : decode cX10_beat 97 = .ok (.bipush 22, 2) := by decide +kernel
theorem dX10_beat_99 : decode cX10_beat 99 = .ok (.iaload, 1) := by decide +kernel
theorem dX10_beat_100 : decode cX10_beat 100 = .ok (.ireturn, 1) := by decide +kernel
set_option maxRecDepth 20000 in
theorem ggX10_cut_X10_in : GoodIn wsX10_cut wsX10_in := goodIn_r _ [5] (by decide +kernel) (by decide +kernel)
set_option maxRecDepth 20000 in
theorem gX10_cut_X10_in : GoodIn wsX10_cut (va_wsS RX10 98 yX10_in wsX10_in) := goodIn_app (goodIn_of _ (by decide +kernel)) ggX10_cut_X10_in
set_option maxRecDepth 20000 in
theorem ggX10_cut_X10_keep : GoodIn wsX10_cut wsX10_keep := goodIn_r _ [9, 10, 11, 12, 1, 13, 14, 15, 16, 17, 18, 19, 20, 21, 22, 23, 24, 25, 26, 27, 28, 29, 30] (by decide +kernel) (by decide +kernel)
set_option maxRecDepth 20000 in
theorem gX10_cut_X10_keep : GoodIn wsX10_cut (wsV RX10 108 RX10 yX10_keep wsX10_keep) := goodIn_app (goodIn_of _ (by decide +kernel)) ggX10_cut_X10_keep
theorem dX10_cut_0 : decode cX10_cut 0 = .ok (.iload_n 1, 1) := by decide +kernel
theorem dX10_cut_1 : decode cX10_cut 1 = .ok (.iconst 1, 1) := by decide +kernel
theorem dX10_cut_2 : decode cX10_cut 2 = .ok (.bipush 64, 2) := by decide +kernel
theorem dX10_cut_4 : decode cX10_cut 4 = .ok (.invokestatic 98, 3) := by decide +kernel
theorem dX10_cut_7 : decode cX10_cut 7 = .ok (.ifCond .ne 6, 3) := by decide +kernel
theorem dX10_cut_10 : decode cX10_cut 10 = .ok (.bipush (-2), 2) := by decide +kernel
theorem dX10_cut_12 : decode cX10_cut 12 = .ok (.ireturn, 1) := by decide +kernel
theorem dX10_cut_13 : decode cX10_cut 13 = .ok (.iload_n 1, 1) := by decide +kernel
theorem dX10_cut_14 : decode cX10_cut 14 = .ok (.aload_n 0, 1) := by decide +kernel
theorem dX10_cut_15 : decode cX10_cut 15 = .ok (.getfield 7, 3) := by decide +kernel
theorem dX10_cut_18 : decode cX10_cut 18 = .ok (.bipush 22, 2) := by decide +kernel
theorem dX10_cut_20 : decode cX10_cut 20 = .ok (.iaload, 1) := by decide +kernel
theorem dX10_cut_21 : decode cX10_cut 21 = .ok (.aload_n 0, 1) := by decide +kernel
theorem dX10_cut_22 : decode cX10_cut 22 = .ok (.getfield 7, 3) := by decide +kernel
theorem dX10_cut_25 : decode cX10_cut 25 = .ok (.bipush 14, 2) := by decide +kernel
theorem dX10_cut_27 : decode cX10_cut 27 = .ok (.iaload, 1) := by decide +kernel
theorem dX10_cut_28 : decode cX10_cut 28 = .ok (.isub, 1) := by decide +kernel
theorem dX10_cut_29 : decode cX10_cut 29 = .ok (.if_icmp .le 6, 3) := by decide +kernel
theorem dX10_cut_32 : decode cX10_cut 32 = .ok (.bipush (-5), 2) := by decide +kernel
theorem dX10_cut_34 : decode cX10_cut 34 = .ok (.ireturn, 1) := by decide +kernel
theorem dX10_cut_35 : decode cX10_cut 35 = .ok (.aload_n 0, 1) := by decide +kernel
theorem dX10_cut_36 : decode cX10_cut 36 = .ok (.invokevirtual 108, 3) := by decide +kernel
theorem dX10_cut_39 : decode cX10_cut 39 = .ok (.aload_n 0, 1) := by decide +kernel
theorem dX10_cut_40 : decode cX10_cut 40 = .ok (.getfield 7, 3) := by decide +kernel
theorem dX10_cut_43 : decode cX10_cut 43 = .ok (.bipush 22, 2) := by decide +kernel
theorem dX10_cut_45 : decode cX10_cut 45 = .ok (.dup2, 1) := by decide +kernel
theorem dX10_cut_46 : decode cX10_cut 46 = .ok (.iaload, 1) := by decide +kernel
theorem dX10_cut_47 : decode cX10_cut 47 = .ok (.iload_n 1, 1) := by decide +kernel
theorem dX10_cut_48 : decode cX10_cut 48 = .ok (.isub, 1) := by decide +kernel
theorem dX10_cut_49 : decode cX10_cut 49 = .ok (.iastore, 1) := by decide +kernel
theorem dX10_cut_50 : decode cX10_cut 50 = .ok (.aload_n 0, 1) := by decide +kernel
theorem dX10_cut_51 : decode cX10_cut 51 = .ok (.getfield 7, 3) := by decide +kernel
theorem dX10_cut_54 : decode cX10_cut 54 = .ok (.bipush 22, 2) := by decide +kernel
theorem dX10_cut_56 : decode cX10_cut 56 = .ok (.iaload, 1) := by decide +kernel
theorem dX10_cut_57 : decode cX10_cut 57 = .ok (.ireturn, 1) := by decide +kernel
set_option maxRecDepth 20000 in
theorem ggX10_pass_X10_in : GoodIn wsX10_pass wsX10_in := goodIn_r _ [6] (by decide +kernel) (by decide +kernel)
set_option maxRecDepth 20000 in
theorem gX10_pass_X10_in : GoodIn wsX10_pass (va_wsS RX10 98 yX10_in wsX10_in) := goodIn_app (goodIn_of _ (by decide +kernel)) ggX10_pass_X10_in
set_option maxRecDepth 20000 in
theorem ggX10_pass_X10_keep : GoodIn wsX10_pass wsX10_keep := goodIn_r _ [10, 11, 12, 13, 1, 77, 78, 79, 80, 81, 82, 83, 84, 85, 86, 87, 88, 89, 90, 91, 92, 93, 94] (by decide +kernel) (by decide +kernel)
set_option maxRecDepth 20000 in
theorem gX10_pass_X10_keep : GoodIn wsX10_pass (wsV RX10 108 RX10 yX10_keep wsX10_keep) := goodIn_app (goodIn_of _ (by decide +kernel)) ggX10_pass_X10_keep
set_option maxRecDepth 20000 in
theorem ggX10_pass_X10_happenUpTo : GoodIn wsX10_pass wsX10_happenUpTo := goodIn_r _ [17, 1, 18, 19, 20, 21, 5, 22, 23, 24, 25, 26, 27, 28, 29, 30, 31, 32, 33, 34, 35, 36, 37, 38, 39, 40, 41, 42, 43, 44, 45, 46, 47, 48, 49, 50, 51, 52, 53, 54, 55, 56, 57, 58, 59, 60, 61, 62, 63, 64, 65, 66, 67, 68, 69, 70, 71, 72, 73, 74, 75, 76, 77, 78, 79, 80, 81, 82, 83, 84, 85, 86, 87, 88, 89, 90, 91, 92, 93, 94] (by decide +kernel) (by decide +kernel)
set_option maxRecDepth 20000 in
theorem gX10_pass_X10_happenUpTo : GoodIn wsX10_pass (wsV RX10 122 RX10 yX10_happenUpTo wsX10_happenUpTo) := goodIn_app (goodIn_of _ (by decide +kernel)) ggX10_pass_X10_happenUpTo
theorem dX10_pass_0 : decode cX10_pass 0 = .ok (.iload_n 1, 1) := by decide +kernel
theorem dX10_pass_1 : decode cX10_pass 1 = .ok (.iconst 1, 1) := by decide +kernel
theorem dX10_pass_2 : decode cX10_pass 2 = .ok (.sipush 10000, 3) := by decide +kernel
theorem dX10_pass_5 : decode cX10_pass 5 = .ok (.invokestatic 98, 3) := by decide +kernel
theorem dX10_pass_8 : decode cX10_pass 8 = .ok (.ifCond .ne 6, 3) := by decide +kernel
theorem dX10_pass_11 : decode cX10_pass 11 = .ok (.bipush (-2), 2) := by decide +kernel
theorem dX10_pass_13 : decode cX10_pass 13 = .ok (.ireturn, 1) := by decide +kernel
theorem dX10_pass_14 : decode cX10_pass 14 = .ok (.aload_n 0, 1) := by decide +kernel
theorem dX10_pass_15 : decode cX10_pass 15 = .ok (.getfield 7, 3) := by decide +kernel
theorem dX10_pass_18 : decode cX10_pass 18 = .ok (.bipush 8, 2) := by decide +kernel
theorem dX10_pass_20 : decode cX10_pass 20 = .ok (.iaload, 1) := by decide +kernel
theorem dX10_pass_21 : decode cX10_pass 21 = .ok (.iload_n 1, 1) := by decide +kernel
theorem dX10_pass_22 : decode cX10_pass 22 = .ok (.iadd, 1) := by decide +kernel
theorem dX10_pass_23 : decode cX10_pass 23 = .ok (.ldc 121, 2) := by decide +kernel
theorem dX10_pass_25 : decode cX10_pass 25 = .ok (.if_icmp .le 6, 3) := by decide +kernel
theorem dX10_pass_28 : decode cX10_pass 28 = .ok (.bipush (-4), 2) := by decide +kernel
theorem dX10_pass_30 : decode cX10_pass 30 = .ok (.ireturn, 1) := by decide +kernel
theorem dX10_pass_31 : decode cX10_pass 31 = .ok (.aload_n 0, 1) := by decide +kernel
theorem dX10_pass_32 : decode cX10_pass 32 = .ok (.invokevirtual 108, 3) := by decide +kernel
theorem dX10_pass_35 : decode cX10_pass 35 = .ok (.aload_n 0, 1) := by decide +kernel
theorem dX10_pass_36 : decode cX10_pass 36 = .ok (.getfield 7, 3) := by decide +kernel
theorem dX10_pass_39 : decode cX10_pass 39 = .ok (.bipush 8, 2) := by decide +kernel
theorem dX10_pass_41 : decode cX10_pass 41 = .ok (.dup2, 1) := by decide +kernel
theorem dX10_pass_42 : decode cX10_pass 42 = .ok (.iaload, 1) := by decide +kernel
theorem dX10_pass_43 : decode cX10_pass 43 = .ok (.iload_n 1, 1) := by decide +kernel
theorem dX10_pass_44 : decode cX10_pass 44 = .ok (.iadd, 1) := by decide +kernel
theorem dX10_pass_45 : decode cX10_pass 45 = .ok (.iastore, 1) := by decide +kernel
theorem dX10_pass_46 : decode cX10_pass 46 = .ok (.aload_n 0, 1) := by decide +kernel
theorem dX10_pass_47 : decode cX10_pass 47 = .ok (.iconst 4, 1) := by decide +kernel
theorem dX10_pass_48 : decode cX10_pass 48 = .ok (.aload_n 0, 1) := by decide +kernel
theorem dX10_pass_49 : decode cX10_pass 49 = .ok (.getfield 7, 3) := by decide +kernel
theorem dX10_pass_52 : decode cX10_pass 52 = .ok (.bipush 8, 2) := by decide +kernel
theorem dX10_pass_54 : decode cX10_pass 54 = .ok (.iaload, 1) := by decide +kernel
theorem dX10_pass_55 : decode cX10_pass 55 = .ok (.imul, 1) := by decide +kernel
theorem dX10_pass_56 : decode cX10_pass 56 = .ok (.invokevirtual 122, 3) := by decide +kernel
theorem dX10_pass_59 : decode cX10_pass 59 = .ok (.aload_n 0, 1) := by decide +kernel
theorem dX10_pass_60 : decode cX10_pass 60 = .ok (.getfield 7, 3) := by decide +kernel
theorem dX10_pass_63 : decode cX10_pass 63 = .ok (.bipush 8, 2) := by decide +kernel
theorem dX10_pass_65 : decode cX10_pass 65 = .ok (.iaload, 1) := by decide +kernel
theorem dX10_pass_66 : decode cX10_pass 66 = .ok (.ireturn, 1) := by decide +kernel
set_option maxRecDepth 20000 in
theorem ggX10_beginAnew_X10_become : GoodIn wsX10_beginAnew wsX10_become := goodIn_r _ [6, 7, 8, 9, 5, 10, 1, 11, 12, 13, 14, 15, 16, 17, 18, 19, 20, 21, 22, 23, 24, 25, 26, 27, 28] (by decide +kernel) (by decide +kernel)
set_option maxRecDepth 20000 in
theorem gX10_beginAnew_X10_become : GoodIn wsX10_beginAnew (wsV RX10 59 RX10 yX10_become wsX10_become) := goodIn_app (goodIn_of _ (by decide +kernel)) ggX10_beginAnew_X10_become
theorem dX10_beginAnew_0 : decode cX10_beginAnew 0 = .ok (.aload_n 0, 1) := by decide +kernel
theorem dX10_beginAnew_1 : decode cX10_beginAnew 1 = .ok (.getfield 7, 3) := by decide +kernel
theorem dX10_beginAnew_4 : decode cX10_beginAnew 4 = .ok (.bipush 22, 2) := by decide +kernel
theorem dX10_beginAnew_6 : decode cX10_beginAnew 6 = .ok (.iaload, 1) := by decide +kernel
theorem dX10_beginAnew_7 : decode cX10_beginAnew 7 = .ok (.istore_n 1, 1) := by decide +kernel
theorem dX10_beginAnew_8 : decode cX10_beginAnew 8 = .ok (.bipush 8, 2) := by decide +kernel
theorem dX10_beginAnew_10 : decode cX10_beginAnew 10 = .ok (.istore_n 2, 1) := by decide +kernel
theorem dX10_beginAnew_11 : decode cX10_beginAnew 11 = .ok (.iload_n 2, 1) := by decide +kernel
theorem dX10_beginAnew_12 : decode cX10_beginAnew 12 = .ok (.bipush 32, 2) := by decide +kernel
theorem dX10_beginAnew_14 : decode cX10_beginAnew 14 = .ok (.if_icmp .ge 16, 3) := by decide +kernel
theorem dX10_beginAnew_17 : decode cX10_beginAnew 17 = .ok (.aload_n 0, 1) := by decide +kernel
theorem dX10_beginAnew_18 : decode cX10_beginAnew 18 = .ok (.getfield 7, 3) := by decide +kernel
theorem dX10_beginAnew_21 : decode cX10_beginAnew 21 = .ok (.iload_n 2, 1) := by decide +kernel
theorem dX10_beginAnew_22 : decode cX10_beginAnew 22 = .ok (.iconst 0, 1) := by decide +kernel
theorem dX10_beginAnew_23 : decode cX10_beginAnew 23 = .ok (.iastore, 1) := by decide +kernel
theorem dX10_beginAnew_24 : decode cX10_beginAnew 24 = .ok (.iinc 2 1, 3) := by decide +kernel
theorem dX10_beginAnew_27 : decode cX10_beginAnew 27 = .ok (.goto (-16), 3) := by decide +kernel
theorem dX10_beginAnew_30 : decode cX10_beginAnew 30 = .ok (.aload_n 0, 1) := by decide +kernel
theorem dX10_beginAnew_31 : decode cX10_beginAnew 31 = .ok (.getfield 7, 3) := by decide +kernel
theorem dX10_beginAnew_34 : decode cX10_beginAnew 34 = .ok (.bipush 22, 2) := by decide +kernel
theorem dX10_beginAnew_36 : decode cX10_beginAnew 36 = .ok (.iload_n 1, 1) := by decide +kernel
theorem dX10_beginAnew_37 : decode cX10_beginAnew 37 = .ok (.iastore, 1) := by decide +kernel
theorem dX10_beginAnew_38 : decode cX10_beginAnew 38 = .ok (.aload_n 0, 1) := by decide +kernel
theorem dX10_beginAnew_39 : decode cX10_beginAnew 39 = .ok (.getfield 7, 3) := by decide +kernel
theorem dX10_beginAnew_42 : decode cX10_beginAnew 42 = .ok (.bipush 10, 2) := by decide +kernel
theorem dX10_beginAnew_44 : decode cX10_beginAnew 44 = .ok (.iconst 4, 1) := by decide +kernel
theorem dX10_beginAnew_45 : decode cX10_beginAnew 45 = .ok (.aload_n 0, 1) := by decide +kernel
theorem dX10_beginAnew_46 : decode cX10_beginAnew 46 = .ok (.getfield 7, 3) := by decide +kernel
theorem dX10_beginAnew_49 : decode cX10_beginAnew 49 = .ok (.iconst 0, 1) := by decide +kernel
theorem dX10_beginAnew_50 : decode cX10_beginAnew 50 = .ok (.iaload, 1) := by decide +kernel
theorem dX10_beginAnew_51 : decode cX10_beginAnew 51 = .ok (.imul, 1) := by decide +kernel
theorem dX10_beginAnew_52 : decode cX10_beginAnew 52 = .ok (.iastore, 1) := by decide +kernel
theorem dX10_beginAnew_53 : decode cX10_beginAnew 53 = .ok (.aload_n 0, 1) := by decide +kernel
theorem dX10_beginAnew_54 : decode cX10_beginAnew 54 = .ok (.getfield 7, 3) := by decide +kernel
theorem dX10_beginAnew_57 : decode cX10_beginAnew 57 = .ok (.bipush 11, 2) := by decide +kernel
theorem dX10_beginAnew_59 : decode cX10_beginAnew 59 = .ok (.bipush (-6), 2) := by decide +kernel
theorem dX10_beginAnew_61 : decode cX10_beginAnew 61 = .ok (.iastore, 1) := by decide +kernel
theorem dX10_beginAnew_62 : decode cX10_beginAnew 62 = .ok (.iconst 0, 1) := by decide +kernel
theorem dX10_beginAnew_63 : decode cX10_beginAnew 63 = .ok (.istore_n 2, 1) := by decide +kernel
theorem dX10_beginAnew_64 : decode cX10_beginAnew 64 = .ok (.iload_n 2, 1) := by decide +kernel
theorem dX10_beginAnew_65 : decode cX10_beginAnew 65 = .ok (.iload_n 1, 1) := by decide +kernel
theorem dX10_beginAnew_66 : decode cX10_beginAnew 66 = .ok (.if_icmp .ge 21, 3) := by decide +kernel
theorem dX10_beginAnew_69 : decode cX10_beginAnew 69 = .ok (.aload_n 0, 1) := by decide +kernel
theorem dX10_beginAnew_70 : decode cX10_beginAnew 70 = .ok (.iload_n 2, 1) := by decide +kernel
theorem dX10_beginAnew_71 : decode cX10_beginAnew 71 = .ok (.iconst 0, 1) := by decide +kernel
theorem dX10_beginAnew_72 : decode cX10_beginAnew 72 = .ok (.bipush (-6), 2) := by decide +kernel
theorem dX10_beginAnew_74 : decode cX10_beginAnew 74 = .ok (.bipush (-6), 2) := by decide +kernel
theorem dX10_beginAnew_76 : decode cX10_beginAnew 76 = .ok (.bipush (-6), 2) := by decide +kernel
theorem dX10_beginAnew_78 : decode cX10_beginAnew 78 = .ok (.invokevirtual 59, 3) := by decide +kernel
theorem dX10_beginAnew_81 : decode cX10_beginAnew 81 = .ok (.iinc 2 1, 3) := by decide +kernel
theorem dX10_beginAnew_84 : decode cX10_beginAnew 84 = .ok (.goto (-20), 3) := by decide +kernel
theorem dX10_beginAnew_87 : decode cX10_beginAnew 87 = .ok (.return_, 1) := by decide +kernel
set_option maxRecDepth 20000 in
theorem ggX10_anew_X10_keep : GoodIn wsX10_anew wsX10_keep := goodIn_r _ [6, 7, 8, 9, 1, 22, 23, 24, 25, 26, 27, 28, 29, 30, 31, 32, 33, 34, 35, 36, 37, 38, 39] (by decide +kernel) (by decide +kernel)
set_option maxRecDepth 20000 in
theorem gX10_anew_X10_keep : GoodIn wsX10_anew (wsV RX10 108 RX10 yX10_keep wsX10_keep) := goodIn_app (goodIn_of _ (by decide +kernel)) ggX10_anew_X10_keep
set_option maxRecDepth 20000 in
theorem ggX10_anew_X10_beginAnew : GoodIn wsX10_anew wsX10_beginAnew := goodIn_r _ [13, 1, 14, 15, 16, 5, 17, 18, 19, 20, 21, 22, 23, 24, 25, 26, 27, 28, 29, 30, 31, 32, 33, 34, 35, 36, 37, 38, 39] (by decide +kernel) (by decide +kernel)
set_option maxRecDepth 20000 in
theorem gX10_anew_X10_beginAnew : GoodIn wsX10_anew (wsV RX10 125 RX10 yX10_beginAnew wsX10_beginAnew) := goodIn_app (goodIn_of _ (by decide +kernel)) ggX10_anew_X10_beginAnew
theorem dX10_anew_0 : decode cX10_anew 0 = .ok (.aload_n 0, 1) := by decide +kernel
theorem dX10_anew_1 : decode cX10_anew 1 = .ok (.invokevirtual 108, 3) := by decide +kernel
theorem dX10_anew_4 : decode cX10_anew 4 = .ok (.aload_n 0, 1) := by decide +kernel
theorem dX10_anew_5 : decode cX10_anew 5 = .ok (.invokevirtual 125, 3) := by decide +kernel
theorem dX10_anew_8 : decode cX10_anew 8 = .ok (.aload_n 0, 1) := by decide +kernel
theorem dX10_anew_9 : decode cX10_anew 9 = .ok (.getfield 7, 3) := by decide +kernel
theorem dX10_anew_12 : decode cX10_anew 12 = .ok (.bipush 22, 2) := by decide +kernel
theorem dX10_anew_14 : decode cX10_anew 14 = .ok (.iaload, 1) := by decide +kernel
theorem dX10_anew_15 : decode cX10_anew 15 = .ok (.ireturn, 1) := by decide +kernel
set_option maxRecDepth 20000 in
theorem ggX10_ofBeat_X10_in : GoodIn wsX10_ofBeat wsX10_in := goodIn_r _ [6] (by decide +kernel) (by decide +kernel)
set_option maxRecDepth 20000 in
theorem gX10_ofBeat_X10_in : GoodIn wsX10_ofBeat (va_wsS RX10 98 yX10_in wsX10_in) := goodIn_app (goodIn_of _ (by decide +kernel)) ggX10_ofBeat_X10_in
set_option maxRecDepth 20000 in
theorem ggX10_ofBeat_X10_ofB : GoodIn wsX10_ofBeat wsX10_ofB := goodIn_r _ [10, 1, 11, 12, 13, 14, 15, 16, 17, 18, 19, 20, 21, 22, 23, 24, 25, 26, 27, 28] (by decide +kernel) (by decide +kernel)
set_option maxRecDepth 20000 in
theorem gX10_ofBeat_X10_ofB : GoodIn wsX10_ofBeat (wsV RX10 52 RX10 yX10_ofB wsX10_ofB) := goodIn_app (goodIn_of _ (by decide +kernel)) ggX10_ofBeat_X10_ofB
theorem dX10_ofBeat_0 : decode cX10_ofBeat 0 = .ok (.iload_n 1, 1) := by decide +kernel
theorem dX10_ofBeat_1 : decode cX10_ofBeat 1 = .ok (.iconst 0, 1) := by decide +kernel
theorem dX10_ofBeat_2 : decode cX10_ofBeat 2 = .ok (.aload_n 0, 1) := by decide +kernel
theorem dX10_ofBeat_3 : decode cX10_ofBeat 3 = .ok (.getfield 7, 3) := by decide +kernel
theorem dX10_ofBeat_6 : decode cX10_ofBeat 6 = .ok (.bipush 22, 2) := by decide +kernel
theorem dX10_ofBeat_8 : decode cX10_ofBeat 8 = .ok (.iaload, 1) := by decide +kernel
theorem dX10_ofBeat_9 : decode cX10_ofBeat 9 = .ok (.iconst 1, 1) := by decide +kernel
theorem dX10_ofBeat_10 : decode cX10_ofBeat 10 = .ok (.isub, 1) := by decide +kernel
theorem dX10_ofBeat_11 : decode cX10_ofBeat 11 = .ok (.invokestatic 98, 3) := by decide +kernel
theorem dX10_ofBeat_14 : decode cX10_ofBeat 14 = .ok (.ifCond .ne 5, 3) := by decide +kernel
theorem dX10_ofBeat_17 : decode cX10_ofBeat 17 = .ok (.iconst (-1), 1) := by decide +kernel
theorem dX10_ofBeat_18 : decode cX10_ofBeat 18 = .ok (.ireturn, 1) := by decide +kernel
theorem dX10_ofBeat_19 : decode cX10_ofBeat 19 = .ok (.iload_n 2, 1) := by decide +kernel
theorem dX10_ofBeat_20 : decode cX10_ofBeat 20 = .ok (.iconst 0, 1) := by decide +kernel
theorem dX10_ofBeat_21 : decode cX10_ofBeat 21 = .ok (.iconst 5, 1) := by decide +kernel
theorem dX10_ofBeat_22 : decode cX10_ofBeat 22 = .ok (.invokestatic 98, 3) := by decide +kernel
theorem dX10_ofBeat_25 : decode cX10_ofBeat 25 = .ok (.ifCond .ne 6, 3) := by decide +kernel
theorem dX10_ofBeat_28 : decode cX10_ofBeat 28 = .ok (.bipush (-2), 2) := by decide +kernel
theorem dX10_ofBeat_30 : decode cX10_ofBeat 30 = .ok (.ireturn, 1) := by decide +kernel
theorem dX10_ofBeat_31 : decode cX10_ofBeat 31 = .ok (.aload_n 0, 1) := by decide +kernel
theorem dX10_ofBeat_32 : decode cX10_ofBeat 32 = .ok (.iload_n 1, 1) := by decide +kernel
theorem dX10_ofBeat_33 : decode cX10_ofBeat 33 = .ok (.iload_n 2, 1) := by decide +kernel
theorem dX10_ofBeat_34 : decode cX10_ofBeat 34 = .ok (.invokevirtual 52, 3) := by decide +kernel
theorem dX10_ofBeat_37 : decode cX10_ofBeat 37 = .ok (.istore_n 3, 1) := by decide +kernel
theorem dX10_ofBeat_38 : decode cX10_ofBeat 38 = .ok (.aload_n 0, 1) := by decide +kernel
theorem dX10_ofBeat_39 : decode cX10_ofBeat 39 = .ok (.iload_n 1, 1) := by decide +kernel
theorem dX10_ofBeat_40 : decode cX10_ofBeat 40 = .ok (.iconst 2, 1) := by decide +kernel
theorem dX10_ofBeat_41 : decode cX10_ofBeat 41 = .ok (.invokevirtual 52, 3) := by decide +kernel
theorem dX10_ofBeat_44 : decode cX10_ofBeat 44 = .ok (.istore 4, 2) := by decide +kernel
theorem dX10_ofBeat_46 : decode cX10_ofBeat 46 = .ok (.iload_n 2, 1) := by decide +kernel
theorem dX10_ofBeat_47 : decode cX10_ofBeat 47 = .ok (.iconst 4, 1) := by decide +kernel
theorem dX10_ofBeat_48 : decode cX10_ofBeat 48 = .ok (.if_icmp .ne 25, 3) := by decide +kernel
theorem dX10_ofBeat_51 : decode cX10_ofBeat 51 = .ok (.iload 4, 2) := by decide +kernel
theorem dX10_ofBeat_53 : decode cX10_ofBeat 53 = .ok (.iconst 1, 1) := by decide +kernel
theorem dX10_ofBeat_54 : decode cX10_ofBeat 54 = .ok (.if_icmp .eq 9, 3) := by decide +kernel
theorem dX10_ofBeat_57 : decode cX10_ofBeat 57 = .ok (.iload 4, 2) := by decide +kernel
theorem dX10_ofBeat_59 : decode cX10_ofBeat 59 = .ok (.iconst 2, 1) := by decide +kernel
theorem dX10_ofBeat_60 : decode cX10_ofBeat 60 = .ok (.if_icmp .ne 10, 3) := by decide +kernel
theorem dX10_ofBeat_63 : decode cX10_ofBeat 63 = .ok (.ldc 117, 2) := by decide +kernel
theorem dX10_ofBeat_65 : decode cX10_ofBeat 65 = .ok (.iload_n 3, 1) := by decide +kernel
theorem dX10_ofBeat_66 : decode cX10_ofBeat 66 = .ok (.iadd, 1) := by decide +kernel
theorem dX10_ofBeat_67 : decode cX10_ofBeat 67 = .ok (.goto 5, 3) := by decide +kernel
theorem dX10_ofBeat_70 : decode cX10_ofBeat 70 = .ok (.bipush (-6), 2) := by decide +kernel
theorem dX10_ofBeat_72 : decode cX10_ofBeat 72 = .ok (.ireturn, 1) := by decide +kernel
theorem dX10_ofBeat_73 : decode cX10_ofBeat 73 = .ok (.iload_n 2, 1) := by decide +kernel
theorem dX10_ofBeat_74 : decode cX10_ofBeat 74 = .ok (.iconst 5, 1) := by decide +kernel
theorem dX10_ofBeat_75 : decode cX10_ofBeat 75 = .ok (.if_icmp .ne 22, 3) := by decide +kernel
theorem dX10_ofBeat_78 : decode cX10_ofBeat 78 = .ok (.iload 4, 2) := by decide +kernel
theorem dX10_ofBeat_80 : decode cX10_ofBeat 80 = .ok (.iconst 2, 1) := by decide +kernel
theorem dX10_ofBeat_81 : decode cX10_ofBeat 81 = .ok (.if_icmp .lt 11, 3) := by decide +kernel
theorem dX10_ofBeat_84 : decode cX10_ofBeat 84 = .ok (.sipush 1000, 3) := by decide +kernel
theorem dX10_ofBeat_87 : decode cX10_ofBeat 87 = .ok (.iload_n 3, 1) := by decide +kernel
theorem dX10_ofBeat_88 : decode cX10_ofBeat 88 = .ok (.iadd, 1) := by decide +kernel
theorem dX10_ofBeat_89 : decode cX10_ofBeat 89 = .ok (.goto 9, 3) := by decide +kernel
theorem dX10_ofBeat_92 : decode cX10_ofBeat 92 = .ok (.bipush (-6), 2) := by decide +kernel
theorem dX10_ofBeat_94 : decode cX10_ofBeat 94 = .ok (.goto 4, 3) := by decide +kernel
theorem dX10_ofBeat_97 : decode cX10_ofBeat 97 = .ok (.iload_n 3, 1) := by decide +kernel
theorem dX10_ofBeat_98 : decode cX10_ofBeat 98 = .ok (.ireturn, 1) := by decide +kernel
set_option maxRecDepth 20000 in
theorem ggX10_ofBlow_X10_in : GoodIn wsX10_ofBlow wsX10_in := goodIn_r _ [5] (by decide +kernel) (by decide +kernel)
set_option maxRecDepth 20000 in
theorem gX10_ofBlow_X10_in : GoodIn wsX10_ofBlow (va_wsS RX10 98 yX10_in wsX10_in) := goodIn_app (goodIn_of _ (by decide +kernel)) ggX10_ofBlow_X10_in
theorem dX10_ofBlow_0 : decode cX10_ofBlow 0 = .ok (.iload_n 1, 1) := by decide +kernel
theorem dX10_ofBlow_1 : decode cX10_ofBlow 1 = .ok (.ifCond .lt 29, 3) := by decide +kernel
theorem dX10_ofBlow_4 : decode cX10_ofBlow 4 = .ok (.iload_n 1, 1) := by decide +kernel
theorem dX10_ofBlow_5 : decode cX10_ofBlow 5 = .ok (.aload_n 0, 1) := by decide +kernel
theorem dX10_ofBlow_6 : decode cX10_ofBlow 6 = .ok (.getfield 7, 3) := by decide +kernel
theorem dX10_ofBlow_9 : decode cX10_ofBlow 9 = .ok (.bipush 12, 2) := by decide +kernel
theorem dX10_ofBlow_11 : decode cX10_ofBlow 11 = .ok (.iaload, 1) := by decide +kernel
theorem dX10_ofBlow_12 : decode cX10_ofBlow 12 = .ok (.bipush 64, 2) := by decide +kernel
theorem dX10_ofBlow_14 : decode cX10_ofBlow 14 = .ok (.isub, 1) := by decide +kernel
theorem dX10_ofBlow_15 : decode cX10_ofBlow 15 = .ok (.aload_n 0, 1) := by decide +kernel
theorem dX10_ofBlow_16 : decode cX10_ofBlow 16 = .ok (.getfield 7, 3) := by decide +kernel
theorem dX10_ofBlow_19 : decode cX10_ofBlow 19 = .ok (.bipush 12, 2) := by decide +kernel
theorem dX10_ofBlow_21 : decode cX10_ofBlow 21 = .ok (.iaload, 1) := by decide +kernel
theorem dX10_ofBlow_22 : decode cX10_ofBlow 22 = .ok (.iconst 1, 1) := by decide +kernel
theorem dX10_ofBlow_23 : decode cX10_ofBlow 23 = .ok (.isub, 1) := by decide +kernel
theorem dX10_ofBlow_24 : decode cX10_ofBlow 24 = .ok (.invokestatic 98, 3) := by decide +kernel
theorem dX10_ofBlow_27 : decode cX10_ofBlow 27 = .ok (.ifCond .ne 5, 3) := by decide +kernel
theorem dX10_ofBlow_30 : decode cX10_ofBlow 30 = .ok (.iconst (-1), 1) := by decide +kernel
theorem dX10_ofBlow_31 : decode cX10_ofBlow 31 = .ok (.ireturn, 1) := by decide +kernel
theorem dX10_ofBlow_32 : decode cX10_ofBlow 32 = .ok (.iload_n 2, 1) := by decide +kernel
theorem dX10_ofBlow_33 : decode cX10_ofBlow 33 = .ok (.iconst 0, 1) := by decide +kernel
theorem dX10_ofBlow_34 : decode cX10_ofBlow 34 = .ok (.iconst 3, 1) := by decide +kernel
theorem dX10_ofBlow_35 : decode cX10_ofBlow 35 = .ok (.invokestatic 98, 3) := by decide +kernel
theorem dX10_ofBlow_38 : decode cX10_ofBlow 38 = .ok (.ifCond .eq 23, 3) := by decide +kernel
theorem dX10_ofBlow_41 : decode cX10_ofBlow 41 = .ok (.aload_n 0, 1) := by decide +kernel
theorem dX10_ofBlow_42 : decode cX10_ofBlow 42 = .ok (.getfield 7, 3) := by decide +kernel
theorem dX10_ofBlow_45 : decode cX10_ofBlow 45 = .ok (.sipush 416, 3) := by decide +kernel
theorem dX10_ofBlow_48 : decode cX10_ofBlow 48 = .ok (.iconst 4, 1) := by decide +kernel
theorem dX10_ofBlow_49 : decode cX10_ofBlow 49 = .ok (.iload_n 1, 1) := by decide +kernel
theorem dX10_ofBlow_50 : decode cX10_ofBlow 50 = .ok (.bipush 64, 2) := by decide +kernel
theorem dX10_ofBlow_52 : decode cX10_ofBlow 52 = .ok (.irem, 1) := by decide +kernel
theorem dX10_ofBlow_53 : decode cX10_ofBlow 53 = .ok (.imul, 1) := by decide +kernel
theorem dX10_ofBlow_54 : decode cX10_ofBlow 54 = .ok (.iadd, 1) := by decide +kernel
theorem dX10_ofBlow_55 : decode cX10_ofBlow 55 = .ok (.iload_n 2, 1) := by decide +kernel
theorem dX10_ofBlow_56 : decode cX10_ofBlow 56 = .ok (.iadd, 1) := by decide +kernel
theorem dX10_ofBlow_57 : decode cX10_ofBlow 57 = .ok (.iaload, 1) := by decide +kernel
theorem dX10_ofBlow_58 : decode cX10_ofBlow 58 = .ok (.goto 5, 3) := by decide +kernel
theorem dX10_ofBlow_61 : decode cX10_ofBlow 61 = .ok (.bipush (-2), 2) := by decide +kernel
theorem dX10_ofBlow_63 : decode cX10_ofBlow 63 = .ok (.ireturn, 1) := by decide +kernel
set_option maxRecDepth 20000 in
theorem ggX10_count_X10_in : GoodIn wsX10_count wsX10_in := goodIn_r _ [7] (by decide +kernel) (by decide +kernel)
set_option maxRecDepth 20000 in
theorem gX10_count_X10_in : GoodIn wsX10_count (va_wsS RX10 98 yX10_in wsX10_in) := goodIn_app (goodIn_of _ (by decide +kernel)) ggX10_count_X10_in
theorem dX10_count_0 : decode cX10_count 0 = .ok (.iload_n 1, 1) := by decide +kernel
theorem dX10_count_1 : decode cX10_count 1 = .ok (.iconst 0, 1) := by decide +kernel
theorem dX10_count_2 : decode cX10_count 2 = .ok (.bipush 15, 2) := by decide +kernel
theorem dX10_count_4 : decode cX10_count 4 = .ok (.invokestatic 98, 3) := by decide +kernel
theorem dX10_count_7 : decode cX10_count 7 = .ok (.ifCond .eq 13, 3) := by decide +kernel
theorem dX10_count_10 : decode cX10_count 10 = .ok (.aload_n 0, 1) := by decide +kernel
theorem dX10_count_11 : decode cX10_count 11 = .ok (.getfield 7, 3) := by decide +kernel
theorem dX10_count_14 : decode cX10_count 14 = .ok (.bipush 8, 2) := by decide +kernel
theorem dX10_count_16 : decode cX10_count 16 = .ok (.iload_n 1, 1) := by decide +kernel
theorem dX10_count_17 : decode cX10_count 17 = .ok (.iadd, 1) := by decide +kernel
theorem dX10_count_18 : decode cX10_count 18 = .ok (.iaload, 1) := by decide +kernel
theorem dX10_count_19 : decode cX10_count 19 = .ok (.ireturn, 1) := by decide +kernel
theorem dX10_count_20 : decode cX10_count 20 = .ok (.iload_n 1, 1) := by decide +kernel
theorem dX10_count_21 : decode cX10_count 21 = .ok (.bipush 16, 2) := by decide +kernel
theorem dX10_count_23 : decode cX10_count 23 = .ok (.bipush 23, 2) := by decide +kernel
theorem dX10_count_25 : decode cX10_count 25 = .ok (.invokestatic 98, 3) := by decide +kernel
theorem dX10_count_28 : decode cX10_count 28 = .ok (.ifCond .eq 15, 3) := by decide +kernel
theorem dX10_count_31 : decode cX10_count 31 = .ok (.aload_n 0, 1) := by decide +kernel
theorem dX10_count_32 : decode cX10_count 32 = .ok (.getfield 7, 3) := by decide +kernel
theorem dX10_count_35 : decode cX10_count 35 = .ok (.iload_n 1, 1) := by decide +kernel
theorem dX10_count_36 : decode cX10_count 36 = .ok (.bipush 16, 2) := by decide +kernel
theorem dX10_count_38 : decode cX10_count 38 = .ok (.isub, 1) := by decide +kernel
theorem dX10_count_39 : decode cX10_count 39 = .ok (.iaload, 1) := by decide +kernel
theorem dX10_count_40 : decode cX10_count 40 = .ok (.goto 31, 3) := by decide +kernel
theorem dX10_count_43 : decode cX10_count 43 = .ok (.iload_n 1, 1) := by decide +kernel
theorem dX10_count_44 : decode cX10_count 44 = .ok (.bipush 24, 2) := by decide +kernel
theorem dX10_count_46 : decode cX10_count 46 = .ok (.if_icmp .ne 10, 3) := by decide +kernel
theorem dX10_count_49 : decode cX10_count 49 = .ok (.aload_n 0, 1) := by decide +kernel
theorem dX10_count_50 : decode cX10_count 50 = .ok (.getfield 128, 3) := by decide +kernel
theorem dX10_count_53 : decode cX10_count 53 = .ok (.goto 18, 3) := by decide +kernel
theorem dX10_count_56 : decode cX10_count 56 = .ok (.iload_n 1, 1) := by decide +kernel
theorem dX10_count_57 : decode cX10_count 57 = .ok (.bipush 25, 2) := by decide +kernel
theorem dX10_count_59 : decode cX10_count 59 = .ok (.if_icmp .ne 10, 3) := by decide +kernel
theorem dX10_count_62 : decode cX10_count 62 = .ok (.aload_n 0, 1) := by decide +kernel
theorem dX10_count_63 : decode cX10_count 63 = .ok (.getfield 39, 3) := by decide +kernel
theorem dX10_count_66 : decode cX10_count 66 = .ok (.goto 5, 3) := by decide +kernel
theorem dX10_count_69 : decode cX10_count 69 = .ok (.bipush (-2), 2) := by decide +kernel
theorem dX10_count_71 : decode cX10_count 71 = .ok (.ireturn, 1) := by decide +kernel
theorem dX10_slips_0 : decode cX10_slips 0 = .ok (.ldc 117, 2) := by decide +kernel
theorem dX10_slips_2 : decode cX10_slips 2 = .ok (.aload_n 0, 1) := by decide +kernel
theorem dX10_slips_3 : decode cX10_slips 3 = .ok (.getfield 7, 3) := by decide +kernel
theorem dX10_slips_6 : decode cX10_slips 6 = .ok (.bipush 24, 2) := by decide +kernel
theorem dX10_slips_8 : decode cX10_slips 8 = .ok (.iaload, 1) := by decide +kernel
theorem dX10_slips_9 : decode cX10_slips 9 = .ok (.iadd, 1) := by decide +kernel
theorem dX10_slips_10 : decode cX10_slips 10 = .ok (.ireturn, 1) := by decide +kernel
set_option maxRecDepth 20000 in
theorem ggX10_nextBlow_X10_in : GoodIn wsX10_nextBlow wsX10_in := goodIn_r _ [5] (by decide +kernel) (by decide +kernel)
set_option maxRecDepth 20000 in
theorem gX10_nextBlow_X10_in : GoodIn wsX10_nextBlow (va_wsS RX10 98 yX10_in wsX10_in) := goodIn_app (goodIn_of _ (by decide +kernel)) ggX10_nextBlow_X10_in
theorem dX10_nextBlow_0 : decode cX10_nextBlow 0 = .ok (.iload_n 1, 1) := by decide +kernel
theorem dX10_nextBlow_1 : decode cX10_nextBlow 1 = .ok (.iconst 1, 1) := by decide +kernel
theorem dX10_nextBlow_2 : decode cX10_nextBlow 2 = .ok (.bipush 20, 2) := by decide +kernel
theorem dX10_nextBlow_4 : decode cX10_nextBlow 4 = .ok (.invokestatic 98, 3) := by decide +kernel
theorem dX10_nextBlow_7 : decode cX10_nextBlow 7 = .ok (.ifCond .ne 6, 3) := by decide +kernel
theorem dX10_nextBlow_10 : decode cX10_nextBlow 10 = .ok (.bipush (-2), 2) := by decide +kernel
theorem dX10_nextBlow_12 : decode cX10_nextBlow 12 = .ok (.ireturn, 1) := by decide +kernel
theorem dX10_nextBlow_13 : decode cX10_nextBlow 13 = .ok (.aload_n 0, 1) := by decide +kernel
theorem dX10_nextBlow_14 : decode cX10_nextBlow 14 = .ok (.getfield 7, 3) := by decide +kernel
theorem dX10_nextBlow_17 : decode cX10_nextBlow 17 = .ok (.bipush 11, 2) := by decide +kernel
theorem dX10_nextBlow_19 : decode cX10_nextBlow 19 = .ok (.iaload, 1) := by decide +kernel
theorem dX10_nextBlow_20 : decode cX10_nextBlow 20 = .ok (.ifCond .lt 28, 3) := by decide +kernel
theorem dX10_nextBlow_23 : decode cX10_nextBlow 23 = .ok (.aload_n 0, 1) := by decide +kernel
theorem dX10_nextBlow_24 : decode cX10_nextBlow 24 = .ok (.getfield 7, 3) := by decide +kernel
theorem dX10_nextBlow_27 : decode cX10_nextBlow 27 = .ok (.bipush 21, 2) := by decide +kernel
theorem dX10_nextBlow_29 : decode cX10_nextBlow 29 = .ok (.iaload, 1) := by decide +kernel
theorem dX10_nextBlow_30 : decode cX10_nextBlow 30 = .ok (.iload_n 1, 1) := by decide +kernel
theorem dX10_nextBlow_31 : decode cX10_nextBlow 31 = .ok (.iadd, 1) := by decide +kernel
theorem dX10_nextBlow_32 : decode cX10_nextBlow 32 = .ok (.iconst 1, 1) := by decide +kernel
theorem dX10_nextBlow_33 : decode cX10_nextBlow 33 = .ok (.isub, 1) := by decide +kernel
theorem dX10_nextBlow_34 : decode cX10_nextBlow 34 = .ok (.aload_n 0, 1) := by decide +kernel
theorem dX10_nextBlow_35 : decode cX10_nextBlow 35 = .ok (.getfield 7, 3) := by decide +kernel
theorem dX10_nextBlow_38 : decode cX10_nextBlow 38 = .ok (.bipush 7, 2) := by decide +kernel
theorem dX10_nextBlow_40 : decode cX10_nextBlow 40 = .ok (.iaload, 1) := by decide +kernel
theorem dX10_nextBlow_41 : decode cX10_nextBlow 41 = .ok (.if_icmp .ge 7, 3) := by decide +kernel
theorem dX10_nextBlow_44 : decode cX10_nextBlow 44 = .ok (.iconst 1, 1) := by decide +kernel
theorem dX10_nextBlow_45 : decode cX10_nextBlow 45 = .ok (.goto 4, 3) := by decide +kernel
theorem dX10_nextBlow_48 : decode cX10_nextBlow 48 = .ok (.iconst 0, 1) := by decide +kernel
theorem dX10_nextBlow_49 : decode cX10_nextBlow 49 = .ok (.istore_n 2, 1) := by decide +kernel
theorem dX10_nextBlow_50 : decode cX10_nextBlow 50 = .ok (.iload_n 2, 1) := by decide +kernel
theorem dX10_nextBlow_51 : decode cX10_nextBlow 51 = .ok (.ifCond .ne 18, 3) := by decide +kernel
theorem dX10_nextBlow_54 : decode cX10_nextBlow 54 = .ok (.aload_n 0, 1) := by decide +kernel
theorem dX10_nextBlow_55 : decode cX10_nextBlow 55 = .ok (.getfield 7, 3) := by decide +kernel
theorem dX10_nextBlow_58 : decode cX10_nextBlow 58 = .ok (.bipush 11, 2) := by decide +kernel
theorem dX10_nextBlow_60 : decode cX10_nextBlow 60 = .ok (.iaload, 1) := by decide +kernel
theorem dX10_nextBlow_61 : decode cX10_nextBlow 61 = .ok (.ifCond .lt 30, 3) := by decide +kernel
theorem dX10_nextBlow_64 : decode cX10_nextBlow 64 = .ok (.iload_n 1, 1) := by decide +kernel
theorem dX10_nextBlow_65 : decode cX10_nextBlow 65 = .ok (.iconst 1, 1) := by decide +kernel
theorem dX10_nextBlow_66 : decode cX10_nextBlow 66 = .ok (.if_icmp .ne 25, 3) := by decide +kernel
theorem dX10_nextBlow_69 : decode cX10_nextBlow 69 = .ok (.aload_n 0, 1) := by decide +kernel
theorem dX10_nextBlow_70 : decode cX10_nextBlow 70 = .ok (.getfield 7, 3) := by decide +kernel
theorem dX10_nextBlow_73 : decode cX10_nextBlow 73 = .ok (.bipush 11, 2) := by decide +kernel
theorem dX10_nextBlow_75 : decode cX10_nextBlow 75 = .ok (.iaload, 1) := by decide +kernel
theorem dX10_nextBlow_76 : decode cX10_nextBlow 76 = .ok (.iload_n 1, 1) := by decide +kernel
theorem dX10_nextBlow_77 : decode cX10_nextBlow 77 = .ok (.iconst 1, 1) := by decide +kernel
theorem dX10_nextBlow_78 : decode cX10_nextBlow 78 = .ok (.isub, 1) := by decide +kernel
theorem dX10_nextBlow_79 : decode cX10_nextBlow 79 = .ok (.aload_n 0, 1) := by decide +kernel
theorem dX10_nextBlow_80 : decode cX10_nextBlow 80 = .ok (.getfield 7, 3) := by decide +kernel
theorem dX10_nextBlow_83 : decode cX10_nextBlow 83 = .ok (.bipush 10, 2) := by decide +kernel
theorem dX10_nextBlow_85 : decode cX10_nextBlow 85 = .ok (.iaload, 1) := by decide +kernel
theorem dX10_nextBlow_86 : decode cX10_nextBlow 86 = .ok (.imul, 1) := by decide +kernel
theorem dX10_nextBlow_87 : decode cX10_nextBlow 87 = .ok (.iadd, 1) := by decide +kernel
theorem dX10_nextBlow_88 : decode cX10_nextBlow 88 = .ok (.goto 5, 3) := by decide +kernel
theorem dX10_nextBlow_91 : decode cX10_nextBlow 91 = .ok (.bipush (-6), 2) := by decide +kernel
theorem dX10_nextBlow_93 : decode cX10_nextBlow 93 = .ok (.ireturn, 1) := by decide +kernel
set_option maxRecDepth 20000 in
theorem ggX10_ifHeard_X10_in : GoodIn wsX10_ifHeard wsX10_in := goodIn_r _ [5] (by decide +kernel) (by decide +kernel)
set_option maxRecDepth 20000 in
theorem gX10_ifHeard_X10_in : GoodIn wsX10_ifHeard (va_wsS RX10 98 yX10_in wsX10_in) := goodIn_app (goodIn_of _ (by decide +kernel)) ggX10_ifHeard_X10_in
set_option maxRecDepth 20000 in
theorem ggX10_ifHeard_X10_layAside : GoodIn wsX10_ifHeard wsX10_layAside := goodIn_r _ [9, 10, 1, 43, 44, 45, 46, 47, 48, 49, 50, 51, 52, 53, 54, 55, 56, 57, 58, 59, 60] (by decide +kernel) (by decide +kernel)
set_option maxRecDepth 20000 in
theorem gX10_ifHeard_X10_layAside : GoodIn wsX10_ifHeard (wsV RX10 131 RX10 yX10_layAside wsX10_layAside) := goodIn_app (goodIn_of _ (by decide +kernel)) ggX10_ifHeard_X10_layAside
set_option maxRecDepth 20000 in
theorem ggX10_ifHeard_X10_holdUpTo : GoodIn wsX10_ifHeard wsX10_holdUpTo := goodIn_r _ [14, 1, 15, 16, 17, 4, 18, 19, 20, 21, 22, 23, 24, 25, 26, 27, 28, 29, 30, 31, 32, 33, 34, 35, 36, 37, 38, 43, 44, 45, 46, 47, 48, 49, 50, 51, 52, 53, 54, 55, 56, 57, 58, 59, 60] (by decide +kernel) (by decide +kernel)
set_option maxRecDepth 20000 in
theorem gX10_ifHeard_X10_holdUpTo : GoodIn wsX10_ifHeard (wsV RX10 92 RX10 yX10_holdUpTo wsX10_holdUpTo) := goodIn_app (goodIn_of _ (by decide +kernel)) ggX10_ifHeard_X10_holdUpTo
set_option maxRecDepth 20000 in
theorem ggX10_ifHeard_X10_halfWindow : GoodIn wsX10_ifHeard wsX10_halfWindow := goodIn_r _ [18, 1, 43, 44, 45, 46, 47, 48, 49, 50, 51, 52, 53, 54, 55, 56, 57, 58, 59, 60] (by decide +kernel) (by decide +kernel)
set_option maxRecDepth 20000 in
theorem gX10_ifHeard_X10_halfWindow : GoodIn wsX10_ifHeard (wsV RX10 81 RX10 yX10_halfWindow wsX10_halfWindow) := goodIn_app (goodIn_of _ (by decide +kernel)) ggX10_ifHeard_X10_halfWindow
set_option maxRecDepth 20000 in
theorem ggX10_ifHeard_X10_layBack : GoodIn wsX10_ifHeard wsX10_layBack := goodIn_r _ [42, 1, 10, 43, 44, 45, 46, 47, 48, 49, 50, 51, 52, 53, 54, 55, 56, 57, 58, 59, 60] (by decide +kernel) (by decide +kernel)
set_option maxRecDepth 20000 in
theorem gX10_ifHeard_X10_layBack : GoodIn wsX10_ifHeard (wsV RX10 134 RX10 yX10_layBack wsX10_layBack) := goodIn_app (goodIn_of _ (by decide +kernel)) ggX10_ifHeard_X10_layBack
theorem dX10_ifHeard_0 : decode cX10_ifHeard 0 = .ok (.iload_n 1, 1) := by decide +kernel
theorem dX10_ifHeard_1 : decode cX10_ifHeard 1 = .ok (.iconst 1, 1) := by decide +kernel
theorem dX10_ifHeard_2 : decode cX10_ifHeard 2 = .ok (.sipush 9999, 3) := by decide +kernel
theorem dX10_ifHeard_5 : decode cX10_ifHeard 5 = .ok (.invokestatic 98, 3) := by decide +kernel
theorem dX10_ifHeard_8 : decode cX10_ifHeard 8 = .ok (.ifCond .ne 6, 3) := by decide +kernel
theorem dX10_ifHeard_11 : decode cX10_ifHeard 11 = .ok (.bipush (-2), 2) := by decide +kernel
theorem dX10_ifHeard_13 : decode cX10_ifHeard 13 = .ok (.ireturn, 1) := by decide +kernel
theorem dX10_ifHeard_14 : decode cX10_ifHeard 14 = .ok (.aload_n 0, 1) := by decide +kernel
theorem dX10_ifHeard_15 : decode cX10_ifHeard 15 = .ok (.invokevirtual 131, 3) := by decide +kernel
theorem dX10_ifHeard_18 : decode cX10_ifHeard 18 = .ok (.iconst 4, 1) := by decide +kernel
theorem dX10_ifHeard_19 : decode cX10_ifHeard 19 = .ok (.aload_n 0, 1) := by decide +kernel
theorem dX10_ifHeard_20 : decode cX10_ifHeard 20 = .ok (.getfield 7, 3) := by decide +kernel
theorem dX10_ifHeard_23 : decode cX10_ifHeard 23 = .ok (.bipush 8, 2) := by decide +kernel
theorem dX10_ifHeard_25 : decode cX10_ifHeard 25 = .ok (.iaload, 1) := by decide +kernel
theorem dX10_ifHeard_26 : decode cX10_ifHeard 26 = .ok (.iload_n 1, 1) := by decide +kernel
theorem dX10_ifHeard_27 : decode cX10_ifHeard 27 = .ok (.iadd, 1) := by decide +kernel
theorem dX10_ifHeard_28 : decode cX10_ifHeard 28 = .ok (.imul, 1) := by decide +kernel
theorem dX10_ifHeard_29 : decode cX10_ifHeard 29 = .ok (.istore_n 2, 1) := by decide +kernel
theorem dX10_ifHeard_30 : decode cX10_ifHeard 30 = .ok (.aload_n 0, 1) := by decide +kernel
theorem dX10_ifHeard_31 : decode cX10_ifHeard 31 = .ok (.iload_n 2, 1) := by decide +kernel
theorem dX10_ifHeard_32 : decode cX10_ifHeard 32 = .ok (.invokevirtual 92, 3) := by decide +kernel
theorem dX10_ifHeard_35 : decode cX10_ifHeard 35 = .ok (.aload_n 0, 1) := by decide +kernel
theorem dX10_ifHeard_36 : decode cX10_ifHeard 36 = .ok (.getfield 7, 3) := by decide +kernel
theorem dX10_ifHeard_39 : decode cX10_ifHeard 39 = .ok (.bipush 11, 2) := by decide +kernel
theorem dX10_ifHeard_41 : decode cX10_ifHeard 41 = .ok (.iaload, 1) := by decide +kernel
theorem dX10_ifHeard_42 : decode cX10_ifHeard 42 = .ok (.ifCond .ge 7, 3) := by decide +kernel
theorem dX10_ifHeard_45 : decode cX10_ifHeard 45 = .ok (.iconst 3, 1) := by decide +kernel
theorem dX10_ifHeard_46 : decode cX10_ifHeard 46 = .ok (.goto 25, 3) := by decide +kernel
theorem dX10_ifHeard_49 : decode cX10_ifHeard 49 = .ok (.iload_n 2, 1) := by decide +kernel
theorem dX10_ifHeard_50 : decode cX10_ifHeard 50 = .ok (.aload_n 0, 1) := by decide +kernel
theorem dX10_ifHeard_51 : decode cX10_ifHeard 51 = .ok (.getfield 7, 3) := by decide +kernel
theorem dX10_ifHeard_54 : decode cX10_ifHeard 54 = .ok (.bipush 11, 2) := by decide +kernel
theorem dX10_ifHeard_56 : decode cX10_ifHeard 56 = .ok (.iaload, 1) := by decide +kernel
theorem dX10_ifHeard_57 : decode cX10_ifHeard 57 = .ok (.isub, 1) := by decide +kernel
theorem dX10_ifHeard_58 : decode cX10_ifHeard 58 = .ok (.aload_n 0, 1) := by decide +kernel
theorem dX10_ifHeard_59 : decode cX10_ifHeard 59 = .ok (.invokevirtual 81, 3) := by decide +kernel
theorem dX10_ifHeard_62 : decode cX10_ifHeard 62 = .ok (.ineg, 1) := by decide +kernel
theorem dX10_ifHeard_63 : decode cX10_ifHeard 63 = .ok (.if_icmp .ge 7, 3) := by decide +kernel
theorem dX10_ifHeard_66 : decode cX10_ifHeard 66 = .ok (.iconst 1, 1) := by decide +kernel
theorem dX10_ifHeard_67 : decode cX10_ifHeard 67 = .ok (.goto 4, 3) := by decide +kernel
theorem dX10_ifHeard_70 : decode cX10_ifHeard 70 = .ok (.iconst 2, 1) := by decide +kernel
theorem dX10_ifHeard_71 : decode cX10_ifHeard 71 = .ok (.istore_n 3, 1) := by decide +kernel
theorem dX10_ifHeard_72 : decode cX10_ifHeard 72 = .ok (.aload_n 0, 1) := by decide +kernel
theorem dX10_ifHeard_73 : decode cX10_ifHeard 73 = .ok (.invokevirtual 134, 3) := by decide +kernel
theorem dX10_ifHeard_76 : decode cX10_ifHeard 76 = .ok (.iload_n 3, 1) := by decide +kernel
theorem dX10_ifHeard_77 : decode cX10_ifHeard 77 = .ok (.ireturn, 1) := by decide +kernel
set_option maxRecDepth 20000 in
theorem ggX10_playAll_X10_beginAnew : GoodIn wsX10_playAll wsX10_beginAnew := goodIn_r _ [7, 1, 8, 9, 10, 6, 11, 12, 13, 14, 15, 66, 67, 68, 69, 70, 71, 72, 73, 74, 75, 76, 77, 78, 79, 80, 81, 82, 83] (by decide +kernel) (by decide +kernel)
set_option maxRecDepth 20000 in
theorem gX10_playAll_X10_beginAnew : GoodIn wsX10_playAll (wsV RX10 125 RX10 yX10_beginAnew wsX10_beginAnew) := goodIn_app (goodIn_of _ (by decide +kernel)) ggX10_playAll_X10_beginAnew
set_option maxRecDepth 20000 in
theorem ggX10_playAll_X10_ofB : GoodIn wsX10_playAll wsX10_ofB := goodIn_r _ [19, 1, 66, 67, 68, 69, 70, 71, 72, 73, 74, 75, 76, 77, 78, 79, 80, 81, 82, 83] (by decide +kernel) (by decide +kernel)
set_option maxRecDepth 20000 in
theorem gX10_playAll_X10_ofB : GoodIn wsX10_playAll (wsV RX10 52 RX10 yX10_ofB wsX10_ofB) := goodIn_app (goodIn_of _ (by decide +kernel)) ggX10_playAll_X10_ofB
set_option maxRecDepth 20000 in
theorem ggX10_playAll_X10_holdUpTo : GoodIn wsX10_playAll wsX10_holdUpTo := goodIn_r _ [23, 1, 24, 25, 26, 6, 27, 28, 29, 30, 31, 32, 33, 34, 35, 36, 37, 38, 39, 40, 41, 42, 43, 44, 45, 46, 47, 66, 67, 68, 69, 70, 71, 72, 73, 74, 75, 76, 77, 78, 79, 80, 81, 82, 83] (by decide +kernel) (by decide +kernel)
set_option maxRecDepth 20000 in
theorem gX10_playAll_X10_holdUpTo : GoodIn wsX10_playAll (wsV RX10 92 RX10 yX10_holdUpTo wsX10_holdUpTo) := goodIn_app (goodIn_of _ (by decide +kernel)) ggX10_playAll_X10_holdUpTo
set_option maxRecDepth 20000 in
theorem ggX10_playAll_X10_hear : GoodIn wsX10_playAll wsX10_hear := goodIn_r _ [51, 1, 2, 52, 53, 54, 6, 55, 16, 17, 18, 19, 32, 33, 34, 35, 8, 9, 10, 11, 12, 13, 14, 15, 44, 45, 46, 47, 24, 25, 26, 27, 36, 37, 38, 39, 40, 41, 42, 43, 56, 57, 58, 59, 60, 61, 62, 63, 64, 65, 66, 67, 68, 69, 70, 71, 72, 73, 74, 75, 76, 77, 78, 79, 80, 81, 82, 83] (by decide +kernel) (by decide +kernel)
set_option maxRecDepth 20000 in
theorem gX10_playAll_X10_hear : GoodIn wsX10_playAll (wsV RX10 95 RX10 yX10_hear wsX10_hear) := goodIn_app (goodIn_of _ (by decide +kernel)) ggX10_playAll_X10_hear
theorem dX10_playAll_0 : decode cX10_playAll 0 = .ok (.aload_n 0, 1) := by decide +kernel
theorem dX10_playAll_1 : decode cX10_playAll 1 = .ok (.invokevirtual 125, 3) := by decide +kernel
theorem dX10_playAll_4 : decode cX10_playAll 4 = .ok (.aload_n 0, 1) := by decide +kernel
theorem dX10_playAll_5 : decode cX10_playAll 5 = .ok (.getfield 7, 3) := by decide +kernel
theorem dX10_playAll_8 : decode cX10_playAll 8 = .ok (.iconst 2, 1) := by decide +kernel
theorem dX10_playAll_9 : decode cX10_playAll 9 = .ok (.iload_n 1, 1) := by decide +kernel
theorem dX10_playAll_10 : decode cX10_playAll 10 = .ok (.iastore, 1) := by decide +kernel
theorem dX10_playAll_11 : decode cX10_playAll 11 = .ok (.aload_n 0, 1) := by decide +kernel
theorem dX10_playAll_12 : decode cX10_playAll 12 = .ok (.getfield 7, 3) := by decide +kernel
theorem dX10_playAll_15 : decode cX10_playAll 15 = .ok (.iconst 3, 1) := by decide +kernel
theorem dX10_playAll_16 : decode cX10_playAll 16 = .ok (.iload_n 2, 1) := by decide +kernel
theorem dX10_playAll_17 : decode cX10_playAll 17 = .ok (.iastore, 1) := by decide +kernel
theorem dX10_playAll_18 : decode cX10_playAll 18 = .ok (.aload_n 0, 1) := by decide +kernel
theorem dX10_playAll_19 : decode cX10_playAll 19 = .ok (.getfield 7, 3) := by decide +kernel
theorem dX10_playAll_22 : decode cX10_playAll 22 = .ok (.bipush 14, 2) := by decide +kernel
theorem dX10_playAll_24 : decode cX10_playAll 24 = .ok (.iaload, 1) := by decide +kernel
theorem dX10_playAll_25 : decode cX10_playAll 25 = .ok (.aload_n 0, 1) := by decide +kernel
theorem dX10_playAll_26 : decode cX10_playAll 26 = .ok (.getfield 7, 3) := by decide +kernel
theorem dX10_playAll_29 : decode cX10_playAll 29 = .ok (.bipush 22, 2) := by decide +kernel
theorem dX10_playAll_31 : decode cX10_playAll 31 = .ok (.iaload, 1) := by decide +kernel
theorem dX10_playAll_32 : decode cX10_playAll 32 = .ok (.if_icmp .ge 47, 3) := by decide +kernel
theorem dX10_playAll_35 : decode cX10_playAll 35 = .ok (.aload_n 0, 1) := by decide +kernel
theorem dX10_playAll_36 : decode cX10_playAll 36 = .ok (.aload_n 0, 1) := by decide +kernel
theorem dX10_playAll_37 : decode cX10_playAll 37 = .ok (.getfield 7, 3) := by decide +kernel
theorem dX10_playAll_40 : decode cX10_playAll 40 = .ok (.bipush 14, 2) := by decide +kernel
theorem dX10_playAll_42 : decode cX10_playAll 42 = .ok (.iaload, 1) := by decide +kernel
theorem dX10_playAll_43 : decode cX10_playAll 43 = .ok (.aload_n 0, 1) := by decide +kernel
theorem dX10_playAll_44 : decode cX10_playAll 44 = .ok (.getfield 26, 3) := by decide +kernel
theorem dX10_playAll_47 : decode cX10_playAll 47 = .ok (.if_icmp .ne 8, 3) := by decide +kernel
theorem dX10_playAll_50 : decode cX10_playAll 50 = .ok (.bipush (-6), 2) := by decide +kernel
theorem dX10_playAll_52 : decode cX10_playAll 52 = .ok (.goto 17, 3) := by decide +kernel
theorem dX10_playAll_55 : decode cX10_playAll 55 = .ok (.iconst 4, 1) := by decide +kernel
theorem dX10_playAll_56 : decode cX10_playAll 56 = .ok (.aload_n 0, 1) := by decide +kernel
theorem dX10_playAll_57 : decode cX10_playAll 57 = .ok (.aload_n 0, 1) := by decide +kernel
theorem dX10_playAll_58 : decode cX10_playAll 58 = .ok (.getfield 7, 3) := by decide +kernel
theorem dX10_playAll_61 : decode cX10_playAll 61 = .ok (.bipush 14, 2) := by decide +kernel
theorem dX10_playAll_63 : decode cX10_playAll 63 = .ok (.iaload, 1) := by decide +kernel
theorem dX10_playAll_64 : decode cX10_playAll 64 = .ok (.iconst 0, 1) := by decide +kernel
theorem dX10_playAll_65 : decode cX10_playAll 65 = .ok (.invokevirtual 52, 3) := by decide +kernel
theorem dX10_playAll_68 : decode cX10_playAll 68 = .ok (.imul, 1) := by decide +kernel
theorem dX10_playAll_69 : decode cX10_playAll 69 = .ok (.invokevirtual 92, 3) := by decide +kernel
theorem dX10_playAll_72 : decode cX10_playAll 72 = .ok (.aload_n 0, 1) := by decide +kernel
theorem dX10_playAll_73 : decode cX10_playAll 73 = .ok (.invokevirtual 95, 3) := by decide +kernel
theorem dX10_playAll_76 : decode cX10_playAll 76 = .ok (.goto (-58), 3) := by decide +kernel
theorem dX10_playAll_79 : decode cX10_playAll 79 = .ok (.return_, 1) := by decide +kernel
theorem dX10_ended_0 : decode cX10_ended 0 = .ok (.iload_n 1, 1) := by decide +kernel
theorem dX10_ended_1 : decode cX10_ended 1 = .ok (.tableswitch 63 0 3 #[31, 39, 47, 55], 31) := by decide +kernel
theorem dX10_ended_32 : decode cX10_ended 32 = .ok (.aload_n 0, 1) := by decide +kernel
theorem dX10_ended_33 : decode cX10_ended 33 = .ok (.getfield 7, 3) := by decide +kernel
theorem dX10_ended_36 : decode cX10_ended 36 = .ok (.bipush 26, 2) := by decide +kernel
theorem dX10_ended_38 : decode cX10_ended 38 = .ok (.iaload, 1) := by decide +kernel
theorem dX10_ended_39 : decode cX10_ended 39 = .ok (.ireturn, 1) := by decide +kernel
theorem dX10_ended_40 : decode cX10_ended 40 = .ok (.aload_n 0, 1) := by decide +kernel
theorem dX10_ended_41 : decode cX10_ended 41 = .ok (.getfield 7, 3) := by decide +kernel
theorem dX10_ended_44 : decode cX10_ended 44 = .ok (.bipush 15, 2) := by decide +kernel
theorem dX10_ended_46 : decode cX10_ended 46 = .ok (.iaload, 1) := by decide +kernel
theorem dX10_ended_47 : decode cX10_ended 47 = .ok (.ireturn, 1) := by decide +kernel
theorem dX10_ended_48 : decode cX10_ended 48 = .ok (.aload_n 0, 1) := by decide +kernel
theorem dX10_ended_49 : decode cX10_ended 49 = .ok (.getfield 7, 3) := by decide +kernel
theorem dX10_ended_52 : decode cX10_ended 52 = .ok (.bipush 13, 2) := by decide +kernel
theorem dX10_ended_54 : decode cX10_ended 54 = .ok (.iaload, 1) := by decide +kernel
theorem dX10_ended_55 : decode cX10_ended 55 = .ok (.ireturn, 1) := by decide +kernel
theorem dX10_ended_56 : decode cX10_ended 56 = .ok (.aload_n 0, 1) := by decide +kernel
theorem dX10_ended_57 : decode cX10_ended 57 = .ok (.getfield 7, 3) := by decide +kernel
theorem dX10_ended_60 : decode cX10_ended 60 = .ok (.bipush 18, 2) := by decide +kernel
theorem dX10_ended_62 : decode cX10_ended 62 = .ok (.iaload, 1) := by decide +kernel
theorem dX10_ended_63 : decode cX10_ended 63 = .ok (.ireturn, 1) := by decide +kernel
theorem dX10_ended_64 : decode cX10_ended 64 = .ok (.aload_n 0, 1) := by decide +kernel
theorem dX10_ended_65 : decode cX10_ended 65 = .ok (.getfield 7, 3) := by decide +kernel
theorem dX10_ended_68 : decode cX10_ended 68 = .ok (.bipush 27, 2) := by decide +kernel
theorem dX10_ended_70 : decode cX10_ended 70 = .ok (.iaload, 1) := by decide +kernel
theorem dX10_ended_71 : decode cX10_ended 71 = .ok (.ireturn, 1) := by decide +kernel
set_option maxRecDepth 20000 in
theorem ggX10_endWith_X10_in : GoodIn wsX10_endWith wsX10_in := goodIn_r _ [4] (by decide +kernel) (by decide +kernel)
set_option maxRecDepth 20000 in
theorem gX10_endWith_X10_in : GoodIn wsX10_endWith (va_wsS RX10 98 yX10_in wsX10_in) := goodIn_app (goodIn_of _ (by decide +kernel)) ggX10_endWith_X10_in
set_option maxRecDepth 20000 in
theorem ggX10_endWith_X10_layAside : GoodIn wsX10_endWith wsX10_layAside := goodIn_r _ [8, 9, 10, 86, 87, 88, 89, 90, 91, 92, 93, 94, 95, 96, 97, 98, 99, 100, 101, 102, 103] (by decide +kernel) (by decide +kernel)
set_option maxRecDepth 20000 in
theorem gX10_endWith_X10_layAside : GoodIn wsX10_endWith (wsV RX10 131 RX10 yX10_layAside wsX10_layAside) := goodIn_app (goodIn_of _ (by decide +kernel)) ggX10_endWith_X10_layAside
set_option maxRecDepth 20000 in
theorem ggX10_endWith_X10_playAll : GoodIn wsX10_endWith wsX10_playAll := goodIn_r _ [14, 10, 15, 16, 17, 18, 3, 19, 20, 21, 22, 23, 24, 25, 26, 27, 28, 29, 30, 31, 32, 33, 34, 35, 36, 37, 38, 39, 40, 41, 42, 43, 44, 45, 46, 47, 48, 49, 50, 51, 52, 53, 54, 55, 56, 57, 58, 59, 60, 61, 62, 63, 64, 65, 66, 67, 68, 69, 70, 71, 72, 73, 74, 75, 76, 77, 86, 87, 88, 89, 90, 91, 92, 93, 94, 95, 96, 97, 98, 99, 100, 101, 102, 103] (by decide +kernel) (by decide +kernel)
set_option maxRecDepth 20000 in
theorem gX10_endWith_X10_playAll : GoodIn wsX10_endWith (wsV RX10 137 RX10 yX10_playAll wsX10_playAll) := goodIn_app (goodIn_of _ (by decide +kernel)) ggX10_endWith_X10_playAll
set_option maxRecDepth 20000 in
theorem ggX10_endWith_X10_ended : GoodIn wsX10_endWith wsX10_ended := goodIn_r _ [81, 10, 86, 87, 88, 89, 90, 91, 92, 93, 94, 95, 96, 97, 98, 99, 100, 101, 102, 103] (by decide +kernel) (by decide +kernel)
set_option maxRecDepth 20000 in
theorem gX10_endWith_X10_ended : GoodIn wsX10_endWith (wsV RX10 140 RX10 yX10_ended wsX10_ended) := goodIn_app (goodIn_of _ (by decide +kernel)) ggX10_endWith_X10_ended
set_option maxRecDepth 20000 in
theorem ggX10_endWith_X10_layBack : GoodIn wsX10_endWith wsX10_layBack := goodIn_r _ [85, 10, 9, 86, 87, 88, 89, 90, 91, 92, 93, 94, 95, 96, 97, 98, 99, 100, 101, 102, 103] (by decide +kernel) (by decide +kernel)
set_option maxRecDepth 20000 in
theorem gX10_endWith_X10_layBack : GoodIn wsX10_endWith (wsV RX10 134 RX10 yX10_layBack wsX10_layBack) := goodIn_app (goodIn_of _ (by decide +kernel)) ggX10_endWith_X10_layBack
theorem dX10_endWith_0 : decode cX10_endWith 0 = .ok (.iload_n 1, 1) := by decide +kernel
theorem dX10_endWith_1 : decode cX10_endWith 1 = .ok (.iconst 0, 1) := by decide +kernel
theorem dX10_endWith_2 : decode cX10_endWith 2 = .ok (.bipush 16, 2) := by decide +kernel
theorem dX10_endWith_4 : decode cX10_endWith 4 = .ok (.invokestatic 98, 3) := by decide +kernel
theorem dX10_endWith_7 : decode cX10_endWith 7 = .ok (.ifCond .eq 22, 3) := by decide +kernel
theorem dX10_endWith_10 : decode cX10_endWith 10 = .ok (.iload_n 2, 1) := by decide +kernel
theorem dX10_endWith_11 : decode cX10_endWith 11 = .ok (.iconst 0, 1) := by decide +kernel
theorem dX10_endWith_12 : decode cX10_endWith 12 = .ok (.bipush 16, 2) := by decide +kernel
theorem dX10_endWith_14 : decode cX10_endWith 14 = .ok (.invokestatic 98, 3) := by decide +kernel
theorem dX10_endWith_17 : decode cX10_endWith 17 = .ok (.ifCond .eq 12, 3) := by decide +kernel
theorem dX10_endWith_20 : decode cX10_endWith 20 = .ok (.iload_n 3, 1) := by decide +kernel
theorem dX10_endWith_21 : decode cX10_endWith 21 = .ok (.iconst 0, 1) := by decide +kernel
theorem dX10_endWith_22 : decode cX10_endWith 22 = .ok (.iconst 4, 1) := by decide +kernel
theorem dX10_endWith_23 : decode cX10_endWith 23 = .ok (.invokestatic 98, 3) := by decide +kernel
theorem dX10_endWith_26 : decode cX10_endWith 26 = .ok (.ifCond .ne 6, 3) := by decide +kernel
theorem dX10_endWith_29 : decode cX10_endWith 29 = .ok (.bipush (-2), 2) := by decide +kernel
theorem dX10_endWith_31 : decode cX10_endWith 31 = .ok (.ireturn, 1) := by decide +kernel
theorem dX10_endWith_32 : decode cX10_endWith 32 = .ok (.aload_n 0, 1) := by decide +kernel
theorem dX10_endWith_33 : decode cX10_endWith 33 = .ok (.invokevirtual 131, 3) := by decide +kernel
theorem dX10_endWith_36 : decode cX10_endWith 36 = .ok (.aload_n 0, 1) := by decide +kernel
theorem dX10_endWith_37 : decode cX10_endWith 37 = .ok (.iload_n 1, 1) := by decide +kernel
theorem dX10_endWith_38 : decode cX10_endWith 38 = .ok (.iload_n 2, 1) := by decide +kernel
theorem dX10_endWith_39 : decode cX10_endWith 39 = .ok (.invokevirtual 137, 3) := by decide +kernel
theorem dX10_endWith_42 : decode cX10_endWith 42 = .ok (.aload_n 0, 1) := by decide +kernel
theorem dX10_endWith_43 : decode cX10_endWith 43 = .ok (.iload_n 3, 1) := by decide +kernel
theorem dX10_endWith_44 : decode cX10_endWith 44 = .ok (.invokevirtual 140, 3) := by decide +kernel
theorem dX10_endWith_47 : decode cX10_endWith 47 = .ok (.istore 4, 2) := by decide +kernel
theorem dX10_endWith_49 : decode cX10_endWith 49 = .ok (.aload_n 0, 1) := by decide +kernel
theorem dX10_endWith_50 : decode cX10_endWith 50 = .ok (.invokevirtual 134, 3) := by decide +kernel
theorem dX10_endWith_53 : decode cX10_endWith 53 = .ok (.iload 4, 2) := by decide +kernel
theorem dX10_endWith_55 : decode cX10_endWith 55 = .ok (.ireturn, 1) := by decide +kernel
set_option maxRecDepth 20000 in
theorem ggX10_bestNudge_X10_in : GoodIn wsX10_bestNudge wsX10_in := goodIn_r _ [5] (by decide +kernel) (by decide +kernel)
set_option maxRecDepth 20000 in
theorem gX10_bestNudge_X10_in : GoodIn wsX10_bestNudge (va_wsS RX10 98 yX10_in wsX10_in) := goodIn_app (goodIn_of _ (by decide +kernel)) ggX10_bestNudge_X10_in
set_option maxRecDepth 20000 in
theorem ggX10_bestNudge_X10_layAside : GoodIn wsX10_bestNudge wsX10_layAside := goodIn_r _ [9, 10, 1, 82, 83, 84, 85, 86, 87, 88, 89, 90, 91, 92, 93, 94, 95, 96, 97, 98, 99] (by decide +kernel) (by decide +kernel)
set_option maxRecDepth 20000 in
theorem gX10_bestNudge_X10_layAside : GoodIn wsX10_bestNudge (wsV RX10 131 RX10 yX10_layAside wsX10_layAside) := goodIn_app (goodIn_of _ (by decide +kernel)) ggX10_bestNudge_X10_layAside
set_option maxRecDepth 20000 in
theorem ggX10_bestNudge_X10_playAll : GoodIn wsX10_bestNudge wsX10_playAll := goodIn_r _ [14, 1, 15, 16, 17, 18, 4, 19, 20, 21, 22, 23, 24, 25, 26, 27, 28, 29, 30, 31, 32, 33, 34, 35, 36, 37, 38, 39, 40, 41, 42, 43, 44, 45, 46, 47, 48, 49, 50, 51, 52, 53, 54, 55, 56, 57, 58, 59, 60, 61, 62, 63, 64, 65, 66, 67, 68, 69, 70, 71, 72, 73, 74, 75, 76, 77, 82, 83, 84, 85, 86, 87, 88, 89, 90, 91, 92, 93, 94, 95, 96, 97, 98, 99] (by decide +kernel) (by decide +kernel)
set_option maxRecDepth 20000 in
theorem gX10_bestNudge_X10_playAll : GoodIn wsX10_bestNudge (wsV RX10 137 RX10 yX10_playAll wsX10_playAll) := goodIn_app (goodIn_of _ (by decide +kernel)) ggX10_bestNudge_X10_playAll
set_option maxRecDepth 20000 in
theorem ggX10_bestNudge_X10_layBack : GoodIn wsX10_bestNudge wsX10_layBack := goodIn_r _ [81, 1, 10, 82, 83, 84, 85, 86, 87, 88, 89, 90, 91, 92, 93, 94, 95, 96, 97, 98, 99] (by decide +kernel) (by decide +kernel)
set_option maxRecDepth 20000 in
theorem gX10_bestNudge_X10_layBack : GoodIn wsX10_bestNudge (wsV RX10 134 RX10 yX10_layBack wsX10_layBack) := goodIn_app (goodIn_of _ (by decide +kernel)) ggX10_bestNudge_X10_layBack
theorem dX10_bestNudge_0 : decode cX10_bestNudge 0 = .ok (.iload_n 1, 1) := by decide +kernel
theorem dX10_bestNudge_1 : decode cX10_bestNudge 1 = .ok (.iconst 2, 1) := by decide +kernel
theorem dX10_bestNudge_2 : decode cX10_bestNudge 2 = .ok (.iconst 3, 1) := by decide +kernel
theorem dX10_bestNudge_3 : decode cX10_bestNudge 3 = .ok (.invokestatic 98, 3) := by decide +kernel
theorem dX10_bestNudge_6 : decode cX10_bestNudge 6 = .ok (.ifCond .ne 6, 3) := by decide +kernel
theorem dX10_bestNudge_9 : decode cX10_bestNudge 9 = .ok (.bipush (-2), 2) := by decide +kernel
theorem dX10_bestNudge_11 : decode cX10_bestNudge 11 = .ok (.ireturn, 1) := by decide +kernel
theorem dX10_bestNudge_12 : decode cX10_bestNudge 12 = .ok (.bipush (-6), 2) := by decide +kernel
theorem dX10_bestNudge_14 : decode cX10_bestNudge 14 = .ok (.istore_n 2, 1) := by decide +kernel
theorem dX10_bestNudge_15 : decode cX10_bestNudge 15 = .ok (.iconst 0, 1) := by decide +kernel
theorem dX10_bestNudge_16 : decode cX10_bestNudge 16 = .ok (.istore_n 3, 1) := by decide +kernel
theorem dX10_bestNudge_17 : decode cX10_bestNudge 17 = .ok (.iconst 0, 1) := by decide +kernel
theorem dX10_bestNudge_18 : decode cX10_bestNudge 18 = .ok (.istore 4, 2) := by decide +kernel
theorem dX10_bestNudge_20 : decode cX10_bestNudge 20 = .ok (.iconst 0, 1) := by decide +kernel
theorem dX10_bestNudge_21 : decode cX10_bestNudge 21 = .ok (.istore 5, 2) := by decide +kernel
theorem dX10_bestNudge_23 : decode cX10_bestNudge 23 = .ok (.iload 5, 2) := by decide +kernel
theorem dX10_bestNudge_25 : decode cX10_bestNudge 25 = .ok (.bipush 16, 2) := by decide +kernel
theorem dX10_bestNudge_27 : decode cX10_bestNudge 27 = .ok (.if_icmp .gt 114, 3) := by decide +kernel
theorem dX10_bestNudge_30 : decode cX10_bestNudge 30 = .ok (.aload_n 0, 1) := by decide +kernel
theorem dX10_bestNudge_31 : decode cX10_bestNudge 31 = .ok (.getfield 7, 3) := by decide +kernel
theorem dX10_bestNudge_34 : decode cX10_bestNudge 34 = .ok (.bipush 22, 2) := by decide +kernel
theorem dX10_bestNudge_36 : decode cX10_bestNudge 36 = .ok (.iaload, 1) := by decide +kernel
theorem dX10_bestNudge_37 : decode cX10_bestNudge 37 = .ok (.ifCond .le 104, 3) := by decide +kernel
theorem dX10_bestNudge_40 : decode cX10_bestNudge 40 = .ok (.aload_n 0, 1) := by decide +kernel
theorem dX10_bestNudge_41 : decode cX10_bestNudge 41 = .ok (.invokevirtual 131, 3) := by decide +kernel
theorem dX10_bestNudge_44 : decode cX10_bestNudge 44 = .ok (.aload_n 0, 1) := by decide +kernel
theorem dX10_bestNudge_45 : decode cX10_bestNudge 45 = .ok (.iload_n 1, 1) := by decide +kernel
theorem dX10_bestNudge_46 : decode cX10_bestNudge 46 = .ok (.iconst 2, 1) := by decide +kernel
theorem dX10_bestNudge_47 : decode cX10_bestNudge 47 = .ok (.if_icmp .ne 8, 3) := by decide +kernel
theorem dX10_bestNudge_50 : decode cX10_bestNudge 50 = .ok (.iload 5, 2) := by decide +kernel
theorem dX10_bestNudge_52 : decode cX10_bestNudge 52 = .ok (.goto 9, 3) := by decide +kernel
theorem dX10_bestNudge_55 : decode cX10_bestNudge 55 = .ok (.aload_n 0, 1) := by decide +kernel
theorem dX10_bestNudge_56 : decode cX10_bestNudge 56 = .ok (.getfield 7, 3) := by decide +kernel
theorem dX10_bestNudge_59 : decode cX10_bestNudge 59 = .ok (.iconst 2, 1) := by decide +kernel
theorem dX10_bestNudge_60 : decode cX10_bestNudge 60 = .ok (.iaload, 1) := by decide +kernel
theorem dX10_bestNudge_61 : decode cX10_bestNudge 61 = .ok (.iload_n 1, 1) := by decide +kernel
theorem dX10_bestNudge_62 : decode cX10_bestNudge 62 = .ok (.iconst 3, 1) := by decide +kernel
theorem dX10_bestNudge_63 : decode cX10_bestNudge 63 = .ok (.if_icmp .ne 8, 3) := by decide +kernel
theorem dX10_bestNudge_66 : decode cX10_bestNudge 66 = .ok (.iload 5, 2) := by decide +kernel
theorem dX10_bestNudge_68 : decode cX10_bestNudge 68 = .ok (.goto 9, 3) := by decide +kernel
theorem dX10_bestNudge_71 : decode cX10_bestNudge 71 = .ok (.aload_n 0, 1) := by decide +kernel
theorem dX10_bestNudge_72 : decode cX10_bestNudge 72 = .ok (.getfield 7, 3) := by decide +kernel
theorem dX10_bestNudge_75 : decode cX10_bestNudge 75 = .ok (.iconst 3, 1) := by decide +kernel
theorem dX10_bestNudge_76 : decode cX10_bestNudge 76 = .ok (.iaload, 1) := by decide +kernel
theorem dX10_bestNudge_77 : decode cX10_bestNudge 77 = .ok (.invokevirtual 137, 3) := by decide +kernel
theorem dX10_bestNudge_80 : decode cX10_bestNudge 80 = .ok (.aload_n 0, 1) := by decide +kernel
theorem dX10_bestNudge_81 : decode cX10_bestNudge 81 = .ok (.getfield 7, 3) := by decide +kernel
theorem dX10_bestNudge_84 : decode cX10_bestNudge 84 = .ok (.bipush 18, 2) := by decide +kernel
theorem dX10_bestNudge_86 : decode cX10_bestNudge 86 = .ok (.iaload, 1) := by decide +kernel
theorem dX10_bestNudge_87 : decode cX10_bestNudge 87 = .ok (.istore 6, 2) := by decide +kernel
theorem dX10_bestNudge_89 : decode cX10_bestNudge 89 = .ok (.aload_n 0, 1) := by decide +kernel
theorem dX10_bestNudge_90 : decode cX10_bestNudge 90 = .ok (.getfield 7, 3) := by decide +kernel
theorem dX10_bestNudge_93 : decode cX10_bestNudge 93 = .ok (.bipush 26, 2) := by decide +kernel
theorem dX10_bestNudge_95 : decode cX10_bestNudge 95 = .ok (.iaload, 1) := by decide +kernel
theorem dX10_bestNudge_96 : decode cX10_bestNudge 96 = .ok (.istore 7, 2) := by decide +kernel
theorem dX10_bestNudge_98 : decode cX10_bestNudge 98 = .ok (.aload_n 0, 1) := by decide +kernel
theorem dX10_bestNudge_99 : decode cX10_bestNudge 99 = .ok (.invokevirtual 134, 3) := by decide +kernel
theorem dX10_bestNudge_102 : decode cX10_bestNudge 102 = .ok (.iload_n 2, 1) := by decide +kernel
theorem dX10_bestNudge_103 : decode cX10_bestNudge 103 = .ok (.ifCond .lt 22, 3) := by decide +kernel
theorem dX10_bestNudge_106 : decode cX10_bestNudge 106 = .ok (.iload 6, 2) := by decide +kernel
theorem dX10_bestNudge_108 : decode cX10_bestNudge 108 = .ok (.iload_n 3, 1) := by decide +kernel
theorem dX10_bestNudge_109 : decode cX10_bestNudge 109 = .ok (.if_icmp .lt 16, 3) := by decide +kernel
theorem dX10_bestNudge_112 : decode cX10_bestNudge 112 = .ok (.iload 6, 2) := by decide +kernel
theorem dX10_bestNudge_114 : decode cX10_bestNudge 114 = .ok (.iload_n 3, 1) := by decide +kernel
theorem dX10_bestNudge_115 : decode cX10_bestNudge 115 = .ok (.if_icmp .ne 20, 3) := by decide +kernel
theorem dX10_bestNudge_118 : decode cX10_bestNudge 118 = .ok (.iload 7, 2) := by decide +kernel
theorem dX10_bestNudge_120 : decode cX10_bestNudge 120 = .ok (.iload 4, 2) := by decide +kernel
theorem dX10_bestNudge_122 : decode cX10_bestNudge 122 = .ok (.if_icmp .ge 13, 3) := by decide +kernel
theorem dX10_bestNudge_125 : decode cX10_bestNudge 125 = .ok (.iload 5, 2) := by decide +kernel
theorem dX10_bestNudge_127 : decode cX10_bestNudge 127 = .ok (.istore_n 2, 1) := by decide +kernel
theorem dX10_bestNudge_128 : decode cX10_bestNudge 128 = .ok (.iload 6, 2) := by decide +kernel
theorem dX10_bestNudge_130 : decode cX10_bestNudge 130 = .ok (.istore_n 3, 1) := by decide +kernel
theorem dX10_bestNudge_131 : decode cX10_bestNudge 131 = .ok (.iload 7, 2) := by decide +kernel
theorem dX10_bestNudge_133 : decode cX10_bestNudge 133 = .ok (.istore 4, 2) := by decide +kernel
theorem dX10_bestNudge_135 : decode cX10_bestNudge 135 = .ok (.iinc 5 1, 3) := by decide +kernel
theorem dX10_bestNudge_138 : decode cX10_bestNudge 138 = .ok (.goto (-115), 3) := by decide +kernel
theorem dX10_bestNudge_141 : decode cX10_bestNudge 141 = .ok (.iload_n 2, 1) := by decide +kernel
theorem dX10_bestNudge_142 : decode cX10_bestNudge 142 = .ok (.ireturn, 1) := by decide +kernel
set_option maxRecDepth 20000 in
theorem ggX10_worstBeat_X10_in : GoodIn wsX10_worstBeat wsX10_in := goodIn_r _ [6] (by decide +kernel) (by decide +kernel)
set_option maxRecDepth 20000 in
theorem gX10_worstBeat_X10_in : GoodIn wsX10_worstBeat (va_wsS RX10 98 yX10_in wsX10_in) := goodIn_app (goodIn_of _ (by decide +kernel)) ggX10_worstBeat_X10_in
set_option maxRecDepth 20000 in
theorem ggX10_worstBeat_X10_layAside : GoodIn wsX10_worstBeat wsX10_layAside := goodIn_r _ [10, 11, 1, 82, 83, 84, 85, 86, 87, 88, 89, 90, 91, 92, 93, 94, 95, 96, 97, 98, 99] (by decide +kernel) (by decide +kernel)
set_option maxRecDepth 20000 in
theorem gX10_worstBeat_X10_layAside : GoodIn wsX10_worstBeat (wsV RX10 131 RX10 yX10_layAside wsX10_layAside) := goodIn_app (goodIn_of _ (by decide +kernel)) ggX10_worstBeat_X10_layAside
set_option maxRecDepth 20000 in
theorem ggX10_worstBeat_X10_playAll : GoodIn wsX10_worstBeat wsX10_playAll := goodIn_r _ [15, 1, 2, 16, 17, 18, 5, 19, 20, 21, 22, 23, 24, 25, 26, 27, 28, 29, 30, 31, 32, 33, 34, 35, 36, 37, 38, 39, 40, 41, 42, 43, 44, 45, 46, 47, 48, 49, 50, 51, 52, 53, 54, 55, 56, 57, 58, 59, 60, 61, 62, 63, 64, 65, 66, 67, 68, 69, 70, 71, 72, 73, 74, 75, 76, 77, 82, 83, 84, 85, 86, 87, 88, 89, 90, 91, 92, 93, 94, 95, 96, 97, 98, 99] (by decide +kernel) (by decide +kernel)
set_option maxRecDepth 20000 in
theorem gX10_worstBeat_X10_playAll : GoodIn wsX10_worstBeat (wsV RX10 137 RX10 yX10_playAll wsX10_playAll) := goodIn_app (goodIn_of _ (by decide +kernel)) ggX10_worstBeat_X10_playAll
set_option maxRecDepth 20000 in
theorem ggX10_worstBeat_X10_layBack : GoodIn wsX10_worstBeat wsX10_layBack := goodIn_r _ [81, 1, 11, 82, 83, 84, 85, 86, 87, 88, 89, 90, 91, 92, 93, 94, 95, 96, 97, 98, 99] (by decide +kernel) (by decide +kernel)
set_option maxRecDepth 20000 in
theorem gX10_worstBeat_X10_layBack : GoodIn wsX10_worstBeat (wsV RX10 134 RX10 yX10_layBack wsX10_layBack) := goodIn_app (goodIn_of _ (by decide +kernel)) ggX10_worstBeat_X10_layBack
theorem dX10_worstBeat_0 : decode cX10_worstBeat 0 = .ok (.iload_n 1, 1) := by decide +kernel
theorem dX10_worstBeat_1 : decode cX10_worstBeat 1 = .ok (.iconst 0, 1) := by decide +kernel
theorem dX10_worstBeat_2 : decode cX10_worstBeat 2 = .ok (.iconst 1, 1) := by decide +kernel
theorem dX10_worstBeat_3 : decode cX10_worstBeat 3 = .ok (.invokestatic 98, 3) := by decide +kernel
theorem dX10_worstBeat_6 : decode cX10_worstBeat 6 = .ok (.ifCond .ne 6, 3) := by decide +kernel
theorem dX10_worstBeat_9 : decode cX10_worstBeat 9 = .ok (.bipush (-2), 2) := by decide +kernel
theorem dX10_worstBeat_11 : decode cX10_worstBeat 11 = .ok (.ireturn, 1) := by decide +kernel
theorem dX10_worstBeat_12 : decode cX10_worstBeat 12 = .ok (.bipush (-6), 2) := by decide +kernel
theorem dX10_worstBeat_14 : decode cX10_worstBeat 14 = .ok (.istore_n 2, 1) := by decide +kernel
theorem dX10_worstBeat_15 : decode cX10_worstBeat 15 = .ok (.bipush (-6), 2) := by decide +kernel
theorem dX10_worstBeat_17 : decode cX10_worstBeat 17 = .ok (.istore_n 3, 1) := by decide +kernel
theorem dX10_worstBeat_18 : decode cX10_worstBeat 18 = .ok (.iconst 0, 1) := by decide +kernel
theorem dX10_worstBeat_19 : decode cX10_worstBeat 19 = .ok (.istore 4, 2) := by decide +kernel
theorem dX10_worstBeat_21 : decode cX10_worstBeat 21 = .ok (.iload 4, 2) := by decide +kernel
theorem dX10_worstBeat_23 : decode cX10_worstBeat 23 = .ok (.aload_n 0, 1) := by decide +kernel
theorem dX10_worstBeat_24 : decode cX10_worstBeat 24 = .ok (.getfield 7, 3) := by decide +kernel
theorem dX10_worstBeat_27 : decode cX10_worstBeat 27 = .ok (.bipush 22, 2) := by decide +kernel
theorem dX10_worstBeat_29 : decode cX10_worstBeat 29 = .ok (.iaload, 1) := by decide +kernel
theorem dX10_worstBeat_30 : decode cX10_worstBeat 30 = .ok (.if_icmp .ge 70, 3) := by decide +kernel
theorem dX10_worstBeat_33 : decode cX10_worstBeat 33 = .ok (.aload_n 0, 1) := by decide +kernel
theorem dX10_worstBeat_34 : decode cX10_worstBeat 34 = .ok (.invokevirtual 131, 3) := by decide +kernel
theorem dX10_worstBeat_37 : decode cX10_worstBeat 37 = .ok (.aload_n 0, 1) := by decide +kernel
theorem dX10_worstBeat_38 : decode cX10_worstBeat 38 = .ok (.iload 4, 2) := by decide +kernel
theorem dX10_worstBeat_40 : decode cX10_worstBeat 40 = .ok (.putfield 26, 3) := by decide +kernel
theorem dX10_worstBeat_43 : decode cX10_worstBeat 43 = .ok (.aload_n 0, 1) := by decide +kernel
theorem dX10_worstBeat_44 : decode cX10_worstBeat 44 = .ok (.aload_n 0, 1) := by decide +kernel
theorem dX10_worstBeat_45 : decode cX10_worstBeat 45 = .ok (.getfield 7, 3) := by decide +kernel
theorem dX10_worstBeat_48 : decode cX10_worstBeat 48 = .ok (.iconst 2, 1) := by decide +kernel
theorem dX10_worstBeat_49 : decode cX10_worstBeat 49 = .ok (.iaload, 1) := by decide +kernel
theorem dX10_worstBeat_50 : decode cX10_worstBeat 50 = .ok (.aload_n 0, 1) := by decide +kernel
theorem dX10_worstBeat_51 : decode cX10_worstBeat 51 = .ok (.getfield 7, 3) := by decide +kernel
theorem dX10_worstBeat_54 : decode cX10_worstBeat 54 = .ok (.iconst 3, 1) := by decide +kernel
theorem dX10_worstBeat_55 : decode cX10_worstBeat 55 = .ok (.iaload, 1) := by decide +kernel
theorem dX10_worstBeat_56 : decode cX10_worstBeat 56 = .ok (.invokevirtual 137, 3) := by decide +kernel
theorem dX10_worstBeat_59 : decode cX10_worstBeat 59 = .ok (.aload_n 0, 1) := by decide +kernel
theorem dX10_worstBeat_60 : decode cX10_worstBeat 60 = .ok (.bipush (-6), 2) := by decide +kernel
theorem dX10_worstBeat_62 : decode cX10_worstBeat 62 = .ok (.putfield 26, 3) := by decide +kernel
theorem dX10_worstBeat_65 : decode cX10_worstBeat 65 = .ok (.aload_n 0, 1) := by decide +kernel
theorem dX10_worstBeat_66 : decode cX10_worstBeat 66 = .ok (.getfield 7, 3) := by decide +kernel
theorem dX10_worstBeat_69 : decode cX10_worstBeat 69 = .ok (.bipush 18, 2) := by decide +kernel
theorem dX10_worstBeat_71 : decode cX10_worstBeat 71 = .ok (.iaload, 1) := by decide +kernel
theorem dX10_worstBeat_72 : decode cX10_worstBeat 72 = .ok (.istore 5, 2) := by decide +kernel
theorem dX10_worstBeat_74 : decode cX10_worstBeat 74 = .ok (.aload_n 0, 1) := by decide +kernel
theorem dX10_worstBeat_75 : decode cX10_worstBeat 75 = .ok (.invokevirtual 134, 3) := by decide +kernel
theorem dX10_worstBeat_78 : decode cX10_worstBeat 78 = .ok (.iload_n 2, 1) := by decide +kernel
theorem dX10_worstBeat_79 : decode cX10_worstBeat 79 = .ok (.ifCond .lt 9, 3) := by decide +kernel
theorem dX10_worstBeat_82 : decode cX10_worstBeat 82 = .ok (.iload 5, 2) := by decide +kernel
theorem dX10_worstBeat_84 : decode cX10_worstBeat 84 = .ok (.iload_n 3, 1) := by decide +kernel
theorem dX10_worstBeat_85 : decode cX10_worstBeat 85 = .ok (.if_icmp .ge 9, 3) := by decide +kernel
theorem dX10_worstBeat_88 : decode cX10_worstBeat 88 = .ok (.iload 4, 2) := by decide +kernel
theorem dX10_worstBeat_90 : decode cX10_worstBeat 90 = .ok (.istore_n 2, 1) := by decide +kernel
theorem dX10_worstBeat_91 : decode cX10_worstBeat 91 = .ok (.iload 5, 2) := by decide +kernel
theorem dX10_worstBeat_93 : decode cX10_worstBeat 93 = .ok (.istore_n 3, 1) := by decide +kernel
theorem dX10_worstBeat_94 : decode cX10_worstBeat 94 = .ok (.iinc 4 1, 3) := by decide +kernel
theorem dX10_worstBeat_97 : decode cX10_worstBeat 97 = .ok (.goto (-76), 3) := by decide +kernel
theorem dX10_worstBeat_100 : decode cX10_worstBeat 100 = .ok (.iload_n 1, 1) := by decide +kernel
theorem dX10_worstBeat_101 : decode cX10_worstBeat 101 = .ok (.ifCond .ne 7, 3) := by decide +kernel
theorem dX10_worstBeat_104 : decode cX10_worstBeat 104 = .ok (.iload_n 2, 1) := by decide +kernel
theorem dX10_worstBeat_105 : decode cX10_worstBeat 105 = .ok (.goto 4, 3) := by decide +kernel
theorem dX10_worstBeat_108 : decode cX10_worstBeat 108 = .ok (.iload_n 3, 1) := by decide +kernel
theorem dX10_worstBeat_109 : decode cX10_worstBeat 109 = .ok (.ireturn, 1) := by decide +kernel
set_option maxRecDepth 20000 in
theorem ggX10_put_X10_in : GoodIn wsX10_put wsX10_in := goodIn_r _ [7] (by decide +kernel) (by decide +kernel)
set_option maxRecDepth 20000 in
theorem gX10_put_X10_in : GoodIn wsX10_put (va_wsS RX10 98 yX10_in wsX10_in) := goodIn_app (goodIn_of _ (by decide +kernel)) ggX10_put_X10_in
theorem dX10_put_0 : decode cX10_put 0 = .ok (.iconst 0, 1) := by decide +kernel
theorem dX10_put_1 : decode cX10_put 1 = .ok (.istore_n 3, 1) := by decide +kernel
theorem dX10_put_2 : decode cX10_put 2 = .ok (.lload_n 1, 1) := by decide +kernel
theorem dX10_put_3 : decode cX10_put 3 = .ok (.lstore 4, 2) := by decide +kernel
theorem dX10_put_5 : decode cX10_put 5 = .ok (.iload_n 3, 1) := by decide +kernel
theorem dX10_put_6 : decode cX10_put 6 = .ok (.bipush 8, 2) := by decide +kernel
theorem dX10_put_8 : decode cX10_put 8 = .ok (.if_icmp .ge 47, 3) := by decide +kernel
theorem dX10_put_11 : decode cX10_put 11 = .ok (.lload 4, 2) := by decide +kernel
theorem dX10_put_13 : decode cX10_put 13 = .ok (.ldc2_w 143, 3) := by decide +kernel
theorem dX10_put_16 : decode cX10_put 16 = .ok (.land, 1) := by decide +kernel
theorem dX10_put_17 : decode cX10_put 17 = .ok (.lconst 0, 1) := by decide +kernel
theorem dX10_put_18 : decode cX10_put 18 = .ok (.lcmp, 1) := by decide +kernel
theorem dX10_put_19 : decode cX10_put 19 = .ok (.ifCond .eq 36, 3) := by decide +kernel
theorem dX10_put_22 : decode cX10_put 22 = .ok (.lload 4, 2) := by decide +kernel
theorem dX10_put_24 : decode cX10_put 24 = .ok (.ldc2_w 143, 3) := by decide +kernel
theorem dX10_put_27 : decode cX10_put 27 = .ok (.land, 1) := by decide +kernel
theorem dX10_put_28 : decode cX10_put 28 = .ok (.l2i, 1) := by decide +kernel
theorem dX10_put_29 : decode cX10_put 29 = .ok (.bipush 33, 2) := by decide +kernel
theorem dX10_put_31 : decode cX10_put 31 = .ok (.bipush 126, 2) := by decide +kernel
theorem dX10_put_33 : decode cX10_put 33 = .ok (.invokestatic 98, 3) := by decide +kernel
theorem dX10_put_36 : decode cX10_put 36 = .ok (.ifCond .ne 6, 3) := by decide +kernel
theorem dX10_put_39 : decode cX10_put 39 = .ok (.bipush (-2), 2) := by decide +kernel
theorem dX10_put_41 : decode cX10_put 41 = .ok (.ireturn, 1) := by decide +kernel
theorem dX10_put_42 : decode cX10_put 42 = .ok (.iinc 3 1, 3) := by decide +kernel
theorem dX10_put_45 : decode cX10_put 45 = .ok (.lload 4, 2) := by decide +kernel
theorem dX10_put_47 : decode cX10_put 47 = .ok (.bipush 8, 2) := by decide +kernel
theorem dX10_put_49 : decode cX10_put 49 = .ok (.lushr, 1) := by decide +kernel
theorem dX10_put_50 : decode cX10_put 50 = .ok (.lstore 4, 2) := by decide +kernel
theorem dX10_put_52 : decode cX10_put 52 = .ok (.goto (-47), 3) := by decide +kernel
theorem dX10_put_55 : decode cX10_put 55 = .ok (.iload_n 3, 1) := by decide +kernel
theorem dX10_put_56 : decode cX10_put 56 = .ok (.ifCond .eq 10, 3) := by decide +kernel
theorem dX10_put_59 : decode cX10_put 59 = .ok (.lload 4, 2) := by decide +kernel
theorem dX10_put_61 : decode cX10_put 61 = .ok (.lconst 0, 1) := by decide +kernel
theorem dX10_put_62 : decode cX10_put 62 = .ok (.lcmp, 1) := by decide +kernel
theorem dX10_put_63 : decode cX10_put 63 = .ok (.ifCond .eq 6, 3) := by decide +kernel
theorem dX10_put_66 : decode cX10_put 66 = .ok (.bipush (-2), 2) := by decide +kernel
theorem dX10_put_68 : decode cX10_put 68 = .ok (.ireturn, 1) := by decide +kernel
theorem dX10_put_69 : decode cX10_put 69 = .ok (.aload_n 0, 1) := by decide +kernel
theorem dX10_put_70 : decode cX10_put 70 = .ok (.getfield 128, 3) := by decide +kernel
theorem dX10_put_73 : decode cX10_put 73 = .ok (.iload_n 3, 1) := by decide +kernel
theorem dX10_put_74 : decode cX10_put 74 = .ok (.iadd, 1) := by decide +kernel
theorem dX10_put_75 : decode cX10_put 75 = .ok (.bipush 80, 2) := by decide +kernel
theorem dX10_put_77 : decode cX10_put 77 = .ok (.if_icmp .le 6, 3) := by decide +kernel
theorem dX10_put_80 : decode cX10_put 80 = .ok (.bipush (-4), 2) := by decide +kernel
theorem dX10_put_82 : decode cX10_put 82 = .ok (.ireturn, 1) := by decide +kernel
theorem dX10_put_83 : decode cX10_put 83 = .ok (.iconst 0, 1) := by decide +kernel
theorem dX10_put_84 : decode cX10_put 84 = .ok (.istore 6, 2) := by decide +kernel
theorem dX10_put_86 : decode cX10_put 86 = .ok (.iload 6, 2) := by decide +kernel
theorem dX10_put_88 : decode cX10_put 88 = .ok (.iload_n 3, 1) := by decide +kernel
theorem dX10_put_89 : decode cX10_put 89 = .ok (.if_icmp .ge 37, 3) := by decide +kernel
theorem dX10_put_92 : decode cX10_put 92 = .ok (.aload_n 0, 1) := by decide +kernel
theorem dX10_put_93 : decode cX10_put 93 = .ok (.getfield 30, 3) := by decide +kernel
theorem dX10_put_96 : decode cX10_put 96 = .ok (.aload_n 0, 1) := by decide +kernel
theorem dX10_put_97 : decode cX10_put 97 = .ok (.getfield 128, 3) := by decide +kernel
theorem dX10_put_100 : decode cX10_put 100 = .ok (.iload 6, 2) := by decide +kernel
theorem dX10_put_102 : decode cX10_put 102 = .ok (.iadd, 1) := by decide +kernel
theorem dX10_put_103 : decode cX10_put 103 = .ok (.lload_n 1, 1) := by decide +kernel
theorem dX10_put_104 : decode cX10_put 104 = .ok (.bipush 8, 2) := by decide +kernel
theorem dX10_put_106 : decode cX10_put 106 = .ok (.iload_n 3, 1) := by decide +kernel
theorem dX10_put_107 : decode cX10_put 107 = .ok (.iconst 1, 1) := by decide +kernel
theorem dX10_put_108 : decode cX10_put 108 = .ok (.isub, 1) := by decide +kernel
theorem dX10_put_109 : decode cX10_put 109 = .ok (.iload 6, 2) := by decide +kernel
theorem dX10_put_111 : decode cX10_put 111 = .ok (.isub, 1) := by decide +kernel
theorem dX10_put_112 : decode cX10_put 112 = .ok (.imul, 1) := by decide +kernel
theorem dX10_put_113 : decode cX10_put 113 = .ok (.lshr, 1) := by decide +kernel
theorem dX10_put_114 : decode cX10_put 114 = .ok (.ldc2_w 143, 3) := by decide +kernel
theorem dX10_put_117 : decode cX10_put 117 = .ok (.land, 1) := by decide +kernel
theorem dX10_put_118 : decode cX10_put 118 = .ok (.l2i, 1) := by decide +kernel
theorem dX10_put_119 : decode cX10_put 119 = .ok (.iastore, 1) := by decide +kernel
theorem dX10_put_120 : decode cX10_put 120 = .ok (.iinc 6 1, 3) := by decide +kernel
theorem dX10_put_123 : decode cX10_put 123 = .ok (.goto (-37), 3) := by decide +kernel
theorem dX10_put_126 : decode cX10_put 126 = .ok (.aload_n 0, 1) := by decide +kernel
theorem dX10_put_127 : decode cX10_put 127 = .ok (.dup, 1) := by decide +kernel
theorem dX10_put_128 : decode cX10_put 128 = .ok (.getfield 128, 3) := by decide +kernel
theorem dX10_put_131 : decode cX10_put 131 = .ok (.iload_n 3, 1) := by decide +kernel
theorem dX10_put_132 : decode cX10_put 132 = .ok (.iadd, 1) := by decide +kernel
theorem dX10_put_133 : decode cX10_put 133 = .ok (.putfield 128, 3) := by decide +kernel
theorem dX10_put_136 : decode cX10_put 136 = .ok (.aload_n 0, 1) := by decide +kernel
theorem dX10_put_137 : decode cX10_put 137 = .ok (.getfield 128, 3) := by decide +kernel
theorem dX10_put_140 : decode cX10_put 140 = .ok (.ireturn, 1) := by decide +kernel
theorem dX10_wipe_0 : decode cX10_wipe 0 = .ok (.aload_n 0, 1) := by decide +kernel
theorem dX10_wipe_1 : decode cX10_wipe 1 = .ok (.getfield 128, 3) := by decide +kernel
theorem dX10_wipe_4 : decode cX10_wipe 4 = .ok (.istore_n 1, 1) := by decide +kernel
theorem dX10_wipe_5 : decode cX10_wipe 5 = .ok (.aload_n 0, 1) := by decide +kernel
theorem dX10_wipe_6 : decode cX10_wipe 6 = .ok (.iconst 0, 1) := by decide +kernel
theorem dX10_wipe_7 : decode cX10_wipe 7 = .ok (.putfield 128, 3) := by decide +kernel
theorem dX10_wipe_10 : decode cX10_wipe 10 = .ok (.iload_n 1, 1) := by decide +kernel
theorem dX10_wipe_11 : decode cX10_wipe 11 = .ok (.ireturn, 1) := by decide +kernel
theorem dX10_next_0 : decode cX10_next 0 = .ok (.aload_n 0, 1) := by decide +kernel
theorem dX10_next_1 : decode cX10_next 1 = .ok (.getfield 145, 3) := by decide +kernel
theorem dX10_next_4 : decode cX10_next 4 = .ok (.aload_n 0, 1) := by decide +kernel
theorem dX10_next_5 : decode cX10_next 5 = .ok (.getfield 128, 3) := by decide +kernel
theorem dX10_next_8 : decode cX10_next 8 = .ok (.if_icmp .ge 15, 3) := by decide +kernel
theorem dX10_next_11 : decode cX10_next 11 = .ok (.aload_n 0, 1) := by decide +kernel
theorem dX10_next_12 : decode cX10_next 12 = .ok (.getfield 30, 3) := by decide +kernel
theorem dX10_next_15 : decode cX10_next 15 = .ok (.aload_n 0, 1) := by decide +kernel
theorem dX10_next_16 : decode cX10_next 16 = .ok (.getfield 145, 3) := by decide +kernel
theorem dX10_next_19 : decode cX10_next 19 = .ok (.iaload, 1) := by decide +kernel
theorem dX10_next_20 : decode cX10_next 20 = .ok (.goto 4, 3) := by decide +kernel
theorem dX10_next_23 : decode cX10_next 23 = .ok (.iconst 0, 1) := by decide +kernel
theorem dX10_next_24 : decode cX10_next 24 = .ok (.ireturn, 1) := by decide +kernel
set_option maxRecDepth 20000 in
theorem ggX10_takeSign_X10_next : GoodIn wsX10_takeSign wsX10_next := goodIn_r _ [7, 2, 8, 9, 10, 11, 12, 13, 14, 15, 16, 17, 18, 19, 20, 21, 22, 23, 24, 25, 26, 27] (by decide +kernel) (by decide +kernel)
set_option maxRecDepth 20000 in
theorem gX10_takeSign_X10_next : GoodIn wsX10_takeSign (wsV RX10 152 RX10 yX10_next wsX10_next) := goodIn_app (goodIn_of _ (by decide +kernel)) ggX10_takeSign_X10_next
theorem dX10_takeSign_0 : decode cX10_takeSign 0 = .ok (.aload_n 0, 1) := by decide +kernel
theorem dX10_takeSign_1 : decode cX10_takeSign 1 = .ok (.aload_n 0, 1) := by decide +kernel
theorem dX10_takeSign_2 : decode cX10_takeSign 2 = .ok (.getfield 148, 3) := by decide +kernel
theorem dX10_takeSign_5 : decode cX10_takeSign 5 = .ok (.ifCond .ne 11, 3) := by decide +kernel
theorem dX10_takeSign_8 : decode cX10_takeSign 8 = .ok (.aload_n 0, 1) := by decide +kernel
theorem dX10_takeSign_9 : decode cX10_takeSign 9 = .ok (.invokevirtual 152, 3) := by decide +kernel
theorem dX10_takeSign_12 : decode cX10_takeSign 12 = .ok (.iload_n 1, 1) := by decide +kernel
theorem dX10_takeSign_13 : decode cX10_takeSign 13 = .ok (.if_icmp .eq 7, 3) := by decide +kernel
theorem dX10_takeSign_16 : decode cX10_takeSign 16 = .ok (.iconst 1, 1) := by decide +kernel
theorem dX10_takeSign_17 : decode cX10_takeSign 17 = .ok (.goto 4, 3) := by decide +kernel
theorem dX10_takeSign_20 : decode cX10_takeSign 20 = .ok (.iconst 0, 1) := by decide +kernel
theorem dX10_takeSign_21 : decode cX10_takeSign 21 = .ok (.putfield 148, 3) := by decide +kernel
theorem dX10_takeSign_24 : decode cX10_takeSign 24 = .ok (.aload_n 0, 1) := by decide +kernel
theorem dX10_takeSign_25 : decode cX10_takeSign 25 = .ok (.dup, 1) := by decide +kernel
theorem dX10_takeSign_26 : decode cX10_takeSign 26 = .ok (.getfield 145, 3) := by decide +kernel
theorem dX10_takeSign_29 : decode cX10_takeSign 29 = .ok (.aload_n 0, 1) := by decide +kernel
theorem dX10_takeSign_30 : decode cX10_takeSign 30 = .ok (.getfield 148, 3) := by decide +kernel
theorem dX10_takeSign_33 : decode cX10_takeSign 33 = .ok (.ifCond .eq 7, 3) := by decide +kernel
theorem dX10_takeSign_36 : decode cX10_takeSign 36 = .ok (.iconst 0, 1) := by decide +kernel
theorem dX10_takeSign_37 : decode cX10_takeSign 37 = .ok (.goto 4, 3) := by decide +kernel
theorem dX10_takeSign_40 : decode cX10_takeSign 40 = .ok (.iconst 1, 1) := by decide +kernel
theorem dX10_takeSign_41 : decode cX10_takeSign 41 = .ok (.iadd, 1) := by decide +kernel
theorem dX10_takeSign_42 : decode cX10_takeSign 42 = .ok (.putfield 145, 3) := by decide +kernel
theorem dX10_takeSign_45 : decode cX10_takeSign 45 = .ok (.return_, 1) := by decide +kernel
set_option maxRecDepth 20000 in
theorem ggX10_takeNumber_X10_next : GoodIn wsX10_takeNumber wsX10_next := goodIn_r _ [8, 3, 9, 10, 14, 15, 16, 17, 18, 19, 20, 21, 22, 23, 24, 25, 26, 27, 28, 29, 30, 31] (by decide +kernel) (by decide +kernel)
set_option maxRecDepth 20000 in
theorem gX10_takeNumber_X10_next : GoodIn wsX10_takeNumber (wsV RX10 152 RX10 yX10_next wsX10_next) := goodIn_app (goodIn_of _ (by decide +kernel)) ggX10_takeNumber_X10_next
set_option maxRecDepth 20000 in
theorem ggX10_takeNumber_X10_in : GoodIn wsX10_takeNumber wsX10_in := goodIn_r _ [13] (by decide +kernel) (by decide +kernel)
set_option maxRecDepth 20000 in
theorem gX10_takeNumber_X10_in : GoodIn wsX10_takeNumber (va_wsS RX10 98 yX10_in wsX10_in) := goodIn_app (goodIn_of _ (by decide +kernel)) ggX10_takeNumber_X10_in
theorem dX10_takeNumber_0 : decode cX10_takeNumber 0 = .ok (.aload_n 0, 1) := by decide +kernel
theorem dX10_takeNumber_1 : decode cX10_takeNumber 1 = .ok (.aload_n 0, 1) := by decide +kernel
theorem dX10_takeNumber_2 : decode cX10_takeNumber 2 = .ok (.getfield 148, 3) := by decide +kernel
theorem dX10_takeNumber_5 : decode cX10_takeNumber 5 = .ok (.ifCond .ne 17, 3) := by decide +kernel
theorem dX10_takeNumber_8 : decode cX10_takeNumber 8 = .ok (.aload_n 0, 1) := by decide +kernel
theorem dX10_takeNumber_9 : decode cX10_takeNumber 9 = .ok (.invokevirtual 152, 3) := by decide +kernel
theorem dX10_takeNumber_12 : decode cX10_takeNumber 12 = .ok (.bipush 48, 2) := by decide +kernel
theorem dX10_takeNumber_14 : decode cX10_takeNumber 14 = .ok (.bipush 57, 2) := by decide +kernel
theorem dX10_takeNumber_16 : decode cX10_takeNumber 16 = .ok (.invokestatic 98, 3) := by decide +kernel
theorem dX10_takeNumber_19 : decode cX10_takeNumber 19 = .ok (.ifCond .ne 7, 3) := by decide +kernel
theorem dX10_takeNumber_22 : decode cX10_takeNumber 22 = .ok (.iconst 1, 1) := by decide +kernel
theorem dX10_takeNumber_23 : decode cX10_takeNumber 23 = .ok (.goto 4, 3) := by decide +kernel
theorem dX10_takeNumber_26 : decode cX10_takeNumber 26 = .ok (.iconst 0, 1) := by decide +kernel
theorem dX10_takeNumber_27 : decode cX10_takeNumber 27 = .ok (.putfield 148, 3) := by decide +kernel
theorem dX10_takeNumber_30 : decode cX10_takeNumber 30 = .ok (.aload_n 0, 1) := by decide +kernel
theorem dX10_takeNumber_31 : decode cX10_takeNumber 31 = .ok (.getfield 148, 3) := by decide +kernel
theorem dX10_takeNumber_34 : decode cX10_takeNumber 34 = .ok (.ifCond .eq 4, 3) := by decide +kernel
theorem dX10_takeNumber_37 : decode cX10_takeNumber 37 = .ok (.return_, 1) := by decide +kernel
theorem dX10_takeNumber_38 : decode cX10_takeNumber 38 = .ok (.aload_n 0, 1) := by decide +kernel
theorem dX10_takeNumber_39 : decode cX10_takeNumber 39 = .ok (.aload_n 0, 1) := by decide +kernel
theorem dX10_takeNumber_40 : decode cX10_takeNumber 40 = .ok (.invokevirtual 152, 3) := by decide +kernel
theorem dX10_takeNumber_43 : decode cX10_takeNumber 43 = .ok (.bipush 48, 2) := by decide +kernel
theorem dX10_takeNumber_45 : decode cX10_takeNumber 45 = .ok (.isub, 1) := by decide +kernel
theorem dX10_takeNumber_46 : decode cX10_takeNumber 46 = .ok (.putfield 155, 3) := by decide +kernel
theorem dX10_takeNumber_49 : decode cX10_takeNumber 49 = .ok (.aload_n 0, 1) := by decide +kernel
theorem dX10_takeNumber_50 : decode cX10_takeNumber 50 = .ok (.dup, 1) := by decide +kernel
theorem dX10_takeNumber_51 : decode cX10_takeNumber 51 = .ok (.getfield 145, 3) := by decide +kernel
theorem dX10_takeNumber_54 : decode cX10_takeNumber 54 = .ok (.iconst 1, 1) := by decide +kernel
theorem dX10_takeNumber_55 : decode cX10_takeNumber 55 = .ok (.iadd, 1) := by decide +kernel
theorem dX10_takeNumber_56 : decode cX10_takeNumber 56 = .ok (.putfield 145, 3) := by decide +kernel
theorem dX10_takeNumber_59 : decode cX10_takeNumber 59 = .ok (.aload_n 0, 1) := by decide +kernel
theorem dX10_takeNumber_60 : decode cX10_takeNumber 60 = .ok (.getfield 148, 3) := by decide +kernel
theorem dX10_takeNumber_63 : decode cX10_takeNumber 63 = .ok (.ifCond .ne 109, 3) := by decide +kernel
theorem dX10_takeNumber_66 : decode cX10_takeNumber 66 = .ok (.aload_n 0, 1) := by decide +kernel
theorem dX10_takeNumber_67 : decode cX10_takeNumber 67 = .ok (.getfield 155, 3) := by decide +kernel
theorem dX10_takeNumber_70 : decode cX10_takeNumber 70 = .ok (.ifCond .le 102, 3) := by decide +kernel
theorem dX10_takeNumber_73 : decode cX10_takeNumber 73 = .ok (.aload_n 0, 1) := by decide +kernel
theorem dX10_takeNumber_74 : decode cX10_takeNumber 74 = .ok (.invokevirtual 152, 3) := by decide +kernel
theorem dX10_takeNumber_77 : decode cX10_takeNumber 77 = .ok (.bipush 48, 2) := by decide +kernel
theorem dX10_takeNumber_79 : decode cX10_takeNumber 79 = .ok (.bipush 57, 2) := by decide +kernel
theorem dX10_takeNumber_81 : decode cX10_takeNumber 81 = .ok (.invokestatic 98, 3) := by decide +kernel
theorem dX10_takeNumber_84 : decode cX10_takeNumber 84 = .ok (.ifCond .eq 88, 3) := by decide +kernel
theorem dX10_takeNumber_87 : decode cX10_takeNumber 87 = .ok (.aload_n 0, 1) := by decide +kernel
theorem dX10_takeNumber_88 : decode cX10_takeNumber 88 = .ok (.bipush 10, 2) := by decide +kernel
theorem dX10_takeNumber_90 : decode cX10_takeNumber 90 = .ok (.aload_n 0, 1) := by decide +kernel
theorem dX10_takeNumber_91 : decode cX10_takeNumber 91 = .ok (.getfield 155, 3) := by decide +kernel
theorem dX10_takeNumber_94 : decode cX10_takeNumber 94 = .ok (.imul, 1) := by decide +kernel
theorem dX10_takeNumber_95 : decode cX10_takeNumber 95 = .ok (.aload_n 0, 1) := by decide +kernel
theorem dX10_takeNumber_96 : decode cX10_takeNumber 96 = .ok (.invokevirtual 152, 3) := by decide +kernel
theorem dX10_takeNumber_99 : decode cX10_takeNumber 99 = .ok (.iadd, 1) := by decide +kernel
theorem dX10_takeNumber_100 : decode cX10_takeNumber 100 = .ok (.bipush 48, 2) := by decide +kernel
theorem dX10_takeNumber_102 : decode cX10_takeNumber 102 = .ok (.isub, 1) := by decide +kernel
theorem dX10_takeNumber_103 : decode cX10_takeNumber 103 = .ok (.iload_n 2, 1) := by decide +kernel
theorem dX10_takeNumber_104 : decode cX10_takeNumber 104 = .ok (.if_icmp .le 7, 3) := by decide +kernel
theorem dX10_takeNumber_107 : decode cX10_takeNumber 107 = .ok (.iconst 1, 1) := by decide +kernel
theorem dX10_takeNumber_108 : decode cX10_takeNumber 108 = .ok (.goto 4, 3) := by decide +kernel
theorem dX10_takeNumber_111 : decode cX10_takeNumber 111 = .ok (.iconst 0, 1) := by decide +kernel
theorem dX10_takeNumber_112 : decode cX10_takeNumber 112 = .ok (.putfield 148, 3) := by decide +kernel
theorem dX10_takeNumber_115 : decode cX10_takeNumber 115 = .ok (.aload_n 0, 1) := by decide +kernel
theorem dX10_takeNumber_116 : decode cX10_takeNumber 116 = .ok (.aload_n 0, 1) := by decide +kernel
theorem dX10_takeNumber_117 : decode cX10_takeNumber 117 = .ok (.getfield 148, 3) := by decide +kernel
theorem dX10_takeNumber_120 : decode cX10_takeNumber 120 = .ok (.ifCond .eq 10, 3) := by decide +kernel
theorem dX10_takeNumber_123 : decode cX10_takeNumber 123 = .ok (.aload_n 0, 1) := by decide +kernel
theorem dX10_takeNumber_124 : decode cX10_takeNumber 124 = .ok (.getfield 155, 3) := by decide +kernel
theorem dX10_takeNumber_127 : decode cX10_takeNumber 127 = .ok (.goto 18, 3) := by decide +kernel
theorem dX10_takeNumber_130 : decode cX10_takeNumber 130 = .ok (.bipush 10, 2) := by decide +kernel
theorem dX10_takeNumber_132 : decode cX10_takeNumber 132 = .ok (.aload_n 0, 1) := by decide +kernel
theorem dX10_takeNumber_133 : decode cX10_takeNumber 133 = .ok (.getfield 155, 3) := by decide +kernel
theorem dX10_takeNumber_136 : decode cX10_takeNumber 136 = .ok (.imul, 1) := by decide +kernel
theorem dX10_takeNumber_137 : decode cX10_takeNumber 137 = .ok (.aload_n 0, 1) := by decide +kernel
theorem dX10_takeNumber_138 : decode cX10_takeNumber 138 = .ok (.invokevirtual 152, 3) := by decide +kernel
theorem dX10_takeNumber_141 : decode cX10_takeNumber 141 = .ok (.iadd, 1) := by decide +kernel
theorem dX10_takeNumber_142 : decode cX10_takeNumber 142 = .ok (.bipush 48, 2) := by decide +kernel
theorem dX10_takeNumber_144 : decode cX10_takeNumber 144 = .ok (.isub, 1) := by decide +kernel
theorem dX10_takeNumber_145 : decode cX10_takeNumber 145 = .ok (.putfield 155, 3) := by decide +kernel
theorem dX10_takeNumber_148 : decode cX10_takeNumber 148 = .ok (.aload_n 0, 1) := by decide +kernel
theorem dX10_takeNumber_149 : decode cX10_takeNumber 149 = .ok (.dup, 1) := by decide +kernel
theorem dX10_takeNumber_150 : decode cX10_takeNumber 150 = .ok (.getfield 145, 3) := by decide +kernel
theorem dX10_takeNumber_153 : decode cX10_takeNumber 153 = .ok (.aload_n 0, 1) := by decide +kernel
theorem dX10_takeNumber_154 : decode cX10_takeNumber 154 = .ok (.getfield 148, 3) := by decide +kernel
theorem dX10_takeNumber_157 : decode cX10_takeNumber 157 = .ok (.ifCond .eq 7, 3) := by decide +kernel
theorem dX10_takeNumber_160 : decode cX10_takeNumber 160 = .ok (.iconst 0, 1) := by decide +kernel
theorem dX10_takeNumber_161 : decode cX10_takeNumber 161 = .ok (.goto 4, 3) := by decide +kernel
theorem dX10_takeNumber_164 : decode cX10_takeNumber 164 = .ok (.iconst 1, 1) := by decide +kernel
theorem dX10_takeNumber_165 : decode cX10_takeNumber 165 = .ok (.iadd, 1) := by decide +kernel
theorem dX10_takeNumber_166 : decode cX10_takeNumber 166 = .ok (.putfield 145, 3) := by decide +kernel
theorem dX10_takeNumber_169 : decode cX10_takeNumber 169 = .ok (.goto (-110), 3) := by decide +kernel
theorem dX10_takeNumber_172 : decode cX10_takeNumber 172 = .ok (.aload_n 0, 1) := by decide +kernel
theorem dX10_takeNumber_173 : decode cX10_takeNumber 173 = .ok (.aload_n 0, 1) := by decide +kernel
theorem dX10_takeNumber_174 : decode cX10_takeNumber 174 = .ok (.getfield 148, 3) := by decide +kernel
theorem dX10_takeNumber_177 : decode cX10_takeNumber 177 = .ok (.ifCond .ne 11, 3) := by decide +kernel
theorem dX10_takeNumber_180 : decode cX10_takeNumber 180 = .ok (.aload_n 0, 1) := by decide +kernel
theorem dX10_takeNumber_181 : decode cX10_takeNumber 181 = .ok (.getfield 155, 3) := by decide +kernel
theorem dX10_takeNumber_184 : decode cX10_takeNumber 184 = .ok (.iload_n 1, 1) := by decide +kernel
theorem dX10_takeNumber_185 : decode cX10_takeNumber 185 = .ok (.if_icmp .ge 7, 3) := by decide +kernel
theorem dX10_takeNumber_188 : decode cX10_takeNumber 188 = .ok (.iconst 1, 1) := by decide +kernel
theorem dX10_takeNumber_189 : decode cX10_takeNumber 189 = .ok (.goto 4, 3) := by decide +kernel
theorem dX10_takeNumber_192 : decode cX10_takeNumber 192 = .ok (.iconst 0, 1) := by decide +kernel
theorem dX10_takeNumber_193 : decode cX10_takeNumber 193 = .ok (.putfield 148, 3) := by decide +kernel
theorem dX10_takeNumber_196 : decode cX10_takeNumber 196 = .ok (.return_, 1) := by decide +kernel
theorem dX10_enterBeat_0 : decode cX10_enterBeat 0 = .ok (.aload_n 0, 1) := by decide +kernel
theorem dX10_enterBeat_1 : decode cX10_enterBeat 1 = .ok (.getfield 158, 3) := by decide +kernel
theorem dX10_enterBeat_4 : decode cX10_enterBeat 4 = .ok (.bipush 65, 2) := by decide +kernel
theorem dX10_enterBeat_6 : decode cX10_enterBeat 6 = .ok (.if_icmp .ge 31, 3) := by decide +kernel
theorem dX10_enterBeat_9 : decode cX10_enterBeat 9 = .ok (.aload_n 0, 1) := by decide +kernel
theorem dX10_enterBeat_10 : decode cX10_enterBeat 10 = .ok (.getfield 33, 3) := by decide +kernel
theorem dX10_enterBeat_13 : decode cX10_enterBeat 13 = .ok (.aload_n 0, 1) := by decide +kernel
theorem dX10_enterBeat_14 : decode cX10_enterBeat 14 = .ok (.getfield 158, 3) := by decide +kernel
theorem dX10_enterBeat_17 : decode cX10_enterBeat 17 = .ok (.iload_n 1, 1) := by decide +kernel
theorem dX10_enterBeat_18 : decode cX10_enterBeat 18 = .ok (.aload_n 0, 1) := by decide +kernel
theorem dX10_enterBeat_19 : decode cX10_enterBeat 19 = .ok (.getfield 161, 3) := by decide +kernel
theorem dX10_enterBeat_22 : decode cX10_enterBeat 22 = .ok (.iadd, 1) := by decide +kernel
theorem dX10_enterBeat_23 : decode cX10_enterBeat 23 = .ok (.iastore, 1) := by decide +kernel
theorem dX10_enterBeat_24 : decode cX10_enterBeat 24 = .ok (.aload_n 0, 1) := by decide +kernel
theorem dX10_enterBeat_25 : decode cX10_enterBeat 25 = .ok (.getfield 36, 3) := by decide +kernel
theorem dX10_enterBeat_28 : decode cX10_enterBeat 28 = .ok (.aload_n 0, 1) := by decide +kernel
theorem dX10_enterBeat_29 : decode cX10_enterBeat 29 = .ok (.getfield 158, 3) := by decide +kernel
theorem dX10_enterBeat_32 : decode cX10_enterBeat 32 = .ok (.aload_n 0, 1) := by decide +kernel
theorem dX10_enterBeat_33 : decode cX10_enterBeat 33 = .ok (.getfield 164, 3) := by decide +kernel
theorem dX10_enterBeat_36 : decode cX10_enterBeat 36 = .ok (.iastore, 1) := by decide +kernel
theorem dX10_enterBeat_37 : decode cX10_enterBeat 37 = .ok (.aload_n 0, 1) := by decide +kernel
theorem dX10_enterBeat_38 : decode cX10_enterBeat 38 = .ok (.dup, 1) := by decide +kernel
theorem dX10_enterBeat_39 : decode cX10_enterBeat 39 = .ok (.getfield 158, 3) := by decide +kernel
theorem dX10_enterBeat_42 : decode cX10_enterBeat 42 = .ok (.iconst 1, 1) := by decide +kernel
theorem dX10_enterBeat_43 : decode cX10_enterBeat 43 = .ok (.iadd, 1) := by decide +kernel
theorem dX10_enterBeat_44 : decode cX10_enterBeat 44 = .ok (.putfield 158, 3) := by decide +kernel
theorem dX10_enterBeat_47 : decode cX10_enterBeat 47 = .ok (.aload_n 0, 1) := by decide +kernel
theorem dX10_enterBeat_48 : decode cX10_enterBeat 48 = .ok (.iconst 0, 1) := by decide +kernel
theorem dX10_enterBeat_49 : decode cX10_enterBeat 49 = .ok (.putfield 161, 3) := by decide +kernel
theorem dX10_enterBeat_52 : decode cX10_enterBeat 52 = .ok (.aload_n 0, 1) := by decide +kernel
theorem dX10_enterBeat_53 : decode cX10_enterBeat 53 = .ok (.iconst 0, 1) := by decide +kernel
theorem dX10_enterBeat_54 : decode cX10_enterBeat 54 = .ok (.putfield 164, 3) := by decide +kernel
theorem dX10_enterBeat_57 : decode cX10_enterBeat 57 = .ok (.return_, 1) := by decide +kernel
set_option maxRecDepth 20000 in
theorem ggX10_takeBeats_X10_takeNumber : GoodIn wsX10_takeBeats wsX10_takeNumber := goodIn_r _ [8, 2, 1, 3, 9, 10, 11, 7, 12, 13, 14, 15, 16, 17, 27, 28, 29, 30, 31, 32, 33, 34, 35, 36, 37, 38, 39, 40, 41, 42, 43, 44] (by decide +kernel) (by decide +kernel)
set_option maxRecDepth 20000 in
theorem gX10_takeBeats_X10_takeNumber : GoodIn wsX10_takeBeats (wsV RX10 167 RX10 yX10_takeNumber wsX10_takeNumber) := goodIn_app (goodIn_of _ (by decide +kernel)) ggX10_takeBeats_X10_takeNumber
set_option maxRecDepth 20000 in
theorem ggX10_takeBeats_X10_enterBeat : GoodIn wsX10_takeBeats wsX10_enterBeat := goodIn_r _ [21, 22, 23, 24, 25, 26, 27, 28, 29, 30, 31, 32, 33, 34, 35, 36, 37, 38, 39, 40, 41, 42, 43, 44] (by decide +kernel) (by decide +kernel)
set_option maxRecDepth 20000 in
theorem gX10_takeBeats_X10_enterBeat : GoodIn wsX10_takeBeats (wsV RX10 170 RX10 yX10_enterBeat wsX10_enterBeat) := goodIn_app (goodIn_of _ (by decide +kernel)) ggX10_takeBeats_X10_enterBeat
set_option maxRecDepth 20000 in
theorem ggX10_takeBeats_X10_next : GoodIn wsX10_takeBeats wsX10_next := goodIn_r _ [12, 3, 13, 14, 27, 28, 29, 30, 31, 32, 33, 34, 35, 36, 37, 38, 39, 40, 41, 42, 43, 44] (by decide +kernel) (by decide +kernel)
set_option maxRecDepth 20000 in
theorem gX10_takeBeats_X10_next : GoodIn wsX10_takeBeats (wsV RX10 152 RX10 yX10_next wsX10_next) := goodIn_app (goodIn_of _ (by decide +kernel)) ggX10_takeBeats_X10_next
theorem dX10_takeBeats_0 : decode cX10_takeBeats 0 = .ok (.aload_n 0, 1) := by decide +kernel
theorem dX10_takeBeats_1 : decode cX10_takeBeats 1 = .ok (.iconst 1, 1) := by decide +kernel
theorem dX10_takeBeats_2 : decode cX10_takeBeats 2 = .ok (.sipush 999, 3) := by decide +kernel
theorem dX10_takeBeats_5 : decode cX10_takeBeats 5 = .ok (.invokevirtual 167, 3) := by decide +kernel
theorem dX10_takeBeats_8 : decode cX10_takeBeats 8 = .ok (.aload_n 0, 1) := by decide +kernel
theorem dX10_takeBeats_9 : decode cX10_takeBeats 9 = .ok (.aload_n 0, 1) := by decide +kernel
theorem dX10_takeBeats_10 : decode cX10_takeBeats 10 = .ok (.getfield 155, 3) := by decide +kernel
theorem dX10_takeBeats_13 : decode cX10_takeBeats 13 = .ok (.invokevirtual 170, 3) := by decide +kernel
theorem dX10_takeBeats_16 : decode cX10_takeBeats 16 = .ok (.aload_n 0, 1) := by decide +kernel
theorem dX10_takeBeats_17 : decode cX10_takeBeats 17 = .ok (.getfield 148, 3) := by decide +kernel
theorem dX10_takeBeats_20 : decode cX10_takeBeats 20 = .ok (.ifCond .ne 41, 3) := by decide +kernel
theorem dX10_takeBeats_23 : decode cX10_takeBeats 23 = .ok (.aload_n 0, 1) := by decide +kernel
theorem dX10_takeBeats_24 : decode cX10_takeBeats 24 = .ok (.invokevirtual 152, 3) := by decide +kernel
theorem dX10_takeBeats_27 : decode cX10_takeBeats 27 = .ok (.bipush 44, 2) := by decide +kernel
theorem dX10_takeBeats_29 : decode cX10_takeBeats 29 = .ok (.if_icmp .ne 32, 3) := by decide +kernel
theorem dX10_takeBeats_32 : decode cX10_takeBeats 32 = .ok (.aload_n 0, 1) := by decide +kernel
theorem dX10_takeBeats_33 : decode cX10_takeBeats 33 = .ok (.dup, 1) := by decide +kernel
theorem dX10_takeBeats_34 : decode cX10_takeBeats 34 = .ok (.getfield 145, 3) := by decide +kernel
theorem dX10_takeBeats_37 : decode cX10_takeBeats 37 = .ok (.iconst 1, 1) := by decide +kernel
theorem dX10_takeBeats_38 : decode cX10_takeBeats 38 = .ok (.iadd, 1) := by decide +kernel
theorem dX10_takeBeats_39 : decode cX10_takeBeats 39 = .ok (.putfield 145, 3) := by decide +kernel
theorem dX10_takeBeats_42 : decode cX10_takeBeats 42 = .ok (.aload_n 0, 1) := by decide +kernel
theorem dX10_takeBeats_43 : decode cX10_takeBeats 43 = .ok (.iconst 1, 1) := by decide +kernel
theorem dX10_takeBeats_44 : decode cX10_takeBeats 44 = .ok (.sipush 999, 3) := by decide +kernel
theorem dX10_takeBeats_47 : decode cX10_takeBeats 47 = .ok (.invokevirtual 167, 3) := by decide +kernel
theorem dX10_takeBeats_50 : decode cX10_takeBeats 50 = .ok (.aload_n 0, 1) := by decide +kernel
theorem dX10_takeBeats_51 : decode cX10_takeBeats 51 = .ok (.aload_n 0, 1) := by decide +kernel
theorem dX10_takeBeats_52 : decode cX10_takeBeats 52 = .ok (.getfield 155, 3) := by decide +kernel
theorem dX10_takeBeats_55 : decode cX10_takeBeats 55 = .ok (.invokevirtual 170, 3) := by decide +kernel
theorem dX10_takeBeats_58 : decode cX10_takeBeats 58 = .ok (.goto (-42), 3) := by decide +kernel
theorem dX10_takeBeats_61 : decode cX10_takeBeats 61 = .ok (.return_, 1) := by decide +kernel
set_option maxRecDepth 20000 in
theorem ggX10_takeRow_X10_takeNumber : GoodIn wsX10_takeRow wsX10_takeNumber := goodIn_r _ [7, 2, 1, 8, 9, 10, 11, 6, 12, 13, 14, 15, 16, 17, 31, 32, 33, 34, 35, 36, 37, 38, 39, 40, 41, 42, 43, 44, 45, 46, 47, 48] (by decide +kernel) (by decide +kernel)
set_option maxRecDepth 20000 in
theorem gX10_takeRow_X10_takeNumber : GoodIn wsX10_takeRow (wsV RX10 167 RX10 yX10_takeNumber wsX10_takeNumber) := goodIn_app (goodIn_of _ (by decide +kernel)) ggX10_takeRow_X10_takeNumber
set_option maxRecDepth 20000 in
theorem ggX10_takeRow_X10_takeSign : GoodIn wsX10_takeRow wsX10_takeSign := goodIn_r _ [21, 2, 8, 9, 10, 11, 6, 12, 13, 14, 31, 32, 33, 34, 35, 36, 37, 38, 39, 40, 41, 42, 43, 44, 45, 46, 47, 48] (by decide +kernel) (by decide +kernel)
set_option maxRecDepth 20000 in
theorem gX10_takeRow_X10_takeSign : GoodIn wsX10_takeRow (wsV RX10 173 RX10 yX10_takeSign wsX10_takeSign) := goodIn_app (goodIn_of _ (by decide +kernel)) ggX10_takeRow_X10_takeSign
set_option maxRecDepth 20000 in
theorem ggX10_takeRow_X10_enterBeat : GoodIn wsX10_takeRow wsX10_enterBeat := goodIn_r _ [25, 26, 27, 28, 29, 30, 31, 32, 33, 34, 35, 36, 37, 38, 39, 40, 41, 42, 43, 44, 45, 46, 47, 48] (by decide +kernel) (by decide +kernel)
set_option maxRecDepth 20000 in
theorem gX10_takeRow_X10_enterBeat : GoodIn wsX10_takeRow (wsV RX10 170 RX10 yX10_enterBeat wsX10_enterBeat) := goodIn_app (goodIn_of _ (by decide +kernel)) ggX10_takeRow_X10_enterBeat
theorem dX10_takeRow_0 : decode cX10_takeRow 0 = .ok (.aload_n 0, 1) := by decide +kernel
theorem dX10_takeRow_1 : decode cX10_takeRow 1 = .ok (.iconst 1, 1) := by decide +kernel
theorem dX10_takeRow_2 : decode cX10_takeRow 2 = .ok (.sipush 999, 3) := by decide +kernel
theorem dX10_takeRow_5 : decode cX10_takeRow 5 = .ok (.invokevirtual 167, 3) := by decide +kernel
theorem dX10_takeRow_8 : decode cX10_takeRow 8 = .ok (.aload_n 0, 1) := by decide +kernel
theorem dX10_takeRow_9 : decode cX10_takeRow 9 = .ok (.getfield 155, 3) := by decide +kernel
theorem dX10_takeRow_12 : decode cX10_takeRow 12 = .ok (.istore_n 1, 1) := by decide +kernel
theorem dX10_takeRow_13 : decode cX10_takeRow 13 = .ok (.aload_n 0, 1) := by decide +kernel
theorem dX10_takeRow_14 : decode cX10_takeRow 14 = .ok (.bipush 42, 2) := by decide +kernel
theorem dX10_takeRow_16 : decode cX10_takeRow 16 = .ok (.invokevirtual 173, 3) := by decide +kernel
theorem dX10_takeRow_19 : decode cX10_takeRow 19 = .ok (.aload_n 0, 1) := by decide +kernel
theorem dX10_takeRow_20 : decode cX10_takeRow 20 = .ok (.iconst 2, 1) := by decide +kernel
theorem dX10_takeRow_21 : decode cX10_takeRow 21 = .ok (.bipush 40, 2) := by decide +kernel
theorem dX10_takeRow_23 : decode cX10_takeRow 23 = .ok (.invokevirtual 167, 3) := by decide +kernel
theorem dX10_takeRow_26 : decode cX10_takeRow 26 = .ok (.iconst 0, 1) := by decide +kernel
theorem dX10_takeRow_27 : decode cX10_takeRow 27 = .ok (.istore_n 2, 1) := by decide +kernel
theorem dX10_takeRow_28 : decode cX10_takeRow 28 = .ok (.iload_n 2, 1) := by decide +kernel
theorem dX10_takeRow_29 : decode cX10_takeRow 29 = .ok (.aload_n 0, 1) := by decide +kernel
theorem dX10_takeRow_30 : decode cX10_takeRow 30 = .ok (.getfield 155, 3) := by decide +kernel
theorem dX10_takeRow_33 : decode cX10_takeRow 33 = .ok (.if_icmp .ge 21, 3) := by decide +kernel
theorem dX10_takeRow_36 : decode cX10_takeRow 36 = .ok (.aload_n 0, 1) := by decide +kernel
theorem dX10_takeRow_37 : decode cX10_takeRow 37 = .ok (.getfield 148, 3) := by decide +kernel
theorem dX10_takeRow_40 : decode cX10_takeRow 40 = .ok (.ifCond .ne 14, 3) := by decide +kernel
theorem dX10_takeRow_43 : decode cX10_takeRow 43 = .ok (.aload_n 0, 1) := by decide +kernel
theorem dX10_takeRow_44 : decode cX10_takeRow 44 = .ok (.iload_n 1, 1) := by decide +kernel
theorem dX10_takeRow_45 : decode cX10_takeRow 45 = .ok (.invokevirtual 170, 3) := by decide +kernel
theorem dX10_takeRow_48 : decode cX10_takeRow 48 = .ok (.iinc 2 1, 3) := by decide +kernel
theorem dX10_takeRow_51 : decode cX10_takeRow 51 = .ok (.goto (-23), 3) := by decide +kernel
theorem dX10_takeRow_54 : decode cX10_takeRow 54 = .ok (.return_, 1) := by decide +kernel
set_option maxRecDepth 20000 in
theorem ggX10_takePart_X10_next : GoodIn wsX10_takePart wsX10_next := goodIn_r _ [10, 1, 11, 12, 39, 40, 41, 42, 43, 44, 45, 46, 47, 48, 49, 50, 51, 52, 53, 54, 55, 56] (by decide +kernel) (by decide +kernel)
set_option maxRecDepth 20000 in
theorem gX10_takePart_X10_next : GoodIn wsX10_takePart (wsV RX10 152 RX10 yX10_next wsX10_next) := goodIn_app (goodIn_of _ (by decide +kernel)) ggX10_takePart_X10_next
set_option maxRecDepth 20000 in
theorem ggX10_takePart_X10_takeBeats : GoodIn wsX10_takePart wsX10_takeBeats := goodIn_r _ [16, 3, 5, 1, 17, 18, 19, 9, 20, 6, 7, 8, 10, 11, 12, 21, 22, 23, 24, 25, 26, 27, 28, 29, 4, 30, 2, 39, 40, 41, 42, 43, 44, 45, 46, 47, 48, 49, 50, 51, 52, 53, 54, 55, 56] (by decide +kernel) (by decide +kernel)
set_option maxRecDepth 20000 in
theorem gX10_takePart_X10_takeBeats : GoodIn wsX10_takePart (wsV RX10 176 RX10 yX10_takeBeats wsX10_takeBeats) := goodIn_app (goodIn_of _ (by decide +kernel)) ggX10_takePart_X10_takeBeats
set_option maxRecDepth 20000 in
theorem ggX10_takePart_X10_takeRow : GoodIn wsX10_takePart wsX10_takeRow := goodIn_r _ [34, 3, 5, 17, 18, 19, 9, 20, 1, 6, 7, 8, 10, 11, 12, 21, 22, 23, 35, 36, 37, 38, 24, 25, 26, 27, 28, 29, 4, 30, 2, 39, 40, 41, 42, 43, 44, 45, 46, 47, 48, 49, 50, 51, 52, 53, 54, 55, 56] (by decide +kernel) (by decide +kernel)
set_option maxRecDepth 20000 in
theorem gX10_takePart_X10_takeRow : GoodIn wsX10_takePart (wsV RX10 179 RX10 yX10_takeRow wsX10_takeRow) := goodIn_app (goodIn_of _ (by decide +kernel)) ggX10_takePart_X10_takeRow
set_option maxRecDepth 20000 in
theorem ggX10_takePart_X10_takeNumber : GoodIn wsX10_takePart wsX10_takeNumber := goodIn_r _ [20, 5, 3, 1, 6, 7, 8, 9, 10, 11, 12, 21, 22, 23, 39, 40, 41, 42, 43, 44, 45, 46, 47, 48, 49, 50, 51, 52, 53, 54, 55, 56] (by decide +kernel) (by decide +kernel)
set_option maxRecDepth 20000 in
theorem gX10_takePart_X10_takeNumber : GoodIn wsX10_takePart (wsV RX10 167 RX10 yX10_takeNumber wsX10_takeNumber) := goodIn_app (goodIn_of _ (by decide +kernel)) ggX10_takePart_X10_takeNumber
theorem dX10_takePart_0 : decode cX10_takePart 0 = .ok (.aload_n 0, 1) := by decide +kernel
theorem dX10_takePart_1 : decode cX10_takePart 1 = .ok (.invokevirtual 152, 3) := by decide +kernel
theorem dX10_takePart_4 : decode cX10_takePart 4 = .ok (.istore_n 1, 1) := by decide +kernel
theorem dX10_takePart_5 : decode cX10_takePart 5 = .ok (.aload_n 0, 1) := by decide +kernel
theorem dX10_takePart_6 : decode cX10_takePart 6 = .ok (.dup, 1) := by decide +kernel
theorem dX10_takePart_7 : decode cX10_takePart 7 = .ok (.getfield 145, 3) := by decide +kernel
theorem dX10_takePart_10 : decode cX10_takePart 10 = .ok (.iconst 1, 1) := by decide +kernel
theorem dX10_takePart_11 : decode cX10_takePart 11 = .ok (.iadd, 1) := by decide +kernel
theorem dX10_takePart_12 : decode cX10_takePart 12 = .ok (.putfield 145, 3) := by decide +kernel
theorem dX10_takePart_15 : decode cX10_takePart 15 = .ok (.iload_n 1, 1) := by decide +kernel
theorem dX10_takePart_16 : decode cX10_takePart 16 = .ok (.lookupswitch 105 #[(98, 44), (101, 51), (108, 81), (109, 58)], 44) := by decide +kernel
theorem dX10_takePart_60 : decode cX10_takePart 60 = .ok (.aload_n 0, 1) := by decide +kernel
theorem dX10_takePart_61 : decode cX10_takePart 61 = .ok (.invokevirtual 176, 3) := by decide +kernel
theorem dX10_takePart_64 : decode cX10_takePart 64 = .ok (.goto 72, 3) := by decide +kernel
theorem dX10_takePart_67 : decode cX10_takePart 67 = .ok (.aload_n 0, 1) := by decide +kernel
theorem dX10_takePart_68 : decode cX10_takePart 68 = .ok (.invokevirtual 179, 3) := by decide +kernel
theorem dX10_takePart_71 : decode cX10_takePart 71 = .ok (.goto 65, 3) := by decide +kernel
theorem dX10_takePart_74 : decode cX10_takePart 74 = .ok (.aload_n 0, 1) := by decide +kernel
theorem dX10_takePart_75 : decode cX10_takePart 75 = .ok (.iconst 1, 1) := by decide +kernel
theorem dX10_takePart_76 : decode cX10_takePart 76 = .ok (.bipush 99, 2) := by decide +kernel
theorem dX10_takePart_78 : decode cX10_takePart 78 = .ok (.invokevirtual 167, 3) := by decide +kernel
theorem dX10_takePart_81 : decode cX10_takePart 81 = .ok (.aload_n 0, 1) := by decide +kernel
theorem dX10_takePart_82 : decode cX10_takePart 82 = .ok (.dup, 1) := by decide +kernel
theorem dX10_takePart_83 : decode cX10_takePart 83 = .ok (.getfield 164, 3) := by decide +kernel
theorem dX10_takePart_86 : decode cX10_takePart 86 = .ok (.aload_n 0, 1) := by decide +kernel
theorem dX10_takePart_87 : decode cX10_takePart 87 = .ok (.getfield 155, 3) := by decide +kernel
theorem dX10_takePart_90 : decode cX10_takePart 90 = .ok (.iadd, 1) := by decide +kernel
theorem dX10_takePart_91 : decode cX10_takePart 91 = .ok (.putfield 164, 3) := by decide +kernel
theorem dX10_takePart_94 : decode cX10_takePart 94 = .ok (.goto 42, 3) := by decide +kernel
theorem dX10_takePart_97 : decode cX10_takePart 97 = .ok (.aload_n 0, 1) := by decide +kernel
theorem dX10_takePart_98 : decode cX10_takePart 98 = .ok (.iconst 1, 1) := by decide +kernel
theorem dX10_takePart_99 : decode cX10_takePart 99 = .ok (.sipush 9999, 3) := by decide +kernel
theorem dX10_takePart_102 : decode cX10_takePart 102 = .ok (.invokevirtual 167, 3) := by decide +kernel
theorem dX10_takePart_105 : decode cX10_takePart 105 = .ok (.aload_n 0, 1) := by decide +kernel
theorem dX10_takePart_106 : decode cX10_takePart 106 = .ok (.dup, 1) := by decide +kernel
theorem dX10_takePart_107 : decode cX10_takePart 107 = .ok (.getfield 161, 3) := by decide +kernel
theorem dX10_takePart_110 : decode cX10_takePart 110 = .ok (.aload_n 0, 1) := by decide +kernel
theorem dX10_takePart_111 : decode cX10_takePart 111 = .ok (.getfield 155, 3) := by decide +kernel
theorem dX10_takePart_114 : decode cX10_takePart 114 = .ok (.iadd, 1) := by decide +kernel
theorem dX10_takePart_115 : decode cX10_takePart 115 = .ok (.putfield 161, 3) := by decide +kernel
theorem dX10_takePart_118 : decode cX10_takePart 118 = .ok (.goto 18, 3) := by decide +kernel
theorem dX10_takePart_121 : decode cX10_takePart 121 = .ok (.aload_n 0, 1) := by decide +kernel
theorem dX10_takePart_122 : decode cX10_takePart 122 = .ok (.dup, 1) := by decide +kernel
theorem dX10_takePart_123 : decode cX10_takePart 123 = .ok (.getfield 145, 3) := by decide +kernel
theorem dX10_takePart_126 : decode cX10_takePart 126 = .ok (.iconst 1, 1) := by decide +kernel
theorem dX10_takePart_127 : decode cX10_takePart 127 = .ok (.isub, 1) := by decide +kernel
theorem dX10_takePart_128 : decode cX10_takePart 128 = .ok (.putfield 145, 3) := by decide +kernel
theorem dX10_takePart_131 : decode cX10_takePart 131 = .ok (.aload_n 0, 1) := by decide +kernel
theorem dX10_takePart_132 : decode cX10_takePart 132 = .ok (.iconst 1, 1) := by decide +kernel
theorem dX10_takePart_133 : decode cX10_takePart 133 = .ok (.putfield 148, 3) := by decide +kernel
theorem dX10_takePart_136 : decode cX10_takePart 136 = .ok (.return_, 1) := by decide +kernel
set_option maxRecDepth 20000 in
theorem ggX10_fault_X10_takePart : GoodIn wsX10_fault wsX10_takePart := goodIn_r _ [11, 1, 5, 12, 4, 2, 13, 14, 15, 10, 16, 6, 17, 18, 19, 20, 21, 22, 23, 24, 25, 26, 27, 28, 29, 30, 31, 32, 3, 33, 34, 35, 36, 37, 38, 39, 40, 41, 42, 43, 44, 45, 46, 47, 48, 49, 50, 51, 52, 53, 54, 55, 56, 57, 58, 59, 60] (by decide +kernel) (by decide +kernel)
set_option maxRecDepth 20000 in
theorem gX10_fault_X10_takePart : GoodIn wsX10_fault (wsV RX10 182 RX10 yX10_takePart wsX10_takePart) := goodIn_app (goodIn_of _ (by decide +kernel)) ggX10_fault_X10_takePart
set_option maxRecDepth 20000 in
theorem ggX10_fault_X10_takeSign : GoodIn wsX10_fault wsX10_takeSign := goodIn_r _ [42, 2, 1, 13, 14, 15, 10, 16, 6, 17, 43, 44, 45, 46, 47, 48, 49, 50, 51, 52, 53, 54, 55, 56, 57, 58, 59, 60] (by decide +kernel) (by decide +kernel)
set_option maxRecDepth 20000 in
theorem gX10_fault_X10_takeSign : GoodIn wsX10_fault (wsV RX10 173 RX10 yX10_takeSign wsX10_takeSign) := goodIn_app (goodIn_of _ (by decide +kernel)) ggX10_fault_X10_takeSign
theorem dX10_fault_0 : decode cX10_fault 0 = .ok (.aload_n 0, 1) := by decide +kernel
theorem dX10_fault_1 : decode cX10_fault 1 = .ok (.iconst 0, 1) := by decide +kernel
theorem dX10_fault_2 : decode cX10_fault 2 = .ok (.putfield 145, 3) := by decide +kernel
theorem dX10_fault_5 : decode cX10_fault 5 = .ok (.aload_n 0, 1) := by decide +kernel
theorem dX10_fault_6 : decode cX10_fault 6 = .ok (.iconst 0, 1) := by decide +kernel
theorem dX10_fault_7 : decode cX10_fault 7 = .ok (.putfield 148, 3) := by decide +kernel
theorem dX10_fault_10 : decode cX10_fault 10 = .ok (.aload_n 0, 1) := by decide +kernel
theorem dX10_fault_11 : decode cX10_fault 11 = .ok (.iconst 0, 1) := by decide +kernel
theorem dX10_fault_12 : decode cX10_fault 12 = .ok (.putfield 158, 3) := by decide +kernel
theorem dX10_fault_15 : decode cX10_fault 15 = .ok (.aload_n 0, 1) := by decide +kernel
theorem dX10_fault_16 : decode cX10_fault 16 = .ok (.iconst 0, 1) := by decide +kernel
theorem dX10_fault_17 : decode cX10_fault 17 = .ok (.putfield 161, 3) := by decide +kernel
theorem dX10_fault_20 : decode cX10_fault 20 = .ok (.aload_n 0, 1) := by decide +kernel
theorem dX10_fault_21 : decode cX10_fault 21 = .ok (.iconst 0, 1) := by decide +kernel
theorem dX10_fault_22 : decode cX10_fault 22 = .ok (.putfield 164, 3) := by decide +kernel
theorem dX10_fault_25 : decode cX10_fault 25 = .ok (.aload_n 0, 1) := by decide +kernel
theorem dX10_fault_26 : decode cX10_fault 26 = .ok (.invokevirtual 182, 3) := by decide +kernel
theorem dX10_fault_29 : decode cX10_fault 29 = .ok (.aload_n 0, 1) := by decide +kernel
theorem dX10_fault_30 : decode cX10_fault 30 = .ok (.getfield 148, 3) := by decide +kernel
theorem dX10_fault_33 : decode cX10_fault 33 = .ok (.ifCond .ne 34, 3) := by decide +kernel
theorem dX10_fault_36 : decode cX10_fault 36 = .ok (.aload_n 0, 1) := by decide +kernel
theorem dX10_fault_37 : decode cX10_fault 37 = .ok (.getfield 145, 3) := by decide +kernel
theorem dX10_fault_40 : decode cX10_fault 40 = .ok (.aload_n 0, 1) := by decide +kernel
theorem dX10_fault_41 : decode cX10_fault 41 = .ok (.getfield 128, 3) := by decide +kernel
theorem dX10_fault_44 : decode cX10_fault 44 = .ok (.if_icmp .ge 23, 3) := by decide +kernel
theorem dX10_fault_47 : decode cX10_fault 47 = .ok (.aload_n 0, 1) := by decide +kernel
theorem dX10_fault_48 : decode cX10_fault 48 = .ok (.bipush 59, 2) := by decide +kernel
theorem dX10_fault_50 : decode cX10_fault 50 = .ok (.invokevirtual 173, 3) := by decide +kernel
theorem dX10_fault_53 : decode cX10_fault 53 = .ok (.aload_n 0, 1) := by decide +kernel
theorem dX10_fault_54 : decode cX10_fault 54 = .ok (.getfield 148, 3) := by decide +kernel
theorem dX10_fault_57 : decode cX10_fault 57 = .ok (.ifCond .ne (-28), 3) := by decide +kernel
theorem dX10_fault_60 : decode cX10_fault 60 = .ok (.aload_n 0, 1) := by decide +kernel
theorem dX10_fault_61 : decode cX10_fault 61 = .ok (.invokevirtual 182, 3) := by decide +kernel
theorem dX10_fault_64 : decode cX10_fault 64 = .ok (.goto (-35), 3) := by decide +kernel
theorem dX10_fault_67 : decode cX10_fault 67 = .ok (.aload_n 0, 1) := by decide +kernel
theorem dX10_fault_68 : decode cX10_fault 68 = .ok (.getfield 148, 3) := by decide +kernel
theorem dX10_fault_71 : decode cX10_fault 71 = .ok (.ifCond .eq 10, 3) := by decide +kernel
theorem dX10_fault_74 : decode cX10_fault 74 = .ok (.aload_n 0, 1) := by decide +kernel
theorem dX10_fault_75 : decode cX10_fault 75 = .ok (.getfield 145, 3) := by decide +kernel
theorem dX10_fault_78 : decode cX10_fault 78 = .ok (.goto 5, 3) := by decide +kernel
theorem dX10_fault_81 : decode cX10_fault 81 = .ok (.bipush (-6), 2) := by decide +kernel
theorem dX10_fault_83 : decode cX10_fault 83 = .ok (.ireturn, 1) := by decide +kernel
set_option maxRecDepth 20000 in
theorem ggX10_whyNotPlan_X10_lastTime : GoodIn wsX10_whyNotPlan wsX10_lastTime := goodIn_r _ [10, 1, 11, 12, 13, 9, 14, 19, 20, 21, 22, 23, 24, 25, 26, 27, 28, 29, 30, 31, 32, 33, 34, 35, 36] (by decide +kernel) (by decide +kernel)
set_option maxRecDepth 20000 in
theorem gX10_whyNotPlan_X10_lastTime : GoodIn wsX10_whyNotPlan (wsV RX10 111 RX10 yX10_lastTime wsX10_lastTime) := goodIn_app (goodIn_of _ (by decide +kernel)) ggX10_whyNotPlan_X10_lastTime
set_option maxRecDepth 20000 in
theorem ggX10_whyNotPlan_X10_nextTrue : GoodIn wsX10_whyNotPlan wsX10_nextTrue := goodIn_r _ [18, 1, 11, 12, 13, 9, 14, 19, 20, 21, 22, 23, 24, 25, 26, 27, 28, 29, 30, 31, 32, 33, 34, 35, 36] (by decide +kernel) (by decide +kernel)
set_option maxRecDepth 20000 in
theorem gX10_whyNotPlan_X10_nextTrue : GoodIn wsX10_whyNotPlan (wsV RX10 114 RX10 yX10_nextTrue wsX10_nextTrue) := goodIn_app (goodIn_of _ (by decide +kernel)) ggX10_whyNotPlan_X10_nextTrue
theorem dX10_whyNotPlan_0 : decode cX10_whyNotPlan 0 = .ok (.aload_n 0, 1) := by decide +kernel
theorem dX10_whyNotPlan_1 : decode cX10_whyNotPlan 1 = .ok (.getfield 7, 3) := by decide +kernel
theorem dX10_whyNotPlan_4 : decode cX10_whyNotPlan 4 = .ok (.bipush 22, 2) := by decide +kernel
theorem dX10_whyNotPlan_6 : decode cX10_whyNotPlan 6 = .ok (.iaload, 1) := by decide +kernel
theorem dX10_whyNotPlan_7 : decode cX10_whyNotPlan 7 = .ok (.aload_n 0, 1) := by decide +kernel
theorem dX10_whyNotPlan_8 : decode cX10_whyNotPlan 8 = .ok (.getfield 158, 3) := by decide +kernel
theorem dX10_whyNotPlan_11 : decode cX10_whyNotPlan 11 = .ok (.iadd, 1) := by decide +kernel
theorem dX10_whyNotPlan_12 : decode cX10_whyNotPlan 12 = .ok (.bipush 64, 2) := by decide +kernel
theorem dX10_whyNotPlan_14 : decode cX10_whyNotPlan 14 = .ok (.if_icmp .le 6, 3) := by decide +kernel
theorem dX10_whyNotPlan_17 : decode cX10_whyNotPlan 17 = .ok (.bipush (-4), 2) := by decide +kernel
theorem dX10_whyNotPlan_19 : decode cX10_whyNotPlan 19 = .ok (.ireturn, 1) := by decide +kernel
theorem dX10_whyNotPlan_20 : decode cX10_whyNotPlan 20 = .ok (.aload_n 0, 1) := by decide +kernel
theorem dX10_whyNotPlan_21 : decode cX10_whyNotPlan 21 = .ok (.invokevirtual 111, 3) := by decide +kernel
theorem dX10_whyNotPlan_24 : decode cX10_whyNotPlan 24 = .ok (.istore_n 1, 1) := by decide +kernel
theorem dX10_whyNotPlan_25 : decode cX10_whyNotPlan 25 = .ok (.aload_n 0, 1) := by decide +kernel
theorem dX10_whyNotPlan_26 : decode cX10_whyNotPlan 26 = .ok (.invokevirtual 114, 3) := by decide +kernel
theorem dX10_whyNotPlan_29 : decode cX10_whyNotPlan 29 = .ok (.istore_n 2, 1) := by decide +kernel
theorem dX10_whyNotPlan_30 : decode cX10_whyNotPlan 30 = .ok (.iconst 0, 1) := by decide +kernel
theorem dX10_whyNotPlan_31 : decode cX10_whyNotPlan 31 = .ok (.istore_n 3, 1) := by decide +kernel
theorem dX10_whyNotPlan_32 : decode cX10_whyNotPlan 32 = .ok (.iconst 0, 1) := by decide +kernel
theorem dX10_whyNotPlan_33 : decode cX10_whyNotPlan 33 = .ok (.istore 4, 2) := by decide +kernel
theorem dX10_whyNotPlan_35 : decode cX10_whyNotPlan 35 = .ok (.iload 4, 2) := by decide +kernel
theorem dX10_whyNotPlan_37 : decode cX10_whyNotPlan 37 = .ok (.aload_n 0, 1) := by decide +kernel
theorem dX10_whyNotPlan_38 : decode cX10_whyNotPlan 38 = .ok (.getfield 158, 3) := by decide +kernel
theorem dX10_whyNotPlan_41 : decode cX10_whyNotPlan 41 = .ok (.if_icmp .ge 67, 3) := by decide +kernel
theorem dX10_whyNotPlan_44 : decode cX10_whyNotPlan 44 = .ok (.iload_n 1, 1) := by decide +kernel
theorem dX10_whyNotPlan_45 : decode cX10_whyNotPlan 45 = .ok (.aload_n 0, 1) := by decide +kernel
theorem dX10_whyNotPlan_46 : decode cX10_whyNotPlan 46 = .ok (.getfield 33, 3) := by decide +kernel
theorem dX10_whyNotPlan_49 : decode cX10_whyNotPlan 49 = .ok (.iload 4, 2) := by decide +kernel
theorem dX10_whyNotPlan_51 : decode cX10_whyNotPlan 51 = .ok (.iaload, 1) := by decide +kernel
theorem dX10_whyNotPlan_52 : decode cX10_whyNotPlan 52 = .ok (.iadd, 1) := by decide +kernel
theorem dX10_whyNotPlan_53 : decode cX10_whyNotPlan 53 = .ok (.istore_n 1, 1) := by decide +kernel
theorem dX10_whyNotPlan_54 : decode cX10_whyNotPlan 54 = .ok (.iload_n 2, 1) := by decide +kernel
theorem dX10_whyNotPlan_55 : decode cX10_whyNotPlan 55 = .ok (.aload_n 0, 1) := by decide +kernel
theorem dX10_whyNotPlan_56 : decode cX10_whyNotPlan 56 = .ok (.getfield 36, 3) := by decide +kernel
theorem dX10_whyNotPlan_59 : decode cX10_whyNotPlan 59 = .ok (.iload 4, 2) := by decide +kernel
theorem dX10_whyNotPlan_61 : decode cX10_whyNotPlan 61 = .ok (.iaload, 1) := by decide +kernel
theorem dX10_whyNotPlan_62 : decode cX10_whyNotPlan 62 = .ok (.iadd, 1) := by decide +kernel
theorem dX10_whyNotPlan_63 : decode cX10_whyNotPlan 63 = .ok (.istore_n 2, 1) := by decide +kernel
theorem dX10_whyNotPlan_64 : decode cX10_whyNotPlan 64 = .ok (.iload_n 3, 1) := by decide +kernel
theorem dX10_whyNotPlan_65 : decode cX10_whyNotPlan 65 = .ok (.iload_n 1, 1) := by decide +kernel
theorem dX10_whyNotPlan_66 : decode cX10_whyNotPlan 66 = .ok (.aload_n 0, 1) := by decide +kernel
theorem dX10_whyNotPlan_67 : decode cX10_whyNotPlan 67 = .ok (.getfield 7, 3) := by decide +kernel
theorem dX10_whyNotPlan_70 : decode cX10_whyNotPlan 70 = .ok (.bipush 8, 2) := by decide +kernel
theorem dX10_whyNotPlan_72 : decode cX10_whyNotPlan 72 = .ok (.iaload, 1) := by decide +kernel
theorem dX10_whyNotPlan_73 : decode cX10_whyNotPlan 73 = .ok (.if_icmp .gt 7, 3) := by decide +kernel
theorem dX10_whyNotPlan_76 : decode cX10_whyNotPlan 76 = .ok (.iconst 1, 1) := by decide +kernel
theorem dX10_whyNotPlan_77 : decode cX10_whyNotPlan 77 = .ok (.goto 4, 3) := by decide +kernel
theorem dX10_whyNotPlan_80 : decode cX10_whyNotPlan 80 = .ok (.iconst 0, 1) := by decide +kernel
theorem dX10_whyNotPlan_81 : decode cX10_whyNotPlan 81 = .ok (.ior, 1) := by decide +kernel
theorem dX10_whyNotPlan_82 : decode cX10_whyNotPlan 82 = .ok (.istore_n 3, 1) := by decide +kernel
theorem dX10_whyNotPlan_83 : decode cX10_whyNotPlan 83 = .ok (.iload_n 1, 1) := by decide +kernel
theorem dX10_whyNotPlan_84 : decode cX10_whyNotPlan 84 = .ok (.ldc 117, 2) := by decide +kernel
theorem dX10_whyNotPlan_86 : decode cX10_whyNotPlan 86 = .ok (.if_icmp .gt 10, 3) := by decide +kernel
theorem dX10_whyNotPlan_89 : decode cX10_whyNotPlan 89 = .ok (.iload_n 2, 1) := by decide +kernel
theorem dX10_whyNotPlan_90 : decode cX10_whyNotPlan 90 = .ok (.sipush 1000, 3) := by decide +kernel
theorem dX10_whyNotPlan_93 : decode cX10_whyNotPlan 93 = .ok (.if_icmp .le 6, 3) := by decide +kernel
theorem dX10_whyNotPlan_96 : decode cX10_whyNotPlan 96 = .ok (.bipush (-4), 2) := by decide +kernel
theorem dX10_whyNotPlan_98 : decode cX10_whyNotPlan 98 = .ok (.ireturn, 1) := by decide +kernel
theorem dX10_whyNotPlan_99 : decode cX10_whyNotPlan 99 = .ok (.iinc 2 1, 3) := by decide +kernel
theorem dX10_whyNotPlan_102 : decode cX10_whyNotPlan 102 = .ok (.iinc 4 1, 3) := by decide +kernel
theorem dX10_whyNotPlan_105 : decode cX10_whyNotPlan 105 = .ok (.goto (-70), 3) := by decide +kernel
theorem dX10_whyNotPlan_108 : decode cX10_whyNotPlan 108 = .ok (.iload_n 3, 1) := by decide +kernel
theorem dX10_whyNotPlan_109 : decode cX10_whyNotPlan 109 = .ok (.ifCond .eq 8, 3) := by decide +kernel
theorem dX10_whyNotPlan_112 : decode cX10_whyNotPlan 112 = .ok (.bipush (-5), 2) := by decide +kernel
theorem dX10_whyNotPlan_114 : decode cX10_whyNotPlan 114 = .ok (.goto 4, 3) := by decide +kernel
theorem dX10_whyNotPlan_117 : decode cX10_whyNotPlan 117 = .ok (.iconst 0, 1) := by decide +kernel
theorem dX10_whyNotPlan_118 : decode cX10_whyNotPlan 118 = .ok (.ireturn, 1) := by decide +kernel
set_option maxRecDepth 20000 in
theorem ggX10_plan_X10_fault : GoodIn wsX10_plan wsX10_fault := goodIn_r _ [10, 11, 12, 1, 13, 14, 4, 15, 16, 17, 9, 18, 19, 20, 21, 22, 23, 24, 25, 26, 27, 28, 29, 30, 31, 32, 33, 34, 35, 36, 37, 38, 39, 2, 3, 40, 41, 42, 43, 44, 45, 46, 47, 84, 85, 86, 87, 88, 89, 90, 91, 92, 93, 94, 95, 96, 97, 98, 99, 100, 101] (by decide +kernel) (by decide +kernel)
set_option maxRecDepth 20000 in
theorem gX10_plan_X10_fault : GoodIn wsX10_plan (wsV RX10 185 RX10 yX10_fault wsX10_fault) := goodIn_app (goodIn_of _ (by decide +kernel)) ggX10_plan_X10_fault
set_option maxRecDepth 20000 in
theorem ggX10_plan_X10_whyNotPlan : GoodIn wsX10_plan wsX10_whyNotPlan := goodIn_r _ [51, 5, 1, 2, 3, 52, 53, 54, 55, 9, 56, 57, 58, 59, 60, 61, 62, 63, 64, 84, 85, 86, 87, 88, 89, 90, 91, 92, 93, 94, 95, 96, 97, 98, 99, 100, 101] (by decide +kernel) (by decide +kernel)
set_option maxRecDepth 20000 in
theorem gX10_plan_X10_whyNotPlan : GoodIn wsX10_plan (wsV RX10 188 RX10 yX10_whyNotPlan wsX10_whyNotPlan) := goodIn_app (goodIn_of _ (by decide +kernel)) ggX10_plan_X10_whyNotPlan
set_option maxRecDepth 20000 in
theorem ggX10_plan_X10_keep : GoodIn wsX10_plan wsX10_keep := goodIn_r _ [68, 69, 70, 71, 5, 84, 85, 86, 87, 88, 89, 90, 91, 92, 93, 94, 95, 96, 97, 98, 99, 100, 101] (by decide +kernel) (by decide +kernel)
set_option maxRecDepth 20000 in
theorem gX10_plan_X10_keep : GoodIn wsX10_plan (wsV RX10 108 RX10 yX10_keep wsX10_keep) := goodIn_app (goodIn_of _ (by decide +kernel)) ggX10_plan_X10_keep
set_option maxRecDepth 20000 in
theorem ggX10_plan_X10_lastTime : GoodIn wsX10_plan wsX10_lastTime := goodIn_r _ [56, 5, 57, 58, 59, 9, 60, 84, 85, 86, 87, 88, 89, 90, 91, 92, 93, 94, 95, 96, 97, 98, 99, 100, 101] (by decide +kernel) (by decide +kernel)
set_option maxRecDepth 20000 in
theorem gX10_plan_X10_lastTime : GoodIn wsX10_plan (wsV RX10 111 RX10 yX10_lastTime wsX10_lastTime) := goodIn_app (goodIn_of _ (by decide +kernel)) ggX10_plan_X10_lastTime
set_option maxRecDepth 20000 in
theorem ggX10_plan_X10_nextTrue : GoodIn wsX10_plan wsX10_nextTrue := goodIn_r _ [64, 5, 57, 58, 59, 9, 60, 84, 85, 86, 87, 88, 89, 90, 91, 92, 93, 94, 95, 96, 97, 98, 99, 100, 101] (by decide +kernel) (by decide +kernel)
set_option maxRecDepth 20000 in
theorem gX10_plan_X10_nextTrue : GoodIn wsX10_plan (wsV RX10 114 RX10 yX10_nextTrue wsX10_nextTrue) := goodIn_app (goodIn_of _ (by decide +kernel)) ggX10_plan_X10_nextTrue
set_option maxRecDepth 20000 in
theorem ggX10_plan_X10_addBeat : GoodIn wsX10_plan wsX10_addBeat := goodIn_r _ [75, 5, 76, 77, 78, 9, 79, 80, 81, 82, 83, 84, 85, 86, 87, 88, 89, 90, 91, 92, 93, 94, 95, 96, 97, 98, 99, 100, 101] (by decide +kernel) (by decide +kernel)
set_option maxRecDepth 20000 in
theorem gX10_plan_X10_addBeat : GoodIn wsX10_plan (wsV RX10 118 RX10 yX10_addBeat wsX10_addBeat) := goodIn_app (goodIn_of _ (by decide +kernel)) ggX10_plan_X10_addBeat
theorem dX10_plan_0 : decode cX10_plan 0 = .ok (.aload_n 0, 1) := by decide +kernel
theorem dX10_plan_1 : decode cX10_plan 1 = .ok (.invokevirtual 185, 3) := by decide +kernel
theorem dX10_plan_4 : decode cX10_plan 4 = .ok (.ifCond .lt 6, 3) := by decide +kernel
theorem dX10_plan_7 : decode cX10_plan 7 = .ok (.bipush (-3), 2) := by decide +kernel
theorem dX10_plan_9 : decode cX10_plan 9 = .ok (.ireturn, 1) := by decide +kernel
theorem dX10_plan_10 : decode cX10_plan 10 = .ok (.aload_n 0, 1) := by decide +kernel
theorem dX10_plan_11 : decode cX10_plan 11 = .ok (.invokevirtual 188, 3) := by decide +kernel
theorem dX10_plan_14 : decode cX10_plan 14 = .ok (.istore_n 1, 1) := by decide +kernel
theorem dX10_plan_15 : decode cX10_plan 15 = .ok (.iload_n 1, 1) := by decide +kernel
theorem dX10_plan_16 : decode cX10_plan 16 = .ok (.ifCond .ge 5, 3) := by decide +kernel
theorem dX10_plan_19 : decode cX10_plan 19 = .ok (.iload_n 1, 1) := by decide +kernel
theorem dX10_plan_20 : decode cX10_plan 20 = .ok (.ireturn, 1) := by decide +kernel
theorem dX10_plan_21 : decode cX10_plan 21 = .ok (.aload_n 0, 1) := by decide +kernel
theorem dX10_plan_22 : decode cX10_plan 22 = .ok (.invokevirtual 108, 3) := by decide +kernel
theorem dX10_plan_25 : decode cX10_plan 25 = .ok (.iconst 0, 1) := by decide +kernel
theorem dX10_plan_26 : decode cX10_plan 26 = .ok (.istore_n 2, 1) := by decide +kernel
theorem dX10_plan_27 : decode cX10_plan 27 = .ok (.iload_n 2, 1) := by decide +kernel
theorem dX10_plan_28 : decode cX10_plan 28 = .ok (.aload_n 0, 1) := by decide +kernel
theorem dX10_plan_29 : decode cX10_plan 29 = .ok (.getfield 158, 3) := by decide +kernel
theorem dX10_plan_32 : decode cX10_plan 32 = .ok (.if_icmp .ge 35, 3) := by decide +kernel
theorem dX10_plan_35 : decode cX10_plan 35 = .ok (.aload_n 0, 1) := by decide +kernel
theorem dX10_plan_36 : decode cX10_plan 36 = .ok (.aload_n 0, 1) := by decide +kernel
theorem dX10_plan_37 : decode cX10_plan 37 = .ok (.invokevirtual 111, 3) := by decide +kernel
theorem dX10_plan_40 : decode cX10_plan 40 = .ok (.aload_n 0, 1) := by decide +kernel
theorem dX10_plan_41 : decode cX10_plan 41 = .ok (.getfield 33, 3) := by decide +kernel
theorem dX10_plan_44 : decode cX10_plan 44 = .ok (.iload_n 2, 1) := by decide +kernel
theorem dX10_plan_45 : decode cX10_plan 45 = .ok (.iaload, 1) := by decide +kernel
theorem dX10_plan_46 : decode cX10_plan 46 = .ok (.iadd, 1) := by decide +kernel
theorem dX10_plan_47 : decode cX10_plan 47 = .ok (.aload_n 0, 1) := by decide +kernel
theorem dX10_plan_48 : decode cX10_plan 48 = .ok (.invokevirtual 114, 3) := by decide +kernel
theorem dX10_plan_51 : decode cX10_plan 51 = .ok (.aload_n 0, 1) := by decide +kernel
theorem dX10_plan_52 : decode cX10_plan 52 = .ok (.getfield 36, 3) := by decide +kernel
theorem dX10_plan_55 : decode cX10_plan 55 = .ok (.iload_n 2, 1) := by decide +kernel
theorem dX10_plan_56 : decode cX10_plan 56 = .ok (.iaload, 1) := by decide +kernel
theorem dX10_plan_57 : decode cX10_plan 57 = .ok (.iadd, 1) := by decide +kernel
theorem dX10_plan_58 : decode cX10_plan 58 = .ok (.invokevirtual 118, 3) := by decide +kernel
theorem dX10_plan_61 : decode cX10_plan 61 = .ok (.iinc 2 1, 3) := by decide +kernel
theorem dX10_plan_64 : decode cX10_plan 64 = .ok (.goto (-37), 3) := by decide +kernel
theorem dX10_plan_67 : decode cX10_plan 67 = .ok (.aload_n 0, 1) := by decide +kernel
theorem dX10_plan_68 : decode cX10_plan 68 = .ok (.iconst 0, 1) := by decide +kernel
theorem dX10_plan_69 : decode cX10_plan 69 = .ok (.putfield 128, 3) := by decide +kernel
theorem dX10_plan_72 : decode cX10_plan 72 = .ok (.aload_n 0, 1) := by decide +kernel
theorem dX10_plan_73 : decode cX10_plan 73 = .ok (.getfield 7, 3) := by decide +kernel
theorem dX10_plan_76 : decode cX10_plan 76 = .ok (.bipush 22, 2) := by decide +kernel
theorem dX10_plan_78 : decode cX10_plan 78 = .ok (.iaload, 1) := by decide +kernel
theorem dX10_plan_79 : decode cX10_plan 79 = .ok (.ireturn, 1) := by decide +kernel
theorem dX10_undo_0 : decode cX10_undo 0 = .ok (.aload_n 0, 1) := by decide +kernel
theorem dX10_undo_1 : decode cX10_undo 1 = .ok (.getfield 39, 3) := by decide +kernel
theorem dX10_undo_4 : decode cX10_undo 4 = .ok (.ifCond .ne 6, 3) := by decide +kernel
theorem dX10_undo_7 : decode cX10_undo 7 = .ok (.bipush (-5), 2) := by decide +kernel
theorem dX10_undo_9 : decode cX10_undo 9 = .ok (.ireturn, 1) := by decide +kernel
theorem dX10_undo_10 : decode cX10_undo 10 = .ok (.aload_n 0, 1) := by decide +kernel
theorem dX10_undo_11 : decode cX10_undo 11 = .ok (.dup, 1) := by decide +kernel
theorem dX10_undo_12 : decode cX10_undo 12 = .ok (.getfield 39, 3) := by decide +kernel
theorem dX10_undo_15 : decode cX10_undo 15 = .ok (.iconst 1, 1) := by decide +kernel
theorem dX10_undo_16 : decode cX10_undo 16 = .ok (.isub, 1) := by decide +kernel
theorem dX10_undo_17 : decode cX10_undo 17 = .ok (.putfield 39, 3) := by decide +kernel
theorem dX10_undo_20 : decode cX10_undo 20 = .ok (.aload_n 0, 1) := by decide +kernel
theorem dX10_undo_21 : decode cX10_undo 21 = .ok (.getfield 42, 3) := by decide +kernel
theorem dX10_undo_24 : decode cX10_undo 24 = .ok (.aload_n 0, 1) := by decide +kernel
theorem dX10_undo_25 : decode cX10_undo 25 = .ok (.getfield 39, 3) := by decide +kernel
theorem dX10_undo_28 : decode cX10_undo 28 = .ok (.iadd, 1) := by decide +kernel
theorem dX10_undo_29 : decode cX10_undo 29 = .ok (.bipush 6, 2) := by decide +kernel
theorem dX10_undo_31 : decode cX10_undo 31 = .ok (.irem, 1) := by decide +kernel
theorem dX10_undo_32 : decode cX10_undo 32 = .ok (.istore_n 1, 1) := by decide +kernel
theorem dX10_undo_33 : decode cX10_undo 33 = .ok (.iconst 0, 1) := by decide +kernel
theorem dX10_undo_34 : decode cX10_undo 34 = .ok (.istore_n 2, 1) := by decide +kernel
theorem dX10_undo_35 : decode cX10_undo 35 = .ok (.iload_n 2, 1) := by decide +kernel
theorem dX10_undo_36 : decode cX10_undo 36 = .ok (.sipush 672, 3) := by decide +kernel
theorem dX10_undo_39 : decode cX10_undo 39 = .ok (.if_icmp .ge 27, 3) := by decide +kernel
theorem dX10_undo_42 : decode cX10_undo 42 = .ok (.aload_n 0, 1) := by decide +kernel
theorem dX10_undo_43 : decode cX10_undo 43 = .ok (.getfield 7, 3) := by decide +kernel
theorem dX10_undo_46 : decode cX10_undo 46 = .ok (.iload_n 2, 1) := by decide +kernel
theorem dX10_undo_47 : decode cX10_undo 47 = .ok (.aload_n 0, 1) := by decide +kernel
theorem dX10_undo_48 : decode cX10_undo 48 = .ok (.getfield 13, 3) := by decide +kernel
theorem dX10_undo_51 : decode cX10_undo 51 = .ok (.sipush 672, 3) := by decide +kernel
theorem dX10_undo_54 : decode cX10_undo 54 = .ok (.iload_n 1, 1) := by decide +kernel
theorem dX10_undo_55 : decode cX10_undo 55 = .ok (.imul, 1) := by decide +kernel
theorem dX10_undo_56 : decode cX10_undo 56 = .ok (.iload_n 2, 1) := by decide +kernel
theorem dX10_undo_57 : decode cX10_undo 57 = .ok (.iadd, 1) := by decide +kernel
theorem dX10_undo_58 : decode cX10_undo 58 = .ok (.iaload, 1) := by decide +kernel
theorem dX10_undo_59 : decode cX10_undo 59 = .ok (.iastore, 1) := by decide +kernel
theorem dX10_undo_60 : decode cX10_undo 60 = .ok (.iinc 2 1, 3) := by decide +kernel
theorem dX10_undo_63 : decode cX10_undo 63 = .ok (.goto (-28), 3) := by decide +kernel
theorem dX10_undo_66 : decode cX10_undo 66 = .ok (.aload_n 0, 1) := by decide +kernel
theorem dX10_undo_67 : decode cX10_undo 67 = .ok (.getfield 39, 3) := by decide +kernel
theorem dX10_undo_70 : decode cX10_undo 70 = .ok (.ireturn, 1) := by decide +kernel
set_option maxRecDepth 20000 in
theorem ggX10_save_X10_in : GoodIn wsX10_save wsX10_in := goodIn_r _ [7] (by decide +kernel) (by decide +kernel)
set_option maxRecDepth 20000 in
theorem gX10_save_X10_in : GoodIn wsX10_save (va_wsS RX10 98 yX10_in wsX10_in) := goodIn_app (goodIn_of _ (by decide +kernel)) ggX10_save_X10_in
theorem dX10_save_0 : decode cX10_save 0 = .ok (.iload_n 1, 1) := by decide +kernel
theorem dX10_save_1 : decode cX10_save 1 = .ok (.iconst 0, 1) := by decide +kernel
theorem dX10_save_2 : decode cX10_save 2 = .ok (.iconst 1, 1) := by decide +kernel
theorem dX10_save_3 : decode cX10_save 3 = .ok (.invokestatic 98, 3) := by decide +kernel
theorem dX10_save_6 : decode cX10_save 6 = .ok (.ifCond .ne 6, 3) := by decide +kernel
theorem dX10_save_9 : decode cX10_save 9 = .ok (.bipush (-2), 2) := by decide +kernel
theorem dX10_save_11 : decode cX10_save 11 = .ok (.ireturn, 1) := by decide +kernel
theorem dX10_save_12 : decode cX10_save 12 = .ok (.iconst 0, 1) := by decide +kernel
theorem dX10_save_13 : decode cX10_save 13 = .ok (.istore_n 2, 1) := by decide +kernel
theorem dX10_save_14 : decode cX10_save 14 = .ok (.iload_n 2, 1) := by decide +kernel
theorem dX10_save_15 : decode cX10_save 15 = .ok (.sipush 672, 3) := by decide +kernel
theorem dX10_save_18 : decode cX10_save 18 = .ok (.if_icmp .ge 27, 3) := by decide +kernel
theorem dX10_save_21 : decode cX10_save 21 = .ok (.aload_n 0, 1) := by decide +kernel
theorem dX10_save_22 : decode cX10_save 22 = .ok (.getfield 16, 3) := by decide +kernel
theorem dX10_save_25 : decode cX10_save 25 = .ok (.sipush 672, 3) := by decide +kernel
theorem dX10_save_28 : decode cX10_save 28 = .ok (.iload_n 1, 1) := by decide +kernel
theorem dX10_save_29 : decode cX10_save 29 = .ok (.imul, 1) := by decide +kernel
theorem dX10_save_30 : decode cX10_save 30 = .ok (.iload_n 2, 1) := by decide +kernel
theorem dX10_save_31 : decode cX10_save 31 = .ok (.iadd, 1) := by decide +kernel
theorem dX10_save_32 : decode cX10_save 32 = .ok (.aload_n 0, 1) := by decide +kernel
theorem dX10_save_33 : decode cX10_save 33 = .ok (.getfield 7, 3) := by decide +kernel
theorem dX10_save_36 : decode cX10_save 36 = .ok (.iload_n 2, 1) := by decide +kernel
theorem dX10_save_37 : decode cX10_save 37 = .ok (.iaload, 1) := by decide +kernel
theorem dX10_save_38 : decode cX10_save 38 = .ok (.iastore, 1) := by decide +kernel
theorem dX10_save_39 : decode cX10_save 39 = .ok (.iinc 2 1, 3) := by decide +kernel
theorem dX10_save_42 : decode cX10_save 42 = .ok (.goto (-28), 3) := by decide +kernel
theorem dX10_save_45 : decode cX10_save 45 = .ok (.aload_n 0, 1) := by decide +kernel
theorem dX10_save_46 : decode cX10_save 46 = .ok (.getfield 19, 3) := by decide +kernel
theorem dX10_save_49 : decode cX10_save 49 = .ok (.iload_n 1, 1) := by decide +kernel
theorem dX10_save_50 : decode cX10_save 50 = .ok (.iconst 1, 1) := by decide +kernel
theorem dX10_save_51 : decode cX10_save 51 = .ok (.bastore, 1) := by decide +kernel
theorem dX10_save_52 : decode cX10_save 52 = .ok (.aload_n 0, 1) := by decide +kernel
theorem dX10_save_53 : decode cX10_save 53 = .ok (.getfield 7, 3) := by decide +kernel
theorem dX10_save_56 : decode cX10_save 56 = .ok (.bipush 8, 2) := by decide +kernel
theorem dX10_save_58 : decode cX10_save 58 = .ok (.iaload, 1) := by decide +kernel
theorem dX10_save_59 : decode cX10_save 59 = .ok (.ireturn, 1) := by decide +kernel
set_option maxRecDepth 20000 in
theorem ggX10_restore_X10_in : GoodIn wsX10_restore wsX10_in := goodIn_r _ [7] (by decide +kernel) (by decide +kernel)
set_option maxRecDepth 20000 in
theorem gX10_restore_X10_in : GoodIn wsX10_restore (va_wsS RX10 98 yX10_in wsX10_in) := goodIn_app (goodIn_of _ (by decide +kernel)) ggX10_restore_X10_in
set_option maxRecDepth 20000 in
theorem ggX10_restore_X10_keep : GoodIn wsX10_restore wsX10_keep := goodIn_r _ [11, 12, 13, 14, 2, 15, 16, 17, 18, 19, 20, 21, 22, 23, 24, 25, 26, 27, 28, 29, 30, 31, 32] (by decide +kernel) (by decide +kernel)
set_option maxRecDepth 20000 in
theorem gX10_restore_X10_keep : GoodIn wsX10_restore (wsV RX10 108 RX10 yX10_keep wsX10_keep) := goodIn_app (goodIn_of _ (by decide +kernel)) ggX10_restore_X10_keep
theorem dX10_restore_0 : decode cX10_restore 0 = .ok (.iload_n 1, 1) := by decide +kernel
theorem dX10_restore_1 : decode cX10_restore 1 = .ok (.iconst 0, 1) := by decide +kernel
theorem dX10_restore_2 : decode cX10_restore 2 = .ok (.iconst 1, 1) := by decide +kernel
theorem dX10_restore_3 : decode cX10_restore 3 = .ok (.invokestatic 98, 3) := by decide +kernel
theorem dX10_restore_6 : decode cX10_restore 6 = .ok (.ifCond .ne 6, 3) := by decide +kernel
theorem dX10_restore_9 : decode cX10_restore 9 = .ok (.bipush (-2), 2) := by decide +kernel
theorem dX10_restore_11 : decode cX10_restore 11 = .ok (.ireturn, 1) := by decide +kernel
theorem dX10_restore_12 : decode cX10_restore 12 = .ok (.aload_n 0, 1) := by decide +kernel
theorem dX10_restore_13 : decode cX10_restore 13 = .ok (.getfield 19, 3) := by decide +kernel
theorem dX10_restore_16 : decode cX10_restore 16 = .ok (.iload_n 1, 1) := by decide +kernel
theorem dX10_restore_17 : decode cX10_restore 17 = .ok (.baload, 1) := by decide +kernel
theorem dX10_restore_18 : decode cX10_restore 18 = .ok (.ifCond .ne 6, 3) := by decide +kernel
theorem dX10_restore_21 : decode cX10_restore 21 = .ok (.bipush (-5), 2) := by decide +kernel
theorem dX10_restore_23 : decode cX10_restore 23 = .ok (.ireturn, 1) := by decide +kernel
theorem dX10_restore_24 : decode cX10_restore 24 = .ok (.aload_n 0, 1) := by decide +kernel
theorem dX10_restore_25 : decode cX10_restore 25 = .ok (.invokevirtual 108, 3) := by decide +kernel
theorem dX10_restore_28 : decode cX10_restore 28 = .ok (.iconst 0, 1) := by decide +kernel
theorem dX10_restore_29 : decode cX10_restore 29 = .ok (.istore_n 2, 1) := by decide +kernel
theorem dX10_restore_30 : decode cX10_restore 30 = .ok (.iload_n 2, 1) := by decide +kernel
theorem dX10_restore_31 : decode cX10_restore 31 = .ok (.sipush 672, 3) := by decide +kernel
theorem dX10_restore_34 : decode cX10_restore 34 = .ok (.if_icmp .ge 27, 3) := by decide +kernel
theorem dX10_restore_37 : decode cX10_restore 37 = .ok (.aload_n 0, 1) := by decide +kernel
theorem dX10_restore_38 : decode cX10_restore 38 = .ok (.getfield 7, 3) := by decide +kernel
theorem dX10_restore_41 : decode cX10_restore 41 = .ok (.iload_n 2, 1) := by decide +kernel
theorem dX10_restore_42 : decode cX10_restore 42 = .ok (.aload_n 0, 1) := by decide +kernel
theorem dX10_restore_43 : decode cX10_restore 43 = .ok (.getfield 16, 3) := by decide +kernel
theorem dX10_restore_46 : decode cX10_restore 46 = .ok (.sipush 672, 3) := by decide +kernel
theorem dX10_restore_49 : decode cX10_restore 49 = .ok (.iload_n 1, 1) := by decide +kernel
theorem dX10_restore_50 : decode cX10_restore 50 = .ok (.imul, 1) := by decide +kernel
theorem dX10_restore_51 : decode cX10_restore 51 = .ok (.iload_n 2, 1) := by decide +kernel
theorem dX10_restore_52 : decode cX10_restore 52 = .ok (.iadd, 1) := by decide +kernel
theorem dX10_restore_53 : decode cX10_restore 53 = .ok (.iaload, 1) := by decide +kernel
theorem dX10_restore_54 : decode cX10_restore 54 = .ok (.iastore, 1) := by decide +kernel
theorem dX10_restore_55 : decode cX10_restore 55 = .ok (.iinc 2 1, 3) := by decide +kernel
theorem dX10_restore_58 : decode cX10_restore 58 = .ok (.goto (-28), 3) := by decide +kernel
theorem dX10_restore_61 : decode cX10_restore 61 = .ok (.aload_n 0, 1) := by decide +kernel
theorem dX10_restore_62 : decode cX10_restore 62 = .ok (.getfield 7, 3) := by decide +kernel
theorem dX10_restore_65 : decode cX10_restore 65 = .ok (.bipush 8, 2) := by decide +kernel
theorem dX10_restore_67 : decode cX10_restore 67 = .ok (.iaload, 1) := by decide +kernel
theorem dX10_restore_68 : decode cX10_restore 68 = .ok (.ireturn, 1) := by decide +kernel
end
section
/-! own rows: states as functions, worlds as lists out of them, one row a call -/
section QBASE
abbrev T1 := Nat → Int32
abbrev T2 := Nat → T1
def u2 (σ : T2) (c : Nat) (f : T1) : T2 := fun j => if j = c then f else σ j
def FU : Nat := 5000
def q_B (D : va_G) (tys : List (ClassId × FieldType)) (wd : va_W) (sz : Nat) : State → Prop := fun U => U.heap.size = sz ∧ va_P D vwCl wd U.heap ∧ va_K D vwCl tys U ∧ va_D (fun _ => True) wd
def q_E (D : va_G) (tys : List (ClassId × FieldType)) (A : Nat → Prop) (wd : va_W) : State → Prop := fun t => va_P D vwCl wd t.heap ∧ va_K D vwCl tys t ∧ va_D A wd
def q_C (p : Program) (s : State) (m : MethodId) (meth : Method) (c : Code) (args : Array Value) (own : String) (cc : ByteArray) (maxL : Nat) (ret : Option FieldType) (ws : List Cond) (D : va_G) (tys : List (ClassId × FieldType)) (A : Nat → Prop) : Prop :=
  p.tables.exec = Jvm.exec ∧ c.code = cc ∧ meth.sig.returnType = ret ∧ c.maxLocals = maxL ∧ (∀ w ∈ ws, w.before args s = true) ∧ s.vm.findClass own = some m.cls ∧ meth.locks = false ∧ va_K D vwCl tys s ∧ (∀ q : Nat, s.heap.size ≤ q → A q)
def q_W (D : va_G) (A : Nat → Prop) (H0 : Heap) (wd : va_W) (H : Heap) (locs : List Loc) : Prop := va_P D vwCl wd H ∧ va_D A wd ∧ va_S A H0 H locs
theorem u2_same (σ : T2) (j : Nat) (f g : T1) : u2 (u2 σ j f) j g = u2 σ j g := by
  funext i
  unfold u2
  split <;> rfl
/-- a part of the places of a state, from one on -/
def sb (σ : T2) (o n : Nat) (τ : T2) : T2 := fun j => if o ≤ j ∧ j < o + n then τ (j - o) else σ j
def tyL (k : Nat → ClassId) : List (ClassId × FieldType) := [(k 0, .int), (k 1, .boolean), (k 2, .char), (k 3, .object "BeatFollower$Scene")]
theorem q_nb {x : Int32} (h : x = 0 ∨ x = 1) : narrow .boolean (.int x) = .int x := by rcases h with rfl | rfl <;> decide
theorem q_fb {x : Int32} (h : x = 0 ∨ x = 1) : fits .boolean (.int x) = true := by rcases h with rfl | rfl <;> decide
def q_C1 (p : Program) (s : State) (m : MethodId) (meth : Method) (c : Code) (args : Array Value) (own : String) (cc : ByteArray) (maxL : Nat) (ret : Option FieldType) (ws : List Cond) : Prop :=
  p.tables.exec = Jvm.exec ∧ c.code = cc ∧ meth.sig.returnType = ret ∧ c.maxLocals = maxL ∧ (∀ w ∈ ws, w.before args s = true) ∧ s.vm.findClass own = some m.cls ∧ meth.locks = false
set_option maxHeartbeats 4000000 in
theorem q_mets {l : Launch} {y : MethodName} {ws ws' : List Cond} {rm : Room} {Qc : Array Value → State → Outcome → State → Prop} {mc ms : Nat} {free : Addr → Prop} {cc : ByteArray} {maxL : Nat} {ret : Option FieldType} (av : List Value)
    (hy : plainName y.cls = true) (hw : ws = Cond.code y cc maxL ret :: ws') (hlen : (lg_sl av).length ≤ maxL)
    (body : ∀ (p : Program) (e : Env) (s : State) (m : MethodId) (args : Array Value) (below : List Frame) (meth : Method) (c : Code) (ls : Array Slot), q_C1 p s m meth c args y.cls cc maxL ret ws → lv_has ls maxL (lv_args 0 av) →
      W p l e rm s m args below meth c s.heap [] 0 0 (MQ below Qc args s mc ms free) (F0 m 0 ls [])) :
    Met l y ws rm (va_Pc av (fun _ => True)) Qc mc ms free := by
  refine Met.ofW (cc := cc) (maxL := maxL) (ret := ret) hy hw ?_
  intro p e s m args below meth c s₁ B hml hv
  obtain ⟨rfl, -⟩ := hv
  have hts := atoms_spec (ws := ws) B.pre
  have hown : s.vm.findClass y.cls = some m.cls := findClass_of_methodNamed B.named
  have hl := lv_entry av (n := maxL) hlen
  rw [lg_entry_eq]
  exact body p e s m _ below meth c _ ⟨B.exec, B.bytes, B.returns, hml, hts, hown, B.notSynchronized⟩ hl
theorem q_B_blind {av : List Value} {D : va_G} {tys : List (ClassId × FieldType)} {wd : va_W} {sz : Nat} : FrameBlind (va_Pc av (q_B D tys wd sz)) := fun a U g mk q => by
  obtain ⟨q0, q1, qP, qK, qD⟩ := q
  exact ⟨q0, q1, qP, va_K.moved (u := U) (U := U.calling g mk a) (Vm.Alike.refl U.vm) qK, qD⟩
set_option maxHeartbeats 4000000 in
theorem q_met {l : Launch} {y : MethodName} {ws ws' : List Cond} {rm : Room} {Qc : Array Value → State → Outcome → State → Prop} {mc ms : Nat} {free : Addr → Prop} {cc : ByteArray} {maxL : Nat} {ret : Option FieldType} {D : va_G} {tys : List (ClassId × FieldType)} (av : List Value) (wd : va_W) (sz : Nat)
    (hy : plainName y.cls = true) (hw : ws = Cond.code y cc maxL ret :: ws') (hlen : (lg_sl av).length ≤ maxL)
    (body : ∀ (p : Program) (e : Env) (s : State) (m : MethodId) (args : Array Value) (below : List Frame) (meth : Method) (c : Code) (ls : Array Slot), s.heap.size = sz → q_C p s m meth c args y.cls cc maxL ret ws D tys (va_A wd sz) → q_W D (va_A wd sz) s.heap wd s.heap [] → lv_has ls maxL (lv_args 0 av) → meth.name = y.name →
      W p l e rm s m args below meth c s.heap [] 0 0 (MQ below Qc args s mc ms free) (F0 m 0 ls [])) :
    Met l y ws rm (va_Pc av (q_B D tys wd sz)) Qc mc ms free := by
  refine Met.ofW (cc := cc) (maxL := maxL) (ret := ret) hy hw ?_
  intro p e s m args below meth c s₁ B hml hv
  obtain ⟨rfl, hsz, hP, hK, hD0⟩ := hv
  have hts := atoms_spec (ws := ws) B.pre
  have hown : s.vm.findClass y.cls = some m.cls := findClass_of_methodNamed B.named
  have hin : meth.name = y.name := (name_of_methodNamed B.named B.method).1
  subst hsz
  have hD := hD0.self (sz := s.heap.size)
  have hl := lv_entry av (n := maxL) hlen
  rw [lg_entry_eq]
  exact body p e s m _ below meth c _ rfl ⟨B.exec, B.bytes, B.returns, hml, hts, hown, B.notSynchronized, hK, fun q h => Or.inr h⟩ ⟨hP, hD, va_S.rf⟩ hl hin
section QV
variable {p : Program} {l : Launch} {e : Env} {Rm : Room} {s : State} {m : MethodId} {args : Array Value} {below : List Frame} {meth : Method} {c : Code} {H H0 : Heap} {locs : List Loc} {cells slots : Nat} {Q : State → Prop}
variable {pc : Nat} {ls : Array Slot} {rest st0 : List Value} {A : Nat → Prop} {own : String} {cc : ByteArray} {maxL : Nat} {ret : Option FieldType} {ws : List Cond} {D : va_G} {tys : List (ClassId × FieldType)} {wd : va_W} {k9 : Nat → ClassId}
-- ends
theorem q_iret {S : Type} {wf : S → va_W} {R : Int32 × S} {u : S} {v : Int32} (C0 : q_C p s m meth c args own cc maxL (some .int) ws D tys A) (hW : q_W D A s.heap (wf u) H locs) (hR : (v, u) = R) (hdg : decode cc pc = .ok (.ireturn, 1)) :
    W p l e Rm s m args below meth c H locs cells slots (MQ below (va_Qi (fun r u => (r, u) = R) (fun u => q_E D tys A (wf u)) A) args s cells slots A) (F0 m pc ls [.int v]) := by
  obtain ⟨hx, hb, hr, hml, hts, hown, hlocks, hK, hA⟩ := C0
  obtain ⟨hP, hD, hS⟩ := hW
  exact W.iret (v := v) hx hb hr (fun t ht hw => ⟨⟨v, u, rfl, hR, by rw [ht]; exact hP, va_K.moved hw.alike hK, hD⟩, hS.F ht⟩) hS.2.2 hdg hlocks
theorem q_zret {S : Type} {wf : S → va_W} {R : Int32 × S} {u : S} {v : Int32} (C0 : q_C p s m meth c args own cc maxL (some .boolean) ws D tys A) (hn : narrow .boolean (.int v) = .int v) (hW : q_W D A s.heap (wf u) H locs) (hR : (v, u) = R) (hdg : decode cc pc = .ok (.ireturn, 1)) :
    W p l e Rm s m args below meth c H locs cells slots (MQ below (va_Qi (fun r u => (r, u) = R) (fun u => q_E D tys A (wf u)) A) args s cells slots A) (F0 m pc ls [.int v]) := by
  obtain ⟨hx, hb, hr, hml, hts, hown, hlocks, hK, hA⟩ := C0
  obtain ⟨hP, hD, hS⟩ := hW
  exact W.zret (v := v) hx hb hr hn (fun t ht hw => ⟨⟨v, u, rfl, hR, by rw [ht]; exact hP, va_K.moved hw.alike hK, hD⟩, hS.F ht⟩) hS.2.2 hdg hlocks
theorem q_vret {S : Type} {wf : S → va_W} {R : S} {u : S} (C0 : q_C p s m meth c args own cc maxL none ws D tys A) (hW : q_W D A s.heap (wf u) H locs) (hR : u = R) (hdg : decode cc pc = .ok (.return_, 1)) :
    W p l e Rm s m args below meth c H locs cells slots (MQ below (va_Qv (fun u => u = R) (fun u => q_E D tys A (wf u)) A) args s cells slots A) (F0 m pc ls []) := by
  obtain ⟨hx, hb, hr, hml, hts, hown, hlocks, hK, hA⟩ := C0
  obtain ⟨hP, hD, hS⟩ := hW
  exact W.vret hx hb hr (fun t ht hw => ⟨⟨u, rfl, hR, by rw [ht]; exact hP, va_K.moved hw.alike hK, hD⟩, hS.F ht⟩) hS.2.2 hdg hlocks
theorem q_iretr {R v : Int32} (C0 : q_C p s m meth c args own cc maxL (some .int) ws D tys A) (hR : v = R) (hdg : decode cc pc = .ok (.ireturn, 1)) :
    W p l e Rm s m args below meth c s.heap [] cells slots (MQ below (vp_Si (fun r => r = R)) args s cells slots (fun _ => False)) (F0 m pc ls [.int v]) := by
  obtain ⟨hx, hb, hr, hml, hts, hown, hlocks, hK, hA⟩ := C0
  exact W.iret (v := v) hx hb hr (fun t ht hw => ⟨v, rfl, hR, ht⟩) (fun q h => by cases h) hdg hlocks
theorem q_zretr {R v : Int32} (C0 : q_C p s m meth c args own cc maxL (some .boolean) ws D tys A) (hn : narrow .boolean (.int v) = .int v) (hR : v = R) (hdg : decode cc pc = .ok (.ireturn, 1)) :
    W p l e Rm s m args below meth c s.heap [] cells slots (MQ below (vp_Si (fun r => r = R)) args s cells slots (fun _ => False)) (F0 m pc ls [.int v]) := by
  obtain ⟨hx, hb, hr, hml, hts, hown, hlocks, hK, hA⟩ := C0
  exact W.zret (v := v) hx hb hr hn (fun t ht hw => ⟨v, rfl, hR, ht⟩) (fun q h => by cases h) hdg hlocks
theorem q_iretrs {R v : Int32} (C0 : q_C1 p s m meth c args own cc maxL (some .int) ws) (hR : v = R) (hdg : decode cc pc = .ok (.ireturn, 1)) :
    W p l e Rm s m args below meth c s.heap [] cells slots (MQ below (vp_Si (fun r => r = R)) args s cells slots (fun _ => False)) (F0 m pc ls [.int v]) := by
  obtain ⟨hx, hb, hr, hml, hts, hown, hlocks⟩ := C0
  exact W.iret (v := v) hx hb hr (fun t ht hw => ⟨v, rfl, hR, ht⟩) (fun q h => by cases h) hdg hlocks
theorem q_zretrs {R v : Int32} (C0 : q_C1 p s m meth c args own cc maxL (some .boolean) ws) (hn : narrow .boolean (.int v) = .int v) (hR : v = R) (hdg : decode cc pc = .ok (.ireturn, 1)) :
    W p l e Rm s m args below meth c s.heap [] cells slots (MQ below (vp_Si (fun r => r = R)) args s cells slots (fun _ => False)) (F0 m pc ls [.int v]) := by
  obtain ⟨hx, hb, hr, hml, hts, hown, hlocks⟩ := C0
  exact W.zret (v := v) hx hb hr hn (fun t ht hw => ⟨v, rfl, hR, ht⟩) (fun q h => by cases h) hdg hlocks
-- fields and rows
theorem q_putf {b : Nat} {ref C : String} {T : u_T} {N ci index : Nat} {wd' : va_W} (C0 : q_C p s m meth c args own cc maxL ret ws D tys A) (hW : q_W D A s.heap wd H locs) (hin : ∀ w ∈ u_ws C T N, w ∈ ws) (ty0 : Nat → FieldType) (hty : ∀ k, k < N → parseFieldDescriptor (T k).2.2.1 = some (ty0 k)) (hnm : ∀ a, a < N → ∀ b, b < N → a ≠ b → (T a).2.1 ≠ (T b).2.1) (q0 : Nat) {fs fs' : List Value} (he : wd[q0]? = some (b, .inr (ci, fs))) (hc : vwCl[ci]? = some (C, T, N)) (k : Nat) (hk : k < N) (hlink : (Cond.fieldLink own index (T k).1 (T k).2.1 (T k).2.2.1).before args s = true) (hfin : (T k).2.2.2 = false) {ty : FieldType} {v : Value} (hd : parseFieldDescriptor (T k).2.2.1 = some ty) (hn : narrow ty v = v) (hfit : fits ty v = true) (hl : k < fs.length)
    (hdg : decode cc pc = .ok (.putfield index, 3)) (h1 : fs.set k v = fs') (h2 : wd.set q0 (b, .inr (ci, fs')) = wd') (kk : ∀ (H1 : Heap) (locs1 : List Loc), q_W D A s.heap wd' H1 locs1 → W p l e Rm s m args below meth c H1 locs1 cells slots Q (F0 m (pc + 3) ls rest)) : W p l e Rm s m args below meth c H locs cells slots Q (F0 m pc ls (v :: .ref b :: rest)) := by
  obtain ⟨hx, hb, hr, hml, hts, hown, hlocks, hK, hA⟩ := C0
  refine va_put (D := D) (ci := ci) (v := v) (ty := ty) (C := C) (T := T) (N := N) hx hb hts hin ty0 hty hnm hown hK hW.1 hW.2.1 hW.2.2 q0 he hc k hk hlink (fun _ h9 => h9) hfin hd hn hfit hl hdg (fun H1 locs1 hP hD hS => kk H1 locs1 ⟨?_, ?_, hS⟩)
  · rw [← h2, ← h1]; exact hP
  · rw [← h2, ← h1]; exact hD
variable {b9 kn t0 : Nat} {n9 : Nat} {cA : ClassId} {f : Nat → Int32} {i v x : Int32}
theorem q_iald {b : Nat} (C0 : q_C p s m meth c args own cc maxL ret ws D (tyL k9) A) (hW : q_W D A s.heap wd H locs) (q0 : Nat) (ha : wd[q0]? = some (b, .inl (cA, n9, .inl f))) (ht : (tyL k9)[0]? = some (cA, .int)) (hin : vp_in i n9) (hi : i.toNatClampNeg = kn) (hv : f kn = v) (hdg : decode cc pc = .ok (.iaload, 1))
    (kk : W p l e Rm s m args below meth c H locs cells slots Q (F0 m (pc + 1) ls (.int v :: rest))) : W p l e Rm s m args below meth c H locs cells slots Q (F0 m pc ls (.int i :: .ref b :: rest)) := by
  refine va_iald C0.1 C0.2.1 C0.2.2.2.2.2.2.2.1 hW.1 q0 0 ha ht hin hdg ?_
  rw [hi, hv]; exact kk
theorem q_zald {b : Nat} (C0 : q_C p s m meth c args own cc maxL ret ws D (tyL k9) A) (hW : q_W D A s.heap wd H locs) (q0 : Nat) (ha : wd[q0]? = some (b, .inl (cA, n9, .inl f))) (ht : (tyL k9)[1]? = some (cA, .boolean)) (hin : vp_in i n9) (hi : i.toNatClampNeg = kn) (hv : f kn = v) (hdg : decode cc pc = .ok (.baload, 1))
    (kk : W p l e Rm s m args below meth c H locs cells slots Q (F0 m (pc + 1) ls (.int v :: rest))) : W p l e Rm s m args below meth c H locs cells slots Q (F0 m pc ls (.int i :: .ref b :: rest)) := by
  refine va_zald C0.1 C0.2.1 C0.2.2.2.2.2.2.2.1 hW.1 q0 1 ha ht hin hdg ?_
  rw [hi, hv]; exact kk
theorem q_cald {b : Nat} (C0 : q_C p s m meth c args own cc maxL ret ws D (tyL k9) A) (hW : q_W D A s.heap wd H locs) (q0 : Nat) (ha : wd[q0]? = some (b, .inl (cA, n9, .inl f))) (ht : (tyL k9)[2]? = some (cA, .char)) (hin : vp_in i n9) (hi : i.toNatClampNeg = kn) (hv : f kn = v) (hdg : decode cc pc = .ok (.caload, 1))
    (kk : W p l e Rm s m args below meth c H locs cells slots Q (F0 m (pc + 1) ls (.int v :: rest))) : W p l e Rm s m args below meth c H locs cells slots Q (F0 m pc ls (.int i :: .ref b :: rest)) := by
  refine va_cald C0.1 C0.2.1 C0.2.2.2.2.2.2.2.1 hW.1 q0 2 ha ht hin hdg ?_
  rw [hi, hv]; exact kk
theorem q_iast {b : Nat} {wd' : va_W} (C0 : q_C p s m meth c args own cc maxL ret ws D (tyL k9) A) (hW : q_W D A s.heap wd H locs) (q0 : Nat) (ha : wd[q0]? = some (b, .inl (cA, n9, .inl f))) (ht : (tyL k9)[0]? = some (cA, .int)) (hin : vp_in i n9) (hi : i.toNatClampNeg = kn) (hdg : decode cc pc = .ok (.iastore, 1))
    (h2 : wd.set q0 (b, .inl (cA, n9, .inl (upd f kn x))) = wd') (kk : ∀ (H1 : Heap) (locs1 : List Loc), q_W D A s.heap wd' H1 locs1 → W p l e Rm s m args below meth c H1 locs1 cells slots Q (F0 m (pc + 1) ls rest)) : W p l e Rm s m args below meth c H locs cells slots Q (F0 m pc ls (.int x :: .int i :: .ref b :: rest)) := by
  refine va_iast C0.1 C0.2.1 C0.2.2.2.2.2.2.2.1 hW.1 hW.2.1 hW.2.2 q0 0 ha ht hin hdg (fun H1 locs1 hP hD hS => kk H1 locs1 ⟨?_, ?_, hS⟩)
  · rw [← h2, ← hi]; exact hP
  · rw [← h2, ← hi]; exact hD
theorem q_zast {b : Nat} {wd' : va_W} (C0 : q_C p s m meth c args own cc maxL ret ws D (tyL k9) A) (hW : q_W D A s.heap wd H locs) (q0 : Nat) (ha : wd[q0]? = some (b, .inl (cA, n9, .inl f))) (ht : (tyL k9)[1]? = some (cA, .boolean)) (hin : vp_in i n9) (hi : i.toNatClampNeg = kn) (hdg : decode cc pc = .ok (.bastore, 1))
    (h2 : wd.set q0 (b, .inl (cA, n9, .inl (upd f kn (vp_nar .boolean x)))) = wd') (kk : ∀ (H1 : Heap) (locs1 : List Loc), q_W D A s.heap wd' H1 locs1 → W p l e Rm s m args below meth c H1 locs1 cells slots Q (F0 m (pc + 1) ls rest)) : W p l e Rm s m args below meth c H locs cells slots Q (F0 m pc ls (.int x :: .int i :: .ref b :: rest)) := by
  refine va_zast C0.1 C0.2.1 C0.2.2.2.2.2.2.2.1 hW.1 hW.2.1 hW.2.2 q0 1 ha ht hin hdg (fun H1 locs1 hP hD hS => kk H1 locs1 ⟨?_, ?_, hS⟩)
  · rw [← h2, ← hi]; exact hP
  · rw [← h2, ← hi]; exact hD
theorem q_cast {b : Nat} {wd' : va_W} (C0 : q_C p s m meth c args own cc maxL ret ws D (tyL k9) A) (hW : q_W D A s.heap wd H locs) (q0 : Nat) (ha : wd[q0]? = some (b, .inl (cA, n9, .inl f))) (ht : (tyL k9)[2]? = some (cA, .char)) (hin : vp_in i n9) (hi : i.toNatClampNeg = kn) (hdg : decode cc pc = .ok (.castore, 1))
    (h2 : wd.set q0 (b, .inl (cA, n9, .inl (upd f kn (vp_nar .char x)))) = wd') (kk : ∀ (H1 : Heap) (locs1 : List Loc), q_W D A s.heap wd' H1 locs1 → W p l e Rm s m args below meth c H1 locs1 cells slots Q (F0 m (pc + 1) ls rest)) : W p l e Rm s m args below meth c H locs cells slots Q (F0 m pc ls (.int x :: .int i :: .ref b :: rest)) := by
  refine va_cast C0.1 C0.2.1 C0.2.2.2.2.2.2.2.1 hW.1 hW.2.1 hW.2.2 q0 2 ha ht hin hdg (fun H1 locs1 hP hD hS => kk H1 locs1 ⟨?_, ?_, hS⟩)
  · rw [← h2, ← hi]; exact hP
  · rw [← h2, ← hi]; exact hD
-- calls: the callee's world is a part of the caller's, by places
variable {y : MethodName} {bytes : ByteArray} {maxLc n index : Nat} {retc : Option FieldType} {wsc : List Cond} {rmc : Room} {C : String} {b : Addr} {As : List Value} {wc : va_W} {lv : List (Nat × Value)} {tysc : List (ClassId × FieldType)}
theorem q_sub {is : List Nat} (C0 : q_C p s m meth c args own cc maxL ret ws D tys A) (hW : q_W D A s.heap wd H locs) (hn : va_nd is = true) (hs : is.map (fun i => wd[i]?) = wc.map some) (it : List Nat) (ht : it.filterMap (fun i => tys[i]?) = tysc) : ∀ U : State, U.heap = H → s.WarmedH U.vm → q_B D tysc wc H.size U := by
  intro U hU hw
  refine ⟨by rw [hU], ?_, va_K.moved hw.alike (C0.2.2.2.2.2.2.2.1.sub it ht), (hW.2.1.sub is hn hs).weaken (fun _ _ _ _ => trivial)⟩
  rw [hU]
  intro k q hk
  have h1 : (is.map (fun i => wd[i]?))[k]? = some (some q) := by rw [hs, List.getElem?_map, hk]; rfl
  rw [List.getElem?_map] at h1
  cases hi : is[k]? with
  | none => rw [hi] at h1; cases h1
  | some i => rw [hi] at h1; exact hW.1 i q (Option.some.inj h1)
theorem q_fix (C0 : q_C p s m meth c args own cc maxL ret ws D tys A) : CallFix p m c cc maxL s args ws own := ⟨C0.1, C0.2.1, C0.2.2.2.1, C0.2.2.2.2.2.1, C0.2.2.2.2.1⟩
/-- a virtual call of a method that only reads -/
theorem q_Vi {R : Int32} (is it : List Nat) (q0 ci : Nat) {qc : vw_C} {fs : List Value} (C0 : q_C p s m meth c args own cc maxL ret ws D tys A) (hW : q_W D A s.heap wd H locs)
    (hM : Met l y wsc rmc (va_Pc (.ref b :: As) (q_B D tysc wc H.size)) (vp_Si (fun r => r = R)) 0 0 (fun _ => False))
    (cw : CallW Rm s args own qc.1 index y bytes maxLc retc wsc rmc 0 0 n)
    (hn : va_nd is = true) (hs : is.map (fun i => wd[i]?) = wc.map some) (ht : it.filterMap (fun i => tys[i]?) = tysc) (hrec : wd[q0]? = some (b, .inr (ci, fs))) (hc : vwCl[ci]? = some qc)
    (hl : lv_has ls maxL lv) (hlen : As.length = n) (hst : st0 = As.reverse ++ .ref b :: rest) (hcat : (rest.map fun v => v.category).sum ≤ 8) (hdg : decode cc pc = .ok (.invokevirtual index, 3)) (hf : cells + 0 ≤ Rm.cells ∧ slots + 0 ≤ Rm.slots)
    (kk : W p l e Rm s m args below meth c H locs cells slots Q (F0 m (pc + 3) ls (.int R :: rest))) : W p l e Rm s m args below meth c H locs cells slots Q (F0 m pc ls st0) := by
  refine vp_callSi (W.runV (As := As) (rest := rest) (q_fix C0) hM cw ⟨q_B_blind, va_recv C0.2.2.2.2.2.2.2.1 hW.1 hc hrec, fun U hU hw => ⟨rfl, q_sub C0 hW hn hs it ht U hU hw⟩⟩ rfl hlen hl.1 hst (lv_room hcat) hdg hf) (fun r hr => ?_)
  subst hr
  exact kk
/-- a static call of a method that reads nothing -/
theorem q_Si {R : Int32} (C0 : CallFix p m c cc maxL s args ws own)
    (hM : Met l y wsc rmc (va_Pc As (fun _ => True)) (vp_Si (fun r => r = R)) 0 0 (fun _ => False))
    (cw : CallB Rm s args own index y bytes maxLc retc wsc rmc 0 0 n ∧ (Cond.static y).before args s = true)
    (hl : lv_has ls maxL lv) (hlen : As.length = n) (hst : st0 = As.reverse ++ rest) (hcat : (rest.map fun v => v.category).sum ≤ 8) (hdg : decode cc pc = .ok (.invokestatic index, 3)) (hf : cells + 0 ≤ Rm.cells ∧ slots + 0 ≤ Rm.slots)
    (kk : W p l e Rm s m args below meth c H locs cells slots Q (F0 m (pc + 3) ls (.int R :: rest))) : W p l e Rm s m args below meth c H locs cells slots Q (F0 m pc ls st0) := by
  refine vp_callSi (W.runS (As := As) (rest := rest) C0 hM cw ⟨fun a U g mk q => ⟨q.1, trivial⟩, fun U hU hw => ⟨rfl, trivial⟩⟩ rfl hlen hl.1 hst (lv_room hcat) hdg hf) (fun r hr => ?_)
  subst hr
  exact kk
/-- the cells of a part are put back at their places -/
def q_put : va_W → List Nat → va_W → va_W
  | wd, i :: is, q :: w => q_put (wd.set i q) is w
  | wd, _, _ => wd
theorem q_put_in : ∀ (is : List Nat) (w1 wd : va_W) (k : Nat) (q : Nat × va_E), (q_put wd is w1)[k]? = some q → q ∈ w1 ∨ (wd[k]? = some q ∧ (k ∉ is ∨ is.length ≠ w1.length))
  | [], w1, wd, k, q, h => Or.inr ⟨by simpa [q_put] using h, Or.inl List.not_mem_nil⟩
  | i :: is, [], wd, k, q, h => Or.inr ⟨by simpa [q_put] using h, Or.inr (by simp)⟩
  | i :: is, x :: w, wd, k, q, h => by
    rcases q_put_in is w (wd.set i x) k q h with h1 | ⟨h1, h2⟩
    · exact Or.inl (List.mem_cons_of_mem _ h1)
    · by_cases hk : i = k
      · subst hk
        by_cases hlt : i < wd.length
        · rw [List.getElem?_set_self hlt] at h1
          exact Or.inl (by rw [← Option.some.inj h1]; exact List.mem_cons_self)
        · rw [List.getElem?_eq_none (by rw [List.length_set]; omega)] at h1
          cases h1
      · rw [List.getElem?_set_ne hk] at h1
        refine Or.inr ⟨h1, ?_⟩
        rcases h2 with h2 | h2
        · exact Or.inl (fun hm => (List.mem_cons.mp hm).elim (fun e => hk e.symm) h2)
        · exact Or.inr (by simpa using h2)
theorem q_put_fst : ∀ (is : List Nat) (w1 wd : va_W), is.map (fun i => (wd[i]?).map Prod.fst) = w1.map (fun q => some q.1) → (q_put wd is w1).map Prod.fst = wd.map Prod.fst
  | [], w1, wd, h => by simp [q_put]
  | i :: is, [], wd, h => by simp [q_put]
  | i :: is, x :: w, wd, h => by
    have hx : (wd.set i x).map Prod.fst = wd.map Prod.fst := by
      have h1 : (wd[i]?).map Prod.fst = some x.1 := by simpa using (List.cons.inj h).1
      rw [List.map_set]
      refine List.ext_getElem? (fun k => ?_)
      by_cases hk : i = k
      · subst hk
        cases hw : wd[i]? with
        | none => rw [hw] at h1; cases h1
        | some q =>
          rw [hw] at h1
          have hlt : i < (wd.map Prod.fst).length := by rw [List.length_map]; exact (List.getElem?_eq_some_iff.mp hw).1
          rw [List.getElem?_set_self hlt, List.getElem?_map, hw]
          exact h1.symm
      · rw [List.getElem?_set_ne hk]
    have hg : ∀ j : Nat, ((wd.set i x)[j]?).map Prod.fst = (wd[j]?).map Prod.fst := fun j => by
      rw [← List.getElem?_map, ← List.getElem?_map, hx]
    show (q_put (wd.set i x) is w).map Prod.fst = _
    rw [q_put_fst is w (wd.set i x) (by rw [← (List.cons.inj h).2]; exact List.map_congr_left (fun j _ => hg j)), hx]
theorem q_D_fst {B : Nat → Prop} {w1 w2 : va_W} (h : w2.map Prod.fst = w1.map Prod.fst) (hD : va_D B w1) : va_D B w2 := by
  have g : ∀ (k : Nat) (q : Nat × va_E), w2[k]? = some q → ∃ q', w1[k]? = some q' ∧ q'.1 = q.1 := fun k q hk => by
    have h1 : (w2.map Prod.fst)[k]? = some q.1 := by rw [List.getElem?_map, hk]; rfl
    rw [h, List.getElem?_map] at h1
    cases hw : w1[k]? with
    | none => rw [hw] at h1; cases h1
    | some q' => rw [hw] at h1; exact ⟨q', rfl, Option.some.inj h1⟩
  refine ⟨fun i j x z hx hz hxz => ?_, fun k q hk => ?_⟩
  · obtain ⟨x', hx1, hx2⟩ := g i x hx
    obtain ⟨z', hz1, hz2⟩ := g j z hz
    exact hD.1 i j x' z' hx1 hz1 (by rw [hx2, hz2, hxz])
  · obtain ⟨q', h1, h2⟩ := g k q hk
    rw [← h2]
    exact hD.2 k q' h1
theorem q_back {is : List Nat} {w1 wd' : va_W} {H1 : Heap} {locs1 : List Loc} (hW : q_W D A H0 wd H locs) (hs : is.map (fun i => wd[i]?) = wc.map some) (hf : w1.map Prod.fst = wc.map Prod.fst) (hp : q_put wd is w1 = wd')
    (hk : ∀ q : Nat, q < H.size → ¬ va_A wc H.size q → H1[q]? = H[q]?) (hP1 : va_P D vwCl w1 H1) (hS1 : va_S A H0 H1 locs1) : q_W D A H0 wd' H1 locs1 := by
  have hlen : is.length = w1.length := by
    have h1 := congrArg List.length hs
    have h2 := congrArg List.length hf
    simp only [List.length_map] at h1 h2
    omega
  refine ⟨fun k q hq => ?_, ?_, hS1⟩
  · rw [← hp] at hq
    rcases q_put_in is w1 wd k q hq with h | ⟨h, h2⟩
    · obtain ⟨i, hi⟩ := List.getElem?_of_mem h
      exact hP1 i q hi
    · have hni : k ∉ is := h2.elim id (fun h3 => absurd hlen h3)
      have hlt := (hW.1 k q h).lt
      refine (hW.1 k q h).kept (hk q.1 hlt (fun hA => ?_))
      rcases hA with ⟨k2, e2, h3⟩ | h3
      · have h4 : (is.map (fun i => wd[i]?))[k2]? = some (some (q.1, e2)) := by rw [hs, List.getElem?_map, h3]; rfl
        rw [List.getElem?_map] at h4
        cases hi : is[k2]? with
        | none => rw [hi] at h4; cases h4
        | some i =>
          rw [hi] at h4
          have h5 := hW.2.1.1 i k (q.1, e2) q (Option.some.inj h4) h rfl
          exact hni (h5 ▸ List.mem_of_getElem? hi)
      · omega
  · rw [← hp]
    refine q_D_fst (q_put_fst is w1 wd ?_) hW.2.1
    have h1 : is.map (fun i => (wd[i]?).map Prod.fst) = (is.map (fun i => wd[i]?)).map (fun o => o.map Prod.fst) := by rw [List.map_map]; rfl
    rw [h1, hs, List.map_map]
    have h2 : w1.map (fun q => some q.1) = (w1.map Prod.fst).map some := by rw [List.map_map]; rfl
    rw [h2, hf, List.map_map]
    rfl
/-- a virtual call of a method that answers an int, and writes -/
theorem q_Viw {S : Type} {wf : S → va_W} {R : Int32 × S} {wd' : va_W} (is it : List Nat) (q0 ci : Nat) {qc : vw_C} {fs : List Value} (C0 : q_C p s m meth c args own cc maxL ret ws D tys A) (hW : q_W D A s.heap wd H locs)
    (hM : Met l y wsc rmc (va_Pc (.ref b :: As) (q_B D tysc wc H.size)) (va_Qi (fun r u => (r, u) = R) (fun u => q_E D tysc (va_A wc H.size) (wf u)) (va_A wc H.size)) 0 0 (va_A wc H.size))
    (cw : CallW Rm s args own qc.1 index y bytes maxLc retc wsc rmc 0 0 n)
    (hn : va_nd is = true) (hs : is.map (fun i => wd[i]?) = wc.map some) (ht : it.filterMap (fun i => tys[i]?) = tysc) (hrec : wd[q0]? = some (b, .inr (ci, fs))) (hc : vwCl[ci]? = some qc)
    (hfst : (wf R.2).map Prod.fst = wc.map Prod.fst) (hput : q_put wd is (wf R.2) = wd')
    (hl : lv_has ls maxL lv) (hlen : As.length = n) (hst : st0 = As.reverse ++ .ref b :: rest) (hcat : (rest.map fun v => v.category).sum ≤ 8) (hdg : decode cc pc = .ok (.invokevirtual index, 3)) (hf : cells + 0 ≤ Rm.cells ∧ slots + 0 ≤ Rm.slots)
    (kk : ∀ (H1 : Heap) (locs1 : List Loc), q_W D A s.heap wd' H1 locs1 → W p l e Rm s m args below meth c H1 locs1 cells slots Q (F0 m (pc + 3) ls (.int R.1 :: rest))) : W p l e Rm s m args below meth c H locs cells slots Q (F0 m pc ls st0) := by
  have hF := va_free (wc := wc) hW.2.1 hW.2.2 C0.2.2.2.2.2.2.2.2 is hs
  refine va_calli (va_runV (As := As) (rest := rest) (q_fix C0) hM cw ⟨q_B_blind, va_recv C0.2.2.2.2.2.2.2.1 hW.1 hc hrec, fun U hU hw => ⟨rfl, q_sub C0 hW hn hs it ht U hU hw⟩⟩ rfl hlen hl.1 hst (lv_room hcat) hdg hf) hW.2.2 (fun q _ h => hF q h) hF (fun r u t H1 locs1 hth hvm hw hB hz1 hk1 hS => ?_)
  subst hw
  obtain ⟨hP1, hK1, hD1⟩ := hB
  rw [hth] at hP1
  exact kk H1 locs1 (q_back hW hs hfst hput hk1 hP1 hS)
/-- a virtual call of a method without an answer -/
theorem q_Vv {S : Type} {wf : S → va_W} {R : S} {wd' : va_W} (is it : List Nat) (q0 ci : Nat) {qc : vw_C} {fs : List Value} (C0 : q_C p s m meth c args own cc maxL ret ws D tys A) (hW : q_W D A s.heap wd H locs)
    (hM : Met l y wsc rmc (va_Pc (.ref b :: As) (q_B D tysc wc H.size)) (va_Qv (fun u => u = R) (fun u => q_E D tysc (va_A wc H.size) (wf u)) (va_A wc H.size)) 0 0 (va_A wc H.size))
    (cw : CallW Rm s args own qc.1 index y bytes maxLc retc wsc rmc 0 0 n)
    (hn : va_nd is = true) (hs : is.map (fun i => wd[i]?) = wc.map some) (ht : it.filterMap (fun i => tys[i]?) = tysc) (hrec : wd[q0]? = some (b, .inr (ci, fs))) (hc : vwCl[ci]? = some qc)
    (hfst : (wf R).map Prod.fst = wc.map Prod.fst) (hput : q_put wd is (wf R) = wd')
    (hl : lv_has ls maxL lv) (hlen : As.length = n) (hst : st0 = As.reverse ++ .ref b :: rest) (hcat : (rest.map fun v => v.category).sum ≤ 8) (hdg : decode cc pc = .ok (.invokevirtual index, 3)) (hf : cells + 0 ≤ Rm.cells ∧ slots + 0 ≤ Rm.slots)
    (kk : ∀ (H1 : Heap) (locs1 : List Loc), q_W D A s.heap wd' H1 locs1 → W p l e Rm s m args below meth c H1 locs1 cells slots Q (F0 m (pc + 3) ls rest)) : W p l e Rm s m args below meth c H locs cells slots Q (F0 m pc ls st0) := by
  have hF := va_free (wc := wc) hW.2.1 hW.2.2 C0.2.2.2.2.2.2.2.2 is hs
  refine va_callv (va_runV (As := As) (rest := rest) (q_fix C0) hM cw ⟨q_B_blind, va_recv C0.2.2.2.2.2.2.2.1 hW.1 hc hrec, fun U hU hw => ⟨rfl, q_sub C0 hW hn hs it ht U hU hw⟩⟩ rfl hlen hl.1 hst (lv_room hcat) hdg hf) hW.2.2 (fun q _ h => hF q h) hF (fun u t H1 locs1 hth hvm hw hB hz1 hk1 hS => ?_)
  subst hw
  obtain ⟨hP1, hK1, hD1⟩ := hB
  rw [hth] at hP1
  exact kk H1 locs1 (q_back hW hs hfst hput hk1 hP1 hS)
end QV
end QBASE
end
section
def fX0 (a : Nat → Nat) (f : T1) : List Value := [.ref (a 1), .ref (a 2), .ref (a 3), .ref (a 4), .int (f 4)]
theorem fX0_s4 (a : Nat → Nat) (f : T1) (v : Int32) : (fX0 a f).set 4 (.int v) = fX0 a (upd f 4 v) := rfl
def wX0 (k : Nat → ClassId) (a : Nat → Nat) (σ : T2) : va_W := [(a 0, .inr (0, fX0 a (σ 0))), (a 1, .inl (k 0, 64, .inl (σ 1))), (a 2, .inl (k 0, 64, .inl (σ 2))), (a 3, .inl (k 0, 64, .inl (σ 3))), (a 4, .inl (k 0, 64, .inl (σ 4)))]
theorem wX0_s0 (k : Nat → ClassId) (a : Nat → Nat) (σ : T2) (g : T1) : (wX0 k a σ).set 0 (a 0, .inr (0, fX0 a g)) = wX0 k a (u2 σ 0 g) := rfl
theorem wX0_s1 (k : Nat → ClassId) (a : Nat → Nat) (σ : T2) (g : T1) : (wX0 k a σ).set 1 (a 1, .inl (k 0, 64, .inl g)) = wX0 k a (u2 σ 1 g) := rfl
theorem wX0_s2 (k : Nat → ClassId) (a : Nat → Nat) (σ : T2) (g : T1) : (wX0 k a σ).set 2 (a 2, .inl (k 0, 64, .inl g)) = wX0 k a (u2 σ 2 g) := rfl
theorem wX0_s3 (k : Nat → ClassId) (a : Nat → Nat) (σ : T2) (g : T1) : (wX0 k a σ).set 3 (a 3, .inl (k 0, 64, .inl g)) = wX0 k a (u2 σ 3 g) := rfl
theorem wX0_s4 (k : Nat → ClassId) (a : Nat → Nat) (σ : T2) (g : T1) : (wX0 k a σ).set 4 (a 4, .inl (k 0, 64, .inl g)) = wX0 k a (u2 σ 4 g) := rfl
def fX1 (a : Nat → Nat) (f : T1) : List Value := [.int (f 0), .int (f 1), .int (f 2), .int (f 3), .int (f 4), .int (f 5), .int (f 6)]
theorem fX1_s0 (a : Nat → Nat) (f : T1) (v : Int32) : (fX1 a f).set 0 (.int v) = fX1 a (upd f 0 v) := rfl
theorem fX1_s1 (a : Nat → Nat) (f : T1) (v : Int32) : (fX1 a f).set 1 (.int v) = fX1 a (upd f 1 v) := rfl
theorem fX1_s2 (a : Nat → Nat) (f : T1) (v : Int32) : (fX1 a f).set 2 (.int v) = fX1 a (upd f 2 v) := rfl
theorem fX1_s3 (a : Nat → Nat) (f : T1) (v : Int32) : (fX1 a f).set 3 (.int v) = fX1 a (upd f 3 v) := rfl
theorem fX1_s4 (a : Nat → Nat) (f : T1) (v : Int32) : (fX1 a f).set 4 (.int v) = fX1 a (upd f 4 v) := rfl
theorem fX1_s5 (a : Nat → Nat) (f : T1) (v : Int32) : (fX1 a f).set 5 (.int v) = fX1 a (upd f 5 v) := rfl
theorem fX1_s6 (a : Nat → Nat) (f : T1) (v : Int32) : (fX1 a f).set 6 (.int v) = fX1 a (upd f 6 v) := rfl
def wX1 (k : Nat → ClassId) (a : Nat → Nat) (σ : T2) : va_W := [(a 0, .inr (1, fX1 a (σ 0)))]
theorem wX1_s0 (k : Nat → ClassId) (a : Nat → Nat) (σ : T2) (g : T1) : (wX1 k a σ).set 0 (a 0, .inr (1, fX1 a g)) = wX1 k a (u2 σ 0 g) := rfl
def fX2 (a : Nat → Nat) (f : T1) : List Value := [.ref (a 1), .ref (a 2), .ref (a 3), .ref (a 4)]
def wX2 (k : Nat → ClassId) (a : Nat → Nat) (σ : T2) : va_W := [(a 0, .inr (2, fX2 a (σ 0))), (a 1, .inl (k 0, 64, .inl (σ 1))), (a 2, .inl (k 0, 64, .inl (σ 2))), (a 3, .inl (k 0, 64, .inl (σ 3))), (a 4, .inl (k 0, 64, .inl (σ 4)))]
theorem wX2_s0 (k : Nat → ClassId) (a : Nat → Nat) (σ : T2) (g : T1) : (wX2 k a σ).set 0 (a 0, .inr (2, fX2 a g)) = wX2 k a (u2 σ 0 g) := rfl
theorem wX2_s1 (k : Nat → ClassId) (a : Nat → Nat) (σ : T2) (g : T1) : (wX2 k a σ).set 1 (a 1, .inl (k 0, 64, .inl g)) = wX2 k a (u2 σ 1 g) := rfl
theorem wX2_s2 (k : Nat → ClassId) (a : Nat → Nat) (σ : T2) (g : T1) : (wX2 k a σ).set 2 (a 2, .inl (k 0, 64, .inl g)) = wX2 k a (u2 σ 2 g) := rfl
theorem wX2_s3 (k : Nat → ClassId) (a : Nat → Nat) (σ : T2) (g : T1) : (wX2 k a σ).set 3 (a 3, .inl (k 0, 64, .inl g)) = wX2 k a (u2 σ 3 g) := rfl
theorem wX2_s4 (k : Nat → ClassId) (a : Nat → Nat) (σ : T2) (g : T1) : (wX2 k a σ).set 4 (a 4, .inl (k 0, 64, .inl g)) = wX2 k a (u2 σ 4 g) := rfl
def fX4 (a : Nat → Nat) (f : T1) : List Value := [.ref (a 1), .int (f 1)]
theorem fX4_s1 (a : Nat → Nat) (f : T1) (v : Int32) : (fX4 a f).set 1 (.int v) = fX4 a (upd f 1 v) := rfl
def wX4 (k : Nat → ClassId) (a : Nat → Nat) (σ : T2) : va_W := [(a 0, .inr (4, fX4 a (σ 0))), (a 1, .inl (k 2, 80, .inl (σ 1)))]
theorem wX4_s0 (k : Nat → ClassId) (a : Nat → Nat) (σ : T2) (g : T1) : (wX4 k a σ).set 0 (a 0, .inr (4, fX4 a g)) = wX4 k a (u2 σ 0 g) := rfl
theorem wX4_s1 (k : Nat → ClassId) (a : Nat → Nat) (σ : T2) (g : T1) : (wX4 k a σ).set 1 (a 1, .inl (k 2, 80, .inl g)) = wX4 k a (u2 σ 1 g) := rfl
def fX5 (a : Nat → Nat) (f : T1) : List Value := [.ref (a 1), .ref (a 2), .int (f 2)]
theorem fX5_s2 (a : Nat → Nat) (f : T1) (v : Int32) : (fX5 a f).set 2 (.int v) = fX5 a (upd f 2 v) := rfl
def wX5 (k : Nat → ClassId) (a : Nat → Nat) (σ : T2) : va_W := [(a 0, .inr (5, fX5 a (σ 0))), (a 1, .inl (k 0, 64, .inl (σ 1))), (a 2, .inl (k 0, 64, .inl (σ 2)))]
theorem wX5_s0 (k : Nat → ClassId) (a : Nat → Nat) (σ : T2) (g : T1) : (wX5 k a σ).set 0 (a 0, .inr (5, fX5 a g)) = wX5 k a (u2 σ 0 g) := rfl
theorem wX5_s1 (k : Nat → ClassId) (a : Nat → Nat) (σ : T2) (g : T1) : (wX5 k a σ).set 1 (a 1, .inl (k 0, 64, .inl g)) = wX5 k a (u2 σ 1 g) := rfl
theorem wX5_s2 (k : Nat → ClassId) (a : Nat → Nat) (σ : T2) (g : T1) : (wX5 k a σ).set 2 (a 2, .inl (k 0, 64, .inl g)) = wX5 k a (u2 σ 2 g) := rfl
def fX6 (a : Nat → Nat) (f : T1) : List Value := [.ref (a 1), .ref (a 2), .int (f 2), .int (f 3), .int (f 4), .int (f 5), .int (f 6)]
theorem fX6_s2 (a : Nat → Nat) (f : T1) (v : Int32) : (fX6 a f).set 2 (.int v) = fX6 a (upd f 2 v) := rfl
theorem fX6_s3 (a : Nat → Nat) (f : T1) (v : Int32) : (fX6 a f).set 3 (.int v) = fX6 a (upd f 3 v) := rfl
theorem fX6_s4 (a : Nat → Nat) (f : T1) (v : Int32) : (fX6 a f).set 4 (.int v) = fX6 a (upd f 4 v) := rfl
theorem fX6_s5 (a : Nat → Nat) (f : T1) (v : Int32) : (fX6 a f).set 5 (.int v) = fX6 a (upd f 5 v) := rfl
theorem fX6_s6 (a : Nat → Nat) (f : T1) (v : Int32) : (fX6 a f).set 6 (.int v) = fX6 a (upd f 6 v) := rfl
def wX6 (k : Nat → ClassId) (a : Nat → Nat) (σ : T2) : va_W := [(a 0, .inr (6, fX6 a (σ 0))), (a 1, .inl (k 0, 64, .inl (σ 1))), (a 2, .inl (k 0, 64, .inl (σ 2)))]
theorem wX6_s0 (k : Nat → ClassId) (a : Nat → Nat) (σ : T2) (g : T1) : (wX6 k a σ).set 0 (a 0, .inr (6, fX6 a g)) = wX6 k a (u2 σ 0 g) := rfl
theorem wX6_s1 (k : Nat → ClassId) (a : Nat → Nat) (σ : T2) (g : T1) : (wX6 k a σ).set 1 (a 1, .inl (k 0, 64, .inl g)) = wX6 k a (u2 σ 1 g) := rfl
theorem wX6_s2 (k : Nat → ClassId) (a : Nat → Nat) (σ : T2) (g : T1) : (wX6 k a σ).set 2 (a 2, .inl (k 0, 64, .inl g)) = wX6 k a (u2 σ 2 g) := rfl
def fX8 (a : Nat → Nat) (f : T1) : List Value := [.int (f 0), .int (f 1), .int (f 2), .int (f 3), .int (f 4), .int (f 5), .int (f 6), .int (f 7), .int (f 8), .int (f 9)]
theorem fX8_s0 (a : Nat → Nat) (f : T1) (v : Int32) : (fX8 a f).set 0 (.int v) = fX8 a (upd f 0 v) := rfl
theorem fX8_s1 (a : Nat → Nat) (f : T1) (v : Int32) : (fX8 a f).set 1 (.int v) = fX8 a (upd f 1 v) := rfl
theorem fX8_s2 (a : Nat → Nat) (f : T1) (v : Int32) : (fX8 a f).set 2 (.int v) = fX8 a (upd f 2 v) := rfl
theorem fX8_s3 (a : Nat → Nat) (f : T1) (v : Int32) : (fX8 a f).set 3 (.int v) = fX8 a (upd f 3 v) := rfl
theorem fX8_s4 (a : Nat → Nat) (f : T1) (v : Int32) : (fX8 a f).set 4 (.int v) = fX8 a (upd f 4 v) := rfl
theorem fX8_s5 (a : Nat → Nat) (f : T1) (v : Int32) : (fX8 a f).set 5 (.int v) = fX8 a (upd f 5 v) := rfl
theorem fX8_s6 (a : Nat → Nat) (f : T1) (v : Int32) : (fX8 a f).set 6 (.int v) = fX8 a (upd f 6 v) := rfl
theorem fX8_s7 (a : Nat → Nat) (f : T1) (v : Int32) : (fX8 a f).set 7 (.int v) = fX8 a (upd f 7 v) := rfl
theorem fX8_s8 (a : Nat → Nat) (f : T1) (v : Int32) : (fX8 a f).set 8 (.int v) = fX8 a (upd f 8 v) := rfl
theorem fX8_s9 (a : Nat → Nat) (f : T1) (v : Int32) : (fX8 a f).set 9 (.int v) = fX8 a (upd f 9 v) := rfl
def wX8 (k : Nat → ClassId) (a : Nat → Nat) (σ : T2) : va_W := [(a 0, .inr (8, fX8 a (σ 0)))]
theorem wX8_s0 (k : Nat → ClassId) (a : Nat → Nat) (σ : T2) (g : T1) : (wX8 k a σ).set 0 (a 0, .inr (8, fX8 a g)) = wX8 k a (u2 σ 0 g) := rfl
def fX7 (a : Nat → Nat) (f : T1) : List Value := [.ref (a 1), .ref (a 2), .ref (a 5), .ref (a 10), .ref (a 15), .ref (a 16), .int (f 6)]
theorem fX7_s6 (a : Nat → Nat) (f : T1) (v : Int32) : (fX7 a f).set 6 (.int v) = fX7 a (upd f 6 v) := rfl
def wX7 (k : Nat → ClassId) (a : Nat → Nat) (σ : T2) : va_W := [(a 0, .inr (7, fX7 a (σ 0))), (a 1, .inl (k 0, 8, .inl (σ 1))), (a 2, .inr (5, fX5 (fun j => a (2 + j)) (σ 2))), (a 3, .inl (k 0, 64, .inl (σ 3))), (a 4, .inl (k 0, 64, .inl (σ 4))), (a 5, .inr (2, fX2 (fun j => a (5 + j)) (σ 5))), (a 6, .inl (k 0, 64, .inl (σ 6))), (a 7, .inl (k 0, 64, .inl (σ 7))), (a 8, .inl (k 0, 64, .inl (σ 8))), (a 9, .inl (k 0, 64, .inl (σ 9))), (a 10, .inr (0, fX0 (fun j => a (10 + j)) (σ 10))), (a 11, .inl (k 0, 64, .inl (σ 11))), (a 12, .inl (k 0, 64, .inl (σ 12))), (a 13, .inl (k 0, 64, .inl (σ 13))), (a 14, .inl (k 0, 64, .inl (σ 14))), (a 15, .inr (1, fX1 (fun j => a (15 + j)) (σ 15))), (a 16, .inr (8, fX8 (fun j => a (16 + j)) (σ 16)))]
theorem wX7_s0 (k : Nat → ClassId) (a : Nat → Nat) (σ : T2) (g : T1) : (wX7 k a σ).set 0 (a 0, .inr (7, fX7 a g)) = wX7 k a (u2 σ 0 g) := rfl
theorem wX7_s1 (k : Nat → ClassId) (a : Nat → Nat) (σ : T2) (g : T1) : (wX7 k a σ).set 1 (a 1, .inl (k 0, 8, .inl g)) = wX7 k a (u2 σ 1 g) := rfl
theorem wX7_s2 (k : Nat → ClassId) (a : Nat → Nat) (σ : T2) (g : T1) : (wX7 k a σ).set 2 (a 2, .inr (5, fX5 (fun j => a (2 + j)) g)) = wX7 k a (u2 σ 2 g) := rfl
theorem wX7_s3 (k : Nat → ClassId) (a : Nat → Nat) (σ : T2) (g : T1) : (wX7 k a σ).set 3 (a 3, .inl (k 0, 64, .inl g)) = wX7 k a (u2 σ 3 g) := rfl
theorem wX7_s4 (k : Nat → ClassId) (a : Nat → Nat) (σ : T2) (g : T1) : (wX7 k a σ).set 4 (a 4, .inl (k 0, 64, .inl g)) = wX7 k a (u2 σ 4 g) := rfl
theorem wX7_s5 (k : Nat → ClassId) (a : Nat → Nat) (σ : T2) (g : T1) : (wX7 k a σ).set 5 (a 5, .inr (2, fX2 (fun j => a (5 + j)) g)) = wX7 k a (u2 σ 5 g) := rfl
theorem wX7_s6 (k : Nat → ClassId) (a : Nat → Nat) (σ : T2) (g : T1) : (wX7 k a σ).set 6 (a 6, .inl (k 0, 64, .inl g)) = wX7 k a (u2 σ 6 g) := rfl
theorem wX7_s7 (k : Nat → ClassId) (a : Nat → Nat) (σ : T2) (g : T1) : (wX7 k a σ).set 7 (a 7, .inl (k 0, 64, .inl g)) = wX7 k a (u2 σ 7 g) := rfl
theorem wX7_s8 (k : Nat → ClassId) (a : Nat → Nat) (σ : T2) (g : T1) : (wX7 k a σ).set 8 (a 8, .inl (k 0, 64, .inl g)) = wX7 k a (u2 σ 8 g) := rfl
theorem wX7_s9 (k : Nat → ClassId) (a : Nat → Nat) (σ : T2) (g : T1) : (wX7 k a σ).set 9 (a 9, .inl (k 0, 64, .inl g)) = wX7 k a (u2 σ 9 g) := rfl
theorem wX7_s10 (k : Nat → ClassId) (a : Nat → Nat) (σ : T2) (g : T1) : (wX7 k a σ).set 10 (a 10, .inr (0, fX0 (fun j => a (10 + j)) g)) = wX7 k a (u2 σ 10 g) := rfl
theorem wX7_s11 (k : Nat → ClassId) (a : Nat → Nat) (σ : T2) (g : T1) : (wX7 k a σ).set 11 (a 11, .inl (k 0, 64, .inl g)) = wX7 k a (u2 σ 11 g) := rfl
theorem wX7_s12 (k : Nat → ClassId) (a : Nat → Nat) (σ : T2) (g : T1) : (wX7 k a σ).set 12 (a 12, .inl (k 0, 64, .inl g)) = wX7 k a (u2 σ 12 g) := rfl
theorem wX7_s13 (k : Nat → ClassId) (a : Nat → Nat) (σ : T2) (g : T1) : (wX7 k a σ).set 13 (a 13, .inl (k 0, 64, .inl g)) = wX7 k a (u2 σ 13 g) := rfl
theorem wX7_s14 (k : Nat → ClassId) (a : Nat → Nat) (σ : T2) (g : T1) : (wX7 k a σ).set 14 (a 14, .inl (k 0, 64, .inl g)) = wX7 k a (u2 σ 14 g) := rfl
theorem wX7_s15 (k : Nat → ClassId) (a : Nat → Nat) (σ : T2) (g : T1) : (wX7 k a σ).set 15 (a 15, .inr (1, fX1 (fun j => a (15 + j)) g)) = wX7 k a (u2 σ 15 g) := rfl
theorem wX7_s16 (k : Nat → ClassId) (a : Nat → Nat) (σ : T2) (g : T1) : (wX7 k a σ).set 16 (a 16, .inr (8, fX8 (fun j => a (16 + j)) g)) = wX7 k a (u2 σ 16 g) := rfl
def fX10 (a : Nat → Nat) (f : T1) : List Value := [.ref (a 1), .ref (a 2), .int (f 2), .int (f 3), .ref (a 3), .ref (a 4), .ref (a 5), .int (f 7), .ref (a 6), .int (f 9), .int (f 10), .int (f 11), .int (f 12), .int (f 13), .int (f 14), .int (f 15), .ref (a 7), .ref (a 8)]
theorem fX10_s2 (a : Nat → Nat) (f : T1) (v : Int32) : (fX10 a f).set 2 (.int v) = fX10 a (upd f 2 v) := rfl
theorem fX10_s3 (a : Nat → Nat) (f : T1) (v : Int32) : (fX10 a f).set 3 (.int v) = fX10 a (upd f 3 v) := rfl
theorem fX10_s7 (a : Nat → Nat) (f : T1) (v : Int32) : (fX10 a f).set 7 (.int v) = fX10 a (upd f 7 v) := rfl
theorem fX10_s9 (a : Nat → Nat) (f : T1) (v : Int32) : (fX10 a f).set 9 (.int v) = fX10 a (upd f 9 v) := rfl
theorem fX10_s10 (a : Nat → Nat) (f : T1) (v : Int32) : (fX10 a f).set 10 (.int v) = fX10 a (upd f 10 v) := rfl
theorem fX10_s11 (a : Nat → Nat) (f : T1) (v : Int32) : (fX10 a f).set 11 (.int v) = fX10 a (upd f 11 v) := rfl
theorem fX10_s12 (a : Nat → Nat) (f : T1) (v : Int32) : (fX10 a f).set 12 (.int v) = fX10 a (upd f 12 v) := rfl
theorem fX10_s13 (a : Nat → Nat) (f : T1) (v : Int32) : (fX10 a f).set 13 (.int v) = fX10 a (upd f 13 v) := rfl
theorem fX10_s14 (a : Nat → Nat) (f : T1) (v : Int32) : (fX10 a f).set 14 (.int v) = fX10 a (upd f 14 v) := rfl
theorem fX10_s15 (a : Nat → Nat) (f : T1) (v : Int32) : (fX10 a f).set 15 (.int v) = fX10 a (upd f 15 v) := rfl
def wX10 (k : Nat → ClassId) (a : Nat → Nat) (σ : T2) : va_W := [(a 0, .inr (10, fX10 a (σ 0))), (a 1, .inl (k 0, 672, .inl (σ 1))), (a 2, .inl (k 0, 4032, .inl (σ 2))), (a 3, .inl (k 0, 1344, .inl (σ 3))), (a 4, .inl (k 1, 2, .inl (σ 4))), (a 5, .inl (k 0, 672, .inl (σ 5))), (a 6, .inl (k 0, 80, .inl (σ 6))), (a 7, .inl (k 0, 65, .inl (σ 7))), (a 8, .inl (k 0, 65, .inl (σ 8)))]
theorem wX10_s0 (k : Nat → ClassId) (a : Nat → Nat) (σ : T2) (g : T1) : (wX10 k a σ).set 0 (a 0, .inr (10, fX10 a g)) = wX10 k a (u2 σ 0 g) := rfl
theorem wX10_s1 (k : Nat → ClassId) (a : Nat → Nat) (σ : T2) (g : T1) : (wX10 k a σ).set 1 (a 1, .inl (k 0, 672, .inl g)) = wX10 k a (u2 σ 1 g) := rfl
theorem wX10_s2 (k : Nat → ClassId) (a : Nat → Nat) (σ : T2) (g : T1) : (wX10 k a σ).set 2 (a 2, .inl (k 0, 4032, .inl g)) = wX10 k a (u2 σ 2 g) := rfl
theorem wX10_s3 (k : Nat → ClassId) (a : Nat → Nat) (σ : T2) (g : T1) : (wX10 k a σ).set 3 (a 3, .inl (k 0, 1344, .inl g)) = wX10 k a (u2 σ 3 g) := rfl
theorem wX10_s4 (k : Nat → ClassId) (a : Nat → Nat) (σ : T2) (g : T1) : (wX10 k a σ).set 4 (a 4, .inl (k 1, 2, .inl g)) = wX10 k a (u2 σ 4 g) := rfl
theorem wX10_s5 (k : Nat → ClassId) (a : Nat → Nat) (σ : T2) (g : T1) : (wX10 k a σ).set 5 (a 5, .inl (k 0, 672, .inl g)) = wX10 k a (u2 σ 5 g) := rfl
theorem wX10_s6 (k : Nat → ClassId) (a : Nat → Nat) (σ : T2) (g : T1) : (wX10 k a σ).set 6 (a 6, .inl (k 0, 80, .inl g)) = wX10 k a (u2 σ 6 g) := rfl
theorem wX10_s7 (k : Nat → ClassId) (a : Nat → Nat) (σ : T2) (g : T1) : (wX10 k a σ).set 7 (a 7, .inl (k 0, 65, .inl g)) = wX10 k a (u2 σ 7 g) := rfl
theorem wX10_s8 (k : Nat → ClassId) (a : Nat → Nat) (σ : T2) (g : T1) : (wX10 k a σ).set 8 (a 8, .inl (k 0, 65, .inl g)) = wX10 k a (u2 σ 8 g) := rfl
end
section
theorem cl_1 : (1 : Int32).toNatClampNeg = 1 := by decide
theorem cl_5 : (5 : Int32).toNatClampNeg = 5 := by decide
theorem cl_6 : (6 : Int32).toNatClampNeg = 6 := by decide
theorem cl_9 : (9 : Int32).toNatClampNeg = 9 := by decide
theorem cl_10 : (10 : Int32).toNatClampNeg = 10 := by decide
theorem cl_12 : (12 : Int32).toNatClampNeg = 12 := by decide
theorem cl_16 : (16 : Int32).toNatClampNeg = 16 := by decide
theorem cl_17 : (17 : Int32).toNatClampNeg = 17 := by decide
theorem cl_19 : (19 : Int32).toNatClampNeg = 19 := by decide
theorem cl_20 : (20 : Int32).toNatClampNeg = 20 := by decide
theorem vi_1_672 : vp_in 1 672 := by unfold vp_in; decide
theorem vi_5_672 : vp_in 5 672 := by unfold vp_in; decide
theorem vi_6_672 : vp_in 6 672 := by unfold vp_in; decide
theorem vi_9_672 : vp_in 9 672 := by unfold vp_in; decide
theorem vi_10_672 : vp_in 10 672 := by unfold vp_in; decide
theorem vi_12_672 : vp_in 12 672 := by unfold vp_in; decide
theorem vi_16_672 : vp_in 16 672 := by unfold vp_in; decide
theorem vi_17_672 : vp_in 17 672 := by unfold vp_in; decide
theorem vi_19_672 : vp_in 19 672 := by unfold vp_in; decide
theorem vi_20_672 : vp_in 20 672 := by unfold vp_in; decide
theorem hd_X10_in : yX10_in.cls ≠ "java/lang/invoke/MethodHandle" ∧ yX10_in.cls ≠ "java/lang/invoke/VarHandle" ∧ (parseMethodDescriptor yX10_in.desc).map (fun d => d.parameters.length) = some 3 := by decide +kernel
noncomputable def P_X10_in_b0 (v0 : Int32) (v1 : Int32) (v2 : Int32) : Int32 := if v0 < v1 then ((0 : Int32)) else (if v2 < v0 then ((0 : Int32)) else ((1 : Int32)))
def S_X10_in_b0 (v0 : Int32) (v1 : Int32) (v2 : Int32) : Prop := (v0 < v1 → (True)) ∧ (¬ (v0 < v1) → ((v2 < v0 → (True)) ∧ (¬ (v2 < v0) → (True))))
theorem P_X10_in_b0_e (v0 : Int32) (v1 : Int32) (v2 : Int32) : P_X10_in_b0 v0 v1 v2 = if v0 < v1 then ((0 : Int32)) else (if v2 < v0 then ((0 : Int32)) else ((1 : Int32))) := rfl
theorem S_X10_in_b0_e (v0 : Int32) (v1 : Int32) (v2 : Int32) : S_X10_in_b0 v0 v1 v2 = ((v0 < v1 → (True)) ∧ (¬ (v0 < v1) → ((v2 < v0 → (True)) ∧ (¬ (v2 < v0) → (True))))) := rfl
noncomputable def P_X10_in (p0 : Int32) (p1 : Int32) (p2 : Int32) : Int32 := P_X10_in_b0 p0 p1 p2
def S_X10_in (p0 : Int32) (p1 : Int32) (p2 : Int32) : Prop := S_X10_in_b0 p0 p1 p2
set_option maxHeartbeats 4000000 in
set_option maxRecDepth 100000 in
theorem b_X10_in_b0 {p : Program} {e : Env} {s : State} {m : MethodId} {args : Array Value} {below : List Frame} {meth : Method} {c : Code} (l : Launch) (C0 : q_C1 p s m meth c args RX10 cX10_in 3 (some .boolean) wsX10_in) (R : Int32) : ∀ (v0 : Int32) (v1 : Int32) (v2 : Int32), S_X10_in_b0 v0 v1 v2 → P_X10_in_b0 v0 v1 v2 = R → ∀ (H : Heap) (locs : List Loc) (ls : Array Slot), lv_has ls 3 [(0, .int v0), (1, .int v1), (2, .int v2)] → W p l e { frames := 0, cells := 0, slots := 0, locals := 0 } s m args below meth c s.heap [] 0 0 (MQ below (vp_Si (fun r => r = R)) args s 0 0 (fun _ => False)) (F0 m 0 ls []) := by
  intro v0 v1 v2 hs hR H locs ls hl
  rw [P_X10_in_b0_e] at hR
  rw [S_X10_in_b0_e] at hs
  obtain ⟨hx, hb, hr, hml, hts, hown, hlocks⟩ := id C0
  refine lv_iload_n hx hb dX10_in_0 rfl (lv_at hl 0 rfl) ?_
  refine lv_iload_n hx hb dX10_in_1 rfl (lv_at hl 1 rfl) ?_
  refine lv_icmp_lt (tgt := 14) hx hb dX10_in_2 (by decide) (fun c_1 => ?_) (fun c_1 => ?_)
  · have hs := hs.1 c_1
    rw [if_pos c_1] at hR
    refine lv_iconst (v := (0 : Int32)) hx hb dX10_in_14 (by decide) ?_
    exact q_zretrs C0 (by decide) hR dX10_in_15
  · have hs := hs.2 c_1
    rw [if_neg c_1] at hR
    refine lv_iload_n hx hb dX10_in_5 rfl (lv_at hl 0 rfl) ?_
    refine lv_iload_n hx hb dX10_in_6 rfl (lv_at hl 2 rfl) ?_
    refine lv_icmp_gt (tgt := 14) hx hb dX10_in_7 (by decide) (fun c_2 => ?_) (fun c_2 => ?_)
    · have hs := hs.1 c_2
      rw [if_pos c_2] at hR
      refine lv_iconst (v := (0 : Int32)) hx hb dX10_in_14 (by decide) ?_
      exact q_zretrs C0 (by decide) hR dX10_in_15
    · have hs := hs.2 c_2
      rw [if_neg c_2] at hR
      refine lv_iconst (v := (1 : Int32)) hx hb dX10_in_10 (by decide) ?_
      refine lv_goto (tgt := 15) hx hb dX10_in_11 (by decide) ?_
      exact q_zretrs C0 (by decide) hR dX10_in_15
set_option maxHeartbeats 4000000 in
set_option maxRecDepth 100000 in
theorem m_X10_in (l : Launch) (p0 : Int32) (p1 : Int32) (p2 : Int32) (hs : S_X10_in p0 p1 p2) : Met l yX10_in wsX10_in { frames := 0, cells := 0, slots := 0, locals := 0 } (va_Pc [.int p0, .int p1, .int p2] (fun _ => True)) (vp_Si (fun r => r = P_X10_in p0 p1 p2)) 0 0 (fun _ => False) := by
  refine q_mets [.int p0, .int p1, .int p2] (cc := cX10_in) (maxL := 3) (ret := (some .boolean)) (by decide) rfl (Nat.le_of_ble_eq_true rfl) ?_
  intro p e s m args below meth c ls C0 hl
  exact b_X10_in_b0 l C0 _ p0 p1 p2 hs rfl s.heap [] ls (lv_sub hl [0, 1, 2] rfl)
theorem hd_X10_size : yX10_size.cls ≠ "java/lang/invoke/MethodHandle" ∧ yX10_size.cls ≠ "java/lang/invoke/VarHandle" ∧ (parseMethodDescriptor yX10_size.desc).map (fun d => d.parameters.length) = some 1 := by decide +kernel
noncomputable def P_X10_size_b0 (v0 : Int32) : Int32 := if 0 ≤ v0 then (v0) else (-v0)
def S_X10_size_b0 (v0 : Int32) : Prop := (0 ≤ v0 → (True)) ∧ (¬ (0 ≤ v0) → (True))
theorem P_X10_size_b0_e (v0 : Int32) : P_X10_size_b0 v0 = if 0 ≤ v0 then (v0) else (-v0) := rfl
theorem S_X10_size_b0_e (v0 : Int32) : S_X10_size_b0 v0 = ((0 ≤ v0 → (True)) ∧ (¬ (0 ≤ v0) → (True))) := rfl
noncomputable def P_X10_size (p0 : Int32) : Int32 := P_X10_size_b0 p0
def S_X10_size (p0 : Int32) : Prop := S_X10_size_b0 p0
set_option maxHeartbeats 4000000 in
set_option maxRecDepth 100000 in
theorem b_X10_size_b0 {p : Program} {e : Env} {s : State} {m : MethodId} {args : Array Value} {below : List Frame} {meth : Method} {c : Code} (l : Launch) (C0 : q_C1 p s m meth c args RX10 cX10_size 1 (some .int) wsX10_size) (R : Int32) : ∀ (v0 : Int32), S_X10_size_b0 v0 → P_X10_size_b0 v0 = R → ∀ (H : Heap) (locs : List Loc) (ls : Array Slot), lv_has ls 1 [(0, .int v0)] → W p l e { frames := 0, cells := 0, slots := 0, locals := 0 } s m args below meth c s.heap [] 0 0 (MQ below (vp_Si (fun r => r = R)) args s 0 0 (fun _ => False)) (F0 m 0 ls []) := by
  intro v0 hs hR H locs ls hl
  rw [P_X10_size_b0_e] at hR
  rw [S_X10_size_b0_e] at hs
  obtain ⟨hx, hb, hr, hml, hts, hown, hlocks⟩ := id C0
  refine lv_iload_n hx hb dX10_size_0 rfl (lv_at hl 0 rfl) ?_
  refine lv_if_ge (tgt := 9) hx hb dX10_size_1 (by decide) (fun c_1 => ?_) (fun c_1 => ?_)
  · have hs := hs.1 c_1
    rw [if_pos c_1] at hR
    refine lv_iload_n hx hb dX10_size_9 rfl (lv_at hl 0 rfl) ?_
    exact q_iretrs C0 hR dX10_size_10
  · have hs := hs.2 c_1
    rw [if_neg c_1] at hR
    refine lv_iload_n hx hb dX10_size_4 rfl (lv_at hl 0 rfl) ?_
    refine lv_ineg hx hb dX10_size_5 ?_
    refine lv_goto (tgt := 10) hx hb dX10_size_6 (by decide) ?_
    exact q_iretrs C0 hR dX10_size_10
set_option maxHeartbeats 4000000 in
set_option maxRecDepth 100000 in
theorem m_X10_size (l : Launch) (p0 : Int32) (hs : S_X10_size p0) : Met l yX10_size wsX10_size { frames := 0, cells := 0, slots := 0, locals := 0 } (va_Pc [.int p0] (fun _ => True)) (vp_Si (fun r => r = P_X10_size p0)) 0 0 (fun _ => False) := by
  refine q_mets [.int p0] (cc := cX10_size) (maxL := 1) (ret := (some .int)) (by decide) rfl (Nat.le_of_ble_eq_true rfl) ?_
  intro p e s m args below meth c ls C0 hl
  exact b_X10_size_b0 l C0 _ p0 hs rfl s.heap [] ls (lv_sub hl [0] rfl)
theorem hd_X10_part : yX10_part.cls ≠ "java/lang/invoke/MethodHandle" ∧ yX10_part.cls ≠ "java/lang/invoke/VarHandle" ∧ (parseMethodDescriptor yX10_part.desc).map (fun d => d.parameters.length) = some 2 := by decide +kernel
noncomputable def P_X10_part_b0 (v0 : Int32) (v1 : Int32) : Int32 := if v0 < 0 then (-(((v1 - (1 : Int32)) - v0) / v1)) else (v0 / v1)
def S_X10_part_b0 (v0 : Int32) (v1 : Int32) : Prop := (v0 < 0 → ((¬ v1 = 0) ∧ (True))) ∧ (¬ (v0 < 0) → ((¬ v1 = 0) ∧ (True)))
theorem P_X10_part_b0_e (v0 : Int32) (v1 : Int32) : P_X10_part_b0 v0 v1 = if v0 < 0 then (-(((v1 - (1 : Int32)) - v0) / v1)) else (v0 / v1) := rfl
theorem S_X10_part_b0_e (v0 : Int32) (v1 : Int32) : S_X10_part_b0 v0 v1 = ((v0 < 0 → ((¬ v1 = 0) ∧ (True))) ∧ (¬ (v0 < 0) → ((¬ v1 = 0) ∧ (True)))) := rfl
noncomputable def P_X10_part (p0 : Int32) (p1 : Int32) : Int32 := P_X10_part_b0 p0 p1
def S_X10_part (p0 : Int32) (p1 : Int32) : Prop := S_X10_part_b0 p0 p1
set_option maxHeartbeats 4000000 in
set_option maxRecDepth 100000 in
theorem b_X10_part_b0 {p : Program} {e : Env} {s : State} {m : MethodId} {args : Array Value} {below : List Frame} {meth : Method} {c : Code} (l : Launch) (C0 : q_C1 p s m meth c args RX10 cX10_part 2 (some .int) wsX10_part) (R : Int32) : ∀ (v0 : Int32) (v1 : Int32), S_X10_part_b0 v0 v1 → P_X10_part_b0 v0 v1 = R → ∀ (H : Heap) (locs : List Loc) (ls : Array Slot), lv_has ls 2 [(0, .int v0), (1, .int v1)] → W p l e { frames := 0, cells := 0, slots := 0, locals := 0 } s m args below meth c s.heap [] 0 0 (MQ below (vp_Si (fun r => r = R)) args s 0 0 (fun _ => False)) (F0 m 0 ls []) := by
  intro v0 v1 hs hR H locs ls hl
  rw [P_X10_part_b0_e] at hR
  rw [S_X10_part_b0_e] at hs
  obtain ⟨hx, hb, hr, hml, hts, hown, hlocks⟩ := id C0
  refine lv_iload_n hx hb dX10_part_0 rfl (lv_at hl 0 rfl) ?_
  refine lv_if_lt (tgt := 10) hx hb dX10_part_1 (by decide) (fun c_1 => ?_) (fun c_1 => ?_)
  · have hs := hs.1 c_1
    rw [if_pos c_1] at hR
    refine lv_iload_n hx hb dX10_part_10 rfl (lv_at hl 1 rfl) ?_
    refine lv_iconst (v := (1 : Int32)) hx hb dX10_part_11 (by decide) ?_
    refine lv_isub hx hb dX10_part_12 ?_
    refine lv_iload_n hx hb dX10_part_13 rfl (lv_at hl 0 rfl) ?_
    refine lv_isub hx hb dX10_part_14 ?_
    refine lv_iload_n hx hb dX10_part_15 rfl (lv_at hl 1 rfl) ?_
    have hz2 := hs.1
    have hs := hs.2
    refine lv_idiv hx hb dX10_part_16 hz2 ?_
    refine lv_ineg hx hb dX10_part_17 ?_
    exact q_iretrs C0 hR dX10_part_18
  · have hs := hs.2 c_1
    rw [if_neg c_1] at hR
    refine lv_iload_n hx hb dX10_part_4 rfl (lv_at hl 0 rfl) ?_
    refine lv_iload_n hx hb dX10_part_5 rfl (lv_at hl 1 rfl) ?_
    have hz3 := hs.1
    have hs := hs.2
    refine lv_idiv hx hb dX10_part_6 hz3 ?_
    refine lv_goto (tgt := 18) hx hb dX10_part_7 (by decide) ?_
    exact q_iretrs C0 hR dX10_part_18
set_option maxHeartbeats 4000000 in
set_option maxRecDepth 100000 in
theorem m_X10_part (l : Launch) (p0 : Int32) (p1 : Int32) (hs : S_X10_part p0 p1) : Met l yX10_part wsX10_part { frames := 0, cells := 0, slots := 0, locals := 0 } (va_Pc [.int p0, .int p1] (fun _ => True)) (vp_Si (fun r => r = P_X10_part p0 p1)) 0 0 (fun _ => False) := by
  refine q_mets [.int p0, .int p1] (cc := cX10_part) (maxL := 2) (ret := (some .int)) (by decide) rfl (Nat.le_of_ble_eq_true rfl) ?_
  intro p e s m args below meth c ls C0 hl
  exact b_X10_part_b0 l C0 _ p0 p1 hs rfl s.heap [] ls (lv_sub hl [0, 1] rfl)
theorem hin_X10_ofB_X10 : ∀ w ∈ u_ws RX10 TX10 18, w ∈ wsX10_ofB := by decide +kernel
theorem hd_X10_ofB : yX10_ofB.cls = RX10 ∧ yX10_ofB.cls ≠ "java/lang/invoke/MethodHandle" ∧ yX10_ofB.cls ≠ "java/lang/invoke/VarHandle" ∧ (parseMethodDescriptor yX10_ofB.desc).map (fun d => d.parameters.length) = some 2 := by decide +kernel
noncomputable def P_X10_ofB_b0 (σ : T2) (v1 : Int32) (v2 : Int32) : Int32 := σ 1 ((((32 : Int32) + ((6 : Int32) * v1)) + v2).toNatClampNeg)
def S_X10_ofB_b0 (σ : T2) (v1 : Int32) (v2 : Int32) : Prop := (vp_in (((32 : Int32) + ((6 : Int32) * v1)) + v2) 672) ∧ (True)
theorem P_X10_ofB_b0_e (σ : T2) (v1 : Int32) (v2 : Int32) : P_X10_ofB_b0 σ v1 v2 = σ 1 ((((32 : Int32) + ((6 : Int32) * v1)) + v2).toNatClampNeg) := rfl
theorem S_X10_ofB_b0_e (σ : T2) (v1 : Int32) (v2 : Int32) : S_X10_ofB_b0 σ v1 v2 = ((vp_in (((32 : Int32) + ((6 : Int32) * v1)) + v2) 672) ∧ (True)) := rfl
noncomputable def P_X10_ofB (σ : T2) (p0 : Int32) (p1 : Int32) : Int32 := P_X10_ofB_b0 σ p0 p1
def S_X10_ofB (σ : T2) (p0 : Int32) (p1 : Int32) : Prop := S_X10_ofB_b0 σ p0 p1
set_option maxHeartbeats 4000000 in
set_option maxRecDepth 100000 in
theorem b_X10_ofB_b0 {p : Program} {e : Env} {s : State} {m : MethodId} {args : Array Value} {below : List Frame} {meth : Method} {c : Code} (l : Launch) (D : va_G) (k : Nat → ClassId) (a : Nat → Nat) (A : Nat → Prop) (C0 : q_C p s m meth c args RX10 cX10_ofB 3 (some .int) wsX10_ofB D (tyL k) A) (R : Int32) : ∀ (σ : T2) (v1 : Int32) (v2 : Int32), S_X10_ofB_b0 σ v1 v2 → P_X10_ofB_b0 σ v1 v2 = R → ∀ (H : Heap) (locs : List Loc) (ls : Array Slot), q_W D A s.heap (wX10 k a σ) s.heap [] → lv_has ls 3 [(0, .ref (a 0)), (1, .int v1), (2, .int v2)] → W p l e { frames := 0, cells := 0, slots := 0, locals := 0 } s m args below meth c s.heap [] 0 0 (MQ below (vp_Si (fun r => r = R)) args s 0 0 (fun _ => False)) (F0 m 0 ls []) := by
  intro σ v1 v2 hs hR H locs ls hW hl
  rw [P_X10_ofB_b0_e] at hR
  rw [S_X10_ofB_b0_e] at hs
  obtain ⟨hx, hb, hr, hml, hts, hown, hlocks, hK, hA⟩ := id C0
  have hf7 := hts (.fieldLink RX10 7 "BeatFollowerModel" "at" "[I") (by decide +kernel)
  have hinX10 : ∀ w ∈ u_ws RX10 TX10 18, w ∈ wsX10_ofB := hin_X10_ofB_X10
  refine lv_aload_n hx hb dX10_ofB_0 rfl (lv_at hl 0 rfl) ?_
  refine va_get (v := .ref (a 1)) (C := RX10) (T := TX10) (N := 18) hx hb hts hinX10 hown hK hW.1 0 rfl rfl 0 (by decide) hf7 (fun _ h9 => h9) rfl dX10_ofB_1 ?_
  refine lv_bipush (v := (32 : Int32)) hx hb dX10_ofB_4 (by decide) ?_
  refine lv_bipush (v := (6 : Int32)) hx hb dX10_ofB_6 (by decide) ?_
  refine lv_iload_n hx hb dX10_ofB_8 rfl (lv_at hl 1 rfl) ?_
  refine lv_imul hx hb dX10_ofB_9 ?_
  refine lv_iadd hx hb dX10_ofB_10 ?_
  refine lv_iload_n hx hb dX10_ofB_11 rfl (lv_at hl 2 rfl) ?_
  refine lv_iadd hx hb dX10_ofB_12 ?_
  have hi1 := hs.1
  have hs := hs.2
  refine q_iald (v := σ 1 ((((32 : Int32) + ((6 : Int32) * v1)) + v2).toNatClampNeg)) C0 hW 1 rfl rfl hi1 rfl rfl dX10_ofB_13 ?_
  exact q_iretr C0 hR dX10_ofB_14
set_option maxHeartbeats 4000000 in
set_option maxRecDepth 100000 in
theorem m_X10_ofB (l : Launch) (D : va_G) (k : Nat → ClassId) (a : Nat → Nat) (sz : Nat) (σ : T2) (p0 : Int32) (p1 : Int32) (hs : S_X10_ofB σ p0 p1) : Met l yX10_ofB wsX10_ofB { frames := 0, cells := 0, slots := 0, locals := 0 } (va_Pc [.ref (a 0), .int p0, .int p1] (q_B D (tyL k) (wX10 k a σ) sz)) (vp_Si (fun r => r = P_X10_ofB σ p0 p1)) 0 0 (fun _ => False) := by
  refine q_met [.ref (a 0), .int p0, .int p1] (wX10 k a σ) sz (cc := cX10_ofB) (maxL := 3) (ret := (some .int)) (by decide) rfl (Nat.le_of_ble_eq_true rfl) ?_
  intro p e s m args below meth c ls hsz C0 hW hl hin
  subst hsz
  exact b_X10_ofB_b0 l D k a _ C0 _ σ p0 p1 hs rfl s.heap [] ls hW (lv_sub hl [0, 1, 2] rfl)
theorem hin_X10_layB_X10 : ∀ w ∈ u_ws RX10 TX10 18, w ∈ wsX10_layB := by decide +kernel
theorem hd_X10_layB : yX10_layB.cls = RX10 ∧ yX10_layB.cls ≠ "java/lang/invoke/MethodHandle" ∧ yX10_layB.cls ≠ "java/lang/invoke/VarHandle" ∧ (parseMethodDescriptor yX10_layB.desc).map (fun d => d.parameters.length) = some 3 := by decide +kernel
noncomputable def P_X10_layB_b0 (σ : T2) (v1 : Int32) (v2 : Int32) (v3 : Int32) : T2 := u2 σ 1 (upd (σ 1) ((((32 : Int32) + ((6 : Int32) * v1)) + v2).toNatClampNeg) v3)
def S_X10_layB_b0 (σ : T2) (v1 : Int32) (v2 : Int32) (v3 : Int32) : Prop := (vp_in (((32 : Int32) + ((6 : Int32) * v1)) + v2) 672) ∧ (True)
theorem P_X10_layB_b0_e (σ : T2) (v1 : Int32) (v2 : Int32) (v3 : Int32) : P_X10_layB_b0 σ v1 v2 v3 = u2 σ 1 (upd (σ 1) ((((32 : Int32) + ((6 : Int32) * v1)) + v2).toNatClampNeg) v3) := rfl
theorem S_X10_layB_b0_e (σ : T2) (v1 : Int32) (v2 : Int32) (v3 : Int32) : S_X10_layB_b0 σ v1 v2 v3 = ((vp_in (((32 : Int32) + ((6 : Int32) * v1)) + v2) 672) ∧ (True)) := rfl
noncomputable def P_X10_layB (σ : T2) (p0 : Int32) (p1 : Int32) (p2 : Int32) : T2 := P_X10_layB_b0 σ p0 p1 p2
def S_X10_layB (σ : T2) (p0 : Int32) (p1 : Int32) (p2 : Int32) : Prop := S_X10_layB_b0 σ p0 p1 p2
set_option maxHeartbeats 4000000 in
set_option maxRecDepth 100000 in
theorem b_X10_layB_b0 {p : Program} {e : Env} {s : State} {m : MethodId} {args : Array Value} {below : List Frame} {meth : Method} {c : Code} (l : Launch) (D : va_G) (k : Nat → ClassId) (a : Nat → Nat) (A : Nat → Prop) (C0 : q_C p s m meth c args RX10 cX10_layB 4 none wsX10_layB D (tyL k) A) (R : T2) : ∀ (σ : T2) (v1 : Int32) (v2 : Int32) (v3 : Int32), S_X10_layB_b0 σ v1 v2 v3 → P_X10_layB_b0 σ v1 v2 v3 = R → ∀ (H : Heap) (locs : List Loc) (ls : Array Slot), q_W D A s.heap (wX10 k a σ) H locs → lv_has ls 4 [(0, .ref (a 0)), (1, .int v1), (2, .int v2), (3, .int v3)] → W p l e { frames := 0, cells := 0, slots := 0, locals := 0 } s m args below meth c H locs 0 0 (MQ below (va_Qv (fun u => u = R) (fun u => q_E D (tyL k) A (wX10 k a u)) A) args s 0 0 A) (F0 m 0 ls []) := by
  intro σ v1 v2 v3 hs hR H locs ls hW hl
  rw [P_X10_layB_b0_e] at hR
  rw [S_X10_layB_b0_e] at hs
  obtain ⟨hx, hb, hr, hml, hts, hown, hlocks, hK, hA⟩ := id C0
  have hf7 := hts (.fieldLink RX10 7 "BeatFollowerModel" "at" "[I") (by decide +kernel)
  have hinX10 : ∀ w ∈ u_ws RX10 TX10 18, w ∈ wsX10_layB := hin_X10_layB_X10
  refine lv_aload_n hx hb dX10_layB_0 rfl (lv_at hl 0 rfl) ?_
  refine va_get (v := .ref (a 1)) (C := RX10) (T := TX10) (N := 18) hx hb hts hinX10 hown hK hW.1 0 rfl rfl 0 (by decide) hf7 (fun _ h9 => h9) rfl dX10_layB_1 ?_
  refine lv_bipush (v := (32 : Int32)) hx hb dX10_layB_4 (by decide) ?_
  refine lv_bipush (v := (6 : Int32)) hx hb dX10_layB_6 (by decide) ?_
  refine lv_iload_n hx hb dX10_layB_8 rfl (lv_at hl 1 rfl) ?_
  refine lv_imul hx hb dX10_layB_9 ?_
  refine lv_iadd hx hb dX10_layB_10 ?_
  refine lv_iload_n hx hb dX10_layB_11 rfl (lv_at hl 2 rfl) ?_
  refine lv_iadd hx hb dX10_layB_12 ?_
  refine lv_iload_n hx hb dX10_layB_13 rfl (lv_at hl 3 rfl) ?_
  have hi1 := hs.1
  have hs := hs.2
  refine q_iast (f := σ 1) (wd' := wX10 k a (u2 σ 1 (upd (σ 1) ((((32 : Int32) + ((6 : Int32) * v1)) + v2).toNatClampNeg) v3))) C0 hW 1 rfl rfl hi1 rfl dX10_layB_14 (wX10_s1 k a _ _) (fun H locs hW => ?_)
  exact q_vret C0 hW hR dX10_layB_15
set_option maxHeartbeats 4000000 in
set_option maxRecDepth 100000 in
theorem m_X10_layB (l : Launch) (D : va_G) (k : Nat → ClassId) (a : Nat → Nat) (sz : Nat) (σ : T2) (p0 : Int32) (p1 : Int32) (p2 : Int32) (hs : S_X10_layB σ p0 p1 p2) : Met l yX10_layB wsX10_layB { frames := 0, cells := 0, slots := 0, locals := 0 } (va_Pc [.ref (a 0), .int p0, .int p1, .int p2] (q_B D (tyL k) (wX10 k a σ) sz)) (va_Qv (fun u => u = P_X10_layB σ p0 p1 p2) (fun u => q_E D (tyL k) (va_A (wX10 k a σ) sz) (wX10 k a u)) (va_A (wX10 k a σ) sz)) 0 0 (va_A (wX10 k a σ) sz) := by
  refine q_met [.ref (a 0), .int p0, .int p1, .int p2] (wX10 k a σ) sz (cc := cX10_layB) (maxL := 4) (ret := none) (by decide) rfl (Nat.le_of_ble_eq_true rfl) ?_
  intro p e s m args below meth c ls hsz C0 hW hl hin
  subst hsz
  exact b_X10_layB_b0 l D k a _ C0 _ σ p0 p1 p2 hs rfl s.heap [] ls hW (lv_sub hl [0, 1, 2, 3] rfl)
theorem hin_X10_halfWindow_X10 : ∀ w ∈ u_ws RX10 TX10 18, w ∈ wsX10_halfWindow := by decide +kernel
theorem hd_X10_halfWindow : yX10_halfWindow.cls = RX10 ∧ yX10_halfWindow.cls ≠ "java/lang/invoke/MethodHandle" ∧ yX10_halfWindow.cls ≠ "java/lang/invoke/VarHandle" ∧ (parseMethodDescriptor yX10_halfWindow.desc).map (fun d => d.parameters.length) = some 0 := by decide +kernel
noncomputable def P_X10_halfWindow_b0 (σ : T2) : Int32 := ((σ 1 10) * (σ 1 1)) / (100 : Int32)
def S_X10_halfWindow_b0 (σ : T2) : Prop := True
theorem P_X10_halfWindow_b0_e (σ : T2) : P_X10_halfWindow_b0 σ = ((σ 1 10) * (σ 1 1)) / (100 : Int32) := rfl
theorem S_X10_halfWindow_b0_e (σ : T2) : S_X10_halfWindow_b0 σ = (True) := rfl
noncomputable def P_X10_halfWindow (σ : T2) : Int32 := P_X10_halfWindow_b0 σ
def S_X10_halfWindow (σ : T2) : Prop := S_X10_halfWindow_b0 σ
set_option maxHeartbeats 4000000 in
set_option maxRecDepth 100000 in
theorem b_X10_halfWindow_b0 {p : Program} {e : Env} {s : State} {m : MethodId} {args : Array Value} {below : List Frame} {meth : Method} {c : Code} (l : Launch) (D : va_G) (k : Nat → ClassId) (a : Nat → Nat) (A : Nat → Prop) (C0 : q_C p s m meth c args RX10 cX10_halfWindow 1 (some .int) wsX10_halfWindow D (tyL k) A) (R : Int32) : ∀ (σ : T2), S_X10_halfWindow_b0 σ → P_X10_halfWindow_b0 σ = R → ∀ (H : Heap) (locs : List Loc) (ls : Array Slot), q_W D A s.heap (wX10 k a σ) s.heap [] → lv_has ls 1 [(0, .ref (a 0))] → W p l e { frames := 0, cells := 0, slots := 0, locals := 0 } s m args below meth c s.heap [] 0 0 (MQ below (vp_Si (fun r => r = R)) args s 0 0 (fun _ => False)) (F0 m 0 ls []) := by
  intro σ hs hR H locs ls hW hl
  rw [P_X10_halfWindow_b0_e] at hR
  rw [S_X10_halfWindow_b0_e] at hs
  obtain ⟨hx, hb, hr, hml, hts, hown, hlocks, hK, hA⟩ := id C0
  have hf7 := hts (.fieldLink RX10 7 "BeatFollowerModel" "at" "[I") (by decide +kernel)
  have hinX10 : ∀ w ∈ u_ws RX10 TX10 18, w ∈ wsX10_halfWindow := hin_X10_halfWindow_X10
  refine lv_aload_n hx hb dX10_halfWindow_0 rfl (lv_at hl 0 rfl) ?_
  refine va_get (v := .ref (a 1)) (C := RX10) (T := TX10) (N := 18) hx hb hts hinX10 hown hK hW.1 0 rfl rfl 0 (by decide) hf7 (fun _ h9 => h9) rfl dX10_halfWindow_1 ?_
  refine lv_bipush (v := (10 : Int32)) hx hb dX10_halfWindow_4 (by decide) ?_
  refine q_iald (v := σ 1 10) C0 hW 1 rfl rfl vi_10_672 cl_10 rfl dX10_halfWindow_6 ?_
  refine lv_aload_n hx hb dX10_halfWindow_7 rfl (lv_at hl 0 rfl) ?_
  refine va_get (v := .ref (a 1)) (C := RX10) (T := TX10) (N := 18) hx hb hts hinX10 hown hK hW.1 0 rfl rfl 0 (by decide) hf7 (fun _ h9 => h9) rfl dX10_halfWindow_8 ?_
  refine lv_iconst (v := (1 : Int32)) hx hb dX10_halfWindow_11 (by decide) ?_
  refine q_iald (v := σ 1 1) C0 hW 1 rfl rfl vi_1_672 cl_1 rfl dX10_halfWindow_12 ?_
  refine lv_imul hx hb dX10_halfWindow_13 ?_
  refine lv_bipush (v := (100 : Int32)) hx hb dX10_halfWindow_14 (by decide) ?_
  refine lv_idiv hx hb dX10_halfWindow_16 (by decide) ?_
  exact q_iretr C0 hR dX10_halfWindow_17
set_option maxHeartbeats 4000000 in
set_option maxRecDepth 100000 in
theorem m_X10_halfWindow (l : Launch) (D : va_G) (k : Nat → ClassId) (a : Nat → Nat) (sz : Nat) (σ : T2) (hs : S_X10_halfWindow σ) : Met l yX10_halfWindow wsX10_halfWindow { frames := 0, cells := 0, slots := 0, locals := 0 } (va_Pc [.ref (a 0)] (q_B D (tyL k) (wX10 k a σ) sz)) (vp_Si (fun r => r = P_X10_halfWindow σ)) 0 0 (fun _ => False) := by
  refine q_met [.ref (a 0)] (wX10 k a σ) sz (cc := cX10_halfWindow) (maxL := 1) (ret := (some .int)) (by decide) rfl (Nat.le_of_ble_eq_true rfl) ?_
  intro p e s m args below meth c ls hsz C0 hW hl hin
  subst hsz
  exact b_X10_halfWindow_b0 l D k a _ C0 _ σ  hs rfl s.heap [] ls hW (lv_sub hl [0] rfl)
theorem hin_X10_strike_X10 : ∀ w ∈ u_ws RX10 TX10 18, w ∈ wsX10_strike := by decide +kernel
theorem hd_X10_strike : yX10_strike.cls = RX10 ∧ yX10_strike.cls ≠ "java/lang/invoke/MethodHandle" ∧ yX10_strike.cls ≠ "java/lang/invoke/VarHandle" ∧ (parseMethodDescriptor yX10_strike.desc).map (fun d => d.parameters.length) = some 2 := by decide +kernel
noncomputable def P_X10_strike_b0 (σ : T2) (v1 : Int32) (v2 : Int32) : Int32 × T2 := (σ 1 12, u2 σ 1 (upd (upd (upd (σ 1) (((416 : Int32) + ((4 : Int32) * ((σ 1 12) - (σ 1 12) / (64 : Int32) * (64 : Int32)))).toNatClampNeg) v1) ((((416 : Int32) + ((4 : Int32) * ((σ 1 12) - (σ 1 12) / (64 : Int32) * (64 : Int32)))) + (1 : Int32)).toNatClampNeg) v2) 12 (((upd (upd (σ 1) (((416 : Int32) + ((4 : Int32) * ((σ 1 12) - (σ 1 12) / (64 : Int32) * (64 : Int32)))).toNatClampNeg) v1) ((((416 : Int32) + ((4 : Int32) * ((σ 1 12) - (σ 1 12) / (64 : Int32) * (64 : Int32)))) + (1 : Int32)).toNatClampNeg) v2) 12) + (1 : Int32))))
def S_X10_strike_b0 (σ : T2) (v1 : Int32) (v2 : Int32) : Prop := (vp_in ((416 : Int32) + ((4 : Int32) * ((σ 1 12) - (σ 1 12) / (64 : Int32) * (64 : Int32)))) 672) ∧ ((vp_in (((416 : Int32) + ((4 : Int32) * ((σ 1 12) - (σ 1 12) / (64 : Int32) * (64 : Int32)))) + (1 : Int32)) 672) ∧ (True))
theorem P_X10_strike_b0_e (σ : T2) (v1 : Int32) (v2 : Int32) : P_X10_strike_b0 σ v1 v2 = (σ 1 12, u2 σ 1 (upd (upd (upd (σ 1) (((416 : Int32) + ((4 : Int32) * ((σ 1 12) - (σ 1 12) / (64 : Int32) * (64 : Int32)))).toNatClampNeg) v1) ((((416 : Int32) + ((4 : Int32) * ((σ 1 12) - (σ 1 12) / (64 : Int32) * (64 : Int32)))) + (1 : Int32)).toNatClampNeg) v2) 12 (((upd (upd (σ 1) (((416 : Int32) + ((4 : Int32) * ((σ 1 12) - (σ 1 12) / (64 : Int32) * (64 : Int32)))).toNatClampNeg) v1) ((((416 : Int32) + ((4 : Int32) * ((σ 1 12) - (σ 1 12) / (64 : Int32) * (64 : Int32)))) + (1 : Int32)).toNatClampNeg) v2) 12) + (1 : Int32)))) := rfl
theorem S_X10_strike_b0_e (σ : T2) (v1 : Int32) (v2 : Int32) : S_X10_strike_b0 σ v1 v2 = ((vp_in ((416 : Int32) + ((4 : Int32) * ((σ 1 12) - (σ 1 12) / (64 : Int32) * (64 : Int32)))) 672) ∧ ((vp_in (((416 : Int32) + ((4 : Int32) * ((σ 1 12) - (σ 1 12) / (64 : Int32) * (64 : Int32)))) + (1 : Int32)) 672) ∧ (True))) := rfl
noncomputable def P_X10_strike (σ : T2) (p0 : Int32) (p1 : Int32) : Int32 × T2 := P_X10_strike_b0 σ p0 p1
def S_X10_strike (σ : T2) (p0 : Int32) (p1 : Int32) : Prop := S_X10_strike_b0 σ p0 p1
set_option maxHeartbeats 4000000 in
set_option maxRecDepth 100000 in
theorem b_X10_strike_b0 {p : Program} {e : Env} {s : State} {m : MethodId} {args : Array Value} {below : List Frame} {meth : Method} {c : Code} (l : Launch) (D : va_G) (k : Nat → ClassId) (a : Nat → Nat) (A : Nat → Prop) (C0 : q_C p s m meth c args RX10 cX10_strike 5 (some .int) wsX10_strike D (tyL k) A) (R : Int32 × T2) : ∀ (σ : T2) (v1 : Int32) (v2 : Int32), S_X10_strike_b0 σ v1 v2 → P_X10_strike_b0 σ v1 v2 = R → ∀ (H : Heap) (locs : List Loc) (ls : Array Slot), q_W D A s.heap (wX10 k a σ) H locs → lv_has ls 5 [(0, .ref (a 0)), (1, .int v1), (2, .int v2)] → W p l e { frames := 0, cells := 0, slots := 0, locals := 0 } s m args below meth c H locs 0 0 (MQ below (va_Qi (fun r u => (r, u) = R) (fun u => q_E D (tyL k) A (wX10 k a u)) A) args s 0 0 A) (F0 m 0 ls []) := by
  intro σ v1 v2 hs hR H locs ls hW hl
  rw [P_X10_strike_b0_e] at hR
  rw [S_X10_strike_b0_e] at hs
  obtain ⟨hx, hb, hr, hml, hts, hown, hlocks, hK, hA⟩ := id C0
  have hf7 := hts (.fieldLink RX10 7 "BeatFollowerModel" "at" "[I") (by decide +kernel)
  have hinX10 : ∀ w ∈ u_ws RX10 TX10 18, w ∈ wsX10_strike := hin_X10_strike_X10
  refine lv_aload_n hx hb dX10_strike_0 rfl (lv_at hl 0 rfl) ?_
  refine va_get (v := .ref (a 1)) (C := RX10) (T := TX10) (N := 18) hx hb hts hinX10 hown hK hW.1 0 rfl rfl 0 (by decide) hf7 (fun _ h9 => h9) rfl dX10_strike_1 ?_
  refine lv_bipush (v := (12 : Int32)) hx hb dX10_strike_4 (by decide) ?_
  refine q_iald (v := σ 1 12) C0 hW 1 rfl rfl vi_12_672 cl_12 rfl dX10_strike_6 ?_
  refine lv_istore_n (lv' := [(3, .int (σ 1 12)), (0, .ref (a 0)), (1, .int v1), (2, .int v2)]) hx hb dX10_strike_7 rfl hl (by decide) rfl (fun ls hl => ?_)
  refine lv_sipush (v := (416 : Int32)) hx hb dX10_strike_8 (by decide) ?_
  refine lv_iconst (v := (4 : Int32)) hx hb dX10_strike_11 (by decide) ?_
  refine lv_iload_n hx hb dX10_strike_12 rfl (lv_at hl 0 rfl) ?_
  refine lv_bipush (v := (64 : Int32)) hx hb dX10_strike_13 (by decide) ?_
  refine lv_irem hx hb dX10_strike_15 (by decide) ?_
  refine lv_imul hx hb dX10_strike_16 ?_
  refine lv_iadd hx hb dX10_strike_17 ?_
  refine lv_istore (lv' := [(4, .int ((416 : Int32) + ((4 : Int32) * ((σ 1 12) - (σ 1 12) / (64 : Int32) * (64 : Int32))))), (3, .int (σ 1 12)), (0, .ref (a 0)), (1, .int v1), (2, .int v2)]) hx hb dX10_strike_18 hl (by decide) rfl (fun ls hl => ?_)
  refine lv_aload_n hx hb dX10_strike_20 rfl (lv_at hl 2 rfl) ?_
  refine va_get (v := .ref (a 1)) (C := RX10) (T := TX10) (N := 18) hx hb hts hinX10 hown hK hW.1 0 rfl rfl 0 (by decide) hf7 (fun _ h9 => h9) rfl dX10_strike_21 ?_
  refine lv_iload hx hb dX10_strike_24 (lv_at hl 0 rfl) ?_
  refine lv_iload_n hx hb dX10_strike_26 rfl (lv_at hl 3 rfl) ?_
  have hi1 := hs.1
  have hs := hs.2
  refine q_iast (f := σ 1) (wd' := wX10 k a (u2 σ 1 (upd (σ 1) (((416 : Int32) + ((4 : Int32) * ((σ 1 12) - (σ 1 12) / (64 : Int32) * (64 : Int32)))).toNatClampNeg) v1))) C0 hW 1 rfl rfl hi1 rfl dX10_strike_27 (wX10_s1 k a _ _) (fun H locs hW => ?_)
  refine lv_aload_n hx hb dX10_strike_28 rfl (lv_at hl 2 rfl) ?_
  refine va_get (v := .ref (a 1)) (C := RX10) (T := TX10) (N := 18) hx hb hts hinX10 hown hK hW.1 0 rfl rfl 0 (by decide) hf7 (fun _ h9 => h9) rfl dX10_strike_29 ?_
  refine lv_iload hx hb dX10_strike_32 (lv_at hl 0 rfl) ?_
  refine lv_iconst (v := (1 : Int32)) hx hb dX10_strike_34 (by decide) ?_
  refine lv_iadd hx hb dX10_strike_35 ?_
  refine lv_iload_n hx hb dX10_strike_36 rfl (lv_at hl 4 rfl) ?_
  have hi2 := hs.1
  have hs := hs.2
  refine q_iast (f := upd (σ 1) (((416 : Int32) + ((4 : Int32) * ((σ 1 12) - (σ 1 12) / (64 : Int32) * (64 : Int32)))).toNatClampNeg) v1) (wd' := wX10 k a (u2 σ 1 (upd (upd (σ 1) (((416 : Int32) + ((4 : Int32) * ((σ 1 12) - (σ 1 12) / (64 : Int32) * (64 : Int32)))).toNatClampNeg) v1) ((((416 : Int32) + ((4 : Int32) * ((σ 1 12) - (σ 1 12) / (64 : Int32) * (64 : Int32)))) + (1 : Int32)).toNatClampNeg) v2))) C0 hW 1 rfl rfl hi2 rfl dX10_strike_37 ((wX10_s1 k a _ _).trans (congrArg (wX10 k a) (u2_same _ _ _ _))) (fun H locs hW => ?_)
  refine lv_aload_n hx hb dX10_strike_38 rfl (lv_at hl 2 rfl) ?_
  refine va_get (v := .ref (a 1)) (C := RX10) (T := TX10) (N := 18) hx hb hts hinX10 hown hK hW.1 0 rfl rfl 0 (by decide) hf7 (fun _ h9 => h9) rfl dX10_strike_39 ?_
  refine lv_bipush (v := (12 : Int32)) hx hb dX10_strike_42 (by decide) ?_
  refine lv_dup2_11 hx hb dX10_strike_44 rfl rfl ?_
  refine q_iald (v := (upd (upd (σ 1) (((416 : Int32) + ((4 : Int32) * ((σ 1 12) - (σ 1 12) / (64 : Int32) * (64 : Int32)))).toNatClampNeg) v1) ((((416 : Int32) + ((4 : Int32) * ((σ 1 12) - (σ 1 12) / (64 : Int32) * (64 : Int32)))) + (1 : Int32)).toNatClampNeg) v2) 12) C0 hW 1 rfl rfl vi_12_672 cl_12 rfl dX10_strike_45 ?_
  refine lv_iconst (v := (1 : Int32)) hx hb dX10_strike_46 (by decide) ?_
  refine lv_iadd hx hb dX10_strike_47 ?_
  refine q_iast (f := upd (upd (σ 1) (((416 : Int32) + ((4 : Int32) * ((σ 1 12) - (σ 1 12) / (64 : Int32) * (64 : Int32)))).toNatClampNeg) v1) ((((416 : Int32) + ((4 : Int32) * ((σ 1 12) - (σ 1 12) / (64 : Int32) * (64 : Int32)))) + (1 : Int32)).toNatClampNeg) v2) (wd' := wX10 k a (u2 σ 1 (upd (upd (upd (σ 1) (((416 : Int32) + ((4 : Int32) * ((σ 1 12) - (σ 1 12) / (64 : Int32) * (64 : Int32)))).toNatClampNeg) v1) ((((416 : Int32) + ((4 : Int32) * ((σ 1 12) - (σ 1 12) / (64 : Int32) * (64 : Int32)))) + (1 : Int32)).toNatClampNeg) v2) 12 (((upd (upd (σ 1) (((416 : Int32) + ((4 : Int32) * ((σ 1 12) - (σ 1 12) / (64 : Int32) * (64 : Int32)))).toNatClampNeg) v1) ((((416 : Int32) + ((4 : Int32) * ((σ 1 12) - (σ 1 12) / (64 : Int32) * (64 : Int32)))) + (1 : Int32)).toNatClampNeg) v2) 12) + (1 : Int32))))) C0 hW 1 rfl rfl vi_12_672 cl_12 dX10_strike_48 ((wX10_s1 k a _ _).trans (congrArg (wX10 k a) (u2_same _ _ _ _))) (fun H locs hW => ?_)
  refine lv_iload_n hx hb dX10_strike_49 rfl (lv_at hl 1 rfl) ?_
  exact q_iret C0 hW hR dX10_strike_50
set_option maxHeartbeats 4000000 in
set_option maxRecDepth 100000 in
theorem m_X10_strike (l : Launch) (D : va_G) (k : Nat → ClassId) (a : Nat → Nat) (sz : Nat) (σ : T2) (p0 : Int32) (p1 : Int32) (hs : S_X10_strike σ p0 p1) : Met l yX10_strike wsX10_strike { frames := 0, cells := 0, slots := 0, locals := 0 } (va_Pc [.ref (a 0), .int p0, .int p1] (q_B D (tyL k) (wX10 k a σ) sz)) (va_Qi (fun r u => (r, u) = P_X10_strike σ p0 p1) (fun u => q_E D (tyL k) (va_A (wX10 k a σ) sz) (wX10 k a u)) (va_A (wX10 k a σ) sz)) 0 0 (va_A (wX10 k a σ) sz) := by
  refine q_met [.ref (a 0), .int p0, .int p1] (wX10 k a σ) sz (cc := cX10_strike) (maxL := 5) (ret := (some .int)) (by decide) rfl (Nat.le_of_ble_eq_true rfl) ?_
  intro p e s m args below meth c ls hsz C0 hW hl hin
  subst hsz
  exact b_X10_strike_b0 l D k a _ C0 _ σ p0 p1 hs rfl s.heap [] ls hW (lv_sub hl [0, 1, 2] rfl)
theorem hin_X10_endBlow_X10 : ∀ w ∈ u_ws RX10 TX10 18, w ∈ wsX10_endBlow := by decide +kernel
theorem hd_X10_endBlow : yX10_endBlow.cls = RX10 ∧ yX10_endBlow.cls ≠ "java/lang/invoke/MethodHandle" ∧ yX10_endBlow.cls ≠ "java/lang/invoke/VarHandle" ∧ (parseMethodDescriptor yX10_endBlow.desc).map (fun d => d.parameters.length) = some 0 := by decide +kernel
noncomputable def P_X10_endBlow_b0 (σ : T2) : T2 := u2 σ 1 (upd (upd (σ 1) ((((416 : Int32) + ((4 : Int32) * (((σ 1 12) - (1 : Int32)) - ((σ 1 12) - (1 : Int32)) / (64 : Int32) * (64 : Int32)))) + (2 : Int32)).toNatClampNeg) (σ 1 10)) ((((416 : Int32) + ((4 : Int32) * (((σ 1 12) - (1 : Int32)) - ((σ 1 12) - (1 : Int32)) / (64 : Int32) * (64 : Int32)))) + (3 : Int32)).toNatClampNeg) ((upd (σ 1) ((((416 : Int32) + ((4 : Int32) * (((σ 1 12) - (1 : Int32)) - ((σ 1 12) - (1 : Int32)) / (64 : Int32) * (64 : Int32)))) + (2 : Int32)).toNatClampNeg) (σ 1 10)) 9))
def S_X10_endBlow_b0 (σ : T2) : Prop := (vp_in (((416 : Int32) + ((4 : Int32) * (((σ 1 12) - (1 : Int32)) - ((σ 1 12) - (1 : Int32)) / (64 : Int32) * (64 : Int32)))) + (2 : Int32)) 672) ∧ ((vp_in (((416 : Int32) + ((4 : Int32) * (((σ 1 12) - (1 : Int32)) - ((σ 1 12) - (1 : Int32)) / (64 : Int32) * (64 : Int32)))) + (3 : Int32)) 672) ∧ (True))
theorem P_X10_endBlow_b0_e (σ : T2) : P_X10_endBlow_b0 σ = u2 σ 1 (upd (upd (σ 1) ((((416 : Int32) + ((4 : Int32) * (((σ 1 12) - (1 : Int32)) - ((σ 1 12) - (1 : Int32)) / (64 : Int32) * (64 : Int32)))) + (2 : Int32)).toNatClampNeg) (σ 1 10)) ((((416 : Int32) + ((4 : Int32) * (((σ 1 12) - (1 : Int32)) - ((σ 1 12) - (1 : Int32)) / (64 : Int32) * (64 : Int32)))) + (3 : Int32)).toNatClampNeg) ((upd (σ 1) ((((416 : Int32) + ((4 : Int32) * (((σ 1 12) - (1 : Int32)) - ((σ 1 12) - (1 : Int32)) / (64 : Int32) * (64 : Int32)))) + (2 : Int32)).toNatClampNeg) (σ 1 10)) 9)) := rfl
theorem S_X10_endBlow_b0_e (σ : T2) : S_X10_endBlow_b0 σ = ((vp_in (((416 : Int32) + ((4 : Int32) * (((σ 1 12) - (1 : Int32)) - ((σ 1 12) - (1 : Int32)) / (64 : Int32) * (64 : Int32)))) + (2 : Int32)) 672) ∧ ((vp_in (((416 : Int32) + ((4 : Int32) * (((σ 1 12) - (1 : Int32)) - ((σ 1 12) - (1 : Int32)) / (64 : Int32) * (64 : Int32)))) + (3 : Int32)) 672) ∧ (True))) := rfl
noncomputable def P_X10_endBlow (σ : T2) : T2 := P_X10_endBlow_b0 σ
def S_X10_endBlow (σ : T2) : Prop := S_X10_endBlow_b0 σ
set_option maxHeartbeats 4000000 in
set_option maxRecDepth 100000 in
theorem b_X10_endBlow_b0 {p : Program} {e : Env} {s : State} {m : MethodId} {args : Array Value} {below : List Frame} {meth : Method} {c : Code} (l : Launch) (D : va_G) (k : Nat → ClassId) (a : Nat → Nat) (A : Nat → Prop) (C0 : q_C p s m meth c args RX10 cX10_endBlow 2 none wsX10_endBlow D (tyL k) A) (R : T2) : ∀ (σ : T2), S_X10_endBlow_b0 σ → P_X10_endBlow_b0 σ = R → ∀ (H : Heap) (locs : List Loc) (ls : Array Slot), q_W D A s.heap (wX10 k a σ) H locs → lv_has ls 2 [(0, .ref (a 0))] → W p l e { frames := 0, cells := 0, slots := 0, locals := 0 } s m args below meth c H locs 0 0 (MQ below (va_Qv (fun u => u = R) (fun u => q_E D (tyL k) A (wX10 k a u)) A) args s 0 0 A) (F0 m 0 ls []) := by
  intro σ hs hR H locs ls hW hl
  rw [P_X10_endBlow_b0_e] at hR
  rw [S_X10_endBlow_b0_e] at hs
  obtain ⟨hx, hb, hr, hml, hts, hown, hlocks, hK, hA⟩ := id C0
  have hf7 := hts (.fieldLink RX10 7 "BeatFollowerModel" "at" "[I") (by decide +kernel)
  have hinX10 : ∀ w ∈ u_ws RX10 TX10 18, w ∈ wsX10_endBlow := hin_X10_endBlow_X10
  refine lv_sipush (v := (416 : Int32)) hx hb dX10_endBlow_0 (by decide) ?_
  refine lv_iconst (v := (4 : Int32)) hx hb dX10_endBlow_3 (by decide) ?_
  refine lv_aload_n hx hb dX10_endBlow_4 rfl (lv_at hl 0 rfl) ?_
  refine va_get (v := .ref (a 1)) (C := RX10) (T := TX10) (N := 18) hx hb hts hinX10 hown hK hW.1 0 rfl rfl 0 (by decide) hf7 (fun _ h9 => h9) rfl dX10_endBlow_5 ?_
  refine lv_bipush (v := (12 : Int32)) hx hb dX10_endBlow_8 (by decide) ?_
  refine q_iald (v := σ 1 12) C0 hW 1 rfl rfl vi_12_672 cl_12 rfl dX10_endBlow_10 ?_
  refine lv_iconst (v := (1 : Int32)) hx hb dX10_endBlow_11 (by decide) ?_
  refine lv_isub hx hb dX10_endBlow_12 ?_
  refine lv_bipush (v := (64 : Int32)) hx hb dX10_endBlow_13 (by decide) ?_
  refine lv_irem hx hb dX10_endBlow_15 (by decide) ?_
  refine lv_imul hx hb dX10_endBlow_16 ?_
  refine lv_iadd hx hb dX10_endBlow_17 ?_
  refine lv_istore_n (lv' := [(1, .int ((416 : Int32) + ((4 : Int32) * (((σ 1 12) - (1 : Int32)) - ((σ 1 12) - (1 : Int32)) / (64 : Int32) * (64 : Int32))))), (0, .ref (a 0))]) hx hb dX10_endBlow_18 rfl hl (by decide) rfl (fun ls hl => ?_)
  refine lv_aload_n hx hb dX10_endBlow_19 rfl (lv_at hl 1 rfl) ?_
  refine va_get (v := .ref (a 1)) (C := RX10) (T := TX10) (N := 18) hx hb hts hinX10 hown hK hW.1 0 rfl rfl 0 (by decide) hf7 (fun _ h9 => h9) rfl dX10_endBlow_20 ?_
  refine lv_iload_n hx hb dX10_endBlow_23 rfl (lv_at hl 0 rfl) ?_
  refine lv_iconst (v := (2 : Int32)) hx hb dX10_endBlow_24 (by decide) ?_
  refine lv_iadd hx hb dX10_endBlow_25 ?_
  refine lv_aload_n hx hb dX10_endBlow_26 rfl (lv_at hl 1 rfl) ?_
  refine va_get (v := .ref (a 1)) (C := RX10) (T := TX10) (N := 18) hx hb hts hinX10 hown hK hW.1 0 rfl rfl 0 (by decide) hf7 (fun _ h9 => h9) rfl dX10_endBlow_27 ?_
  refine lv_bipush (v := (10 : Int32)) hx hb dX10_endBlow_30 (by decide) ?_
  refine q_iald (v := σ 1 10) C0 hW 1 rfl rfl vi_10_672 cl_10 rfl dX10_endBlow_32 ?_
  have hi1 := hs.1
  have hs := hs.2
  refine q_iast (f := σ 1) (wd' := wX10 k a (u2 σ 1 (upd (σ 1) ((((416 : Int32) + ((4 : Int32) * (((σ 1 12) - (1 : Int32)) - ((σ 1 12) - (1 : Int32)) / (64 : Int32) * (64 : Int32)))) + (2 : Int32)).toNatClampNeg) (σ 1 10)))) C0 hW 1 rfl rfl hi1 rfl dX10_endBlow_33 (wX10_s1 k a _ _) (fun H locs hW => ?_)
  refine lv_aload_n hx hb dX10_endBlow_34 rfl (lv_at hl 1 rfl) ?_
  refine va_get (v := .ref (a 1)) (C := RX10) (T := TX10) (N := 18) hx hb hts hinX10 hown hK hW.1 0 rfl rfl 0 (by decide) hf7 (fun _ h9 => h9) rfl dX10_endBlow_35 ?_
  refine lv_iload_n hx hb dX10_endBlow_38 rfl (lv_at hl 0 rfl) ?_
  refine lv_iconst (v := (3 : Int32)) hx hb dX10_endBlow_39 (by decide) ?_
  refine lv_iadd hx hb dX10_endBlow_40 ?_
  refine lv_aload_n hx hb dX10_endBlow_41 rfl (lv_at hl 1 rfl) ?_
  refine va_get (v := .ref (a 1)) (C := RX10) (T := TX10) (N := 18) hx hb hts hinX10 hown hK hW.1 0 rfl rfl 0 (by decide) hf7 (fun _ h9 => h9) rfl dX10_endBlow_42 ?_
  refine lv_bipush (v := (9 : Int32)) hx hb dX10_endBlow_45 (by decide) ?_
  refine q_iald (v := (upd (σ 1) ((((416 : Int32) + ((4 : Int32) * (((σ 1 12) - (1 : Int32)) - ((σ 1 12) - (1 : Int32)) / (64 : Int32) * (64 : Int32)))) + (2 : Int32)).toNatClampNeg) (σ 1 10)) 9) C0 hW 1 rfl rfl vi_9_672 cl_9 rfl dX10_endBlow_47 ?_
  have hi2 := hs.1
  have hs := hs.2
  refine q_iast (f := upd (σ 1) ((((416 : Int32) + ((4 : Int32) * (((σ 1 12) - (1 : Int32)) - ((σ 1 12) - (1 : Int32)) / (64 : Int32) * (64 : Int32)))) + (2 : Int32)).toNatClampNeg) (σ 1 10)) (wd' := wX10 k a (u2 σ 1 (upd (upd (σ 1) ((((416 : Int32) + ((4 : Int32) * (((σ 1 12) - (1 : Int32)) - ((σ 1 12) - (1 : Int32)) / (64 : Int32) * (64 : Int32)))) + (2 : Int32)).toNatClampNeg) (σ 1 10)) ((((416 : Int32) + ((4 : Int32) * (((σ 1 12) - (1 : Int32)) - ((σ 1 12) - (1 : Int32)) / (64 : Int32) * (64 : Int32)))) + (3 : Int32)).toNatClampNeg) ((upd (σ 1) ((((416 : Int32) + ((4 : Int32) * (((σ 1 12) - (1 : Int32)) - ((σ 1 12) - (1 : Int32)) / (64 : Int32) * (64 : Int32)))) + (2 : Int32)).toNatClampNeg) (σ 1 10)) 9)))) C0 hW 1 rfl rfl hi2 rfl dX10_endBlow_48 ((wX10_s1 k a _ _).trans (congrArg (wX10 k a) (u2_same _ _ _ _))) (fun H locs hW => ?_)
  exact q_vret C0 hW hR dX10_endBlow_49
set_option maxHeartbeats 4000000 in
set_option maxRecDepth 100000 in
theorem m_X10_endBlow (l : Launch) (D : va_G) (k : Nat → ClassId) (a : Nat → Nat) (sz : Nat) (σ : T2) (hs : S_X10_endBlow σ) : Met l yX10_endBlow wsX10_endBlow { frames := 0, cells := 0, slots := 0, locals := 0 } (va_Pc [.ref (a 0)] (q_B D (tyL k) (wX10 k a σ) sz)) (va_Qv (fun u => u = P_X10_endBlow σ) (fun u => q_E D (tyL k) (va_A (wX10 k a σ) sz) (wX10 k a u)) (va_A (wX10 k a σ) sz)) 0 0 (va_A (wX10 k a σ) sz) := by
  refine q_met [.ref (a 0)] (wX10 k a σ) sz (cc := cX10_endBlow) (maxL := 2) (ret := none) (by decide) rfl (Nat.le_of_ble_eq_true rfl) ?_
  intro p e s m args below meth c ls hsz C0 hW hl hin
  subst hsz
  exact b_X10_endBlow_b0 l D k a _ C0 _ σ  hs rfl s.heap [] ls hW (lv_sub hl [0] rfl)
theorem hin_X10_loseLock_X10 : ∀ w ∈ u_ws RX10 TX10 18, w ∈ wsX10_loseLock := by decide +kernel
theorem hd_X10_loseLock : yX10_loseLock.cls = RX10 ∧ yX10_loseLock.cls ≠ "java/lang/invoke/MethodHandle" ∧ yX10_loseLock.cls ≠ "java/lang/invoke/VarHandle" ∧ (parseMethodDescriptor yX10_loseLock.desc).map (fun d => d.parameters.length) = some 0 := by decide +kernel
noncomputable def P_X10_loseLock_b0 (σ : T2) : T2 := u2 σ 1 (upd (upd (upd (upd (σ 1) 17 ((σ 1 17) + (1 : Int32))) 9 (0 : Int32)) 19 (0 : Int32)) 20 (0 : Int32))
def S_X10_loseLock_b0 (σ : T2) : Prop := True
theorem P_X10_loseLock_b0_e (σ : T2) : P_X10_loseLock_b0 σ = u2 σ 1 (upd (upd (upd (upd (σ 1) 17 ((σ 1 17) + (1 : Int32))) 9 (0 : Int32)) 19 (0 : Int32)) 20 (0 : Int32)) := rfl
theorem S_X10_loseLock_b0_e (σ : T2) : S_X10_loseLock_b0 σ = (True) := rfl
noncomputable def P_X10_loseLock (σ : T2) : T2 := P_X10_loseLock_b0 σ
def S_X10_loseLock (σ : T2) : Prop := S_X10_loseLock_b0 σ
set_option maxHeartbeats 4000000 in
set_option maxRecDepth 100000 in
theorem b_X10_loseLock_b0 {p : Program} {e : Env} {s : State} {m : MethodId} {args : Array Value} {below : List Frame} {meth : Method} {c : Code} (l : Launch) (D : va_G) (k : Nat → ClassId) (a : Nat → Nat) (A : Nat → Prop) (C0 : q_C p s m meth c args RX10 cX10_loseLock 1 none wsX10_loseLock D (tyL k) A) (R : T2) : ∀ (σ : T2), S_X10_loseLock_b0 σ → P_X10_loseLock_b0 σ = R → ∀ (H : Heap) (locs : List Loc) (ls : Array Slot), q_W D A s.heap (wX10 k a σ) H locs → lv_has ls 1 [(0, .ref (a 0))] → W p l e { frames := 0, cells := 0, slots := 0, locals := 0 } s m args below meth c H locs 0 0 (MQ below (va_Qv (fun u => u = R) (fun u => q_E D (tyL k) A (wX10 k a u)) A) args s 0 0 A) (F0 m 0 ls []) := by
  intro σ hs hR H locs ls hW hl
  rw [P_X10_loseLock_b0_e] at hR
  rw [S_X10_loseLock_b0_e] at hs
  obtain ⟨hx, hb, hr, hml, hts, hown, hlocks, hK, hA⟩ := id C0
  have hf7 := hts (.fieldLink RX10 7 "BeatFollowerModel" "at" "[I") (by decide +kernel)
  have hinX10 : ∀ w ∈ u_ws RX10 TX10 18, w ∈ wsX10_loseLock := hin_X10_loseLock_X10
  refine lv_aload_n hx hb dX10_loseLock_0 rfl (lv_at hl 0 rfl) ?_
  refine va_get (v := .ref (a 1)) (C := RX10) (T := TX10) (N := 18) hx hb hts hinX10 hown hK hW.1 0 rfl rfl 0 (by decide) hf7 (fun _ h9 => h9) rfl dX10_loseLock_1 ?_
  refine lv_bipush (v := (17 : Int32)) hx hb dX10_loseLock_4 (by decide) ?_
  refine lv_dup2_11 hx hb dX10_loseLock_6 rfl rfl ?_
  refine q_iald (v := σ 1 17) C0 hW 1 rfl rfl vi_17_672 cl_17 rfl dX10_loseLock_7 ?_
  refine lv_iconst (v := (1 : Int32)) hx hb dX10_loseLock_8 (by decide) ?_
  refine lv_iadd hx hb dX10_loseLock_9 ?_
  refine q_iast (f := σ 1) (wd' := wX10 k a (u2 σ 1 (upd (σ 1) 17 ((σ 1 17) + (1 : Int32))))) C0 hW 1 rfl rfl vi_17_672 cl_17 dX10_loseLock_10 (wX10_s1 k a _ _) (fun H locs hW => ?_)
  refine lv_aload_n hx hb dX10_loseLock_11 rfl (lv_at hl 0 rfl) ?_
  refine va_get (v := .ref (a 1)) (C := RX10) (T := TX10) (N := 18) hx hb hts hinX10 hown hK hW.1 0 rfl rfl 0 (by decide) hf7 (fun _ h9 => h9) rfl dX10_loseLock_12 ?_
  refine lv_bipush (v := (9 : Int32)) hx hb dX10_loseLock_15 (by decide) ?_
  refine lv_iconst (v := (0 : Int32)) hx hb dX10_loseLock_17 (by decide) ?_
  refine q_iast (f := upd (σ 1) 17 ((σ 1 17) + (1 : Int32))) (wd' := wX10 k a (u2 σ 1 (upd (upd (σ 1) 17 ((σ 1 17) + (1 : Int32))) 9 (0 : Int32)))) C0 hW 1 rfl rfl vi_9_672 cl_9 dX10_loseLock_18 ((wX10_s1 k a _ _).trans (congrArg (wX10 k a) (u2_same _ _ _ _))) (fun H locs hW => ?_)
  refine lv_aload_n hx hb dX10_loseLock_19 rfl (lv_at hl 0 rfl) ?_
  refine va_get (v := .ref (a 1)) (C := RX10) (T := TX10) (N := 18) hx hb hts hinX10 hown hK hW.1 0 rfl rfl 0 (by decide) hf7 (fun _ h9 => h9) rfl dX10_loseLock_20 ?_
  refine lv_bipush (v := (19 : Int32)) hx hb dX10_loseLock_23 (by decide) ?_
  refine lv_iconst (v := (0 : Int32)) hx hb dX10_loseLock_25 (by decide) ?_
  refine q_iast (f := upd (upd (σ 1) 17 ((σ 1 17) + (1 : Int32))) 9 (0 : Int32)) (wd' := wX10 k a (u2 σ 1 (upd (upd (upd (σ 1) 17 ((σ 1 17) + (1 : Int32))) 9 (0 : Int32)) 19 (0 : Int32)))) C0 hW 1 rfl rfl vi_19_672 cl_19 dX10_loseLock_26 ((wX10_s1 k a _ _).trans (congrArg (wX10 k a) (u2_same _ _ _ _))) (fun H locs hW => ?_)
  refine lv_aload_n hx hb dX10_loseLock_27 rfl (lv_at hl 0 rfl) ?_
  refine va_get (v := .ref (a 1)) (C := RX10) (T := TX10) (N := 18) hx hb hts hinX10 hown hK hW.1 0 rfl rfl 0 (by decide) hf7 (fun _ h9 => h9) rfl dX10_loseLock_28 ?_
  refine lv_bipush (v := (20 : Int32)) hx hb dX10_loseLock_31 (by decide) ?_
  refine lv_iconst (v := (0 : Int32)) hx hb dX10_loseLock_33 (by decide) ?_
  refine q_iast (f := upd (upd (upd (σ 1) 17 ((σ 1 17) + (1 : Int32))) 9 (0 : Int32)) 19 (0 : Int32)) (wd' := wX10 k a (u2 σ 1 (upd (upd (upd (upd (σ 1) 17 ((σ 1 17) + (1 : Int32))) 9 (0 : Int32)) 19 (0 : Int32)) 20 (0 : Int32)))) C0 hW 1 rfl rfl vi_20_672 cl_20 dX10_loseLock_34 ((wX10_s1 k a _ _).trans (congrArg (wX10 k a) (u2_same _ _ _ _))) (fun H locs hW => ?_)
  exact q_vret C0 hW hR dX10_loseLock_35
set_option maxHeartbeats 4000000 in
set_option maxRecDepth 100000 in
theorem m_X10_loseLock (l : Launch) (D : va_G) (k : Nat → ClassId) (a : Nat → Nat) (sz : Nat) (σ : T2) (hs : S_X10_loseLock σ) : Met l yX10_loseLock wsX10_loseLock { frames := 0, cells := 0, slots := 0, locals := 0 } (va_Pc [.ref (a 0)] (q_B D (tyL k) (wX10 k a σ) sz)) (va_Qv (fun u => u = P_X10_loseLock σ) (fun u => q_E D (tyL k) (va_A (wX10 k a σ) sz) (wX10 k a u)) (va_A (wX10 k a σ) sz)) 0 0 (va_A (wX10 k a σ) sz) := by
  refine q_met [.ref (a 0)] (wX10 k a σ) sz (cc := cX10_loseLock) (maxL := 1) (ret := none) (by decide) rfl (Nat.le_of_ble_eq_true rfl) ?_
  intro p e s m args below meth c ls hsz C0 hW hl hin
  subst hsz
  exact b_X10_loseLock_b0 l D k a _ C0 _ σ  hs rfl s.heap [] ls hW (lv_sub hl [0] rfl)
theorem hd_X10_become : yX10_become.cls = RX10 ∧ yX10_become.cls ≠ "java/lang/invoke/MethodHandle" ∧ yX10_become.cls ≠ "java/lang/invoke/VarHandle" ∧ (parseMethodDescriptor yX10_become.desc).map (fun d => d.parameters.length) = some 5 := by decide +kernel
noncomputable def P_X10_become_b22c (σ : T2) (v1 : Int32) (v5 : Int32) : T2 := P_X10_layB σ v1 (5 : Int32) v5
def S_X10_become_b22c (σ : T2) (v1 : Int32) (v5 : Int32) : Prop := (S_X10_layB σ v1 (5 : Int32) v5) ∧ (True)
theorem P_X10_become_b22c_e (σ : T2) (v1 : Int32) (v5 : Int32) : P_X10_become_b22c σ v1 v5 = P_X10_layB σ v1 (5 : Int32) v5 := rfl
theorem S_X10_become_b22c_e (σ : T2) (v1 : Int32) (v5 : Int32) : S_X10_become_b22c σ v1 v5 = ((S_X10_layB σ v1 (5 : Int32) v5) ∧ (True)) := rfl
noncomputable def P_X10_become_b14c (σ : T2) (v1 : Int32) (v4 : Int32) (v5 : Int32) : T2 := P_X10_become_b22c (P_X10_layB σ v1 (4 : Int32) v4) v1 v5
def S_X10_become_b14c (σ : T2) (v1 : Int32) (v4 : Int32) (v5 : Int32) : Prop := (S_X10_layB σ v1 (4 : Int32) v4) ∧ (S_X10_become_b22c (P_X10_layB σ v1 (4 : Int32) v4) v1 v5)
theorem P_X10_become_b14c_e (σ : T2) (v1 : Int32) (v4 : Int32) (v5 : Int32) : P_X10_become_b14c σ v1 v4 v5 = P_X10_become_b22c (P_X10_layB σ v1 (4 : Int32) v4) v1 v5 := rfl
theorem S_X10_become_b14c_e (σ : T2) (v1 : Int32) (v4 : Int32) (v5 : Int32) : S_X10_become_b14c σ v1 v4 v5 = ((S_X10_layB σ v1 (4 : Int32) v4) ∧ (S_X10_become_b22c (P_X10_layB σ v1 (4 : Int32) v4) v1 v5)) := rfl
noncomputable def P_X10_become_b7c (σ : T2) (v1 : Int32) (v3 : Int32) (v4 : Int32) (v5 : Int32) : T2 := P_X10_become_b14c (P_X10_layB σ v1 (3 : Int32) v3) v1 v4 v5
def S_X10_become_b7c (σ : T2) (v1 : Int32) (v3 : Int32) (v4 : Int32) (v5 : Int32) : Prop := (S_X10_layB σ v1 (3 : Int32) v3) ∧ (S_X10_become_b14c (P_X10_layB σ v1 (3 : Int32) v3) v1 v4 v5)
theorem P_X10_become_b7c_e (σ : T2) (v1 : Int32) (v3 : Int32) (v4 : Int32) (v5 : Int32) : P_X10_become_b7c σ v1 v3 v4 v5 = P_X10_become_b14c (P_X10_layB σ v1 (3 : Int32) v3) v1 v4 v5 := rfl
theorem S_X10_become_b7c_e (σ : T2) (v1 : Int32) (v3 : Int32) (v4 : Int32) (v5 : Int32) : S_X10_become_b7c σ v1 v3 v4 v5 = ((S_X10_layB σ v1 (3 : Int32) v3) ∧ (S_X10_become_b14c (P_X10_layB σ v1 (3 : Int32) v3) v1 v4 v5)) := rfl
noncomputable def P_X10_become_b0 (σ : T2) (v1 : Int32) (v2 : Int32) (v3 : Int32) (v4 : Int32) (v5 : Int32) : T2 := P_X10_become_b7c (P_X10_layB σ v1 (2 : Int32) v2) v1 v3 v4 v5
def S_X10_become_b0 (σ : T2) (v1 : Int32) (v2 : Int32) (v3 : Int32) (v4 : Int32) (v5 : Int32) : Prop := (S_X10_layB σ v1 (2 : Int32) v2) ∧ (S_X10_become_b7c (P_X10_layB σ v1 (2 : Int32) v2) v1 v3 v4 v5)
theorem P_X10_become_b0_e (σ : T2) (v1 : Int32) (v2 : Int32) (v3 : Int32) (v4 : Int32) (v5 : Int32) : P_X10_become_b0 σ v1 v2 v3 v4 v5 = P_X10_become_b7c (P_X10_layB σ v1 (2 : Int32) v2) v1 v3 v4 v5 := rfl
theorem S_X10_become_b0_e (σ : T2) (v1 : Int32) (v2 : Int32) (v3 : Int32) (v4 : Int32) (v5 : Int32) : S_X10_become_b0 σ v1 v2 v3 v4 v5 = ((S_X10_layB σ v1 (2 : Int32) v2) ∧ (S_X10_become_b7c (P_X10_layB σ v1 (2 : Int32) v2) v1 v3 v4 v5)) := rfl
noncomputable def P_X10_become (σ : T2) (p0 : Int32) (p1 : Int32) (p2 : Int32) (p3 : Int32) (p4 : Int32) : T2 := P_X10_become_b0 σ p0 p1 p2 p3 p4
def S_X10_become (σ : T2) (p0 : Int32) (p1 : Int32) (p2 : Int32) (p3 : Int32) (p4 : Int32) : Prop := S_X10_become_b0 σ p0 p1 p2 p3 p4
set_option maxHeartbeats 4000000 in
set_option maxRecDepth 100000 in
theorem b_X10_become_b22c {p : Program} {e : Env} {s : State} {m : MethodId} {args : Array Value} {below : List Frame} {meth : Method} {c : Code} (l : Launch) (D : va_G) (k : Nat → ClassId) (a : Nat → Nat) (A : Nat → Prop) (C0 : q_C p s m meth c args RX10 cX10_become 6 none wsX10_become D (tyL k) A) (R : T2) : ∀ (σ : T2) (v1 : Int32) (v5 : Int32), S_X10_become_b22c σ v1 v5 → P_X10_become_b22c σ v1 v5 = R → ∀ (H : Heap) (locs : List Loc) (ls : Array Slot), q_W D A s.heap (wX10 k a σ) H locs → lv_has ls 6 [(0, .ref (a 0)), (1, .int v1), (5, .int v5)] → W p l e { frames := 1, cells := 0, slots := 0, locals := 23 } s m args below meth c H locs 0 0 (MQ below (va_Qv (fun u => u = R) (fun u => q_E D (tyL k) A (wX10 k a u)) A) args s 0 0 A) (F0 m 22 ls []) := by
  intro σ v1 v5 hs hR H locs ls hW hl
  rw [P_X10_become_b22c_e] at hR
  rw [S_X10_become_b22c_e] at hs
  obtain ⟨hx, hb, hr, hml, hts, hown, hlocks, hK, hA⟩ := id C0
  refine lv_aload_n hx hb dX10_become_22 rfl (lv_at hl 0 rfl) ?_
  refine lv_iload_n hx hb dX10_become_23 rfl (lv_at hl 1 rfl) ?_
  refine lv_iconst (v := (5 : Int32)) hx hb dX10_become_24 (by decide) ?_
  refine lv_iload hx hb dX10_become_25 (lv_at hl 2 rfl) ?_
  have hs4 := hs.1
  have hs := hs.2
  refine q_Vv (As := [.int v1, .int (5 : Int32), .int v5]) (rest := []) (wf := wX10 k a) (R := P_X10_layB σ v1 (5 : Int32) v5) (wd' := wX10 k a (P_X10_layB σ v1 (5 : Int32) v5)) [0, 1, 2, 3, 4, 5, 6, 7, 8] [0, 1, 2, 3] 0 10 C0 hW (m_X10_layB l D k a H.size σ v1 (5 : Int32) v5 hs4) (cwV 3 hts gX10_become_X10_layB rfl rfl rfl hd_X10_layB ⟨Nat.le_of_ble_eq_true rfl, Nat.le_of_ble_eq_true rfl⟩) (by decide) rfl rfl rfl rfl rfl rfl hl rfl rfl (by decide) dX10_become_27 ⟨Nat.le_refl 0, Nat.le_refl 0⟩ (fun H locs hW => ?_)
  exact q_vret C0 hW hR dX10_become_30
set_option maxHeartbeats 4000000 in
set_option maxRecDepth 100000 in
theorem b_X10_become_b14c {p : Program} {e : Env} {s : State} {m : MethodId} {args : Array Value} {below : List Frame} {meth : Method} {c : Code} (l : Launch) (D : va_G) (k : Nat → ClassId) (a : Nat → Nat) (A : Nat → Prop) (C0 : q_C p s m meth c args RX10 cX10_become 6 none wsX10_become D (tyL k) A) (R : T2) : ∀ (σ : T2) (v1 : Int32) (v4 : Int32) (v5 : Int32), S_X10_become_b14c σ v1 v4 v5 → P_X10_become_b14c σ v1 v4 v5 = R → ∀ (H : Heap) (locs : List Loc) (ls : Array Slot), q_W D A s.heap (wX10 k a σ) H locs → lv_has ls 6 [(0, .ref (a 0)), (1, .int v1), (4, .int v4), (5, .int v5)] → W p l e { frames := 1, cells := 0, slots := 0, locals := 23 } s m args below meth c H locs 0 0 (MQ below (va_Qv (fun u => u = R) (fun u => q_E D (tyL k) A (wX10 k a u)) A) args s 0 0 A) (F0 m 14 ls []) := by
  intro σ v1 v4 v5 hs hR H locs ls hW hl
  rw [P_X10_become_b14c_e] at hR
  rw [S_X10_become_b14c_e] at hs
  obtain ⟨hx, hb, hr, hml, hts, hown, hlocks, hK, hA⟩ := id C0
  refine lv_aload_n hx hb dX10_become_14 rfl (lv_at hl 0 rfl) ?_
  refine lv_iload_n hx hb dX10_become_15 rfl (lv_at hl 1 rfl) ?_
  refine lv_iconst (v := (4 : Int32)) hx hb dX10_become_16 (by decide) ?_
  refine lv_iload hx hb dX10_become_17 (lv_at hl 2 rfl) ?_
  have hs3 := hs.1
  have hs := hs.2
  refine q_Vv (As := [.int v1, .int (4 : Int32), .int v4]) (rest := []) (wf := wX10 k a) (R := P_X10_layB σ v1 (4 : Int32) v4) (wd' := wX10 k a (P_X10_layB σ v1 (4 : Int32) v4)) [0, 1, 2, 3, 4, 5, 6, 7, 8] [0, 1, 2, 3] 0 10 C0 hW (m_X10_layB l D k a H.size σ v1 (4 : Int32) v4 hs3) (cwV 3 hts gX10_become_X10_layB rfl rfl rfl hd_X10_layB ⟨Nat.le_of_ble_eq_true rfl, Nat.le_of_ble_eq_true rfl⟩) (by decide) rfl rfl rfl rfl rfl rfl hl rfl rfl (by decide) dX10_become_19 ⟨Nat.le_refl 0, Nat.le_refl 0⟩ (fun H locs hW => ?_)
  exact b_X10_become_b22c l D k a A C0 R (P_X10_layB σ v1 (4 : Int32) v4) v1 v5 hs hR H locs ls hW (lv_sub hl [0, 1, 3] rfl)
set_option maxHeartbeats 4000000 in
set_option maxRecDepth 100000 in
theorem b_X10_become_b7c {p : Program} {e : Env} {s : State} {m : MethodId} {args : Array Value} {below : List Frame} {meth : Method} {c : Code} (l : Launch) (D : va_G) (k : Nat → ClassId) (a : Nat → Nat) (A : Nat → Prop) (C0 : q_C p s m meth c args RX10 cX10_become 6 none wsX10_become D (tyL k) A) (R : T2) : ∀ (σ : T2) (v1 : Int32) (v3 : Int32) (v4 : Int32) (v5 : Int32), S_X10_become_b7c σ v1 v3 v4 v5 → P_X10_become_b7c σ v1 v3 v4 v5 = R → ∀ (H : Heap) (locs : List Loc) (ls : Array Slot), q_W D A s.heap (wX10 k a σ) H locs → lv_has ls 6 [(0, .ref (a 0)), (1, .int v1), (3, .int v3), (4, .int v4), (5, .int v5)] → W p l e { frames := 1, cells := 0, slots := 0, locals := 23 } s m args below meth c H locs 0 0 (MQ below (va_Qv (fun u => u = R) (fun u => q_E D (tyL k) A (wX10 k a u)) A) args s 0 0 A) (F0 m 7 ls []) := by
  intro σ v1 v3 v4 v5 hs hR H locs ls hW hl
  rw [P_X10_become_b7c_e] at hR
  rw [S_X10_become_b7c_e] at hs
  obtain ⟨hx, hb, hr, hml, hts, hown, hlocks, hK, hA⟩ := id C0
  refine lv_aload_n hx hb dX10_become_7 rfl (lv_at hl 0 rfl) ?_
  refine lv_iload_n hx hb dX10_become_8 rfl (lv_at hl 1 rfl) ?_
  refine lv_iconst (v := (3 : Int32)) hx hb dX10_become_9 (by decide) ?_
  refine lv_iload_n hx hb dX10_become_10 rfl (lv_at hl 2 rfl) ?_
  have hs2 := hs.1
  have hs := hs.2
  refine q_Vv (As := [.int v1, .int (3 : Int32), .int v3]) (rest := []) (wf := wX10 k a) (R := P_X10_layB σ v1 (3 : Int32) v3) (wd' := wX10 k a (P_X10_layB σ v1 (3 : Int32) v3)) [0, 1, 2, 3, 4, 5, 6, 7, 8] [0, 1, 2, 3] 0 10 C0 hW (m_X10_layB l D k a H.size σ v1 (3 : Int32) v3 hs2) (cwV 3 hts gX10_become_X10_layB rfl rfl rfl hd_X10_layB ⟨Nat.le_of_ble_eq_true rfl, Nat.le_of_ble_eq_true rfl⟩) (by decide) rfl rfl rfl rfl rfl rfl hl rfl rfl (by decide) dX10_become_11 ⟨Nat.le_refl 0, Nat.le_refl 0⟩ (fun H locs hW => ?_)
  exact b_X10_become_b14c l D k a A C0 R (P_X10_layB σ v1 (3 : Int32) v3) v1 v4 v5 hs hR H locs ls hW (lv_sub hl [0, 1, 3, 4] rfl)
set_option maxHeartbeats 4000000 in
set_option maxRecDepth 100000 in
theorem b_X10_become_b0 {p : Program} {e : Env} {s : State} {m : MethodId} {args : Array Value} {below : List Frame} {meth : Method} {c : Code} (l : Launch) (D : va_G) (k : Nat → ClassId) (a : Nat → Nat) (A : Nat → Prop) (C0 : q_C p s m meth c args RX10 cX10_become 6 none wsX10_become D (tyL k) A) (R : T2) : ∀ (σ : T2) (v1 : Int32) (v2 : Int32) (v3 : Int32) (v4 : Int32) (v5 : Int32), S_X10_become_b0 σ v1 v2 v3 v4 v5 → P_X10_become_b0 σ v1 v2 v3 v4 v5 = R → ∀ (H : Heap) (locs : List Loc) (ls : Array Slot), q_W D A s.heap (wX10 k a σ) H locs → lv_has ls 6 [(0, .ref (a 0)), (1, .int v1), (2, .int v2), (3, .int v3), (4, .int v4), (5, .int v5)] → W p l e { frames := 1, cells := 0, slots := 0, locals := 23 } s m args below meth c H locs 0 0 (MQ below (va_Qv (fun u => u = R) (fun u => q_E D (tyL k) A (wX10 k a u)) A) args s 0 0 A) (F0 m 0 ls []) := by
  intro σ v1 v2 v3 v4 v5 hs hR H locs ls hW hl
  rw [P_X10_become_b0_e] at hR
  rw [S_X10_become_b0_e] at hs
  obtain ⟨hx, hb, hr, hml, hts, hown, hlocks, hK, hA⟩ := id C0
  refine lv_aload_n hx hb dX10_become_0 rfl (lv_at hl 0 rfl) ?_
  refine lv_iload_n hx hb dX10_become_1 rfl (lv_at hl 1 rfl) ?_
  refine lv_iconst (v := (2 : Int32)) hx hb dX10_become_2 (by decide) ?_
  refine lv_iload_n hx hb dX10_become_3 rfl (lv_at hl 2 rfl) ?_
  have hs1 := hs.1
  have hs := hs.2
  refine q_Vv (As := [.int v1, .int (2 : Int32), .int v2]) (rest := []) (wf := wX10 k a) (R := P_X10_layB σ v1 (2 : Int32) v2) (wd' := wX10 k a (P_X10_layB σ v1 (2 : Int32) v2)) [0, 1, 2, 3, 4, 5, 6, 7, 8] [0, 1, 2, 3] 0 10 C0 hW (m_X10_layB l D k a H.size σ v1 (2 : Int32) v2 hs1) (cwV 3 hts gX10_become_X10_layB rfl rfl rfl hd_X10_layB ⟨Nat.le_of_ble_eq_true rfl, Nat.le_of_ble_eq_true rfl⟩) (by decide) rfl rfl rfl rfl rfl rfl hl rfl rfl (by decide) dX10_become_4 ⟨Nat.le_refl 0, Nat.le_refl 0⟩ (fun H locs hW => ?_)
  exact b_X10_become_b7c l D k a A C0 R (P_X10_layB σ v1 (2 : Int32) v2) v1 v3 v4 v5 hs hR H locs ls hW (lv_sub hl [0, 1, 3, 4, 5] rfl)
set_option maxHeartbeats 4000000 in
set_option maxRecDepth 100000 in
theorem m_X10_become (l : Launch) (D : va_G) (k : Nat → ClassId) (a : Nat → Nat) (sz : Nat) (σ : T2) (p0 : Int32) (p1 : Int32) (p2 : Int32) (p3 : Int32) (p4 : Int32) (hs : S_X10_become σ p0 p1 p2 p3 p4) : Met l yX10_become wsX10_become { frames := 1, cells := 0, slots := 0, locals := 23 } (va_Pc [.ref (a 0), .int p0, .int p1, .int p2, .int p3, .int p4] (q_B D (tyL k) (wX10 k a σ) sz)) (va_Qv (fun u => u = P_X10_become σ p0 p1 p2 p3 p4) (fun u => q_E D (tyL k) (va_A (wX10 k a σ) sz) (wX10 k a u)) (va_A (wX10 k a σ) sz)) 0 0 (va_A (wX10 k a σ) sz) := by
  refine q_met [.ref (a 0), .int p0, .int p1, .int p2, .int p3, .int p4] (wX10 k a σ) sz (cc := cX10_become) (maxL := 6) (ret := none) (by decide) rfl (Nat.le_of_ble_eq_true rfl) ?_
  intro p e s m args below meth c ls hsz C0 hW hl hin
  subst hsz
  exact b_X10_become_b0 l D k a _ C0 _ σ p0 p1 p2 p3 p4 hs rfl s.heap [] ls hW (lv_sub hl [0, 1, 2, 3, 4, 5] rfl)
theorem hin_X10_judge_X10 : ∀ w ∈ u_ws RX10 TX10 18, w ∈ wsX10_judge := by decide +kernel
theorem hd_X10_judge : yX10_judge.cls = RX10 ∧ yX10_judge.cls ≠ "java/lang/invoke/MethodHandle" ∧ yX10_judge.cls ≠ "java/lang/invoke/VarHandle" ∧ (parseMethodDescriptor yX10_judge.desc).map (fun d => d.parameters.length) = some 2 := by decide +kernel
noncomputable def P_X10_judge_b98 (σ : T2) : T2 := if (σ 1 9) = 0 then (σ) else (if (σ 1 20) < (σ 1 6) then (σ) else (P_X10_loseLock σ))
def S_X10_judge_b98 (σ : T2) : Prop := ((σ 1 9) = 0 → (True)) ∧ (¬ ((σ 1 9) = 0) → (((σ 1 20) < (σ 1 6) → (True)) ∧ (¬ ((σ 1 20) < (σ 1 6)) → ((S_X10_loseLock σ ) ∧ (True)))))
theorem P_X10_judge_b98_e (σ : T2) : P_X10_judge_b98 σ = if (σ 1 9) = 0 then (σ) else (if (σ 1 20) < (σ 1 6) then (σ) else (P_X10_loseLock σ)) := rfl
theorem S_X10_judge_b98_e (σ : T2) : S_X10_judge_b98 σ = (((σ 1 9) = 0 → (True)) ∧ (¬ ((σ 1 9) = 0) → (((σ 1 20) < (σ 1 6) → (True)) ∧ (¬ ((σ 1 20) < (σ 1 6)) → ((S_X10_loseLock σ ) ∧ (True)))))) := rfl
noncomputable def P_X10_judge_b47 (σ : T2) (v2 : Int32) (t0 : Int32) (t1 : Int32) : T2 := if ((upd (σ 1) t1.toNatClampNeg t0) 9) = (1 : Int32) then (P_X10_judge_b98 (u2 σ 1 (upd (σ 1) t1.toNatClampNeg t0))) else (if v2 = 0 then (P_X10_judge_b98 (u2 σ 1 (upd (σ 1) t1.toNatClampNeg t0))) else (if ((upd (σ 1) t1.toNatClampNeg t0) 19) < ((upd (σ 1) t1.toNatClampNeg t0) 5) then (P_X10_judge_b98 (u2 σ 1 (upd (σ 1) t1.toNatClampNeg t0))) else (P_X10_judge_b98 (u2 σ 1 (upd (upd (upd (σ 1) t1.toNatClampNeg t0) 9 (1 : Int32)) 16 (((upd (upd (σ 1) t1.toNatClampNeg t0) 9 (1 : Int32)) 16) + (1 : Int32)))))))
def S_X10_judge_b47 (σ : T2) (v2 : Int32) (t0 : Int32) (t1 : Int32) : Prop := (vp_in t1 672) ∧ ((((upd (σ 1) t1.toNatClampNeg t0) 9) = (1 : Int32) → (S_X10_judge_b98 (u2 σ 1 (upd (σ 1) t1.toNatClampNeg t0)))) ∧ (¬ (((upd (σ 1) t1.toNatClampNeg t0) 9) = (1 : Int32)) → ((v2 = 0 → (S_X10_judge_b98 (u2 σ 1 (upd (σ 1) t1.toNatClampNeg t0)))) ∧ (¬ (v2 = 0) → ((((upd (σ 1) t1.toNatClampNeg t0) 19) < ((upd (σ 1) t1.toNatClampNeg t0) 5) → (S_X10_judge_b98 (u2 σ 1 (upd (σ 1) t1.toNatClampNeg t0)))) ∧ (¬ (((upd (σ 1) t1.toNatClampNeg t0) 19) < ((upd (σ 1) t1.toNatClampNeg t0) 5)) → (S_X10_judge_b98 (u2 σ 1 (upd (upd (upd (σ 1) t1.toNatClampNeg t0) 9 (1 : Int32)) 16 (((upd (upd (σ 1) t1.toNatClampNeg t0) 9 (1 : Int32)) 16) + (1 : Int32)))))))))))
theorem P_X10_judge_b47_e (σ : T2) (v2 : Int32) (t0 : Int32) (t1 : Int32) : P_X10_judge_b47 σ v2 t0 t1 = if ((upd (σ 1) t1.toNatClampNeg t0) 9) = (1 : Int32) then (P_X10_judge_b98 (u2 σ 1 (upd (σ 1) t1.toNatClampNeg t0))) else (if v2 = 0 then (P_X10_judge_b98 (u2 σ 1 (upd (σ 1) t1.toNatClampNeg t0))) else (if ((upd (σ 1) t1.toNatClampNeg t0) 19) < ((upd (σ 1) t1.toNatClampNeg t0) 5) then (P_X10_judge_b98 (u2 σ 1 (upd (σ 1) t1.toNatClampNeg t0))) else (P_X10_judge_b98 (u2 σ 1 (upd (upd (upd (σ 1) t1.toNatClampNeg t0) 9 (1 : Int32)) 16 (((upd (upd (σ 1) t1.toNatClampNeg t0) 9 (1 : Int32)) 16) + (1 : Int32))))))) := rfl
theorem S_X10_judge_b47_e (σ : T2) (v2 : Int32) (t0 : Int32) (t1 : Int32) : S_X10_judge_b47 σ v2 t0 t1 = ((vp_in t1 672) ∧ ((((upd (σ 1) t1.toNatClampNeg t0) 9) = (1 : Int32) → (S_X10_judge_b98 (u2 σ 1 (upd (σ 1) t1.toNatClampNeg t0)))) ∧ (¬ (((upd (σ 1) t1.toNatClampNeg t0) 9) = (1 : Int32)) → ((v2 = 0 → (S_X10_judge_b98 (u2 σ 1 (upd (σ 1) t1.toNatClampNeg t0)))) ∧ (¬ (v2 = 0) → ((((upd (σ 1) t1.toNatClampNeg t0) 19) < ((upd (σ 1) t1.toNatClampNeg t0) 5) → (S_X10_judge_b98 (u2 σ 1 (upd (σ 1) t1.toNatClampNeg t0)))) ∧ (¬ (((upd (σ 1) t1.toNatClampNeg t0) 19) < ((upd (σ 1) t1.toNatClampNeg t0) 5)) → (S_X10_judge_b98 (u2 σ 1 (upd (upd (upd (σ 1) t1.toNatClampNeg t0) 9 (1 : Int32)) 16 (((upd (upd (σ 1) t1.toNatClampNeg t0) 9 (1 : Int32)) 16) + (1 : Int32)))))))))))) := rfl
noncomputable def P_X10_judge_b23 (σ : T2) (v1 : Int32) (v2 : Int32) (t0 : Int32) (t1 : Int32) : T2 := if v1 = 0 then (P_X10_judge_b47 (u2 σ 1 (upd (σ 1) t1.toNatClampNeg t0)) v2 (((upd (σ 1) t1.toNatClampNeg t0) 20) + (1 : Int32)) (20 : Int32)) else (P_X10_judge_b47 (u2 σ 1 (upd (σ 1) t1.toNatClampNeg t0)) v2 (0 : Int32) (20 : Int32))
def S_X10_judge_b23 (σ : T2) (v1 : Int32) (v2 : Int32) (t0 : Int32) (t1 : Int32) : Prop := (vp_in t1 672) ∧ ((v1 = 0 → (S_X10_judge_b47 (u2 σ 1 (upd (σ 1) t1.toNatClampNeg t0)) v2 (((upd (σ 1) t1.toNatClampNeg t0) 20) + (1 : Int32)) (20 : Int32))) ∧ (¬ (v1 = 0) → (S_X10_judge_b47 (u2 σ 1 (upd (σ 1) t1.toNatClampNeg t0)) v2 (0 : Int32) (20 : Int32))))
theorem P_X10_judge_b23_e (σ : T2) (v1 : Int32) (v2 : Int32) (t0 : Int32) (t1 : Int32) : P_X10_judge_b23 σ v1 v2 t0 t1 = if v1 = 0 then (P_X10_judge_b47 (u2 σ 1 (upd (σ 1) t1.toNatClampNeg t0)) v2 (((upd (σ 1) t1.toNatClampNeg t0) 20) + (1 : Int32)) (20 : Int32)) else (P_X10_judge_b47 (u2 σ 1 (upd (σ 1) t1.toNatClampNeg t0)) v2 (0 : Int32) (20 : Int32)) := rfl
theorem S_X10_judge_b23_e (σ : T2) (v1 : Int32) (v2 : Int32) (t0 : Int32) (t1 : Int32) : S_X10_judge_b23 σ v1 v2 t0 t1 = ((vp_in t1 672) ∧ ((v1 = 0 → (S_X10_judge_b47 (u2 σ 1 (upd (σ 1) t1.toNatClampNeg t0)) v2 (((upd (σ 1) t1.toNatClampNeg t0) 20) + (1 : Int32)) (20 : Int32))) ∧ (¬ (v1 = 0) → (S_X10_judge_b47 (u2 σ 1 (upd (σ 1) t1.toNatClampNeg t0)) v2 (0 : Int32) (20 : Int32))))) := rfl
noncomputable def P_X10_judge_b0 (σ : T2) (v1 : Int32) (v2 : Int32) : T2 := if v1 = 0 then (P_X10_judge_b23 σ v1 v2 (0 : Int32) (19 : Int32)) else (P_X10_judge_b23 σ v1 v2 ((σ 1 19) + (1 : Int32)) (19 : Int32))
def S_X10_judge_b0 (σ : T2) (v1 : Int32) (v2 : Int32) : Prop := (v1 = 0 → (S_X10_judge_b23 σ v1 v2 (0 : Int32) (19 : Int32))) ∧ (¬ (v1 = 0) → (S_X10_judge_b23 σ v1 v2 ((σ 1 19) + (1 : Int32)) (19 : Int32)))
theorem P_X10_judge_b0_e (σ : T2) (v1 : Int32) (v2 : Int32) : P_X10_judge_b0 σ v1 v2 = if v1 = 0 then (P_X10_judge_b23 σ v1 v2 (0 : Int32) (19 : Int32)) else (P_X10_judge_b23 σ v1 v2 ((σ 1 19) + (1 : Int32)) (19 : Int32)) := rfl
theorem S_X10_judge_b0_e (σ : T2) (v1 : Int32) (v2 : Int32) : S_X10_judge_b0 σ v1 v2 = ((v1 = 0 → (S_X10_judge_b23 σ v1 v2 (0 : Int32) (19 : Int32))) ∧ (¬ (v1 = 0) → (S_X10_judge_b23 σ v1 v2 ((σ 1 19) + (1 : Int32)) (19 : Int32)))) := rfl
noncomputable def P_X10_judge (σ : T2) (p0 : Int32) (p1 : Int32) : T2 := P_X10_judge_b0 σ p0 p1
def S_X10_judge (σ : T2) (p0 : Int32) (p1 : Int32) : Prop := S_X10_judge_b0 σ p0 p1
set_option maxHeartbeats 4000000 in
set_option maxRecDepth 100000 in
theorem b_X10_judge_b98 {p : Program} {e : Env} {s : State} {m : MethodId} {args : Array Value} {below : List Frame} {meth : Method} {c : Code} (l : Launch) (D : va_G) (k : Nat → ClassId) (a : Nat → Nat) (A : Nat → Prop) (C0 : q_C p s m meth c args RX10 cX10_judge 3 none wsX10_judge D (tyL k) A) (R : T2) : ∀ (σ : T2), S_X10_judge_b98 σ → P_X10_judge_b98 σ = R → ∀ (H : Heap) (locs : List Loc) (ls : Array Slot), q_W D A s.heap (wX10 k a σ) H locs → lv_has ls 3 [(0, .ref (a 0))] → W p l e { frames := 1, cells := 0, slots := 0, locals := 20 } s m args below meth c H locs 0 0 (MQ below (va_Qv (fun u => u = R) (fun u => q_E D (tyL k) A (wX10 k a u)) A) args s 0 0 A) (F0 m 98 ls []) := by
  intro σ hs hR H locs ls hW hl
  rw [P_X10_judge_b98_e] at hR
  rw [S_X10_judge_b98_e] at hs
  obtain ⟨hx, hb, hr, hml, hts, hown, hlocks, hK, hA⟩ := id C0
  have hf7 := hts (.fieldLink RX10 7 "BeatFollowerModel" "at" "[I") (by decide +kernel)
  have hinX10 : ∀ w ∈ u_ws RX10 TX10 18, w ∈ wsX10_judge := hin_X10_judge_X10
  refine lv_aload_n hx hb dX10_judge_98 rfl (lv_at hl 0 rfl) ?_
  refine va_get (v := .ref (a 1)) (C := RX10) (T := TX10) (N := 18) hx hb hts hinX10 hown hK hW.1 0 rfl rfl 0 (by decide) hf7 (fun _ h9 => h9) rfl dX10_judge_99 ?_
  refine lv_bipush (v := (9 : Int32)) hx hb dX10_judge_102 (by decide) ?_
  refine q_iald (v := σ 1 9) C0 hW 1 rfl rfl vi_9_672 cl_9 rfl dX10_judge_104 ?_
  refine lv_if_eq (tgt := 129) hx hb dX10_judge_105 (by decide) (fun c_6 => ?_) (fun c_6 => ?_)
  · have hs := hs.1 c_6
    rw [if_pos c_6] at hR
    exact q_vret C0 hW hR dX10_judge_129
  · have hs := hs.2 c_6
    rw [if_neg c_6] at hR
    refine lv_aload_n hx hb dX10_judge_108 rfl (lv_at hl 0 rfl) ?_
    refine va_get (v := .ref (a 1)) (C := RX10) (T := TX10) (N := 18) hx hb hts hinX10 hown hK hW.1 0 rfl rfl 0 (by decide) hf7 (fun _ h9 => h9) rfl dX10_judge_109 ?_
    refine lv_bipush (v := (20 : Int32)) hx hb dX10_judge_112 (by decide) ?_
    refine q_iald (v := σ 1 20) C0 hW 1 rfl rfl vi_20_672 cl_20 rfl dX10_judge_114 ?_
    refine lv_aload_n hx hb dX10_judge_115 rfl (lv_at hl 0 rfl) ?_
    refine va_get (v := .ref (a 1)) (C := RX10) (T := TX10) (N := 18) hx hb hts hinX10 hown hK hW.1 0 rfl rfl 0 (by decide) hf7 (fun _ h9 => h9) rfl dX10_judge_116 ?_
    refine lv_bipush (v := (6 : Int32)) hx hb dX10_judge_119 (by decide) ?_
    refine q_iald (v := σ 1 6) C0 hW 1 rfl rfl vi_6_672 cl_6 rfl dX10_judge_121 ?_
    refine lv_icmp_lt (tgt := 129) hx hb dX10_judge_122 (by decide) (fun c_7 => ?_) (fun c_7 => ?_)
    · have hs := hs.1 c_7
      rw [if_pos c_7] at hR
      exact q_vret C0 hW hR dX10_judge_129
    · have hs := hs.2 c_7
      rw [if_neg c_7] at hR
      refine lv_aload_n hx hb dX10_judge_125 rfl (lv_at hl 0 rfl) ?_
      have hs8 := hs.1
      have hs := hs.2
      refine q_Vv (As := []) (rest := []) (wf := wX10 k a) (R := P_X10_loseLock σ) (wd' := wX10 k a (P_X10_loseLock σ)) [0, 1, 2, 3, 4, 5, 6, 7, 8] [0, 1, 2, 3] 0 10 C0 hW (m_X10_loseLock l D k a H.size σ  hs8) (cwV 0 hts gX10_judge_X10_loseLock rfl rfl rfl hd_X10_loseLock ⟨Nat.le_of_ble_eq_true rfl, Nat.le_of_ble_eq_true rfl⟩) (by decide) rfl rfl rfl rfl rfl rfl hl rfl rfl (by decide) dX10_judge_126 ⟨Nat.le_refl 0, Nat.le_refl 0⟩ (fun H locs hW => ?_)
      exact q_vret C0 hW hR dX10_judge_129
set_option maxHeartbeats 4000000 in
set_option maxRecDepth 100000 in
theorem b_X10_judge_b47 {p : Program} {e : Env} {s : State} {m : MethodId} {args : Array Value} {below : List Frame} {meth : Method} {c : Code} (l : Launch) (D : va_G) (k : Nat → ClassId) (a : Nat → Nat) (A : Nat → Prop) (C0 : q_C p s m meth c args RX10 cX10_judge 3 none wsX10_judge D (tyL k) A) (R : T2) : ∀ (σ : T2) (v2 : Int32) (t0 : Int32) (t1 : Int32), S_X10_judge_b47 σ v2 t0 t1 → P_X10_judge_b47 σ v2 t0 t1 = R → ∀ (H : Heap) (locs : List Loc) (ls : Array Slot), q_W D A s.heap (wX10 k a σ) H locs → lv_has ls 3 [(0, .ref (a 0)), (2, .int v2)] → W p l e { frames := 1, cells := 0, slots := 0, locals := 20 } s m args below meth c H locs 0 0 (MQ below (va_Qv (fun u => u = R) (fun u => q_E D (tyL k) A (wX10 k a u)) A) args s 0 0 A) (F0 m 47 ls [.int t0, .int t1, .ref (a 1)]) := by
  intro σ v2 t0 t1 hs hR H locs ls hW hl
  rw [P_X10_judge_b47_e] at hR
  rw [S_X10_judge_b47_e] at hs
  obtain ⟨hx, hb, hr, hml, hts, hown, hlocks, hK, hA⟩ := id C0
  have hf7 := hts (.fieldLink RX10 7 "BeatFollowerModel" "at" "[I") (by decide +kernel)
  have hinX10 : ∀ w ∈ u_ws RX10 TX10 18, w ∈ wsX10_judge := hin_X10_judge_X10
  have hi4 := hs.1
  have hs := hs.2
  refine q_iast (f := σ 1) (wd' := wX10 k a (u2 σ 1 (upd (σ 1) t1.toNatClampNeg t0))) C0 hW 1 rfl rfl hi4 rfl dX10_judge_47 (wX10_s1 k a _ _) (fun H locs hW => ?_)
  refine lv_aload_n hx hb dX10_judge_48 rfl (lv_at hl 0 rfl) ?_
  refine va_get (v := .ref (a 1)) (C := RX10) (T := TX10) (N := 18) hx hb hts hinX10 hown hK hW.1 0 rfl rfl 0 (by decide) hf7 (fun _ h9 => h9) rfl dX10_judge_49 ?_
  refine lv_bipush (v := (9 : Int32)) hx hb dX10_judge_52 (by decide) ?_
  refine q_iald (v := (upd (σ 1) t1.toNatClampNeg t0) 9) C0 hW 1 rfl rfl vi_9_672 cl_9 rfl dX10_judge_54 ?_
  refine lv_iconst (v := (1 : Int32)) hx hb dX10_judge_55 (by decide) ?_
  refine lv_icmp_eq (tgt := 98) hx hb dX10_judge_56 (by decide) (fun c_5 => ?_) (fun c_5 => ?_)
  · have hs := hs.1 c_5
    rw [if_pos c_5] at hR
    exact b_X10_judge_b98 l D k a A C0 R (u2 σ 1 (upd (σ 1) t1.toNatClampNeg t0)) hs hR H locs ls hW (lv_sub hl [0] rfl)
  · have hs := hs.2 c_5
    rw [if_neg c_5] at hR
    refine lv_iload_n hx hb dX10_judge_59 rfl (lv_at hl 1 rfl) ?_
    refine lv_if_eq (tgt := 98) hx hb dX10_judge_60 (by decide) (fun c_9 => ?_) (fun c_9 => ?_)
    · have hs := hs.1 c_9
      rw [if_pos c_9] at hR
      exact b_X10_judge_b98 l D k a A C0 R (u2 σ 1 (upd (σ 1) t1.toNatClampNeg t0)) hs hR H locs ls hW (lv_sub hl [0] rfl)
    · have hs := hs.2 c_9
      rw [if_neg c_9] at hR
      refine lv_aload_n hx hb dX10_judge_63 rfl (lv_at hl 0 rfl) ?_
      refine va_get (v := .ref (a 1)) (C := RX10) (T := TX10) (N := 18) hx hb hts hinX10 hown hK hW.1 0 rfl rfl 0 (by decide) hf7 (fun _ h9 => h9) rfl dX10_judge_64 ?_
      refine lv_bipush (v := (19 : Int32)) hx hb dX10_judge_67 (by decide) ?_
      refine q_iald (v := (upd (σ 1) t1.toNatClampNeg t0) 19) C0 hW 1 rfl rfl vi_19_672 cl_19 rfl dX10_judge_69 ?_
      refine lv_aload_n hx hb dX10_judge_70 rfl (lv_at hl 0 rfl) ?_
      refine va_get (v := .ref (a 1)) (C := RX10) (T := TX10) (N := 18) hx hb hts hinX10 hown hK hW.1 0 rfl rfl 0 (by decide) hf7 (fun _ h9 => h9) rfl dX10_judge_71 ?_
      refine lv_iconst (v := (5 : Int32)) hx hb dX10_judge_74 (by decide) ?_
      refine q_iald (v := (upd (σ 1) t1.toNatClampNeg t0) 5) C0 hW 1 rfl rfl vi_5_672 cl_5 rfl dX10_judge_75 ?_
      refine lv_icmp_lt (tgt := 98) hx hb dX10_judge_76 (by decide) (fun c_10 => ?_) (fun c_10 => ?_)
      · have hs := hs.1 c_10
        rw [if_pos c_10] at hR
        exact b_X10_judge_b98 l D k a A C0 R (u2 σ 1 (upd (σ 1) t1.toNatClampNeg t0)) hs hR H locs ls hW (lv_sub hl [0] rfl)
      · have hs := hs.2 c_10
        rw [if_neg c_10] at hR
        refine lv_aload_n hx hb dX10_judge_79 rfl (lv_at hl 0 rfl) ?_
        refine va_get (v := .ref (a 1)) (C := RX10) (T := TX10) (N := 18) hx hb hts hinX10 hown hK hW.1 0 rfl rfl 0 (by decide) hf7 (fun _ h9 => h9) rfl dX10_judge_80 ?_
        refine lv_bipush (v := (9 : Int32)) hx hb dX10_judge_83 (by decide) ?_
        refine lv_iconst (v := (1 : Int32)) hx hb dX10_judge_85 (by decide) ?_
        refine q_iast (f := upd (σ 1) t1.toNatClampNeg t0) (wd' := wX10 k a (u2 σ 1 (upd (upd (σ 1) t1.toNatClampNeg t0) 9 (1 : Int32)))) C0 hW 1 rfl rfl vi_9_672 cl_9 dX10_judge_86 ((wX10_s1 k a _ _).trans (congrArg (wX10 k a) (u2_same _ _ _ _))) (fun H locs hW => ?_)
        refine lv_aload_n hx hb dX10_judge_87 rfl (lv_at hl 0 rfl) ?_
        refine va_get (v := .ref (a 1)) (C := RX10) (T := TX10) (N := 18) hx hb hts hinX10 hown hK hW.1 0 rfl rfl 0 (by decide) hf7 (fun _ h9 => h9) rfl dX10_judge_88 ?_
        refine lv_bipush (v := (16 : Int32)) hx hb dX10_judge_91 (by decide) ?_
        refine lv_dup2_11 hx hb dX10_judge_93 rfl rfl ?_
        refine q_iald (v := (upd (upd (σ 1) t1.toNatClampNeg t0) 9 (1 : Int32)) 16) C0 hW 1 rfl rfl vi_16_672 cl_16 rfl dX10_judge_94 ?_
        refine lv_iconst (v := (1 : Int32)) hx hb dX10_judge_95 (by decide) ?_
        refine lv_iadd hx hb dX10_judge_96 ?_
        refine q_iast (f := upd (upd (σ 1) t1.toNatClampNeg t0) 9 (1 : Int32)) (wd' := wX10 k a (u2 σ 1 (upd (upd (upd (σ 1) t1.toNatClampNeg t0) 9 (1 : Int32)) 16 (((upd (upd (σ 1) t1.toNatClampNeg t0) 9 (1 : Int32)) 16) + (1 : Int32))))) C0 hW 1 rfl rfl vi_16_672 cl_16 dX10_judge_97 ((wX10_s1 k a _ _).trans (congrArg (wX10 k a) (u2_same _ _ _ _))) (fun H locs hW => ?_)
        exact b_X10_judge_b98 l D k a A C0 R (u2 σ 1 (upd (upd (upd (σ 1) t1.toNatClampNeg t0) 9 (1 : Int32)) 16 (((upd (upd (σ 1) t1.toNatClampNeg t0) 9 (1 : Int32)) 16) + (1 : Int32)))) hs hR H locs ls hW (lv_sub hl [0] rfl)
set_option maxHeartbeats 4000000 in
set_option maxRecDepth 100000 in
theorem b_X10_judge_b23 {p : Program} {e : Env} {s : State} {m : MethodId} {args : Array Value} {below : List Frame} {meth : Method} {c : Code} (l : Launch) (D : va_G) (k : Nat → ClassId) (a : Nat → Nat) (A : Nat → Prop) (C0 : q_C p s m meth c args RX10 cX10_judge 3 none wsX10_judge D (tyL k) A) (R : T2) : ∀ (σ : T2) (v1 : Int32) (v2 : Int32) (t0 : Int32) (t1 : Int32), S_X10_judge_b23 σ v1 v2 t0 t1 → P_X10_judge_b23 σ v1 v2 t0 t1 = R → ∀ (H : Heap) (locs : List Loc) (ls : Array Slot), q_W D A s.heap (wX10 k a σ) H locs → lv_has ls 3 [(0, .ref (a 0)), (1, .int v1), (2, .int v2)] → W p l e { frames := 1, cells := 0, slots := 0, locals := 20 } s m args below meth c H locs 0 0 (MQ below (va_Qv (fun u => u = R) (fun u => q_E D (tyL k) A (wX10 k a u)) A) args s 0 0 A) (F0 m 23 ls [.int t0, .int t1, .ref (a 1)]) := by
  intro σ v1 v2 t0 t1 hs hR H locs ls hW hl
  rw [P_X10_judge_b23_e] at hR
  rw [S_X10_judge_b23_e] at hs
  obtain ⟨hx, hb, hr, hml, hts, hown, hlocks, hK, hA⟩ := id C0
  have hf7 := hts (.fieldLink RX10 7 "BeatFollowerModel" "at" "[I") (by decide +kernel)
  have hinX10 : ∀ w ∈ u_ws RX10 TX10 18, w ∈ wsX10_judge := hin_X10_judge_X10
  have hi2 := hs.1
  have hs := hs.2
  refine q_iast (f := σ 1) (wd' := wX10 k a (u2 σ 1 (upd (σ 1) t1.toNatClampNeg t0))) C0 hW 1 rfl rfl hi2 rfl dX10_judge_23 (wX10_s1 k a _ _) (fun H locs hW => ?_)
  refine lv_aload_n hx hb dX10_judge_24 rfl (lv_at hl 0 rfl) ?_
  refine va_get (v := .ref (a 1)) (C := RX10) (T := TX10) (N := 18) hx hb hts hinX10 hown hK hW.1 0 rfl rfl 0 (by decide) hf7 (fun _ h9 => h9) rfl dX10_judge_25 ?_
  refine lv_bipush (v := (20 : Int32)) hx hb dX10_judge_28 (by decide) ?_
  refine lv_iload_n hx hb dX10_judge_30 rfl (lv_at hl 1 rfl) ?_
  refine lv_if_eq (tgt := 38) hx hb dX10_judge_31 (by decide) (fun c_3 => ?_) (fun c_3 => ?_)
  · have hs := hs.1 c_3
    rw [if_pos c_3] at hR
    refine lv_aload_n hx hb dX10_judge_38 rfl (lv_at hl 0 rfl) ?_
    refine va_get (v := .ref (a 1)) (C := RX10) (T := TX10) (N := 18) hx hb hts hinX10 hown hK hW.1 0 rfl rfl 0 (by decide) hf7 (fun _ h9 => h9) rfl dX10_judge_39 ?_
    refine lv_bipush (v := (20 : Int32)) hx hb dX10_judge_42 (by decide) ?_
    refine q_iald (v := (upd (σ 1) t1.toNatClampNeg t0) 20) C0 hW 1 rfl rfl vi_20_672 cl_20 rfl dX10_judge_44 ?_
    refine lv_iconst (v := (1 : Int32)) hx hb dX10_judge_45 (by decide) ?_
    refine lv_iadd hx hb dX10_judge_46 ?_
    exact b_X10_judge_b47 l D k a A C0 R (u2 σ 1 (upd (σ 1) t1.toNatClampNeg t0)) v2 (((upd (σ 1) t1.toNatClampNeg t0) 20) + (1 : Int32)) (20 : Int32) hs hR H locs ls hW (lv_sub hl [0, 2] rfl)
  · have hs := hs.2 c_3
    rw [if_neg c_3] at hR
    refine lv_iconst (v := (0 : Int32)) hx hb dX10_judge_34 (by decide) ?_
    refine lv_goto (tgt := 47) hx hb dX10_judge_35 (by decide) ?_
    exact b_X10_judge_b47 l D k a A C0 R (u2 σ 1 (upd (σ 1) t1.toNatClampNeg t0)) v2 (0 : Int32) (20 : Int32) hs hR H locs ls hW (lv_sub hl [0, 2] rfl)
set_option maxHeartbeats 4000000 in
set_option maxRecDepth 100000 in
theorem b_X10_judge_b0 {p : Program} {e : Env} {s : State} {m : MethodId} {args : Array Value} {below : List Frame} {meth : Method} {c : Code} (l : Launch) (D : va_G) (k : Nat → ClassId) (a : Nat → Nat) (A : Nat → Prop) (C0 : q_C p s m meth c args RX10 cX10_judge 3 none wsX10_judge D (tyL k) A) (R : T2) : ∀ (σ : T2) (v1 : Int32) (v2 : Int32), S_X10_judge_b0 σ v1 v2 → P_X10_judge_b0 σ v1 v2 = R → ∀ (H : Heap) (locs : List Loc) (ls : Array Slot), q_W D A s.heap (wX10 k a σ) H locs → lv_has ls 3 [(0, .ref (a 0)), (1, .int v1), (2, .int v2)] → W p l e { frames := 1, cells := 0, slots := 0, locals := 20 } s m args below meth c H locs 0 0 (MQ below (va_Qv (fun u => u = R) (fun u => q_E D (tyL k) A (wX10 k a u)) A) args s 0 0 A) (F0 m 0 ls []) := by
  intro σ v1 v2 hs hR H locs ls hW hl
  rw [P_X10_judge_b0_e] at hR
  rw [S_X10_judge_b0_e] at hs
  obtain ⟨hx, hb, hr, hml, hts, hown, hlocks, hK, hA⟩ := id C0
  have hf7 := hts (.fieldLink RX10 7 "BeatFollowerModel" "at" "[I") (by decide +kernel)
  have hinX10 : ∀ w ∈ u_ws RX10 TX10 18, w ∈ wsX10_judge := hin_X10_judge_X10
  refine lv_aload_n hx hb dX10_judge_0 rfl (lv_at hl 0 rfl) ?_
  refine va_get (v := .ref (a 1)) (C := RX10) (T := TX10) (N := 18) hx hb hts hinX10 hown hK hW.1 0 rfl rfl 0 (by decide) hf7 (fun _ h9 => h9) rfl dX10_judge_1 ?_
  refine lv_bipush (v := (19 : Int32)) hx hb dX10_judge_4 (by decide) ?_
  refine lv_iload_n hx hb dX10_judge_6 rfl (lv_at hl 1 rfl) ?_
  refine lv_if_eq (tgt := 22) hx hb dX10_judge_7 (by decide) (fun c_1 => ?_) (fun c_1 => ?_)
  · have hs := hs.1 c_1
    rw [if_pos c_1] at hR
    refine lv_iconst (v := (0 : Int32)) hx hb dX10_judge_22 (by decide) ?_
    exact b_X10_judge_b23 l D k a A C0 R σ v1 v2 (0 : Int32) (19 : Int32) hs hR H locs ls hW (lv_sub hl [0, 1, 2] rfl)
  · have hs := hs.2 c_1
    rw [if_neg c_1] at hR
    refine lv_aload_n hx hb dX10_judge_10 rfl (lv_at hl 0 rfl) ?_
    refine va_get (v := .ref (a 1)) (C := RX10) (T := TX10) (N := 18) hx hb hts hinX10 hown hK hW.1 0 rfl rfl 0 (by decide) hf7 (fun _ h9 => h9) rfl dX10_judge_11 ?_
    refine lv_bipush (v := (19 : Int32)) hx hb dX10_judge_14 (by decide) ?_
    refine q_iald (v := σ 1 19) C0 hW 1 rfl rfl vi_19_672 cl_19 rfl dX10_judge_16 ?_
    refine lv_iconst (v := (1 : Int32)) hx hb dX10_judge_17 (by decide) ?_
    refine lv_iadd hx hb dX10_judge_18 ?_
    refine lv_goto (tgt := 23) hx hb dX10_judge_19 (by decide) ?_
    exact b_X10_judge_b23 l D k a A C0 R σ v1 v2 ((σ 1 19) + (1 : Int32)) (19 : Int32) hs hR H locs ls hW (lv_sub hl [0, 1, 2] rfl)
set_option maxHeartbeats 4000000 in
set_option maxRecDepth 100000 in
theorem m_X10_judge (l : Launch) (D : va_G) (k : Nat → ClassId) (a : Nat → Nat) (sz : Nat) (σ : T2) (p0 : Int32) (p1 : Int32) (hs : S_X10_judge σ p0 p1) : Met l yX10_judge wsX10_judge { frames := 1, cells := 0, slots := 0, locals := 20 } (va_Pc [.ref (a 0), .int p0, .int p1] (q_B D (tyL k) (wX10 k a σ) sz)) (va_Qv (fun u => u = P_X10_judge σ p0 p1) (fun u => q_E D (tyL k) (va_A (wX10 k a σ) sz) (wX10 k a u)) (va_A (wX10 k a σ) sz)) 0 0 (va_A (wX10 k a σ) sz) := by
  refine q_met [.ref (a 0), .int p0, .int p1] (wX10 k a σ) sz (cc := cX10_judge) (maxL := 3) (ret := none) (by decide) rfl (Nat.le_of_ble_eq_true rfl) ?_
  intro p e s m args below meth c ls hsz C0 hW hl hin
  subst hsz
  exact b_X10_judge_b0 l D k a _ C0 _ σ p0 p1 hs rfl s.heap [] ls hW (lv_sub hl [0, 1, 2] rfl)
end
