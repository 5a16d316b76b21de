section
-- ===== PART A: goes FIRST, ahead of the names: the tables' words, and 'selects' of the private methods out of them =====
/-- a private method of a class that the tables say can be made, by its rows of tables_1 -/
def lw_okq (q : MethodName × Nat) : Prop := (q.1.cls ≠ "java/lang/invoke/MethodHandle" ∧ q.1.cls ≠ "java/lang/invoke/VarHandle") ∧ Cond.instantiable q.1.cls q.2 ∈ tables_1 ∧ Cond.privateMethod q.1 ∈ tables_1 ∧ Cond.instanceMethod q.1 ∈ tables_1
theorem lw_p0 : lw_okq (⟨"PlotKernel", "carriageY", "()I"⟩, 19) := ⟨⟨by decide +kernel, by decide +kernel⟩, List.mem_of_getElem? (i := 20) (by decide +kernel), List.mem_of_getElem? (i := 152) (by decide +kernel), List.mem_of_getElem? (i := 153) (by decide +kernel)⟩
theorem lw_p1 : lw_okq (⟨"PlotKernel", "firstCommand", "()LPlotKernel$Command;"⟩, 19) := ⟨⟨by decide +kernel, by decide +kernel⟩, List.mem_of_getElem? (i := 20) (by decide +kernel), List.mem_of_getElem? (i := 156) (by decide +kernel), List.mem_of_getElem? (i := 157) (by decide +kernel)⟩
theorem lw_p2 : lw_okq (⟨"PlotKernel$Command", "wayY", "(I)I"⟩, 4) := ⟨⟨by decide +kernel, by decide +kernel⟩, List.mem_of_getElem? (i := 181) (by decide +kernel), List.mem_of_getElem? (i := 179) (by decide +kernel), List.mem_of_getElem? (i := 180) (by decide +kernel)⟩
theorem lw_p3 : lw_okq (⟨"PlotKernel$Command", "way", "(II)I"⟩, 4) := ⟨⟨by decide +kernel, by decide +kernel⟩, List.mem_of_getElem? (i := 181) (by decide +kernel), List.mem_of_getElem? (i := 184) (by decide +kernel), List.mem_of_getElem? (i := 185) (by decide +kernel)⟩
theorem lw_p4 : lw_okq (⟨"PlotKernel$Command", "steps", "()I"⟩, 4) := ⟨⟨by decide +kernel, by decide +kernel⟩, List.mem_of_getElem? (i := 181) (by decide +kernel), List.mem_of_getElem? (i := 188) (by decide +kernel), List.mem_of_getElem? (i := 189) (by decide +kernel)⟩
theorem lw_p5 : lw_okq (⟨"PlotKernel", "carriageX", "()I"⟩, 19) := ⟨⟨by decide +kernel, by decide +kernel⟩, List.mem_of_getElem? (i := 20) (by decide +kernel), List.mem_of_getElem? (i := 198) (by decide +kernel), List.mem_of_getElem? (i := 199) (by decide +kernel)⟩
theorem lw_p6 : lw_okq (⟨"PlotKernel$Command", "wayX", "(I)I"⟩, 4) := ⟨⟨by decide +kernel, by decide +kernel⟩, List.mem_of_getElem? (i := 181) (by decide +kernel), List.mem_of_getElem? (i := 202) (by decide +kernel), List.mem_of_getElem? (i := 203) (by decide +kernel)⟩
theorem lw_p7 : lw_okq (⟨"PlotKernel", "lacksInk", "(LPlotKernel$Command;)Z"⟩, 19) := ⟨⟨by decide +kernel, by decide +kernel⟩, List.mem_of_getElem? (i := 20) (by decide +kernel), List.mem_of_getElem? (i := 218) (by decide +kernel), List.mem_of_getElem? (i := 219) (by decide +kernel)⟩
theorem lw_p8 : lw_okq (⟨"PlotKernel$Command", "draws", "()Z"⟩, 4) := ⟨⟨by decide +kernel, by decide +kernel⟩, List.mem_of_getElem? (i := 181) (by decide +kernel), List.mem_of_getElem? (i := 222) (by decide +kernel), List.mem_of_getElem? (i := 223) (by decide +kernel)⟩
theorem lw_p9 : lw_okq (⟨"PlotKernel", "inkOf", "(I)I"⟩, 19) := ⟨⟨by decide +kernel, by decide +kernel⟩, List.mem_of_getElem? (i := 20) (by decide +kernel), List.mem_of_getElem? (i := 226) (by decide +kernel), List.mem_of_getElem? (i := 227) (by decide +kernel)⟩
theorem lw_p10 : lw_okq (⟨"java/lang/Throwable", "fillInStackTrace", "(I)Ljava/lang/Throwable;"⟩, 6) := ⟨⟨by decide +kernel, by decide +kernel⟩, List.mem_of_getElem? (i := 296) (by decide +kernel), List.mem_of_getElem? (i := 294) (by decide +kernel), List.mem_of_getElem? (i := 295) (by decide +kernel)⟩
theorem lw_p11 : lw_okq (⟨"PlotKernel", "takeByte", "(I)V"⟩, 19) := ⟨⟨by decide +kernel, by decide +kernel⟩, List.mem_of_getElem? (i := 20) (by decide +kernel), List.mem_of_getElem? (i := 326) (by decide +kernel), List.mem_of_getElem? (i := 327) (by decide +kernel)⟩
theorem lw_p12 : lw_okq (⟨"PlotKernel", "beginCommand", "(I)V"⟩, 19) := ⟨⟨by decide +kernel, by decide +kernel⟩, List.mem_of_getElem? (i := 20) (by decide +kernel), List.mem_of_getElem? (i := 330) (by decide +kernel), List.mem_of_getElem? (i := 331) (by decide +kernel)⟩
theorem lw_p13 : lw_okq (⟨"PlotKernel", "endCommand", "(I)V"⟩, 19) := ⟨⟨by decide +kernel, by decide +kernel⟩, List.mem_of_getElem? (i := 20) (by decide +kernel), List.mem_of_getElem? (i := 334) (by decide +kernel), List.mem_of_getElem? (i := 335) (by decide +kernel)⟩
theorem lw_p14 : lw_okq (⟨"PlotKernel", "repeatLatest", "(I)V"⟩, 19) := ⟨⟨by decide +kernel, by decide +kernel⟩, List.mem_of_getElem? (i := 20) (by decide +kernel), List.mem_of_getElem? (i := 338) (by decide +kernel), List.mem_of_getElem? (i := 339) (by decide +kernel)⟩
theorem lw_p15 : lw_okq (⟨"PlotKernel", "queueIfRight", "(LPlotKernel$Command;)Z"⟩, 19) := ⟨⟨by decide +kernel, by decide +kernel⟩, List.mem_of_getElem? (i := 20) (by decide +kernel), List.mem_of_getElem? (i := 342) (by decide +kernel), List.mem_of_getElem? (i := 343) (by decide +kernel)⟩
def lw_privs_1 : List (MethodName × Nat) := [(⟨"PlotKernel", "carriageY", "()I"⟩, 19), (⟨"PlotKernel", "firstCommand", "()LPlotKernel$Command;"⟩, 19), (⟨"PlotKernel$Command", "wayY", "(I)I"⟩, 4), (⟨"PlotKernel$Command", "way", "(II)I"⟩, 4), (⟨"PlotKernel$Command", "steps", "()I"⟩, 4), (⟨"PlotKernel", "carriageX", "()I"⟩, 19), (⟨"PlotKernel$Command", "wayX", "(I)I"⟩, 4), (⟨"PlotKernel", "lacksInk", "(LPlotKernel$Command;)Z"⟩, 19), (⟨"PlotKernel$Command", "draws", "()Z"⟩, 4), (⟨"PlotKernel", "inkOf", "(I)I"⟩, 19), (⟨"java/lang/Throwable", "fillInStackTrace", "(I)Ljava/lang/Throwable;"⟩, 6), (⟨"PlotKernel", "takeByte", "(I)V"⟩, 19), (⟨"PlotKernel", "beginCommand", "(I)V"⟩, 19), (⟨"PlotKernel", "endCommand", "(I)V"⟩, 19), (⟨"PlotKernel", "repeatLatest", "(I)V"⟩, 19), (⟨"PlotKernel", "queueIfRight", "(LPlotKernel$Command;)Z"⟩, 19)]
theorem lw_r1 : ∀ q ∈ lw_privs_1, lw_okq q := List.forall_mem_cons.mpr ⟨lw_p0, List.forall_mem_cons.mpr ⟨lw_p1, List.forall_mem_cons.mpr ⟨lw_p2, List.forall_mem_cons.mpr ⟨lw_p3, List.forall_mem_cons.mpr ⟨lw_p4, List.forall_mem_cons.mpr ⟨lw_p5, List.forall_mem_cons.mpr ⟨lw_p6, List.forall_mem_cons.mpr ⟨lw_p7, List.forall_mem_cons.mpr ⟨lw_p8, List.forall_mem_cons.mpr ⟨lw_p9, List.forall_mem_cons.mpr ⟨lw_p10, List.forall_mem_cons.mpr ⟨lw_p11, List.forall_mem_cons.mpr ⟨lw_p12, List.forall_mem_cons.mpr ⟨lw_p13, List.forall_mem_cons.mpr ⟨lw_p14, List.forall_mem_cons.mpr ⟨lw_p15, fun _ h => absurd h List.not_mem_nil⟩⟩⟩⟩⟩⟩⟩⟩⟩⟩⟩⟩⟩⟩⟩⟩
theorem lw_p16 : lw_okq (⟨"PlotKernel", "isRight", "(LPlotKernel$Command;)Z"⟩, 19) := ⟨⟨by decide +kernel, by decide +kernel⟩, List.mem_of_getElem? (i := 20) (by decide +kernel), List.mem_of_getElem? (i := 346) (by decide +kernel), List.mem_of_getElem? (i := 347) (by decide +kernel)⟩
theorem lw_p17 : lw_okq (⟨"PlotKernel", "planLine", "(LPlotKernel$Command;)V"⟩, 19) := ⟨⟨by decide +kernel, by decide +kernel⟩, List.mem_of_getElem? (i := 20) (by decide +kernel), List.mem_of_getElem? (i := 356) (by decide +kernel), List.mem_of_getElem? (i := 357) (by decide +kernel)⟩
theorem lw_p18 : lw_okq (⟨"PlotKernel$Paper", "putMark", "(II)V"⟩, 2) := ⟨⟨by decide +kernel, by decide +kernel⟩, List.mem_of_getElem? (i := 54) (by decide +kernel), List.mem_of_getElem? (i := 360) (by decide +kernel), List.mem_of_getElem? (i := 361) (by decide +kernel)⟩
theorem lw_p19 : lw_okq (⟨"PlotKernel$Paper", "hasMark", "(II)Z"⟩, 2) := ⟨⟨by decide +kernel, by decide +kernel⟩, List.mem_of_getElem? (i := 54) (by decide +kernel), List.mem_of_getElem? (i := 368) (by decide +kernel), List.mem_of_getElem? (i := 369) (by decide +kernel)⟩
theorem lw_p20 : lw_okq (⟨"java/util/ArrayList", "add", "(Ljava/lang/Object;[Ljava/lang/Object;I)V"⟩, 3) := ⟨⟨by decide +kernel, by decide +kernel⟩, List.mem_of_getElem? (i := 28) (by decide +kernel), List.mem_of_getElem? (i := 379) (by decide +kernel), List.mem_of_getElem? (i := 380) (by decide +kernel)⟩
theorem lw_p21 : lw_okq (⟨"java/util/ArrayList", "grow", "()[Ljava/lang/Object;"⟩, 3) := ⟨⟨by decide +kernel, by decide +kernel⟩, List.mem_of_getElem? (i := 28) (by decide +kernel), List.mem_of_getElem? (i := 383) (by decide +kernel), List.mem_of_getElem? (i := 384) (by decide +kernel)⟩
theorem lw_p22 : lw_okq (⟨"java/util/ArrayList", "grow", "(I)[Ljava/lang/Object;"⟩, 3) := ⟨⟨by decide +kernel, by decide +kernel⟩, List.mem_of_getElem? (i := 28) (by decide +kernel), List.mem_of_getElem? (i := 387) (by decide +kernel), List.mem_of_getElem? (i := 388) (by decide +kernel)⟩
theorem lw_p23 : lw_okq (⟨"PlotKernel", "queueMotion", "(LPlotKernel$Command;)V"⟩, 19) := ⟨⟨by decide +kernel, by decide +kernel⟩, List.mem_of_getElem? (i := 20) (by decide +kernel), List.mem_of_getElem? (i := 451) (by decide +kernel), List.mem_of_getElem? (i := 452) (by decide +kernel)⟩
theorem lw_p24 : lw_okq (⟨"PlotKernel", "doTick", "()Z"⟩, 19) := ⟨⟨by decide +kernel, by decide +kernel⟩, List.mem_of_getElem? (i := 20) (by decide +kernel), List.mem_of_getElem? (i := 463) (by decide +kernel), List.mem_of_getElem? (i := 464) (by decide +kernel)⟩
theorem lw_p25 : lw_okq (⟨"PlotKernel", "turnPen", "()V"⟩, 19) := ⟨⟨by decide +kernel, by decide +kernel⟩, List.mem_of_getElem? (i := 20) (by decide +kernel), List.mem_of_getElem? (i := 467) (by decide +kernel), List.mem_of_getElem? (i := 468) (by decide +kernel)⟩
theorem lw_p26 : lw_okq (⟨"PlotKernel", "markHere", "()V"⟩, 19) := ⟨⟨by decide +kernel, by decide +kernel⟩, List.mem_of_getElem? (i := 20) (by decide +kernel), List.mem_of_getElem? (i := 471) (by decide +kernel), List.mem_of_getElem? (i := 472) (by decide +kernel)⟩
theorem lw_p27 : lw_okq (⟨"PlotKernel", "changePen", "(LPlotKernel$Command;)V"⟩, 19) := ⟨⟨by decide +kernel, by decide +kernel⟩, List.mem_of_getElem? (i := 20) (by decide +kernel), List.mem_of_getElem? (i := 475) (by decide +kernel), List.mem_of_getElem? (i := 476) (by decide +kernel)⟩
theorem lw_p28 : lw_okq (⟨"PlotKernel", "endFirstCommand", "(LPlotKernel$Command;)V"⟩, 19) := ⟨⟨by decide +kernel, by decide +kernel⟩, List.mem_of_getElem? (i := 20) (by decide +kernel), List.mem_of_getElem? (i := 479) (by decide +kernel), List.mem_of_getElem? (i := 480) (by decide +kernel)⟩
theorem lw_p29 : lw_okq (⟨"java/util/ArrayList", "fastRemove", "([Ljava/lang/Object;I)V"⟩, 3) := ⟨⟨by decide +kernel, by decide +kernel⟩, List.mem_of_getElem? (i := 28) (by decide +kernel), List.mem_of_getElem? (i := 487) (by decide +kernel), List.mem_of_getElem? (i := 488) (by decide +kernel)⟩
theorem lw_p30 : lw_okq (⟨"PlotKernel", "doStep", "(LPlotKernel$Command;)V"⟩, 19) := ⟨⟨by decide +kernel, by decide +kernel⟩, List.mem_of_getElem? (i := 20) (by decide +kernel), List.mem_of_getElem? (i := 492) (by decide +kernel), List.mem_of_getElem? (i := 493) (by decide +kernel)⟩
theorem lw_p31 : lw_okq (⟨"PlotKernel", "setInk", "(II)V"⟩, 19) := ⟨⟨by decide +kernel, by decide +kernel⟩, List.mem_of_getElem? (i := 20) (by decide +kernel), List.mem_of_getElem? (i := 496) (by decide +kernel), List.mem_of_getElem? (i := 497) (by decide +kernel)⟩
def lw_privs_2 : List (MethodName × Nat) := [(⟨"PlotKernel", "isRight", "(LPlotKernel$Command;)Z"⟩, 19), (⟨"PlotKernel", "planLine", "(LPlotKernel$Command;)V"⟩, 19), (⟨"PlotKernel$Paper", "putMark", "(II)V"⟩, 2), (⟨"PlotKernel$Paper", "hasMark", "(II)Z"⟩, 2), (⟨"java/util/ArrayList", "add", "(Ljava/lang/Object;[Ljava/lang/Object;I)V"⟩, 3), (⟨"java/util/ArrayList", "grow", "()[Ljava/lang/Object;"⟩, 3), (⟨"java/util/ArrayList", "grow", "(I)[Ljava/lang/Object;"⟩, 3), (⟨"PlotKernel", "queueMotion", "(LPlotKernel$Command;)V"⟩, 19), (⟨"PlotKernel", "doTick", "()Z"⟩, 19), (⟨"PlotKernel", "turnPen", "()V"⟩, 19), (⟨"PlotKernel", "markHere", "()V"⟩, 19), (⟨"PlotKernel", "changePen", "(LPlotKernel$Command;)V"⟩, 19), (⟨"PlotKernel", "endFirstCommand", "(LPlotKernel$Command;)V"⟩, 19), (⟨"java/util/ArrayList", "fastRemove", "([Ljava/lang/Object;I)V"⟩, 3), (⟨"PlotKernel", "doStep", "(LPlotKernel$Command;)V"⟩, 19), (⟨"PlotKernel", "setInk", "(II)V"⟩, 19)]
theorem lw_r2 : ∀ q ∈ lw_privs_2, lw_okq q := List.forall_mem_cons.mpr ⟨lw_p16, List.forall_mem_cons.mpr ⟨lw_p17, List.forall_mem_cons.mpr ⟨lw_p18, List.forall_mem_cons.mpr ⟨lw_p19, List.forall_mem_cons.mpr ⟨lw_p20, List.forall_mem_cons.mpr ⟨lw_p21, List.forall_mem_cons.mpr ⟨lw_p22, List.forall_mem_cons.mpr ⟨lw_p23, List.forall_mem_cons.mpr ⟨lw_p24, List.forall_mem_cons.mpr ⟨lw_p25, List.forall_mem_cons.mpr ⟨lw_p26, List.forall_mem_cons.mpr ⟨lw_p27, List.forall_mem_cons.mpr ⟨lw_p28, List.forall_mem_cons.mpr ⟨lw_p29, List.forall_mem_cons.mpr ⟨lw_p30, List.forall_mem_cons.mpr ⟨lw_p31, fun _ h => absurd h List.not_mem_nil⟩⟩⟩⟩⟩⟩⟩⟩⟩⟩⟩⟩⟩⟩⟩⟩
theorem lw_p32 : lw_okq (⟨"PlotKernelModel", "goes", "(I)Z"⟩, 27) := ⟨⟨by decide +kernel, by decide +kernel⟩, List.mem_of_getElem? (i := 549) (by decide +kernel), List.mem_of_getElem? (i := 648) (by decide +kernel), List.mem_of_getElem? (i := 649) (by decide +kernel)⟩
theorem lw_p33 : lw_okq (⟨"PlotKernelModel", "isWhole", "(I)V"⟩, 27) := ⟨⟨by decide +kernel, by decide +kernel⟩, List.mem_of_getElem? (i := 549) (by decide +kernel), List.mem_of_getElem? (i := 652) (by decide +kernel), List.mem_of_getElem? (i := 653) (by decide +kernel)⟩
theorem lw_p34 : lw_okq (⟨"PlotKernelModel", "repeats", "(I)V"⟩, 27) := ⟨⟨by decide +kernel, by decide +kernel⟩, List.mem_of_getElem? (i := 549) (by decide +kernel), List.mem_of_getElem? (i := 656) (by decide +kernel), List.mem_of_getElem? (i := 657) (by decide +kernel)⟩
theorem lw_p35 : lw_okq (⟨"PlotKernelModel", "queues", "(III)Z"⟩, 27) := ⟨⟨by decide +kernel, by decide +kernel⟩, List.mem_of_getElem? (i := 549) (by decide +kernel), List.mem_of_getElem? (i := 660) (by decide +kernel), List.mem_of_getElem? (i := 661) (by decide +kernel)⟩
theorem lw_p36 : lw_okq (⟨"PlotKernelModel", "draws", "(II)V"⟩, 27) := ⟨⟨by decide +kernel, by decide +kernel⟩, List.mem_of_getElem? (i := 549) (by decide +kernel), List.mem_of_getElem? (i := 667) (by decide +kernel), List.mem_of_getElem? (i := 668) (by decide +kernel)⟩
theorem lw_p37 : lw_okq (⟨"PlotKernelModel", "ticks", "()I"⟩, 27) := ⟨⟨by decide +kernel, by decide +kernel⟩, List.mem_of_getElem? (i := 549) (by decide +kernel), List.mem_of_getElem? (i := 696) (by decide +kernel), List.mem_of_getElem? (i := 697) (by decide +kernel)⟩
theorem lw_p38 : lw_okq (⟨"PlotKernelModel", "lacksInk", "()Z"⟩, 27) := ⟨⟨by decide +kernel, by decide +kernel⟩, List.mem_of_getElem? (i := 549) (by decide +kernel), List.mem_of_getElem? (i := 700) (by decide +kernel), List.mem_of_getElem? (i := 701) (by decide +kernel)⟩
theorem lw_p39 : lw_okq (⟨"PlotKernelModel", "lifts", "(Z)V"⟩, 27) := ⟨⟨by decide +kernel, by decide +kernel⟩, List.mem_of_getElem? (i := 549) (by decide +kernel), List.mem_of_getElem? (i := 704) (by decide +kernel), List.mem_of_getElem? (i := 705) (by decide +kernel)⟩
theorem lw_p40 : lw_okq (⟨"PlotKernelModel", "marksCell", "()V"⟩, 27) := ⟨⟨by decide +kernel, by decide +kernel⟩, List.mem_of_getElem? (i := 549) (by decide +kernel), List.mem_of_getElem? (i := 708) (by decide +kernel), List.mem_of_getElem? (i := 709) (by decide +kernel)⟩
theorem lw_p41 : lw_okq (⟨"PlotKernelModel", "changes", "()V"⟩, 27) := ⟨⟨by decide +kernel, by decide +kernel⟩, List.mem_of_getElem? (i := 549) (by decide +kernel), List.mem_of_getElem? (i := 712) (by decide +kernel), List.mem_of_getElem? (i := 713) (by decide +kernel)⟩
theorem lw_p42 : lw_okq (⟨"PlotKernelModel", "isDone", "()V"⟩, 27) := ⟨⟨by decide +kernel, by decide +kernel⟩, List.mem_of_getElem? (i := 549) (by decide +kernel), List.mem_of_getElem? (i := 716) (by decide +kernel), List.mem_of_getElem? (i := 717) (by decide +kernel)⟩
theorem lw_p43 : lw_okq (⟨"PlotKernelModel", "step", "()I"⟩, 27) := ⟨⟨by decide +kernel, by decide +kernel⟩, List.mem_of_getElem? (i := 549) (by decide +kernel), List.mem_of_getElem? (i := 720) (by decide +kernel), List.mem_of_getElem? (i := 721) (by decide +kernel)⟩
theorem lw_p44 : lw_okq (⟨"PlotKernelModel", "goesTo", "(I)V"⟩, 27) := ⟨⟨by decide +kernel, by decide +kernel⟩, List.mem_of_getElem? (i := 549) (by decide +kernel), List.mem_of_getElem? (i := 724) (by decide +kernel), List.mem_of_getElem? (i := 725) (by decide +kernel)⟩
def lw_privs_3 : List (MethodName × Nat) := [(⟨"PlotKernelModel", "goes", "(I)Z"⟩, 27), (⟨"PlotKernelModel", "isWhole", "(I)V"⟩, 27), (⟨"PlotKernelModel", "repeats", "(I)V"⟩, 27), (⟨"PlotKernelModel", "queues", "(III)Z"⟩, 27), (⟨"PlotKernelModel", "draws", "(II)V"⟩, 27), (⟨"PlotKernelModel", "ticks", "()I"⟩, 27), (⟨"PlotKernelModel", "lacksInk", "()Z"⟩, 27), (⟨"PlotKernelModel", "lifts", "(Z)V"⟩, 27), (⟨"PlotKernelModel", "marksCell", "()V"⟩, 27), (⟨"PlotKernelModel", "changes", "()V"⟩, 27), (⟨"PlotKernelModel", "isDone", "()V"⟩, 27), (⟨"PlotKernelModel", "step", "()I"⟩, 27), (⟨"PlotKernelModel", "goesTo", "(I)V"⟩, 27)]
theorem lw_r3 : ∀ q ∈ lw_privs_3, lw_okq q := List.forall_mem_cons.mpr ⟨lw_p32, List.forall_mem_cons.mpr ⟨lw_p33, List.forall_mem_cons.mpr ⟨lw_p34, List.forall_mem_cons.mpr ⟨lw_p35, List.forall_mem_cons.mpr ⟨lw_p36, List.forall_mem_cons.mpr ⟨lw_p37, List.forall_mem_cons.mpr ⟨lw_p38, List.forall_mem_cons.mpr ⟨lw_p39, List.forall_mem_cons.mpr ⟨lw_p40, List.forall_mem_cons.mpr ⟨lw_p41, List.forall_mem_cons.mpr ⟨lw_p42, List.forall_mem_cons.mpr ⟨lw_p43, List.forall_mem_cons.mpr ⟨lw_p44, fun _ h => absurd h List.not_mem_nil⟩⟩⟩⟩⟩⟩⟩⟩⟩⟩⟩⟩⟩
def lw_privs : List (MethodName × Nat) := lw_privs_1 ++ (lw_privs_2 ++ (lw_privs_3))
def lw_tbl : List Cond := k2_sels lw_privs ++ tables_1
theorem lw_privs_ok : ∀ q ∈ lw_privs, lw_okq q := by
  show ∀ q ∈ lw_privs_1 ++ (lw_privs_2 ++ (lw_privs_3)), lw_okq q
  exact List.forall_mem_append.mpr ⟨lw_r1, List.forall_mem_append.mpr ⟨lw_r2, lw_r3⟩⟩
-- ===== end of PART A; then your names; then what follows =====
end
section
/-! ===== BEGIN words of one list among another's, by their places ===== -/
theorem goodIn_r {big : List Cond} (ws : List Cond) (ps : List Nat) (hp : ws = ps.filterMap (fun i => big[i]?)) (h : ws.all goodWord = true) : GoodIn big ws := by
  intro w hw
  have h1 := List.all_eq_true.mp h w hw
  rw [hp] at hw
  obtain ⟨i, -, hi⟩ := List.mem_filterMap.mp hw
  have hm : w ∈ big := by first | exact List.mem_of_getElem? hi | exact List.getElem?_mem hi
  exact ⟨hm, good_of_word h1⟩
theorem goodIn_app {big a b : List Cond} (ha : GoodIn big a) (hb : GoodIn big b) : GoodIn big (a ++ b) := fun w h => (List.mem_append.mp h).elim (ha w) (hb w)
theorem goodIn_ca {big a b : List Cond} {c : Cond} (ha : GoodIn big (c :: a)) (hb : GoodIn big b) : GoodIn big (c :: (a ++ b)) := fun w h => (List.mem_cons.mp h).elim (fun e => ha w (List.mem_cons.mpr (Or.inl e))) (fun h => (List.mem_append.mp h).elim (fun h => ha w (List.mem_cons.mpr (Or.inr h))) (hb w))
theorem goodIn_sub {big ws : List Cond} (hm : ∀ w ∈ ws, w ∈ big) (h : ws.all goodWord = true) : GoodIn big ws := fun w hw => ⟨hm w hw, good_of_word (List.all_eq_true.mp h w hw)⟩
/-! ===== END ===== -/

/-! ===== BEGIN exceptions that leave a method, and their catching by the caller (launches without stack traces) ===== -/
section VXA
/-! The laws vx_back, vx_callV, vx_callS, vx_callSW, vx_throw0, vx_throwS follow proofs of the library, with one case more: JvmDerived/Free/Laws.lean (Back.of_free), Shelf42/LK1.lean (callV, callS), Shelf/KitTraced.lean (throwNew0V, throwNewS). -/
/-- where a method has thrown q: the class by its name, the cell, what was written, the world -/
def vx_T (XC : String → State → State → Prop) (st : State) (q : Addr) (t : State) (mc ms : Nat) (free : Addr → Prop) : Prop :=
  ∃ (E : String) (ce : Cell) (L : List Loc), XC E st t ∧ t.heap[q]? = some ce ∧ ce.vm = .none ∧ st.vm.findClass E = some ce.cls ∧ st.WarmedH t.vm ∧ st.sameButNew ({ t with vm := st.vm } : State) L mc ms ∧ ∀ z ∈ L, free z.base
def vx_Q (Qc : Array Value → State → Outcome → State → Prop) (XC : String → State → State → Prop) (mc ms : Nat) (free : Addr → Prop) : Array Value → State → Outcome → State → Prop := fun a st o t =>
  (Qc a st o t ∧ ∃ L, FrameEnd st o t L mc ms ∧ ∀ q ∈ L, free q.base) ∨ ∃ q, o = .threw q ∧ vx_T XC st q t mc ms free
/-- a callee that returns or throws -/
def vx_Met (l : Launch) (y : MethodName) (ws : List Cond) (rm : Room) (Pc : Array Value → State → Prop) (Qc : Array Value → State → Outcome → State → Prop) (XC : String → State → State → Prop) (mc ms : Nat) (free : Addr → Prop) : Prop :=
  MetFree l y (headSpec ws rm) Pc (fun _ _ _ _ _ => True) (vx_Q Qc XC mc ms free)
def vx_Post (XC : String → State → State → Prop) (mc ms : Nat) (free : Addr → Prop) : Pt → Array Value → Addr → Pt → Prop := fun A a q B =>
  ∃ (g : JFrame) (mk : MethodId) (t : State) (L : List Loc) (E : String) (ce : Cell), B.U.heap = t.heap ∧ B.U.vm = t.vm ∧ XC E (A.U.calling g mk a) t ∧ t.heap[q]? = some ce ∧ ce.vm = .none ∧ A.U.vm.findClass E = some ce.cls ∧ B.locs = A.locs ++ L ∧ (∀ z ∈ L, free z.base) ∧ B.cells = A.cells + mc ∧ B.slots = A.slots + ms
def vx_Back (l : Launch) (R : Room) (p : Program) (e : Env) (below : List Frame) (s : State) (sargs : Array Value) (y : MethodName) (len W9 : Nat)
    (Pre : Pt → Array Value → Prop) (Post : Pt → Array Value → Option Value → Pt → Prop) (PostX : Pt → Array Value → Addr → Pt → Prop) : Prop :=
  ∀ (m : MethodId) (meth : Method) (c : Code) (A : Pt) (g : JFrame) (ig : Instr) (mk : MethodId) (a : Array Value),
    Stand p l e R s m sargs below meth c A.U A.locs A.cells A.slots → g.method = m → g.locals.size = c.maxLocals → decode c.code g.pc = .ok (ig, len) →
    2 * g.monitorRoom + (g.stack.map fun v => v.category).sum ≤ W9 → A.U.methodNamed? y = some mk → Pre A a →
    (∃ (v : Option Value) (B : Pt), Stand p l e R s m sargs below meth c B.U B.locs B.cells B.slots ∧ Post A a v B ∧
      Steps p.tables e below (doInvoke e (A.U.setTop g) [] mk a).1 (B.U.setTop { g with pc := g.pc + len, stack := v.toList ++ g.stack })) ∨
    (∃ (q : Addr) (B : Pt), Stand p l e R s m sargs below meth c B.U B.locs B.cells B.slots ∧ PostX A a q B ∧
      Steps p.tables e below (doInvoke e (A.U.setTop g) [] mk a).1 ((B.U.setTop g).pushFrame (.throwing q)))
section Payer
variable {l : Launch} {R : Room} {p : Program} {e : Env} {below : List Frame} {s : State} {sargs : Array Value} {y : MethodName} {len W9 : Nat}
theorem vx_back {ws : List Cond} {rm : Room} {Pc : Array Value → State → Prop} {Qc : Array Value → State → Outcome → State → Prop} {XC : String → State → State → Prop} {mc ms : Nat} {free : Addr → Prop} {bytes : ByteArray} {maxL : Nat} {ret : Option FieldType}
    (hM : vx_Met l y ws rm Pc Qc XC mc ms free) (hblind : FrameBlind Pc) (hrc : rm.cells = mc) (hrs : rm.slots = ms)
    (hframes : rm.frames + 1 ≤ R.frames) (hlocals : W9 + (maxL + 11) + rm.locals ≤ R.locals)
    (hws : ∀ w ∈ ws, ∀ a' U, s.WarmedH U.vm → w.before a' U = true) (hcode : Cond.code y bytes maxL ret ∈ ws) (hinit : ∀ a' U, s.WarmedH U.vm → (Cond.initialized y.cls).before a' U = true) :
    vx_Back l R p e below s sargs y len W9 (PreOf R mc ms Pc) (PostOf Qc mc ms free) (vx_Post XC mc ms free) := by
  intro m meth c A g ig mk a X hg hsize hdg hW hn hp
  have h1 : (headSpec ws rm).pre.before a A.U = true := atoms_intro fun w hw => hws w hw _ _ X.warmed
  have h2 : (Cond.code y bytes maxL ret).before a A.U = true := hws _ hcode _ _ X.warmed
  have h3 : (Cond.initialized y.cls).before a A.U = true := hinit _ _ X.warmed
  have h4 : A.cells + (headSpec ws rm).room.cells ≤ R.cells := by rw [show (headSpec ws rm).room.cells = mc from hrc]; exact hp.1
  have h5 : A.slots + (headSpec ws rm).room.slots ≤ R.slots := by rw [show (headSpec ws rm).room.slots = ms from hrs]; exact hp.2.1
  have hPc : Pc a (A.U.calling g mk a) := hblind _ _ _ _ hp.2.2
  obtain ⟨U, Ls, c0, s0⟩ := A
  dsimp only [Pt.U, Pt.locs, Pt.cells, Pt.slots] at h1 h2 h3 h4 h5 X hn hPc ⊢
  obtain ⟨methY, cY, hmY, hcY, -, hlY, -, -, -, -⟩ := Cond.code_spec hn h2
  obtain ⟨kY, hkY, -⟩ := className_of_methodNamed hn
  have hinitY : kY.init = .initialized := Cond.initialized_spec (findClass_of_methodNamed hn) hkY h3
  have h : At U g.method c below := by rw [hg]; exact X.here
  have hlocals9 : W9 + (maxL + 11) + (headSpec ws rm).room.locals ≤ R.locals := hlocals
  have happ : (headSpec ws rm).appliesLoose y e.platform (U.calling g mk a) = true :=
    Spec.appliesLoose_calling (g := g) h hdg hn hkY hinitY
      (X.room_calling (g := g) (R' := (headSpec ws rm).room) hsize hmY hcY hframes (by rw [hlY]; omega) h4 h5) h1
  obtain ⟨mid, hmid⟩ := h.above
  have hfr : (U.setTop g).frames = (.java g :: mid) ++ below := by rw [State.frames_setTop' g h.top, hmid]; rfl
  obtain ⟨o, s₂, hsteps, -, hend, hq⟩ := Steps.callFree hM p X.admits X.cas X.clock (acts := []) hfr happ hPc trivial
  have hq' : vx_Q Qc XC mc ms free a (U.calling g mk a) o s₂ := hq
  rw [State.frames_setTop' g h.top] at hend
  obtain ⟨g₀, hg0⟩ := Option.isSome_iff_exists.mp h.top
  obtain ⟨r, hr⟩ := State.topJava?_eq_some.mp hg0
  have hr' : (({ U with heap := s₂.heap, slotsUsed := s₂.slotsUsed } : State).setVm s₂.vm).frames = .java g₀ :: r := hr
  rcases hq' with ⟨hqc, L, hfe, hL⟩ | ⟨q, rfl, E, ce, L, hx, hce, hcv, hcl, hW₂, hsm, hL⟩
  · obtain ⟨⟨v, rfl⟩, hW₂, e2, q2, q3, q4, q5, q6⟩ := id hfe
    have e3 : s₂ = ({ (U.calling g mk a).setFrames s₂.frames with heap := s₂.heap, slotsUsed := s₂.slotsUsed } : State).setVm s₂.vm := by
      have : s₂ = ({ s₂ with vm := (U.calling g mk a).vm } : State).setVm s₂.vm := rfl
      rw [e2] at this
      exact this
    obtain ⟨c₂, i₂, len₂, hc₂, hd₂, hf₂⟩ := hend
    have hW' : U.WarmedH s₂.vm := hW₂
    have hcc : c₂ = c := by
      have h1 : s₂.code? g.method = U.code? g.method := by
        rw [State.code?_eq, State.code?_eq, hW'.alike.method?]
      exact Option.some.inj (hc₂.symm.trans (h1.trans h.code))
    subst hcc
    have hlen : len₂ = len := by rw [hdg] at hd₂; cases hd₂; rfl
    subst hlen
    have hs₂ : s₂ = (({ U with heap := s₂.heap, slotsUsed := s₂.slotsUsed } : State).setVm s₂.vm).setTop { g with pc := g.pc + len₂, stack := v.toList ++ g.stack } := by
      refine e3.trans ?_
      rw [hf₂, State.calling_eq h.top, State.setFrames_setFrames, State.setTop_of_frames _ hr', hr]
      rfl
    have hsame : U.sameButNew ({ U with heap := s₂.heap, slotsUsed := s₂.slotsUsed } : State) L mc ms := by
      refine ⟨?_, q2, q3, q4, q5, q6⟩
      obtain ⟨t, ht, -⟩ := State.frames_cons hr
      show ({ U with heap := s₂.heap, slotsUsed := s₂.slotsUsed } : State) = { U.setFrames U.frames with heap := s₂.heap, slotsUsed := s₂.slotsUsed }
      rw [State.setFrames_self ht]
    subst hg
    refine Or.inl ⟨v, ⟨(({ U with heap := s₂.heap, slotsUsed := s₂.slotsUsed } : State).setVm s₂.vm), Ls ++ L, c0 + mc, s0 + ms⟩,
      ⟨X.admits, X.cas, X.clock, X.frames, X.room, X.hears, X.method, X.code, (X.here.setHeapUsed s₂.heap s₂.slotsUsed).setVm hW'.alike, X.tail, State.WarmedH.trans X.warmed hW', X.limits, X.bytes, X.same.trans (hsame.setVm s.vm)⟩,
      ⟨g, mk, s₂, L, rfl, rfl, hqc, rfl, hL, rfl, rfl⟩, ?_⟩
    show Steps p.tables e below _ ((({ U with heap := s₂.heap, slotsUsed := s₂.slotsUsed } : State).setVm s₂.vm).setTop { g with pc := g.pc + len₂, stack := v.toList ++ g.stack })
    rw [← hs₂]
    exact hsteps
  · obtain ⟨e2, q2, q3, q4, q5, q6⟩ := id hsm
    have e3 : s₂ = ({ (U.calling g mk a).setFrames s₂.frames with heap := s₂.heap, slotsUsed := s₂.slotsUsed } : State).setVm s₂.vm := by
      have : s₂ = ({ s₂ with vm := (U.calling g mk a).vm } : State).setVm s₂.vm := rfl
      rw [e2] at this
      exact this
    have hf₂ : s₂.frames = .throwing q :: .java g :: U.frames.tail := hend
    have hW' : U.WarmedH s₂.vm := hW₂
    have hs₂ : s₂ = ((({ U with heap := s₂.heap, slotsUsed := s₂.slotsUsed } : State).setVm s₂.vm).setTop g).pushFrame (.throwing q) := by
      refine e3.trans ?_
      rw [hf₂, State.calling_eq h.top, State.setFrames_setFrames, State.pushFrame, State.frames_setTop _ hr', State.setTop_of_frames _ hr', State.setFrames_setFrames, hr]
      rfl
    have hsame : U.sameButNew ({ U with heap := s₂.heap, slotsUsed := s₂.slotsUsed } : State) L mc ms := by
      refine ⟨?_, q2, q3, q4, q5, q6⟩
      obtain ⟨t, ht, -⟩ := State.frames_cons hr
      show ({ U with heap := s₂.heap, slotsUsed := s₂.slotsUsed } : State) = { U.setFrames U.frames with heap := s₂.heap, slotsUsed := s₂.slotsUsed }
      rw [State.setFrames_self ht]
    subst hg
    refine Or.inr ⟨q, ⟨(({ U with heap := s₂.heap, slotsUsed := s₂.slotsUsed } : State).setVm s₂.vm), Ls ++ L, c0 + mc, s0 + ms⟩,
      ⟨X.admits, X.cas, X.clock, X.frames, X.room, X.hears, X.method, X.code, (X.here.setHeapUsed s₂.heap s₂.slotsUsed).setVm hW'.alike, X.tail, State.WarmedH.trans X.warmed hW', X.limits, X.bytes, X.same.trans (hsame.setVm s.vm)⟩,
      ⟨g, mk, s₂, L, E, ce, rfl, rfl, hx, hce, hcv, hcl, rfl, hL, rfl, rfl⟩, ?_⟩
    show Steps p.tables e below _ (((({ U with heap := s₂.heap, slotsUsed := s₂.slotsUsed } : State).setVm s₂.vm).setTop g).pushFrame (.throwing q))
    rw [← hs₂]
    exact hsteps
end Payer
section Calls
variable {p : Program} {l : Launch} {e : Env} {R : Room} {s : State} {m : MethodId} {args : Array Value} {below : List Frame} {meth : Method} {c : Code} {T : State} {locs : List Loc} {cells slots : Nat}
theorem vx_callV (X : Stand p l e R s m args below meth c T locs cells slots) (hexec : p.tables.exec = Jvm.exec) {own C : String} {index : Nat} {y : MethodName} {bytes : ByteArray} {maxL : Nat} {ret : Option FieldType}
    (hown : s.vm.findClass own = some m.cls) (hlink : (Cond.methodLink own index y).before args s = true) (hinst : (Cond.instanceMethod y).before args s = true) (hsel : (Cond.selects C y y).before args s = true)
    (hcode : (Cond.code y bytes maxL ret).before args s = true) (hy : y.cls ≠ "java/lang/invoke/MethodHandle" ∧ y.cls ≠ "java/lang/invoke/VarHandle")
    {W9 : Nat} {Pre : Pt → Array Value → Prop} {Post : Pt → Array Value → Option Value → Pt → Prop} {PostX : Pt → Array Value → Addr → Pt → Prop} (hK : vx_Back l R p e below s args y 3 W9 Pre Post PostX)
    {b : Addr} {cellB : Cell} (hcell : T.heap[b]? = some cellB) (hobj : cellB.vm.isStatics = false) (hcls : s.vm.findClass C = some cellB.cls)
    {g : JFrame} (hg : g.method = m) (hsize : g.locals.size = c.maxLocals) {argsL rest : List Value} (hlen : ∀ sig, parseMethodDescriptor y.desc = some sig → argsL.length = sig.parameters.length)
    (hstack : g.stack = argsL.reverse ++ .ref b :: rest) (hW : 2 * g.monitorRoom + (rest.map fun v => v.category).sum ≤ W9) (hdg : decode c.code g.pc = .ok (.invokevirtual index, 3))
    (hpre : ∀ vm₁, s.WarmedH vm₁ → Pre ⟨T.setVm vm₁, locs, cells, slots⟩ (Value.ref b :: argsL).toArray) :
    (∃ (v : Option Value) (vm₁ : Vm) (B : Pt), s.WarmedH vm₁ ∧ Stand p l e R s m args below meth c B.U B.locs B.cells B.slots ∧ Post ⟨T.setVm vm₁, locs, cells, slots⟩ (Value.ref b :: argsL).toArray v B ∧
      ∀ target, Steps p.tables e below (B.U.setTop { g with pc := g.pc + 3, stack := v.toList ++ rest }) target → Steps p.tables e below (T.setTop g) target) ∨
    (∃ (q : Addr) (vm₁ : Vm) (B : Pt), s.WarmedH vm₁ ∧ Stand p l e R s m args below meth c B.U B.locs B.cells B.slots ∧ PostX ⟨T.setVm vm₁, locs, cells, slots⟩ (Value.ref b :: argsL).toArray q B ∧
      Steps p.tables e below (T.setTop g) ((B.U.setTop { g with stack := rest }).pushFrame (.throwing q))) := by
  obtain ⟨mk, methM, hnamed, hmethM, hstM, habM⟩ := Cond.instanceMethod_spec hinst
  obtain ⟨methM', cM, hmethM', -, -, -, -, -, -, hsigM⟩ := Cond.code_spec hnamed hcode
  cases hmethM.symm.trans hmethM'
  obtain ⟨c2, r2, m2, q1, q2, q3, q4, kP, hkP, hkPi⟩ := Cond.selects_spec hsel
  cases hcls.symm.trans q1
  cases (State.methodFound?_of_named hnamed hy).symm.trans q2
  cases hnamed.symm.trans q3
  have hselP : selectMethod e.platform s.vm cellB.cls mk = .method mk := by rw [Launch.admits_selectMethod X.admits]; exact q4
  obtain ⟨vm₁, X₁, hstep₁⟩ := X.invokevirtual hexec hown hlink hnamed hmethM hstM hkP hkPi hy (a := b) (cell := cellB) hcell
    (fun z h => by rw [h] at hobj; cases hobj) hselP hmethM habM hkP hkPi (g := g) hg (argsL := argsL) (rest := rest) (hlen _ hsigM) hstack hdg
  rcases hK m meth c ⟨T.setVm vm₁, locs, cells, slots⟩ { g with stack := rest } (.invokevirtual index) mk (Value.ref b :: argsL).toArray X₁ hg hsize hdg hW (X₁.named hnamed) (hpre vm₁ X₁.warmed) with ⟨v, B, X', hpost, hsteps⟩ | ⟨q, B, X', hpost, hsteps⟩
  · exact Or.inl ⟨v, vm₁, B, X₁.warmed, X', hpost, fun target h => hstep₁ _ fun acts => by rw [doInvoke_state]; exact hsteps.trans h⟩
  · exact Or.inr ⟨q, vm₁, B, X₁.warmed, X', hpost, hstep₁ _ fun acts => by rw [doInvoke_state]; exact hsteps⟩
theorem vx_callS (X : Stand p l e R s m args below meth c T locs cells slots) (hexec : p.tables.exec = Jvm.exec) {own : String} {index : Nat} {y : MethodName} {bytes : ByteArray} {maxL : Nat} {ret : Option FieldType}
    (hown : s.vm.findClass own = some m.cls) (hlink : (Cond.methodLink own index y).before args s = true) (hstat : (Cond.static y).before args s = true) (hinit : (Cond.initialized y.cls).before args s = true)
    (hcode : (Cond.code y bytes maxL ret).before args s = true) (hy : y.cls ≠ "java/lang/invoke/MethodHandle" ∧ y.cls ≠ "java/lang/invoke/VarHandle")
    {W9 : Nat} {Pre : Pt → Array Value → Prop} {Post : Pt → Array Value → Option Value → Pt → Prop} {PostX : Pt → Array Value → Addr → Pt → Prop} (hK : vx_Back l R p e below s args y 3 W9 Pre Post PostX)
    {g : JFrame} (hg : g.method = m) (hsize : g.locals.size = c.maxLocals) {argsL rest : List Value} (hlen : ∀ sig, parseMethodDescriptor y.desc = some sig → argsL.length = sig.parameters.length)
    (hstack : g.stack = argsL.reverse ++ rest) (hW : 2 * g.monitorRoom + (rest.map fun v => v.category).sum ≤ W9) (hdg : decode c.code g.pc = .ok (.invokestatic index, 3))
    (hpre : ∀ vm₁, s.WarmedH vm₁ → Pre ⟨T.setVm vm₁, locs, cells, slots⟩ argsL.toArray) :
    (∃ (v : Option Value) (vm₁ : Vm) (B : Pt), s.WarmedH vm₁ ∧ Stand p l e R s m args below meth c B.U B.locs B.cells B.slots ∧ Post ⟨T.setVm vm₁, locs, cells, slots⟩ argsL.toArray v B ∧
      ∀ target, Steps p.tables e below (B.U.setTop { g with pc := g.pc + 3, stack := v.toList ++ rest }) target → Steps p.tables e below (T.setTop g) target) ∨
    (∃ (q : Addr) (vm₁ : Vm) (B : Pt), s.WarmedH vm₁ ∧ Stand p l e R s m args below meth c B.U B.locs B.cells B.slots ∧ PostX ⟨T.setVm vm₁, locs, cells, slots⟩ argsL.toArray q B ∧
      Steps p.tables e below (T.setTop g) ((B.U.setTop { g with stack := rest }).pushFrame (.throwing q))) := by
  obtain ⟨mk, hnamed⟩ := Cond.code_named hcode
  obtain ⟨methM, cM, hmethM, -, -, -, -, -, -, hsigM⟩ := Cond.code_spec hnamed hcode
  have hstatic : methM.isStatic = true := Cond.static_spec hnamed hmethM hstat
  obtain ⟨kP, hkP, -⟩ := className_of_methodNamed hnamed
  have hinitP : kP.init = .initialized := Cond.initialized_spec (findClass_of_methodNamed hnamed) hkP hinit
  obtain ⟨vm₁, X₁, hstep₁⟩ := X.invokestatic hexec hown hlink hnamed hmethM hstatic hkP hinitP hy (g := g) hg (argsL := argsL) (rest := rest) (hlen _ hsigM) hstack hdg
  rcases hK m meth c ⟨T.setVm vm₁, locs, cells, slots⟩ { g with stack := rest } (.invokestatic index) mk argsL.toArray X₁ hg hsize hdg hW (X₁.named hnamed) (hpre vm₁ X₁.warmed) with ⟨v, B, X', hpost, hsteps⟩ | ⟨q, B, X', hpost, hsteps⟩
  · exact Or.inl ⟨v, vm₁, B, X₁.warmed, X', hpost, fun target h => hstep₁ _ fun acts => by rw [doInvoke_state]; exact hsteps.trans h⟩
  · exact Or.inr ⟨q, vm₁, B, X₁.warmed, X', hpost, hstep₁ _ fun acts => by rw [doInvoke_state]; exact hsteps⟩
end Calls
theorem vx_cls {s : State} {T : State} {vm₁ : Vm} {E : String} {k : ClassId} (hW : s.WarmedH vm₁) (h : (T.setVm vm₁).vm.findClass E = some k) : s.vm.findClass E = some k := by
  have h1 : vm₁.findClass E = some k := h
  rw [hW.alike.findClass] at h1
  exact h1
/-- the method's frame g, with q thrown over it -/
def vx_W (p : Program) (l : Launch) (e : Env) (R : Room) (s : State) (m : MethodId) (args : Array Value) (below : List Frame) (meth : Method) (c : Code) (H : Heap) (locs : List Loc) (cells slots : Nat) (Q : State → Prop) (g : JFrame) (q : Addr) : Prop :=
  ∀ T : State, T.heap = H → Stand p l e R s m args below meth c T locs cells slots → ∃ t, Steps p.tables e below ((T.setTop g).pushFrame (.throwing q)) t ∧ Q t
def vx_Run (p : Program) (l : Launch) (e : Env) (R : Room) (s : State) (m : MethodId) (args : Array Value) (below : List Frame) (meth : Method) (c : Code) (H : Heap) (locs : List Loc) (cells slots mc ms : Nat) (g : JFrame) (rest : List Value) (Qa : State → Outcome → State → Prop) (XC : String → State → State → Prop) (free : Addr → Prop) : Prop :=
  ∀ T : State, T.heap = H → Stand p l e R s m args below meth c T locs cells slots →
    (∃ (v : Option Value) (st₀ t T' : State) (L : List Loc), st₀.heap = H ∧ Stand p l e R s m args below meth c T' (locs ++ L) (cells + mc) (slots + ms) ∧ (∀ q ∈ L, free q.base) ∧ T'.heap = t.heap ∧ T'.vm = t.vm ∧ Qa st₀ (.returned v) t ∧
      Goes p e below T g T' { g with pc := g.pc + 3, stack := v.toList ++ rest }) ∨
    (∃ (q : Addr) (st₀ t T' : State) (L : List Loc) (E : String) (ce : Cell), st₀.heap = H ∧ Stand p l e R s m args below meth c T' (locs ++ L) (cells + mc) (slots + ms) ∧ (∀ z ∈ L, free z.base) ∧ T'.heap = t.heap ∧ T'.vm = t.vm ∧ XC E st₀ t ∧ t.heap[q]? = some ce ∧ ce.vm = .none ∧ s.vm.findClass E = some ce.cls ∧
      Steps p.tables e below (T.setTop g) ((T'.setTop { g with stack := rest }).pushFrame (.throwing q)))
def vx_X {S : Type} (px : S → Prop) (B : String → S → State → Prop) (A : Nat → Prop) : String → State → State → Prop := fun E st t => ∃ u : S, px u ∧ B E u t ∧ va_F A st t
section Runs
variable {p : Program} {l : Launch} {e : Env} {R : Room} {s : State} {m : MethodId} {args : Array Value} {below : List Frame} {meth : Method} {c : Code} {H : Heap} {locs : List Loc} {cells slots : Nat}
variable {y : MethodName} {bytes cc : ByteArray} {maxL nL mc ms n index : Nat} {ret : Option FieldType} {ws : List Cond} {rm : Room} {Pc : Array Value → State → Prop} {Qc : Array Value → State → Outcome → State → Prop} {XC : String → State → State → Prop} {free : Addr → Prop} {Ts : List Cond} {own C : String} {b : Addr} {As rest : List Value} {g : JFrame}
theorem vx_callBack (cb : CallB R s args own index y bytes maxL ret ws rm mc ms n) (hM : vx_Met l y ws rm Pc Qc XC mc ms free) (hbl : FrameBlind Pc) : vx_Back l R p e below s args y 3 8 (PreOf R mc ms Pc) (PostOf Qc mc ms free) (vx_Post XC mc ms free) := by
  obtain ⟨hrc, hrs, hfr, hlo, hws, hcw, -, hini, -⟩ := cb
  exact vx_back (bytes := bytes) (maxL := maxL) (ret := ret) hM hbl hrc hrs hfr hlo hws hcw (fun a' U hW => word_at hW (Or.inl (by first | rfl | simp [Cond.onTables, Cond.keeps, Cond.steady])) hini)
theorem vx_runV (S : CallFix p m c cc nL s args Ts own) (hM : vx_Met l y ws rm Pc Qc XC mc ms free) (cw : CallW R s args own C index y bytes maxL ret ws rm mc ms n) (hp : PreV s H C b Pc As)
    (hg : g.method = m) (hn : As.length = n) (hsize : g.locals.size = nL) (hstack : g.stack = As.reverse ++ .ref b :: rest) (hW : 2 * g.monitorRoom + (rest.map fun v => v.category).sum ≤ 8) (hdg : decode cc g.pc = .ok (.invokevirtual index, 3)) (hf : cells + mc ≤ R.cells ∧ slots + ms ≤ R.slots) :
    vx_Run p l e R s m args below meth c H locs cells slots mc ms g rest (Qc (Value.ref b :: As).toArray) XC free := by
  have hK : vx_Back l R p e below s args y 3 8 (PreOf R mc ms Pc) (PostOf Qc mc ms free) (vx_Post XC mc ms free) := vx_callBack cw.1 hM hp.1
  obtain ⟨⟨-, -, -, -, -, -, hcode, -, hy, hlen, hl⟩, hin, hse⟩ := cw
  obtain ⟨hx, hb, hml, ho, -⟩ := S
  obtain ⟨-, ⟨cellB, hcB, hoB, hclB⟩, hPc⟩ := hp
  intro T hT X
  rcases vx_callV X hx (C := C) (bytes := bytes) (maxL := maxL) (ret := ret) ho hl hin hse hcode hy hK (by rw [hT]; exact hcB) hoB hclB hg (hsize.trans hml.symm) (argsL := As) (rest := rest) (fun sig h => hn.trans (hlen sig h)) hstack hW (by rw [hb]; exact hdg)
    (fun vm₁ hW₁ => ⟨hf.1, hf.2, hPc (T.setVm vm₁) hT hW₁⟩) with ⟨v, vm₁, ⟨U', l2, c2, s2⟩, hW₁, X', ⟨g', mk, t, L, e1, e2, hq, h1, hL, h2, h3⟩, st⟩ | ⟨q, vm₁, ⟨U', l2, c2, s2⟩, hW₁, X', ⟨g', mk, t, L, E, ce, e1, e2, hq, hce, hcv, hcl, h1, hL, h2, h3⟩, st⟩
  · dsimp only [Pt.U, Pt.locs, Pt.cells, Pt.slots] at X' e1 e2 h1 h2 h3 st
    subst h1; subst h2; subst h3
    exact Or.inl ⟨v, (T.setVm vm₁).calling g' mk (Value.ref b :: As).toArray, t, U', L, hT, X', hL, e1, e2, hq, st⟩
  · dsimp only [Pt.U, Pt.locs, Pt.cells, Pt.slots] at X' e1 e2 h1 h2 h3 st hcl
    subst h1; subst h2; subst h3
    exact Or.inr ⟨q, (T.setVm vm₁).calling g' mk (Value.ref b :: As).toArray, t, U', L, E, ce, hT, X', hL, e1, e2, hq, hce, hcv, vx_cls hW₁ hcl, st⟩
theorem vx_runS (S : CallFix p m c cc nL s args Ts own) (hM : vx_Met l y ws rm Pc Qc XC mc ms free) (cw : CallB R s args own index y bytes maxL ret ws rm mc ms n ∧ (Cond.static y).before args s = true) (hp : PreS s H Pc As)
    (hg : g.method = m) (hn : As.length = n) (hsize : g.locals.size = nL) (hstack : g.stack = As.reverse ++ rest) (hW : 2 * g.monitorRoom + (rest.map fun v => v.category).sum ≤ 8) (hdg : decode cc g.pc = .ok (.invokestatic index, 3)) (hf : cells + mc ≤ R.cells ∧ slots + ms ≤ R.slots) :
    vx_Run p l e R s m args below meth c H locs cells slots mc ms g rest (Qc As.toArray) XC free := by
  have hK : vx_Back l R p e below s args y 3 8 (PreOf R mc ms Pc) (PostOf Qc mc ms free) (vx_Post XC mc ms free) := vx_callBack cw.1 hM hp.1
  obtain ⟨⟨-, -, -, -, -, -, hcode, hini, hy, hlen, hl⟩, hstt⟩ := cw
  obtain ⟨hx, hb, hml, ho, -⟩ := S
  intro T hT X
  rcases vx_callS X hx (bytes := bytes) (maxL := maxL) (ret := ret) ho hl hstt hini hcode hy hK hg (hsize.trans hml.symm) (argsL := As) (rest := rest) (fun sig h => hn.trans (hlen sig h)) hstack hW (by rw [hb]; exact hdg)
    (fun vm₁ hW₁ => ⟨hf.1, hf.2, hp.2 (T.setVm vm₁) hT hW₁⟩) with ⟨v, vm₁, ⟨U', l2, c2, s2⟩, hW₁, X', ⟨g', mk, t, L, e1, e2, hq, h1, hL, h2, h3⟩, st⟩ | ⟨q, vm₁, ⟨U', l2, c2, s2⟩, hW₁, X', ⟨g', mk, t, L, E, ce, e1, e2, hq, hce, hcv, hcl, h1, hL, h2, h3⟩, st⟩
  · dsimp only [Pt.U, Pt.locs, Pt.cells, Pt.slots] at X' e1 e2 h1 h2 h3 st
    subst h1; subst h2; subst h3
    exact Or.inl ⟨v, (T.setVm vm₁).calling g' mk As.toArray, t, U', L, hT, X', hL, e1, e2, hq, st⟩
  · dsimp only [Pt.U, Pt.locs, Pt.cells, Pt.slots] at X' e1 e2 h1 h2 h3 st hcl
    subst h1; subst h2; subst h3
    exact Or.inr ⟨q, (T.setVm vm₁).calling g' mk As.toArray, t, U', L, E, ce, hT, X', hL, e1, e2, hq, hce, hcv, vx_cls hW₁ hcl, st⟩
end Runs
section Rows
variable {p : Program} {l : Launch} {e : Env} {R : Room} {s : State} {m : MethodId} {args : Array Value} {below : List Frame} {meth : Method} {c : Code} {H : Heap} {locs : List Loc} {cells slots : Nat} {Q : State → Prop}
variable {mc ms : Nat} {free : Addr → Prop} {A0 A1 : Nat → Prop} {H0 : Heap} {a : Array Value} {pc : Nat} {ls : Array Slot} {st0 rest : List Value}
theorem vx_keep {st₀ t T' : State} {L : List Loc} (h0 : st₀.heap = H) (e1 : T'.heap = t.heap) (hS : va_S A0 H0 H locs) (hA : ∀ q, q < H.size → A1 q → A0 q) (hf : ∀ q, free q → A0 q) (hL : ∀ q ∈ L, free q.base) (hF : va_F A1 st₀ t) :
    H.size ≤ T'.heap.size ∧ (∀ q : Nat, q < H.size → ¬ A1 q → T'.heap[q]? = H[q]?) ∧ va_S A0 H0 T'.heap (locs ++ L) := by
  obtain ⟨hz, hk⟩ := hF
  rw [h0] at hz hk
  exact ⟨by rw [e1]; exact hz, fun q h1 h2 => by rw [e1]; exact hk q h1 h2,
    ⟨Nat.le_trans hS.1 (by rw [e1]; exact hz), fun q h1 h2 => by rw [e1, hk q (Nat.lt_of_lt_of_le h1 hS.1) (fun z => h2 (hA q (Nat.lt_of_lt_of_le h1 hS.1) z))]; exact hS.2.1 q h1 h2, fun q hq => by
      rcases List.mem_append.mp hq with h | h
      · exact hS.2.2 q h
      · exact hf _ (hL q h)⟩⟩
theorem vx_calli {S SX : Type} {post : Int32 → S → Prop} {px : SX → Prop} {B : S → State → Prop} {BX : String → SX → State → Prop} {AX : Nat → Prop} (hr : vx_Run p l e R s m args below meth c H locs cells slots mc ms (F0 m pc ls st0) rest (va_Qi post B A1 a) (vx_X px BX AX) free) (hS : va_S A0 H0 H locs) (hA : ∀ q, q < H.size → A1 q → A0 q) (hf : ∀ q, free q → A0 q) (hAX : ∀ q, q < H.size → AX q → A0 q)
    (kx : ∀ (E : String) (ce : Cell) (q9 : Addr) (u : SX) (t : State) (H1 : Heap) (locs1 : List Loc), t.heap = H1 → s.vm.Alike t.vm → px u → BX E u t → H.size ≤ H1.size → (∀ q : Nat, q < H.size → ¬ AX q → H1[q]? = H[q]?) → va_S A0 H0 H1 locs1 → H1[q9]? = some ce → ce.vm = .none → s.vm.findClass E = some ce.cls → vx_W p l e R s m args below meth c H1 locs1 (cells + mc) (slots + ms) Q (F0 m pc ls rest) q9)
    (kk : ∀ (r : Int32) (u : S) (t : State) (H1 : Heap) (locs1 : List Loc), t.heap = H1 → s.vm.Alike t.vm → post r u → B u t → H.size ≤ H1.size → (∀ q : Nat, q < H.size → ¬ A1 q → H1[q]? = H[q]?) → va_S A0 H0 H1 locs1 → W p l e R s m args below meth c H1 locs1 (cells + mc) (slots + ms) Q (F0 m (pc + 3) ls (.int r :: rest))) : W p l e R s m args below meth c H locs cells slots Q (F0 m pc ls st0) := by
  intro T hT X
  rcases hr T hT X with ⟨v, st₀, t, T', L, h0, X', hL, e1, e2, ⟨⟨r, u, hv, hp, hb⟩, hF⟩, st⟩ | ⟨q, st₀, t, T', L, E, ce, h0, X', hL, e1, e2, ⟨u, hp, hb, hF⟩, hce, hcv, hcl, st⟩
  · cases hv
    obtain ⟨k1, k2, k3⟩ := vx_keep h0 e1 hS hA hf hL hF
    obtain ⟨t2, a1, b1⟩ := kk r u t T'.heap (locs ++ L) e1.symm (by rw [← e2]; exact X'.warmed.alike) hp hb k1 k2 k3 T' rfl X'
    exact ⟨t2, st t2 a1, b1⟩
  · obtain ⟨k1, k2, k3⟩ := vx_keep h0 e1 hS hAX hf hL hF
    obtain ⟨t2, a1, b1⟩ := kx E ce q u t T'.heap (locs ++ L) e1.symm (by rw [← e2]; exact X'.warmed.alike) hp hb k1 k2 k3 (by rw [e1]; exact hce) hcv hcl T' rfl X'
    exact ⟨t2, st.trans a1, b1⟩
theorem vx_calll {S SX : Type} {post : Int64 → S → Prop} {px : SX → Prop} {B : S → State → Prop} {BX : String → SX → State → Prop} {AX : Nat → Prop} (hr : vx_Run p l e R s m args below meth c H locs cells slots mc ms (F0 m pc ls st0) rest (va_Ql post B A1 a) (vx_X px BX AX) free) (hS : va_S A0 H0 H locs) (hA : ∀ q, q < H.size → A1 q → A0 q) (hf : ∀ q, free q → A0 q) (hAX : ∀ q, q < H.size → AX q → A0 q)
    (kx : ∀ (E : String) (ce : Cell) (q9 : Addr) (u : SX) (t : State) (H1 : Heap) (locs1 : List Loc), t.heap = H1 → s.vm.Alike t.vm → px u → BX E u t → H.size ≤ H1.size → (∀ q : Nat, q < H.size → ¬ AX q → H1[q]? = H[q]?) → va_S A0 H0 H1 locs1 → H1[q9]? = some ce → ce.vm = .none → s.vm.findClass E = some ce.cls → vx_W p l e R s m args below meth c H1 locs1 (cells + mc) (slots + ms) Q (F0 m pc ls rest) q9)
    (kk : ∀ (r : Int64) (u : S) (t : State) (H1 : Heap) (locs1 : List Loc), t.heap = H1 → s.vm.Alike t.vm → post r u → B u t → H.size ≤ H1.size → (∀ q : Nat, q < H.size → ¬ A1 q → H1[q]? = H[q]?) → va_S A0 H0 H1 locs1 → W p l e R s m args below meth c H1 locs1 (cells + mc) (slots + ms) Q (F0 m (pc + 3) ls (.long r :: rest))) : W p l e R s m args below meth c H locs cells slots Q (F0 m pc ls st0) := by
  intro T hT X
  rcases hr T hT X with ⟨v, st₀, t, T', L, h0, X', hL, e1, e2, ⟨⟨r, u, hv, hp, hb⟩, hF⟩, st⟩ | ⟨q, st₀, t, T', L, E, ce, h0, X', hL, e1, e2, ⟨u, hp, hb, hF⟩, hce, hcv, hcl, st⟩
  · cases hv
    obtain ⟨k1, k2, k3⟩ := vx_keep h0 e1 hS hA hf hL hF
    obtain ⟨t2, a1, b1⟩ := kk r u t T'.heap (locs ++ L) e1.symm (by rw [← e2]; exact X'.warmed.alike) hp hb k1 k2 k3 T' rfl X'
    exact ⟨t2, st t2 a1, b1⟩
  · obtain ⟨k1, k2, k3⟩ := vx_keep h0 e1 hS hAX hf hL hF
    obtain ⟨t2, a1, b1⟩ := kx E ce q u t T'.heap (locs ++ L) e1.symm (by rw [← e2]; exact X'.warmed.alike) hp hb k1 k2 k3 (by rw [e1]; exact hce) hcv hcl T' rfl X'
    exact ⟨t2, st.trans a1, b1⟩
theorem vx_callf {S SX : Type} {post : UInt32 → S → Prop} {px : SX → Prop} {B : S → State → Prop} {BX : String → SX → State → Prop} {AX : Nat → Prop} (hr : vx_Run p l e R s m args below meth c H locs cells slots mc ms (F0 m pc ls st0) rest (va_Qf post B A1 a) (vx_X px BX AX) free) (hS : va_S A0 H0 H locs) (hA : ∀ q, q < H.size → A1 q → A0 q) (hf : ∀ q, free q → A0 q) (hAX : ∀ q, q < H.size → AX q → A0 q)
    (kx : ∀ (E : String) (ce : Cell) (q9 : Addr) (u : SX) (t : State) (H1 : Heap) (locs1 : List Loc), t.heap = H1 → s.vm.Alike t.vm → px u → BX E u t → H.size ≤ H1.size → (∀ q : Nat, q < H.size → ¬ AX q → H1[q]? = H[q]?) → va_S A0 H0 H1 locs1 → H1[q9]? = some ce → ce.vm = .none → s.vm.findClass E = some ce.cls → vx_W p l e R s m args below meth c H1 locs1 (cells + mc) (slots + ms) Q (F0 m pc ls rest) q9)
    (kk : ∀ (r : UInt32) (u : S) (t : State) (H1 : Heap) (locs1 : List Loc), t.heap = H1 → s.vm.Alike t.vm → post r u → B u t → H.size ≤ H1.size → (∀ q : Nat, q < H.size → ¬ A1 q → H1[q]? = H[q]?) → va_S A0 H0 H1 locs1 → W p l e R s m args below meth c H1 locs1 (cells + mc) (slots + ms) Q (F0 m (pc + 3) ls (.float r :: rest))) : W p l e R s m args below meth c H locs cells slots Q (F0 m pc ls st0) := by
  intro T hT X
  rcases hr T hT X with ⟨v, st₀, t, T', L, h0, X', hL, e1, e2, ⟨⟨r, u, hv, hp, hb⟩, hF⟩, st⟩ | ⟨q, st₀, t, T', L, E, ce, h0, X', hL, e1, e2, ⟨u, hp, hb, hF⟩, hce, hcv, hcl, st⟩
  · cases hv
    obtain ⟨k1, k2, k3⟩ := vx_keep h0 e1 hS hA hf hL hF
    obtain ⟨t2, a1, b1⟩ := kk r u t T'.heap (locs ++ L) e1.symm (by rw [← e2]; exact X'.warmed.alike) hp hb k1 k2 k3 T' rfl X'
    exact ⟨t2, st t2 a1, b1⟩
  · obtain ⟨k1, k2, k3⟩ := vx_keep h0 e1 hS hAX hf hL hF
    obtain ⟨t2, a1, b1⟩ := kx E ce q u t T'.heap (locs ++ L) e1.symm (by rw [← e2]; exact X'.warmed.alike) hp hb k1 k2 k3 (by rw [e1]; exact hce) hcv hcl T' rfl X'
    exact ⟨t2, st.trans a1, b1⟩
theorem vx_calld {S SX : Type} {post : UInt64 → S → Prop} {px : SX → Prop} {B : S → State → Prop} {BX : String → SX → State → Prop} {AX : Nat → Prop} (hr : vx_Run p l e R s m args below meth c H locs cells slots mc ms (F0 m pc ls st0) rest (va_Qd post B A1 a) (vx_X px BX AX) free) (hS : va_S A0 H0 H locs) (hA : ∀ q, q < H.size → A1 q → A0 q) (hf : ∀ q, free q → A0 q) (hAX : ∀ q, q < H.size → AX q → A0 q)
    (kx : ∀ (E : String) (ce : Cell) (q9 : Addr) (u : SX) (t : State) (H1 : Heap) (locs1 : List Loc), t.heap = H1 → s.vm.Alike t.vm → px u → BX E u t → H.size ≤ H1.size → (∀ q : Nat, q < H.size → ¬ AX q → H1[q]? = H[q]?) → va_S A0 H0 H1 locs1 → H1[q9]? = some ce → ce.vm = .none → s.vm.findClass E = some ce.cls → vx_W p l e R s m args below meth c H1 locs1 (cells + mc) (slots + ms) Q (F0 m pc ls rest) q9)
    (kk : ∀ (r : UInt64) (u : S) (t : State) (H1 : Heap) (locs1 : List Loc), t.heap = H1 → s.vm.Alike t.vm → post r u → B u t → H.size ≤ H1.size → (∀ q : Nat, q < H.size → ¬ A1 q → H1[q]? = H[q]?) → va_S A0 H0 H1 locs1 → W p l e R s m args below meth c H1 locs1 (cells + mc) (slots + ms) Q (F0 m (pc + 3) ls (.double r :: rest))) : W p l e R s m args below meth c H locs cells slots Q (F0 m pc ls st0) := by
  intro T hT X
  rcases hr T hT X with ⟨v, st₀, t, T', L, h0, X', hL, e1, e2, ⟨⟨r, u, hv, hp, hb⟩, hF⟩, st⟩ | ⟨q, st₀, t, T', L, E, ce, h0, X', hL, e1, e2, ⟨u, hp, hb, hF⟩, hce, hcv, hcl, st⟩
  · cases hv
    obtain ⟨k1, k2, k3⟩ := vx_keep h0 e1 hS hA hf hL hF
    obtain ⟨t2, a1, b1⟩ := kk r u t T'.heap (locs ++ L) e1.symm (by rw [← e2]; exact X'.warmed.alike) hp hb k1 k2 k3 T' rfl X'
    exact ⟨t2, st t2 a1, b1⟩
  · obtain ⟨k1, k2, k3⟩ := vx_keep h0 e1 hS hAX hf hL hF
    obtain ⟨t2, a1, b1⟩ := kx E ce q u t T'.heap (locs ++ L) e1.symm (by rw [← e2]; exact X'.warmed.alike) hp hb k1 k2 k3 (by rw [e1]; exact hce) hcv hcl T' rfl X'
    exact ⟨t2, st.trans a1, b1⟩
theorem vx_callv {S SX : Type} {post : S → Prop} {px : SX → Prop} {B : S → State → Prop} {BX : String → SX → State → Prop} {AX : Nat → Prop} (hr : vx_Run p l e R s m args below meth c H locs cells slots mc ms (F0 m pc ls st0) rest (va_Qv post B A1 a) (vx_X px BX AX) free) (hS : va_S A0 H0 H locs) (hA : ∀ q, q < H.size → A1 q → A0 q) (hf : ∀ q, free q → A0 q) (hAX : ∀ q, q < H.size → AX q → A0 q)
    (kx : ∀ (E : String) (ce : Cell) (q9 : Addr) (u : SX) (t : State) (H1 : Heap) (locs1 : List Loc), t.heap = H1 → s.vm.Alike t.vm → px u → BX E u t → H.size ≤ H1.size → (∀ q : Nat, q < H.size → ¬ AX q → H1[q]? = H[q]?) → va_S A0 H0 H1 locs1 → H1[q9]? = some ce → ce.vm = .none → s.vm.findClass E = some ce.cls → vx_W p l e R s m args below meth c H1 locs1 (cells + mc) (slots + ms) Q (F0 m pc ls rest) q9)
    (kk : ∀ (u : S) (t : State) (H1 : Heap) (locs1 : List Loc), t.heap = H1 → s.vm.Alike t.vm → post u → B u t → H.size ≤ H1.size → (∀ q : Nat, q < H.size → ¬ A1 q → H1[q]? = H[q]?) → va_S A0 H0 H1 locs1 → W p l e R s m args below meth c H1 locs1 (cells + mc) (slots + ms) Q (F0 m (pc + 3) ls (rest))) : W p l e R s m args below meth c H locs cells slots Q (F0 m pc ls st0) := by
  intro T hT X
  rcases hr T hT X with ⟨v, st₀, t, T', L, h0, X', hL, e1, e2, ⟨⟨u, hv, hp, hb⟩, hF⟩, st⟩ | ⟨q, st₀, t, T', L, E, ce, h0, X', hL, e1, e2, ⟨u, hp, hb, hF⟩, hce, hcv, hcl, st⟩
  · cases hv
    obtain ⟨k1, k2, k3⟩ := vx_keep h0 e1 hS hA hf hL hF
    obtain ⟨t2, a1, b1⟩ := kk u t T'.heap (locs ++ L) e1.symm (by rw [← e2]; exact X'.warmed.alike) hp hb k1 k2 k3 T' rfl X'
    exact ⟨t2, st t2 a1, b1⟩
  · obtain ⟨k1, k2, k3⟩ := vx_keep h0 e1 hS hAX hf hL hF
    obtain ⟨t2, a1, b1⟩ := kx E ce q u t T'.heap (locs ++ L) e1.symm (by rw [← e2]; exact X'.warmed.alike) hp hb k1 k2 k3 (by rw [e1]; exact hce) hcv hcl T' rfl X'
    exact ⟨t2, st.trans a1, b1⟩
/-- caught by the row x of this method's table; the rows ahead don't take it -/
theorem vx_catch {own name : String} {E : String} {ce : Cell} {q : Addr} (hown : s.vm.findClass own = some m.cls) (pre : List ExceptionTableEntry) (x : ExceptionTableEntry) (suf : List ExceptionTableEntry) (hsplit : c.exceptionTable.toList = pre ++ x :: suf)
    (hpass : ∀ z ∈ pre, covers z pc = false ∨ (z.catchType ≠ 0 ∧ ∃ nm : String, (Cond.classLink own z.catchType nm).before args s = true ∧ va_Nc E nm s)) (hx : covers x pc = true) (h0 : x.catchType ≠ 0)
    (hlink : (Cond.classLink own x.catchType name).before args s = true) (hcast : (Cond.castable E name).before args s = true) (hcell : H[q]? = some ce) (hv : ce.vm = .none) (hcl : s.vm.findClass E = some ce.cls)
    (kk : W p l e R s m args below meth c H locs cells slots Q (F0 m x.handlerPc ls [.ref q])) : vx_W p l e R s m args below meth c H locs cells slots Q (F0 m pc ls rest) q := by
  intro T hT X
  have hpl : e.platform.magicAccessors = ({} : Platform).magicAccessors := by rw [X.admits.platform]
  obtain ⟨c3, c4, hc3, hc4, hasg⟩ := Cond.castable_spec hcast
  cases Option.some.inj (hc3.symm.trans hcl)
  obtain ⟨c5, hc5, hcl5⟩ := Cond.classLink_spec hown hlink e.platform hpl
  cases Option.some.inj (hc4.symm.trans hc5)
  obtain ⟨vm', X', st⟩ := X.thenCaughtThrough q (g := F0 m pc ls rest) rfl (Steps.refl _) (by rw [hT]; exact hcell) (by rw [hv]; rfl) (by obtain ⟨k9, h9, -⟩ := Vm.findClass_spec hcl; exact ⟨k9, h9⟩) pre x suf hsplit
    (fun z hz => by
      rcases hpass z hz with h | ⟨hz0, nm, hl1, hn1⟩
      · exact Or.inl h
      · obtain ⟨c6, hc6, hcl6⟩ := Cond.classLink_spec hown hl1 e.platform hpl
        obtain ⟨a8, b8, h1, h2, h3⟩ := hn1
        cases Option.some.inj (h1.symm.trans hcl)
        cases Option.some.inj (h2.symm.trans hc6)
        exact Or.inr ⟨hz0, _, hcl6, h3⟩) hx (Or.inr ⟨h0, c4, hcl5, hasg⟩)
  obtain ⟨t, a1, b1⟩ := kk (T.setVm vm') hT X'
  exact ⟨t, st.trans a1, b1⟩
end Rows
section Ends
variable {p : Program} {l : Launch} {e : Env} {R : Room} {s : State} {m : MethodId} {args : Array Value} {below : List Frame} {meth : Method} {c : Code} {H : Heap} {locs : List Loc} {cells slots : Nat} {Q : State → Prop}
variable {mc ms : Nat} {free : Addr → Prop} {A0 A1 : Nat → Prop} {H0 : Heap} {a : Array Value} {ls : Array Slot} {st0 rest : List Value}
variable {Qc : Array Value → State → Outcome → State → Prop} {XC : String → State → State → Prop}
/-- what a body that may throw owes at its end -/
def vx_MQ (below : List Frame) (Qc : Array Value → State → Outcome → State → Prop) (XC : String → State → State → Prop) (a : Array Value) (s : State) (mc ms : Nat) (free : Addr → Prop) : State → Prop := fun t =>
  ∃ o, t.status = .running ∧ Ended t below o ∧ vx_Q Qc XC mc ms free a s o t
theorem vx_ret {g : JFrame} {mc ms : Nat} (k : W p l e R s m args below meth c H locs cells slots (MQ below Qc args s mc ms free) g) : W p l e R s m args below meth c H locs cells slots (vx_MQ below Qc XC args s mc ms free) g := by
  intro T hT X
  obtain ⟨t, a1, o, b1, b2, b3, b4⟩ := k T hT X
  exact ⟨t, a1, o, b1, b2, Or.inl ⟨b3, b4⟩⟩
/-- not caught here: it goes on to the caller -/
theorem vx_widen {g : JFrame} {q : Addr} {k n : Nat} (h1 : cells ≤ k) (h2 : slots ≤ n) (kk : vx_W p l e R s m args below meth c H locs k n Q g q) : vx_W p l e R s m args below meth c H locs cells slots Q g q := fun T hT X => kk T hT (stand_widen X h1 h2)
theorem vx_out {pc : Nat} {E : String} {ce : Cell} {q : Addr} {mc ms : Nat} (hout : ∀ x ∈ c.exceptionTable.toList, covers x pc = false) (hlocks : meth.locks = false) (hcell : H[q]? = some ce) (hv : ce.vm = .none) (hcl : s.vm.findClass E = some ce.cls)
    (hx : ∀ t : State, t.heap = H → s.vm.Alike t.vm → XC E s t) (hf : ∀ z ∈ locs, free z.base) (hc : cells ≤ mc) (hs : slots ≤ ms) :
    vx_W p l e R s m args below meth c H locs cells slots (vx_MQ below Qc XC args s mc ms free) (F0 m pc ls rest) q := by
  intro T hT X
  obtain ⟨st1, hrun, hend, hW, hsm⟩ := X.leaveThrown q (g := F0 m pc ls rest) rfl rfl rfl hout hlocks
  have hcell9 : (T.setFrames (.throwing q :: below)).heap[q]? = some ce := by
    show T.heap[q]? = some ce
    rw [hT]; exact hcell
  exact ⟨_, st1, .threw q, hrun, hend, Or.inr ⟨q, rfl, E, ce, locs, hx _ hT hW.alike, hcell9, hv, hcl, hW, hsm.mono hc hs, hf⟩⟩
theorem vx_frame {U : State} {k n : Nat} (h : s.sameButNew ({ U with vm := s.vm } : State) locs k n) : s.heap.size ≤ U.heap.size ∧ ∀ q : Nat, q < s.heap.size → (∀ z ∈ locs, z.base ≠ q) → U.heap[q]? = s.heap[q]? := by
  obtain ⟨-, h2, -, -, -, h6⟩ := h
  refine ⟨h2, fun q hq hz => ?_⟩
  obtain ⟨c9, e1, e2, e3, e4⟩ := h6 q _ (Array.getElem?_eq_getElem hq)
  have hs : c9.slots = (s.heap[q]).slots := Array.ext_getElem? fun i => e4 i fun hm => hz _ hm rfl
  have h9 : c9 = s.heap[q] := by
    rw [hs] at e2
    exact e2
  have e5 : U.heap[q]? = some c9 := e1
  rw [e5, h9, Array.getElem?_eq_getElem hq]
/-- the words of a throw but the four that speak of the heap -/
def vx_no (w : Cond) : Bool := decide (w ≠ .isRef (.static Bundle.tN "UNASSIGNED_STACK" Bundle.steD)) && decide (w ≠ .isRef (.static Bundle.tN "SUPPRESSED_SENTINEL" Bundle.listD)) && decide (w ≠ .laysStatic Bundle.tN "UNASSIGNED_STACK" Bundle.steD) && decide (w ≠ .laysStatic Bundle.tN "SUPPRESSED_SENTINEL" Bundle.listD)
def vx_at0 (own : String) (ic : Nat) (X : String) (names : List String) : List Cond := (Bundle.ownAtoms0 own ic X names).filter vx_no
def vx_atS (own : String) (ic : Nat) (X : String) (names : List String) : List Cond := (Bundle.ownAtoms own ic X names).filter vx_no
/-- a word that the tables alone decide, or a good one -/
def vx_ot (w : Cond) : Bool := w.onTables || goodWord w
theorem vx_ot_at {args a' : Array Value} {s U : State} {w : Cond} (hW : s.WarmedH U.vm) (hvm : s.vm = U.vm) (hg : vx_ot w = true) (h : w.before args s = true) : w.before a' U = true := by
  simp only [vx_ot, Bool.or_eq_true] at hg
  rcases hg with hg | hg
  · exact va_tabs hg hvm h
  · exact word_at hW (good_of_word hg) h
/-- a list's words: the good ones out of the method's own list, the others by premises of their own -/
theorem vx_hat {args : Array Value} {s : State} {L B : List Cond} (h1 : ∀ w ∈ L.filter goodWord, w.before args s = true) (h2 : ∀ w ∈ L.filter (fun w => !goodWord w), w ∈ B) (h3 : ∀ w ∈ B, w.before args s = true) : ∀ w ∈ L, w.before args s = true := by
  intro w hw
  by_cases g : goodWord w = true
  · exact h1 w (List.mem_filter.mpr ⟨hw, g⟩)
  · refine h3 w (h2 w (List.mem_filter.mpr ⟨hw, ?_⟩))
    show (!goodWord w) = true
    cases hgw : goodWord w
    · rfl
    · exact absurd hgw g
theorem vx_c {args : Array Value} {s : State} {w : Cond} {B : List Cond} (h : w.before args s = true) (t : ∀ w ∈ B, w.before args s = true) : ∀ w' ∈ w :: B, w'.before args s = true := fun w' h' => (List.mem_cons.mp h').elim (fun e => by rw [e]; exact h) (t w')
theorem vx_n {args : Array Value} {s : State} : ∀ w ∈ ([] : List Cond), w.before args s = true := fun _ h => nomatch h
theorem vx_own {args : Array Value} {s : State} {L : List Cond} (h1 : ∀ w ∈ L.filter vx_no, w.before args s = true)
    (hU : (Cond.isRef (.static Bundle.tN "UNASSIGNED_STACK" Bundle.steD)).before args s = true) (hN : (Cond.isRef (.static Bundle.tN "SUPPRESSED_SENTINEL" Bundle.listD)).before args s = true)
    (lU : (Cond.laysStatic Bundle.tN "UNASSIGNED_STACK" Bundle.steD).before args s = true) (lN : (Cond.laysStatic Bundle.tN "SUPPRESSED_SENTINEL" Bundle.listD).before args s = true) : ∀ w ∈ L, w.before args s = true := by
  intro w hw
  by_cases e1 : w = .isRef (.static Bundle.tN "UNASSIGNED_STACK" Bundle.steD)
  · rw [e1]; exact hU
  · by_cases e2 : w = .isRef (.static Bundle.tN "SUPPRESSED_SENTINEL" Bundle.listD)
    · rw [e2]; exact hN
    · by_cases e3 : w = .laysStatic Bundle.tN "UNASSIGNED_STACK" Bundle.steD
      · rw [e3]; exact lU
      · by_cases e4 : w = .laysStatic Bundle.tN "SUPPRESSED_SENTINEL" Bundle.listD
        · rw [e4]; exact lN
        · exact h1 w (List.mem_filter.mpr ⟨hw, by unfold vx_no; rw [decide_eq_true e1, decide_eq_true e2, decide_eq_true e3, decide_eq_true e4]; rfl⟩)
/-- where a static field lies, its class's statics cell in H -/
def vx_L (C n d : String) (A : Nat → Prop) (U : State) (H : Heap) : Prop := ∃ (c : ClassId) (k : Class) (i : Nat) (f : Field) (a : Nat) (cell : Cell), U.vm.findClass C = some c ∧ U.fieldFound? C n d = some (c, k, i, f) ∧ f.isStatic = true ∧ k.statics = some a ∧ H[a]? = some cell ∧ cell.vm.isStatics = true ∧ cell.cls = c ∧ f.slot < cell.slots.size ∧ k.staticTypes[f.slot]? = some f.type ∧ ¬ A a
theorem vx_L.moved {C n d : String} {A : Nat → Prop} {u U : State} {H : Heap} (hvm : u.vm.Alike U.vm) (h : vx_L C n d A u H) : vx_L C n d A U H := by
  obtain ⟨c, k, i, f, a, cell, h1, h2, h3, h4, h5, h6, h7, h8, h9, h10⟩ := h
  obtain ⟨k', hi', he⟩ := State.fieldFound?_setVm hvm h2
  exact ⟨c, k', i, f, a, cell, by rw [hvm.findClass]; exact h1, hi', h3, by rw [he]; exact h4, h5, h6, h7, h8, by rw [he]; exact h9, h10⟩
theorem vx_L.kept {C n d : String} {A : Nat → Prop} {U : State} {H H1 : Heap} (h : vx_L C n d A U H) (hq : ∀ a : Nat, a < H.size → ¬ A a → H1[a]? = H[a]?) : vx_L C n d A U H1 := by
  obtain ⟨c, k, i, f, a, cell, h1, h2, h3, h4, h5, h6, h7, h8, h9, h10⟩ := h
  exact ⟨c, k, i, f, a, cell, h1, h2, h3, h4, by rw [hq a (Array.getElem?_eq_some_iff.mp h5).1 h10]; exact h5, h6, h7, h8, h9, h10⟩
theorem vx_L.narrow {C n d : String} {A B : Nat → Prop} {U : State} {H : Heap} (h : vx_L C n d A U H) (hAB : ∀ q, B q → A q) : vx_L C n d B U H := by
  obtain ⟨c, k, i, f, a, cell, h1, h2, h3, h4, h5, h6, h7, h8, h9, h10⟩ := h
  exact ⟨c, k, i, f, a, cell, h1, h2, h3, h4, h5, h6, h7, h8, h9, fun z => h10 (hAB _ z)⟩
theorem vx_L.word {C n d : String} {A : Nat → Prop} {s : State} {args : Array Value} (h : vx_L C n d A s s.heap) : (Cond.laysStatic C n d).before args s = true := by
  obtain ⟨c, k, i, f, a, cell, h1, h2, h3, h4, h5, h6, h7, h8, h9, -⟩ := h
  show (Cond.laysStatic C n d).holds args s none s [] = true
  exact Cond.laysStatic_of h1 h2 h3 h4 h5 h6 h7 h8 h9
/-- .. and what it holds: null or some reference -/
def vx_Zq (C n d : String) (A : Nat → Prop) (U : State) (H : Heap) : Prop := va_Zq C n d A U H ∧ vx_L C n d A U H
theorem vx_Zq.moved {C n d : String} {A : Nat → Prop} {u U : State} {H : Heap} (hvm : u.vm.Alike U.vm) (h : vx_Zq C n d A u H) : vx_Zq C n d A U H := ⟨va_Zq.moved hvm h.1, vx_L.moved hvm h.2⟩
theorem vx_Zq.kept {C n d : String} {A : Nat → Prop} {U : State} {H H1 : Heap} (h : vx_Zq C n d A U H) (hq : ∀ a : Nat, a < H.size → ¬ A a → H1[a]? = H[a]?) : vx_Zq C n d A U H1 := ⟨va_Zq.kept h.1 hq, vx_L.kept h.2 hq⟩
theorem vx_Zq.narrow {C n d : String} {A B : Nat → Prop} {U : State} {H : Heap} (h : vx_Zq C n d A U H) (hAB : ∀ q, B q → A q) : vx_Zq C n d B U H := ⟨va_Zq.narrow h.1 hAB, vx_L.narrow h.2 hAB⟩
theorem vx_Zqof {args : Array Value} {s : State} {C n d : String} {A : Nat → Prop} (hl : (Cond.laysStatic C n d).before args s = true) (hini : (Cond.initialized C).before args s = true) (h : (Cond.isRef (.static C n d)).before args s = true) (hA : ∀ a : Nat, a < s.heap.size → ¬ A a) : vx_Zq C n d A s s.heap := by
  refine ⟨va_Zqof hl hini h hA, ?_⟩
  obtain ⟨c, k, i, f, a, cell, h1, h2, h3, h4, h5, h6, h7, h8, h9⟩ := Cond.laysStatic_spec hl
  exact ⟨c, k, i, f, a, cell, h1, h2, h3, h4, h5, h6, h7, h8, h9, hA a (Array.getElem?_eq_some_iff.mp h5).1⟩
theorem vx_isRef {C n d : String} {v : Value} {A : Nat → Prop} {s : State} {args : Array Value} (h : va_Z C n d v A s s.heap) (hv : v.isRef = true) : (Cond.isRef (.static C n d)).before args s = true := by
  obtain ⟨cf, kf, fi, f, a, cell, h1, h2, h3, h4, h5, h6, h7, -⟩ := h
  have he : (Term.static C n d).eval args s none [] s = some v := by
    simp [Term.eval, State.fieldNamed?, h1, h2, h4, h5, h6, h7]
  simp only [Cond.before, Cond.holds, Cond.value, he]
  cases v <;> simp_all [Value.isRef]
theorem vx_isRefq {C n d : String} {A : Nat → Prop} {s : State} {args : Array Value} (h : va_Zq C n d A s s.heap) : (Cond.isRef (.static C n d)).before args s = true := by
  rcases h with h | ⟨t, h⟩
  · exact vx_isRef h rfl
  · exact vx_isRef h rfl
/-- the same frame, seen from here: as if the method were called anew in this heap -/
theorem vx_rebase {T : State} (X : Stand p l e R s m args below meth c T locs cells slots) {R' : Room} (hf : R'.frames ≤ R.frames) (hl : R'.locals ≤ R.locals) (hc : cells + R'.cells ≤ R.cells) (hs : slots + R'.slots ≤ R.slots) :
    Stand p l e R' ((T.setVm s.vm).setFrames (.invoking m args :: below)) m args below meth c T [] 0 0 := by
  have htop : (T.setVm s.vm).topJava?.isSome := X.here.top
  have hF : ((T.setVm s.vm).setFrames (.invoking m args :: below)).frames = .invoking m args :: below := State.frames_setFrames _ (State.cur_lt_of_top htop)
  obtain ⟨g₀, hg0⟩ := Option.isSome_iff_exists.mp htop
  obtain ⟨r, hr⟩ := State.topJava?_eq_some.mp hg0
  have hl9 : e.platform.stackLimits (T.setVm s.vm).me = e.platform.stackLimits s.me := X.limits
  have hb9 : (T.setVm s.vm).me.stackBytes = s.me.stackBytes := X.bytes
  refine ⟨X.admits, X.cas, X.clock, hF, ?_, X.hears, X.method, X.code, X.here, X.tail, X.warmed, ?_, ?_, ?_⟩
  · have h := X.room
    have hU : ((T.setVm s.vm).setFrames (.invoking m args :: below)).localsInUse = s.localsInUse := by
      rw [State.localsInUse_invoking hF (meth := meth) (c := c) X.method X.code, State.localsInUse_invoking X.frames X.method X.code]
    simp only [State.hasRoom, Bool.and_eq_true, decide_eq_true_eq] at h ⊢
    obtain ⟨⟨⟨⟨h1, h2, h3, h4, h5, h6⟩, h7⟩, h8⟩, h9⟩ := h
    rw [X.frames, List.length_cons] at h2 h3
    have q1 := X.heapSize
    have q2 := X.used
    simp only [hF, hU, List.length_cons, State.stackLimits_setFrames, State.stackBytes_setFrames, hl9, hb9]
    refine ⟨⟨⟨⟨by omega, by omega, by omega, by omega, by omega, h6⟩, ?_⟩, ?_⟩, X.book⟩
    · show T.heap.size + R'.cells ≤ e.platform.maxCells
      omega
    · show T.slotsUsed + R'.slots ≤ e.platform.maxSlots
      omega
  · rw [State.stackLimits_setFrames]; rfl
  · rw [State.stackBytes_setFrames]; rfl
  · refine ⟨?_, Nat.le_refl _, Nat.le_refl _, ?_, ?_, fun a c9 h9 => ⟨c9, h9, rfl, rfl, fun _ _ => rfl⟩⟩
    · obtain ⟨t, ht, -⟩ := State.frames_cons hr
      show T.setVm s.vm = { ((T.setVm s.vm).setFrames (.invoking m args :: below)).setFrames (T.setVm s.vm).frames with heap := T.heap, slotsUsed := T.slotsUsed }
      rw [State.setFrames_setFrames, State.setFrames_self ht]
      rfl
    · show T.slotsUsed = T.slotsUsed + ((T.heap.toList.drop T.heap.size).map (·.slots.size)).sum
      rw [List.drop_eq_nil_of_le (Nat.le_of_eq Array.length_toList)]
      rfl
    · show ((T.heap.toList.drop T.heap.size).map (·.slots.size)).sum ≤ 0
      rw [List.drop_eq_nil_of_le (Nat.le_of_eq Array.length_toList)]
      exact Nat.le_refl _
/-- 'throw new E()': new; dup; invokespecial; athrow -/
theorem vx_throw0 {cc : ByteArray} {pc : Nat} (hexec : p.tables.exec = Jvm.exec) (hb : c.code = cc) (hl : l.stackTraces = false) {own cls : String} {names : List String} {ik ic mc ms : Nat} {A : Nat → Prop}
    (hown : s.vm.findClass own = some m.cls) (hcls : Bundle.fit cls = true) (hnames : ∀ n ∈ names, Bundle.fit n = true)
    (hk : (Cond.classLink own ik cls).before args s = true) (hini : (Cond.initialized cls).before args s = true) (hat : ∀ w ∈ vx_at0 own ic cls names, w.before args s = true)
    (hgood : ∀ w ∈ Cond.classLink own ik cls :: Cond.initialized cls :: vx_at0 own ic cls names, vx_ot w = true)
    (hU : vx_Zq Bundle.tN "UNASSIGNED_STACK" Bundle.steD A s s.heap) (hN : vx_Zq Bundle.tN "SUPPRESSED_SENTINEL" Bundle.listD A s s.heap) (hS : va_S A s.heap H locs) (hsize : ls.size = c.maxLocals)
    (d0 : decode cc pc = .ok (.new ik, 3)) (d3 : decode cc (pc + 3) = .ok (.dup, 1)) (d4 : decode cc (pc + 4) = .ok (.invokespecial ic, 3)) (d7 : decode cc (pc + 7) = .ok (.athrow, 1))
    (hout : ∀ x ∈ c.exceptionTable.toList, covers x (pc + 7) = false)
    (hRframes : names.length + 3 < R.frames) (hRlocals : (rest.map fun v => v.category).sum + (13 * (names.length + 1) + 42) ≤ R.locals) (hRcells : cells + 1 ≤ R.cells) (hRslots : slots + 6 ≤ R.slots) (hlocks : meth.locks = false)
    (hx : ∀ t : State, s.vm.Alike t.vm → H.size ≤ t.heap.size → (∀ q : Nat, q < H.size → t.heap[q]? = H[q]?) → XC cls s t)
    (hf : ∀ z ∈ locs, free z.base) (hc : cells + 1 ≤ mc) (hs : slots + 6 ≤ ms) :
    W p l e R s m args below meth c H locs cells slots (vx_MQ below Qc XC args s mc ms free) (F0 m pc ls rest) := by
  intro T hT X
  have htr : e.platform.stackTraces = false := (show e.platform.stackTraces = l.stackTraces by rw [X.admits.platform]).trans hl
  have Y := vx_rebase X (R' := { frames := R.frames, locals := R.locals, cells := 1, slots := 6 }) (Nat.le_refl _) (Nat.le_refl _) hRcells hRslots
  obtain ⟨s', hA⟩ : ∃ z, z = (T.setVm s.vm).setFrames (.invoking m args :: below) := ⟨_, rfl⟩
  rw [← hA] at Y
  have hvm : s'.vm = s.vm := by rw [hA]; rfl
  have hhp : s'.heap = H := by rw [hA]; exact hT
  have hW0 : s.WarmedH s'.vm := by rw [hvm]; exact State.WarmedH.refl s
  have hat' : ∀ w ∈ vx_at0 own ic cls names, w.before args s' = true := fun w hw => vx_ot_at hW0 hvm.symm (hgood w (List.mem_cons_of_mem _ (List.mem_cons_of_mem _ hw))) (hat w hw)
  have hk' : (Cond.classLink own ik cls).before args s' = true := vx_ot_at hW0 hvm.symm (hgood _ List.mem_cons_self) hk
  have hini' : (Cond.initialized cls).before args s' = true := vx_ot_at hW0 hvm.symm (hgood _ (List.mem_cons_of_mem _ List.mem_cons_self)) hini
  have hU' : vx_Zq Bundle.tN "UNASSIGNED_STACK" Bundle.steD A s' s'.heap := by rw [hhp]; exact vx_Zq.moved hW0.alike (hU.kept hS.2.1)
  have hN' : vx_Zq Bundle.tN "SUPPRESSED_SENTINEL" Bundle.listD A s' s'.heap := by rw [hhp]; exact vx_Zq.moved hW0.alike (hN.kept hS.2.1)
  have h : ∀ w ∈ Bundle.ownAtoms0 own ic cls names, w.before args s' = true := vx_own hat' (vx_isRefq hU'.1) (vx_isRefq hN'.1) hU'.2.word hN'.2.word
  have hown' : s'.vm.findClass own = some m.cls := by rw [hvm]; exact hown
  have hins : (Cond.instantiable cls 6).before args s' = true := h _ (by simp [Bundle.ownAtoms0])
  obtain ⟨vm₁, cX, kX, hfX, hkX, -, -, X₁, st1⟩ := Y.newCold hexec (own := own) (C := cls) (index := ik) (n := 6) hown' hk' hins hini'
    (g := F0 m pc ls rest) rfl (by rw [hb]; exact d0) (Nat.le_refl _) (Nat.le_refl _)
  generalize hT1 : (T.setVm vm₁).pushCell { cls := cX, slots := kX.instanceTypes.map defaultValue, vm := .none } = T1 at X₁ st1
  have hcat : (Value.ref T.heap.size).category = 1 := rfl
  have hcellA : T1.heap[T.heap.size]? = some (freshCell cX kX) := by rw [← hT1]; exact State.heap_pushCell_size _ _
  have d3' : decode c.code (pc + 3) = .ok (.dup, 1) := by rw [hb]; exact d3
  obtain ⟨U, hsteps, hrun, hend, hW, hsame, ce, hce, hO⟩ := X₁.ctorThrow0 hexec htr (own := own) (cls := cls) (names := names) (ic := ic) hown' hcls hnames h (fun x hx => nomatch hx) hfX hkX hcellA (by rw [hhp, hT]; exact Nat.le_refl _)
    (g := { method := m, pc := pc + 4, locals := ls, stack := .ref T.heap.size :: .ref T.heap.size :: rest, locked := none }) rfl hsize rfl rfl (rest := rest) rfl
    (by rw [hb]; exact d4) (by rw [hb]; exact d7) hout hRframes (by simp only [List.map_cons, List.sum_cons, hcat]; omega) hlocks
  obtain ⟨f1, f2⟩ := vx_frame hsame
  rw [hhp] at f1 f2
  have hWs : s.WarmedH U.vm := State.WarmedH.trans hW0 hW
  have hcl : s.vm.findClass cls = some ce.cls := by
    have h9 := hO.cls
    rw [hvm] at h9
    exact h9
  have hall : s.sameButNew ({ U with vm := s.vm } : State) locs mc ms := by
    subst hA
    obtain ⟨e1, e2⟩ := hsame
    rw [State.setFrames_setFrames] at e1
    have h2 : (T.setVm s.vm).sameButNew ({ U with vm := s.vm } : State) [] (0 + 1) (0 + 6) := ⟨e1, e2⟩
    have h3 := X.same.trans h2
    rw [List.append_nil] at h3
    exact h3.mono hc hs
  refine ⟨U, ?_, .threw T.heap.size, hrun, hend, Or.inr ⟨T.heap.size, rfl, cls, ce, locs, hx U hWs.alike f1 (fun q hq => f2 q hq (fun z hz => nomatch hz)), hce, hO.vm, hcl, hWs, hall, hf⟩⟩
  refine st1 _ ?_
  show Steps p.tables e below (T1.setTop { method := m, pc := pc + 3, locals := ls, stack := .ref T.heap.size :: rest, locked := none }) _
  jvm_step X₁.here [X₁.here.top, hexec, d3', Value.category]
  exact hsteps
/-- 'throw new E("text")': new; dup; ldc; invokespecial; athrow -/
theorem vx_throwS {cc : ByteArray} {pc : Nat} (hexec : p.tables.exec = Jvm.exec) (hb : c.code = cc) (hl : l.stackTraces = false) {own cls text : String} {names : List String} {ik is ic mc ms sa : Nat} {A : Nat → Prop}
    (hown : s.vm.findClass own = some m.cls) (hcls : Bundle.fit cls = true) (hnames : ∀ n ∈ names, Bundle.fit n = true)
    (hk : (Cond.classLink own ik cls).before args s = true) (hini : (Cond.initialized cls).before args s = true) (hstr : vk_R own is text sa s) (hat : ∀ w ∈ vx_atS own ic cls names, w.before args s = true)
    (hgood : ∀ w ∈ Cond.classLink own ik cls :: Cond.initialized cls :: vx_atS own ic cls names, vx_ot w = true)
    (hU : vx_Zq Bundle.tN "UNASSIGNED_STACK" Bundle.steD A s s.heap) (hN : vx_Zq Bundle.tN "SUPPRESSED_SENTINEL" Bundle.listD A s s.heap) (hS : va_S A s.heap H locs) (hsize : ls.size = c.maxLocals)
    (d0 : decode cc pc = .ok (.new ik, 3)) (d3 : decode cc (pc + 3) = .ok (.dup, 1)) (d4 : decode cc (pc + 4) = .ok (.ldc is, 2)) (d6 : decode cc (pc + 6) = .ok (.invokespecial ic, 3)) (d9 : decode cc (pc + 9) = .ok (.athrow, 1))
    (hout : ∀ x ∈ c.exceptionTable.toList, covers x (pc + 9) = false)
    (hRframes : names.length + 3 < R.frames) (hRlocals : (rest.map fun v => v.category).sum + (13 * (names.length + 1) + 43) ≤ R.locals) (hRcells : cells + 1 ≤ R.cells) (hRslots : slots + 6 ≤ R.slots) (hlocks : meth.locks = false)
    (hx : ∀ t : State, s.vm.Alike t.vm → H.size ≤ t.heap.size → (∀ q : Nat, q < H.size → t.heap[q]? = H[q]?) → XC cls s t)
    (hf : ∀ z ∈ locs, free z.base) (hc : cells + 1 ≤ mc) (hs : slots + 6 ≤ ms) :
    W p l e R s m args below meth c H locs cells slots (vx_MQ below Qc XC args s mc ms free) (F0 m pc ls rest) := by
  intro T hT X
  have htr : e.platform.stackTraces = false := (show e.platform.stackTraces = l.stackTraces by rw [X.admits.platform]).trans hl
  have Y := vx_rebase X (R' := { frames := R.frames, locals := R.locals, cells := 1, slots := 6 }) (Nat.le_refl _) (Nat.le_refl _) hRcells hRslots
  obtain ⟨s', hA⟩ : ∃ z, z = (T.setVm s.vm).setFrames (.invoking m args :: below) := ⟨_, rfl⟩
  rw [← hA] at Y
  have hvm : s'.vm = s.vm := by rw [hA]; rfl
  have hhp : s'.heap = H := by rw [hA]; exact hT
  have hW0 : s.WarmedH s'.vm := by rw [hvm]; exact State.WarmedH.refl s
  have hat' : ∀ w ∈ vx_atS own ic cls names, w.before args s' = true := fun w hw => vx_ot_at hW0 hvm.symm (hgood w (List.mem_cons_of_mem _ (List.mem_cons_of_mem _ hw))) (hat w hw)
  have hk' : (Cond.classLink own ik cls).before args s' = true := vx_ot_at hW0 hvm.symm (hgood _ List.mem_cons_self) hk
  have hini' : (Cond.initialized cls).before args s' = true := vx_ot_at hW0 hvm.symm (hgood _ (List.mem_cons_of_mem _ List.mem_cons_self)) hini
  have hU' : vx_Zq Bundle.tN "UNASSIGNED_STACK" Bundle.steD A s' s'.heap := by rw [hhp]; exact vx_Zq.moved hW0.alike (hU.kept hS.2.1)
  have hN' : vx_Zq Bundle.tN "SUPPRESSED_SENTINEL" Bundle.listD A s' s'.heap := by rw [hhp]; exact vx_Zq.moved hW0.alike (hN.kept hS.2.1)
  have h : ∀ w ∈ Bundle.ownAtoms own ic cls names, w.before args s' = true := vx_own hat' (vx_isRefq hU'.1) (vx_isRefq hN'.1) hU'.2.word hN'.2.word
  have hown' : s'.vm.findClass own = some m.cls := by rw [hvm]; exact hown
  have hins : (Cond.instantiable cls 6).before args s' = true := h _ (by simp [Bundle.ownAtoms])
  obtain ⟨vm₁, cX, kX, hfX, hkX, -, -, X₁, st1⟩ := Y.newCold hexec (own := own) (C := cls) (index := ik) (n := 6) hown' hk' hins hini'
    (g := F0 m pc ls rest) rfl (by rw [hb]; exact d0) (Nat.le_refl _) (Nat.le_refl _)
  generalize hT1 : (T.setVm vm₁).pushCell { cls := cX, slots := kX.instanceTypes.map defaultValue, vm := .none } = T1 at X₁ st1
  have hcat : (Value.ref T.heap.size).category = 1 := rfl
  have hcellA : T1.heap[T.heap.size]? = some (freshCell cX kX) := by rw [← hT1]; exact State.heap_pushCell_size _ _
  have d3' : decode c.code (pc + 3) = .ok (.dup, 1) := by rw [hb]; exact d3
  have d4' : decode c.code (pc + 4) = .ok (.ldc is, 2) := by rw [hb]; exact d4
  have hstr' : vk_R own is text sa s' := vk_R.warm hW0 hstr
  obtain ⟨U, hsteps, hrun, hend, hW, hsame, ce, hce, hO⟩ := X₁.ctorThrowS hexec htr (own := own) (cls := cls) (names := names) (ic := ic) hown' hcls hnames h (fun x hx => nomatch hx) hfX hkX hcellA (by rw [hhp, hT]; exact Nat.le_refl _) (msg := .ref sa) rfl
    (g := { method := m, pc := pc + 6, locals := ls, stack := .ref sa :: .ref T.heap.size :: .ref T.heap.size :: rest, locked := none }) rfl hsize rfl rfl (rest := rest) rfl
    (by rw [hb]; exact d6) (by rw [hb]; exact d9) hout hRframes (by simp only [List.map_cons, List.sum_cons, hcat]; omega) hlocks
  obtain ⟨f1, f2⟩ := vx_frame hsame
  rw [hhp] at f1 f2
  have hWs : s.WarmedH U.vm := State.WarmedH.trans hW0 hW
  have hcl : s.vm.findClass cls = some ce.cls := by
    have h9 := hO.cls
    rw [hvm] at h9
    exact h9
  have hall : s.sameButNew ({ U with vm := s.vm } : State) locs mc ms := by
    subst hA
    obtain ⟨e1, e2⟩ := hsame
    rw [State.setFrames_setFrames] at e1
    have h2 : (T.setVm s.vm).sameButNew ({ U with vm := s.vm } : State) [] (0 + 1) (0 + 6) := ⟨e1, e2⟩
    have h3 := X.same.trans h2
    rw [List.append_nil] at h3
    exact h3.mono hc hs
  refine ⟨U, ?_, .threw T.heap.size, hrun, hend, Or.inr ⟨T.heap.size, rfl, cls, ce, locs, hx U hWs.alike f1 (fun q hq => f2 q hq (fun z hz => nomatch hz)), hce, hO.vm, hcl, hWs, hall, hf⟩⟩
  refine st1 _ ?_
  show Steps p.tables e below (T1.setTop { method := m, pc := pc + 3, locals := ls, stack := .ref T.heap.size :: rest, locked := none }) _
  jvm_step X₁.here [X₁.here.top, hexec, d3', Value.category]
  exact X₁.ldcString hexec (own := own) (text := text) (index := is) (a := sa) hown' hstr'.1 hstr'.2
    (g := { method := m, pc := pc + 4, locals := ls, stack := .ref T.heap.size :: .ref T.heap.size :: rest, locked := none }) rfl d4' _ hsteps
/-- 'throw new E("text")', the text by a wide index -/
theorem vx_throwSW {cc : ByteArray} {pc : Nat} (hexec : p.tables.exec = Jvm.exec) (hb : c.code = cc) (hl : l.stackTraces = false) {own cls text : String} {names : List String} {ik is ic mc ms sa : Nat} {A : Nat → Prop}
    (hown : s.vm.findClass own = some m.cls) (hcls : Bundle.fit cls = true) (hnames : ∀ n ∈ names, Bundle.fit n = true)
    (hk : (Cond.classLink own ik cls).before args s = true) (hini : (Cond.initialized cls).before args s = true) (hstr : vk_R own is text sa s) (hat : ∀ w ∈ vx_atS own ic cls names, w.before args s = true)
    (hgood : ∀ w ∈ Cond.classLink own ik cls :: Cond.initialized cls :: vx_atS own ic cls names, vx_ot w = true)
    (hU : vx_Zq Bundle.tN "UNASSIGNED_STACK" Bundle.steD A s s.heap) (hN : vx_Zq Bundle.tN "SUPPRESSED_SENTINEL" Bundle.listD A s s.heap) (hS : va_S A s.heap H locs) (hsize : ls.size = c.maxLocals)
    (d0 : decode cc pc = .ok (.new ik, 3)) (d3 : decode cc (pc + 3) = .ok (.dup, 1)) (d4 : decode cc (pc + 4) = .ok (.ldc_w is, 3)) (d7 : decode cc (pc + 7) = .ok (.invokespecial ic, 3)) (d10 : decode cc (pc + 10) = .ok (.athrow, 1))
    (hout : ∀ x ∈ c.exceptionTable.toList, covers x (pc + 10) = false)
    (hRframes : names.length + 3 < R.frames) (hRlocals : (rest.map fun v => v.category).sum + (13 * (names.length + 1) + 43) ≤ R.locals) (hRcells : cells + 1 ≤ R.cells) (hRslots : slots + 6 ≤ R.slots) (hlocks : meth.locks = false)
    (hx : ∀ t : State, s.vm.Alike t.vm → H.size ≤ t.heap.size → (∀ q : Nat, q < H.size → t.heap[q]? = H[q]?) → XC cls s t)
    (hf : ∀ z ∈ locs, free z.base) (hc : cells + 1 ≤ mc) (hs : slots + 6 ≤ ms) :
    W p l e R s m args below meth c H locs cells slots (vx_MQ below Qc XC args s mc ms free) (F0 m pc ls rest) := by
  intro T hT X
  have htr : e.platform.stackTraces = false := (show e.platform.stackTraces = l.stackTraces by rw [X.admits.platform]).trans hl
  have Y := vx_rebase X (R' := { frames := R.frames, locals := R.locals, cells := 1, slots := 6 }) (Nat.le_refl _) (Nat.le_refl _) hRcells hRslots
  obtain ⟨s', hA⟩ : ∃ z, z = (T.setVm s.vm).setFrames (.invoking m args :: below) := ⟨_, rfl⟩
  rw [← hA] at Y
  have hvm : s'.vm = s.vm := by rw [hA]; rfl
  have hhp : s'.heap = H := by rw [hA]; exact hT
  have hW0 : s.WarmedH s'.vm := by rw [hvm]; exact State.WarmedH.refl s
  have hat' : ∀ w ∈ vx_atS own ic cls names, w.before args s' = true := fun w hw => vx_ot_at hW0 hvm.symm (hgood w (List.mem_cons_of_mem _ (List.mem_cons_of_mem _ hw))) (hat w hw)
  have hk' : (Cond.classLink own ik cls).before args s' = true := vx_ot_at hW0 hvm.symm (hgood _ List.mem_cons_self) hk
  have hini' : (Cond.initialized cls).before args s' = true := vx_ot_at hW0 hvm.symm (hgood _ (List.mem_cons_of_mem _ List.mem_cons_self)) hini
  have hU' : vx_Zq Bundle.tN "UNASSIGNED_STACK" Bundle.steD A s' s'.heap := by rw [hhp]; exact vx_Zq.moved hW0.alike (hU.kept hS.2.1)
  have hN' : vx_Zq Bundle.tN "SUPPRESSED_SENTINEL" Bundle.listD A s' s'.heap := by rw [hhp]; exact vx_Zq.moved hW0.alike (hN.kept hS.2.1)
  have h : ∀ w ∈ Bundle.ownAtoms own ic cls names, w.before args s' = true := vx_own hat' (vx_isRefq hU'.1) (vx_isRefq hN'.1) hU'.2.word hN'.2.word
  have hown' : s'.vm.findClass own = some m.cls := by rw [hvm]; exact hown
  have hins : (Cond.instantiable cls 6).before args s' = true := h _ (by simp [Bundle.ownAtoms])
  obtain ⟨vm₁, cX, kX, hfX, hkX, -, -, X₁, st1⟩ := Y.newCold hexec (own := own) (C := cls) (index := ik) (n := 6) hown' hk' hins hini'
    (g := F0 m pc ls rest) rfl (by rw [hb]; exact d0) (Nat.le_refl _) (Nat.le_refl _)
  generalize hT1 : (T.setVm vm₁).pushCell { cls := cX, slots := kX.instanceTypes.map defaultValue, vm := .none } = T1 at X₁ st1
  have hcat : (Value.ref T.heap.size).category = 1 := rfl
  have hcellA : T1.heap[T.heap.size]? = some (freshCell cX kX) := by rw [← hT1]; exact State.heap_pushCell_size _ _
  have d3' : decode c.code (pc + 3) = .ok (.dup, 1) := by rw [hb]; exact d3
  have d4' : decode c.code (pc + 4) = .ok (.ldc_w is, 3) := by rw [hb]; exact d4
  have hstr' : vk_R own is text sa s' := vk_R.warm hW0 hstr
  obtain ⟨U, hsteps, hrun, hend, hW, hsame, ce, hce, hO⟩ := X₁.ctorThrowS hexec htr (own := own) (cls := cls) (names := names) (ic := ic) hown' hcls hnames h (fun x hx => nomatch hx) hfX hkX hcellA (by rw [hhp, hT]; exact Nat.le_refl _) (msg := .ref sa) rfl
    (g := { method := m, pc := pc + 7, locals := ls, stack := .ref sa :: .ref T.heap.size :: .ref T.heap.size :: rest, locked := none }) rfl hsize rfl rfl (rest := rest) rfl
    (by rw [hb]; exact d7) (by rw [hb]; exact d10) hout hRframes (by simp only [List.map_cons, List.sum_cons, hcat]; omega) hlocks
  obtain ⟨f1, f2⟩ := vx_frame hsame
  rw [hhp] at f1 f2
  have hWs : s.WarmedH U.vm := State.WarmedH.trans hW0 hW
  have hcl : s.vm.findClass cls = some ce.cls := by
    have h9 := hO.cls
    rw [hvm] at h9
    exact h9
  have hall : s.sameButNew ({ U with vm := s.vm } : State) locs mc ms := by
    subst hA
    obtain ⟨e1, e2⟩ := hsame
    rw [State.setFrames_setFrames] at e1
    have h2 : (T.setVm s.vm).sameButNew ({ U with vm := s.vm } : State) [] (0 + 1) (0 + 6) := ⟨e1, e2⟩
    have h3 := X.same.trans h2
    rw [List.append_nil] at h3
    exact h3.mono hc hs
  refine ⟨U, ?_, .threw T.heap.size, hrun, hend, Or.inr ⟨T.heap.size, rfl, cls, ce, locs, hx U hWs.alike f1 (fun q hq => f2 q hq (fun z hz => nomatch hz)), hce, hO.vm, hcl, hWs, hall, hf⟩⟩
  refine st1 _ ?_
  show Steps p.tables e below (T1.setTop { method := m, pc := pc + 3, locals := ls, stack := .ref T.heap.size :: rest, locked := none }) _
  jvm_step X₁.here [X₁.here.top, hexec, d3', Value.category]
  exact X₁.ldcStringW hexec (own := own) (text := text) (index := is) (a := sa) hown' hstr'.1 hstr'.2
    (g := { method := m, pc := pc + 4, locals := ls, stack := .ref T.heap.size :: .ref T.heap.size :: rest, locked := none }) rfl d4' _ hsteps
end Ends
section Bodies
variable {l : Launch}
theorem vx_ofW {y : MethodName} {ws ws' : List Cond} {rm : Room} {Pc : Array Value → State → Prop} {Qc : Array Value → State → Outcome → State → Prop} {XC : String → State → State → Prop} {mc ms : Nat} {free : Addr → Prop} {cc : ByteArray} {maxL : Nat} {ret : Option FieldType}
    (hy : plainName y.cls = true) (hw : ws = Cond.code y cc maxL ret :: ws')
    (body : ∀ p e s m args below meth c s₁, BodyLoose p l y (headSpec ws rm) cc maxL ret e s m args below meth c s₁ → c.maxLocals = maxL → (∀ x ∈ c.exceptionTable.toList, False) → Pc args s →
      W p l e (headSpec ws rm).room s m args below meth c s.heap [] 0 0 (vx_MQ below Qc XC args s mc ms free) (entryFrame m args maxL)) : vx_Met l y ws rm Pc Qc XC mc ms free := by
  refine MetFree.of_bodyS (code := cc) (maxLocals := maxL) (ret := ret) hy ?_ ?_
  · intro args s m h hn
    obtain ⟨meth, c, h1, h2, h3, h4, h5, h6, -, -⟩ := Cond.code_spec hn (atoms_spec (ws := ws) h _ (by rw [hw]; exact List.mem_cons_self))
    exact ⟨meth, c, h1, h2, h3, h4, h5, h6⟩
  · intro p e s m args below meth c s₁ B hml hP _
    have hh0 : s₁.heap = s.heap := by rw [B.state]; rfl
    have ht : ∀ x ∈ c.exceptionTable.toList, False := by
      obtain ⟨meth9, c9, h1, h2, -, -, -, -, h7, -⟩ := Cond.code_spec B.named (atoms_spec (ws := ws) B.pre _ (by rw [hw]; exact List.mem_cons_self))
      cases Option.some.inj (h1.symm.trans B.method)
      cases Option.some.inj (h2.symm.trans (Stand.of_body B).code)
      intro x hx
      rw [Array.isEmpty_iff.mp h7] at hx
      cases hx
    obtain ⟨t, a1, o, b1, b2, b3⟩ := body p e s m args below meth c s₁ B hml ht hP s₁ hh0 (Stand.of_body B)
    exact ⟨t, o, a1, b1, b2, b3⟩
/-- the table of a body with handlers -/
theorem vx_table {p : Program} {x y : MethodName} {S : Spec} {cc bytes : ByteArray} {maxL maxL' : Nat} {ret ret' : Option FieldType} {e : Env} {s s₁ : State} {m : MethodId} {args : Array Value} {below : List Frame} {meth : Method} {c : Code} {hh : List (Nat × Nat × Nat × Nat)}
    (B : BodyLoose p l y S cc maxL ret e s m args below meth c s₁) (h : (Cond.codeWith y bytes maxL' ret' hh).before args s = true) : c.exceptionTable.toList = tableOf hh := by
  obtain ⟨m9, meth9, c9, hn9, h1, h2, -, -, h6, -⟩ := Cond.codeWith_spec h
  cases Option.some.inj (hn9.symm.trans B.named)
  cases Option.some.inj (h1.symm.trans B.method)
  cases Option.some.inj (h2.symm.trans (Stand.of_body B).code)
  rw [← h6, table_eq]
end Bodies
end VXA
/-! ===== END ===== -/
/-! ===== BEGIN a static call of a method with an exception table ===== -/
section VXS
variable {p : Program} {l : Launch} {e : Env} {R : Room} {s : State} {m : MethodId} {args : Array Value} {below : List Frame} {meth : Method} {c : Code} {T : State} {H : Heap} {locs : List Loc} {cells slots : Nat}
abbrev vx_CSW (R : Room) (s : State) (args : Array Value) (own : String) (index : Nat) (y : MethodName) (bytes : ByteArray) (maxL : Nat) (ret : Option FieldType) (hh : List (Nat × Nat × Nat × Nat)) (ws : List Cond) (rm : Room) (mc ms n : Nat) : Prop :=
  (rm.cells = mc ∧ rm.slots = ms ∧ rm.frames + 1 ≤ R.frames ∧ 8 + (maxL + 11) + rm.locals ≤ R.locals ∧ (∀ w ∈ ws, ∀ (a' : Array Value) (U : State), s.WarmedH U.vm → w.before a' U = true) ∧ Cond.codeWith y bytes maxL ret hh ∈ ws) ∧
  (Cond.codeWith y bytes maxL ret hh).before args s = true ∧ (Cond.initialized y.cls).before args s = true ∧ (y.cls ≠ "java/lang/invoke/MethodHandle" ∧ y.cls ≠ "java/lang/invoke/VarHandle") ∧
  (∀ sig, parseMethodDescriptor y.desc = some sig → n = sig.parameters.length) ∧ (Cond.methodLink own index y).before args s = true ∧ (Cond.static y).before args s = true
theorem vx_cwSW {own : String} {index maxL mc ms : Nat} {y : MethodName} {bytes : ByteArray} {ret : Option FieldType} {hh : List (Nat × Nat × Nat × Nat)} {Ts ws ws' : List Cond} {rm : Room} (n : Nat) (ht : ∀ w ∈ Ts, w.before args s = true) (hT : GoodIn Ts (va_wsS own index y ws)) (hw : ws = Cond.codeWith y bytes maxL ret hh :: ws') (hrc : rm.cells = mc) (hrs : rm.slots = ms)
    (hd : y.cls ≠ "java/lang/invoke/MethodHandle" ∧ y.cls ≠ "java/lang/invoke/VarHandle" ∧ (parseMethodDescriptor y.desc).map (fun d => d.parameters.length) = some n) (hR : rm.frames + 1 ≤ R.frames ∧ 8 + (maxL + 11) + rm.locals ≤ R.locals) :
    vx_CSW R s args own index y bytes maxL ret hh ws rm mc ms n := by
  have ok : ∀ w ∈ va_wsS own index y ws, w.before args s = true := fun w h => ht w (hT w h).1
  have hG : GoodIn Ts ws := fun w h => hT w (by unfold va_wsS; exact List.mem_append_right _ h)
  have hc : Cond.codeWith y bytes maxL ret hh ∈ ws := by rw [hw]; exact List.mem_cons_self
  refine ⟨⟨hrc, hrs, hR.1, hR.2, pay_in ht hG, hc⟩, ht _ (hG _ hc).1, ok _ (by simp [va_wsS]), ⟨hd.1, hd.2.1⟩, fun sig h => ?_, ok _ (by simp [va_wsS]), ok _ (by simp [va_wsS])⟩
  have h2 := hd.2.2
  rw [h] at h2
  exact (Option.some.inj h2).symm
theorem vx_callSW (X : Stand p l e R s m args below meth c T locs cells slots) (hexec : p.tables.exec = Jvm.exec) {own : String} {index : Nat} {y : MethodName} {bytes : ByteArray} {maxL : Nat} {ret : Option FieldType} {hh : List (Nat × Nat × Nat × Nat)}
    (hown : s.vm.findClass own = some m.cls) (hlink : (Cond.methodLink own index y).before args s = true) (hstat : (Cond.static y).before args s = true) (hinit : (Cond.initialized y.cls).before args s = true)
    (hcode : (Cond.codeWith y bytes maxL ret hh).before args s = true) (hy : y.cls ≠ "java/lang/invoke/MethodHandle" ∧ y.cls ≠ "java/lang/invoke/VarHandle")
    {W9 : Nat} {Pre : Pt → Array Value → Prop} {Post : Pt → Array Value → Option Value → Pt → Prop} (hK : Back l R p e below s args y 3 W9 Pre Post)
    {g : JFrame} (hg : g.method = m) (hsize : g.locals.size = c.maxLocals) {argsL rest : List Value} (hlen : ∀ sig, parseMethodDescriptor y.desc = some sig → argsL.length = sig.parameters.length)
    (hstack : g.stack = argsL.reverse ++ rest) (hW : 2 * g.monitorRoom + (rest.map fun v => v.category).sum ≤ W9) (hdg : decode c.code g.pc = .ok (.invokestatic index, 3))
    (hpre : ∀ vm₁, s.WarmedH vm₁ → Pre ⟨T.setVm vm₁, locs, cells, slots⟩ argsL.toArray) :
    ∃ (v : Option Value) (vm₁ : Vm) (B : Pt), s.WarmedH vm₁ ∧ Stand p l e R s m args below meth c B.U B.locs B.cells B.slots ∧ Post ⟨T.setVm vm₁, locs, cells, slots⟩ argsL.toArray v B ∧
      ∀ target, Steps p.tables e below (B.U.setTop { g with pc := g.pc + 3, stack := v.toList ++ rest }) target → Steps p.tables e below (T.setTop g) target := by
  obtain ⟨mk, methM, cM, hnamed, hmethM, -, -, -, -, -, -, hsigM⟩ := Cond.codeWith_spec hcode
  have hstatic : methM.isStatic = true := Cond.static_spec hnamed hmethM hstat
  obtain ⟨kP, hkP, -⟩ := className_of_methodNamed hnamed
  have hinitP : kP.init = .initialized := Cond.initialized_spec (findClass_of_methodNamed hnamed) hkP hinit
  obtain ⟨vm₁, X₁, hstep₁⟩ := X.invokestatic hexec hown hlink hnamed hmethM hstatic hkP hinitP hy (g := g) hg (argsL := argsL) (rest := rest) (hlen _ hsigM) hstack hdg
  obtain ⟨v, B, X', hpost, hsteps⟩ := hK m meth c ⟨T.setVm vm₁, locs, cells, slots⟩ { g with stack := rest } (.invokestatic index) mk argsL.toArray X₁ hg hsize hdg hW (X₁.named hnamed) (hpre vm₁ X₁.warmed)
  exact ⟨v, vm₁, B, X₁.warmed, X', hpost, fun target h => hstep₁ _ fun acts => by rw [doInvoke_state]; exact hsteps.trans h⟩
theorem vx_runSW {y : MethodName} {bytes cc : ByteArray} {maxL nL mc ms n index : Nat} {ret : Option FieldType} {hh : List (Nat × Nat × Nat × Nat)} {ws : List Cond} {rm : Room} {Pc : Array Value → State → Prop} {Qc : Array Value → State → Outcome → State → Prop} {free : Addr → Prop} {Ts : List Cond} {own : String} {As rest : List Value} {g : JFrame}
    (S : CallFix p m c cc nL s args Ts own) (hM : Met l y ws rm Pc Qc mc ms free) (cw : vx_CSW R s args own index y bytes maxL ret hh ws rm mc ms n) (hp : PreS s H Pc As)
    (hg : g.method = m) (hn : As.length = n) (hsize : g.locals.size = nL) (hstack : g.stack = As.reverse ++ rest) (hW : 2 * g.monitorRoom + (rest.map fun v => v.category).sum ≤ 8) (hdg : decode cc g.pc = .ok (.invokestatic index, 3)) (hf : cells + mc ≤ R.cells ∧ slots + ms ≤ R.slots) :
    va_Run p l e R s m args below meth c H locs cells slots mc ms g rest (Qc As.toArray) (free) := by
  obtain ⟨⟨hrc, hrs, hfr, hlo, hws, hcw⟩, hcode, hini, hy, hlen, hl, hstt⟩ := cw
  have hK : Back l R p e below s args y 3 8 (PreOf R mc ms Pc) (PostOf Qc mc ms free) := va_backW (hh := hh) (bytes := bytes) (maxL := maxL) (ret := ret) hM hp.1 hrc hrs hfr hlo hws hcw (fun a' U hW => word_at hW (Or.inl (by first | rfl | simp [Cond.onTables, Cond.keeps, Cond.steady])) hini)
  obtain ⟨hx, hb, hml, ho, -⟩ := S
  intro T hT X
  obtain ⟨v, vm₁, ⟨U', l2, c2, s2⟩, hW₁, X', ⟨g', mk, t, L, e1, e2, hq, h1, hL, h2, h3⟩, st⟩ := vx_callSW X hx (hh := hh) (bytes := bytes) (maxL := maxL) (ret := ret) ho hl hstt hini hcode hy hK hg (hsize.trans hml.symm) (argsL := As) (rest := rest) (fun sig h => hn.trans (hlen sig h)) hstack hW (by rw [hb]; exact hdg)
    (fun vm₁ hW₁ => ⟨hf.1, hf.2, hp.2 (T.setVm vm₁) hT hW₁⟩)
  dsimp only [Pt.U, Pt.locs, Pt.cells, Pt.slots] at X' e1 e2 h1 h2 h3 st
  subst h1; subst h2; subst h3
  exact ⟨v, (T.setVm vm₁).calling g' mk As.toArray, t, U', L, hT, X', hL, e1, e2, hq, st⟩
/-- not caught here, past rows that name other classes: it goes on to the caller -/
theorem vx_outP {p : Program} {l : Launch} {e : Env} {R : Room} {s : State} {m : MethodId} {args : Array Value} {below : List Frame} {meth : Method} {c : Code} {H : Heap} {locs : List Loc} {cells slots : Nat} {free : Addr → Prop} {ls : Array Slot} {rest : List Value} {Qc : Array Value → State → Outcome → State → Prop} {XC : String → State → State → Prop}
    {pc : Nat} {own E : String} {ce : Cell} {q : Addr} {mc ms : Nat} (hown : s.vm.findClass own = some m.cls) (hlocks : meth.locks = false)
    (hpass : ∀ z ∈ c.exceptionTable.toList, covers z pc = false ∨ (z.catchType ≠ 0 ∧ ∃ nm : String, (Cond.classLink own z.catchType nm).before args s = true ∧ va_Nc E nm s)) (hcell : H[q]? = some ce) (hv : ce.vm = .none) (hcl : s.vm.findClass E = some ce.cls)
    (hx : ∀ t : State, t.heap = H → s.vm.Alike t.vm → XC E s t) (hf : ∀ z ∈ locs, free z.base) (hc : cells ≤ mc) (hs : slots ≤ ms) :
    vx_W p l e R s m args below meth c H locs cells slots (vx_MQ below Qc XC args s mc ms free) (F0 m pc ls rest) q := by
  intro T hT X
  have hpl : e.platform.magicAccessors = ({} : Platform).magicAccessors := by rw [X.admits.platform]
  obtain ⟨vm', hW', X', st⟩ := X.outThrough hlocks q (g := F0 m pc ls rest) rfl rfl rfl (cell := ce) (by rw [hT]; exact hcell) (by rw [hv]; rfl)
    (by obtain ⟨k9, h9, -⟩ := Vm.findClass_spec hcl; exact ⟨k9, h9⟩) (fun z hz => by
      rcases hpass z hz with h | ⟨hz0, nm, hl1, hn1⟩
      · exact Or.inl h
      · obtain ⟨c6, hc6, hcl6⟩ := Cond.classLink_spec hown hl1 e.platform hpl
        obtain ⟨a8, b8, h1, h2, h3⟩ := hn1
        cases Option.some.inj (h1.symm.trans hcl)
        cases Option.some.inj (h2.symm.trans hc6)
        exact Or.inr ⟨hz0, _, hcl6, h3⟩)
  obtain ⟨g₀, hfr⟩ := X'.frames_eq
  have hcell9 : ((T.setVm vm').setFrames (.throwing q :: below)).heap[q]? = some ce := by
    show T.heap[q]? = some ce
    rw [hT]; exact hcell
  have hend : Ended ((T.setVm vm').setFrames (.throwing q :: below)) below (.threw q) := State.frames_setFrames _ (State.cur_lt_of_frames hfr)
  refine ⟨(T.setVm vm').setFrames (.throwing q :: below), ?_, .threw q, X'.here.running, hend, Or.inr ⟨q, rfl, E, ce, locs, hx _ hT (X'.ends _).1.alike, hcell9, hv, hcl, (X'.ends _).1, (X'.ends _).2.mono hc hs, hf⟩⟩
  rw [X.pushThrowing_eq]
  exact st
/-- a thing of a world lies in the heap -/
theorem vx_lt {D : va_G} {cl : List vw_C} {ws : va_W} {H1 : Heap} (h : va_P D cl ws H1) {k : Nat} {q : Nat × va_E} (hk : ws[k]? = some q) : q.1 < H1.size := (h k q hk).lt
end VXS
/-! ===== END ===== -/
/-! ===== BEGIN methods with a table of their own: called by a name, returning or throwing ===== -/
section VXH
/-! vx_backW, vx_callVX, vx_callSX, vx_callVW, vx_runVW, vx_runVX, vx_runSX, vx_ofWH follow the same proofs as their sisters above (Free/Laws.lean, Shelf42/LK1.lean); vx_outP calls Shelf42/NT130.lean (outThrough). -/
section
variable {l : Launch} {R : Room} {p : Program} {e : Env} {below : List Frame} {s : State} {sargs : Array Value} {y : MethodName} {len W9 : Nat}
theorem vx_backW {ws : List Cond} {rm : Room} {Pc : Array Value → State → Prop} {Qc : Array Value → State → Outcome → State → Prop} {XC : String → State → State → Prop} {mc ms : Nat} {free : Addr → Prop} {bytes : ByteArray} {maxL : Nat} {ret : Option FieldType} {hh : List (Nat × Nat × Nat × Nat)}
    (hM : vx_Met l y ws rm Pc Qc XC mc ms free) (hblind : FrameBlind Pc) (hrc : rm.cells = mc) (hrs : rm.slots = ms)
    (hframes : rm.frames + 1 ≤ R.frames) (hlocals : W9 + (maxL + 11) + rm.locals ≤ R.locals)
    (hws : ∀ w ∈ ws, ∀ a' U, s.WarmedH U.vm → w.before a' U = true) (hcode : Cond.codeWith y bytes maxL ret hh ∈ ws) (hinit : ∀ a' U, s.WarmedH U.vm → (Cond.initialized y.cls).before a' U = true) :
    vx_Back l R p e below s sargs y len W9 (PreOf R mc ms Pc) (PostOf Qc mc ms free) (vx_Post XC mc ms free) := by
  intro m meth c A g ig mk a X hg hsize hdg hW hn hp
  have h1 : (headSpec ws rm).pre.before a A.U = true := atoms_intro fun w hw => hws w hw _ _ X.warmed
  have h2 : (Cond.codeWith y bytes maxL ret hh).before a A.U = true := hws _ hcode _ _ X.warmed
  have h3 : (Cond.initialized y.cls).before a A.U = true := hinit _ _ X.warmed
  have h4 : A.cells + (headSpec ws rm).room.cells ≤ R.cells := by rw [show (headSpec ws rm).room.cells = mc from hrc]; exact hp.1
  have h5 : A.slots + (headSpec ws rm).room.slots ≤ R.slots := by rw [show (headSpec ws rm).room.slots = ms from hrs]; exact hp.2.1
  have hPc : Pc a (A.U.calling g mk a) := hblind _ _ _ _ hp.2.2
  obtain ⟨U, Ls, c0, s0⟩ := A
  dsimp only [Pt.U, Pt.locs, Pt.cells, Pt.slots] at h1 h2 h3 h4 h5 X hn hPc ⊢
  obtain ⟨m9, methY, cY, hn9, hmY, hcY, -, hlY, -⟩ := Cond.codeWith_spec h2
  cases Option.some.inj (hn9.symm.trans hn)
  obtain ⟨kY, hkY, -⟩ := className_of_methodNamed hn
  have hinitY : kY.init = .initialized := Cond.initialized_spec (findClass_of_methodNamed hn) hkY h3
  have h : At U g.method c below := by rw [hg]; exact X.here
  have hlocals9 : W9 + (maxL + 11) + (headSpec ws rm).room.locals ≤ R.locals := hlocals
  have happ : (headSpec ws rm).appliesLoose y e.platform (U.calling g mk a) = true :=
    Spec.appliesLoose_calling (g := g) h hdg hn hkY hinitY
      (X.room_calling (g := g) (R' := (headSpec ws rm).room) hsize hmY hcY hframes (by rw [hlY]; omega) h4 h5) h1
  obtain ⟨mid, hmid⟩ := h.above
  have hfr : (U.setTop g).frames = (.java g :: mid) ++ below := by rw [State.frames_setTop' g h.top, hmid]; rfl
  obtain ⟨o, s₂, hsteps, -, hend, hq⟩ := Steps.callFree hM p X.admits X.cas X.clock (acts := []) hfr happ hPc trivial
  have hq' : vx_Q Qc XC mc ms free a (U.calling g mk a) o s₂ := hq
  rw [State.frames_setTop' g h.top] at hend
  obtain ⟨g₀, hg0⟩ := Option.isSome_iff_exists.mp h.top
  obtain ⟨r, hr⟩ := State.topJava?_eq_some.mp hg0
  have hr' : (({ U with heap := s₂.heap, slotsUsed := s₂.slotsUsed } : State).setVm s₂.vm).frames = .java g₀ :: r := hr
  rcases hq' with ⟨hqc, L, hfe, hL⟩ | ⟨q, rfl, E, ce, L, hx, hce, hcv, hcl, hW₂, hsm, hL⟩
  · obtain ⟨⟨v, rfl⟩, hW₂, e2, q2, q3, q4, q5, q6⟩ := id hfe
    have e3 : s₂ = ({ (U.calling g mk a).setFrames s₂.frames with heap := s₂.heap, slotsUsed := s₂.slotsUsed } : State).setVm s₂.vm := by
      have : s₂ = ({ s₂ with vm := (U.calling g mk a).vm } : State).setVm s₂.vm := rfl
      rw [e2] at this
      exact this
    obtain ⟨c₂, i₂, len₂, hc₂, hd₂, hf₂⟩ := hend
    have hW' : U.WarmedH s₂.vm := hW₂
    have hcc : c₂ = c := by
      have h1 : s₂.code? g.method = U.code? g.method := by
        rw [State.code?_eq, State.code?_eq, hW'.alike.method?]
      exact Option.some.inj (hc₂.symm.trans (h1.trans h.code))
    subst hcc
    have hlen : len₂ = len := by rw [hdg] at hd₂; cases hd₂; rfl
    subst hlen
    have hs₂ : s₂ = (({ U with heap := s₂.heap, slotsUsed := s₂.slotsUsed } : State).setVm s₂.vm).setTop { g with pc := g.pc + len₂, stack := v.toList ++ g.stack } := by
      refine e3.trans ?_
      rw [hf₂, State.calling_eq h.top, State.setFrames_setFrames, State.setTop_of_frames _ hr', hr]
      rfl
    have hsame : U.sameButNew ({ U with heap := s₂.heap, slotsUsed := s₂.slotsUsed } : State) L mc ms := by
      refine ⟨?_, q2, q3, q4, q5, q6⟩
      obtain ⟨t, ht, -⟩ := State.frames_cons hr
      show ({ U with heap := s₂.heap, slotsUsed := s₂.slotsUsed } : State) = { U.setFrames U.frames with heap := s₂.heap, slotsUsed := s₂.slotsUsed }
      rw [State.setFrames_self ht]
    subst hg
    refine Or.inl ⟨v, ⟨(({ U with heap := s₂.heap, slotsUsed := s₂.slotsUsed } : State).setVm s₂.vm), Ls ++ L, c0 + mc, s0 + ms⟩,
      ⟨X.admits, X.cas, X.clock, X.frames, X.room, X.hears, X.method, X.code, (X.here.setHeapUsed s₂.heap s₂.slotsUsed).setVm hW'.alike, X.tail, State.WarmedH.trans X.warmed hW', X.limits, X.bytes, X.same.trans (hsame.setVm s.vm)⟩,
      ⟨g, mk, s₂, L, rfl, rfl, hqc, rfl, hL, rfl, rfl⟩, ?_⟩
    show Steps p.tables e below _ ((({ U with heap := s₂.heap, slotsUsed := s₂.slotsUsed } : State).setVm s₂.vm).setTop { g with pc := g.pc + len₂, stack := v.toList ++ g.stack })
    rw [← hs₂]
    exact hsteps
  · obtain ⟨e2, q2, q3, q4, q5, q6⟩ := id hsm
    have e3 : s₂ = ({ (U.calling g mk a).setFrames s₂.frames with heap := s₂.heap, slotsUsed := s₂.slotsUsed } : State).setVm s₂.vm := by
      have : s₂ = ({ s₂ with vm := (U.calling g mk a).vm } : State).setVm s₂.vm := rfl
      rw [e2] at this
      exact this
    have hf₂ : s₂.frames = .throwing q :: .java g :: U.frames.tail := hend
    have hW' : U.WarmedH s₂.vm := hW₂
    have hs₂ : s₂ = ((({ U with heap := s₂.heap, slotsUsed := s₂.slotsUsed } : State).setVm s₂.vm).setTop g).pushFrame (.throwing q) := by
      refine e3.trans ?_
      rw [hf₂, State.calling_eq h.top, State.setFrames_setFrames, State.pushFrame, State.frames_setTop _ hr', State.setTop_of_frames _ hr', State.setFrames_setFrames, hr]
      rfl
    have hsame : U.sameButNew ({ U with heap := s₂.heap, slotsUsed := s₂.slotsUsed } : State) L mc ms := by
      refine ⟨?_, q2, q3, q4, q5, q6⟩
      obtain ⟨t, ht, -⟩ := State.frames_cons hr
      show ({ U with heap := s₂.heap, slotsUsed := s₂.slotsUsed } : State) = { U.setFrames U.frames with heap := s₂.heap, slotsUsed := s₂.slotsUsed }
      rw [State.setFrames_self ht]
    subst hg
    refine Or.inr ⟨q, ⟨(({ U with heap := s₂.heap, slotsUsed := s₂.slotsUsed } : State).setVm s₂.vm), Ls ++ L, c0 + mc, s0 + ms⟩,
      ⟨X.admits, X.cas, X.clock, X.frames, X.room, X.hears, X.method, X.code, (X.here.setHeapUsed s₂.heap s₂.slotsUsed).setVm hW'.alike, X.tail, State.WarmedH.trans X.warmed hW', X.limits, X.bytes, X.same.trans (hsame.setVm s.vm)⟩,
      ⟨g, mk, s₂, L, E, ce, rfl, rfl, hx, hce, hcv, hcl, rfl, hL, rfl, rfl⟩, ?_⟩
    show Steps p.tables e below _ (((({ U with heap := s₂.heap, slotsUsed := s₂.slotsUsed } : State).setVm s₂.vm).setTop g).pushFrame (.throwing q))
    rw [← hs₂]
    exact hsteps
end
variable {p : Program} {l : Launch} {e : Env} {R : Room} {s : State} {m : MethodId} {args : Array Value} {below : List Frame} {meth : Method} {c : Code} {T : State} {H : Heap} {locs : List Loc} {cells slots : Nat}
theorem vx_callVX (X : Stand p l e R s m args below meth c T locs cells slots) (hexec : p.tables.exec = Jvm.exec) {own C : String} {index : Nat} {y : MethodName} {bytes : ByteArray} {maxL : Nat} {ret : Option FieldType} {hh : List (Nat × Nat × Nat × Nat)}
    (hown : s.vm.findClass own = some m.cls) (hlink : (Cond.methodLink own index y).before args s = true) (hinst : (Cond.instanceMethod y).before args s = true) (hsel : (Cond.selects C y y).before args s = true)
    (hcode : (Cond.codeWith y bytes maxL ret hh).before args s = true) (hy : y.cls ≠ "java/lang/invoke/MethodHandle" ∧ y.cls ≠ "java/lang/invoke/VarHandle")
    {W9 : Nat} {Pre : Pt → Array Value → Prop} {Post : Pt → Array Value → Option Value → Pt → Prop} {PostX : Pt → Array Value → Addr → Pt → Prop} (hK : vx_Back l R p e below s args y 3 W9 Pre Post PostX)
    {b : Addr} {cellB : Cell} (hcell : T.heap[b]? = some cellB) (hobj : cellB.vm.isStatics = false) (hcls : s.vm.findClass C = some cellB.cls)
    {g : JFrame} (hg : g.method = m) (hsize : g.locals.size = c.maxLocals) {argsL rest : List Value} (hlen : ∀ sig, parseMethodDescriptor y.desc = some sig → argsL.length = sig.parameters.length)
    (hstack : g.stack = argsL.reverse ++ .ref b :: rest) (hW : 2 * g.monitorRoom + (rest.map fun v => v.category).sum ≤ W9) (hdg : decode c.code g.pc = .ok (.invokevirtual index, 3))
    (hpre : ∀ vm₁, s.WarmedH vm₁ → Pre ⟨T.setVm vm₁, locs, cells, slots⟩ (Value.ref b :: argsL).toArray) :
    (∃ (v : Option Value) (vm₁ : Vm) (B : Pt), s.WarmedH vm₁ ∧ Stand p l e R s m args below meth c B.U B.locs B.cells B.slots ∧ Post ⟨T.setVm vm₁, locs, cells, slots⟩ (Value.ref b :: argsL).toArray v B ∧
      ∀ target, Steps p.tables e below (B.U.setTop { g with pc := g.pc + 3, stack := v.toList ++ rest }) target → Steps p.tables e below (T.setTop g) target) ∨
    (∃ (q : Addr) (vm₁ : Vm) (B : Pt), s.WarmedH vm₁ ∧ Stand p l e R s m args below meth c B.U B.locs B.cells B.slots ∧ PostX ⟨T.setVm vm₁, locs, cells, slots⟩ (Value.ref b :: argsL).toArray q B ∧
      Steps p.tables e below (T.setTop g) ((B.U.setTop { g with stack := rest }).pushFrame (.throwing q))) := by
  obtain ⟨mk, methM, hnamed, hmethM, hstM, habM⟩ := Cond.instanceMethod_spec hinst
  obtain ⟨m8, methM', cM, hn8, hmethM', -, -, -, -, -, -, hsigM⟩ := Cond.codeWith_spec hcode
  cases Option.some.inj (hn8.symm.trans hnamed)
  cases hmethM.symm.trans hmethM'
  obtain ⟨c2, r2, m2, q1, q2, q3, q4, kP, hkP, hkPi⟩ := Cond.selects_spec hsel
  cases hcls.symm.trans q1
  cases (State.methodFound?_of_named hnamed hy).symm.trans q2
  cases hnamed.symm.trans q3
  have hselP : selectMethod e.platform s.vm cellB.cls mk = .method mk := by rw [Launch.admits_selectMethod X.admits]; exact q4
  obtain ⟨vm₁, X₁, hstep₁⟩ := X.invokevirtual hexec hown hlink hnamed hmethM hstM hkP hkPi hy (a := b) (cell := cellB) hcell
    (fun z h => by rw [h] at hobj; cases hobj) hselP hmethM habM hkP hkPi (g := g) hg (argsL := argsL) (rest := rest) (hlen _ hsigM) hstack hdg
  rcases hK m meth c ⟨T.setVm vm₁, locs, cells, slots⟩ { g with stack := rest } (.invokevirtual index) mk (Value.ref b :: argsL).toArray X₁ hg hsize hdg hW (X₁.named hnamed) (hpre vm₁ X₁.warmed) with ⟨v, B, X', hpost, hsteps⟩ | ⟨q, B, X', hpost, hsteps⟩
  · exact Or.inl ⟨v, vm₁, B, X₁.warmed, X', hpost, fun target h => hstep₁ _ fun acts => by rw [doInvoke_state]; exact hsteps.trans h⟩
  · exact Or.inr ⟨q, vm₁, B, X₁.warmed, X', hpost, hstep₁ _ fun acts => by rw [doInvoke_state]; exact hsteps⟩
theorem vx_callSX (X : Stand p l e R s m args below meth c T locs cells slots) (hexec : p.tables.exec = Jvm.exec) {own : String} {index : Nat} {y : MethodName} {bytes : ByteArray} {maxL : Nat} {ret : Option FieldType} {hh : List (Nat × Nat × Nat × Nat)}
    (hown : s.vm.findClass own = some m.cls) (hlink : (Cond.methodLink own index y).before args s = true) (hstat : (Cond.static y).before args s = true) (hinit : (Cond.initialized y.cls).before args s = true)
    (hcode : (Cond.codeWith y bytes maxL ret hh).before args s = true) (hy : y.cls ≠ "java/lang/invoke/MethodHandle" ∧ y.cls ≠ "java/lang/invoke/VarHandle")
    {W9 : Nat} {Pre : Pt → Array Value → Prop} {Post : Pt → Array Value → Option Value → Pt → Prop} {PostX : Pt → Array Value → Addr → Pt → Prop} (hK : vx_Back l R p e below s args y 3 W9 Pre Post PostX)
    {g : JFrame} (hg : g.method = m) (hsize : g.locals.size = c.maxLocals) {argsL rest : List Value} (hlen : ∀ sig, parseMethodDescriptor y.desc = some sig → argsL.length = sig.parameters.length)
    (hstack : g.stack = argsL.reverse ++ rest) (hW : 2 * g.monitorRoom + (rest.map fun v => v.category).sum ≤ W9) (hdg : decode c.code g.pc = .ok (.invokestatic index, 3))
    (hpre : ∀ vm₁, s.WarmedH vm₁ → Pre ⟨T.setVm vm₁, locs, cells, slots⟩ argsL.toArray) :
    (∃ (v : Option Value) (vm₁ : Vm) (B : Pt), s.WarmedH vm₁ ∧ Stand p l e R s m args below meth c B.U B.locs B.cells B.slots ∧ Post ⟨T.setVm vm₁, locs, cells, slots⟩ argsL.toArray v B ∧
      ∀ target, Steps p.tables e below (B.U.setTop { g with pc := g.pc + 3, stack := v.toList ++ rest }) target → Steps p.tables e below (T.setTop g) target) ∨
    (∃ (q : Addr) (vm₁ : Vm) (B : Pt), s.WarmedH vm₁ ∧ Stand p l e R s m args below meth c B.U B.locs B.cells B.slots ∧ PostX ⟨T.setVm vm₁, locs, cells, slots⟩ argsL.toArray q B ∧
      Steps p.tables e below (T.setTop g) ((B.U.setTop { g with stack := rest }).pushFrame (.throwing q))) := by
  obtain ⟨mk, methM, cM, hnamed, hmethM, -, -, -, -, -, -, hsigM⟩ := Cond.codeWith_spec hcode
  have hstatic : methM.isStatic = true := Cond.static_spec hnamed hmethM hstat
  obtain ⟨kP, hkP, -⟩ := className_of_methodNamed hnamed
  have hinitP : kP.init = .initialized := Cond.initialized_spec (findClass_of_methodNamed hnamed) hkP hinit
  obtain ⟨vm₁, X₁, hstep₁⟩ := X.invokestatic hexec hown hlink hnamed hmethM hstatic hkP hinitP hy (g := g) hg (argsL := argsL) (rest := rest) (hlen _ hsigM) hstack hdg
  rcases hK m meth c ⟨T.setVm vm₁, locs, cells, slots⟩ { g with stack := rest } (.invokestatic index) mk argsL.toArray X₁ hg hsize hdg hW (X₁.named hnamed) (hpre vm₁ X₁.warmed) with ⟨v, B, X', hpost, hsteps⟩ | ⟨q, B, X', hpost, hsteps⟩
  · exact Or.inl ⟨v, vm₁, B, X₁.warmed, X', hpost, fun target h => hstep₁ _ fun acts => by rw [doInvoke_state]; exact hsteps.trans h⟩
  · exact Or.inr ⟨q, vm₁, B, X₁.warmed, X', hpost, hstep₁ _ fun acts => by rw [doInvoke_state]; exact hsteps⟩
theorem vx_callVW (X : Stand p l e R s m args below meth c T locs cells slots) (hexec : p.tables.exec = Jvm.exec) {own C : String} {index : Nat} {y : MethodName} {bytes : ByteArray} {maxL : Nat} {ret : Option FieldType} {hh : List (Nat × Nat × Nat × Nat)}
    (hown : s.vm.findClass own = some m.cls) (hlink : (Cond.methodLink own index y).before args s = true) (hinst : (Cond.instanceMethod y).before args s = true) (hsel : (Cond.selects C y y).before args s = true)
    (hcode : (Cond.codeWith y bytes maxL ret hh).before args s = true) (hy : y.cls ≠ "java/lang/invoke/MethodHandle" ∧ y.cls ≠ "java/lang/invoke/VarHandle")
    {W9 : Nat} {Pre : Pt → Array Value → Prop} {Post : Pt → Array Value → Option Value → Pt → Prop} (hK : Back l R p e below s args y 3 W9 Pre Post)
    {b : Addr} {cellB : Cell} (hcell : T.heap[b]? = some cellB) (hobj : cellB.vm.isStatics = false) (hcls : s.vm.findClass C = some cellB.cls)
    {g : JFrame} (hg : g.method = m) (hsize : g.locals.size = c.maxLocals) {argsL rest : List Value} (hlen : ∀ sig, parseMethodDescriptor y.desc = some sig → argsL.length = sig.parameters.length)
    (hstack : g.stack = argsL.reverse ++ .ref b :: rest) (hW : 2 * g.monitorRoom + (rest.map fun v => v.category).sum ≤ W9) (hdg : decode c.code g.pc = .ok (.invokevirtual index, 3))
    (hpre : ∀ vm₁, s.WarmedH vm₁ → Pre ⟨T.setVm vm₁, locs, cells, slots⟩ (Value.ref b :: argsL).toArray) :
    ∃ (v : Option Value) (vm₁ : Vm) (B : Pt), s.WarmedH vm₁ ∧ Stand p l e R s m args below meth c B.U B.locs B.cells B.slots ∧ Post ⟨T.setVm vm₁, locs, cells, slots⟩ (Value.ref b :: argsL).toArray v B ∧
      ∀ target, Steps p.tables e below (B.U.setTop { g with pc := g.pc + 3, stack := v.toList ++ rest }) target → Steps p.tables e below (T.setTop g) target := by
  obtain ⟨mk, methM, hnamed, hmethM, hstM, habM⟩ := Cond.instanceMethod_spec hinst
  obtain ⟨m8, methM', cM, hn8, hmethM', -, -, -, -, -, -, hsigM⟩ := Cond.codeWith_spec hcode
  cases Option.some.inj (hn8.symm.trans hnamed)
  cases hmethM.symm.trans hmethM'
  obtain ⟨c2, r2, m2, q1, q2, q3, q4, kP, hkP, hkPi⟩ := Cond.selects_spec hsel
  cases hcls.symm.trans q1
  cases (State.methodFound?_of_named hnamed hy).symm.trans q2
  cases hnamed.symm.trans q3
  have hselP : selectMethod e.platform s.vm cellB.cls mk = .method mk := by rw [Launch.admits_selectMethod X.admits]; exact q4
  obtain ⟨vm₁, X₁, hstep₁⟩ := X.invokevirtual hexec hown hlink hnamed hmethM hstM hkP hkPi hy (a := b) (cell := cellB) hcell
    (fun z h => by rw [h] at hobj; cases hobj) hselP hmethM habM hkP hkPi (g := g) hg (argsL := argsL) (rest := rest) (hlen _ hsigM) hstack hdg
  obtain ⟨v, B, X', hpost, hsteps⟩ := hK m meth c ⟨T.setVm vm₁, locs, cells, slots⟩ { g with stack := rest } (.invokevirtual index) mk (Value.ref b :: argsL).toArray X₁ hg hsize hdg hW (X₁.named hnamed) (hpre vm₁ X₁.warmed)
  exact ⟨v, vm₁, B, X₁.warmed, X', hpost, fun target h => hstep₁ _ fun acts => by rw [doInvoke_state]; exact hsteps.trans h⟩
abbrev vx_CVW (R : Room) (s : State) (args : Array Value) (own C : String) (index : Nat) (y : MethodName) (bytes : ByteArray) (maxL : Nat) (ret : Option FieldType) (hh : List (Nat × Nat × Nat × Nat)) (ws : List Cond) (rm : Room) (mc ms n : Nat) : Prop :=
  (rm.cells = mc ∧ rm.slots = ms ∧ rm.frames + 1 ≤ R.frames ∧ 8 + (maxL + 11) + rm.locals ≤ R.locals ∧ (∀ w ∈ ws, ∀ (a' : Array Value) (U : State), s.WarmedH U.vm → w.before a' U = true) ∧ Cond.codeWith y bytes maxL ret hh ∈ ws) ∧
  (Cond.codeWith y bytes maxL ret hh).before args s = true ∧ (Cond.initialized y.cls).before args s = true ∧ (y.cls ≠ "java/lang/invoke/MethodHandle" ∧ y.cls ≠ "java/lang/invoke/VarHandle") ∧
  (∀ sig, parseMethodDescriptor y.desc = some sig → n = sig.parameters.length) ∧ (Cond.methodLink own index y).before args s = true ∧ (Cond.instanceMethod y).before args s = true ∧ (Cond.selects C y y).before args s = true
theorem vx_cwVW {own C : String} {index maxL mc ms : Nat} {y : MethodName} {bytes : ByteArray} {ret : Option FieldType} {hh : List (Nat × Nat × Nat × Nat)} {Ts ws ws' : List Cond} {rm : Room} (n : Nat) (ht : ∀ w ∈ Ts, w.before args s = true) (hT : GoodIn Ts (wsV own index C y ws)) (hw : ws = Cond.codeWith y bytes maxL ret hh :: ws') (hrc : rm.cells = mc) (hrs : rm.slots = ms)
    (hd : y.cls = C ∧ y.cls ≠ "java/lang/invoke/MethodHandle" ∧ y.cls ≠ "java/lang/invoke/VarHandle" ∧ (parseMethodDescriptor y.desc).map (fun d => d.parameters.length) = some n) (hR : rm.frames + 1 ≤ R.frames ∧ 8 + (maxL + 11) + rm.locals ≤ R.locals) :
    vx_CVW R s args own C index y bytes maxL ret hh ws rm mc ms n := by
  obtain ⟨hC, hd⟩ := hd
  subst hC
  have ok : ∀ w ∈ wsV own index y.cls y ws, w.before args s = true := fun w h => ht w (hT w h).1
  have hG : GoodIn Ts ws := fun w h => hT w (by unfold wsV; exact List.mem_append_right _ h)
  have hc : Cond.codeWith y bytes maxL ret hh ∈ ws := by rw [hw]; exact List.mem_cons_self
  refine ⟨⟨hrc, hrs, hR.1, hR.2, pay_in ht hG, hc⟩, ht _ (hG _ hc).1, ok _ (by simp [wsV]), ⟨hd.1, hd.2.1⟩, fun sig h => ?_, ok _ (by simp [wsV]), ok _ (by simp [wsV]), ok _ (by simp [wsV])⟩
  have h2 := hd.2.2
  rw [h] at h2
  exact (Option.some.inj h2).symm
theorem vx_runVW {y : MethodName} {bytes cc : ByteArray} {maxL nL mc ms n index : Nat} {ret : Option FieldType} {hh : List (Nat × Nat × Nat × Nat)} {ws : List Cond} {rm : Room} {Pc : Array Value → State → Prop} {Qc : Array Value → State → Outcome → State → Prop} {free : Addr → Prop} {Ts : List Cond} {own C : String} {b : Addr} {As rest : List Value} {g : JFrame}
    (S : CallFix p m c cc nL s args Ts own) (hM : Met l y ws rm Pc Qc mc ms free) (cw : vx_CVW R s args own C index y bytes maxL ret hh ws rm mc ms n) (hp : PreV s H C b Pc As)
    (hg : g.method = m) (hn : As.length = n) (hsize : g.locals.size = nL) (hstack : g.stack = As.reverse ++ .ref b :: rest) (hW : 2 * g.monitorRoom + (rest.map fun v => v.category).sum ≤ 8) (hdg : decode cc g.pc = .ok (.invokevirtual index, 3)) (hf : cells + mc ≤ R.cells ∧ slots + ms ≤ R.slots) :
    va_Run p l e R s m args below meth c H locs cells slots mc ms g rest (Qc (Value.ref b :: As).toArray) free := by
  obtain ⟨⟨hrc, hrs, hfr, hlo, hws, hcw⟩, hcode, hini, hy, hlen, hl, hin, hse⟩ := cw
  have hK : Back l R p e below s args y 3 8 (PreOf R mc ms Pc) (PostOf Qc mc ms free) := va_backW (hh := hh) (bytes := bytes) (maxL := maxL) (ret := ret) hM hp.1 hrc hrs hfr hlo hws hcw (fun a' U hW => word_at hW (Or.inl (by first | rfl | simp [Cond.onTables, Cond.keeps, Cond.steady])) hini)
  obtain ⟨hx, hb, hml, ho, -⟩ := S
  obtain ⟨-, ⟨cellB, hcB, hoB, hclB⟩, hPc⟩ := hp
  intro T hT X
  obtain ⟨v, vm₁, ⟨U', l2, c2, s2⟩, hW₁, X', ⟨g', mk, t, L, e1, e2, hq, h1, hL, h2, h3⟩, st⟩ := vx_callVW X hx (C := C) (hh := hh) (bytes := bytes) (maxL := maxL) (ret := ret) ho hl hin hse hcode hy hK (by rw [hT]; exact hcB) hoB hclB hg (hsize.trans hml.symm) (argsL := As) (rest := rest) (fun sig h => hn.trans (hlen sig h)) hstack hW (by rw [hb]; exact hdg)
    (fun vm₁ hW₁ => ⟨hf.1, hf.2, hPc (T.setVm vm₁) hT hW₁⟩)
  dsimp only [Pt.U, Pt.locs, Pt.cells, Pt.slots] at X' e1 e2 h1 h2 h3 st
  subst h1; subst h2; subst h3
  exact ⟨v, (T.setVm vm₁).calling g' mk (Value.ref b :: As).toArray, t, U', L, hT, X', hL, e1, e2, hq, st⟩
section
variable {y : MethodName} {bytes cc : ByteArray} {maxL nL mc ms n index : Nat} {ret : Option FieldType} {ws : List Cond} {rm : Room} {Pc : Array Value → State → Prop} {Qc : Array Value → State → Outcome → State → Prop} {XC : String → State → State → Prop} {free : Addr → Prop} {Ts : List Cond} {own C : String} {b : Addr} {As rest : List Value} {g : JFrame}
theorem vx_runVX {hh : List (Nat × Nat × Nat × Nat)} (S : CallFix p m c cc nL s args Ts own) (hM : vx_Met l y ws rm Pc Qc XC mc ms free) (cw : vx_CVW R s args own C index y bytes maxL ret hh ws rm mc ms n) (hp : PreV s H C b Pc As)
    (hg : g.method = m) (hn : As.length = n) (hsize : g.locals.size = nL) (hstack : g.stack = As.reverse ++ .ref b :: rest) (hW : 2 * g.monitorRoom + (rest.map fun v => v.category).sum ≤ 8) (hdg : decode cc g.pc = .ok (.invokevirtual index, 3)) (hf : cells + mc ≤ R.cells ∧ slots + ms ≤ R.slots) :
    vx_Run p l e R s m args below meth c H locs cells slots mc ms g rest (Qc (Value.ref b :: As).toArray) XC free := by
  obtain ⟨⟨hrc, hrs, hfr, hlo, hws, hcw⟩, hcode, hini, hy, hlen, hl, hin, hse⟩ := cw
  have hK : vx_Back l R p e below s args y 3 8 (PreOf R mc ms Pc) (PostOf Qc mc ms free) (vx_Post XC mc ms free) := vx_backW (hh := hh) (bytes := bytes) (maxL := maxL) (ret := ret) hM hp.1 hrc hrs hfr hlo hws hcw (fun a' U hW => word_at hW (Or.inl (by first | rfl | simp [Cond.onTables, Cond.keeps, Cond.steady])) hini)
  obtain ⟨hx, hb, hml, ho, -⟩ := S
  obtain ⟨-, ⟨cellB, hcB, hoB, hclB⟩, hPc⟩ := hp
  intro T hT X
  rcases vx_callVX X hx (C := C) (hh := hh) (bytes := bytes) (maxL := maxL) (ret := ret) ho hl hin hse hcode hy hK (by rw [hT]; exact hcB) hoB hclB hg (hsize.trans hml.symm) (argsL := As) (rest := rest) (fun sig h => hn.trans (hlen sig h)) hstack hW (by rw [hb]; exact hdg)
    (fun vm₁ hW₁ => ⟨hf.1, hf.2, hPc (T.setVm vm₁) hT hW₁⟩) with ⟨v, vm₁, ⟨U', l2, c2, s2⟩, hW₁, X', ⟨g', mk, t, L, e1, e2, hq, h1, hL, h2, h3⟩, st⟩ | ⟨q, vm₁, ⟨U', l2, c2, s2⟩, hW₁, X', ⟨g', mk, t, L, E, ce, e1, e2, hq, hce, hcv, hcl, h1, hL, h2, h3⟩, st⟩
  · dsimp only [Pt.U, Pt.locs, Pt.cells, Pt.slots] at X' e1 e2 h1 h2 h3 st
    subst h1; subst h2; subst h3
    exact Or.inl ⟨v, (T.setVm vm₁).calling g' mk (Value.ref b :: As).toArray, t, U', L, hT, X', hL, e1, e2, hq, st⟩
  · dsimp only [Pt.U, Pt.locs, Pt.cells, Pt.slots] at X' e1 e2 h1 h2 h3 st hcl
    subst h1; subst h2; subst h3
    exact Or.inr ⟨q, (T.setVm vm₁).calling g' mk (Value.ref b :: As).toArray, t, U', L, E, ce, hT, X', hL, e1, e2, hq, hce, hcv, vx_cls hW₁ hcl, st⟩
theorem vx_runSX {hh : List (Nat × Nat × Nat × Nat)} (S : CallFix p m c cc nL s args Ts own) (hM : vx_Met l y ws rm Pc Qc XC mc ms free) (cw : vx_CSW R s args own index y bytes maxL ret hh ws rm mc ms n) (hp : PreS s H Pc As)
    (hg : g.method = m) (hn : As.length = n) (hsize : g.locals.size = nL) (hstack : g.stack = As.reverse ++ rest) (hW : 2 * g.monitorRoom + (rest.map fun v => v.category).sum ≤ 8) (hdg : decode cc g.pc = .ok (.invokestatic index, 3)) (hf : cells + mc ≤ R.cells ∧ slots + ms ≤ R.slots) :
    vx_Run p l e R s m args below meth c H locs cells slots mc ms g rest (Qc As.toArray) XC free := by
  obtain ⟨⟨hrc, hrs, hfr, hlo, hws, hcw⟩, hcode, hini, hy, hlen, hl, hstt⟩ := cw
  have hK : vx_Back l R p e below s args y 3 8 (PreOf R mc ms Pc) (PostOf Qc mc ms free) (vx_Post XC mc ms free) := vx_backW (hh := hh) (bytes := bytes) (maxL := maxL) (ret := ret) hM hp.1 hrc hrs hfr hlo hws hcw (fun a' U hW => word_at hW (Or.inl (by first | rfl | simp [Cond.onTables, Cond.keeps, Cond.steady])) hini)
  obtain ⟨hx, hb, hml, ho, -⟩ := S
  intro T hT X
  rcases vx_callSX X hx (hh := hh) (bytes := bytes) (maxL := maxL) (ret := ret) ho hl hstt hini hcode hy hK hg (hsize.trans hml.symm) (argsL := As) (rest := rest) (fun sig h => hn.trans (hlen sig h)) hstack hW (by rw [hb]; exact hdg)
    (fun vm₁ hW₁ => ⟨hf.1, hf.2, hp.2 (T.setVm vm₁) hT hW₁⟩) with ⟨v, vm₁, ⟨U', l2, c2, s2⟩, hW₁, X', ⟨g', mk, t, L, e1, e2, hq, h1, hL, h2, h3⟩, st⟩ | ⟨q, vm₁, ⟨U', l2, c2, s2⟩, hW₁, X', ⟨g', mk, t, L, E, ce, e1, e2, hq, hce, hcv, hcl, h1, hL, h2, h3⟩, st⟩
  · dsimp only [Pt.U, Pt.locs, Pt.cells, Pt.slots] at X' e1 e2 h1 h2 h3 st
    subst h1; subst h2; subst h3
    exact Or.inl ⟨v, (T.setVm vm₁).calling g' mk As.toArray, t, U', L, hT, X', hL, e1, e2, hq, st⟩
  · dsimp only [Pt.U, Pt.locs, Pt.cells, Pt.slots] at X' e1 e2 h1 h2 h3 st hcl
    subst h1; subst h2; subst h3
    exact Or.inr ⟨q, (T.setVm vm₁).calling g' mk As.toArray, t, U', L, E, ce, hT, X', hL, e1, e2, hq, hce, hcv, vx_cls hW₁ hcl, st⟩
end
end VXH
theorem vx_ofWH {l : Launch} {y : MethodName} {ws ws' : List Cond} {rm : Room} {Pc : Array Value → State → Prop} {Qc : Array Value → State → Outcome → State → Prop} {XC : String → State → State → Prop} {mc ms : Nat} {free : Addr → Prop} {cc : ByteArray} {maxL : Nat} {ret : Option FieldType} {hh : List (Nat × Nat × Nat × Nat)}
    (hy : plainName y.cls = true) (hw : ws = Cond.codeWith y cc maxL ret hh :: ws')
    (body : ∀ p e s m args below meth c s₁, BodyLoose p l y (headSpec ws rm) cc maxL ret e s m args below meth c s₁ → c.maxLocals = maxL → Pc args s →
      W p l e (headSpec ws rm).room s m args below meth c s.heap [] 0 0 (vx_MQ below Qc XC args s mc ms free) (entryFrame m args maxL)) : vx_Met l y ws rm Pc Qc XC mc ms free := by
  refine MetFree.of_bodyS (code := cc) (maxLocals := maxL) (ret := ret) hy ?_ ?_
  · intro args s m h hn
    obtain ⟨m9, meth, c, hn9, h1, h2, h3, h4, -, h5, h6, -⟩ := Cond.codeWith_spec (atoms_spec (ws := ws) h _ (by rw [hw]; exact List.mem_cons_self))
    cases hn.symm.trans hn9
    exact ⟨meth, c, h1, h2, h3, h4, h5, h6⟩
  · intro p e s m args below meth c s₁ B hml hP _
    have hh0 : s₁.heap = s.heap := by rw [B.state]; rfl
    obtain ⟨t, a1, o, b1, b2, b3⟩ := body p e s m args below meth c s₁ B hml hP s₁ hh0 (Stand.of_body B)
    exact ⟨t, o, a1, b1, b2, b3⟩
/-! ===== END ===== -/
end
section
def RX0 : String := "PlotKernel$Command"
def TX0 : u_T := fun k => match k with
  | 0 => ("PlotKernel$Command", "kind", "I", true)
  | 1 => ("PlotKernel$Command", "dx", "I", true)
  | 2 => ("PlotKernel$Command", "dy", "I", true)
  | _ => ("PlotKernel$Command", "pen", "I", true)
def tyX0 : Nat → FieldType := fun k => match k with
  | 0 => .int
  | 1 => .int
  | 2 => .int
  | _ => .int
theorem nmX0 : ∀ a, a < 4 → ∀ b, b < 4 → a ≠ b → (TX0 a).2.1 ≠ (TX0 b).2.1 := by decide +kernel
theorem tyX0_ok : ∀ k, k < 4 → parseFieldDescriptor (TX0 k).2.2.1 = some (tyX0 k) := by decide +kernel
abbrev cX0_init : ByteArray := prog_2_method_1_code
def yX0_init : MethodName := ⟨RX0, "<init>", "(IIII)V"⟩
abbrev cX0_draws : ByteArray := prog_2_method_2_code
def yX0_draws : MethodName := ⟨RX0, "draws", "()Z"⟩
abbrev cX0_steps : ByteArray := prog_2_method_3_code
def yX0_steps : MethodName := ⟨RX0, "steps", "()I"⟩
abbrev cX0_wayX : ByteArray := prog_2_method_4_code
def yX0_wayX : MethodName := ⟨RX0, "wayX", "(I)I"⟩
abbrev cX0_wayY : ByteArray := prog_2_method_5_code
def yX0_wayY : MethodName := ⟨RX0, "wayY", "(I)I"⟩
abbrev cX0_way : ByteArray := prog_2_method_6_code
def yX0_way : MethodName := ⟨RX0, "way", "(II)I"⟩
def RX1 : String := "PlotKernel$Paper"
def TX1 : u_T := fun k => match k with
  | 0 => ("PlotKernel$Paper", "words", "[J", true)
  | _ => ("PlotKernel$Paper", "markCount", "I", false)
def tyX1 : Nat → FieldType := fun k => match k with
  | 0 => .array .long
  | _ => .int
theorem nmX1 : ∀ a, a < 2 → ∀ b, b < 2 → a ≠ b → (TX1 a).2.1 ≠ (TX1 b).2.1 := by decide +kernel
theorem tyX1_ok : ∀ k, k < 2 → parseFieldDescriptor (TX1 k).2.2.1 = some (tyX1 k) := by decide +kernel
abbrev cX1_init : ByteArray := prog_3_method_1_code
def yX1_init : MethodName := ⟨RX1, "<init>", "()V"⟩
abbrev cX1_hasMark : ByteArray := prog_3_method_2_code
def yX1_hasMark : MethodName := ⟨RX1, "hasMark", "(II)Z"⟩
abbrev cX1_putMark : ByteArray := prog_3_method_3_code
def yX1_putMark : MethodName := ⟨RX1, "putMark", "(II)V"⟩
abbrev cX1_wordOf : ByteArray := prog_3_method_4_code
def yX1_wordOf : MethodName := ⟨RX1, "wordOf", "(II)I"⟩
abbrev cX1_bitOf : ByteArray := prog_3_method_5_code
def yX1_bitOf : MethodName := ⟨RX1, "bitOf", "(II)J"⟩
def RX2 : String := "PlotKernel"
def TX2 : u_T := fun k => match k with
  | 0 => ("PlotKernel", "queue", "Ljava/util/ArrayList;", true)
  | 1 => ("PlotKernel", "paper", "LPlotKernel$Paper;", true)
  | 2 => ("PlotKernel", "plan", "LPlotKernel$Paper;", true)
  | 3 => ("PlotKernel", "inkLeft", "[I", true)
  | 4 => ("PlotKernel", "opcode", "I", false)
  | 5 => ("PlotKernel", "firstByte", "I", false)
  | 6 => ("PlotKernel", "pendingBytes", "I", false)
  | 7 => ("PlotKernel", "errorCount", "I", false)
  | 8 => ("PlotKernel", "latest", "LPlotKernel$Command;", false)
  | 9 => ("PlotKernel", "endX", "I", false)
  | 10 => ("PlotKernel", "endY", "I", false)
  | 11 => ("PlotKernel", "startX", "I", false)
  | 12 => ("PlotKernel", "startY", "I", false)
  | 13 => ("PlotKernel", "stepsDone", "I", false)
  | 14 => ("PlotKernel", "begunTicks", "I", false)
  | 15 => ("PlotKernel", "penDown", "Z", false)
  | 16 => ("PlotKernel", "penHeld", "I", false)
  | 17 => ("PlotKernel", "upSteps", "I", false)
  | _ => ("PlotKernel", "downSteps", "I", false)
def tyX2 : Nat → FieldType := fun k => match k with
  | 0 => .object "java/util/ArrayList"
  | 1 => .object "PlotKernel$Paper"
  | 2 => .object "PlotKernel$Paper"
  | 3 => .array .int
  | 4 => .int
  | 5 => .int
  | 6 => .int
  | 7 => .int
  | 8 => .object "PlotKernel$Command"
  | 9 => .int
  | 10 => .int
  | 11 => .int
  | 12 => .int
  | 13 => .int
  | 14 => .int
  | 15 => .boolean
  | 16 => .int
  | 17 => .int
  | _ => .int
theorem nmX2 : ∀ a, a < 19 → ∀ b, b < 19 → a ≠ b → (TX2 a).2.1 ≠ (TX2 b).2.1 := by decide +kernel
theorem tyX2_ok : ∀ k, k < 19 → parseFieldDescriptor (TX2 k).2.2.1 = some (tyX2 k) := by decide +kernel
abbrev cX2_init : ByteArray := prog_1_method_1_code
def yX2_init : MethodName := ⟨RX2, "<init>", "()V"⟩
abbrev cX2_feed : ByteArray := prog_1_method_2_code
def yX2_feed : MethodName := ⟨RX2, "feed", "(I)Z"⟩
abbrev cX2_errors : ByteArray := prog_1_method_3_code
def yX2_errors : MethodName := ⟨RX2, "errors", "()I"⟩
abbrev cX2_queued : ByteArray := prog_1_method_4_code
def yX2_queued : MethodName := ⟨RX2, "queued", "()I"⟩
abbrev cX2_pending : ByteArray := prog_1_method_5_code
def yX2_pending : MethodName := ⟨RX2, "pending", "()I"⟩
abbrev cX2_takeByte : ByteArray := prog_1_method_6_code
def yX2_takeByte : MethodName := ⟨RX2, "takeByte", "(I)V"⟩
abbrev cX2_beginCommand : ByteArray := prog_1_method_7_code
def yX2_beginCommand : MethodName := ⟨RX2, "beginCommand", "(I)V"⟩
abbrev cX2_endCommand : ByteArray := prog_1_method_8_code
def yX2_endCommand : MethodName := ⟨RX2, "endCommand", "(I)V"⟩
abbrev cX2_signed : ByteArray := prog_1_method_9_code
def yX2_signed : MethodName := ⟨RX2, "signed", "(I)I"⟩
abbrev cX2_queueMotion : ByteArray := prog_1_method_10_code
def yX2_queueMotion : MethodName := ⟨RX2, "queueMotion", "(LPlotKernel$Command;)V"⟩
abbrev cX2_repeatLatest : ByteArray := prog_1_method_11_code
def yX2_repeatLatest : MethodName := ⟨RX2, "repeatLatest", "(I)V"⟩
abbrev cX2_queueIfRight : ByteArray := prog_1_method_12_code
def yX2_queueIfRight : MethodName := ⟨RX2, "queueIfRight", "(LPlotKernel$Command;)Z"⟩
abbrev cX2_isRight : ByteArray := prog_1_method_13_code
def yX2_isRight : MethodName := ⟨RX2, "isRight", "(LPlotKernel$Command;)Z"⟩
abbrev cX2_planLine : ByteArray := prog_1_method_14_code
def yX2_planLine : MethodName := ⟨RX2, "planLine", "(LPlotKernel$Command;)V"⟩
abbrev cX2_tick : ByteArray := prog_1_method_15_code
def yX2_tick : MethodName := ⟨RX2, "tick", "(I)I"⟩
abbrev cX2_cut : ByteArray := prog_1_method_16_code
def yX2_cut : MethodName := ⟨RX2, "cut", "()I"⟩
abbrev cX2_refill : ByteArray := prog_1_method_17_code
def yX2_refill : MethodName := ⟨RX2, "refill", "(I)I"⟩
abbrev cX2_pour : ByteArray := prog_1_method_18_code
def yX2_pour : MethodName := ⟨RX2, "pour", "(II)I"⟩
abbrev cX2_doTick : ByteArray := prog_1_method_19_code
def yX2_doTick : MethodName := ⟨RX2, "doTick", "()Z"⟩
abbrev cX2_turnPen : ByteArray := prog_1_method_20_code
def yX2_turnPen : MethodName := ⟨RX2, "turnPen", "()V"⟩
abbrev cX2_changePen : ByteArray := prog_1_method_21_code
def yX2_changePen : MethodName := ⟨RX2, "changePen", "(LPlotKernel$Command;)V"⟩
abbrev cX2_doStep : ByteArray := prog_1_method_22_code
def yX2_doStep : MethodName := ⟨RX2, "doStep", "(LPlotKernel$Command;)V"⟩
abbrev cX2_endFirstCommand : ByteArray := prog_1_method_23_code
def yX2_endFirstCommand : MethodName := ⟨RX2, "endFirstCommand", "(LPlotKernel$Command;)V"⟩
abbrev cX2_markHere : ByteArray := prog_1_method_24_code
def yX2_markHere : MethodName := ⟨RX2, "markHere", "()V"⟩
abbrev cX2_at : ByteArray := prog_1_method_25_code
def yX2_at : MethodName := ⟨RX2, "at", "()I"⟩
abbrev cX2_isDown : ByteArray := prog_1_method_26_code
def yX2_isDown : MethodName := ⟨RX2, "isDown", "()Z"⟩
abbrev cX2_pen : ByteArray := prog_1_method_27_code
def yX2_pen : MethodName := ⟨RX2, "pen", "()I"⟩
abbrev cX2_ink : ByteArray := prog_1_method_28_code
def yX2_ink : MethodName := ⟨RX2, "ink", "(I)I"⟩
abbrev cX2_isWaiting : ByteArray := prog_1_method_29_code
def yX2_isWaiting : MethodName := ⟨RX2, "isWaiting", "()Z"⟩
abbrev cX2_timeLeft : ByteArray := prog_1_method_30_code
def yX2_timeLeft : MethodName := ⟨RX2, "timeLeft", "()I"⟩
abbrev cX2_stepsUp : ByteArray := prog_1_method_31_code
def yX2_stepsUp : MethodName := ⟨RX2, "stepsUp", "()I"⟩
abbrev cX2_stepsDown : ByteArray := prog_1_method_32_code
def yX2_stepsDown : MethodName := ⟨RX2, "stepsDown", "()I"⟩
abbrev cX2_firstCommand : ByteArray := prog_1_method_33_code
def yX2_firstCommand : MethodName := ⟨RX2, "firstCommand", "()LPlotKernel$Command;"⟩
abbrev cX2_carriageX : ByteArray := prog_1_method_34_code
def yX2_carriageX : MethodName := ⟨RX2, "carriageX", "()I"⟩
abbrev cX2_carriageY : ByteArray := prog_1_method_35_code
def yX2_carriageY : MethodName := ⟨RX2, "carriageY", "()I"⟩
abbrev cX2_lacksInk : ByteArray := prog_1_method_36_code
def yX2_lacksInk : MethodName := ⟨RX2, "lacksInk", "(LPlotKernel$Command;)Z"⟩
abbrev cX2_hasPen : ByteArray := prog_1_method_37_code
def yX2_hasPen : MethodName := ⟨RX2, "hasPen", "(I)Z"⟩
abbrev cX2_inkOf : ByteArray := prog_1_method_38_code
def yX2_inkOf : MethodName := ⟨RX2, "inkOf", "(I)I"⟩
abbrev cX2_setInk : ByteArray := prog_1_method_39_code
def yX2_setInk : MethodName := ⟨RX2, "setInk", "(II)V"⟩
abbrev cX2_isMarked : ByteArray := prog_1_method_40_code
def yX2_isMarked : MethodName := ⟨RX2, "isMarked", "(II)Z"⟩
abbrev cX2_marks : ByteArray := prog_1_method_41_code
def yX2_marks : MethodName := ⟨RX2, "marks", "()I"⟩
abbrev cX2_marksInTheEnd : ByteArray := prog_1_method_42_code
def yX2_marksInTheEnd : MethodName := ⟨RX2, "marksInTheEnd", "()I"⟩
abbrev cX2_hasCell : ByteArray := prog_1_method_43_code
def yX2_hasCell : MethodName := ⟨RX2, "hasCell", "(II)Z"⟩
def RX3 : String := "PlotKernelModel"
def TX3 : u_T := fun k => match k with
  | 0 => ("PlotKernelModel", "pending", "I", false)
  | 1 => ("PlotKernelModel", "kind", "I", false)
  | 2 => ("PlotKernelModel", "first", "I", false)
  | 3 => ("PlotKernelModel", "errors", "I", false)
  | 4 => ("PlotKernelModel", "queued", "I", false)
  | 5 => ("PlotKernelModel", "kinds", "[I", true)
  | 6 => ("PlotKernelModel", "ones", "[I", true)
  | 7 => ("PlotKernelModel", "others", "[I", true)
  | 8 => ("PlotKernelModel", "lastKind", "I", false)
  | 9 => ("PlotKernelModel", "lastOne", "I", false)
  | 10 => ("PlotKernelModel", "lastOther", "I", false)
  | 11 => ("PlotKernelModel", "endX", "I", false)
  | 12 => ("PlotKernelModel", "endY", "I", false)
  | 13 => ("PlotKernelModel", "done", "I", false)
  | 14 => ("PlotKernelModel", "phase", "I", false)
  | 15 => ("PlotKernelModel", "fromX", "I", false)
  | 16 => ("PlotKernelModel", "fromY", "I", false)
  | 17 => ("PlotKernelModel", "x", "I", false)
  | 18 => ("PlotKernelModel", "y", "I", false)
  | 19 => ("PlotKernelModel", "isDown", "Z", false)
  | 20 => ("PlotKernelModel", "pen", "I", false)
  | 21 => ("PlotKernelModel", "inks", "[I", true)
  | 22 => ("PlotKernelModel", "stepsUp", "I", false)
  | 23 => ("PlotKernelModel", "stepsDown", "I", false)
  | 24 => ("PlotKernelModel", "marked", "[I", true)
  | 25 => ("PlotKernelModel", "inTheEnd", "[I", true)
  | _ => ("PlotKernelModel", "thrown", "I", false)
def tyX3 : Nat → FieldType := fun k => match k with
  | 0 => .int
  | 1 => .int
  | 2 => .int
  | 3 => .int
  | 4 => .int
  | 5 => .array .int
  | 6 => .array .int
  | 7 => .array .int
  | 8 => .int
  | 9 => .int
  | 10 => .int
  | 11 => .int
  | 12 => .int
  | 13 => .int
  | 14 => .int
  | 15 => .int
  | 16 => .int
  | 17 => .int
  | 18 => .int
  | 19 => .boolean
  | 20 => .int
  | 21 => .array .int
  | 22 => .int
  | 23 => .int
  | 24 => .array .int
  | 25 => .array .int
  | _ => .int
theorem nmX3 : ∀ a, a < 27 → ∀ b, b < 27 → a ≠ b → (TX3 a).2.1 ≠ (TX3 b).2.1 := by decide +kernel
theorem tyX3_ok : ∀ k, k < 27 → parseFieldDescriptor (TX3 k).2.2.1 = some (tyX3 k) := by decide +kernel
abbrev cX3_init : ByteArray := prog_5_method_1_code
def yX3_init : MethodName := ⟨RX3, "<init>", "()V"⟩
abbrev cX3_thrown : ByteArray := prog_5_method_2_code
def yX3_thrown : MethodName := ⟨RX3, "thrown", "()I"⟩
abbrev cX3_goes : ByteArray := prog_5_method_3_code
def yX3_goes : MethodName := ⟨RX3, "goes", "(I)Z"⟩
abbrev cX3_isIn : ByteArray := prog_5_method_4_code
def yX3_isIn : MethodName := ⟨RX3, "isIn", "(III)Z"⟩
abbrev cX3_isCell : ByteArray := prog_5_method_5_code
def yX3_isCell : MethodName := ⟨RX3, "isCell", "(II)Z"⟩
abbrev cX3_size : ByteArray := prog_5_method_6_code
def yX3_size : MethodName := ⟨RX3, "size", "(I)I"⟩
abbrev cX3_steps : ByteArray := prog_5_method_7_code
def yX3_steps : MethodName := ⟨RX3, "steps", "(II)I"⟩
abbrev cX3_draws : ByteArray := prog_5_method_8_code
def yX3_draws : MethodName := ⟨RX3, "draws", "(II)V"⟩
abbrev cX3_queues : ByteArray := prog_5_method_9_code
def yX3_queues : MethodName := ⟨RX3, "queues", "(III)Z"⟩
abbrev cX3_repeats : ByteArray := prog_5_method_10_code
def yX3_repeats : MethodName := ⟨RX3, "repeats", "(I)V"⟩
abbrev cX3_signed : ByteArray := prog_5_method_11_code
def yX3_signed : MethodName := ⟨RX3, "signed", "(I)I"⟩
abbrev cX3_isWhole : ByteArray := prog_5_method_12_code
def yX3_isWhole : MethodName := ⟨RX3, "isWhole", "(I)V"⟩
abbrev cX3_feed : ByteArray := prog_5_method_13_code
def yX3_feed : MethodName := ⟨RX3, "feed", "(I)Z"⟩
abbrev cX3_errors : ByteArray := prog_5_method_14_code
def yX3_errors : MethodName := ⟨RX3, "errors", "()I"⟩
abbrev cX3_queued : ByteArray := prog_5_method_15_code
def yX3_queued : MethodName := ⟨RX3, "queued", "()I"⟩
abbrev cX3_pending : ByteArray := prog_5_method_16_code
def yX3_pending : MethodName := ⟨RX3, "pending", "()I"⟩
abbrev cX3_marksCell : ByteArray := prog_5_method_17_code
def yX3_marksCell : MethodName := ⟨RX3, "marksCell", "()V"⟩
abbrev cX3_isDone : ByteArray := prog_5_method_18_code
def yX3_isDone : MethodName := ⟨RX3, "isDone", "()V"⟩
abbrev cX3_lifts : ByteArray := prog_5_method_19_code
def yX3_lifts : MethodName := ⟨RX3, "lifts", "(Z)V"⟩
abbrev cX3_changes : ByteArray := prog_5_method_20_code
def yX3_changes : MethodName := ⟨RX3, "changes", "()V"⟩
abbrev cX3_goesTo : ByteArray := prog_5_method_21_code
def yX3_goesTo : MethodName := ⟨RX3, "goesTo", "(I)V"⟩
abbrev cX3_step : ByteArray := prog_5_method_22_code
def yX3_step : MethodName := ⟨RX3, "step", "()I"⟩
abbrev cX3_lacksInk : ByteArray := prog_5_method_23_code
def yX3_lacksInk : MethodName := ⟨RX3, "lacksInk", "()Z"⟩
abbrev cX3_ticks : ByteArray := prog_5_method_24_code
def yX3_ticks : MethodName := ⟨RX3, "ticks", "()I"⟩
abbrev cX3_tick : ByteArray := prog_5_method_25_code
def yX3_tick : MethodName := ⟨RX3, "tick", "(I)I"⟩
abbrev cX3_cut : ByteArray := prog_5_method_26_code
def yX3_cut : MethodName := ⟨RX3, "cut", "()I"⟩
abbrev cX3_isPen : ByteArray := prog_5_method_27_code
def yX3_isPen : MethodName := ⟨RX3, "isPen", "(I)Z"⟩
abbrev cX3_refill : ByteArray := prog_5_method_28_code
def yX3_refill : MethodName := ⟨RX3, "refill", "(I)I"⟩
abbrev cX3_pour : ByteArray := prog_5_method_29_code
def yX3_pour : MethodName := ⟨RX3, "pour", "(II)I"⟩
abbrev cX3_at : ByteArray := prog_5_method_30_code
def yX3_at : MethodName := ⟨RX3, "at", "()I"⟩
abbrev cX3_isDown : ByteArray := prog_5_method_31_code
def yX3_isDown : MethodName := ⟨RX3, "isDown", "()Z"⟩
abbrev cX3_pen : ByteArray := prog_5_method_32_code
def yX3_pen : MethodName := ⟨RX3, "pen", "()I"⟩
abbrev cX3_ink : ByteArray := prog_5_method_33_code
def yX3_ink : MethodName := ⟨RX3, "ink", "(I)I"⟩
abbrev cX3_isWaiting : ByteArray := prog_5_method_34_code
def yX3_isWaiting : MethodName := ⟨RX3, "isWaiting", "()Z"⟩
abbrev cX3_timeLeft : ByteArray := prog_5_method_35_code
def yX3_timeLeft : MethodName := ⟨RX3, "timeLeft", "()I"⟩
abbrev cX3_stepsUp : ByteArray := prog_5_method_36_code
def yX3_stepsUp : MethodName := ⟨RX3, "stepsUp", "()I"⟩
abbrev cX3_stepsDown : ByteArray := prog_5_method_37_code
def yX3_stepsDown : MethodName := ⟨RX3, "stepsDown", "()I"⟩
abbrev cX3_isMarked : ByteArray := prog_5_method_38_code
def yX3_isMarked : MethodName := ⟨RX3, "isMarked", "(II)Z"⟩
abbrev cX3_bits : ByteArray := prog_5_method_39_code
def yX3_bits : MethodName := ⟨RX3, "bits", "(I)I"⟩
abbrev cX3_marks : ByteArray := prog_5_method_40_code
def yX3_marks : MethodName := ⟨RX3, "marks", "()I"⟩
abbrev cX3_marksInTheEnd : ByteArray := prog_5_method_41_code
def yX3_marksInTheEnd : MethodName := ⟨RX3, "marksInTheEnd", "()I"⟩
def RJx145de : String := "java/io/Serializable"
def TJx145de : u_T := fun k => match k with
  | _ => ("", "", "", false)
def tyJx145de : Nat → FieldType := fun k => match k with
  | _ => .int
theorem nmJx145de : ∀ a, a < 0 → ∀ b, b < 0 → a ≠ b → (TJx145de a).2.1 ≠ (TJx145de b).2.1 := by decide +kernel
theorem tyJx145de_ok : ∀ k, k < 0 → parseFieldDescriptor (TJx145de k).2.2.1 = some (tyJx145de k) := by decide +kernel
def RJx8e188 : String := "java/lang/Cloneable"
def TJx8e188 : u_T := fun k => match k with
  | _ => ("", "", "", false)
def tyJx8e188 : Nat → FieldType := fun k => match k with
  | _ => .int
theorem nmJx8e188 : ∀ a, a < 0 → ∀ b, b < 0 → a ≠ b → (TJx8e188 a).2.1 ≠ (TJx8e188 b).2.1 := by decide +kernel
theorem tyJx8e188_ok : ∀ k, k < 0 → parseFieldDescriptor (TJx8e188 k).2.2.1 = some (tyJx8e188 k) := by decide +kernel
def RJxab1ab : String := "java/lang/Iterable"
def TJxab1ab : u_T := fun k => match k with
  | _ => ("", "", "", false)
def tyJxab1ab : Nat → FieldType := fun k => match k with
  | _ => .int
theorem nmJxab1ab : ∀ a, a < 0 → ∀ b, b < 0 → a ≠ b → (TJxab1ab a).2.1 ≠ (TJxab1ab b).2.1 := by decide +kernel
theorem tyJxab1ab_ok : ∀ k, k < 0 → parseFieldDescriptor (TJxab1ab k).2.2.1 = some (tyJxab1ab k) := by decide +kernel
def RJ9 : String := "java/lang/Math"
def TJ9 : u_T := fun k => match k with
  | _ => ("", "", "", false)
def tyJ9 : Nat → FieldType := fun k => match k with
  | _ => .int
theorem nmJ9 : ∀ a, a < 0 → ∀ b, b < 0 → a ≠ b → (TJ9 a).2.1 ≠ (TJ9 b).2.1 := by decide +kernel
theorem tyJ9_ok : ∀ k, k < 0 → parseFieldDescriptor (TJ9 k).2.2.1 = some (tyJ9 k) := by decide +kernel
abbrev cJ9_abs_0f7a4 : ByteArray := prog_12_method_59_code
def yJ9_abs_0f7a4 : MethodName := ⟨RJ9, "abs", "(I)I"⟩
abbrev cJ9_max_7cf53 : ByteArray := prog_12_method_65_code
def yJ9_max_7cf53 : MethodName := ⟨RJ9, "max", "(II)I"⟩
abbrev cJ9_min_7cf53 : ByteArray := prog_12_method_69_code
def yJ9_min_7cf53 : MethodName := ⟨RJ9, "min", "(II)I"⟩
def RJ0 : String := "java/lang/String"
def TJ0 : u_T := fun k => match k with
  | _ => ("", "", "", false)
def tyJ0 : Nat → FieldType := fun k => match k with
  | _ => .int
theorem nmJ0 : ∀ a, a < 0 → ∀ b, b < 0 → a ≠ b → (TJ0 a).2.1 ≠ (TJ0 b).2.1 := by decide +kernel
theorem tyJ0_ok : ∀ k, k < 0 → parseFieldDescriptor (TJ0 k).2.2.1 = some (tyJ0 k) := by decide +kernel
def RJ10 : String := "java/lang/System"
def TJ10 : u_T := fun k => match k with
  | _ => ("", "", "", false)
def tyJ10 : Nat → FieldType := fun k => match k with
  | _ => .int
theorem nmJ10 : ∀ a, a < 0 → ∀ b, b < 0 → a ≠ b → (TJ10 a).2.1 ≠ (TJ10 b).2.1 := by decide +kernel
theorem tyJ10_ok : ∀ k, k < 0 → parseFieldDescriptor (TJ10 k).2.2.1 = some (tyJ10 k) := by decide +kernel
def RJxa1e45 : String := "java/util/AbstractCollection"
def TJxa1e45 : u_T := fun k => match k with
  | _ => ("", "", "", false)
def tyJxa1e45 : Nat → FieldType := fun k => match k with
  | _ => .int
theorem nmJxa1e45 : ∀ a, a < 0 → ∀ b, b < 0 → a ≠ b → (TJxa1e45 a).2.1 ≠ (TJxa1e45 b).2.1 := by decide +kernel
theorem tyJxa1e45_ok : ∀ k, k < 0 → parseFieldDescriptor (TJxa1e45 k).2.2.1 = some (tyJxa1e45 k) := by decide +kernel
abbrev cJxa1e45_init_da8c8 : ByteArray := prog_17_method_1_code
def yJxa1e45_init_da8c8 : MethodName := ⟨RJxa1e45, "<init>", "()V"⟩
def RJxc12de : String := "java/util/AbstractList"
def TJxc12de : u_T := fun k => match k with
  | _ => ("", "", "", false)
def tyJxc12de : Nat → FieldType := fun k => match k with
  | _ => .int
theorem nmJxc12de : ∀ a, a < 0 → ∀ b, b < 0 → a ≠ b → (TJxc12de a).2.1 ≠ (TJxc12de b).2.1 := by decide +kernel
theorem tyJxc12de_ok : ∀ k, k < 0 → parseFieldDescriptor (TJxc12de k).2.2.1 = some (tyJxc12de k) := by decide +kernel
abbrev cJxc12de_init_da8c8 : ByteArray := prog_18_method_1_code
def yJxc12de_init_da8c8 : MethodName := ⟨RJxc12de, "<init>", "()V"⟩
def RJx4a65c : String := "java/util/ArrayList"
def TJx4a65c : u_T := fun k => match k with
  | 0 => ("java/util/AbstractList", "modCount", "I", false)
  | 1 => ("java/util/ArrayList", "elementData", "[Ljava/lang/Object;", false)
  | _ => ("java/util/ArrayList", "size", "I", false)
def tyJx4a65c : Nat → FieldType := fun k => match k with
  | 0 => .int
  | 1 => .array (.object "java/lang/Object")
  | _ => .int
theorem nmJx4a65c : ∀ a, a < 3 → ∀ b, b < 3 → a ≠ b → (TJx4a65c a).2.1 ≠ (TJx4a65c b).2.1 := by decide +kernel
theorem tyJx4a65c_ok : ∀ k, k < 3 → parseFieldDescriptor (TJx4a65c k).2.2.1 = some (tyJx4a65c k) := by decide +kernel
abbrev cJx4a65c_init_da8c8 : ByteArray := prog_19_method_2_code
def yJx4a65c_init_da8c8 : MethodName := ⟨RJx4a65c, "<init>", "()V"⟩
abbrev cJx4a65c_grow_92f84 : ByteArray := prog_19_method_6_code
def yJx4a65c_grow_92f84 : MethodName := ⟨RJx4a65c, "grow", "(I)[Ljava/lang/Object;"⟩
abbrev cJx4a65c_grow_d5877 : ByteArray := prog_19_method_7_code
def yJx4a65c_grow_d5877 : MethodName := ⟨RJx4a65c, "grow", "()[Ljava/lang/Object;"⟩
abbrev cJx4a65c_size_8abf5 : ByteArray := prog_19_method_8_code
def yJx4a65c_size_8abf5 : MethodName := ⟨RJx4a65c, "size", "()I"⟩
abbrev cJx4a65c_isEmpty_aae02 : ByteArray := prog_19_method_9_code
def yJx4a65c_isEmpty_aae02 : MethodName := ⟨RJx4a65c, "isEmpty", "()Z"⟩
abbrev cJx4a65c_elementData_915e3 : ByteArray := prog_19_method_18_code
def yJx4a65c_elementData_915e3 : MethodName := ⟨RJx4a65c, "elementData", "(I)Ljava/lang/Object;"⟩
abbrev cJx4a65c_get_915e3 : ByteArray := prog_19_method_20_code
def yJx4a65c_get_915e3 : MethodName := ⟨RJx4a65c, "get", "(I)Ljava/lang/Object;"⟩
abbrev cJx4a65c_add_72be8 : ByteArray := prog_19_method_24_code
def yJx4a65c_add_72be8 : MethodName := ⟨RJx4a65c, "add", "(Ljava/lang/Object;[Ljava/lang/Object;I)V"⟩
abbrev cJx4a65c_add_9ea2d : ByteArray := prog_19_method_25_code
def yJx4a65c_add_9ea2d : MethodName := ⟨RJx4a65c, "add", "(Ljava/lang/Object;)Z"⟩
abbrev cJx4a65c_remove_915e3 : ByteArray := prog_19_method_29_code
def yJx4a65c_remove_915e3 : MethodName := ⟨RJx4a65c, "remove", "(I)Ljava/lang/Object;"⟩
abbrev cJx4a65c_fastRemove_b59b0 : ByteArray := prog_19_method_39_code
def yJx4a65c_fastRemove_b59b0 : MethodName := ⟨RJx4a65c, "fastRemove", "([Ljava/lang/Object;I)V"⟩
def RJ7 : String := "java/util/Arrays"
def TJ7 : u_T := fun k => match k with
  | _ => ("", "", "", false)
def tyJ7 : Nat → FieldType := fun k => match k with
  | _ => .int
theorem nmJ7 : ∀ a, a < 0 → ∀ b, b < 0 → a ≠ b → (TJ7 a).2.1 ≠ (TJ7 b).2.1 := by decide +kernel
theorem tyJ7_ok : ∀ k, k < 0 → parseFieldDescriptor (TJ7 k).2.2.1 = some (tyJ7 k) := by decide +kernel
abbrev cJ7_copyOf_1904c : ByteArray := prog_20_method_119_code
def yJ7_copyOf_1904c : MethodName := ⟨RJ7, "copyOf", "([Ljava/lang/Object;I)[Ljava/lang/Object;"⟩
abbrev cJ7_copyOf_6403c : ByteArray := prog_20_method_120_code
def yJ7_copyOf_6403c : MethodName := ⟨RJ7, "copyOf", "([Ljava/lang/Object;ILjava/lang/Class;)[Ljava/lang/Object;"⟩
def RJx5ef63 : String := "java/util/Collection"
def TJx5ef63 : u_T := fun k => match k with
  | _ => ("", "", "", false)
def tyJx5ef63 : Nat → FieldType := fun k => match k with
  | _ => .int
theorem nmJx5ef63 : ∀ a, a < 0 → ∀ b, b < 0 → a ≠ b → (TJx5ef63 a).2.1 ≠ (TJx5ef63 b).2.1 := by decide +kernel
theorem tyJx5ef63_ok : ∀ k, k < 0 → parseFieldDescriptor (TJx5ef63 k).2.2.1 = some (tyJx5ef63 k) := by decide +kernel
def RJxbd725 : String := "java/util/List"
def TJxbd725 : u_T := fun k => match k with
  | _ => ("", "", "", false)
def tyJxbd725 : Nat → FieldType := fun k => match k with
  | _ => .int
theorem nmJxbd725 : ∀ a, a < 0 → ∀ b, b < 0 → a ≠ b → (TJxbd725 a).2.1 ≠ (TJxbd725 b).2.1 := by decide +kernel
theorem tyJxbd725_ok : ∀ k, k < 0 → parseFieldDescriptor (TJxbd725 k).2.2.1 = some (tyJxbd725 k) := by decide +kernel
def RJ15 : String := "java/util/Objects"
def TJ15 : u_T := fun k => match k with
  | _ => ("", "", "", false)
def tyJ15 : Nat → FieldType := fun k => match k with
  | _ => .int
theorem nmJ15 : ∀ a, a < 0 → ∀ b, b < 0 → a ≠ b → (TJ15 a).2.1 ≠ (TJ15 b).2.1 := by decide +kernel
theorem tyJ15_ok : ∀ k, k < 0 → parseFieldDescriptor (TJ15 k).2.2.1 = some (tyJ15 k) := by decide +kernel
abbrev cJ15_checkIndex_7cf53 : ByteArray := prog_23_method_17_code
def yJ15_checkIndex_7cf53 : MethodName := ⟨RJ15, "checkIndex", "(II)I"⟩
def RJxf0a74 : String := "java/util/RandomAccess"
def TJxf0a74 : u_T := fun k => match k with
  | _ => ("", "", "", false)
def tyJxf0a74 : Nat → FieldType := fun k => match k with
  | _ => .int
theorem nmJxf0a74 : ∀ a, a < 0 → ∀ b, b < 0 → a ≠ b → (TJxf0a74 a).2.1 ≠ (TJxf0a74 b).2.1 := by decide +kernel
theorem tyJxf0a74_ok : ∀ k, k < 0 → parseFieldDescriptor (TJxf0a74 k).2.2.1 = some (tyJxf0a74 k) := by decide +kernel
def RJxa66e6 : String := "java/util/SequencedCollection"
def TJxa66e6 : u_T := fun k => match k with
  | _ => ("", "", "", false)
def tyJxa66e6 : Nat → FieldType := fun k => match k with
  | _ => .int
theorem nmJxa66e6 : ∀ a, a < 0 → ∀ b, b < 0 → a ≠ b → (TJxa66e6 a).2.1 ≠ (TJxa66e6 b).2.1 := by decide +kernel
theorem tyJxa66e6_ok : ∀ k, k < 0 → parseFieldDescriptor (TJxa66e6 k).2.2.1 = some (tyJxa66e6 k) := by decide +kernel
def RJ8 : String := "jdk/internal/util/ArraysSupport"
def TJ8 : u_T := fun k => match k with
  | _ => ("", "", "", false)
def tyJ8 : Nat → FieldType := fun k => match k with
  | _ => .int
theorem nmJ8 : ∀ a, a < 0 → ∀ b, b < 0 → a ≠ b → (TJ8 a).2.1 ≠ (TJ8 b).2.1 := by decide +kernel
theorem tyJ8_ok : ∀ k, k < 0 → parseFieldDescriptor (TJ8 k).2.2.1 = some (tyJ8 k) := by decide +kernel
abbrev cJ8_newLength_cabcc : ByteArray := prog_26_method_27_code
def yJ8_newLength_cabcc : MethodName := ⟨RJ8, "newLength", "(III)I"⟩
abbrev cJ8_hugeLength_7cf53 : ByteArray := prog_26_method_28_code
def yJ8_hugeLength_7cf53 : MethodName := ⟨RJ8, "hugeLength", "(II)I"⟩
def RJ3 : String := "jdk/internal/util/Preconditions"
def TJ3 : u_T := fun k => match k with
  | _ => ("", "", "", false)
def tyJ3 : Nat → FieldType := fun k => match k with
  | _ => .int
theorem nmJ3 : ∀ a, a < 0 → ∀ b, b < 0 → a ≠ b → (TJ3 a).2.1 ≠ (TJ3 b).2.1 := by decide +kernel
theorem tyJ3_ok : ∀ k, k < 0 → parseFieldDescriptor (TJ3 k).2.2.1 = some (tyJ3 k) := by decide +kernel
abbrev cJ3_checkIndex_8e157 : ByteArray := prog_27_method_11_code
def yJ3_checkIndex_8e157 : MethodName := ⟨RJ3, "checkIndex", "(IILjava/util/function/BiFunction;)I"⟩
def RL : String := "PlotKernelLaw"
abbrev cL_feed : ByteArray := method_3_code
def yL_feed : MethodName := ⟨RL, "feed", "(LPlotKernel;I[J)I"⟩
abbrev cL_tick : ByteArray := method_4_code
def yL_tick : MethodName := ⟨RL, "tick", "(LPlotKernel;I[J)I"⟩
abbrev cL_refill : ByteArray := method_5_code
def yL_refill : MethodName := ⟨RL, "refill", "(LPlotKernel;I[J)I"⟩
abbrev cL_pour : ByteArray := method_6_code
def yL_pour : MethodName := ⟨RL, "pour", "(LPlotKernel;II[J)I"⟩
abbrev cL_ink : ByteArray := method_7_code
def yL_ink : MethodName := ⟨RL, "ink", "(LPlotKernel;I[J)I"⟩
abbrev cL_isMarked : ByteArray := method_8_code
def yL_isMarked : MethodName := ⟨RL, "isMarked", "(LPlotKernel;II[J)I"⟩
abbrev cL_law : ByteArray := code
def yL_law : MethodName := ⟨RL, "law", "([I)Z"⟩
abbrev vwCl : List vw_C := [(RJx4a65c, TJx4a65c, 3), (RX0, TX0, 4), (RX1, TX1, 2), (RX2, TX2, 19), (RX3, TX3, 27)]
end
section
theorem dX0_init_0 : decode cX0_init 0 = .ok (.aload_n 0, 1) := by decide +kernel
theorem dX0_init_1 : decode cX0_init 1 = .ok (.invokespecial 3, 3) := by decide +kernel
theorem dX0_init_4 : decode cX0_init 4 = .ok (.aload_n 0, 1) := by decide +kernel
theorem dX0_init_5 : decode cX0_init 5 = .ok (.iload_n 1, 1) := by decide +kernel
theorem dX0_init_6 : decode cX0_init 6 = .ok (.putfield 9, 3) := by decide +kernel
theorem dX0_init_9 : decode cX0_init 9 = .ok (.aload_n 0, 1) := by decide +kernel
theorem dX0_init_10 : decode cX0_init 10 = .ok (.iload_n 2, 1) := by decide +kernel
theorem dX0_init_11 : decode cX0_init 11 = .ok (.putfield 15, 3) := by decide +kernel
theorem dX0_init_14 : decode cX0_init 14 = .ok (.aload_n 0, 1) := by decide +kernel
theorem dX0_init_15 : decode cX0_init 15 = .ok (.iload_n 3, 1) := by decide +kernel
theorem dX0_init_16 : decode cX0_init 16 = .ok (.putfield 18, 3) := by decide +kernel
theorem dX0_init_19 : decode cX0_init 19 = .ok (.aload_n 0, 1) := by decide +kernel
theorem dX0_init_20 : decode cX0_init 20 = .ok (.iload 4, 2) := by decide +kernel
theorem dX0_init_22 : decode cX0_init 22 = .ok (.putfield 21, 3) := by decide +kernel
theorem dX0_init_25 : decode cX0_init 25 = .ok (.return_, 1) := by decide +kernel
theorem dX0_draws_0 : decode cX0_draws 0 = .ok (.aload_n 0, 1) := by decide +kernel
theorem dX0_draws_1 : decode cX0_draws 1 = .ok (.getfield 9, 3) := by decide +kernel
theorem dX0_draws_4 : decode cX0_draws 4 = .ok (.iconst 2, 1) := by decide +kernel
theorem dX0_draws_5 : decode cX0_draws 5 = .ok (.if_icmp .ne 7, 3) := by decide +kernel
theorem dX0_draws_8 : decode cX0_draws 8 = .ok (.iconst 1, 1) := by decide +kernel
theorem dX0_draws_9 : decode cX0_draws 9 = .ok (.goto 4, 3) := by decide +kernel
theorem dX0_draws_12 : decode cX0_draws 12 = .ok (.iconst 0, 1) := by decide +kernel
theorem dX0_draws_13 : decode cX0_draws 13 = .ok (.ireturn, 1) := by decide +kernel
theorem dX0_steps_0 : decode cX0_steps 0 = .ok (.aload_n 0, 1) := by decide +kernel
theorem dX0_steps_1 : decode cX0_steps 1 = .ok (.getfield 15, 3) := by decide +kernel
theorem dX0_steps_4 : decode cX0_steps 4 = .ok (.invokestatic 24, 3) := by decide +kernel
theorem dX0_steps_7 : decode cX0_steps 7 = .ok (.aload_n 0, 1) := by decide +kernel
theorem dX0_steps_8 : decode cX0_steps 8 = .ok (.getfield 18, 3) := by decide +kernel
theorem dX0_steps_11 : decode cX0_steps 11 = .ok (.invokestatic 24, 3) := by decide +kernel
theorem dX0_steps_14 : decode cX0_steps 14 = .ok (.invokestatic 30, 3) := by decide +kernel
theorem dX0_steps_17 : decode cX0_steps 17 = .ok (.ireturn, 1) := by decide +kernel
theorem dX0_wayX_0 : decode cX0_wayX 0 = .ok (.aload_n 0, 1) := by decide +kernel
theorem dX0_wayX_1 : decode cX0_wayX 1 = .ok (.aload_n 0, 1) := by decide +kernel
theorem dX0_wayX_2 : decode cX0_wayX 2 = .ok (.getfield 15, 3) := by decide +kernel
theorem dX0_wayX_5 : decode cX0_wayX 5 = .ok (.iload_n 1, 1) := by decide +kernel
theorem dX0_wayX_6 : decode cX0_wayX 6 = .ok (.invokevirtual 34, 3) := by decide +kernel
theorem dX0_wayX_9 : decode cX0_wayX 9 = .ok (.ireturn, 1) := by decide +kernel
theorem dX0_wayY_0 : decode cX0_wayY 0 = .ok (.aload_n 0, 1) := by decide +kernel
theorem dX0_wayY_1 : decode cX0_wayY 1 = .ok (.aload_n 0, 1) := by decide +kernel
theorem dX0_wayY_2 : decode cX0_wayY 2 = .ok (.getfield 18, 3) := by decide +kernel
theorem dX0_wayY_5 : decode cX0_wayY 5 = .ok (.iload_n 1, 1) := by decide +kernel
theorem dX0_wayY_6 : decode cX0_wayY 6 = .ok (.invokevirtual 34, 3) := by decide +kernel
theorem dX0_wayY_9 : decode cX0_wayY 9 = .ok (.ireturn, 1) := by decide +kernel
theorem dX0_way_0 : decode cX0_way 0 = .ok (.aload_n 0, 1) := by decide +kernel
theorem dX0_way_1 : decode cX0_way 1 = .ok (.invokevirtual 37, 3) := by decide +kernel
theorem dX0_way_4 : decode cX0_way 4 = .ok (.istore_n 3, 1) := by decide +kernel
theorem dX0_way_5 : decode cX0_way 5 = .ok (.iload_n 3, 1) := by decide +kernel
theorem dX0_way_6 : decode cX0_way 6 = .ok (.ifCond .ne 7, 3) := by decide +kernel
theorem dX0_way_9 : decode cX0_way 9 = .ok (.iconst 0, 1) := by decide +kernel
theorem dX0_way_10 : decode cX0_way 10 = .ok (.goto 8, 3) := by decide +kernel
theorem dX0_way_13 : decode cX0_way 13 = .ok (.iload_n 1, 1) := by decide +kernel
theorem dX0_way_14 : decode cX0_way 14 = .ok (.iload_n 2, 1) := by decide +kernel
theorem dX0_way_15 : decode cX0_way 15 = .ok (.imul, 1) := by decide +kernel
theorem dX0_way_16 : decode cX0_way 16 = .ok (.iload_n 3, 1) := by decide +kernel
theorem dX0_way_17 : decode cX0_way 17 = .ok (.idiv, 1) := by decide +kernel
theorem dX0_way_18 : decode cX0_way 18 = .ok (.ireturn, 1) := by decide +kernel
theorem dX1_init_0 : decode cX1_init 0 = .ok (.aload_n 0, 1) := by decide +kernel
theorem dX1_init_1 : decode cX1_init 1 = .ok (.invokespecial 5, 3) := by decide +kernel
theorem dX1_init_4 : decode cX1_init 4 = .ok (.aload_n 0, 1) := by decide +kernel
theorem dX1_init_5 : decode cX1_init 5 = .ok (.sipush 157, 3) := by decide +kernel
theorem dX1_init_8 : decode cX1_init 8 = .ok (.newarray .long, 2) := by decide +kernel
theorem dX1_init_10 : decode cX1_init 10 = .ok (.putfield 11, 3) := by decide +kernel
theorem dX1_init_13 : decode cX1_init 13 = .ok (.return_, 1) := by decide +kernel
theorem dX1_hasMark_0 : decode cX1_hasMark 0 = .ok (.iload_n 1, 1) := by decide +kernel
theorem dX1_hasMark_1 : decode cX1_hasMark 1 = .ok (.iload_n 2, 1) := by decide +kernel
theorem dX1_hasMark_2 : decode cX1_hasMark 2 = .ok (.invokestatic 15, 3) := by decide +kernel
theorem dX1_hasMark_5 : decode cX1_hasMark 5 = .ok (.istore_n 3, 1) := by decide +kernel
theorem dX1_hasMark_6 : decode cX1_hasMark 6 = .ok (.iload_n 3, 1) := by decide +kernel
theorem dX1_hasMark_7 : decode cX1_hasMark 7 = .ok (.ifCond .lt 33, 3) := by decide +kernel
theorem dX1_hasMark_10 : decode cX1_hasMark 10 = .ok (.iload_n 3, 1) := by decide +kernel
theorem dX1_hasMark_11 : decode cX1_hasMark 11 = .ok (.aload_n 0, 1) := by decide +kernel
theorem dX1_hasMark_12 : decode cX1_hasMark 12 = .ok (.getfield 11, 3) := by decide +kernel
theorem dX1_hasMark_15 : decode cX1_hasMark 15 = .ok (.arraylength, 1) := by decide +kernel
theorem dX1_hasMark_16 : decode cX1_hasMark 16 = .ok (.if_icmp .ge 24, 3) := by decide +kernel
theorem dX1_hasMark_19 : decode cX1_hasMark 19 = .ok (.aload_n 0, 1) := by decide +kernel
theorem dX1_hasMark_20 : decode cX1_hasMark 20 = .ok (.getfield 11, 3) := by decide +kernel
theorem dX1_hasMark_23 : decode cX1_hasMark 23 = .ok (.iload_n 3, 1) := by decide +kernel
theorem dX1_hasMark_24 : decode cX1_hasMark 24 = .ok (.laload, 1) := by decide +kernel
theorem dX1_hasMark_25 : decode cX1_hasMark 25 = .ok (.iload_n 1, 1) := by decide +kernel
theorem dX1_hasMark_26 : decode cX1_hasMark 26 = .ok (.iload_n 2, 1) := by decide +kernel
theorem dX1_hasMark_27 : decode cX1_hasMark 27 = .ok (.invokestatic 19, 3) := by decide +kernel
theorem dX1_hasMark_30 : decode cX1_hasMark 30 = .ok (.land, 1) := by decide +kernel
theorem dX1_hasMark_31 : decode cX1_hasMark 31 = .ok (.lconst 0, 1) := by decide +kernel
theorem dX1_hasMark_32 : decode cX1_hasMark 32 = .ok (.lcmp, 1) := by decide +kernel
theorem dX1_hasMark_33 : decode cX1_hasMark 33 = .ok (.ifCond .eq 7, 3) := by decide +kernel
theorem dX1_hasMark_36 : decode cX1_hasMark 36 = .ok (.iconst 1, 1) := by decide +kernel
theorem dX1_hasMark_37 : decode cX1_hasMark 37 = .ok (.goto 4, 3) := by decide +kernel
theorem dX1_hasMark_40 : decode cX1_hasMark 40 = .ok (.iconst 0, 1) := by decide +kernel
theorem dX1_hasMark_41 : decode cX1_hasMark 41 = .ok (.ireturn, 1) := by decide +kernel
theorem dX1_putMark_0 : decode cX1_putMark 0 = .ok (.iload_n 1, 1) := by decide +kernel
theorem dX1_putMark_1 : decode cX1_putMark 1 = .ok (.iload_n 2, 1) := by decide +kernel
theorem dX1_putMark_2 : decode cX1_putMark 2 = .ok (.invokestatic 15, 3) := by decide +kernel
theorem dX1_putMark_5 : decode cX1_putMark 5 = .ok (.istore_n 3, 1) := by decide +kernel
theorem dX1_putMark_6 : decode cX1_putMark 6 = .ok (.iload_n 3, 1) := by decide +kernel
theorem dX1_putMark_7 : decode cX1_putMark 7 = .ok (.ifCond .lt 21, 3) := by decide +kernel
theorem dX1_putMark_10 : decode cX1_putMark 10 = .ok (.iload_n 3, 1) := by decide +kernel
theorem dX1_putMark_11 : decode cX1_putMark 11 = .ok (.aload_n 0, 1) := by decide +kernel
theorem dX1_putMark_12 : decode cX1_putMark 12 = .ok (.getfield 11, 3) := by decide +kernel
theorem dX1_putMark_15 : decode cX1_putMark 15 = .ok (.arraylength, 1) := by decide +kernel
theorem dX1_putMark_16 : decode cX1_putMark 16 = .ok (.if_icmp .ge 12, 3) := by decide +kernel
theorem dX1_putMark_19 : decode cX1_putMark 19 = .ok (.aload_n 0, 1) := by decide +kernel
theorem dX1_putMark_20 : decode cX1_putMark 20 = .ok (.iload_n 1, 1) := by decide +kernel
theorem dX1_putMark_21 : decode cX1_putMark 21 = .ok (.iload_n 2, 1) := by decide +kernel
theorem dX1_putMark_22 : decode cX1_putMark 22 = .ok (.invokevirtual 23, 3) := by decide +kernel
theorem dX1_putMark_25 : decode cX1_putMark 25 = .ok (.ifCond .eq 4, 3) := by decide +kernel
theorem dX1_putMark_28 : decode cX1_putMark 28 = .ok (.return_, 1) := by decide +kernel
theorem dX1_putMark_29 : decode cX1_putMark 29 = .ok (.aload_n 0, 1) := by decide +kernel
theorem dX1_putMark_30 : decode cX1_putMark 30 = .ok (.getfield 11, 3) := by decide +kernel
theorem dX1_putMark_33 : decode cX1_putMark 33 = .ok (.iload_n 3, 1) := by decide +kernel
theorem dX1_putMark_34 : decode cX1_putMark 34 = .ok (.dup2, 1) := by decide +kernel
theorem dX1_putMark_35 : decode cX1_putMark 35 = .ok (.laload, 1) := by decide +kernel
theorem dX1_putMark_36 : decode cX1_putMark 36 = .ok (.iload_n 1, 1) := by decide +kernel
theorem dX1_putMark_37 : decode cX1_putMark 37 = .ok (.iload_n 2, 1) := by decide +kernel
theorem dX1_putMark_38 : decode cX1_putMark 38 = .ok (.invokestatic 19, 3) := by decide +kernel
theorem dX1_putMark_41 : decode cX1_putMark 41 = .ok (.lor, 1) := by decide +kernel
theorem dX1_putMark_42 : decode cX1_putMark 42 = .ok (.lastore, 1) := by decide +kernel
theorem dX1_putMark_43 : decode cX1_putMark 43 = .ok (.aload_n 0, 1) := by decide +kernel
theorem dX1_putMark_44 : decode cX1_putMark 44 = .ok (.dup, 1) := by decide +kernel
theorem dX1_putMark_45 : decode cX1_putMark 45 = .ok (.getfield 27, 3) := by decide +kernel
theorem dX1_putMark_48 : decode cX1_putMark 48 = .ok (.iconst 1, 1) := by decide +kernel
theorem dX1_putMark_49 : decode cX1_putMark 49 = .ok (.iadd, 1) := by decide +kernel
theorem dX1_putMark_50 : decode cX1_putMark 50 = .ok (.putfield 27, 3) := by decide +kernel
theorem dX1_putMark_53 : decode cX1_putMark 53 = .ok (.return_, 1) := by decide +kernel
theorem dX1_wordOf_0 : decode cX1_wordOf 0 = .ok (.iload_n 0, 1) := by decide +kernel
theorem dX1_wordOf_1 : decode cX1_wordOf 1 = .ok (.iload_n 1, 1) := by decide +kernel
theorem dX1_wordOf_2 : decode cX1_wordOf 2 = .ok (.invokestatic 31, 3) := by decide +kernel
theorem dX1_wordOf_5 : decode cX1_wordOf 5 = .ok (.ifCond .eq 15, 3) := by decide +kernel
theorem dX1_wordOf_8 : decode cX1_wordOf 8 = .ok (.bipush 100, 2) := by decide +kernel
theorem dX1_wordOf_10 : decode cX1_wordOf 10 = .ok (.iload_n 1, 1) := by decide +kernel
theorem dX1_wordOf_11 : decode cX1_wordOf 11 = .ok (.imul, 1) := by decide +kernel
theorem dX1_wordOf_12 : decode cX1_wordOf 12 = .ok (.iload_n 0, 1) := by decide +kernel
theorem dX1_wordOf_13 : decode cX1_wordOf 13 = .ok (.iadd, 1) := by decide +kernel
theorem dX1_wordOf_14 : decode cX1_wordOf 14 = .ok (.bipush 64, 2) := by decide +kernel
theorem dX1_wordOf_16 : decode cX1_wordOf 16 = .ok (.idiv, 1) := by decide +kernel
theorem dX1_wordOf_17 : decode cX1_wordOf 17 = .ok (.goto 4, 3) := by decide +kernel
theorem dX1_wordOf_20 : decode cX1_wordOf 20 = .ok (.iconst (-1), 1) := by decide +kernel
theorem dX1_wordOf_21 : decode cX1_wordOf 21 = .ok (.ireturn, 1) := by decide +kernel
theorem dX1_bitOf_0 : decode cX1_bitOf 0 = .ok (.lconst 1, 1) := by decide +kernel
theorem dX1_bitOf_1 : decode cX1_bitOf 1 = .ok (.bipush 100, 2) := by decide +kernel
theorem dX1_bitOf_3 : decode cX1_bitOf 3 = .ok (.iload_n 1, 1) := by decide +kernel
theorem dX1_bitOf_4 : decode cX1_bitOf 4 = .ok (.imul, 1) := by decide +kernel
theorem dX1_bitOf_5 : decode cX1_bitOf 5 = .ok (.iload_n 0, 1) := by decide +kernel
theorem dX1_bitOf_6 : decode cX1_bitOf 6 = .ok (.iadd, 1) := by decide +kernel
theorem dX1_bitOf_7 : decode cX1_bitOf 7 = .ok (.bipush 64, 2) := by decide +kernel
theorem dX1_bitOf_9 : decode cX1_bitOf 9 = .ok (.irem, 1) := by decide +kernel
theorem dX1_bitOf_10 : decode cX1_bitOf 10 = .ok (.lshl, 1) := by decide +kernel
theorem dX1_bitOf_11 : decode cX1_bitOf 11 = .ok (.lreturn, 1) := by decide +kernel
theorem dX2_init_0 : decode cX2_init 0 = .ok (.aload_n 0, 1) := by decide +kernel
theorem dX2_init_1 : decode cX2_init 1 = .ok (.invokespecial 1, 3) := by decide +kernel
theorem dX2_init_4 : decode cX2_init 4 = .ok (.aload_n 0, 1) := by decide +kernel
theorem dX2_init_5 : decode cX2_init 5 = .ok (.new 7, 3) := by decide +kernel
theorem dX2_init_8 : decode cX2_init 8 = .ok (.dup, 1) := by decide +kernel
theorem dX2_init_9 : decode cX2_init 9 = .ok (.invokespecial 9, 3) := by decide +kernel
theorem dX2_init_12 : decode cX2_init 12 = .ok (.putfield 10, 3) := by decide +kernel
theorem dX2_init_15 : decode cX2_init 15 = .ok (.aload_n 0, 1) := by decide +kernel
theorem dX2_init_16 : decode cX2_init 16 = .ok (.new 16, 3) := by decide +kernel
theorem dX2_init_19 : decode cX2_init 19 = .ok (.dup, 1) := by decide +kernel
theorem dX2_init_20 : decode cX2_init 20 = .ok (.invokespecial 18, 3) := by decide +kernel
theorem dX2_init_23 : decode cX2_init 23 = .ok (.putfield 19, 3) := by decide +kernel
theorem dX2_init_26 : decode cX2_init 26 = .ok (.aload_n 0, 1) := by decide +kernel
theorem dX2_init_27 : decode cX2_init 27 = .ok (.new 16, 3) := by decide +kernel
theorem dX2_init_30 : decode cX2_init 30 = .ok (.dup, 1) := by decide +kernel
theorem dX2_init_31 : decode cX2_init 31 = .ok (.invokespecial 18, 3) := by decide +kernel
theorem dX2_init_34 : decode cX2_init 34 = .ok (.putfield 23, 3) := by decide +kernel
theorem dX2_init_37 : decode cX2_init 37 = .ok (.aload_n 0, 1) := by decide +kernel
theorem dX2_init_38 : decode cX2_init 38 = .ok (.iconst 3, 1) := by decide +kernel
theorem dX2_init_39 : decode cX2_init 39 = .ok (.newarray .int, 2) := by decide +kernel
theorem dX2_init_41 : decode cX2_init 41 = .ok (.putfield 26, 3) := by decide +kernel
theorem dX2_init_44 : decode cX2_init 44 = .ok (.iconst 0, 1) := by decide +kernel
theorem dX2_init_45 : decode cX2_init 45 = .ok (.istore_n 1, 1) := by decide +kernel
theorem dX2_init_46 : decode cX2_init 46 = .ok (.iload_n 1, 1) := by decide +kernel
theorem dX2_init_47 : decode cX2_init 47 = .ok (.aload_n 0, 1) := by decide +kernel
theorem dX2_init_48 : decode cX2_init 48 = .ok (.getfield 26, 3) := by decide +kernel
theorem dX2_init_51 : decode cX2_init 51 = .ok (.arraylength, 1) := by decide +kernel
theorem dX2_init_52 : decode cX2_init 52 = .ok (.if_icmp .ge 18, 3) := by decide +kernel
theorem dX2_init_55 : decode cX2_init 55 = .ok (.aload_n 0, 1) := by decide +kernel
theorem dX2_init_56 : decode cX2_init 56 = .ok (.getfield 26, 3) := by decide +kernel
theorem dX2_init_59 : decode cX2_init 59 = .ok (.iload_n 1, 1) := by decide +kernel
theorem dX2_init_60 : decode cX2_init 60 = .ok (.sipush 500, 3) := by decide +kernel
theorem dX2_init_63 : decode cX2_init 63 = .ok (.iastore, 1) := by decide +kernel
theorem dX2_init_64 : decode cX2_init 64 = .ok (.iinc 1 1, 3) := by decide +kernel
theorem dX2_init_67 : decode cX2_init 67 = .ok (.goto (-21), 3) := by decide +kernel
theorem dX2_init_70 : decode cX2_init 70 = .ok (.return_, 1) := by decide +kernel
theorem dX2_feed_0 : decode cX2_feed 0 = .ok (.iload_n 1, 1) := by decide +kernel
theorem dX2_feed_1 : decode cX2_feed 1 = .ok (.ifCond .lt 10, 3) := by decide +kernel
theorem dX2_feed_4 : decode cX2_feed 4 = .ok (.iload_n 1, 1) := by decide +kernel
theorem dX2_feed_5 : decode cX2_feed 5 = .ok (.sipush 255, 3) := by decide +kernel
theorem dX2_feed_8 : decode cX2_feed 8 = .ok (.if_icmp .le 13, 3) := by decide +kernel
theorem dX2_feed_11 : decode cX2_feed 11 = .ok (.new 30, 3) := by decide +kernel
theorem dX2_feed_14 : decode cX2_feed 14 = .ok (.dup, 1) := by decide +kernel
theorem dX2_feed_15 : decode cX2_feed 15 = .ok (.ldc 32, 2) := by decide +kernel
theorem dX2_feed_17 : decode cX2_feed 17 = .ok (.invokespecial 34, 3) := by decide +kernel
theorem dX2_feed_20 : decode cX2_feed 20 = .ok (.athrow, 1) := by decide +kernel
theorem dX2_feed_21 : decode cX2_feed 21 = .ok (.aload_n 0, 1) := by decide +kernel
theorem dX2_feed_22 : decode cX2_feed 22 = .ok (.getfield 10, 3) := by decide +kernel
theorem dX2_feed_25 : decode cX2_feed 25 = .ok (.invokevirtual 37, 3) := by decide +kernel
theorem dX2_feed_28 : decode cX2_feed 28 = .ok (.bipush 8, 2) := by decide +kernel
theorem dX2_feed_30 : decode cX2_feed 30 = .ok (.if_icmp .lt 5, 3) := by decide +kernel
theorem dX2_feed_33 : decode cX2_feed 33 = .ok (.iconst 0, 1) := by decide +kernel
theorem dX2_feed_34 : decode cX2_feed 34 = .ok (.ireturn, 1) := by decide +kernel
theorem dX2_feed_35 : decode cX2_feed 35 = .ok (.aload_n 0, 1) := by decide +kernel
theorem dX2_feed_36 : decode cX2_feed 36 = .ok (.iload_n 1, 1) := by decide +kernel
theorem dX2_feed_37 : decode cX2_feed 37 = .ok (.invokevirtual 41, 3) := by decide +kernel
theorem dX2_feed_40 : decode cX2_feed 40 = .ok (.iconst 1, 1) := by decide +kernel
theorem dX2_feed_41 : decode cX2_feed 41 = .ok (.ireturn, 1) := by decide +kernel
theorem dX2_errors_0 : decode cX2_errors 0 = .ok (.aload_n 0, 1) := by decide +kernel
theorem dX2_errors_1 : decode cX2_errors 1 = .ok (.getfield 45, 3) := by decide +kernel
theorem dX2_errors_4 : decode cX2_errors 4 = .ok (.ireturn, 1) := by decide +kernel
theorem dX2_queued_0 : decode cX2_queued 0 = .ok (.aload_n 0, 1) := by decide +kernel
theorem dX2_queued_1 : decode cX2_queued 1 = .ok (.getfield 10, 3) := by decide +kernel
theorem dX2_queued_4 : decode cX2_queued 4 = .ok (.invokevirtual 37, 3) := by decide +kernel
theorem dX2_queued_7 : decode cX2_queued 7 = .ok (.ireturn, 1) := by decide +kernel
theorem dX2_pending_0 : decode cX2_pending 0 = .ok (.aload_n 0, 1) := by decide +kernel
theorem dX2_pending_1 : decode cX2_pending 1 = .ok (.getfield 49, 3) := by decide +kernel
theorem dX2_pending_4 : decode cX2_pending 4 = .ok (.ireturn, 1) := by decide +kernel
theorem dX2_takeByte_0 : decode cX2_takeByte 0 = .ok (.aload_n 0, 1) := by decide +kernel
theorem dX2_takeByte_1 : decode cX2_takeByte 1 = .ok (.getfield 49, 3) := by decide +kernel
theorem dX2_takeByte_4 : decode cX2_takeByte 4 = .ok (.ifCond .ne 11, 3) := by decide +kernel
theorem dX2_takeByte_7 : decode cX2_takeByte 7 = .ok (.aload_n 0, 1) := by decide +kernel
theorem dX2_takeByte_8 : decode cX2_takeByte 8 = .ok (.iload_n 1, 1) := by decide +kernel
theorem dX2_takeByte_9 : decode cX2_takeByte 9 = .ok (.invokevirtual 52, 3) := by decide +kernel
theorem dX2_takeByte_12 : decode cX2_takeByte 12 = .ok (.goto 50, 3) := by decide +kernel
theorem dX2_takeByte_15 : decode cX2_takeByte 15 = .ok (.aload_n 0, 1) := by decide +kernel
theorem dX2_takeByte_16 : decode cX2_takeByte 16 = .ok (.getfield 49, 3) := by decide +kernel
theorem dX2_takeByte_19 : decode cX2_takeByte 19 = .ok (.iconst 1, 1) := by decide +kernel
theorem dX2_takeByte_20 : decode cX2_takeByte 20 = .ok (.if_icmp .ne 32, 3) := by decide +kernel
theorem dX2_takeByte_23 : decode cX2_takeByte 23 = .ok (.aload_n 0, 1) := by decide +kernel
theorem dX2_takeByte_24 : decode cX2_takeByte 24 = .ok (.getfield 55, 3) := by decide +kernel
theorem dX2_takeByte_27 : decode cX2_takeByte 27 = .ok (.iconst 1, 1) := by decide +kernel
theorem dX2_takeByte_28 : decode cX2_takeByte 28 = .ok (.if_icmp .eq 11, 3) := by decide +kernel
theorem dX2_takeByte_31 : decode cX2_takeByte 31 = .ok (.aload_n 0, 1) := by decide +kernel
theorem dX2_takeByte_32 : decode cX2_takeByte 32 = .ok (.getfield 55, 3) := by decide +kernel
theorem dX2_takeByte_35 : decode cX2_takeByte 35 = .ok (.iconst 2, 1) := by decide +kernel
theorem dX2_takeByte_36 : decode cX2_takeByte 36 = .ok (.if_icmp .ne 16, 3) := by decide +kernel
theorem dX2_takeByte_39 : decode cX2_takeByte 39 = .ok (.aload_n 0, 1) := by decide +kernel
theorem dX2_takeByte_40 : decode cX2_takeByte 40 = .ok (.iload_n 1, 1) := by decide +kernel
theorem dX2_takeByte_41 : decode cX2_takeByte 41 = .ok (.putfield 58, 3) := by decide +kernel
theorem dX2_takeByte_44 : decode cX2_takeByte 44 = .ok (.aload_n 0, 1) := by decide +kernel
theorem dX2_takeByte_45 : decode cX2_takeByte 45 = .ok (.iconst 2, 1) := by decide +kernel
theorem dX2_takeByte_46 : decode cX2_takeByte 46 = .ok (.putfield 49, 3) := by decide +kernel
theorem dX2_takeByte_49 : decode cX2_takeByte 49 = .ok (.goto 13, 3) := by decide +kernel
theorem dX2_takeByte_52 : decode cX2_takeByte 52 = .ok (.aload_n 0, 1) := by decide +kernel
theorem dX2_takeByte_53 : decode cX2_takeByte 53 = .ok (.iconst 0, 1) := by decide +kernel
theorem dX2_takeByte_54 : decode cX2_takeByte 54 = .ok (.putfield 49, 3) := by decide +kernel
theorem dX2_takeByte_57 : decode cX2_takeByte 57 = .ok (.aload_n 0, 1) := by decide +kernel
theorem dX2_takeByte_58 : decode cX2_takeByte 58 = .ok (.iload_n 1, 1) := by decide +kernel
theorem dX2_takeByte_59 : decode cX2_takeByte 59 = .ok (.invokevirtual 61, 3) := by decide +kernel
theorem dX2_takeByte_62 : decode cX2_takeByte 62 = .ok (.return_, 1) := by decide +kernel
theorem dX2_beginCommand_0 : decode cX2_beginCommand 0 = .ok (.iload_n 1, 1) := by decide +kernel
theorem dX2_beginCommand_1 : decode cX2_beginCommand 1 = .ok (.iconst 1, 1) := by decide +kernel
theorem dX2_beginCommand_2 : decode cX2_beginCommand 2 = .ok (.if_icmp .lt 21, 3) := by decide +kernel
theorem dX2_beginCommand_5 : decode cX2_beginCommand 5 = .ok (.iload_n 1, 1) := by decide +kernel
theorem dX2_beginCommand_6 : decode cX2_beginCommand 6 = .ok (.iconst 4, 1) := by decide +kernel
theorem dX2_beginCommand_7 : decode cX2_beginCommand 7 = .ok (.if_icmp .gt 16, 3) := by decide +kernel
theorem dX2_beginCommand_10 : decode cX2_beginCommand 10 = .ok (.aload_n 0, 1) := by decide +kernel
theorem dX2_beginCommand_11 : decode cX2_beginCommand 11 = .ok (.iload_n 1, 1) := by decide +kernel
theorem dX2_beginCommand_12 : decode cX2_beginCommand 12 = .ok (.putfield 55, 3) := by decide +kernel
theorem dX2_beginCommand_15 : decode cX2_beginCommand 15 = .ok (.aload_n 0, 1) := by decide +kernel
theorem dX2_beginCommand_16 : decode cX2_beginCommand 16 = .ok (.iconst 1, 1) := by decide +kernel
theorem dX2_beginCommand_17 : decode cX2_beginCommand 17 = .ok (.putfield 49, 3) := by decide +kernel
theorem dX2_beginCommand_20 : decode cX2_beginCommand 20 = .ok (.goto 17, 3) := by decide +kernel
theorem dX2_beginCommand_23 : decode cX2_beginCommand 23 = .ok (.iload_n 1, 1) := by decide +kernel
theorem dX2_beginCommand_24 : decode cX2_beginCommand 24 = .ok (.ifCond .eq 13, 3) := by decide +kernel
theorem dX2_beginCommand_27 : decode cX2_beginCommand 27 = .ok (.aload_n 0, 1) := by decide +kernel
theorem dX2_beginCommand_28 : decode cX2_beginCommand 28 = .ok (.dup, 1) := by decide +kernel
theorem dX2_beginCommand_29 : decode cX2_beginCommand 29 = .ok (.getfield 45, 3) := by decide +kernel
theorem dX2_beginCommand_32 : decode cX2_beginCommand 32 = .ok (.iconst 1, 1) := by decide +kernel
theorem dX2_beginCommand_33 : decode cX2_beginCommand 33 = .ok (.iadd, 1) := by decide +kernel
theorem dX2_beginCommand_34 : decode cX2_beginCommand 34 = .ok (.putfield 45, 3) := by decide +kernel
theorem dX2_beginCommand_37 : decode cX2_beginCommand 37 = .ok (.return_, 1) := by decide +kernel
theorem dX2_endCommand_0 : decode cX2_endCommand 0 = .ok (.aload_n 0, 1) := by decide +kernel
theorem dX2_endCommand_1 : decode cX2_endCommand 1 = .ok (.getfield 55, 3) := by decide +kernel
theorem dX2_endCommand_4 : decode cX2_endCommand 4 = .ok (.iconst 4, 1) := by decide +kernel
theorem dX2_endCommand_5 : decode cX2_endCommand 5 = .ok (.if_icmp .ne 11, 3) := by decide +kernel
theorem dX2_endCommand_8 : decode cX2_endCommand 8 = .ok (.aload_n 0, 1) := by decide +kernel
theorem dX2_endCommand_9 : decode cX2_endCommand 9 = .ok (.iload_n 1, 1) := by decide +kernel
theorem dX2_endCommand_10 : decode cX2_endCommand 10 = .ok (.invokevirtual 64, 3) := by decide +kernel
theorem dX2_endCommand_13 : decode cX2_endCommand 13 = .ok (.goto 57, 3) := by decide +kernel
theorem dX2_endCommand_16 : decode cX2_endCommand 16 = .ok (.aload_n 0, 1) := by decide +kernel
theorem dX2_endCommand_17 : decode cX2_endCommand 17 = .ok (.getfield 55, 3) := by decide +kernel
theorem dX2_endCommand_20 : decode cX2_endCommand 20 = .ok (.iconst 3, 1) := by decide +kernel
theorem dX2_endCommand_21 : decode cX2_endCommand 21 = .ok (.if_icmp .ne 22, 3) := by decide +kernel
theorem dX2_endCommand_24 : decode cX2_endCommand 24 = .ok (.aload_n 0, 1) := by decide +kernel
theorem dX2_endCommand_25 : decode cX2_endCommand 25 = .ok (.new 67, 3) := by decide +kernel
theorem dX2_endCommand_28 : decode cX2_endCommand 28 = .ok (.dup, 1) := by decide +kernel
theorem dX2_endCommand_29 : decode cX2_endCommand 29 = .ok (.iconst 3, 1) := by decide +kernel
theorem dX2_endCommand_30 : decode cX2_endCommand 30 = .ok (.iconst 0, 1) := by decide +kernel
theorem dX2_endCommand_31 : decode cX2_endCommand 31 = .ok (.iconst 0, 1) := by decide +kernel
theorem dX2_endCommand_32 : decode cX2_endCommand 32 = .ok (.iload_n 1, 1) := by decide +kernel
theorem dX2_endCommand_33 : decode cX2_endCommand 33 = .ok (.invokespecial 69, 3) := by decide +kernel
theorem dX2_endCommand_36 : decode cX2_endCommand 36 = .ok (.invokevirtual 72, 3) := by decide +kernel
theorem dX2_endCommand_39 : decode cX2_endCommand 39 = .ok (.pop, 1) := by decide +kernel
theorem dX2_endCommand_40 : decode cX2_endCommand 40 = .ok (.goto 30, 3) := by decide +kernel
theorem dX2_endCommand_43 : decode cX2_endCommand 43 = .ok (.aload_n 0, 1) := by decide +kernel
theorem dX2_endCommand_44 : decode cX2_endCommand 44 = .ok (.new 67, 3) := by decide +kernel
theorem dX2_endCommand_47 : decode cX2_endCommand 47 = .ok (.dup, 1) := by decide +kernel
theorem dX2_endCommand_48 : decode cX2_endCommand 48 = .ok (.aload_n 0, 1) := by decide +kernel
theorem dX2_endCommand_49 : decode cX2_endCommand 49 = .ok (.getfield 55, 3) := by decide +kernel
theorem dX2_endCommand_52 : decode cX2_endCommand 52 = .ok (.aload_n 0, 1) := by decide +kernel
theorem dX2_endCommand_53 : decode cX2_endCommand 53 = .ok (.getfield 58, 3) := by decide +kernel
theorem dX2_endCommand_56 : decode cX2_endCommand 56 = .ok (.invokestatic 76, 3) := by decide +kernel
theorem dX2_endCommand_59 : decode cX2_endCommand 59 = .ok (.iload_n 1, 1) := by decide +kernel
theorem dX2_endCommand_60 : decode cX2_endCommand 60 = .ok (.invokestatic 76, 3) := by decide +kernel
theorem dX2_endCommand_63 : decode cX2_endCommand 63 = .ok (.iconst 0, 1) := by decide +kernel
theorem dX2_endCommand_64 : decode cX2_endCommand 64 = .ok (.invokespecial 69, 3) := by decide +kernel
theorem dX2_endCommand_67 : decode cX2_endCommand 67 = .ok (.invokevirtual 80, 3) := by decide +kernel
theorem dX2_endCommand_70 : decode cX2_endCommand 70 = .ok (.return_, 1) := by decide +kernel
theorem dX2_signed_0 : decode cX2_signed 0 = .ok (.iload_n 0, 1) := by decide +kernel
theorem dX2_signed_1 : decode cX2_signed 1 = .ok (.bipush 127, 2) := by decide +kernel
theorem dX2_signed_3 : decode cX2_signed 3 = .ok (.if_icmp .le 13, 3) := by decide +kernel
theorem dX2_signed_6 : decode cX2_signed 6 = .ok (.iload_n 0, 1) := by decide +kernel
theorem dX2_signed_7 : decode cX2_signed 7 = .ok (.sipush 255, 3) := by decide +kernel
theorem dX2_signed_10 : decode cX2_signed 10 = .ok (.isub, 1) := by decide +kernel
theorem dX2_signed_11 : decode cX2_signed 11 = .ok (.iconst 1, 1) := by decide +kernel
theorem dX2_signed_12 : decode cX2_signed 12 = .ok (.isub, 1) := by decide +kernel
theorem dX2_signed_13 : decode cX2_signed 13 = .ok (.goto 4, 3) := by decide +kernel
theorem dX2_signed_16 : decode cX2_signed 16 = .ok (.iload_n 0, 1) := by decide +kernel
theorem dX2_signed_17 : decode cX2_signed 17 = .ok (.ireturn, 1) := by decide +kernel
theorem dX2_queueMotion_0 : decode cX2_queueMotion 0 = .ok (.aload_n 0, 1) := by decide +kernel
theorem dX2_queueMotion_1 : decode cX2_queueMotion 1 = .ok (.aload_n 1, 1) := by decide +kernel
theorem dX2_queueMotion_2 : decode cX2_queueMotion 2 = .ok (.invokevirtual 72, 3) := by decide +kernel
theorem dX2_queueMotion_5 : decode cX2_queueMotion 5 = .ok (.ifCond .eq 8, 3) := by decide +kernel
theorem dX2_queueMotion_8 : decode cX2_queueMotion 8 = .ok (.aload_n 0, 1) := by decide +kernel
theorem dX2_queueMotion_9 : decode cX2_queueMotion 9 = .ok (.aload_n 1, 1) := by decide +kernel
theorem dX2_queueMotion_10 : decode cX2_queueMotion 10 = .ok (.putfield 84, 3) := by decide +kernel
theorem dX2_queueMotion_13 : decode cX2_queueMotion 13 = .ok (.return_, 1) := by decide +kernel
theorem dX2_repeatLatest_0 : decode cX2_repeatLatest 0 = .ok (.iload_n 1, 1) := by decide +kernel
theorem dX2_repeatLatest_1 : decode cX2_repeatLatest 1 = .ok (.iconst 1, 1) := by decide +kernel
theorem dX2_repeatLatest_2 : decode cX2_repeatLatest 2 = .ok (.if_icmp .lt 16, 3) := by decide +kernel
theorem dX2_repeatLatest_5 : decode cX2_repeatLatest 5 = .ok (.iload_n 1, 1) := by decide +kernel
theorem dX2_repeatLatest_6 : decode cX2_repeatLatest 6 = .ok (.bipush 9, 2) := by decide +kernel
theorem dX2_repeatLatest_8 : decode cX2_repeatLatest 8 = .ok (.if_icmp .gt 10, 3) := by decide +kernel
theorem dX2_repeatLatest_11 : decode cX2_repeatLatest 11 = .ok (.aload_n 0, 1) := by decide +kernel
theorem dX2_repeatLatest_12 : decode cX2_repeatLatest 12 = .ok (.getfield 84, 3) := by decide +kernel
theorem dX2_repeatLatest_15 : decode cX2_repeatLatest 15 = .ok (.ifnonnull 14, 3) := by decide +kernel
theorem dX2_repeatLatest_18 : decode cX2_repeatLatest 18 = .ok (.aload_n 0, 1) := by decide +kernel
theorem dX2_repeatLatest_19 : decode cX2_repeatLatest 19 = .ok (.dup, 1) := by decide +kernel
theorem dX2_repeatLatest_20 : decode cX2_repeatLatest 20 = .ok (.getfield 45, 3) := by decide +kernel
theorem dX2_repeatLatest_23 : decode cX2_repeatLatest 23 = .ok (.iconst 1, 1) := by decide +kernel
theorem dX2_repeatLatest_24 : decode cX2_repeatLatest 24 = .ok (.iadd, 1) := by decide +kernel
theorem dX2_repeatLatest_25 : decode cX2_repeatLatest 25 = .ok (.putfield 45, 3) := by decide +kernel
theorem dX2_repeatLatest_28 : decode cX2_repeatLatest 28 = .ok (.return_, 1) := by decide +kernel
theorem dX2_repeatLatest_29 : decode cX2_repeatLatest 29 = .ok (.iconst 0, 1) := by decide +kernel
theorem dX2_repeatLatest_30 : decode cX2_repeatLatest 30 = .ok (.istore_n 2, 1) := by decide +kernel
theorem dX2_repeatLatest_31 : decode cX2_repeatLatest 31 = .ok (.iload_n 2, 1) := by decide +kernel
theorem dX2_repeatLatest_32 : decode cX2_repeatLatest 32 = .ok (.iload_n 1, 1) := by decide +kernel
theorem dX2_repeatLatest_33 : decode cX2_repeatLatest 33 = .ok (.if_icmp .ge 18, 3) := by decide +kernel
theorem dX2_repeatLatest_36 : decode cX2_repeatLatest 36 = .ok (.aload_n 0, 1) := by decide +kernel
theorem dX2_repeatLatest_37 : decode cX2_repeatLatest 37 = .ok (.aload_n 0, 1) := by decide +kernel
theorem dX2_repeatLatest_38 : decode cX2_repeatLatest 38 = .ok (.getfield 84, 3) := by decide +kernel
theorem dX2_repeatLatest_41 : decode cX2_repeatLatest 41 = .ok (.invokevirtual 72, 3) := by decide +kernel
theorem dX2_repeatLatest_44 : decode cX2_repeatLatest 44 = .ok (.pop, 1) := by decide +kernel
theorem dX2_repeatLatest_45 : decode cX2_repeatLatest 45 = .ok (.iinc 2 1, 3) := by decide +kernel
theorem dX2_repeatLatest_48 : decode cX2_repeatLatest 48 = .ok (.goto (-17), 3) := by decide +kernel
theorem dX2_repeatLatest_51 : decode cX2_repeatLatest 51 = .ok (.return_, 1) := by decide +kernel
theorem dX2_queueIfRight_0 : decode cX2_queueIfRight 0 = .ok (.aload_n 0, 1) := by decide +kernel
theorem dX2_queueIfRight_1 : decode cX2_queueIfRight 1 = .ok (.aload_n 1, 1) := by decide +kernel
theorem dX2_queueIfRight_2 : decode cX2_queueIfRight 2 = .ok (.invokevirtual 88, 3) := by decide +kernel
theorem dX2_queueIfRight_5 : decode cX2_queueIfRight 5 = .ok (.ifCond .ne 15, 3) := by decide +kernel
theorem dX2_queueIfRight_8 : decode cX2_queueIfRight 8 = .ok (.aload_n 0, 1) := by decide +kernel
theorem dX2_queueIfRight_9 : decode cX2_queueIfRight 9 = .ok (.dup, 1) := by decide +kernel
theorem dX2_queueIfRight_10 : decode cX2_queueIfRight 10 = .ok (.getfield 45, 3) := by decide +kernel
theorem dX2_queueIfRight_13 : decode cX2_queueIfRight 13 = .ok (.iconst 1, 1) := by decide +kernel
theorem dX2_queueIfRight_14 : decode cX2_queueIfRight 14 = .ok (.iadd, 1) := by decide +kernel
theorem dX2_queueIfRight_15 : decode cX2_queueIfRight 15 = .ok (.putfield 45, 3) := by decide +kernel
theorem dX2_queueIfRight_18 : decode cX2_queueIfRight 18 = .ok (.iconst 0, 1) := by decide +kernel
theorem dX2_queueIfRight_19 : decode cX2_queueIfRight 19 = .ok (.ireturn, 1) := by decide +kernel
theorem dX2_queueIfRight_20 : decode cX2_queueIfRight 20 = .ok (.aload_n 1, 1) := by decide +kernel
theorem dX2_queueIfRight_21 : decode cX2_queueIfRight 21 = .ok (.invokevirtual 91, 3) := by decide +kernel
theorem dX2_queueIfRight_24 : decode cX2_queueIfRight 24 = .ok (.ifCond .eq 8, 3) := by decide +kernel
theorem dX2_queueIfRight_27 : decode cX2_queueIfRight 27 = .ok (.aload_n 0, 1) := by decide +kernel
theorem dX2_queueIfRight_28 : decode cX2_queueIfRight 28 = .ok (.aload_n 1, 1) := by decide +kernel
theorem dX2_queueIfRight_29 : decode cX2_queueIfRight 29 = .ok (.invokevirtual 95, 3) := by decide +kernel
theorem dX2_queueIfRight_32 : decode cX2_queueIfRight 32 = .ok (.aload_n 0, 1) := by decide +kernel
theorem dX2_queueIfRight_33 : decode cX2_queueIfRight 33 = .ok (.getfield 10, 3) := by decide +kernel
theorem dX2_queueIfRight_36 : decode cX2_queueIfRight 36 = .ok (.aload_n 1, 1) := by decide +kernel
theorem dX2_queueIfRight_37 : decode cX2_queueIfRight 37 = .ok (.invokevirtual 98, 3) := by decide +kernel
theorem dX2_queueIfRight_40 : decode cX2_queueIfRight 40 = .ok (.pop, 1) := by decide +kernel
theorem dX2_queueIfRight_41 : decode cX2_queueIfRight 41 = .ok (.aload_n 0, 1) := by decide +kernel
theorem dX2_queueIfRight_42 : decode cX2_queueIfRight 42 = .ok (.dup, 1) := by decide +kernel
theorem dX2_queueIfRight_43 : decode cX2_queueIfRight 43 = .ok (.getfield 102, 3) := by decide +kernel
theorem dX2_queueIfRight_46 : decode cX2_queueIfRight 46 = .ok (.aload_n 1, 1) := by decide +kernel
theorem dX2_queueIfRight_47 : decode cX2_queueIfRight 47 = .ok (.getfield 105, 3) := by decide +kernel
theorem dX2_queueIfRight_50 : decode cX2_queueIfRight 50 = .ok (.iadd, 1) := by decide +kernel
theorem dX2_queueIfRight_51 : decode cX2_queueIfRight 51 = .ok (.putfield 102, 3) := by decide +kernel
theorem dX2_queueIfRight_54 : decode cX2_queueIfRight 54 = .ok (.aload_n 0, 1) := by decide +kernel
theorem dX2_queueIfRight_55 : decode cX2_queueIfRight 55 = .ok (.dup, 1) := by decide +kernel
theorem dX2_queueIfRight_56 : decode cX2_queueIfRight 56 = .ok (.getfield 108, 3) := by decide +kernel
theorem dX2_queueIfRight_59 : decode cX2_queueIfRight 59 = .ok (.aload_n 1, 1) := by decide +kernel
theorem dX2_queueIfRight_60 : decode cX2_queueIfRight 60 = .ok (.getfield 111, 3) := by decide +kernel
theorem dX2_queueIfRight_63 : decode cX2_queueIfRight 63 = .ok (.iadd, 1) := by decide +kernel
theorem dX2_queueIfRight_64 : decode cX2_queueIfRight 64 = .ok (.putfield 108, 3) := by decide +kernel
theorem dX2_queueIfRight_67 : decode cX2_queueIfRight 67 = .ok (.iconst 1, 1) := by decide +kernel
theorem dX2_queueIfRight_68 : decode cX2_queueIfRight 68 = .ok (.ireturn, 1) := by decide +kernel
theorem dX2_isRight_0 : decode cX2_isRight 0 = .ok (.aload_n 1, 1) := by decide +kernel
theorem dX2_isRight_1 : decode cX2_isRight 1 = .ok (.getfield 114, 3) := by decide +kernel
theorem dX2_isRight_4 : decode cX2_isRight 4 = .ok (.iconst 3, 1) := by decide +kernel
theorem dX2_isRight_5 : decode cX2_isRight 5 = .ok (.if_icmp .ne 11, 3) := by decide +kernel
theorem dX2_isRight_8 : decode cX2_isRight 8 = .ok (.aload_n 1, 1) := by decide +kernel
theorem dX2_isRight_9 : decode cX2_isRight 9 = .ok (.getfield 117, 3) := by decide +kernel
theorem dX2_isRight_12 : decode cX2_isRight 12 = .ok (.invokestatic 120, 3) := by decide +kernel
theorem dX2_isRight_15 : decode cX2_isRight 15 = .ok (.ireturn, 1) := by decide +kernel
theorem dX2_isRight_16 : decode cX2_isRight 16 = .ok (.aload_n 1, 1) := by decide +kernel
theorem dX2_isRight_17 : decode cX2_isRight 17 = .ok (.invokevirtual 124, 3) := by decide +kernel
theorem dX2_isRight_20 : decode cX2_isRight 20 = .ok (.ifCond .le 31, 3) := by decide +kernel
theorem dX2_isRight_23 : decode cX2_isRight 23 = .ok (.aload_n 0, 1) := by decide +kernel
theorem dX2_isRight_24 : decode cX2_isRight 24 = .ok (.getfield 102, 3) := by decide +kernel
theorem dX2_isRight_27 : decode cX2_isRight 27 = .ok (.aload_n 1, 1) := by decide +kernel
theorem dX2_isRight_28 : decode cX2_isRight 28 = .ok (.getfield 105, 3) := by decide +kernel
theorem dX2_isRight_31 : decode cX2_isRight 31 = .ok (.iadd, 1) := by decide +kernel
theorem dX2_isRight_32 : decode cX2_isRight 32 = .ok (.aload_n 0, 1) := by decide +kernel
theorem dX2_isRight_33 : decode cX2_isRight 33 = .ok (.getfield 108, 3) := by decide +kernel
theorem dX2_isRight_36 : decode cX2_isRight 36 = .ok (.aload_n 1, 1) := by decide +kernel
theorem dX2_isRight_37 : decode cX2_isRight 37 = .ok (.getfield 111, 3) := by decide +kernel
theorem dX2_isRight_40 : decode cX2_isRight 40 = .ok (.iadd, 1) := by decide +kernel
theorem dX2_isRight_41 : decode cX2_isRight 41 = .ok (.invokestatic 127, 3) := by decide +kernel
theorem dX2_isRight_44 : decode cX2_isRight 44 = .ok (.ifCond .eq 7, 3) := by decide +kernel
theorem dX2_isRight_47 : decode cX2_isRight 47 = .ok (.iconst 1, 1) := by decide +kernel
theorem dX2_isRight_48 : decode cX2_isRight 48 = .ok (.goto 4, 3) := by decide +kernel
theorem dX2_isRight_51 : decode cX2_isRight 51 = .ok (.iconst 0, 1) := by decide +kernel
theorem dX2_isRight_52 : decode cX2_isRight 52 = .ok (.ireturn, 1) := by decide +kernel
theorem dX2_planLine_0 : decode cX2_planLine 0 = .ok (.aload_n 1, 1) := by decide +kernel
theorem dX2_planLine_1 : decode cX2_planLine 1 = .ok (.invokevirtual 124, 3) := by decide +kernel
theorem dX2_planLine_4 : decode cX2_planLine 4 = .ok (.istore_n 2, 1) := by decide +kernel
theorem dX2_planLine_5 : decode cX2_planLine 5 = .ok (.iconst 0, 1) := by decide +kernel
theorem dX2_planLine_6 : decode cX2_planLine 6 = .ok (.istore_n 3, 1) := by decide +kernel
theorem dX2_planLine_7 : decode cX2_planLine 7 = .ok (.iload_n 3, 1) := by decide +kernel
theorem dX2_planLine_8 : decode cX2_planLine 8 = .ok (.iload_n 2, 1) := by decide +kernel
theorem dX2_planLine_9 : decode cX2_planLine 9 = .ok (.if_icmp .gt 36, 3) := by decide +kernel
theorem dX2_planLine_12 : decode cX2_planLine 12 = .ok (.aload_n 0, 1) := by decide +kernel
theorem dX2_planLine_13 : decode cX2_planLine 13 = .ok (.getfield 23, 3) := by decide +kernel
theorem dX2_planLine_16 : decode cX2_planLine 16 = .ok (.aload_n 0, 1) := by decide +kernel
theorem dX2_planLine_17 : decode cX2_planLine 17 = .ok (.getfield 102, 3) := by decide +kernel
theorem dX2_planLine_20 : decode cX2_planLine 20 = .ok (.aload_n 1, 1) := by decide +kernel
theorem dX2_planLine_21 : decode cX2_planLine 21 = .ok (.iload_n 3, 1) := by decide +kernel
theorem dX2_planLine_22 : decode cX2_planLine 22 = .ok (.invokevirtual 131, 3) := by decide +kernel
theorem dX2_planLine_25 : decode cX2_planLine 25 = .ok (.iadd, 1) := by decide +kernel
theorem dX2_planLine_26 : decode cX2_planLine 26 = .ok (.aload_n 0, 1) := by decide +kernel
theorem dX2_planLine_27 : decode cX2_planLine 27 = .ok (.getfield 108, 3) := by decide +kernel
theorem dX2_planLine_30 : decode cX2_planLine 30 = .ok (.aload_n 1, 1) := by decide +kernel
theorem dX2_planLine_31 : decode cX2_planLine 31 = .ok (.iload_n 3, 1) := by decide +kernel
theorem dX2_planLine_32 : decode cX2_planLine 32 = .ok (.invokevirtual 134, 3) := by decide +kernel
theorem dX2_planLine_35 : decode cX2_planLine 35 = .ok (.iadd, 1) := by decide +kernel
theorem dX2_planLine_36 : decode cX2_planLine 36 = .ok (.invokevirtual 137, 3) := by decide +kernel
theorem dX2_planLine_39 : decode cX2_planLine 39 = .ok (.iinc 3 1, 3) := by decide +kernel
theorem dX2_planLine_42 : decode cX2_planLine 42 = .ok (.goto (-35), 3) := by decide +kernel
theorem dX2_planLine_45 : decode cX2_planLine 45 = .ok (.return_, 1) := by decide +kernel
theorem dX2_tick_0 : decode cX2_tick 0 = .ok (.iload_n 1, 1) := by decide +kernel
theorem dX2_tick_1 : decode cX2_tick 1 = .ok (.iconst 1, 1) := by decide +kernel
theorem dX2_tick_2 : decode cX2_tick 2 = .ok (.if_icmp .lt 10, 3) := by decide +kernel
theorem dX2_tick_5 : decode cX2_tick 5 = .ok (.iload_n 1, 1) := by decide +kernel
theorem dX2_tick_6 : decode cX2_tick 6 = .ok (.sipush 1000, 3) := by decide +kernel
theorem dX2_tick_9 : decode cX2_tick 9 = .ok (.if_icmp .le 13, 3) := by decide +kernel
theorem dX2_tick_12 : decode cX2_tick 12 = .ok (.new 30, 3) := by decide +kernel
theorem dX2_tick_15 : decode cX2_tick 15 = .ok (.dup, 1) := by decide +kernel
theorem dX2_tick_16 : decode cX2_tick 16 = .ok (.ldc 141, 2) := by decide +kernel
theorem dX2_tick_18 : decode cX2_tick 18 = .ok (.invokespecial 34, 3) := by decide +kernel
theorem dX2_tick_21 : decode cX2_tick 21 = .ok (.athrow, 1) := by decide +kernel
theorem dX2_tick_22 : decode cX2_tick 22 = .ok (.aload_n 0, 1) := by decide +kernel
theorem dX2_tick_23 : decode cX2_tick 23 = .ok (.getfield 143, 3) := by decide +kernel
theorem dX2_tick_26 : decode cX2_tick 26 = .ok (.aload_n 0, 1) := by decide +kernel
theorem dX2_tick_27 : decode cX2_tick 27 = .ok (.getfield 146, 3) := by decide +kernel
theorem dX2_tick_30 : decode cX2_tick 30 = .ok (.iadd, 1) := by decide +kernel
theorem dX2_tick_31 : decode cX2_tick 31 = .ok (.istore_n 2, 1) := by decide +kernel
theorem dX2_tick_32 : decode cX2_tick 32 = .ok (.iconst 1, 1) := by decide +kernel
theorem dX2_tick_33 : decode cX2_tick 33 = .ok (.istore_n 3, 1) := by decide +kernel
theorem dX2_tick_34 : decode cX2_tick 34 = .ok (.iconst 0, 1) := by decide +kernel
theorem dX2_tick_35 : decode cX2_tick 35 = .ok (.istore 4, 2) := by decide +kernel
theorem dX2_tick_37 : decode cX2_tick 37 = .ok (.iload 4, 2) := by decide +kernel
theorem dX2_tick_39 : decode cX2_tick 39 = .ok (.iload_n 1, 1) := by decide +kernel
theorem dX2_tick_40 : decode cX2_tick 40 = .ok (.if_icmp .ge 18, 3) := by decide +kernel
theorem dX2_tick_43 : decode cX2_tick 43 = .ok (.iload_n 3, 1) := by decide +kernel
theorem dX2_tick_44 : decode cX2_tick 44 = .ok (.ifCond .eq 14, 3) := by decide +kernel
theorem dX2_tick_47 : decode cX2_tick 47 = .ok (.aload_n 0, 1) := by decide +kernel
theorem dX2_tick_48 : decode cX2_tick 48 = .ok (.invokevirtual 149, 3) := by decide +kernel
theorem dX2_tick_51 : decode cX2_tick 51 = .ok (.istore_n 3, 1) := by decide +kernel
theorem dX2_tick_52 : decode cX2_tick 52 = .ok (.iinc 4 1, 3) := by decide +kernel
theorem dX2_tick_55 : decode cX2_tick 55 = .ok (.goto (-18), 3) := by decide +kernel
theorem dX2_tick_58 : decode cX2_tick 58 = .ok (.aload_n 0, 1) := by decide +kernel
theorem dX2_tick_59 : decode cX2_tick 59 = .ok (.getfield 143, 3) := by decide +kernel
theorem dX2_tick_62 : decode cX2_tick 62 = .ok (.aload_n 0, 1) := by decide +kernel
theorem dX2_tick_63 : decode cX2_tick 63 = .ok (.getfield 146, 3) := by decide +kernel
theorem dX2_tick_66 : decode cX2_tick 66 = .ok (.iadd, 1) := by decide +kernel
theorem dX2_tick_67 : decode cX2_tick 67 = .ok (.iload_n 2, 1) := by decide +kernel
theorem dX2_tick_68 : decode cX2_tick 68 = .ok (.isub, 1) := by decide +kernel
theorem dX2_tick_69 : decode cX2_tick 69 = .ok (.ireturn, 1) := by decide +kernel
theorem dX2_cut_0 : decode cX2_cut 0 = .ok (.aload_n 0, 1) := by decide +kernel
theorem dX2_cut_1 : decode cX2_cut 1 = .ok (.getfield 152, 3) := by decide +kernel
theorem dX2_cut_4 : decode cX2_cut 4 = .ok (.bipush 10, 2) := by decide +kernel
theorem dX2_cut_6 : decode cX2_cut 6 = .ok (.irem, 1) := by decide +kernel
theorem dX2_cut_7 : decode cX2_cut 7 = .ok (.istore_n 1, 1) := by decide +kernel
theorem dX2_cut_8 : decode cX2_cut 8 = .ok (.aload_n 0, 1) := by decide +kernel
theorem dX2_cut_9 : decode cX2_cut 9 = .ok (.dup, 1) := by decide +kernel
theorem dX2_cut_10 : decode cX2_cut 10 = .ok (.getfield 152, 3) := by decide +kernel
theorem dX2_cut_13 : decode cX2_cut 13 = .ok (.iload_n 1, 1) := by decide +kernel
theorem dX2_cut_14 : decode cX2_cut 14 = .ok (.isub, 1) := by decide +kernel
theorem dX2_cut_15 : decode cX2_cut 15 = .ok (.putfield 152, 3) := by decide +kernel
theorem dX2_cut_18 : decode cX2_cut 18 = .ok (.aload_n 0, 1) := by decide +kernel
theorem dX2_cut_19 : decode cX2_cut 19 = .ok (.iconst 0, 1) := by decide +kernel
theorem dX2_cut_20 : decode cX2_cut 20 = .ok (.putfield 155, 3) := by decide +kernel
theorem dX2_cut_23 : decode cX2_cut 23 = .ok (.aload_n 0, 1) := by decide +kernel
theorem dX2_cut_24 : decode cX2_cut 24 = .ok (.iconst 0, 1) := by decide +kernel
theorem dX2_cut_25 : decode cX2_cut 25 = .ok (.putfield 158, 3) := by decide +kernel
theorem dX2_cut_28 : decode cX2_cut 28 = .ok (.aload_n 0, 1) := by decide +kernel
theorem dX2_cut_29 : decode cX2_cut 29 = .ok (.iconst 0, 1) := by decide +kernel
theorem dX2_cut_30 : decode cX2_cut 30 = .ok (.putfield 49, 3) := by decide +kernel
theorem dX2_cut_33 : decode cX2_cut 33 = .ok (.iload_n 1, 1) := by decide +kernel
theorem dX2_cut_34 : decode cX2_cut 34 = .ok (.ireturn, 1) := by decide +kernel
theorem dX2_refill_0 : decode cX2_refill 0 = .ok (.iload_n 1, 1) := by decide +kernel
theorem dX2_refill_1 : decode cX2_refill 1 = .ok (.invokestatic 120, 3) := by decide +kernel
theorem dX2_refill_4 : decode cX2_refill 4 = .ok (.ifCond .ne 13, 3) := by decide +kernel
theorem dX2_refill_7 : decode cX2_refill 7 = .ok (.new 162, 3) := by decide +kernel
theorem dX2_refill_10 : decode cX2_refill 10 = .ok (.dup, 1) := by decide +kernel
theorem dX2_refill_11 : decode cX2_refill 11 = .ok (.ldc 164, 2) := by decide +kernel
theorem dX2_refill_13 : decode cX2_refill 13 = .ok (.invokespecial 166, 3) := by decide +kernel
theorem dX2_refill_16 : decode cX2_refill 16 = .ok (.athrow, 1) := by decide +kernel
theorem dX2_refill_17 : decode cX2_refill 17 = .ok (.aload_n 0, 1) := by decide +kernel
theorem dX2_refill_18 : decode cX2_refill 18 = .ok (.iload_n 1, 1) := by decide +kernel
theorem dX2_refill_19 : decode cX2_refill 19 = .ok (.invokevirtual 167, 3) := by decide +kernel
theorem dX2_refill_22 : decode cX2_refill 22 = .ok (.istore_n 2, 1) := by decide +kernel
theorem dX2_refill_23 : decode cX2_refill 23 = .ok (.aload_n 0, 1) := by decide +kernel
theorem dX2_refill_24 : decode cX2_refill 24 = .ok (.iload_n 1, 1) := by decide +kernel
theorem dX2_refill_25 : decode cX2_refill 25 = .ok (.sipush 500, 3) := by decide +kernel
theorem dX2_refill_28 : decode cX2_refill 28 = .ok (.invokevirtual 170, 3) := by decide +kernel
theorem dX2_refill_31 : decode cX2_refill 31 = .ok (.iload_n 2, 1) := by decide +kernel
theorem dX2_refill_32 : decode cX2_refill 32 = .ok (.ireturn, 1) := by decide +kernel
theorem dX2_pour_0 : decode cX2_pour 0 = .ok (.iload_n 1, 1) := by decide +kernel
theorem dX2_pour_1 : decode cX2_pour 1 = .ok (.invokestatic 120, 3) := by decide +kernel
theorem dX2_pour_4 : decode cX2_pour 4 = .ok (.ifCond .ne 13, 3) := by decide +kernel
theorem dX2_pour_7 : decode cX2_pour 7 = .ok (.new 162, 3) := by decide +kernel
theorem dX2_pour_10 : decode cX2_pour 10 = .ok (.dup, 1) := by decide +kernel
theorem dX2_pour_11 : decode cX2_pour 11 = .ok (.ldc 164, 2) := by decide +kernel
theorem dX2_pour_13 : decode cX2_pour 13 = .ok (.invokespecial 166, 3) := by decide +kernel
theorem dX2_pour_16 : decode cX2_pour 16 = .ok (.athrow, 1) := by decide +kernel
theorem dX2_pour_17 : decode cX2_pour 17 = .ok (.iload_n 2, 1) := by decide +kernel
theorem dX2_pour_18 : decode cX2_pour 18 = .ok (.iconst 1, 1) := by decide +kernel
theorem dX2_pour_19 : decode cX2_pour 19 = .ok (.if_icmp .lt 10, 3) := by decide +kernel
theorem dX2_pour_22 : decode cX2_pour 22 = .ok (.iload_n 2, 1) := by decide +kernel
theorem dX2_pour_23 : decode cX2_pour 23 = .ok (.sipush 500, 3) := by decide +kernel
theorem dX2_pour_26 : decode cX2_pour 26 = .ok (.if_icmp .le 13, 3) := by decide +kernel
theorem dX2_pour_29 : decode cX2_pour 29 = .ok (.new 30, 3) := by decide +kernel
theorem dX2_pour_32 : decode cX2_pour 32 = .ok (.dup, 1) := by decide +kernel
theorem dX2_pour_33 : decode cX2_pour 33 = .ok (.ldc 173, 2) := by decide +kernel
theorem dX2_pour_35 : decode cX2_pour 35 = .ok (.invokespecial 34, 3) := by decide +kernel
theorem dX2_pour_38 : decode cX2_pour 38 = .ok (.athrow, 1) := by decide +kernel
theorem dX2_pour_39 : decode cX2_pour 39 = .ok (.iconst 0, 1) := by decide +kernel
theorem dX2_pour_40 : decode cX2_pour 40 = .ok (.aload_n 0, 1) := by decide +kernel
theorem dX2_pour_41 : decode cX2_pour 41 = .ok (.iload_n 1, 1) := by decide +kernel
theorem dX2_pour_42 : decode cX2_pour 42 = .ok (.invokevirtual 167, 3) := by decide +kernel
theorem dX2_pour_45 : decode cX2_pour 45 = .ok (.iload_n 2, 1) := by decide +kernel
theorem dX2_pour_46 : decode cX2_pour 46 = .ok (.isub, 1) := by decide +kernel
theorem dX2_pour_47 : decode cX2_pour 47 = .ok (.invokestatic 175, 3) := by decide +kernel
theorem dX2_pour_50 : decode cX2_pour 50 = .ok (.istore_n 3, 1) := by decide +kernel
theorem dX2_pour_51 : decode cX2_pour 51 = .ok (.aload_n 0, 1) := by decide +kernel
theorem dX2_pour_52 : decode cX2_pour 52 = .ok (.iload_n 1, 1) := by decide +kernel
theorem dX2_pour_53 : decode cX2_pour 53 = .ok (.iload_n 3, 1) := by decide +kernel
theorem dX2_pour_54 : decode cX2_pour 54 = .ok (.invokevirtual 170, 3) := by decide +kernel
theorem dX2_pour_57 : decode cX2_pour 57 = .ok (.iload_n 3, 1) := by decide +kernel
theorem dX2_pour_58 : decode cX2_pour 58 = .ok (.ireturn, 1) := by decide +kernel
theorem dX2_doTick_0 : decode cX2_doTick 0 = .ok (.aload_n 0, 1) := by decide +kernel
theorem dX2_doTick_1 : decode cX2_doTick 1 = .ok (.invokevirtual 181, 3) := by decide +kernel
theorem dX2_doTick_4 : decode cX2_doTick 4 = .ok (.astore_n 1, 1) := by decide +kernel
theorem dX2_doTick_5 : decode cX2_doTick 5 = .ok (.aload_n 1, 1) := by decide +kernel
theorem dX2_doTick_6 : decode cX2_doTick 6 = .ok (.ifnull 11, 3) := by decide +kernel
theorem dX2_doTick_9 : decode cX2_doTick 9 = .ok (.aload_n 0, 1) := by decide +kernel
theorem dX2_doTick_10 : decode cX2_doTick 10 = .ok (.aload_n 1, 1) := by decide +kernel
theorem dX2_doTick_11 : decode cX2_doTick 11 = .ok (.invokevirtual 185, 3) := by decide +kernel
theorem dX2_doTick_14 : decode cX2_doTick 14 = .ok (.ifCond .eq 5, 3) := by decide +kernel
theorem dX2_doTick_17 : decode cX2_doTick 17 = .ok (.iconst 0, 1) := by decide +kernel
theorem dX2_doTick_18 : decode cX2_doTick 18 = .ok (.ireturn, 1) := by decide +kernel
theorem dX2_doTick_19 : decode cX2_doTick 19 = .ok (.aload_n 0, 1) := by decide +kernel
theorem dX2_doTick_20 : decode cX2_doTick 20 = .ok (.getfield 158, 3) := by decide +kernel
theorem dX2_doTick_23 : decode cX2_doTick 23 = .ok (.aload_n 1, 1) := by decide +kernel
theorem dX2_doTick_24 : decode cX2_doTick 24 = .ok (.invokevirtual 91, 3) := by decide +kernel
theorem dX2_doTick_27 : decode cX2_doTick 27 = .ok (.if_icmp .eq 10, 3) := by decide +kernel
theorem dX2_doTick_30 : decode cX2_doTick 30 = .ok (.aload_n 0, 1) := by decide +kernel
theorem dX2_doTick_31 : decode cX2_doTick 31 = .ok (.invokevirtual 188, 3) := by decide +kernel
theorem dX2_doTick_34 : decode cX2_doTick 34 = .ok (.goto 24, 3) := by decide +kernel
theorem dX2_doTick_37 : decode cX2_doTick 37 = .ok (.aload_n 1, 1) := by decide +kernel
theorem dX2_doTick_38 : decode cX2_doTick 38 = .ok (.getfield 114, 3) := by decide +kernel
theorem dX2_doTick_41 : decode cX2_doTick 41 = .ok (.iconst 3, 1) := by decide +kernel
theorem dX2_doTick_42 : decode cX2_doTick 42 = .ok (.if_icmp .ne 11, 3) := by decide +kernel
theorem dX2_doTick_45 : decode cX2_doTick 45 = .ok (.aload_n 0, 1) := by decide +kernel
theorem dX2_doTick_46 : decode cX2_doTick 46 = .ok (.aload_n 1, 1) := by decide +kernel
theorem dX2_doTick_47 : decode cX2_doTick 47 = .ok (.invokevirtual 191, 3) := by decide +kernel
theorem dX2_doTick_50 : decode cX2_doTick 50 = .ok (.goto 8, 3) := by decide +kernel
theorem dX2_doTick_53 : decode cX2_doTick 53 = .ok (.aload_n 0, 1) := by decide +kernel
theorem dX2_doTick_54 : decode cX2_doTick 54 = .ok (.aload_n 1, 1) := by decide +kernel
theorem dX2_doTick_55 : decode cX2_doTick 55 = .ok (.invokevirtual 194, 3) := by decide +kernel
theorem dX2_doTick_58 : decode cX2_doTick 58 = .ok (.iconst 1, 1) := by decide +kernel
theorem dX2_doTick_59 : decode cX2_doTick 59 = .ok (.ireturn, 1) := by decide +kernel
theorem dX2_turnPen_0 : decode cX2_turnPen 0 = .ok (.aload_n 0, 1) := by decide +kernel
theorem dX2_turnPen_1 : decode cX2_turnPen 1 = .ok (.dup, 1) := by decide +kernel
theorem dX2_turnPen_2 : decode cX2_turnPen 2 = .ok (.getfield 155, 3) := by decide +kernel
theorem dX2_turnPen_5 : decode cX2_turnPen 5 = .ok (.iconst 1, 1) := by decide +kernel
theorem dX2_turnPen_6 : decode cX2_turnPen 6 = .ok (.iadd, 1) := by decide +kernel
theorem dX2_turnPen_7 : decode cX2_turnPen 7 = .ok (.putfield 155, 3) := by decide +kernel
theorem dX2_turnPen_10 : decode cX2_turnPen 10 = .ok (.aload_n 0, 1) := by decide +kernel
theorem dX2_turnPen_11 : decode cX2_turnPen 11 = .ok (.getfield 155, 3) := by decide +kernel
theorem dX2_turnPen_14 : decode cX2_turnPen 14 = .ok (.iconst 2, 1) := by decide +kernel
theorem dX2_turnPen_15 : decode cX2_turnPen 15 = .ok (.if_icmp .ge 4, 3) := by decide +kernel
theorem dX2_turnPen_18 : decode cX2_turnPen 18 = .ok (.return_, 1) := by decide +kernel
theorem dX2_turnPen_19 : decode cX2_turnPen 19 = .ok (.aload_n 0, 1) := by decide +kernel
theorem dX2_turnPen_20 : decode cX2_turnPen 20 = .ok (.iconst 0, 1) := by decide +kernel
theorem dX2_turnPen_21 : decode cX2_turnPen 21 = .ok (.putfield 155, 3) := by decide +kernel
theorem dX2_turnPen_24 : decode cX2_turnPen 24 = .ok (.aload_n 0, 1) := by decide +kernel
theorem dX2_turnPen_25 : decode cX2_turnPen 25 = .ok (.aload_n 0, 1) := by decide +kernel
theorem dX2_turnPen_26 : decode cX2_turnPen 26 = .ok (.getfield 158, 3) := by decide +kernel
theorem dX2_turnPen_29 : decode cX2_turnPen 29 = .ok (.ifCond .ne 7, 3) := by decide +kernel
theorem dX2_turnPen_32 : decode cX2_turnPen 32 = .ok (.iconst 1, 1) := by decide +kernel
theorem dX2_turnPen_33 : decode cX2_turnPen 33 = .ok (.goto 4, 3) := by decide +kernel
theorem dX2_turnPen_36 : decode cX2_turnPen 36 = .ok (.iconst 0, 1) := by decide +kernel
theorem dX2_turnPen_37 : decode cX2_turnPen 37 = .ok (.putfield 158, 3) := by decide +kernel
theorem dX2_turnPen_40 : decode cX2_turnPen 40 = .ok (.aload_n 0, 1) := by decide +kernel
theorem dX2_turnPen_41 : decode cX2_turnPen 41 = .ok (.getfield 158, 3) := by decide +kernel
theorem dX2_turnPen_44 : decode cX2_turnPen 44 = .ok (.ifCond .eq 7, 3) := by decide +kernel
theorem dX2_turnPen_47 : decode cX2_turnPen 47 = .ok (.aload_n 0, 1) := by decide +kernel
theorem dX2_turnPen_48 : decode cX2_turnPen 48 = .ok (.invokevirtual 197, 3) := by decide +kernel
theorem dX2_turnPen_51 : decode cX2_turnPen 51 = .ok (.return_, 1) := by decide +kernel
theorem dX2_changePen_0 : decode cX2_changePen 0 = .ok (.aload_n 0, 1) := by decide +kernel
theorem dX2_changePen_1 : decode cX2_changePen 1 = .ok (.dup, 1) := by decide +kernel
theorem dX2_changePen_2 : decode cX2_changePen 2 = .ok (.getfield 155, 3) := by decide +kernel
theorem dX2_changePen_5 : decode cX2_changePen 5 = .ok (.iconst 1, 1) := by decide +kernel
theorem dX2_changePen_6 : decode cX2_changePen 6 = .ok (.iadd, 1) := by decide +kernel
theorem dX2_changePen_7 : decode cX2_changePen 7 = .ok (.putfield 155, 3) := by decide +kernel
theorem dX2_changePen_10 : decode cX2_changePen 10 = .ok (.aload_n 0, 1) := by decide +kernel
theorem dX2_changePen_11 : decode cX2_changePen 11 = .ok (.getfield 155, 3) := by decide +kernel
theorem dX2_changePen_14 : decode cX2_changePen 14 = .ok (.iconst 3, 1) := by decide +kernel
theorem dX2_changePen_15 : decode cX2_changePen 15 = .ok (.if_icmp .ge 4, 3) := by decide +kernel
theorem dX2_changePen_18 : decode cX2_changePen 18 = .ok (.return_, 1) := by decide +kernel
theorem dX2_changePen_19 : decode cX2_changePen 19 = .ok (.aload_n 0, 1) := by decide +kernel
theorem dX2_changePen_20 : decode cX2_changePen 20 = .ok (.aload_n 1, 1) := by decide +kernel
theorem dX2_changePen_21 : decode cX2_changePen 21 = .ok (.getfield 117, 3) := by decide +kernel
theorem dX2_changePen_24 : decode cX2_changePen 24 = .ok (.putfield 200, 3) := by decide +kernel
theorem dX2_changePen_27 : decode cX2_changePen 27 = .ok (.aload_n 0, 1) := by decide +kernel
theorem dX2_changePen_28 : decode cX2_changePen 28 = .ok (.aload_n 1, 1) := by decide +kernel
theorem dX2_changePen_29 : decode cX2_changePen 29 = .ok (.invokevirtual 203, 3) := by decide +kernel
theorem dX2_changePen_32 : decode cX2_changePen 32 = .ok (.return_, 1) := by decide +kernel
theorem dX2_doStep_0 : decode cX2_doStep 0 = .ok (.aload_n 0, 1) := by decide +kernel
theorem dX2_doStep_1 : decode cX2_doStep 1 = .ok (.dup, 1) := by decide +kernel
theorem dX2_doStep_2 : decode cX2_doStep 2 = .ok (.getfield 152, 3) := by decide +kernel
theorem dX2_doStep_5 : decode cX2_doStep 5 = .ok (.iconst 1, 1) := by decide +kernel
theorem dX2_doStep_6 : decode cX2_doStep 6 = .ok (.iadd, 1) := by decide +kernel
theorem dX2_doStep_7 : decode cX2_doStep 7 = .ok (.putfield 152, 3) := by decide +kernel
theorem dX2_doStep_10 : decode cX2_doStep 10 = .ok (.aload_n 1, 1) := by decide +kernel
theorem dX2_doStep_11 : decode cX2_doStep 11 = .ok (.invokevirtual 91, 3) := by decide +kernel
theorem dX2_doStep_14 : decode cX2_doStep 14 = .ok (.ifCond .eq 38, 3) := by decide +kernel
theorem dX2_doStep_17 : decode cX2_doStep 17 = .ok (.aload_n 0, 1) := by decide +kernel
theorem dX2_doStep_18 : decode cX2_doStep 18 = .ok (.dup, 1) := by decide +kernel
theorem dX2_doStep_19 : decode cX2_doStep 19 = .ok (.getfield 146, 3) := by decide +kernel
theorem dX2_doStep_22 : decode cX2_doStep 22 = .ok (.iconst 1, 1) := by decide +kernel
theorem dX2_doStep_23 : decode cX2_doStep 23 = .ok (.iadd, 1) := by decide +kernel
theorem dX2_doStep_24 : decode cX2_doStep 24 = .ok (.putfield 146, 3) := by decide +kernel
theorem dX2_doStep_27 : decode cX2_doStep 27 = .ok (.aload_n 0, 1) := by decide +kernel
theorem dX2_doStep_28 : decode cX2_doStep 28 = .ok (.aload_n 0, 1) := by decide +kernel
theorem dX2_doStep_29 : decode cX2_doStep 29 = .ok (.getfield 200, 3) := by decide +kernel
theorem dX2_doStep_32 : decode cX2_doStep 32 = .ok (.aload_n 0, 1) := by decide +kernel
theorem dX2_doStep_33 : decode cX2_doStep 33 = .ok (.aload_n 0, 1) := by decide +kernel
theorem dX2_doStep_34 : decode cX2_doStep 34 = .ok (.getfield 200, 3) := by decide +kernel
theorem dX2_doStep_37 : decode cX2_doStep 37 = .ok (.invokevirtual 167, 3) := by decide +kernel
theorem dX2_doStep_40 : decode cX2_doStep 40 = .ok (.iconst 1, 1) := by decide +kernel
theorem dX2_doStep_41 : decode cX2_doStep 41 = .ok (.isub, 1) := by decide +kernel
theorem dX2_doStep_42 : decode cX2_doStep 42 = .ok (.invokevirtual 170, 3) := by decide +kernel
theorem dX2_doStep_45 : decode cX2_doStep 45 = .ok (.aload_n 0, 1) := by decide +kernel
theorem dX2_doStep_46 : decode cX2_doStep 46 = .ok (.invokevirtual 197, 3) := by decide +kernel
theorem dX2_doStep_49 : decode cX2_doStep 49 = .ok (.goto 13, 3) := by decide +kernel
theorem dX2_doStep_52 : decode cX2_doStep 52 = .ok (.aload_n 0, 1) := by decide +kernel
theorem dX2_doStep_53 : decode cX2_doStep 53 = .ok (.dup, 1) := by decide +kernel
theorem dX2_doStep_54 : decode cX2_doStep 54 = .ok (.getfield 143, 3) := by decide +kernel
theorem dX2_doStep_57 : decode cX2_doStep 57 = .ok (.iconst 1, 1) := by decide +kernel
theorem dX2_doStep_58 : decode cX2_doStep 58 = .ok (.iadd, 1) := by decide +kernel
theorem dX2_doStep_59 : decode cX2_doStep 59 = .ok (.putfield 143, 3) := by decide +kernel
theorem dX2_doStep_62 : decode cX2_doStep 62 = .ok (.aload_n 0, 1) := by decide +kernel
theorem dX2_doStep_63 : decode cX2_doStep 63 = .ok (.getfield 152, 3) := by decide +kernel
theorem dX2_doStep_66 : decode cX2_doStep 66 = .ok (.aload_n 1, 1) := by decide +kernel
theorem dX2_doStep_67 : decode cX2_doStep 67 = .ok (.invokevirtual 124, 3) := by decide +kernel
theorem dX2_doStep_70 : decode cX2_doStep 70 = .ok (.if_icmp .lt 8, 3) := by decide +kernel
theorem dX2_doStep_73 : decode cX2_doStep 73 = .ok (.aload_n 0, 1) := by decide +kernel
theorem dX2_doStep_74 : decode cX2_doStep 74 = .ok (.aload_n 1, 1) := by decide +kernel
theorem dX2_doStep_75 : decode cX2_doStep 75 = .ok (.invokevirtual 203, 3) := by decide +kernel
theorem dX2_doStep_78 : decode cX2_doStep 78 = .ok (.return_, 1) := by decide +kernel
theorem dX2_endFirstCommand_0 : decode cX2_endFirstCommand 0 = .ok (.aload_n 0, 1) := by decide +kernel
theorem dX2_endFirstCommand_1 : decode cX2_endFirstCommand 1 = .ok (.dup, 1) := by decide +kernel
theorem dX2_endFirstCommand_2 : decode cX2_endFirstCommand 2 = .ok (.getfield 206, 3) := by decide +kernel
theorem dX2_endFirstCommand_5 : decode cX2_endFirstCommand 5 = .ok (.aload_n 1, 1) := by decide +kernel
theorem dX2_endFirstCommand_6 : decode cX2_endFirstCommand 6 = .ok (.getfield 105, 3) := by decide +kernel
theorem dX2_endFirstCommand_9 : decode cX2_endFirstCommand 9 = .ok (.iadd, 1) := by decide +kernel
theorem dX2_endFirstCommand_10 : decode cX2_endFirstCommand 10 = .ok (.putfield 206, 3) := by decide +kernel
theorem dX2_endFirstCommand_13 : decode cX2_endFirstCommand 13 = .ok (.aload_n 0, 1) := by decide +kernel
theorem dX2_endFirstCommand_14 : decode cX2_endFirstCommand 14 = .ok (.dup, 1) := by decide +kernel
theorem dX2_endFirstCommand_15 : decode cX2_endFirstCommand 15 = .ok (.getfield 209, 3) := by decide +kernel
theorem dX2_endFirstCommand_18 : decode cX2_endFirstCommand 18 = .ok (.aload_n 1, 1) := by decide +kernel
theorem dX2_endFirstCommand_19 : decode cX2_endFirstCommand 19 = .ok (.getfield 111, 3) := by decide +kernel
theorem dX2_endFirstCommand_22 : decode cX2_endFirstCommand 22 = .ok (.iadd, 1) := by decide +kernel
theorem dX2_endFirstCommand_23 : decode cX2_endFirstCommand 23 = .ok (.putfield 209, 3) := by decide +kernel
theorem dX2_endFirstCommand_26 : decode cX2_endFirstCommand 26 = .ok (.aload_n 0, 1) := by decide +kernel
theorem dX2_endFirstCommand_27 : decode cX2_endFirstCommand 27 = .ok (.iconst 0, 1) := by decide +kernel
theorem dX2_endFirstCommand_28 : decode cX2_endFirstCommand 28 = .ok (.putfield 152, 3) := by decide +kernel
theorem dX2_endFirstCommand_31 : decode cX2_endFirstCommand 31 = .ok (.aload_n 0, 1) := by decide +kernel
theorem dX2_endFirstCommand_32 : decode cX2_endFirstCommand 32 = .ok (.iconst 0, 1) := by decide +kernel
theorem dX2_endFirstCommand_33 : decode cX2_endFirstCommand 33 = .ok (.putfield 155, 3) := by decide +kernel
theorem dX2_endFirstCommand_36 : decode cX2_endFirstCommand 36 = .ok (.aload_n 0, 1) := by decide +kernel
theorem dX2_endFirstCommand_37 : decode cX2_endFirstCommand 37 = .ok (.getfield 10, 3) := by decide +kernel
theorem dX2_endFirstCommand_40 : decode cX2_endFirstCommand 40 = .ok (.invokevirtual 212, 3) := by decide +kernel
theorem dX2_endFirstCommand_43 : decode cX2_endFirstCommand 43 = .ok (.ifCond .ne 12, 3) := by decide +kernel
theorem dX2_endFirstCommand_46 : decode cX2_endFirstCommand 46 = .ok (.aload_n 0, 1) := by decide +kernel
theorem dX2_endFirstCommand_47 : decode cX2_endFirstCommand 47 = .ok (.getfield 10, 3) := by decide +kernel
theorem dX2_endFirstCommand_50 : decode cX2_endFirstCommand 50 = .ok (.iconst 0, 1) := by decide +kernel
theorem dX2_endFirstCommand_51 : decode cX2_endFirstCommand 51 = .ok (.invokevirtual 215, 3) := by decide +kernel
theorem dX2_endFirstCommand_54 : decode cX2_endFirstCommand 54 = .ok (.pop, 1) := by decide +kernel
theorem dX2_endFirstCommand_55 : decode cX2_endFirstCommand 55 = .ok (.return_, 1) := by decide +kernel
theorem dX2_markHere_0 : decode cX2_markHere 0 = .ok (.aload_n 0, 1) := by decide +kernel
theorem dX2_markHere_1 : decode cX2_markHere 1 = .ok (.getfield 19, 3) := by decide +kernel
theorem dX2_markHere_4 : decode cX2_markHere 4 = .ok (.aload_n 0, 1) := by decide +kernel
theorem dX2_markHere_5 : decode cX2_markHere 5 = .ok (.invokevirtual 219, 3) := by decide +kernel
theorem dX2_markHere_8 : decode cX2_markHere 8 = .ok (.aload_n 0, 1) := by decide +kernel
theorem dX2_markHere_9 : decode cX2_markHere 9 = .ok (.invokevirtual 222, 3) := by decide +kernel
theorem dX2_markHere_12 : decode cX2_markHere 12 = .ok (.invokevirtual 137, 3) := by decide +kernel
theorem dX2_markHere_15 : decode cX2_markHere 15 = .ok (.return_, 1) := by decide +kernel
theorem dX2_at_0 : decode cX2_at 0 = .ok (.bipush 100, 2) := by decide +kernel
theorem dX2_at_2 : decode cX2_at 2 = .ok (.aload_n 0, 1) := by decide +kernel
theorem dX2_at_3 : decode cX2_at 3 = .ok (.invokevirtual 222, 3) := by decide +kernel
theorem dX2_at_6 : decode cX2_at 6 = .ok (.imul, 1) := by decide +kernel
theorem dX2_at_7 : decode cX2_at 7 = .ok (.aload_n 0, 1) := by decide +kernel
theorem dX2_at_8 : decode cX2_at 8 = .ok (.invokevirtual 219, 3) := by decide +kernel
theorem dX2_at_11 : decode cX2_at 11 = .ok (.iadd, 1) := by decide +kernel
theorem dX2_at_12 : decode cX2_at 12 = .ok (.ireturn, 1) := by decide +kernel
theorem dX2_isDown_0 : decode cX2_isDown 0 = .ok (.aload_n 0, 1) := by decide +kernel
theorem dX2_isDown_1 : decode cX2_isDown 1 = .ok (.getfield 158, 3) := by decide +kernel
theorem dX2_isDown_4 : decode cX2_isDown 4 = .ok (.ireturn, 1) := by decide +kernel
theorem dX2_pen_0 : decode cX2_pen 0 = .ok (.aload_n 0, 1) := by decide +kernel
theorem dX2_pen_1 : decode cX2_pen 1 = .ok (.getfield 200, 3) := by decide +kernel
theorem dX2_pen_4 : decode cX2_pen 4 = .ok (.ireturn, 1) := by decide +kernel
theorem dX2_ink_0 : decode cX2_ink 0 = .ok (.iload_n 1, 1) := by decide +kernel
theorem dX2_ink_1 : decode cX2_ink 1 = .ok (.invokestatic 120, 3) := by decide +kernel
theorem dX2_ink_4 : decode cX2_ink 4 = .ok (.ifCond .ne 13, 3) := by decide +kernel
theorem dX2_ink_7 : decode cX2_ink 7 = .ok (.new 162, 3) := by decide +kernel
theorem dX2_ink_10 : decode cX2_ink 10 = .ok (.dup, 1) := by decide +kernel
theorem dX2_ink_11 : decode cX2_ink 11 = .ok (.ldc 164, 2) := by decide +kernel
theorem dX2_ink_13 : decode cX2_ink 13 = .ok (.invokespecial 166, 3) := by decide +kernel
theorem dX2_ink_16 : decode cX2_ink 16 = .ok (.athrow, 1) := by decide +kernel
theorem dX2_ink_17 : decode cX2_ink 17 = .ok (.aload_n 0, 1) := by decide +kernel
theorem dX2_ink_18 : decode cX2_ink 18 = .ok (.iload_n 1, 1) := by decide +kernel
theorem dX2_ink_19 : decode cX2_ink 19 = .ok (.invokevirtual 167, 3) := by decide +kernel
theorem dX2_ink_22 : decode cX2_ink 22 = .ok (.ireturn, 1) := by decide +kernel
theorem dX2_isWaiting_0 : decode cX2_isWaiting 0 = .ok (.aload_n 0, 1) := by decide +kernel
theorem dX2_isWaiting_1 : decode cX2_isWaiting 1 = .ok (.invokevirtual 181, 3) := by decide +kernel
theorem dX2_isWaiting_4 : decode cX2_isWaiting 4 = .ok (.astore_n 1, 1) := by decide +kernel
theorem dX2_isWaiting_5 : decode cX2_isWaiting 5 = .ok (.aload_n 1, 1) := by decide +kernel
theorem dX2_isWaiting_6 : decode cX2_isWaiting 6 = .ok (.ifnull 15, 3) := by decide +kernel
theorem dX2_isWaiting_9 : decode cX2_isWaiting 9 = .ok (.aload_n 0, 1) := by decide +kernel
theorem dX2_isWaiting_10 : decode cX2_isWaiting 10 = .ok (.aload_n 1, 1) := by decide +kernel
theorem dX2_isWaiting_11 : decode cX2_isWaiting 11 = .ok (.invokevirtual 185, 3) := by decide +kernel
theorem dX2_isWaiting_14 : decode cX2_isWaiting 14 = .ok (.ifCond .eq 7, 3) := by decide +kernel
theorem dX2_isWaiting_17 : decode cX2_isWaiting 17 = .ok (.iconst 1, 1) := by decide +kernel
theorem dX2_isWaiting_18 : decode cX2_isWaiting 18 = .ok (.goto 4, 3) := by decide +kernel
theorem dX2_isWaiting_21 : decode cX2_isWaiting 21 = .ok (.iconst 0, 1) := by decide +kernel
theorem dX2_isWaiting_22 : decode cX2_isWaiting 22 = .ok (.ireturn, 1) := by decide +kernel
theorem dX2_timeLeft_0 : decode cX2_timeLeft 0 = .ok (.iconst 0, 1) := by decide +kernel
theorem dX2_timeLeft_1 : decode cX2_timeLeft 1 = .ok (.istore_n 1, 1) := by decide +kernel
theorem dX2_timeLeft_2 : decode cX2_timeLeft 2 = .ok (.aload_n 0, 1) := by decide +kernel
theorem dX2_timeLeft_3 : decode cX2_timeLeft 3 = .ok (.getfield 158, 3) := by decide +kernel
theorem dX2_timeLeft_6 : decode cX2_timeLeft 6 = .ok (.istore_n 2, 1) := by decide +kernel
theorem dX2_timeLeft_7 : decode cX2_timeLeft 7 = .ok (.iconst 0, 1) := by decide +kernel
theorem dX2_timeLeft_8 : decode cX2_timeLeft 8 = .ok (.istore_n 3, 1) := by decide +kernel
theorem dX2_timeLeft_9 : decode cX2_timeLeft 9 = .ok (.iload_n 3, 1) := by decide +kernel
theorem dX2_timeLeft_10 : decode cX2_timeLeft 10 = .ok (.aload_n 0, 1) := by decide +kernel
theorem dX2_timeLeft_11 : decode cX2_timeLeft 11 = .ok (.getfield 10, 3) := by decide +kernel
theorem dX2_timeLeft_14 : decode cX2_timeLeft 14 = .ok (.invokevirtual 37, 3) := by decide +kernel
theorem dX2_timeLeft_17 : decode cX2_timeLeft 17 = .ok (.if_icmp .ge 61, 3) := by decide +kernel
theorem dX2_timeLeft_20 : decode cX2_timeLeft 20 = .ok (.aload_n 0, 1) := by decide +kernel
theorem dX2_timeLeft_21 : decode cX2_timeLeft 21 = .ok (.getfield 10, 3) := by decide +kernel
theorem dX2_timeLeft_24 : decode cX2_timeLeft 24 = .ok (.iload_n 3, 1) := by decide +kernel
theorem dX2_timeLeft_25 : decode cX2_timeLeft 25 = .ok (.invokevirtual 225, 3) := by decide +kernel
theorem dX2_timeLeft_28 : decode cX2_timeLeft 28 = .ok (.checkcast 67, 3) := by decide +kernel
theorem dX2_timeLeft_31 : decode cX2_timeLeft 31 = .ok (.astore 4, 2) := by decide +kernel
theorem dX2_timeLeft_33 : decode cX2_timeLeft 33 = .ok (.iload_n 2, 1) := by decide +kernel
theorem dX2_timeLeft_34 : decode cX2_timeLeft 34 = .ok (.aload 4, 2) := by decide +kernel
theorem dX2_timeLeft_36 : decode cX2_timeLeft 36 = .ok (.invokevirtual 91, 3) := by decide +kernel
theorem dX2_timeLeft_39 : decode cX2_timeLeft 39 = .ok (.if_icmp .eq 6, 3) := by decide +kernel
theorem dX2_timeLeft_42 : decode cX2_timeLeft 42 = .ok (.iinc 1 2, 3) := by decide +kernel
theorem dX2_timeLeft_45 : decode cX2_timeLeft 45 = .ok (.iload_n 1, 1) := by decide +kernel
theorem dX2_timeLeft_46 : decode cX2_timeLeft 46 = .ok (.aload 4, 2) := by decide +kernel
theorem dX2_timeLeft_48 : decode cX2_timeLeft 48 = .ok (.getfield 114, 3) := by decide +kernel
theorem dX2_timeLeft_51 : decode cX2_timeLeft 51 = .ok (.iconst 3, 1) := by decide +kernel
theorem dX2_timeLeft_52 : decode cX2_timeLeft 52 = .ok (.if_icmp .ne 7, 3) := by decide +kernel
theorem dX2_timeLeft_55 : decode cX2_timeLeft 55 = .ok (.iconst 3, 1) := by decide +kernel
theorem dX2_timeLeft_56 : decode cX2_timeLeft 56 = .ok (.goto 8, 3) := by decide +kernel
theorem dX2_timeLeft_59 : decode cX2_timeLeft 59 = .ok (.aload 4, 2) := by decide +kernel
theorem dX2_timeLeft_61 : decode cX2_timeLeft 61 = .ok (.invokevirtual 124, 3) := by decide +kernel
theorem dX2_timeLeft_64 : decode cX2_timeLeft 64 = .ok (.iadd, 1) := by decide +kernel
theorem dX2_timeLeft_65 : decode cX2_timeLeft 65 = .ok (.istore_n 1, 1) := by decide +kernel
theorem dX2_timeLeft_66 : decode cX2_timeLeft 66 = .ok (.aload 4, 2) := by decide +kernel
theorem dX2_timeLeft_68 : decode cX2_timeLeft 68 = .ok (.invokevirtual 91, 3) := by decide +kernel
theorem dX2_timeLeft_71 : decode cX2_timeLeft 71 = .ok (.istore_n 2, 1) := by decide +kernel
theorem dX2_timeLeft_72 : decode cX2_timeLeft 72 = .ok (.iinc 3 1, 3) := by decide +kernel
theorem dX2_timeLeft_75 : decode cX2_timeLeft 75 = .ok (.goto (-66), 3) := by decide +kernel
theorem dX2_timeLeft_78 : decode cX2_timeLeft 78 = .ok (.iload_n 1, 1) := by decide +kernel
theorem dX2_timeLeft_79 : decode cX2_timeLeft 79 = .ok (.aload_n 0, 1) := by decide +kernel
theorem dX2_timeLeft_80 : decode cX2_timeLeft 80 = .ok (.getfield 152, 3) := by decide +kernel
theorem dX2_timeLeft_83 : decode cX2_timeLeft 83 = .ok (.isub, 1) := by decide +kernel
theorem dX2_timeLeft_84 : decode cX2_timeLeft 84 = .ok (.aload_n 0, 1) := by decide +kernel
theorem dX2_timeLeft_85 : decode cX2_timeLeft 85 = .ok (.getfield 155, 3) := by decide +kernel
theorem dX2_timeLeft_88 : decode cX2_timeLeft 88 = .ok (.isub, 1) := by decide +kernel
theorem dX2_timeLeft_89 : decode cX2_timeLeft 89 = .ok (.ireturn, 1) := by decide +kernel
theorem dX2_stepsUp_0 : decode cX2_stepsUp 0 = .ok (.aload_n 0, 1) := by decide +kernel
theorem dX2_stepsUp_1 : decode cX2_stepsUp 1 = .ok (.getfield 143, 3) := by decide +kernel
theorem dX2_stepsUp_4 : decode cX2_stepsUp 4 = .ok (.ireturn, 1) := by decide +kernel
theorem dX2_stepsDown_0 : decode cX2_stepsDown 0 = .ok (.aload_n 0, 1) := by decide +kernel
theorem dX2_stepsDown_1 : decode cX2_stepsDown 1 = .ok (.getfield 146, 3) := by decide +kernel
theorem dX2_stepsDown_4 : decode cX2_stepsDown 4 = .ok (.ireturn, 1) := by decide +kernel
theorem dX2_firstCommand_0 : decode cX2_firstCommand 0 = .ok (.aload_n 0, 1) := by decide +kernel
theorem dX2_firstCommand_1 : decode cX2_firstCommand 1 = .ok (.getfield 10, 3) := by decide +kernel
theorem dX2_firstCommand_4 : decode cX2_firstCommand 4 = .ok (.invokevirtual 212, 3) := by decide +kernel
theorem dX2_firstCommand_7 : decode cX2_firstCommand 7 = .ok (.ifCond .eq 7, 3) := by decide +kernel
theorem dX2_firstCommand_10 : decode cX2_firstCommand 10 = .ok (.aconst_null, 1) := by decide +kernel
theorem dX2_firstCommand_11 : decode cX2_firstCommand 11 = .ok (.goto 14, 3) := by decide +kernel
theorem dX2_firstCommand_14 : decode cX2_firstCommand 14 = .ok (.aload_n 0, 1) := by decide +kernel
theorem dX2_firstCommand_15 : decode cX2_firstCommand 15 = .ok (.getfield 10, 3) := by decide +kernel
theorem dX2_firstCommand_18 : decode cX2_firstCommand 18 = .ok (.iconst 0, 1) := by decide +kernel
theorem dX2_firstCommand_19 : decode cX2_firstCommand 19 = .ok (.invokevirtual 225, 3) := by decide +kernel
theorem dX2_firstCommand_22 : decode cX2_firstCommand 22 = .ok (.checkcast 67, 3) := by decide +kernel
theorem dX2_firstCommand_25 : decode cX2_firstCommand 25 = .ok (.areturn, 1) := by decide +kernel
theorem dX2_carriageX_0 : decode cX2_carriageX 0 = .ok (.aload_n 0, 1) := by decide +kernel
theorem dX2_carriageX_1 : decode cX2_carriageX 1 = .ok (.invokevirtual 181, 3) := by decide +kernel
theorem dX2_carriageX_4 : decode cX2_carriageX 4 = .ok (.astore_n 1, 1) := by decide +kernel
theorem dX2_carriageX_5 : decode cX2_carriageX 5 = .ok (.aload_n 1, 1) := by decide +kernel
theorem dX2_carriageX_6 : decode cX2_carriageX 6 = .ok (.ifnonnull 10, 3) := by decide +kernel
theorem dX2_carriageX_9 : decode cX2_carriageX 9 = .ok (.aload_n 0, 1) := by decide +kernel
theorem dX2_carriageX_10 : decode cX2_carriageX 10 = .ok (.getfield 206, 3) := by decide +kernel
theorem dX2_carriageX_13 : decode cX2_carriageX 13 = .ok (.goto 16, 3) := by decide +kernel
theorem dX2_carriageX_16 : decode cX2_carriageX 16 = .ok (.aload_n 0, 1) := by decide +kernel
theorem dX2_carriageX_17 : decode cX2_carriageX 17 = .ok (.getfield 206, 3) := by decide +kernel
theorem dX2_carriageX_20 : decode cX2_carriageX 20 = .ok (.aload_n 1, 1) := by decide +kernel
theorem dX2_carriageX_21 : decode cX2_carriageX 21 = .ok (.aload_n 0, 1) := by decide +kernel
theorem dX2_carriageX_22 : decode cX2_carriageX 22 = .ok (.getfield 152, 3) := by decide +kernel
theorem dX2_carriageX_25 : decode cX2_carriageX 25 = .ok (.invokevirtual 131, 3) := by decide +kernel
theorem dX2_carriageX_28 : decode cX2_carriageX 28 = .ok (.iadd, 1) := by decide +kernel
theorem dX2_carriageX_29 : decode cX2_carriageX 29 = .ok (.ireturn, 1) := by decide +kernel
theorem dX2_carriageY_0 : decode cX2_carriageY 0 = .ok (.aload_n 0, 1) := by decide +kernel
theorem dX2_carriageY_1 : decode cX2_carriageY 1 = .ok (.invokevirtual 181, 3) := by decide +kernel
theorem dX2_carriageY_4 : decode cX2_carriageY 4 = .ok (.astore_n 1, 1) := by decide +kernel
theorem dX2_carriageY_5 : decode cX2_carriageY 5 = .ok (.aload_n 1, 1) := by decide +kernel
theorem dX2_carriageY_6 : decode cX2_carriageY 6 = .ok (.ifnonnull 10, 3) := by decide +kernel
theorem dX2_carriageY_9 : decode cX2_carriageY 9 = .ok (.aload_n 0, 1) := by decide +kernel
theorem dX2_carriageY_10 : decode cX2_carriageY 10 = .ok (.getfield 209, 3) := by decide +kernel
theorem dX2_carriageY_13 : decode cX2_carriageY 13 = .ok (.goto 16, 3) := by decide +kernel
theorem dX2_carriageY_16 : decode cX2_carriageY 16 = .ok (.aload_n 0, 1) := by decide +kernel
theorem dX2_carriageY_17 : decode cX2_carriageY 17 = .ok (.getfield 209, 3) := by decide +kernel
theorem dX2_carriageY_20 : decode cX2_carriageY 20 = .ok (.aload_n 1, 1) := by decide +kernel
theorem dX2_carriageY_21 : decode cX2_carriageY 21 = .ok (.aload_n 0, 1) := by decide +kernel
theorem dX2_carriageY_22 : decode cX2_carriageY 22 = .ok (.getfield 152, 3) := by decide +kernel
theorem dX2_carriageY_25 : decode cX2_carriageY 25 = .ok (.invokevirtual 134, 3) := by decide +kernel
theorem dX2_carriageY_28 : decode cX2_carriageY 28 = .ok (.iadd, 1) := by decide +kernel
theorem dX2_carriageY_29 : decode cX2_carriageY 29 = .ok (.ireturn, 1) := by decide +kernel
theorem dX2_lacksInk_0 : decode cX2_lacksInk 0 = .ok (.aload_n 1, 1) := by decide +kernel
theorem dX2_lacksInk_1 : decode cX2_lacksInk 1 = .ok (.invokevirtual 91, 3) := by decide +kernel
theorem dX2_lacksInk_4 : decode cX2_lacksInk 4 = .ok (.ifCond .eq 25, 3) := by decide +kernel
theorem dX2_lacksInk_7 : decode cX2_lacksInk 7 = .ok (.aload_n 0, 1) := by decide +kernel
theorem dX2_lacksInk_8 : decode cX2_lacksInk 8 = .ok (.getfield 158, 3) := by decide +kernel
theorem dX2_lacksInk_11 : decode cX2_lacksInk 11 = .ok (.ifCond .eq 18, 3) := by decide +kernel
theorem dX2_lacksInk_14 : decode cX2_lacksInk 14 = .ok (.aload_n 0, 1) := by decide +kernel
theorem dX2_lacksInk_15 : decode cX2_lacksInk 15 = .ok (.aload_n 0, 1) := by decide +kernel
theorem dX2_lacksInk_16 : decode cX2_lacksInk 16 = .ok (.getfield 200, 3) := by decide +kernel
theorem dX2_lacksInk_19 : decode cX2_lacksInk 19 = .ok (.invokevirtual 167, 3) := by decide +kernel
theorem dX2_lacksInk_22 : decode cX2_lacksInk 22 = .ok (.ifCond .ne 7, 3) := by decide +kernel
theorem dX2_lacksInk_25 : decode cX2_lacksInk 25 = .ok (.iconst 1, 1) := by decide +kernel
theorem dX2_lacksInk_26 : decode cX2_lacksInk 26 = .ok (.goto 4, 3) := by decide +kernel
theorem dX2_lacksInk_29 : decode cX2_lacksInk 29 = .ok (.iconst 0, 1) := by decide +kernel
theorem dX2_lacksInk_30 : decode cX2_lacksInk 30 = .ok (.ireturn, 1) := by decide +kernel
theorem dX2_hasPen_0 : decode cX2_hasPen 0 = .ok (.iload_n 0, 1) := by decide +kernel
theorem dX2_hasPen_1 : decode cX2_hasPen 1 = .ok (.ifCond .lt 12, 3) := by decide +kernel
theorem dX2_hasPen_4 : decode cX2_hasPen 4 = .ok (.iload_n 0, 1) := by decide +kernel
theorem dX2_hasPen_5 : decode cX2_hasPen 5 = .ok (.iconst 3, 1) := by decide +kernel
theorem dX2_hasPen_6 : decode cX2_hasPen 6 = .ok (.if_icmp .ge 7, 3) := by decide +kernel
theorem dX2_hasPen_9 : decode cX2_hasPen 9 = .ok (.iconst 1, 1) := by decide +kernel
theorem dX2_hasPen_10 : decode cX2_hasPen 10 = .ok (.goto 4, 3) := by decide +kernel
theorem dX2_hasPen_13 : decode cX2_hasPen 13 = .ok (.iconst 0, 1) := by decide +kernel
theorem dX2_hasPen_14 : decode cX2_hasPen 14 = .ok (.ireturn, 1) := by decide +kernel
theorem dX2_inkOf_0 : decode cX2_inkOf 0 = .ok (.iload_n 1, 1) := by decide +kernel
theorem dX2_inkOf_1 : decode cX2_inkOf 1 = .ok (.ifCond .lt 21, 3) := by decide +kernel
theorem dX2_inkOf_4 : decode cX2_inkOf 4 = .ok (.iload_n 1, 1) := by decide +kernel
theorem dX2_inkOf_5 : decode cX2_inkOf 5 = .ok (.aload_n 0, 1) := by decide +kernel
theorem dX2_inkOf_6 : decode cX2_inkOf 6 = .ok (.getfield 26, 3) := by decide +kernel
theorem dX2_inkOf_9 : decode cX2_inkOf 9 = .ok (.arraylength, 1) := by decide +kernel
theorem dX2_inkOf_10 : decode cX2_inkOf 10 = .ok (.if_icmp .ge 12, 3) := by decide +kernel
theorem dX2_inkOf_13 : decode cX2_inkOf 13 = .ok (.aload_n 0, 1) := by decide +kernel
theorem dX2_inkOf_14 : decode cX2_inkOf 14 = .ok (.getfield 26, 3) := by decide +kernel
theorem dX2_inkOf_17 : decode cX2_inkOf 17 = .ok (.iload_n 1, 1) := by decide +kernel
theorem dX2_inkOf_18 : decode cX2_inkOf 18 = .ok (.iaload, 1) := by decide +kernel
theorem dX2_inkOf_19 : decode cX2_inkOf 19 = .ok (.goto 4, 3) := by decide +kernel
theorem dX2_inkOf_22 : decode cX2_inkOf 22 = .ok (.iconst 0, 1) := by decide +kernel
theorem dX2_inkOf_23 : decode cX2_inkOf 23 = .ok (.ireturn, 1) := by decide +kernel
theorem dX2_setInk_0 : decode cX2_setInk 0 = .ok (.iload_n 1, 1) := by decide +kernel
theorem dX2_setInk_1 : decode cX2_setInk 1 = .ok (.ifCond .lt 19, 3) := by decide +kernel
theorem dX2_setInk_4 : decode cX2_setInk 4 = .ok (.iload_n 1, 1) := by decide +kernel
theorem dX2_setInk_5 : decode cX2_setInk 5 = .ok (.aload_n 0, 1) := by decide +kernel
theorem dX2_setInk_6 : decode cX2_setInk 6 = .ok (.getfield 26, 3) := by decide +kernel
theorem dX2_setInk_9 : decode cX2_setInk 9 = .ok (.arraylength, 1) := by decide +kernel
theorem dX2_setInk_10 : decode cX2_setInk 10 = .ok (.if_icmp .ge 10, 3) := by decide +kernel
theorem dX2_setInk_13 : decode cX2_setInk 13 = .ok (.aload_n 0, 1) := by decide +kernel
theorem dX2_setInk_14 : decode cX2_setInk 14 = .ok (.getfield 26, 3) := by decide +kernel
theorem dX2_setInk_17 : decode cX2_setInk 17 = .ok (.iload_n 1, 1) := by decide +kernel
theorem dX2_setInk_18 : decode cX2_setInk 18 = .ok (.iload_n 2, 1) := by decide +kernel
theorem dX2_setInk_19 : decode cX2_setInk 19 = .ok (.iastore, 1) := by decide +kernel
theorem dX2_setInk_20 : decode cX2_setInk 20 = .ok (.return_, 1) := by decide +kernel
theorem dX2_isMarked_0 : decode cX2_isMarked 0 = .ok (.iload_n 1, 1) := by decide +kernel
theorem dX2_isMarked_1 : decode cX2_isMarked 1 = .ok (.iload_n 2, 1) := by decide +kernel
theorem dX2_isMarked_2 : decode cX2_isMarked 2 = .ok (.invokestatic 127, 3) := by decide +kernel
theorem dX2_isMarked_5 : decode cX2_isMarked 5 = .ok (.ifCond .ne 13, 3) := by decide +kernel
theorem dX2_isMarked_8 : decode cX2_isMarked 8 = .ok (.new 162, 3) := by decide +kernel
theorem dX2_isMarked_11 : decode cX2_isMarked 11 = .ok (.dup, 1) := by decide +kernel
theorem dX2_isMarked_12 : decode cX2_isMarked 12 = .ok (.ldc 228, 2) := by decide +kernel
theorem dX2_isMarked_14 : decode cX2_isMarked 14 = .ok (.invokespecial 166, 3) := by decide +kernel
theorem dX2_isMarked_17 : decode cX2_isMarked 17 = .ok (.athrow, 1) := by decide +kernel
theorem dX2_isMarked_18 : decode cX2_isMarked 18 = .ok (.aload_n 0, 1) := by decide +kernel
theorem dX2_isMarked_19 : decode cX2_isMarked 19 = .ok (.getfield 19, 3) := by decide +kernel
theorem dX2_isMarked_22 : decode cX2_isMarked 22 = .ok (.iload_n 1, 1) := by decide +kernel
theorem dX2_isMarked_23 : decode cX2_isMarked 23 = .ok (.iload_n 2, 1) := by decide +kernel
theorem dX2_isMarked_24 : decode cX2_isMarked 24 = .ok (.invokevirtual 230, 3) := by decide +kernel
theorem dX2_isMarked_27 : decode cX2_isMarked 27 = .ok (.ireturn, 1) := by decide +kernel
theorem dX2_marks_0 : decode cX2_marks 0 = .ok (.aload_n 0, 1) := by decide +kernel
theorem dX2_marks_1 : decode cX2_marks 1 = .ok (.getfield 19, 3) := by decide +kernel
theorem dX2_marks_4 : decode cX2_marks 4 = .ok (.getfield 233, 3) := by decide +kernel
theorem dX2_marks_7 : decode cX2_marks 7 = .ok (.ireturn, 1) := by decide +kernel
theorem dX2_marksInTheEnd_0 : decode cX2_marksInTheEnd 0 = .ok (.aload_n 0, 1) := by decide +kernel
theorem dX2_marksInTheEnd_1 : decode cX2_marksInTheEnd 1 = .ok (.getfield 23, 3) := by decide +kernel
theorem dX2_marksInTheEnd_4 : decode cX2_marksInTheEnd 4 = .ok (.getfield 233, 3) := by decide +kernel
theorem dX2_marksInTheEnd_7 : decode cX2_marksInTheEnd 7 = .ok (.ireturn, 1) := by decide +kernel
theorem dX2_hasCell_0 : decode cX2_hasCell 0 = .ok (.iload_n 0, 1) := by decide +kernel
theorem dX2_hasCell_1 : decode cX2_hasCell 1 = .ok (.ifCond .lt 23, 3) := by decide +kernel
theorem dX2_hasCell_4 : decode cX2_hasCell 4 = .ok (.iload_n 0, 1) := by decide +kernel
theorem dX2_hasCell_5 : decode cX2_hasCell 5 = .ok (.bipush 100, 2) := by decide +kernel
theorem dX2_hasCell_7 : decode cX2_hasCell 7 = .ok (.if_icmp .ge 17, 3) := by decide +kernel
theorem dX2_hasCell_10 : decode cX2_hasCell 10 = .ok (.iload_n 1, 1) := by decide +kernel
theorem dX2_hasCell_11 : decode cX2_hasCell 11 = .ok (.ifCond .lt 13, 3) := by decide +kernel
theorem dX2_hasCell_14 : decode cX2_hasCell 14 = .ok (.iload_n 1, 1) := by decide +kernel
theorem dX2_hasCell_15 : decode cX2_hasCell 15 = .ok (.bipush 100, 2) := by decide +kernel
theorem dX2_hasCell_17 : decode cX2_hasCell 17 = .ok (.if_icmp .ge 7, 3) := by decide +kernel
theorem dX2_hasCell_20 : decode cX2_hasCell 20 = .ok (.iconst 1, 1) := by decide +kernel
theorem dX2_hasCell_21 : decode cX2_hasCell 21 = .ok (.goto 4, 3) := by decide +kernel
theorem dX2_hasCell_24 : decode cX2_hasCell 24 = .ok (.iconst 0, 1) := by decide +kernel
theorem dX2_hasCell_25 : decode cX2_hasCell 25 = .ok (.ireturn, 1) := by decide +kernel
end
section
theorem dX3_init_0 : decode cX3_init 0 = .ok (.aload_n 0, 1) := by decide +kernel
theorem dX3_init_1 : decode cX3_init 1 = .ok (.invokespecial 1, 3) := by decide +kernel
theorem dX3_init_4 : decode cX3_init 4 = .ok (.aload_n 0, 1) := by decide +kernel
theorem dX3_init_5 : decode cX3_init 5 = .ok (.bipush 32, 2) := by decide +kernel
theorem dX3_init_7 : decode cX3_init 7 = .ok (.newarray .int, 2) := by decide +kernel
theorem dX3_init_9 : decode cX3_init 9 = .ok (.putfield 7, 3) := by decide +kernel
theorem dX3_init_12 : decode cX3_init 12 = .ok (.aload_n 0, 1) := by decide +kernel
theorem dX3_init_13 : decode cX3_init 13 = .ok (.bipush 32, 2) := by decide +kernel
theorem dX3_init_15 : decode cX3_init 15 = .ok (.newarray .int, 2) := by decide +kernel
theorem dX3_init_17 : decode cX3_init 17 = .ok (.putfield 13, 3) := by decide +kernel
theorem dX3_init_20 : decode cX3_init 20 = .ok (.aload_n 0, 1) := by decide +kernel
theorem dX3_init_21 : decode cX3_init 21 = .ok (.bipush 32, 2) := by decide +kernel
theorem dX3_init_23 : decode cX3_init 23 = .ok (.newarray .int, 2) := by decide +kernel
theorem dX3_init_25 : decode cX3_init 25 = .ok (.putfield 16, 3) := by decide +kernel
theorem dX3_init_28 : decode cX3_init 28 = .ok (.aload_n 0, 1) := by decide +kernel
theorem dX3_init_29 : decode cX3_init 29 = .ok (.iconst 3, 1) := by decide +kernel
theorem dX3_init_30 : decode cX3_init 30 = .ok (.newarray .int, 2) := by decide +kernel
theorem dX3_init_32 : decode cX3_init 32 = .ok (.putfield 19, 3) := by decide +kernel
theorem dX3_init_35 : decode cX3_init 35 = .ok (.aload_n 0, 1) := by decide +kernel
theorem dX3_init_36 : decode cX3_init 36 = .ok (.sipush 320, 3) := by decide +kernel
theorem dX3_init_39 : decode cX3_init 39 = .ok (.newarray .int, 2) := by decide +kernel
theorem dX3_init_41 : decode cX3_init 41 = .ok (.putfield 22, 3) := by decide +kernel
theorem dX3_init_44 : decode cX3_init 44 = .ok (.aload_n 0, 1) := by decide +kernel
theorem dX3_init_45 : decode cX3_init 45 = .ok (.sipush 320, 3) := by decide +kernel
theorem dX3_init_48 : decode cX3_init 48 = .ok (.newarray .int, 2) := by decide +kernel
theorem dX3_init_50 : decode cX3_init 50 = .ok (.putfield 25, 3) := by decide +kernel
theorem dX3_init_53 : decode cX3_init 53 = .ok (.aload_n 0, 1) := by decide +kernel
theorem dX3_init_54 : decode cX3_init 54 = .ok (.getfield 19, 3) := by decide +kernel
theorem dX3_init_57 : decode cX3_init 57 = .ok (.iconst 0, 1) := by decide +kernel
theorem dX3_init_58 : decode cX3_init 58 = .ok (.sipush 500, 3) := by decide +kernel
theorem dX3_init_61 : decode cX3_init 61 = .ok (.iastore, 1) := by decide +kernel
theorem dX3_init_62 : decode cX3_init 62 = .ok (.aload_n 0, 1) := by decide +kernel
theorem dX3_init_63 : decode cX3_init 63 = .ok (.getfield 19, 3) := by decide +kernel
theorem dX3_init_66 : decode cX3_init 66 = .ok (.iconst 1, 1) := by decide +kernel
theorem dX3_init_67 : decode cX3_init 67 = .ok (.sipush 500, 3) := by decide +kernel
theorem dX3_init_70 : decode cX3_init 70 = .ok (.iastore, 1) := by decide +kernel
theorem dX3_init_71 : decode cX3_init 71 = .ok (.aload_n 0, 1) := by decide +kernel
theorem dX3_init_72 : decode cX3_init 72 = .ok (.getfield 19, 3) := by decide +kernel
theorem dX3_init_75 : decode cX3_init 75 = .ok (.iconst 2, 1) := by decide +kernel
theorem dX3_init_76 : decode cX3_init 76 = .ok (.sipush 500, 3) := by decide +kernel
theorem dX3_init_79 : decode cX3_init 79 = .ok (.iastore, 1) := by decide +kernel
theorem dX3_init_80 : decode cX3_init 80 = .ok (.return_, 1) := by decide +kernel
theorem dX3_thrown_0 : decode cX3_thrown 0 = .ok (.aload_n 0, 1) := by decide +kernel
theorem dX3_thrown_1 : decode cX3_thrown 1 = .ok (.getfield 28, 3) := by decide +kernel
theorem dX3_thrown_4 : decode cX3_thrown 4 = .ok (.ireturn, 1) := by decide +kernel
theorem dX3_goes_0 : decode cX3_goes 0 = .ok (.aload_n 0, 1) := by decide +kernel
theorem dX3_goes_1 : decode cX3_goes 1 = .ok (.iload_n 1, 1) := by decide +kernel
theorem dX3_goes_2 : decode cX3_goes 2 = .ok (.putfield 28, 3) := by decide +kernel
theorem dX3_goes_5 : decode cX3_goes 5 = .ok (.iload_n 1, 1) := by decide +kernel
theorem dX3_goes_6 : decode cX3_goes 6 = .ok (.ifCond .ne 7, 3) := by decide +kernel
theorem dX3_goes_9 : decode cX3_goes 9 = .ok (.iconst 1, 1) := by decide +kernel
theorem dX3_goes_10 : decode cX3_goes 10 = .ok (.goto 4, 3) := by decide +kernel
theorem dX3_goes_13 : decode cX3_goes 13 = .ok (.iconst 0, 1) := by decide +kernel
theorem dX3_goes_14 : decode cX3_goes 14 = .ok (.ireturn, 1) := by decide +kernel
theorem dX3_isIn_0 : decode cX3_isIn 0 = .ok (.iload_n 0, 1) := by decide +kernel
theorem dX3_isIn_1 : decode cX3_isIn 1 = .ok (.iload_n 1, 1) := by decide +kernel
theorem dX3_isIn_2 : decode cX3_isIn 2 = .ok (.if_icmp .lt 12, 3) := by decide +kernel
theorem dX3_isIn_5 : decode cX3_isIn 5 = .ok (.iload_n 0, 1) := by decide +kernel
theorem dX3_isIn_6 : decode cX3_isIn 6 = .ok (.iload_n 2, 1) := by decide +kernel
theorem dX3_isIn_7 : decode cX3_isIn 7 = .ok (.if_icmp .gt 7, 3) := by decide +kernel
theorem dX3_isIn_10 : decode cX3_isIn 10 = .ok (.iconst 1, 1) := by decide +kernel
theorem dX3_isIn_11 : decode cX3_isIn 11 = .ok (.goto 4, 3) := by decide +kernel
theorem dX3_isIn_14 : decode cX3_isIn 14 = .ok (.iconst 0, 1) := by decide +kernel
theorem dX3_isIn_15 : decode cX3_isIn 15 = .ok (.ireturn, 1) := by decide +kernel
theorem dX3_isCell_0 : decode cX3_isCell 0 = .ok (.iload_n 0, 1) := by decide +kernel
theorem dX3_isCell_1 : decode cX3_isCell 1 = .ok (.iconst 0, 1) := by decide +kernel
theorem dX3_isCell_2 : decode cX3_isCell 2 = .ok (.bipush 99, 2) := by decide +kernel
theorem dX3_isCell_4 : decode cX3_isCell 4 = .ok (.invokestatic 32, 3) := by decide +kernel
theorem dX3_isCell_7 : decode cX3_isCell 7 = .ok (.ifCond .eq 17, 3) := by decide +kernel
theorem dX3_isCell_10 : decode cX3_isCell 10 = .ok (.iload_n 1, 1) := by decide +kernel
theorem dX3_isCell_11 : decode cX3_isCell 11 = .ok (.iconst 0, 1) := by decide +kernel
theorem dX3_isCell_12 : decode cX3_isCell 12 = .ok (.bipush 99, 2) := by decide +kernel
theorem dX3_isCell_14 : decode cX3_isCell 14 = .ok (.invokestatic 32, 3) := by decide +kernel
theorem dX3_isCell_17 : decode cX3_isCell 17 = .ok (.ifCond .eq 7, 3) := by decide +kernel
theorem dX3_isCell_20 : decode cX3_isCell 20 = .ok (.iconst 1, 1) := by decide +kernel
theorem dX3_isCell_21 : decode cX3_isCell 21 = .ok (.goto 4, 3) := by decide +kernel
theorem dX3_isCell_24 : decode cX3_isCell 24 = .ok (.iconst 0, 1) := by decide +kernel
theorem dX3_isCell_25 : decode cX3_isCell 25 = .ok (.ireturn, 1) := by decide +kernel
theorem dX3_size_0 : decode cX3_size 0 = .ok (.iload_n 0, 1) := by decide +kernel
theorem dX3_size_1 : decode cX3_size 1 = .ok (.ifCond .ge 8, 3) := by decide +kernel
theorem dX3_size_4 : decode cX3_size 4 = .ok (.iload_n 0, 1) := by decide +kernel
theorem dX3_size_5 : decode cX3_size 5 = .ok (.ineg, 1) := by decide +kernel
theorem dX3_size_6 : decode cX3_size 6 = .ok (.goto 4, 3) := by decide +kernel
theorem dX3_size_9 : decode cX3_size 9 = .ok (.iload_n 0, 1) := by decide +kernel
theorem dX3_size_10 : decode cX3_size 10 = .ok (.ireturn, 1) := by decide +kernel
theorem dX3_steps_0 : decode cX3_steps 0 = .ok (.iload_n 0, 1) := by decide +kernel
theorem dX3_steps_1 : decode cX3_steps 1 = .ok (.invokestatic 36, 3) := by decide +kernel
theorem dX3_steps_4 : decode cX3_steps 4 = .ok (.iload_n 1, 1) := by decide +kernel
theorem dX3_steps_5 : decode cX3_steps 5 = .ok (.invokestatic 36, 3) := by decide +kernel
theorem dX3_steps_8 : decode cX3_steps 8 = .ok (.if_icmp .le 10, 3) := by decide +kernel
theorem dX3_steps_11 : decode cX3_steps 11 = .ok (.iload_n 0, 1) := by decide +kernel
theorem dX3_steps_12 : decode cX3_steps 12 = .ok (.invokestatic 36, 3) := by decide +kernel
theorem dX3_steps_15 : decode cX3_steps 15 = .ok (.goto 7, 3) := by decide +kernel
theorem dX3_steps_18 : decode cX3_steps 18 = .ok (.iload_n 1, 1) := by decide +kernel
theorem dX3_steps_19 : decode cX3_steps 19 = .ok (.invokestatic 36, 3) := by decide +kernel
theorem dX3_steps_22 : decode cX3_steps 22 = .ok (.ireturn, 1) := by decide +kernel
theorem dX3_draws_0 : decode cX3_draws 0 = .ok (.iload_n 1, 1) := by decide +kernel
theorem dX3_draws_1 : decode cX3_draws 1 = .ok (.iload_n 2, 1) := by decide +kernel
theorem dX3_draws_2 : decode cX3_draws 2 = .ok (.invokestatic 40, 3) := by decide +kernel
theorem dX3_draws_5 : decode cX3_draws 5 = .ok (.istore_n 3, 1) := by decide +kernel
theorem dX3_draws_6 : decode cX3_draws 6 = .ok (.iconst 0, 1) := by decide +kernel
theorem dX3_draws_7 : decode cX3_draws 7 = .ok (.istore 4, 2) := by decide +kernel
theorem dX3_draws_9 : decode cX3_draws 9 = .ok (.iload 4, 2) := by decide +kernel
theorem dX3_draws_11 : decode cX3_draws 11 = .ok (.iload_n 3, 1) := by decide +kernel
theorem dX3_draws_12 : decode cX3_draws 12 = .ok (.if_icmp .gt 57, 3) := by decide +kernel
theorem dX3_draws_15 : decode cX3_draws 15 = .ok (.bipush 100, 2) := by decide +kernel
theorem dX3_draws_17 : decode cX3_draws 17 = .ok (.aload_n 0, 1) := by decide +kernel
theorem dX3_draws_18 : decode cX3_draws 18 = .ok (.getfield 44, 3) := by decide +kernel
theorem dX3_draws_21 : decode cX3_draws 21 = .ok (.iload_n 2, 1) := by decide +kernel
theorem dX3_draws_22 : decode cX3_draws 22 = .ok (.iload 4, 2) := by decide +kernel
theorem dX3_draws_24 : decode cX3_draws 24 = .ok (.imul, 1) := by decide +kernel
theorem dX3_draws_25 : decode cX3_draws 25 = .ok (.iload_n 3, 1) := by decide +kernel
theorem dX3_draws_26 : decode cX3_draws 26 = .ok (.idiv, 1) := by decide +kernel
theorem dX3_draws_27 : decode cX3_draws 27 = .ok (.iadd, 1) := by decide +kernel
theorem dX3_draws_28 : decode cX3_draws 28 = .ok (.imul, 1) := by decide +kernel
theorem dX3_draws_29 : decode cX3_draws 29 = .ok (.aload_n 0, 1) := by decide +kernel
theorem dX3_draws_30 : decode cX3_draws 30 = .ok (.getfield 47, 3) := by decide +kernel
theorem dX3_draws_33 : decode cX3_draws 33 = .ok (.iadd, 1) := by decide +kernel
theorem dX3_draws_34 : decode cX3_draws 34 = .ok (.iload_n 1, 1) := by decide +kernel
theorem dX3_draws_35 : decode cX3_draws 35 = .ok (.iload 4, 2) := by decide +kernel
theorem dX3_draws_37 : decode cX3_draws 37 = .ok (.imul, 1) := by decide +kernel
theorem dX3_draws_38 : decode cX3_draws 38 = .ok (.iload_n 3, 1) := by decide +kernel
theorem dX3_draws_39 : decode cX3_draws 39 = .ok (.idiv, 1) := by decide +kernel
theorem dX3_draws_40 : decode cX3_draws 40 = .ok (.iadd, 1) := by decide +kernel
theorem dX3_draws_41 : decode cX3_draws 41 = .ok (.istore 5, 2) := by decide +kernel
theorem dX3_draws_43 : decode cX3_draws 43 = .ok (.aload_n 0, 1) := by decide +kernel
theorem dX3_draws_44 : decode cX3_draws 44 = .ok (.getfield 25, 3) := by decide +kernel
theorem dX3_draws_47 : decode cX3_draws 47 = .ok (.iload 5, 2) := by decide +kernel
theorem dX3_draws_49 : decode cX3_draws 49 = .ok (.bipush 32, 2) := by decide +kernel
theorem dX3_draws_51 : decode cX3_draws 51 = .ok (.idiv, 1) := by decide +kernel
theorem dX3_draws_52 : decode cX3_draws 52 = .ok (.dup2, 1) := by decide +kernel
theorem dX3_draws_53 : decode cX3_draws 53 = .ok (.iaload, 1) := by decide +kernel
theorem dX3_draws_54 : decode cX3_draws 54 = .ok (.iconst 1, 1) := by decide +kernel
theorem dX3_draws_55 : decode cX3_draws 55 = .ok (.iload 5, 2) := by decide +kernel
theorem dX3_draws_57 : decode cX3_draws 57 = .ok (.bipush 32, 2) := by decide +kernel
theorem dX3_draws_59 : decode cX3_draws 59 = .ok (.irem, 1) := by decide +kernel
theorem dX3_draws_60 : decode cX3_draws 60 = .ok (.ishl, 1) := by decide +kernel
theorem dX3_draws_61 : decode cX3_draws 61 = .ok (.ior, 1) := by decide +kernel
theorem dX3_draws_62 : decode cX3_draws 62 = .ok (.iastore, 1) := by decide +kernel
theorem dX3_draws_63 : decode cX3_draws 63 = .ok (.iinc 4 1, 3) := by decide +kernel
theorem dX3_draws_66 : decode cX3_draws 66 = .ok (.goto (-57), 3) := by decide +kernel
theorem dX3_draws_69 : decode cX3_draws 69 = .ok (.return_, 1) := by decide +kernel
theorem dX3_queues_0 : decode cX3_queues 0 = .ok (.iload_n 1, 1) := by decide +kernel
theorem dX3_queues_1 : decode cX3_queues 1 = .ok (.iconst 3, 1) := by decide +kernel
theorem dX3_queues_2 : decode cX3_queues 2 = .ok (.if_icmp .ne 7, 3) := by decide +kernel
theorem dX3_queues_5 : decode cX3_queues 5 = .ok (.iconst 1, 1) := by decide +kernel
theorem dX3_queues_6 : decode cX3_queues 6 = .ok (.goto 4, 3) := by decide +kernel
theorem dX3_queues_9 : decode cX3_queues 9 = .ok (.iconst 0, 1) := by decide +kernel
theorem dX3_queues_10 : decode cX3_queues 10 = .ok (.istore 4, 2) := by decide +kernel
theorem dX3_queues_12 : decode cX3_queues 12 = .ok (.iload 4, 2) := by decide +kernel
theorem dX3_queues_14 : decode cX3_queues 14 = .ok (.ifCond .eq 12, 3) := by decide +kernel
theorem dX3_queues_17 : decode cX3_queues 17 = .ok (.iload_n 2, 1) := by decide +kernel
theorem dX3_queues_18 : decode cX3_queues 18 = .ok (.iconst 0, 1) := by decide +kernel
theorem dX3_queues_19 : decode cX3_queues 19 = .ok (.iconst 2, 1) := by decide +kernel
theorem dX3_queues_20 : decode cX3_queues 20 = .ok (.invokestatic 32, 3) := by decide +kernel
theorem dX3_queues_23 : decode cX3_queues 23 = .ok (.goto 34, 3) := by decide +kernel
theorem dX3_queues_26 : decode cX3_queues 26 = .ok (.iload_n 2, 1) := by decide +kernel
theorem dX3_queues_27 : decode cX3_queues 27 = .ok (.ifCond .ne 7, 3) := by decide +kernel
theorem dX3_queues_30 : decode cX3_queues 30 = .ok (.iload_n 3, 1) := by decide +kernel
theorem dX3_queues_31 : decode cX3_queues 31 = .ok (.ifCond .eq 25, 3) := by decide +kernel
theorem dX3_queues_34 : decode cX3_queues 34 = .ok (.aload_n 0, 1) := by decide +kernel
theorem dX3_queues_35 : decode cX3_queues 35 = .ok (.getfield 47, 3) := by decide +kernel
theorem dX3_queues_38 : decode cX3_queues 38 = .ok (.iload_n 2, 1) := by decide +kernel
theorem dX3_queues_39 : decode cX3_queues 39 = .ok (.iadd, 1) := by decide +kernel
theorem dX3_queues_40 : decode cX3_queues 40 = .ok (.aload_n 0, 1) := by decide +kernel
theorem dX3_queues_41 : decode cX3_queues 41 = .ok (.getfield 44, 3) := by decide +kernel
theorem dX3_queues_44 : decode cX3_queues 44 = .ok (.iload_n 3, 1) := by decide +kernel
theorem dX3_queues_45 : decode cX3_queues 45 = .ok (.iadd, 1) := by decide +kernel
theorem dX3_queues_46 : decode cX3_queues 46 = .ok (.invokestatic 50, 3) := by decide +kernel
theorem dX3_queues_49 : decode cX3_queues 49 = .ok (.ifCond .eq 7, 3) := by decide +kernel
theorem dX3_queues_52 : decode cX3_queues 52 = .ok (.iconst 1, 1) := by decide +kernel
theorem dX3_queues_53 : decode cX3_queues 53 = .ok (.goto 4, 3) := by decide +kernel
theorem dX3_queues_56 : decode cX3_queues 56 = .ok (.iconst 0, 1) := by decide +kernel
theorem dX3_queues_57 : decode cX3_queues 57 = .ok (.istore 5, 2) := by decide +kernel
theorem dX3_queues_59 : decode cX3_queues 59 = .ok (.iload 5, 2) := by decide +kernel
theorem dX3_queues_61 : decode cX3_queues 61 = .ok (.ifCond .ne 15, 3) := by decide +kernel
theorem dX3_queues_64 : decode cX3_queues 64 = .ok (.aload_n 0, 1) := by decide +kernel
theorem dX3_queues_65 : decode cX3_queues 65 = .ok (.dup, 1) := by decide +kernel
theorem dX3_queues_66 : decode cX3_queues 66 = .ok (.getfield 54, 3) := by decide +kernel
theorem dX3_queues_69 : decode cX3_queues 69 = .ok (.iconst 1, 1) := by decide +kernel
theorem dX3_queues_70 : decode cX3_queues 70 = .ok (.iadd, 1) := by decide +kernel
theorem dX3_queues_71 : decode cX3_queues 71 = .ok (.putfield 54, 3) := by decide +kernel
theorem dX3_queues_74 : decode cX3_queues 74 = .ok (.iconst 0, 1) := by decide +kernel
theorem dX3_queues_75 : decode cX3_queues 75 = .ok (.ireturn, 1) := by decide +kernel
theorem dX3_queues_76 : decode cX3_queues 76 = .ok (.aload_n 0, 1) := by decide +kernel
theorem dX3_queues_77 : decode cX3_queues 77 = .ok (.getfield 7, 3) := by decide +kernel
theorem dX3_queues_80 : decode cX3_queues 80 = .ok (.aload_n 0, 1) := by decide +kernel
theorem dX3_queues_81 : decode cX3_queues 81 = .ok (.getfield 57, 3) := by decide +kernel
theorem dX3_queues_84 : decode cX3_queues 84 = .ok (.iload_n 1, 1) := by decide +kernel
theorem dX3_queues_85 : decode cX3_queues 85 = .ok (.iastore, 1) := by decide +kernel
theorem dX3_queues_86 : decode cX3_queues 86 = .ok (.aload_n 0, 1) := by decide +kernel
theorem dX3_queues_87 : decode cX3_queues 87 = .ok (.getfield 13, 3) := by decide +kernel
theorem dX3_queues_90 : decode cX3_queues 90 = .ok (.aload_n 0, 1) := by decide +kernel
theorem dX3_queues_91 : decode cX3_queues 91 = .ok (.getfield 57, 3) := by decide +kernel
theorem dX3_queues_94 : decode cX3_queues 94 = .ok (.iload_n 2, 1) := by decide +kernel
theorem dX3_queues_95 : decode cX3_queues 95 = .ok (.iastore, 1) := by decide +kernel
theorem dX3_queues_96 : decode cX3_queues 96 = .ok (.aload_n 0, 1) := by decide +kernel
theorem dX3_queues_97 : decode cX3_queues 97 = .ok (.getfield 16, 3) := by decide +kernel
theorem dX3_queues_100 : decode cX3_queues 100 = .ok (.aload_n 0, 1) := by decide +kernel
theorem dX3_queues_101 : decode cX3_queues 101 = .ok (.getfield 57, 3) := by decide +kernel
theorem dX3_queues_104 : decode cX3_queues 104 = .ok (.iload_n 3, 1) := by decide +kernel
theorem dX3_queues_105 : decode cX3_queues 105 = .ok (.iastore, 1) := by decide +kernel
theorem dX3_queues_106 : decode cX3_queues 106 = .ok (.aload_n 0, 1) := by decide +kernel
theorem dX3_queues_107 : decode cX3_queues 107 = .ok (.dup, 1) := by decide +kernel
theorem dX3_queues_108 : decode cX3_queues 108 = .ok (.getfield 57, 3) := by decide +kernel
theorem dX3_queues_111 : decode cX3_queues 111 = .ok (.iconst 1, 1) := by decide +kernel
theorem dX3_queues_112 : decode cX3_queues 112 = .ok (.iadd, 1) := by decide +kernel
theorem dX3_queues_113 : decode cX3_queues 113 = .ok (.putfield 57, 3) := by decide +kernel
theorem dX3_queues_116 : decode cX3_queues 116 = .ok (.iload_n 1, 1) := by decide +kernel
theorem dX3_queues_117 : decode cX3_queues 117 = .ok (.iconst 2, 1) := by decide +kernel
theorem dX3_queues_118 : decode cX3_queues 118 = .ok (.if_icmp .ne 9, 3) := by decide +kernel
theorem dX3_queues_121 : decode cX3_queues 121 = .ok (.aload_n 0, 1) := by decide +kernel
theorem dX3_queues_122 : decode cX3_queues 122 = .ok (.iload_n 2, 1) := by decide +kernel
theorem dX3_queues_123 : decode cX3_queues 123 = .ok (.iload_n 3, 1) := by decide +kernel
theorem dX3_queues_124 : decode cX3_queues 124 = .ok (.invokevirtual 60, 3) := by decide +kernel
theorem dX3_queues_127 : decode cX3_queues 127 = .ok (.aload_n 0, 1) := by decide +kernel
theorem dX3_queues_128 : decode cX3_queues 128 = .ok (.dup, 1) := by decide +kernel
theorem dX3_queues_129 : decode cX3_queues 129 = .ok (.getfield 47, 3) := by decide +kernel
theorem dX3_queues_132 : decode cX3_queues 132 = .ok (.iload 4, 2) := by decide +kernel
theorem dX3_queues_134 : decode cX3_queues 134 = .ok (.ifCond .eq 7, 3) := by decide +kernel
theorem dX3_queues_137 : decode cX3_queues 137 = .ok (.iconst 0, 1) := by decide +kernel
theorem dX3_queues_138 : decode cX3_queues 138 = .ok (.goto 4, 3) := by decide +kernel
theorem dX3_queues_141 : decode cX3_queues 141 = .ok (.iload_n 2, 1) := by decide +kernel
theorem dX3_queues_142 : decode cX3_queues 142 = .ok (.iadd, 1) := by decide +kernel
theorem dX3_queues_143 : decode cX3_queues 143 = .ok (.putfield 47, 3) := by decide +kernel
theorem dX3_queues_146 : decode cX3_queues 146 = .ok (.aload_n 0, 1) := by decide +kernel
theorem dX3_queues_147 : decode cX3_queues 147 = .ok (.dup, 1) := by decide +kernel
theorem dX3_queues_148 : decode cX3_queues 148 = .ok (.getfield 44, 3) := by decide +kernel
theorem dX3_queues_151 : decode cX3_queues 151 = .ok (.iload 4, 2) := by decide +kernel
theorem dX3_queues_153 : decode cX3_queues 153 = .ok (.ifCond .eq 7, 3) := by decide +kernel
theorem dX3_queues_156 : decode cX3_queues 156 = .ok (.iconst 0, 1) := by decide +kernel
theorem dX3_queues_157 : decode cX3_queues 157 = .ok (.goto 4, 3) := by decide +kernel
theorem dX3_queues_160 : decode cX3_queues 160 = .ok (.iload_n 3, 1) := by decide +kernel
theorem dX3_queues_161 : decode cX3_queues 161 = .ok (.iadd, 1) := by decide +kernel
theorem dX3_queues_162 : decode cX3_queues 162 = .ok (.putfield 44, 3) := by decide +kernel
theorem dX3_queues_165 : decode cX3_queues 165 = .ok (.iconst 1, 1) := by decide +kernel
theorem dX3_queues_166 : decode cX3_queues 166 = .ok (.ireturn, 1) := by decide +kernel
theorem dX3_repeats_0 : decode cX3_repeats 0 = .ok (.iload_n 1, 1) := by decide +kernel
theorem dX3_repeats_1 : decode cX3_repeats 1 = .ok (.iconst 1, 1) := by decide +kernel
theorem dX3_repeats_2 : decode cX3_repeats 2 = .ok (.bipush 9, 2) := by decide +kernel
theorem dX3_repeats_4 : decode cX3_repeats 4 = .ok (.invokestatic 32, 3) := by decide +kernel
theorem dX3_repeats_7 : decode cX3_repeats 7 = .ok (.ifCond .eq 10, 3) := by decide +kernel
theorem dX3_repeats_10 : decode cX3_repeats 10 = .ok (.aload_n 0, 1) := by decide +kernel
theorem dX3_repeats_11 : decode cX3_repeats 11 = .ok (.getfield 64, 3) := by decide +kernel
theorem dX3_repeats_14 : decode cX3_repeats 14 = .ok (.ifCond .ne 14, 3) := by decide +kernel
theorem dX3_repeats_17 : decode cX3_repeats 17 = .ok (.aload_n 0, 1) := by decide +kernel
theorem dX3_repeats_18 : decode cX3_repeats 18 = .ok (.dup, 1) := by decide +kernel
theorem dX3_repeats_19 : decode cX3_repeats 19 = .ok (.getfield 54, 3) := by decide +kernel
theorem dX3_repeats_22 : decode cX3_repeats 22 = .ok (.iconst 1, 1) := by decide +kernel
theorem dX3_repeats_23 : decode cX3_repeats 23 = .ok (.iadd, 1) := by decide +kernel
theorem dX3_repeats_24 : decode cX3_repeats 24 = .ok (.putfield 54, 3) := by decide +kernel
theorem dX3_repeats_27 : decode cX3_repeats 27 = .ok (.return_, 1) := by decide +kernel
theorem dX3_repeats_28 : decode cX3_repeats 28 = .ok (.iconst 0, 1) := by decide +kernel
theorem dX3_repeats_29 : decode cX3_repeats 29 = .ok (.istore_n 2, 1) := by decide +kernel
theorem dX3_repeats_30 : decode cX3_repeats 30 = .ok (.iload_n 2, 1) := by decide +kernel
theorem dX3_repeats_31 : decode cX3_repeats 31 = .ok (.iload_n 1, 1) := by decide +kernel
theorem dX3_repeats_32 : decode cX3_repeats 32 = .ok (.if_icmp .ge 26, 3) := by decide +kernel
theorem dX3_repeats_35 : decode cX3_repeats 35 = .ok (.aload_n 0, 1) := by decide +kernel
theorem dX3_repeats_36 : decode cX3_repeats 36 = .ok (.aload_n 0, 1) := by decide +kernel
theorem dX3_repeats_37 : decode cX3_repeats 37 = .ok (.getfield 64, 3) := by decide +kernel
theorem dX3_repeats_40 : decode cX3_repeats 40 = .ok (.aload_n 0, 1) := by decide +kernel
theorem dX3_repeats_41 : decode cX3_repeats 41 = .ok (.getfield 67, 3) := by decide +kernel
theorem dX3_repeats_44 : decode cX3_repeats 44 = .ok (.aload_n 0, 1) := by decide +kernel
theorem dX3_repeats_45 : decode cX3_repeats 45 = .ok (.getfield 70, 3) := by decide +kernel
theorem dX3_repeats_48 : decode cX3_repeats 48 = .ok (.invokevirtual 73, 3) := by decide +kernel
theorem dX3_repeats_51 : decode cX3_repeats 51 = .ok (.pop, 1) := by decide +kernel
theorem dX3_repeats_52 : decode cX3_repeats 52 = .ok (.iinc 2 1, 3) := by decide +kernel
theorem dX3_repeats_55 : decode cX3_repeats 55 = .ok (.goto (-25), 3) := by decide +kernel
theorem dX3_repeats_58 : decode cX3_repeats 58 = .ok (.return_, 1) := by decide +kernel
theorem dX3_signed_0 : decode cX3_signed 0 = .ok (.iload_n 0, 1) := by decide +kernel
theorem dX3_signed_1 : decode cX3_signed 1 = .ok (.bipush 127, 2) := by decide +kernel
theorem dX3_signed_3 : decode cX3_signed 3 = .ok (.if_icmp .le 11, 3) := by decide +kernel
theorem dX3_signed_6 : decode cX3_signed 6 = .ok (.iload_n 0, 1) := by decide +kernel
theorem dX3_signed_7 : decode cX3_signed 7 = .ok (.sipush 256, 3) := by decide +kernel
theorem dX3_signed_10 : decode cX3_signed 10 = .ok (.isub, 1) := by decide +kernel
theorem dX3_signed_11 : decode cX3_signed 11 = .ok (.goto 4, 3) := by decide +kernel
theorem dX3_signed_14 : decode cX3_signed 14 = .ok (.iload_n 0, 1) := by decide +kernel
theorem dX3_signed_15 : decode cX3_signed 15 = .ok (.ireturn, 1) := by decide +kernel
theorem dX3_isWhole_0 : decode cX3_isWhole 0 = .ok (.aload_n 0, 1) := by decide +kernel
theorem dX3_isWhole_1 : decode cX3_isWhole 1 = .ok (.getfield 76, 3) := by decide +kernel
theorem dX3_isWhole_4 : decode cX3_isWhole 4 = .ok (.iconst 4, 1) := by decide +kernel
theorem dX3_isWhole_5 : decode cX3_isWhole 5 = .ok (.if_icmp .ne 11, 3) := by decide +kernel
theorem dX3_isWhole_8 : decode cX3_isWhole 8 = .ok (.aload_n 0, 1) := by decide +kernel
theorem dX3_isWhole_9 : decode cX3_isWhole 9 = .ok (.iload_n 1, 1) := by decide +kernel
theorem dX3_isWhole_10 : decode cX3_isWhole 10 = .ok (.invokevirtual 79, 3) := by decide +kernel
theorem dX3_isWhole_13 : decode cX3_isWhole 13 = .ok (.goto 71, 3) := by decide +kernel
theorem dX3_isWhole_16 : decode cX3_isWhole 16 = .ok (.aload_n 0, 1) := by decide +kernel
theorem dX3_isWhole_17 : decode cX3_isWhole 17 = .ok (.getfield 76, 3) := by decide +kernel
theorem dX3_isWhole_20 : decode cX3_isWhole 20 = .ok (.iconst 3, 1) := by decide +kernel
theorem dX3_isWhole_21 : decode cX3_isWhole 21 = .ok (.if_icmp .ne 14, 3) := by decide +kernel
theorem dX3_isWhole_24 : decode cX3_isWhole 24 = .ok (.aload_n 0, 1) := by decide +kernel
theorem dX3_isWhole_25 : decode cX3_isWhole 25 = .ok (.iconst 3, 1) := by decide +kernel
theorem dX3_isWhole_26 : decode cX3_isWhole 26 = .ok (.iload_n 1, 1) := by decide +kernel
theorem dX3_isWhole_27 : decode cX3_isWhole 27 = .ok (.iconst 0, 1) := by decide +kernel
theorem dX3_isWhole_28 : decode cX3_isWhole 28 = .ok (.invokevirtual 73, 3) := by decide +kernel
theorem dX3_isWhole_31 : decode cX3_isWhole 31 = .ok (.pop, 1) := by decide +kernel
theorem dX3_isWhole_32 : decode cX3_isWhole 32 = .ok (.goto 52, 3) := by decide +kernel
theorem dX3_isWhole_35 : decode cX3_isWhole 35 = .ok (.aload_n 0, 1) := by decide +kernel
theorem dX3_isWhole_36 : decode cX3_isWhole 36 = .ok (.aload_n 0, 1) := by decide +kernel
theorem dX3_isWhole_37 : decode cX3_isWhole 37 = .ok (.getfield 76, 3) := by decide +kernel
theorem dX3_isWhole_40 : decode cX3_isWhole 40 = .ok (.aload_n 0, 1) := by decide +kernel
theorem dX3_isWhole_41 : decode cX3_isWhole 41 = .ok (.getfield 83, 3) := by decide +kernel
theorem dX3_isWhole_44 : decode cX3_isWhole 44 = .ok (.invokestatic 86, 3) := by decide +kernel
theorem dX3_isWhole_47 : decode cX3_isWhole 47 = .ok (.iload_n 1, 1) := by decide +kernel
theorem dX3_isWhole_48 : decode cX3_isWhole 48 = .ok (.invokestatic 86, 3) := by decide +kernel
theorem dX3_isWhole_51 : decode cX3_isWhole 51 = .ok (.invokevirtual 73, 3) := by decide +kernel
theorem dX3_isWhole_54 : decode cX3_isWhole 54 = .ok (.ifCond .eq 30, 3) := by decide +kernel
theorem dX3_isWhole_57 : decode cX3_isWhole 57 = .ok (.aload_n 0, 1) := by decide +kernel
theorem dX3_isWhole_58 : decode cX3_isWhole 58 = .ok (.aload_n 0, 1) := by decide +kernel
theorem dX3_isWhole_59 : decode cX3_isWhole 59 = .ok (.getfield 76, 3) := by decide +kernel
theorem dX3_isWhole_62 : decode cX3_isWhole 62 = .ok (.putfield 64, 3) := by decide +kernel
theorem dX3_isWhole_65 : decode cX3_isWhole 65 = .ok (.aload_n 0, 1) := by decide +kernel
theorem dX3_isWhole_66 : decode cX3_isWhole 66 = .ok (.aload_n 0, 1) := by decide +kernel
theorem dX3_isWhole_67 : decode cX3_isWhole 67 = .ok (.getfield 83, 3) := by decide +kernel
theorem dX3_isWhole_70 : decode cX3_isWhole 70 = .ok (.invokestatic 86, 3) := by decide +kernel
theorem dX3_isWhole_73 : decode cX3_isWhole 73 = .ok (.putfield 67, 3) := by decide +kernel
theorem dX3_isWhole_76 : decode cX3_isWhole 76 = .ok (.aload_n 0, 1) := by decide +kernel
theorem dX3_isWhole_77 : decode cX3_isWhole 77 = .ok (.iload_n 1, 1) := by decide +kernel
theorem dX3_isWhole_78 : decode cX3_isWhole 78 = .ok (.invokestatic 86, 3) := by decide +kernel
theorem dX3_isWhole_81 : decode cX3_isWhole 81 = .ok (.putfield 70, 3) := by decide +kernel
theorem dX3_isWhole_84 : decode cX3_isWhole 84 = .ok (.aload_n 0, 1) := by decide +kernel
theorem dX3_isWhole_85 : decode cX3_isWhole 85 = .ok (.iconst 0, 1) := by decide +kernel
theorem dX3_isWhole_86 : decode cX3_isWhole 86 = .ok (.putfield 89, 3) := by decide +kernel
theorem dX3_isWhole_89 : decode cX3_isWhole 89 = .ok (.return_, 1) := by decide +kernel
theorem dX3_feed_0 : decode cX3_feed 0 = .ok (.aload_n 0, 1) := by decide +kernel
theorem dX3_feed_1 : decode cX3_feed 1 = .ok (.iload_n 1, 1) := by decide +kernel
theorem dX3_feed_2 : decode cX3_feed 2 = .ok (.iconst 0, 1) := by decide +kernel
theorem dX3_feed_3 : decode cX3_feed 3 = .ok (.sipush 255, 3) := by decide +kernel
theorem dX3_feed_6 : decode cX3_feed 6 = .ok (.invokestatic 32, 3) := by decide +kernel
theorem dX3_feed_9 : decode cX3_feed 9 = .ok (.ifCond .eq 7, 3) := by decide +kernel
theorem dX3_feed_12 : decode cX3_feed 12 = .ok (.iconst 0, 1) := by decide +kernel
theorem dX3_feed_13 : decode cX3_feed 13 = .ok (.goto 4, 3) := by decide +kernel
theorem dX3_feed_16 : decode cX3_feed 16 = .ok (.iconst 1, 1) := by decide +kernel
theorem dX3_feed_17 : decode cX3_feed 17 = .ok (.invokevirtual 92, 3) := by decide +kernel
theorem dX3_feed_20 : decode cX3_feed 20 = .ok (.ifCond .eq 12, 3) := by decide +kernel
theorem dX3_feed_23 : decode cX3_feed 23 = .ok (.aload_n 0, 1) := by decide +kernel
theorem dX3_feed_24 : decode cX3_feed 24 = .ok (.getfield 57, 3) := by decide +kernel
theorem dX3_feed_27 : decode cX3_feed 27 = .ok (.bipush 8, 2) := by decide +kernel
theorem dX3_feed_29 : decode cX3_feed 29 = .ok (.if_icmp .lt 5, 3) := by decide +kernel
theorem dX3_feed_32 : decode cX3_feed 32 = .ok (.iconst 0, 1) := by decide +kernel
theorem dX3_feed_33 : decode cX3_feed 33 = .ok (.ireturn, 1) := by decide +kernel
theorem dX3_feed_34 : decode cX3_feed 34 = .ok (.aload_n 0, 1) := by decide +kernel
theorem dX3_feed_35 : decode cX3_feed 35 = .ok (.getfield 89, 3) := by decide +kernel
theorem dX3_feed_38 : decode cX3_feed 38 = .ok (.ifCond .ne 53, 3) := by decide +kernel
theorem dX3_feed_41 : decode cX3_feed 41 = .ok (.iload_n 1, 1) := by decide +kernel
theorem dX3_feed_42 : decode cX3_feed 42 = .ok (.iconst 1, 1) := by decide +kernel
theorem dX3_feed_43 : decode cX3_feed 43 = .ok (.iconst 4, 1) := by decide +kernel
theorem dX3_feed_44 : decode cX3_feed 44 = .ok (.invokestatic 32, 3) := by decide +kernel
theorem dX3_feed_47 : decode cX3_feed 47 = .ok (.istore_n 2, 1) := by decide +kernel
theorem dX3_feed_48 : decode cX3_feed 48 = .ok (.aload_n 0, 1) := by decide +kernel
theorem dX3_feed_49 : decode cX3_feed 49 = .ok (.iload_n 1, 1) := by decide +kernel
theorem dX3_feed_50 : decode cX3_feed 50 = .ok (.putfield 76, 3) := by decide +kernel
theorem dX3_feed_53 : decode cX3_feed 53 = .ok (.aload_n 0, 1) := by decide +kernel
theorem dX3_feed_54 : decode cX3_feed 54 = .ok (.iload_n 2, 1) := by decide +kernel
theorem dX3_feed_55 : decode cX3_feed 55 = .ok (.ifCond .eq 7, 3) := by decide +kernel
theorem dX3_feed_58 : decode cX3_feed 58 = .ok (.iconst 1, 1) := by decide +kernel
theorem dX3_feed_59 : decode cX3_feed 59 = .ok (.goto 4, 3) := by decide +kernel
theorem dX3_feed_62 : decode cX3_feed 62 = .ok (.iconst 0, 1) := by decide +kernel
theorem dX3_feed_63 : decode cX3_feed 63 = .ok (.putfield 89, 3) := by decide +kernel
theorem dX3_feed_66 : decode cX3_feed 66 = .ok (.aload_n 0, 1) := by decide +kernel
theorem dX3_feed_67 : decode cX3_feed 67 = .ok (.dup, 1) := by decide +kernel
theorem dX3_feed_68 : decode cX3_feed 68 = .ok (.getfield 54, 3) := by decide +kernel
theorem dX3_feed_71 : decode cX3_feed 71 = .ok (.iload_n 2, 1) := by decide +kernel
theorem dX3_feed_72 : decode cX3_feed 72 = .ok (.ifCond .ne 7, 3) := by decide +kernel
theorem dX3_feed_75 : decode cX3_feed 75 = .ok (.iload_n 1, 1) := by decide +kernel
theorem dX3_feed_76 : decode cX3_feed 76 = .ok (.ifCond .ne 7, 3) := by decide +kernel
theorem dX3_feed_79 : decode cX3_feed 79 = .ok (.iconst 0, 1) := by decide +kernel
theorem dX3_feed_80 : decode cX3_feed 80 = .ok (.goto 4, 3) := by decide +kernel
theorem dX3_feed_83 : decode cX3_feed 83 = .ok (.iconst 1, 1) := by decide +kernel
theorem dX3_feed_84 : decode cX3_feed 84 = .ok (.iadd, 1) := by decide +kernel
theorem dX3_feed_85 : decode cX3_feed 85 = .ok (.putfield 54, 3) := by decide +kernel
theorem dX3_feed_88 : decode cX3_feed 88 = .ok (.goto 37, 3) := by decide +kernel
theorem dX3_feed_91 : decode cX3_feed 91 = .ok (.aload_n 0, 1) := by decide +kernel
theorem dX3_feed_92 : decode cX3_feed 92 = .ok (.getfield 89, 3) := by decide +kernel
theorem dX3_feed_95 : decode cX3_feed 95 = .ok (.iconst 1, 1) := by decide +kernel
theorem dX3_feed_96 : decode cX3_feed 96 = .ok (.if_icmp .ne 24, 3) := by decide +kernel
theorem dX3_feed_99 : decode cX3_feed 99 = .ok (.aload_n 0, 1) := by decide +kernel
theorem dX3_feed_100 : decode cX3_feed 100 = .ok (.getfield 76, 3) := by decide +kernel
theorem dX3_feed_103 : decode cX3_feed 103 = .ok (.iconst 2, 1) := by decide +kernel
theorem dX3_feed_104 : decode cX3_feed 104 = .ok (.if_icmp .gt 16, 3) := by decide +kernel
theorem dX3_feed_107 : decode cX3_feed 107 = .ok (.aload_n 0, 1) := by decide +kernel
theorem dX3_feed_108 : decode cX3_feed 108 = .ok (.iload_n 1, 1) := by decide +kernel
theorem dX3_feed_109 : decode cX3_feed 109 = .ok (.putfield 83, 3) := by decide +kernel
theorem dX3_feed_112 : decode cX3_feed 112 = .ok (.aload_n 0, 1) := by decide +kernel
theorem dX3_feed_113 : decode cX3_feed 113 = .ok (.iconst 2, 1) := by decide +kernel
theorem dX3_feed_114 : decode cX3_feed 114 = .ok (.putfield 89, 3) := by decide +kernel
theorem dX3_feed_117 : decode cX3_feed 117 = .ok (.goto 8, 3) := by decide +kernel
theorem dX3_feed_120 : decode cX3_feed 120 = .ok (.aload_n 0, 1) := by decide +kernel
theorem dX3_feed_121 : decode cX3_feed 121 = .ok (.iload_n 1, 1) := by decide +kernel
theorem dX3_feed_122 : decode cX3_feed 122 = .ok (.invokevirtual 96, 3) := by decide +kernel
theorem dX3_feed_125 : decode cX3_feed 125 = .ok (.iconst 1, 1) := by decide +kernel
theorem dX3_feed_126 : decode cX3_feed 126 = .ok (.ireturn, 1) := by decide +kernel
theorem dX3_errors_0 : decode cX3_errors 0 = .ok (.aload_n 0, 1) := by decide +kernel
theorem dX3_errors_1 : decode cX3_errors 1 = .ok (.iconst 0, 1) := by decide +kernel
theorem dX3_errors_2 : decode cX3_errors 2 = .ok (.putfield 28, 3) := by decide +kernel
theorem dX3_errors_5 : decode cX3_errors 5 = .ok (.aload_n 0, 1) := by decide +kernel
theorem dX3_errors_6 : decode cX3_errors 6 = .ok (.getfield 54, 3) := by decide +kernel
theorem dX3_errors_9 : decode cX3_errors 9 = .ok (.ireturn, 1) := by decide +kernel
theorem dX3_queued_0 : decode cX3_queued 0 = .ok (.aload_n 0, 1) := by decide +kernel
theorem dX3_queued_1 : decode cX3_queued 1 = .ok (.iconst 0, 1) := by decide +kernel
theorem dX3_queued_2 : decode cX3_queued 2 = .ok (.putfield 28, 3) := by decide +kernel
theorem dX3_queued_5 : decode cX3_queued 5 = .ok (.aload_n 0, 1) := by decide +kernel
theorem dX3_queued_6 : decode cX3_queued 6 = .ok (.getfield 57, 3) := by decide +kernel
theorem dX3_queued_9 : decode cX3_queued 9 = .ok (.ireturn, 1) := by decide +kernel
theorem dX3_pending_0 : decode cX3_pending 0 = .ok (.aload_n 0, 1) := by decide +kernel
theorem dX3_pending_1 : decode cX3_pending 1 = .ok (.iconst 0, 1) := by decide +kernel
theorem dX3_pending_2 : decode cX3_pending 2 = .ok (.putfield 28, 3) := by decide +kernel
theorem dX3_pending_5 : decode cX3_pending 5 = .ok (.aload_n 0, 1) := by decide +kernel
theorem dX3_pending_6 : decode cX3_pending 6 = .ok (.getfield 89, 3) := by decide +kernel
theorem dX3_pending_9 : decode cX3_pending 9 = .ok (.ireturn, 1) := by decide +kernel
theorem dX3_marksCell_0 : decode cX3_marksCell 0 = .ok (.bipush 100, 2) := by decide +kernel
theorem dX3_marksCell_2 : decode cX3_marksCell 2 = .ok (.aload_n 0, 1) := by decide +kernel
theorem dX3_marksCell_3 : decode cX3_marksCell 3 = .ok (.getfield 99, 3) := by decide +kernel
theorem dX3_marksCell_6 : decode cX3_marksCell 6 = .ok (.imul, 1) := by decide +kernel
theorem dX3_marksCell_7 : decode cX3_marksCell 7 = .ok (.aload_n 0, 1) := by decide +kernel
theorem dX3_marksCell_8 : decode cX3_marksCell 8 = .ok (.getfield 102, 3) := by decide +kernel
theorem dX3_marksCell_11 : decode cX3_marksCell 11 = .ok (.iadd, 1) := by decide +kernel
theorem dX3_marksCell_12 : decode cX3_marksCell 12 = .ok (.istore_n 1, 1) := by decide +kernel
theorem dX3_marksCell_13 : decode cX3_marksCell 13 = .ok (.aload_n 0, 1) := by decide +kernel
theorem dX3_marksCell_14 : decode cX3_marksCell 14 = .ok (.getfield 22, 3) := by decide +kernel
theorem dX3_marksCell_17 : decode cX3_marksCell 17 = .ok (.iload_n 1, 1) := by decide +kernel
theorem dX3_marksCell_18 : decode cX3_marksCell 18 = .ok (.bipush 32, 2) := by decide +kernel
theorem dX3_marksCell_20 : decode cX3_marksCell 20 = .ok (.idiv, 1) := by decide +kernel
theorem dX3_marksCell_21 : decode cX3_marksCell 21 = .ok (.dup2, 1) := by decide +kernel
theorem dX3_marksCell_22 : decode cX3_marksCell 22 = .ok (.iaload, 1) := by decide +kernel
theorem dX3_marksCell_23 : decode cX3_marksCell 23 = .ok (.iconst 1, 1) := by decide +kernel
theorem dX3_marksCell_24 : decode cX3_marksCell 24 = .ok (.iload_n 1, 1) := by decide +kernel
theorem dX3_marksCell_25 : decode cX3_marksCell 25 = .ok (.bipush 32, 2) := by decide +kernel
theorem dX3_marksCell_27 : decode cX3_marksCell 27 = .ok (.irem, 1) := by decide +kernel
theorem dX3_marksCell_28 : decode cX3_marksCell 28 = .ok (.ishl, 1) := by decide +kernel
theorem dX3_marksCell_29 : decode cX3_marksCell 29 = .ok (.ior, 1) := by decide +kernel
theorem dX3_marksCell_30 : decode cX3_marksCell 30 = .ok (.iastore, 1) := by decide +kernel
theorem dX3_marksCell_31 : decode cX3_marksCell 31 = .ok (.return_, 1) := by decide +kernel
theorem dX3_isDone_0 : decode cX3_isDone 0 = .ok (.aload_n 0, 1) := by decide +kernel
theorem dX3_isDone_1 : decode cX3_isDone 1 = .ok (.dup, 1) := by decide +kernel
theorem dX3_isDone_2 : decode cX3_isDone 2 = .ok (.getfield 57, 3) := by decide +kernel
theorem dX3_isDone_5 : decode cX3_isDone 5 = .ok (.iconst 1, 1) := by decide +kernel
theorem dX3_isDone_6 : decode cX3_isDone 6 = .ok (.isub, 1) := by decide +kernel
theorem dX3_isDone_7 : decode cX3_isDone 7 = .ok (.putfield 57, 3) := by decide +kernel
theorem dX3_isDone_10 : decode cX3_isDone 10 = .ok (.iconst 0, 1) := by decide +kernel
theorem dX3_isDone_11 : decode cX3_isDone 11 = .ok (.istore_n 1, 1) := by decide +kernel
theorem dX3_isDone_12 : decode cX3_isDone 12 = .ok (.iload_n 1, 1) := by decide +kernel
theorem dX3_isDone_13 : decode cX3_isDone 13 = .ok (.aload_n 0, 1) := by decide +kernel
theorem dX3_isDone_14 : decode cX3_isDone 14 = .ok (.getfield 57, 3) := by decide +kernel
theorem dX3_isDone_17 : decode cX3_isDone 17 = .ok (.if_icmp .ge 51, 3) := by decide +kernel
theorem dX3_isDone_20 : decode cX3_isDone 20 = .ok (.aload_n 0, 1) := by decide +kernel
theorem dX3_isDone_21 : decode cX3_isDone 21 = .ok (.getfield 7, 3) := by decide +kernel
theorem dX3_isDone_24 : decode cX3_isDone 24 = .ok (.iload_n 1, 1) := by decide +kernel
theorem dX3_isDone_25 : decode cX3_isDone 25 = .ok (.aload_n 0, 1) := by decide +kernel
theorem dX3_isDone_26 : decode cX3_isDone 26 = .ok (.getfield 7, 3) := by decide +kernel
theorem dX3_isDone_29 : decode cX3_isDone 29 = .ok (.iload_n 1, 1) := by decide +kernel
theorem dX3_isDone_30 : decode cX3_isDone 30 = .ok (.iconst 1, 1) := by decide +kernel
theorem dX3_isDone_31 : decode cX3_isDone 31 = .ok (.iadd, 1) := by decide +kernel
theorem dX3_isDone_32 : decode cX3_isDone 32 = .ok (.iaload, 1) := by decide +kernel
theorem dX3_isDone_33 : decode cX3_isDone 33 = .ok (.iastore, 1) := by decide +kernel
theorem dX3_isDone_34 : decode cX3_isDone 34 = .ok (.aload_n 0, 1) := by decide +kernel
theorem dX3_isDone_35 : decode cX3_isDone 35 = .ok (.getfield 13, 3) := by decide +kernel
theorem dX3_isDone_38 : decode cX3_isDone 38 = .ok (.iload_n 1, 1) := by decide +kernel
theorem dX3_isDone_39 : decode cX3_isDone 39 = .ok (.aload_n 0, 1) := by decide +kernel
theorem dX3_isDone_40 : decode cX3_isDone 40 = .ok (.getfield 13, 3) := by decide +kernel
theorem dX3_isDone_43 : decode cX3_isDone 43 = .ok (.iload_n 1, 1) := by decide +kernel
theorem dX3_isDone_44 : decode cX3_isDone 44 = .ok (.iconst 1, 1) := by decide +kernel
theorem dX3_isDone_45 : decode cX3_isDone 45 = .ok (.iadd, 1) := by decide +kernel
theorem dX3_isDone_46 : decode cX3_isDone 46 = .ok (.iaload, 1) := by decide +kernel
theorem dX3_isDone_47 : decode cX3_isDone 47 = .ok (.iastore, 1) := by decide +kernel
theorem dX3_isDone_48 : decode cX3_isDone 48 = .ok (.aload_n 0, 1) := by decide +kernel
theorem dX3_isDone_49 : decode cX3_isDone 49 = .ok (.getfield 16, 3) := by decide +kernel
theorem dX3_isDone_52 : decode cX3_isDone 52 = .ok (.iload_n 1, 1) := by decide +kernel
theorem dX3_isDone_53 : decode cX3_isDone 53 = .ok (.aload_n 0, 1) := by decide +kernel
theorem dX3_isDone_54 : decode cX3_isDone 54 = .ok (.getfield 16, 3) := by decide +kernel
theorem dX3_isDone_57 : decode cX3_isDone 57 = .ok (.iload_n 1, 1) := by decide +kernel
theorem dX3_isDone_58 : decode cX3_isDone 58 = .ok (.iconst 1, 1) := by decide +kernel
theorem dX3_isDone_59 : decode cX3_isDone 59 = .ok (.iadd, 1) := by decide +kernel
theorem dX3_isDone_60 : decode cX3_isDone 60 = .ok (.iaload, 1) := by decide +kernel
theorem dX3_isDone_61 : decode cX3_isDone 61 = .ok (.iastore, 1) := by decide +kernel
theorem dX3_isDone_62 : decode cX3_isDone 62 = .ok (.iinc 1 1, 3) := by decide +kernel
theorem dX3_isDone_65 : decode cX3_isDone 65 = .ok (.goto (-53), 3) := by decide +kernel
theorem dX3_isDone_68 : decode cX3_isDone 68 = .ok (.aload_n 0, 1) := by decide +kernel
theorem dX3_isDone_69 : decode cX3_isDone 69 = .ok (.iconst 0, 1) := by decide +kernel
theorem dX3_isDone_70 : decode cX3_isDone 70 = .ok (.putfield 105, 3) := by decide +kernel
theorem dX3_isDone_73 : decode cX3_isDone 73 = .ok (.aload_n 0, 1) := by decide +kernel
theorem dX3_isDone_74 : decode cX3_isDone 74 = .ok (.iconst 0, 1) := by decide +kernel
theorem dX3_isDone_75 : decode cX3_isDone 75 = .ok (.putfield 108, 3) := by decide +kernel
theorem dX3_isDone_78 : decode cX3_isDone 78 = .ok (.aload_n 0, 1) := by decide +kernel
theorem dX3_isDone_79 : decode cX3_isDone 79 = .ok (.aload_n 0, 1) := by decide +kernel
theorem dX3_isDone_80 : decode cX3_isDone 80 = .ok (.getfield 102, 3) := by decide +kernel
theorem dX3_isDone_83 : decode cX3_isDone 83 = .ok (.putfield 111, 3) := by decide +kernel
theorem dX3_isDone_86 : decode cX3_isDone 86 = .ok (.aload_n 0, 1) := by decide +kernel
theorem dX3_isDone_87 : decode cX3_isDone 87 = .ok (.aload_n 0, 1) := by decide +kernel
theorem dX3_isDone_88 : decode cX3_isDone 88 = .ok (.getfield 99, 3) := by decide +kernel
theorem dX3_isDone_91 : decode cX3_isDone 91 = .ok (.putfield 114, 3) := by decide +kernel
theorem dX3_isDone_94 : decode cX3_isDone 94 = .ok (.return_, 1) := by decide +kernel
theorem dX3_lifts_0 : decode cX3_lifts 0 = .ok (.aload_n 0, 1) := by decide +kernel
theorem dX3_lifts_1 : decode cX3_lifts 1 = .ok (.dup, 1) := by decide +kernel
theorem dX3_lifts_2 : decode cX3_lifts 2 = .ok (.getfield 108, 3) := by decide +kernel
theorem dX3_lifts_5 : decode cX3_lifts 5 = .ok (.iconst 1, 1) := by decide +kernel
theorem dX3_lifts_6 : decode cX3_lifts 6 = .ok (.iadd, 1) := by decide +kernel
theorem dX3_lifts_7 : decode cX3_lifts 7 = .ok (.putfield 108, 3) := by decide +kernel
theorem dX3_lifts_10 : decode cX3_lifts 10 = .ok (.aload_n 0, 1) := by decide +kernel
theorem dX3_lifts_11 : decode cX3_lifts 11 = .ok (.getfield 108, 3) := by decide +kernel
theorem dX3_lifts_14 : decode cX3_lifts 14 = .ok (.iconst 2, 1) := by decide +kernel
theorem dX3_lifts_15 : decode cX3_lifts 15 = .ok (.if_icmp .ne 29, 3) := by decide +kernel
theorem dX3_lifts_18 : decode cX3_lifts 18 = .ok (.aload_n 0, 1) := by decide +kernel
theorem dX3_lifts_19 : decode cX3_lifts 19 = .ok (.iconst 0, 1) := by decide +kernel
theorem dX3_lifts_20 : decode cX3_lifts 20 = .ok (.putfield 108, 3) := by decide +kernel
theorem dX3_lifts_23 : decode cX3_lifts 23 = .ok (.aload_n 0, 1) := by decide +kernel
theorem dX3_lifts_24 : decode cX3_lifts 24 = .ok (.iload_n 1, 1) := by decide +kernel
theorem dX3_lifts_25 : decode cX3_lifts 25 = .ok (.ifCond .ne 7, 3) := by decide +kernel
theorem dX3_lifts_28 : decode cX3_lifts 28 = .ok (.iconst 1, 1) := by decide +kernel
theorem dX3_lifts_29 : decode cX3_lifts 29 = .ok (.goto 4, 3) := by decide +kernel
theorem dX3_lifts_32 : decode cX3_lifts 32 = .ok (.iconst 0, 1) := by decide +kernel
theorem dX3_lifts_33 : decode cX3_lifts 33 = .ok (.putfield 117, 3) := by decide +kernel
theorem dX3_lifts_36 : decode cX3_lifts 36 = .ok (.iload_n 1, 1) := by decide +kernel
theorem dX3_lifts_37 : decode cX3_lifts 37 = .ok (.ifCond .ne 7, 3) := by decide +kernel
theorem dX3_lifts_40 : decode cX3_lifts 40 = .ok (.aload_n 0, 1) := by decide +kernel
theorem dX3_lifts_41 : decode cX3_lifts 41 = .ok (.invokevirtual 121, 3) := by decide +kernel
theorem dX3_lifts_44 : decode cX3_lifts 44 = .ok (.return_, 1) := by decide +kernel
theorem dX3_changes_0 : decode cX3_changes 0 = .ok (.aload_n 0, 1) := by decide +kernel
theorem dX3_changes_1 : decode cX3_changes 1 = .ok (.dup, 1) := by decide +kernel
theorem dX3_changes_2 : decode cX3_changes 2 = .ok (.getfield 108, 3) := by decide +kernel
theorem dX3_changes_5 : decode cX3_changes 5 = .ok (.iconst 1, 1) := by decide +kernel
theorem dX3_changes_6 : decode cX3_changes 6 = .ok (.iadd, 1) := by decide +kernel
theorem dX3_changes_7 : decode cX3_changes 7 = .ok (.putfield 108, 3) := by decide +kernel
theorem dX3_changes_10 : decode cX3_changes 10 = .ok (.aload_n 0, 1) := by decide +kernel
theorem dX3_changes_11 : decode cX3_changes 11 = .ok (.getfield 108, 3) := by decide +kernel
theorem dX3_changes_14 : decode cX3_changes 14 = .ok (.iconst 3, 1) := by decide +kernel
theorem dX3_changes_15 : decode cX3_changes 15 = .ok (.if_icmp .ne 17, 3) := by decide +kernel
theorem dX3_changes_18 : decode cX3_changes 18 = .ok (.aload_n 0, 1) := by decide +kernel
theorem dX3_changes_19 : decode cX3_changes 19 = .ok (.aload_n 0, 1) := by decide +kernel
theorem dX3_changes_20 : decode cX3_changes 20 = .ok (.getfield 13, 3) := by decide +kernel
theorem dX3_changes_23 : decode cX3_changes 23 = .ok (.iconst 0, 1) := by decide +kernel
theorem dX3_changes_24 : decode cX3_changes 24 = .ok (.iaload, 1) := by decide +kernel
theorem dX3_changes_25 : decode cX3_changes 25 = .ok (.putfield 124, 3) := by decide +kernel
theorem dX3_changes_28 : decode cX3_changes 28 = .ok (.aload_n 0, 1) := by decide +kernel
theorem dX3_changes_29 : decode cX3_changes 29 = .ok (.invokevirtual 127, 3) := by decide +kernel
theorem dX3_changes_32 : decode cX3_changes 32 = .ok (.return_, 1) := by decide +kernel
theorem dX3_goesTo_0 : decode cX3_goesTo 0 = .ok (.aload_n 0, 1) := by decide +kernel
theorem dX3_goesTo_1 : decode cX3_goesTo 1 = .ok (.getfield 13, 3) := by decide +kernel
theorem dX3_goesTo_4 : decode cX3_goesTo 4 = .ok (.iconst 0, 1) := by decide +kernel
theorem dX3_goesTo_5 : decode cX3_goesTo 5 = .ok (.iaload, 1) := by decide +kernel
theorem dX3_goesTo_6 : decode cX3_goesTo 6 = .ok (.aload_n 0, 1) := by decide +kernel
theorem dX3_goesTo_7 : decode cX3_goesTo 7 = .ok (.getfield 16, 3) := by decide +kernel
theorem dX3_goesTo_10 : decode cX3_goesTo 10 = .ok (.iconst 0, 1) := by decide +kernel
theorem dX3_goesTo_11 : decode cX3_goesTo 11 = .ok (.iaload, 1) := by decide +kernel
theorem dX3_goesTo_12 : decode cX3_goesTo 12 = .ok (.invokestatic 40, 3) := by decide +kernel
theorem dX3_goesTo_15 : decode cX3_goesTo 15 = .ok (.istore_n 2, 1) := by decide +kernel
theorem dX3_goesTo_16 : decode cX3_goesTo 16 = .ok (.aload_n 0, 1) := by decide +kernel
theorem dX3_goesTo_17 : decode cX3_goesTo 17 = .ok (.aload_n 0, 1) := by decide +kernel
theorem dX3_goesTo_18 : decode cX3_goesTo 18 = .ok (.getfield 111, 3) := by decide +kernel
theorem dX3_goesTo_21 : decode cX3_goesTo 21 = .ok (.aload_n 0, 1) := by decide +kernel
theorem dX3_goesTo_22 : decode cX3_goesTo 22 = .ok (.getfield 13, 3) := by decide +kernel
theorem dX3_goesTo_25 : decode cX3_goesTo 25 = .ok (.iconst 0, 1) := by decide +kernel
theorem dX3_goesTo_26 : decode cX3_goesTo 26 = .ok (.iaload, 1) := by decide +kernel
theorem dX3_goesTo_27 : decode cX3_goesTo 27 = .ok (.iload_n 1, 1) := by decide +kernel
theorem dX3_goesTo_28 : decode cX3_goesTo 28 = .ok (.imul, 1) := by decide +kernel
theorem dX3_goesTo_29 : decode cX3_goesTo 29 = .ok (.iload_n 2, 1) := by decide +kernel
theorem dX3_goesTo_30 : decode cX3_goesTo 30 = .ok (.idiv, 1) := by decide +kernel
theorem dX3_goesTo_31 : decode cX3_goesTo 31 = .ok (.iadd, 1) := by decide +kernel
theorem dX3_goesTo_32 : decode cX3_goesTo 32 = .ok (.putfield 102, 3) := by decide +kernel
theorem dX3_goesTo_35 : decode cX3_goesTo 35 = .ok (.aload_n 0, 1) := by decide +kernel
theorem dX3_goesTo_36 : decode cX3_goesTo 36 = .ok (.aload_n 0, 1) := by decide +kernel
theorem dX3_goesTo_37 : decode cX3_goesTo 37 = .ok (.getfield 114, 3) := by decide +kernel
theorem dX3_goesTo_40 : decode cX3_goesTo 40 = .ok (.aload_n 0, 1) := by decide +kernel
theorem dX3_goesTo_41 : decode cX3_goesTo 41 = .ok (.getfield 16, 3) := by decide +kernel
theorem dX3_goesTo_44 : decode cX3_goesTo 44 = .ok (.iconst 0, 1) := by decide +kernel
theorem dX3_goesTo_45 : decode cX3_goesTo 45 = .ok (.iaload, 1) := by decide +kernel
theorem dX3_goesTo_46 : decode cX3_goesTo 46 = .ok (.iload_n 1, 1) := by decide +kernel
theorem dX3_goesTo_47 : decode cX3_goesTo 47 = .ok (.imul, 1) := by decide +kernel
theorem dX3_goesTo_48 : decode cX3_goesTo 48 = .ok (.iload_n 2, 1) := by decide +kernel
theorem dX3_goesTo_49 : decode cX3_goesTo 49 = .ok (.idiv, 1) := by decide +kernel
theorem dX3_goesTo_50 : decode cX3_goesTo 50 = .ok (.iadd, 1) := by decide +kernel
theorem dX3_goesTo_51 : decode cX3_goesTo 51 = .ok (.putfield 99, 3) := by decide +kernel
theorem dX3_goesTo_54 : decode cX3_goesTo 54 = .ok (.return_, 1) := by decide +kernel
theorem dX3_step_0 : decode cX3_step 0 = .ok (.aload_n 0, 1) := by decide +kernel
theorem dX3_step_1 : decode cX3_step 1 = .ok (.dup, 1) := by decide +kernel
theorem dX3_step_2 : decode cX3_step 2 = .ok (.getfield 105, 3) := by decide +kernel
theorem dX3_step_5 : decode cX3_step 5 = .ok (.iconst 1, 1) := by decide +kernel
theorem dX3_step_6 : decode cX3_step 6 = .ok (.iadd, 1) := by decide +kernel
theorem dX3_step_7 : decode cX3_step 7 = .ok (.putfield 105, 3) := by decide +kernel
theorem dX3_step_10 : decode cX3_step 10 = .ok (.aload_n 0, 1) := by decide +kernel
theorem dX3_step_11 : decode cX3_step 11 = .ok (.aload_n 0, 1) := by decide +kernel
theorem dX3_step_12 : decode cX3_step 12 = .ok (.getfield 105, 3) := by decide +kernel
theorem dX3_step_15 : decode cX3_step 15 = .ok (.invokevirtual 130, 3) := by decide +kernel
theorem dX3_step_18 : decode cX3_step 18 = .ok (.aload_n 0, 1) := by decide +kernel
theorem dX3_step_19 : decode cX3_step 19 = .ok (.getfield 7, 3) := by decide +kernel
theorem dX3_step_22 : decode cX3_step 22 = .ok (.iconst 0, 1) := by decide +kernel
theorem dX3_step_23 : decode cX3_step 23 = .ok (.iaload, 1) := by decide +kernel
theorem dX3_step_24 : decode cX3_step 24 = .ok (.iconst 2, 1) := by decide +kernel
theorem dX3_step_25 : decode cX3_step 25 = .ok (.if_icmp .ne 33, 3) := by decide +kernel
theorem dX3_step_28 : decode cX3_step 28 = .ok (.aload_n 0, 1) := by decide +kernel
theorem dX3_step_29 : decode cX3_step 29 = .ok (.getfield 19, 3) := by decide +kernel
theorem dX3_step_32 : decode cX3_step 32 = .ok (.aload_n 0, 1) := by decide +kernel
theorem dX3_step_33 : decode cX3_step 33 = .ok (.getfield 124, 3) := by decide +kernel
theorem dX3_step_36 : decode cX3_step 36 = .ok (.dup2, 1) := by decide +kernel
theorem dX3_step_37 : decode cX3_step 37 = .ok (.iaload, 1) := by decide +kernel
theorem dX3_step_38 : decode cX3_step 38 = .ok (.iconst 1, 1) := by decide +kernel
theorem dX3_step_39 : decode cX3_step 39 = .ok (.isub, 1) := by decide +kernel
theorem dX3_step_40 : decode cX3_step 40 = .ok (.iastore, 1) := by decide +kernel
theorem dX3_step_41 : decode cX3_step 41 = .ok (.aload_n 0, 1) := by decide +kernel
theorem dX3_step_42 : decode cX3_step 42 = .ok (.dup, 1) := by decide +kernel
theorem dX3_step_43 : decode cX3_step 43 = .ok (.getfield 133, 3) := by decide +kernel
theorem dX3_step_46 : decode cX3_step 46 = .ok (.iconst 1, 1) := by decide +kernel
theorem dX3_step_47 : decode cX3_step 47 = .ok (.iadd, 1) := by decide +kernel
theorem dX3_step_48 : decode cX3_step 48 = .ok (.putfield 133, 3) := by decide +kernel
theorem dX3_step_51 : decode cX3_step 51 = .ok (.aload_n 0, 1) := by decide +kernel
theorem dX3_step_52 : decode cX3_step 52 = .ok (.invokevirtual 121, 3) := by decide +kernel
theorem dX3_step_55 : decode cX3_step 55 = .ok (.goto 13, 3) := by decide +kernel
theorem dX3_step_58 : decode cX3_step 58 = .ok (.aload_n 0, 1) := by decide +kernel
theorem dX3_step_59 : decode cX3_step 59 = .ok (.dup, 1) := by decide +kernel
theorem dX3_step_60 : decode cX3_step 60 = .ok (.getfield 136, 3) := by decide +kernel
theorem dX3_step_63 : decode cX3_step 63 = .ok (.iconst 1, 1) := by decide +kernel
theorem dX3_step_64 : decode cX3_step 64 = .ok (.iadd, 1) := by decide +kernel
theorem dX3_step_65 : decode cX3_step 65 = .ok (.putfield 136, 3) := by decide +kernel
theorem dX3_step_68 : decode cX3_step 68 = .ok (.aload_n 0, 1) := by decide +kernel
theorem dX3_step_69 : decode cX3_step 69 = .ok (.getfield 105, 3) := by decide +kernel
theorem dX3_step_72 : decode cX3_step 72 = .ok (.aload_n 0, 1) := by decide +kernel
theorem dX3_step_73 : decode cX3_step 73 = .ok (.getfield 13, 3) := by decide +kernel
theorem dX3_step_76 : decode cX3_step 76 = .ok (.iconst 0, 1) := by decide +kernel
theorem dX3_step_77 : decode cX3_step 77 = .ok (.iaload, 1) := by decide +kernel
theorem dX3_step_78 : decode cX3_step 78 = .ok (.aload_n 0, 1) := by decide +kernel
theorem dX3_step_79 : decode cX3_step 79 = .ok (.getfield 16, 3) := by decide +kernel
theorem dX3_step_82 : decode cX3_step 82 = .ok (.iconst 0, 1) := by decide +kernel
theorem dX3_step_83 : decode cX3_step 83 = .ok (.iaload, 1) := by decide +kernel
theorem dX3_step_84 : decode cX3_step 84 = .ok (.invokestatic 40, 3) := by decide +kernel
theorem dX3_step_87 : decode cX3_step 87 = .ok (.if_icmp .ne 7, 3) := by decide +kernel
theorem dX3_step_90 : decode cX3_step 90 = .ok (.aload_n 0, 1) := by decide +kernel
theorem dX3_step_91 : decode cX3_step 91 = .ok (.invokevirtual 127, 3) := by decide +kernel
theorem dX3_step_94 : decode cX3_step 94 = .ok (.iconst 1, 1) := by decide +kernel
theorem dX3_step_95 : decode cX3_step 95 = .ok (.ireturn, 1) := by decide +kernel
theorem dX3_lacksInk_0 : decode cX3_lacksInk 0 = .ok (.aload_n 0, 1) := by decide +kernel
theorem dX3_lacksInk_1 : decode cX3_lacksInk 1 = .ok (.getfield 57, 3) := by decide +kernel
theorem dX3_lacksInk_4 : decode cX3_lacksInk 4 = .ok (.ifCond .le 36, 3) := by decide +kernel
theorem dX3_lacksInk_7 : decode cX3_lacksInk 7 = .ok (.aload_n 0, 1) := by decide +kernel
theorem dX3_lacksInk_8 : decode cX3_lacksInk 8 = .ok (.getfield 7, 3) := by decide +kernel
theorem dX3_lacksInk_11 : decode cX3_lacksInk 11 = .ok (.iconst 0, 1) := by decide +kernel
theorem dX3_lacksInk_12 : decode cX3_lacksInk 12 = .ok (.iaload, 1) := by decide +kernel
theorem dX3_lacksInk_13 : decode cX3_lacksInk 13 = .ok (.iconst 2, 1) := by decide +kernel
theorem dX3_lacksInk_14 : decode cX3_lacksInk 14 = .ok (.if_icmp .ne 26, 3) := by decide +kernel
theorem dX3_lacksInk_17 : decode cX3_lacksInk 17 = .ok (.aload_n 0, 1) := by decide +kernel
theorem dX3_lacksInk_18 : decode cX3_lacksInk 18 = .ok (.getfield 117, 3) := by decide +kernel
theorem dX3_lacksInk_21 : decode cX3_lacksInk 21 = .ok (.ifCond .eq 19, 3) := by decide +kernel
theorem dX3_lacksInk_24 : decode cX3_lacksInk 24 = .ok (.aload_n 0, 1) := by decide +kernel
theorem dX3_lacksInk_25 : decode cX3_lacksInk 25 = .ok (.getfield 19, 3) := by decide +kernel
theorem dX3_lacksInk_28 : decode cX3_lacksInk 28 = .ok (.aload_n 0, 1) := by decide +kernel
theorem dX3_lacksInk_29 : decode cX3_lacksInk 29 = .ok (.getfield 124, 3) := by decide +kernel
theorem dX3_lacksInk_32 : decode cX3_lacksInk 32 = .ok (.iaload, 1) := by decide +kernel
theorem dX3_lacksInk_33 : decode cX3_lacksInk 33 = .ok (.ifCond .ne 7, 3) := by decide +kernel
theorem dX3_lacksInk_36 : decode cX3_lacksInk 36 = .ok (.iconst 1, 1) := by decide +kernel
theorem dX3_lacksInk_37 : decode cX3_lacksInk 37 = .ok (.goto 4, 3) := by decide +kernel
theorem dX3_lacksInk_40 : decode cX3_lacksInk 40 = .ok (.iconst 0, 1) := by decide +kernel
theorem dX3_lacksInk_41 : decode cX3_lacksInk 41 = .ok (.ireturn, 1) := by decide +kernel
theorem dX3_ticks_0 : decode cX3_ticks 0 = .ok (.aload_n 0, 1) := by decide +kernel
theorem dX3_ticks_1 : decode cX3_ticks 1 = .ok (.getfield 57, 3) := by decide +kernel
theorem dX3_ticks_4 : decode cX3_ticks 4 = .ok (.ifCond .eq 10, 3) := by decide +kernel
theorem dX3_ticks_7 : decode cX3_ticks 7 = .ok (.aload_n 0, 1) := by decide +kernel
theorem dX3_ticks_8 : decode cX3_ticks 8 = .ok (.invokevirtual 139, 3) := by decide +kernel
theorem dX3_ticks_11 : decode cX3_ticks 11 = .ok (.ifCond .eq 5, 3) := by decide +kernel
theorem dX3_ticks_14 : decode cX3_ticks 14 = .ok (.iconst 0, 1) := by decide +kernel
theorem dX3_ticks_15 : decode cX3_ticks 15 = .ok (.ireturn, 1) := by decide +kernel
theorem dX3_ticks_16 : decode cX3_ticks 16 = .ok (.aload_n 0, 1) := by decide +kernel
theorem dX3_ticks_17 : decode cX3_ticks 17 = .ok (.getfield 7, 3) := by decide +kernel
theorem dX3_ticks_20 : decode cX3_ticks 20 = .ok (.iconst 0, 1) := by decide +kernel
theorem dX3_ticks_21 : decode cX3_ticks 21 = .ok (.iaload, 1) := by decide +kernel
theorem dX3_ticks_22 : decode cX3_ticks 22 = .ok (.iconst 2, 1) := by decide +kernel
theorem dX3_ticks_23 : decode cX3_ticks 23 = .ok (.if_icmp .ne 13, 3) := by decide +kernel
theorem dX3_ticks_26 : decode cX3_ticks 26 = .ok (.aload_n 0, 1) := by decide +kernel
theorem dX3_ticks_27 : decode cX3_ticks 27 = .ok (.getfield 117, 3) := by decide +kernel
theorem dX3_ticks_30 : decode cX3_ticks 30 = .ok (.ifCond .ne 34, 3) := by decide +kernel
theorem dX3_ticks_33 : decode cX3_ticks 33 = .ok (.goto 10, 3) := by decide +kernel
theorem dX3_ticks_36 : decode cX3_ticks 36 = .ok (.aload_n 0, 1) := by decide +kernel
theorem dX3_ticks_37 : decode cX3_ticks 37 = .ok (.getfield 117, 3) := by decide +kernel
theorem dX3_ticks_40 : decode cX3_ticks 40 = .ok (.ifCond .eq 24, 3) := by decide +kernel
theorem dX3_ticks_43 : decode cX3_ticks 43 = .ok (.aload_n 0, 1) := by decide +kernel
theorem dX3_ticks_44 : decode cX3_ticks 44 = .ok (.aload_n 0, 1) := by decide +kernel
theorem dX3_ticks_45 : decode cX3_ticks 45 = .ok (.getfield 7, 3) := by decide +kernel
theorem dX3_ticks_48 : decode cX3_ticks 48 = .ok (.iconst 0, 1) := by decide +kernel
theorem dX3_ticks_49 : decode cX3_ticks 49 = .ok (.iaload, 1) := by decide +kernel
theorem dX3_ticks_50 : decode cX3_ticks 50 = .ok (.iconst 2, 1) := by decide +kernel
theorem dX3_ticks_51 : decode cX3_ticks 51 = .ok (.if_icmp .eq 7, 3) := by decide +kernel
theorem dX3_ticks_54 : decode cX3_ticks 54 = .ok (.iconst 1, 1) := by decide +kernel
theorem dX3_ticks_55 : decode cX3_ticks 55 = .ok (.goto 4, 3) := by decide +kernel
theorem dX3_ticks_58 : decode cX3_ticks 58 = .ok (.iconst 0, 1) := by decide +kernel
theorem dX3_ticks_59 : decode cX3_ticks 59 = .ok (.invokevirtual 143, 3) := by decide +kernel
theorem dX3_ticks_62 : decode cX3_ticks 62 = .ok (.iconst 0, 1) := by decide +kernel
theorem dX3_ticks_63 : decode cX3_ticks 63 = .ok (.ireturn, 1) := by decide +kernel
theorem dX3_ticks_64 : decode cX3_ticks 64 = .ok (.aload_n 0, 1) := by decide +kernel
theorem dX3_ticks_65 : decode cX3_ticks 65 = .ok (.getfield 7, 3) := by decide +kernel
theorem dX3_ticks_68 : decode cX3_ticks 68 = .ok (.iconst 0, 1) := by decide +kernel
theorem dX3_ticks_69 : decode cX3_ticks 69 = .ok (.iaload, 1) := by decide +kernel
theorem dX3_ticks_70 : decode cX3_ticks 70 = .ok (.iconst 3, 1) := by decide +kernel
theorem dX3_ticks_71 : decode cX3_ticks 71 = .ok (.if_icmp .ne 9, 3) := by decide +kernel
theorem dX3_ticks_74 : decode cX3_ticks 74 = .ok (.aload_n 0, 1) := by decide +kernel
theorem dX3_ticks_75 : decode cX3_ticks 75 = .ok (.invokevirtual 147, 3) := by decide +kernel
theorem dX3_ticks_78 : decode cX3_ticks 78 = .ok (.iconst 0, 1) := by decide +kernel
theorem dX3_ticks_79 : decode cX3_ticks 79 = .ok (.ireturn, 1) := by decide +kernel
theorem dX3_ticks_80 : decode cX3_ticks 80 = .ok (.aload_n 0, 1) := by decide +kernel
theorem dX3_ticks_81 : decode cX3_ticks 81 = .ok (.invokevirtual 150, 3) := by decide +kernel
theorem dX3_ticks_84 : decode cX3_ticks 84 = .ok (.ireturn, 1) := by decide +kernel
theorem dX3_tick_0 : decode cX3_tick 0 = .ok (.aload_n 0, 1) := by decide +kernel
theorem dX3_tick_1 : decode cX3_tick 1 = .ok (.iload_n 1, 1) := by decide +kernel
theorem dX3_tick_2 : decode cX3_tick 2 = .ok (.iconst 1, 1) := by decide +kernel
theorem dX3_tick_3 : decode cX3_tick 3 = .ok (.sipush 1000, 3) := by decide +kernel
theorem dX3_tick_6 : decode cX3_tick 6 = .ok (.invokestatic 32, 3) := by decide +kernel
theorem dX3_tick_9 : decode cX3_tick 9 = .ok (.ifCond .eq 7, 3) := by decide +kernel
theorem dX3_tick_12 : decode cX3_tick 12 = .ok (.iconst 0, 1) := by decide +kernel
theorem dX3_tick_13 : decode cX3_tick 13 = .ok (.goto 4, 3) := by decide +kernel
theorem dX3_tick_16 : decode cX3_tick 16 = .ok (.iconst 1, 1) := by decide +kernel
theorem dX3_tick_17 : decode cX3_tick 17 = .ok (.invokevirtual 92, 3) := by decide +kernel
theorem dX3_tick_20 : decode cX3_tick 20 = .ok (.ifCond .ne 5, 3) := by decide +kernel
theorem dX3_tick_23 : decode cX3_tick 23 = .ok (.iconst 0, 1) := by decide +kernel
theorem dX3_tick_24 : decode cX3_tick 24 = .ok (.ireturn, 1) := by decide +kernel
theorem dX3_tick_25 : decode cX3_tick 25 = .ok (.iconst 0, 1) := by decide +kernel
theorem dX3_tick_26 : decode cX3_tick 26 = .ok (.istore_n 2, 1) := by decide +kernel
theorem dX3_tick_27 : decode cX3_tick 27 = .ok (.iconst 0, 1) := by decide +kernel
theorem dX3_tick_28 : decode cX3_tick 28 = .ok (.istore_n 3, 1) := by decide +kernel
theorem dX3_tick_29 : decode cX3_tick 29 = .ok (.iload_n 3, 1) := by decide +kernel
theorem dX3_tick_30 : decode cX3_tick 30 = .ok (.iload_n 1, 1) := by decide +kernel
theorem dX3_tick_31 : decode cX3_tick 31 = .ok (.if_icmp .ge 16, 3) := by decide +kernel
theorem dX3_tick_34 : decode cX3_tick 34 = .ok (.iload_n 2, 1) := by decide +kernel
theorem dX3_tick_35 : decode cX3_tick 35 = .ok (.aload_n 0, 1) := by decide +kernel
theorem dX3_tick_36 : decode cX3_tick 36 = .ok (.invokevirtual 154, 3) := by decide +kernel
theorem dX3_tick_39 : decode cX3_tick 39 = .ok (.iadd, 1) := by decide +kernel
theorem dX3_tick_40 : decode cX3_tick 40 = .ok (.istore_n 2, 1) := by decide +kernel
theorem dX3_tick_41 : decode cX3_tick 41 = .ok (.iinc 3 1, 3) := by decide +kernel
theorem dX3_tick_44 : decode cX3_tick 44 = .ok (.goto (-15), 3) := by decide +kernel
theorem dX3_tick_47 : decode cX3_tick 47 = .ok (.iload_n 2, 1) := by decide +kernel
theorem dX3_tick_48 : decode cX3_tick 48 = .ok (.ireturn, 1) := by decide +kernel
theorem dX3_cut_0 : decode cX3_cut 0 = .ok (.aload_n 0, 1) := by decide +kernel
theorem dX3_cut_1 : decode cX3_cut 1 = .ok (.iconst 0, 1) := by decide +kernel
theorem dX3_cut_2 : decode cX3_cut 2 = .ok (.putfield 28, 3) := by decide +kernel
theorem dX3_cut_5 : decode cX3_cut 5 = .ok (.aload_n 0, 1) := by decide +kernel
theorem dX3_cut_6 : decode cX3_cut 6 = .ok (.getfield 105, 3) := by decide +kernel
theorem dX3_cut_9 : decode cX3_cut 9 = .ok (.bipush 10, 2) := by decide +kernel
theorem dX3_cut_11 : decode cX3_cut 11 = .ok (.irem, 1) := by decide +kernel
theorem dX3_cut_12 : decode cX3_cut 12 = .ok (.istore_n 1, 1) := by decide +kernel
theorem dX3_cut_13 : decode cX3_cut 13 = .ok (.aload_n 0, 1) := by decide +kernel
theorem dX3_cut_14 : decode cX3_cut 14 = .ok (.dup, 1) := by decide +kernel
theorem dX3_cut_15 : decode cX3_cut 15 = .ok (.getfield 105, 3) := by decide +kernel
theorem dX3_cut_18 : decode cX3_cut 18 = .ok (.iload_n 1, 1) := by decide +kernel
theorem dX3_cut_19 : decode cX3_cut 19 = .ok (.isub, 1) := by decide +kernel
theorem dX3_cut_20 : decode cX3_cut 20 = .ok (.putfield 105, 3) := by decide +kernel
theorem dX3_cut_23 : decode cX3_cut 23 = .ok (.aload_n 0, 1) := by decide +kernel
theorem dX3_cut_24 : decode cX3_cut 24 = .ok (.getfield 57, 3) := by decide +kernel
theorem dX3_cut_27 : decode cX3_cut 27 = .ok (.ifCond .le 21, 3) := by decide +kernel
theorem dX3_cut_30 : decode cX3_cut 30 = .ok (.aload_n 0, 1) := by decide +kernel
theorem dX3_cut_31 : decode cX3_cut 31 = .ok (.getfield 7, 3) := by decide +kernel
theorem dX3_cut_34 : decode cX3_cut 34 = .ok (.iconst 0, 1) := by decide +kernel
theorem dX3_cut_35 : decode cX3_cut 35 = .ok (.iaload, 1) := by decide +kernel
theorem dX3_cut_36 : decode cX3_cut 36 = .ok (.iconst 3, 1) := by decide +kernel
theorem dX3_cut_37 : decode cX3_cut 37 = .ok (.if_icmp .eq 11, 3) := by decide +kernel
theorem dX3_cut_40 : decode cX3_cut 40 = .ok (.aload_n 0, 1) := by decide +kernel
theorem dX3_cut_41 : decode cX3_cut 41 = .ok (.aload_n 0, 1) := by decide +kernel
theorem dX3_cut_42 : decode cX3_cut 42 = .ok (.getfield 105, 3) := by decide +kernel
theorem dX3_cut_45 : decode cX3_cut 45 = .ok (.invokevirtual 130, 3) := by decide +kernel
theorem dX3_cut_48 : decode cX3_cut 48 = .ok (.aload_n 0, 1) := by decide +kernel
theorem dX3_cut_49 : decode cX3_cut 49 = .ok (.iconst 0, 1) := by decide +kernel
theorem dX3_cut_50 : decode cX3_cut 50 = .ok (.putfield 108, 3) := by decide +kernel
theorem dX3_cut_53 : decode cX3_cut 53 = .ok (.aload_n 0, 1) := by decide +kernel
theorem dX3_cut_54 : decode cX3_cut 54 = .ok (.iconst 0, 1) := by decide +kernel
theorem dX3_cut_55 : decode cX3_cut 55 = .ok (.putfield 117, 3) := by decide +kernel
theorem dX3_cut_58 : decode cX3_cut 58 = .ok (.aload_n 0, 1) := by decide +kernel
theorem dX3_cut_59 : decode cX3_cut 59 = .ok (.iconst 0, 1) := by decide +kernel
theorem dX3_cut_60 : decode cX3_cut 60 = .ok (.putfield 89, 3) := by decide +kernel
theorem dX3_cut_63 : decode cX3_cut 63 = .ok (.iload_n 1, 1) := by decide +kernel
theorem dX3_cut_64 : decode cX3_cut 64 = .ok (.ireturn, 1) := by decide +kernel
theorem dX3_isPen_0 : decode cX3_isPen 0 = .ok (.iload_n 0, 1) := by decide +kernel
theorem dX3_isPen_1 : decode cX3_isPen 1 = .ok (.iconst 0, 1) := by decide +kernel
theorem dX3_isPen_2 : decode cX3_isPen 2 = .ok (.iconst 2, 1) := by decide +kernel
theorem dX3_isPen_3 : decode cX3_isPen 3 = .ok (.invokestatic 32, 3) := by decide +kernel
theorem dX3_isPen_6 : decode cX3_isPen 6 = .ok (.ireturn, 1) := by decide +kernel
theorem dX3_refill_0 : decode cX3_refill 0 = .ok (.aload_n 0, 1) := by decide +kernel
theorem dX3_refill_1 : decode cX3_refill 1 = .ok (.iload_n 1, 1) := by decide +kernel
theorem dX3_refill_2 : decode cX3_refill 2 = .ok (.invokestatic 157, 3) := by decide +kernel
theorem dX3_refill_5 : decode cX3_refill 5 = .ok (.ifCond .eq 7, 3) := by decide +kernel
theorem dX3_refill_8 : decode cX3_refill 8 = .ok (.iconst 0, 1) := by decide +kernel
theorem dX3_refill_9 : decode cX3_refill 9 = .ok (.goto 4, 3) := by decide +kernel
theorem dX3_refill_12 : decode cX3_refill 12 = .ok (.iconst 1, 1) := by decide +kernel
theorem dX3_refill_13 : decode cX3_refill 13 = .ok (.invokevirtual 92, 3) := by decide +kernel
theorem dX3_refill_16 : decode cX3_refill 16 = .ok (.ifCond .ne 5, 3) := by decide +kernel
theorem dX3_refill_19 : decode cX3_refill 19 = .ok (.iconst 0, 1) := by decide +kernel
theorem dX3_refill_20 : decode cX3_refill 20 = .ok (.ireturn, 1) := by decide +kernel
theorem dX3_refill_21 : decode cX3_refill 21 = .ok (.aload_n 0, 1) := by decide +kernel
theorem dX3_refill_22 : decode cX3_refill 22 = .ok (.getfield 19, 3) := by decide +kernel
theorem dX3_refill_25 : decode cX3_refill 25 = .ok (.iload_n 1, 1) := by decide +kernel
theorem dX3_refill_26 : decode cX3_refill 26 = .ok (.iaload, 1) := by decide +kernel
theorem dX3_refill_27 : decode cX3_refill 27 = .ok (.istore_n 2, 1) := by decide +kernel
theorem dX3_refill_28 : decode cX3_refill 28 = .ok (.aload_n 0, 1) := by decide +kernel
theorem dX3_refill_29 : decode cX3_refill 29 = .ok (.getfield 19, 3) := by decide +kernel
theorem dX3_refill_32 : decode cX3_refill 32 = .ok (.iload_n 1, 1) := by decide +kernel
theorem dX3_refill_33 : decode cX3_refill 33 = .ok (.sipush 500, 3) := by decide +kernel
theorem dX3_refill_36 : decode cX3_refill 36 = .ok (.iastore, 1) := by decide +kernel
theorem dX3_refill_37 : decode cX3_refill 37 = .ok (.iload_n 2, 1) := by decide +kernel
theorem dX3_refill_38 : decode cX3_refill 38 = .ok (.ireturn, 1) := by decide +kernel
theorem dX3_pour_0 : decode cX3_pour 0 = .ok (.aload_n 0, 1) := by decide +kernel
theorem dX3_pour_1 : decode cX3_pour 1 = .ok (.iload_n 1, 1) := by decide +kernel
theorem dX3_pour_2 : decode cX3_pour 2 = .ok (.invokestatic 157, 3) := by decide +kernel
theorem dX3_pour_5 : decode cX3_pour 5 = .ok (.ifCond .ne 7, 3) := by decide +kernel
theorem dX3_pour_8 : decode cX3_pour 8 = .ok (.iconst 1, 1) := by decide +kernel
theorem dX3_pour_9 : decode cX3_pour 9 = .ok (.goto 19, 3) := by decide +kernel
theorem dX3_pour_12 : decode cX3_pour 12 = .ok (.iload_n 2, 1) := by decide +kernel
theorem dX3_pour_13 : decode cX3_pour 13 = .ok (.iconst 1, 1) := by decide +kernel
theorem dX3_pour_14 : decode cX3_pour 14 = .ok (.sipush 500, 3) := by decide +kernel
theorem dX3_pour_17 : decode cX3_pour 17 = .ok (.invokestatic 32, 3) := by decide +kernel
theorem dX3_pour_20 : decode cX3_pour 20 = .ok (.ifCond .eq 7, 3) := by decide +kernel
theorem dX3_pour_23 : decode cX3_pour 23 = .ok (.iconst 0, 1) := by decide +kernel
theorem dX3_pour_24 : decode cX3_pour 24 = .ok (.goto 4, 3) := by decide +kernel
theorem dX3_pour_27 : decode cX3_pour 27 = .ok (.iconst 2, 1) := by decide +kernel
theorem dX3_pour_28 : decode cX3_pour 28 = .ok (.invokevirtual 92, 3) := by decide +kernel
theorem dX3_pour_31 : decode cX3_pour 31 = .ok (.ifCond .ne 5, 3) := by decide +kernel
theorem dX3_pour_34 : decode cX3_pour 34 = .ok (.iconst 0, 1) := by decide +kernel
theorem dX3_pour_35 : decode cX3_pour 35 = .ok (.ireturn, 1) := by decide +kernel
theorem dX3_pour_36 : decode cX3_pour 36 = .ok (.aload_n 0, 1) := by decide +kernel
theorem dX3_pour_37 : decode cX3_pour 37 = .ok (.getfield 19, 3) := by decide +kernel
theorem dX3_pour_40 : decode cX3_pour 40 = .ok (.iload_n 1, 1) := by decide +kernel
theorem dX3_pour_41 : decode cX3_pour 41 = .ok (.aload_n 0, 1) := by decide +kernel
theorem dX3_pour_42 : decode cX3_pour 42 = .ok (.getfield 19, 3) := by decide +kernel
theorem dX3_pour_45 : decode cX3_pour 45 = .ok (.iload_n 1, 1) := by decide +kernel
theorem dX3_pour_46 : decode cX3_pour 46 = .ok (.iaload, 1) := by decide +kernel
theorem dX3_pour_47 : decode cX3_pour 47 = .ok (.iload_n 2, 1) := by decide +kernel
theorem dX3_pour_48 : decode cX3_pour 48 = .ok (.if_icmp .ge 7, 3) := by decide +kernel
theorem dX3_pour_51 : decode cX3_pour 51 = .ok (.iconst 0, 1) := by decide +kernel
theorem dX3_pour_52 : decode cX3_pour 52 = .ok (.goto 11, 3) := by decide +kernel
theorem dX3_pour_55 : decode cX3_pour 55 = .ok (.aload_n 0, 1) := by decide +kernel
theorem dX3_pour_56 : decode cX3_pour 56 = .ok (.getfield 19, 3) := by decide +kernel
theorem dX3_pour_59 : decode cX3_pour 59 = .ok (.iload_n 1, 1) := by decide +kernel
theorem dX3_pour_60 : decode cX3_pour 60 = .ok (.iaload, 1) := by decide +kernel
theorem dX3_pour_61 : decode cX3_pour 61 = .ok (.iload_n 2, 1) := by decide +kernel
theorem dX3_pour_62 : decode cX3_pour 62 = .ok (.isub, 1) := by decide +kernel
theorem dX3_pour_63 : decode cX3_pour 63 = .ok (.iastore, 1) := by decide +kernel
theorem dX3_pour_64 : decode cX3_pour 64 = .ok (.aload_n 0, 1) := by decide +kernel
theorem dX3_pour_65 : decode cX3_pour 65 = .ok (.getfield 19, 3) := by decide +kernel
theorem dX3_pour_68 : decode cX3_pour 68 = .ok (.iload_n 1, 1) := by decide +kernel
theorem dX3_pour_69 : decode cX3_pour 69 = .ok (.iaload, 1) := by decide +kernel
theorem dX3_pour_70 : decode cX3_pour 70 = .ok (.ireturn, 1) := by decide +kernel
theorem dX3_at_0 : decode cX3_at 0 = .ok (.aload_n 0, 1) := by decide +kernel
theorem dX3_at_1 : decode cX3_at 1 = .ok (.iconst 0, 1) := by decide +kernel
theorem dX3_at_2 : decode cX3_at 2 = .ok (.putfield 28, 3) := by decide +kernel
theorem dX3_at_5 : decode cX3_at 5 = .ok (.bipush 100, 2) := by decide +kernel
theorem dX3_at_7 : decode cX3_at 7 = .ok (.aload_n 0, 1) := by decide +kernel
theorem dX3_at_8 : decode cX3_at 8 = .ok (.getfield 99, 3) := by decide +kernel
theorem dX3_at_11 : decode cX3_at 11 = .ok (.imul, 1) := by decide +kernel
theorem dX3_at_12 : decode cX3_at 12 = .ok (.aload_n 0, 1) := by decide +kernel
theorem dX3_at_13 : decode cX3_at 13 = .ok (.getfield 102, 3) := by decide +kernel
theorem dX3_at_16 : decode cX3_at 16 = .ok (.iadd, 1) := by decide +kernel
theorem dX3_at_17 : decode cX3_at 17 = .ok (.ireturn, 1) := by decide +kernel
theorem dX3_isDown_0 : decode cX3_isDown 0 = .ok (.aload_n 0, 1) := by decide +kernel
theorem dX3_isDown_1 : decode cX3_isDown 1 = .ok (.iconst 0, 1) := by decide +kernel
theorem dX3_isDown_2 : decode cX3_isDown 2 = .ok (.putfield 28, 3) := by decide +kernel
theorem dX3_isDown_5 : decode cX3_isDown 5 = .ok (.aload_n 0, 1) := by decide +kernel
theorem dX3_isDown_6 : decode cX3_isDown 6 = .ok (.getfield 117, 3) := by decide +kernel
theorem dX3_isDown_9 : decode cX3_isDown 9 = .ok (.ireturn, 1) := by decide +kernel
theorem dX3_pen_0 : decode cX3_pen 0 = .ok (.aload_n 0, 1) := by decide +kernel
theorem dX3_pen_1 : decode cX3_pen 1 = .ok (.iconst 0, 1) := by decide +kernel
theorem dX3_pen_2 : decode cX3_pen 2 = .ok (.putfield 28, 3) := by decide +kernel
theorem dX3_pen_5 : decode cX3_pen 5 = .ok (.aload_n 0, 1) := by decide +kernel
theorem dX3_pen_6 : decode cX3_pen 6 = .ok (.getfield 124, 3) := by decide +kernel
theorem dX3_pen_9 : decode cX3_pen 9 = .ok (.ireturn, 1) := by decide +kernel
theorem dX3_ink_0 : decode cX3_ink 0 = .ok (.aload_n 0, 1) := by decide +kernel
theorem dX3_ink_1 : decode cX3_ink 1 = .ok (.iload_n 1, 1) := by decide +kernel
theorem dX3_ink_2 : decode cX3_ink 2 = .ok (.invokestatic 157, 3) := by decide +kernel
theorem dX3_ink_5 : decode cX3_ink 5 = .ok (.ifCond .eq 7, 3) := by decide +kernel
theorem dX3_ink_8 : decode cX3_ink 8 = .ok (.iconst 0, 1) := by decide +kernel
theorem dX3_ink_9 : decode cX3_ink 9 = .ok (.goto 4, 3) := by decide +kernel
theorem dX3_ink_12 : decode cX3_ink 12 = .ok (.iconst 1, 1) := by decide +kernel
theorem dX3_ink_13 : decode cX3_ink 13 = .ok (.invokevirtual 92, 3) := by decide +kernel
theorem dX3_ink_16 : decode cX3_ink 16 = .ok (.ifCond .eq 12, 3) := by decide +kernel
theorem dX3_ink_19 : decode cX3_ink 19 = .ok (.aload_n 0, 1) := by decide +kernel
theorem dX3_ink_20 : decode cX3_ink 20 = .ok (.getfield 19, 3) := by decide +kernel
theorem dX3_ink_23 : decode cX3_ink 23 = .ok (.iload_n 1, 1) := by decide +kernel
theorem dX3_ink_24 : decode cX3_ink 24 = .ok (.iaload, 1) := by decide +kernel
theorem dX3_ink_25 : decode cX3_ink 25 = .ok (.goto 4, 3) := by decide +kernel
theorem dX3_ink_28 : decode cX3_ink 28 = .ok (.iconst 0, 1) := by decide +kernel
theorem dX3_ink_29 : decode cX3_ink 29 = .ok (.ireturn, 1) := by decide +kernel
theorem dX3_isWaiting_0 : decode cX3_isWaiting 0 = .ok (.aload_n 0, 1) := by decide +kernel
theorem dX3_isWaiting_1 : decode cX3_isWaiting 1 = .ok (.iconst 0, 1) := by decide +kernel
theorem dX3_isWaiting_2 : decode cX3_isWaiting 2 = .ok (.putfield 28, 3) := by decide +kernel
theorem dX3_isWaiting_5 : decode cX3_isWaiting 5 = .ok (.aload_n 0, 1) := by decide +kernel
theorem dX3_isWaiting_6 : decode cX3_isWaiting 6 = .ok (.invokevirtual 139, 3) := by decide +kernel
theorem dX3_isWaiting_9 : decode cX3_isWaiting 9 = .ok (.ireturn, 1) := by decide +kernel
theorem dX3_timeLeft_0 : decode cX3_timeLeft 0 = .ok (.aload_n 0, 1) := by decide +kernel
theorem dX3_timeLeft_1 : decode cX3_timeLeft 1 = .ok (.iconst 0, 1) := by decide +kernel
theorem dX3_timeLeft_2 : decode cX3_timeLeft 2 = .ok (.putfield 28, 3) := by decide +kernel
theorem dX3_timeLeft_5 : decode cX3_timeLeft 5 = .ok (.iconst 0, 1) := by decide +kernel
theorem dX3_timeLeft_6 : decode cX3_timeLeft 6 = .ok (.istore_n 1, 1) := by decide +kernel
theorem dX3_timeLeft_7 : decode cX3_timeLeft 7 = .ok (.aload_n 0, 1) := by decide +kernel
theorem dX3_timeLeft_8 : decode cX3_timeLeft 8 = .ok (.getfield 117, 3) := by decide +kernel
theorem dX3_timeLeft_11 : decode cX3_timeLeft 11 = .ok (.istore_n 2, 1) := by decide +kernel
theorem dX3_timeLeft_12 : decode cX3_timeLeft 12 = .ok (.iconst 0, 1) := by decide +kernel
theorem dX3_timeLeft_13 : decode cX3_timeLeft 13 = .ok (.istore_n 3, 1) := by decide +kernel
theorem dX3_timeLeft_14 : decode cX3_timeLeft 14 = .ok (.iload_n 3, 1) := by decide +kernel
theorem dX3_timeLeft_15 : decode cX3_timeLeft 15 = .ok (.aload_n 0, 1) := by decide +kernel
theorem dX3_timeLeft_16 : decode cX3_timeLeft 16 = .ok (.getfield 57, 3) := by decide +kernel
theorem dX3_timeLeft_19 : decode cX3_timeLeft 19 = .ok (.if_icmp .ge 75, 3) := by decide +kernel
theorem dX3_timeLeft_22 : decode cX3_timeLeft 22 = .ok (.aload_n 0, 1) := by decide +kernel
theorem dX3_timeLeft_23 : decode cX3_timeLeft 23 = .ok (.getfield 7, 3) := by decide +kernel
theorem dX3_timeLeft_26 : decode cX3_timeLeft 26 = .ok (.iload_n 3, 1) := by decide +kernel
theorem dX3_timeLeft_27 : decode cX3_timeLeft 27 = .ok (.iaload, 1) := by decide +kernel
theorem dX3_timeLeft_28 : decode cX3_timeLeft 28 = .ok (.iconst 2, 1) := by decide +kernel
theorem dX3_timeLeft_29 : decode cX3_timeLeft 29 = .ok (.if_icmp .ne 7, 3) := by decide +kernel
theorem dX3_timeLeft_32 : decode cX3_timeLeft 32 = .ok (.iconst 1, 1) := by decide +kernel
theorem dX3_timeLeft_33 : decode cX3_timeLeft 33 = .ok (.goto 4, 3) := by decide +kernel
theorem dX3_timeLeft_36 : decode cX3_timeLeft 36 = .ok (.iconst 0, 1) := by decide +kernel
theorem dX3_timeLeft_37 : decode cX3_timeLeft 37 = .ok (.istore 4, 2) := by decide +kernel
theorem dX3_timeLeft_39 : decode cX3_timeLeft 39 = .ok (.iload_n 1, 1) := by decide +kernel
theorem dX3_timeLeft_40 : decode cX3_timeLeft 40 = .ok (.iload_n 2, 1) := by decide +kernel
theorem dX3_timeLeft_41 : decode cX3_timeLeft 41 = .ok (.iload 4, 2) := by decide +kernel
theorem dX3_timeLeft_43 : decode cX3_timeLeft 43 = .ok (.if_icmp .ne 7, 3) := by decide +kernel
theorem dX3_timeLeft_46 : decode cX3_timeLeft 46 = .ok (.iconst 0, 1) := by decide +kernel
theorem dX3_timeLeft_47 : decode cX3_timeLeft 47 = .ok (.goto 4, 3) := by decide +kernel
theorem dX3_timeLeft_50 : decode cX3_timeLeft 50 = .ok (.iconst 2, 1) := by decide +kernel
theorem dX3_timeLeft_51 : decode cX3_timeLeft 51 = .ok (.iadd, 1) := by decide +kernel
theorem dX3_timeLeft_52 : decode cX3_timeLeft 52 = .ok (.istore_n 1, 1) := by decide +kernel
theorem dX3_timeLeft_53 : decode cX3_timeLeft 53 = .ok (.iload_n 1, 1) := by decide +kernel
theorem dX3_timeLeft_54 : decode cX3_timeLeft 54 = .ok (.aload_n 0, 1) := by decide +kernel
theorem dX3_timeLeft_55 : decode cX3_timeLeft 55 = .ok (.getfield 7, 3) := by decide +kernel
theorem dX3_timeLeft_58 : decode cX3_timeLeft 58 = .ok (.iload_n 3, 1) := by decide +kernel
theorem dX3_timeLeft_59 : decode cX3_timeLeft 59 = .ok (.iaload, 1) := by decide +kernel
theorem dX3_timeLeft_60 : decode cX3_timeLeft 60 = .ok (.iconst 3, 1) := by decide +kernel
theorem dX3_timeLeft_61 : decode cX3_timeLeft 61 = .ok (.if_icmp .ne 7, 3) := by decide +kernel
theorem dX3_timeLeft_64 : decode cX3_timeLeft 64 = .ok (.iconst 3, 1) := by decide +kernel
theorem dX3_timeLeft_65 : decode cX3_timeLeft 65 = .ok (.goto 18, 3) := by decide +kernel
theorem dX3_timeLeft_68 : decode cX3_timeLeft 68 = .ok (.aload_n 0, 1) := by decide +kernel
theorem dX3_timeLeft_69 : decode cX3_timeLeft 69 = .ok (.getfield 13, 3) := by decide +kernel
theorem dX3_timeLeft_72 : decode cX3_timeLeft 72 = .ok (.iload_n 3, 1) := by decide +kernel
theorem dX3_timeLeft_73 : decode cX3_timeLeft 73 = .ok (.iaload, 1) := by decide +kernel
theorem dX3_timeLeft_74 : decode cX3_timeLeft 74 = .ok (.aload_n 0, 1) := by decide +kernel
theorem dX3_timeLeft_75 : decode cX3_timeLeft 75 = .ok (.getfield 16, 3) := by decide +kernel
theorem dX3_timeLeft_78 : decode cX3_timeLeft 78 = .ok (.iload_n 3, 1) := by decide +kernel
theorem dX3_timeLeft_79 : decode cX3_timeLeft 79 = .ok (.iaload, 1) := by decide +kernel
theorem dX3_timeLeft_80 : decode cX3_timeLeft 80 = .ok (.invokestatic 40, 3) := by decide +kernel
theorem dX3_timeLeft_83 : decode cX3_timeLeft 83 = .ok (.iadd, 1) := by decide +kernel
theorem dX3_timeLeft_84 : decode cX3_timeLeft 84 = .ok (.istore_n 1, 1) := by decide +kernel
theorem dX3_timeLeft_85 : decode cX3_timeLeft 85 = .ok (.iload 4, 2) := by decide +kernel
theorem dX3_timeLeft_87 : decode cX3_timeLeft 87 = .ok (.istore_n 2, 1) := by decide +kernel
theorem dX3_timeLeft_88 : decode cX3_timeLeft 88 = .ok (.iinc 3 1, 3) := by decide +kernel
theorem dX3_timeLeft_91 : decode cX3_timeLeft 91 = .ok (.goto (-77), 3) := by decide +kernel
theorem dX3_timeLeft_94 : decode cX3_timeLeft 94 = .ok (.aload_n 0, 1) := by decide +kernel
theorem dX3_timeLeft_95 : decode cX3_timeLeft 95 = .ok (.getfield 57, 3) := by decide +kernel
theorem dX3_timeLeft_98 : decode cX3_timeLeft 98 = .ok (.ifCond .ne 7, 3) := by decide +kernel
theorem dX3_timeLeft_101 : decode cX3_timeLeft 101 = .ok (.iconst 0, 1) := by decide +kernel
theorem dX3_timeLeft_102 : decode cX3_timeLeft 102 = .ok (.goto 14, 3) := by decide +kernel
theorem dX3_timeLeft_105 : decode cX3_timeLeft 105 = .ok (.iload_n 1, 1) := by decide +kernel
theorem dX3_timeLeft_106 : decode cX3_timeLeft 106 = .ok (.aload_n 0, 1) := by decide +kernel
theorem dX3_timeLeft_107 : decode cX3_timeLeft 107 = .ok (.getfield 105, 3) := by decide +kernel
theorem dX3_timeLeft_110 : decode cX3_timeLeft 110 = .ok (.isub, 1) := by decide +kernel
theorem dX3_timeLeft_111 : decode cX3_timeLeft 111 = .ok (.aload_n 0, 1) := by decide +kernel
theorem dX3_timeLeft_112 : decode cX3_timeLeft 112 = .ok (.getfield 108, 3) := by decide +kernel
theorem dX3_timeLeft_115 : decode cX3_timeLeft 115 = .ok (.isub, 1) := by decide +kernel
theorem dX3_timeLeft_116 : decode cX3_timeLeft 116 = .ok (.ireturn, 1) := by decide +kernel
theorem dX3_stepsUp_0 : decode cX3_stepsUp 0 = .ok (.aload_n 0, 1) := by decide +kernel
theorem dX3_stepsUp_1 : decode cX3_stepsUp 1 = .ok (.iconst 0, 1) := by decide +kernel
theorem dX3_stepsUp_2 : decode cX3_stepsUp 2 = .ok (.putfield 28, 3) := by decide +kernel
theorem dX3_stepsUp_5 : decode cX3_stepsUp 5 = .ok (.aload_n 0, 1) := by decide +kernel
theorem dX3_stepsUp_6 : decode cX3_stepsUp 6 = .ok (.getfield 136, 3) := by decide +kernel
theorem dX3_stepsUp_9 : decode cX3_stepsUp 9 = .ok (.ireturn, 1) := by decide +kernel
theorem dX3_stepsDown_0 : decode cX3_stepsDown 0 = .ok (.aload_n 0, 1) := by decide +kernel
theorem dX3_stepsDown_1 : decode cX3_stepsDown 1 = .ok (.iconst 0, 1) := by decide +kernel
theorem dX3_stepsDown_2 : decode cX3_stepsDown 2 = .ok (.putfield 28, 3) := by decide +kernel
theorem dX3_stepsDown_5 : decode cX3_stepsDown 5 = .ok (.aload_n 0, 1) := by decide +kernel
theorem dX3_stepsDown_6 : decode cX3_stepsDown 6 = .ok (.getfield 133, 3) := by decide +kernel
theorem dX3_stepsDown_9 : decode cX3_stepsDown 9 = .ok (.ireturn, 1) := by decide +kernel
theorem dX3_isMarked_0 : decode cX3_isMarked 0 = .ok (.bipush 100, 2) := by decide +kernel
theorem dX3_isMarked_2 : decode cX3_isMarked 2 = .ok (.iload_n 2, 1) := by decide +kernel
theorem dX3_isMarked_3 : decode cX3_isMarked 3 = .ok (.imul, 1) := by decide +kernel
theorem dX3_isMarked_4 : decode cX3_isMarked 4 = .ok (.iload_n 1, 1) := by decide +kernel
theorem dX3_isMarked_5 : decode cX3_isMarked 5 = .ok (.iadd, 1) := by decide +kernel
theorem dX3_isMarked_6 : decode cX3_isMarked 6 = .ok (.istore_n 3, 1) := by decide +kernel
theorem dX3_isMarked_7 : decode cX3_isMarked 7 = .ok (.aload_n 0, 1) := by decide +kernel
theorem dX3_isMarked_8 : decode cX3_isMarked 8 = .ok (.iload_n 1, 1) := by decide +kernel
theorem dX3_isMarked_9 : decode cX3_isMarked 9 = .ok (.iload_n 2, 1) := by decide +kernel
theorem dX3_isMarked_10 : decode cX3_isMarked 10 = .ok (.invokestatic 50, 3) := by decide +kernel
theorem dX3_isMarked_13 : decode cX3_isMarked 13 = .ok (.ifCond .eq 7, 3) := by decide +kernel
theorem dX3_isMarked_16 : decode cX3_isMarked 16 = .ok (.iconst 0, 1) := by decide +kernel
theorem dX3_isMarked_17 : decode cX3_isMarked 17 = .ok (.goto 4, 3) := by decide +kernel
theorem dX3_isMarked_20 : decode cX3_isMarked 20 = .ok (.iconst 1, 1) := by decide +kernel
theorem dX3_isMarked_21 : decode cX3_isMarked 21 = .ok (.invokevirtual 92, 3) := by decide +kernel
theorem dX3_isMarked_24 : decode cX3_isMarked 24 = .ok (.ifCond .eq 27, 3) := by decide +kernel
theorem dX3_isMarked_27 : decode cX3_isMarked 27 = .ok (.aload_n 0, 1) := by decide +kernel
theorem dX3_isMarked_28 : decode cX3_isMarked 28 = .ok (.getfield 22, 3) := by decide +kernel
theorem dX3_isMarked_31 : decode cX3_isMarked 31 = .ok (.iload_n 3, 1) := by decide +kernel
theorem dX3_isMarked_32 : decode cX3_isMarked 32 = .ok (.bipush 32, 2) := by decide +kernel
theorem dX3_isMarked_34 : decode cX3_isMarked 34 = .ok (.idiv, 1) := by decide +kernel
theorem dX3_isMarked_35 : decode cX3_isMarked 35 = .ok (.iaload, 1) := by decide +kernel
theorem dX3_isMarked_36 : decode cX3_isMarked 36 = .ok (.iload_n 3, 1) := by decide +kernel
theorem dX3_isMarked_37 : decode cX3_isMarked 37 = .ok (.bipush 32, 2) := by decide +kernel
theorem dX3_isMarked_39 : decode cX3_isMarked 39 = .ok (.irem, 1) := by decide +kernel
theorem dX3_isMarked_40 : decode cX3_isMarked 40 = .ok (.ishr, 1) := by decide +kernel
theorem dX3_isMarked_41 : decode cX3_isMarked 41 = .ok (.iconst 1, 1) := by decide +kernel
theorem dX3_isMarked_42 : decode cX3_isMarked 42 = .ok (.iand, 1) := by decide +kernel
theorem dX3_isMarked_43 : decode cX3_isMarked 43 = .ok (.iconst 1, 1) := by decide +kernel
theorem dX3_isMarked_44 : decode cX3_isMarked 44 = .ok (.if_icmp .ne 7, 3) := by decide +kernel
theorem dX3_isMarked_47 : decode cX3_isMarked 47 = .ok (.iconst 1, 1) := by decide +kernel
theorem dX3_isMarked_48 : decode cX3_isMarked 48 = .ok (.goto 4, 3) := by decide +kernel
theorem dX3_isMarked_51 : decode cX3_isMarked 51 = .ok (.iconst 0, 1) := by decide +kernel
theorem dX3_isMarked_52 : decode cX3_isMarked 52 = .ok (.ireturn, 1) := by decide +kernel
theorem dX3_bits_0 : decode cX3_bits 0 = .ok (.iconst 0, 1) := by decide +kernel
theorem dX3_bits_1 : decode cX3_bits 1 = .ok (.istore_n 1, 1) := by decide +kernel
theorem dX3_bits_2 : decode cX3_bits 2 = .ok (.iconst 0, 1) := by decide +kernel
theorem dX3_bits_3 : decode cX3_bits 3 = .ok (.istore_n 2, 1) := by decide +kernel
theorem dX3_bits_4 : decode cX3_bits 4 = .ok (.iload_n 2, 1) := by decide +kernel
theorem dX3_bits_5 : decode cX3_bits 5 = .ok (.bipush 32, 2) := by decide +kernel
theorem dX3_bits_7 : decode cX3_bits 7 = .ok (.if_icmp .ge 17, 3) := by decide +kernel
theorem dX3_bits_10 : decode cX3_bits 10 = .ok (.iload_n 1, 1) := by decide +kernel
theorem dX3_bits_11 : decode cX3_bits 11 = .ok (.iload_n 0, 1) := by decide +kernel
theorem dX3_bits_12 : decode cX3_bits 12 = .ok (.iload_n 2, 1) := by decide +kernel
theorem dX3_bits_13 : decode cX3_bits 13 = .ok (.ishr, 1) := by decide +kernel
theorem dX3_bits_14 : decode cX3_bits 14 = .ok (.iconst 1, 1) := by decide +kernel
theorem dX3_bits_15 : decode cX3_bits 15 = .ok (.iand, 1) := by decide +kernel
theorem dX3_bits_16 : decode cX3_bits 16 = .ok (.iadd, 1) := by decide +kernel
theorem dX3_bits_17 : decode cX3_bits 17 = .ok (.istore_n 1, 1) := by decide +kernel
theorem dX3_bits_18 : decode cX3_bits 18 = .ok (.iinc 2 1, 3) := by decide +kernel
theorem dX3_bits_21 : decode cX3_bits 21 = .ok (.goto (-17), 3) := by decide +kernel
theorem dX3_bits_24 : decode cX3_bits 24 = .ok (.iload_n 1, 1) := by decide +kernel
theorem dX3_bits_25 : decode cX3_bits 25 = .ok (.ireturn, 1) := by decide +kernel
theorem dX3_marks_0 : decode cX3_marks 0 = .ok (.aload_n 0, 1) := by decide +kernel
theorem dX3_marks_1 : decode cX3_marks 1 = .ok (.iconst 0, 1) := by decide +kernel
theorem dX3_marks_2 : decode cX3_marks 2 = .ok (.putfield 28, 3) := by decide +kernel
theorem dX3_marks_5 : decode cX3_marks 5 = .ok (.iconst 0, 1) := by decide +kernel
theorem dX3_marks_6 : decode cX3_marks 6 = .ok (.istore_n 1, 1) := by decide +kernel
theorem dX3_marks_7 : decode cX3_marks 7 = .ok (.iconst 0, 1) := by decide +kernel
theorem dX3_marks_8 : decode cX3_marks 8 = .ok (.istore_n 2, 1) := by decide +kernel
theorem dX3_marks_9 : decode cX3_marks 9 = .ok (.iload_n 2, 1) := by decide +kernel
theorem dX3_marks_10 : decode cX3_marks 10 = .ok (.sipush 320, 3) := by decide +kernel
theorem dX3_marks_13 : decode cX3_marks 13 = .ok (.if_icmp .ge 21, 3) := by decide +kernel
theorem dX3_marks_16 : decode cX3_marks 16 = .ok (.iload_n 1, 1) := by decide +kernel
theorem dX3_marks_17 : decode cX3_marks 17 = .ok (.aload_n 0, 1) := by decide +kernel
theorem dX3_marks_18 : decode cX3_marks 18 = .ok (.getfield 22, 3) := by decide +kernel
theorem dX3_marks_21 : decode cX3_marks 21 = .ok (.iload_n 2, 1) := by decide +kernel
theorem dX3_marks_22 : decode cX3_marks 22 = .ok (.iaload, 1) := by decide +kernel
theorem dX3_marks_23 : decode cX3_marks 23 = .ok (.invokestatic 160, 3) := by decide +kernel
theorem dX3_marks_26 : decode cX3_marks 26 = .ok (.iadd, 1) := by decide +kernel
theorem dX3_marks_27 : decode cX3_marks 27 = .ok (.istore_n 1, 1) := by decide +kernel
theorem dX3_marks_28 : decode cX3_marks 28 = .ok (.iinc 2 1, 3) := by decide +kernel
theorem dX3_marks_31 : decode cX3_marks 31 = .ok (.goto (-22), 3) := by decide +kernel
theorem dX3_marks_34 : decode cX3_marks 34 = .ok (.iload_n 1, 1) := by decide +kernel
theorem dX3_marks_35 : decode cX3_marks 35 = .ok (.ireturn, 1) := by decide +kernel
theorem dX3_marksInTheEnd_0 : decode cX3_marksInTheEnd 0 = .ok (.aload_n 0, 1) := by decide +kernel
theorem dX3_marksInTheEnd_1 : decode cX3_marksInTheEnd 1 = .ok (.iconst 0, 1) := by decide +kernel
theorem dX3_marksInTheEnd_2 : decode cX3_marksInTheEnd 2 = .ok (.putfield 28, 3) := by decide +kernel
theorem dX3_marksInTheEnd_5 : decode cX3_marksInTheEnd 5 = .ok (.iconst 0, 1) := by decide +kernel
theorem dX3_marksInTheEnd_6 : decode cX3_marksInTheEnd 6 = .ok (.istore_n 1, 1) := by decide +kernel
theorem dX3_marksInTheEnd_7 : decode cX3_marksInTheEnd 7 = .ok (.iconst 0, 1) := by decide +kernel
theorem dX3_marksInTheEnd_8 : decode cX3_marksInTheEnd 8 = .ok (.istore_n 2, 1) := by decide +kernel
theorem dX3_marksInTheEnd_9 : decode cX3_marksInTheEnd 9 = .ok (.iload_n 2, 1) := by decide +kernel
theorem dX3_marksInTheEnd_10 : decode cX3_marksInTheEnd 10 = .ok (.sipush 320, 3) := by decide +kernel
theorem dX3_marksInTheEnd_13 : decode cX3_marksInTheEnd 13 = .ok (.if_icmp .ge 21, 3) := by decide +kernel
theorem dX3_marksInTheEnd_16 : decode cX3_marksInTheEnd 16 = .ok (.iload_n 1, 1) := by decide +kernel
theorem dX3_marksInTheEnd_17 : decode cX3_marksInTheEnd 17 = .ok (.aload_n 0, 1) := by decide +kernel
theorem dX3_marksInTheEnd_18 : decode cX3_marksInTheEnd 18 = .ok (.getfield 25, 3) := by decide +kernel
theorem dX3_marksInTheEnd_21 : decode cX3_marksInTheEnd 21 = .ok (.iload_n 2, 1) := by decide +kernel
theorem dX3_marksInTheEnd_22 : decode cX3_marksInTheEnd 22 = .ok (.iaload, 1) := by decide +kernel
theorem dX3_marksInTheEnd_23 : decode cX3_marksInTheEnd 23 = .ok (.invokestatic 160, 3) := by decide +kernel
theorem dX3_marksInTheEnd_26 : decode cX3_marksInTheEnd 26 = .ok (.iadd, 1) := by decide +kernel
theorem dX3_marksInTheEnd_27 : decode cX3_marksInTheEnd 27 = .ok (.istore_n 1, 1) := by decide +kernel
theorem dX3_marksInTheEnd_28 : decode cX3_marksInTheEnd 28 = .ok (.iinc 2 1, 3) := by decide +kernel
theorem dX3_marksInTheEnd_31 : decode cX3_marksInTheEnd 31 = .ok (.goto (-22), 3) := by decide +kernel
theorem dX3_marksInTheEnd_34 : decode cX3_marksInTheEnd 34 = .ok (.iload_n 1, 1) := by decide +kernel
theorem dX3_marksInTheEnd_35 : decode cX3_marksInTheEnd 35 = .ok (.ireturn, 1) := by decide +kernel
end
section
theorem dJ9_abs_0f7a4_0 : decode cJ9_abs_0f7a4 0 = .ok (.iload_n 0, 1) := by decide +kernel
theorem dJ9_abs_0f7a4_1 : decode cJ9_abs_0f7a4 1 = .ok (.ifCond .ge 8, 3) := by decide +kernel
theorem dJ9_abs_0f7a4_4 : decode cJ9_abs_0f7a4 4 = .ok (.iload_n 0, 1) := by decide +kernel
theorem dJ9_abs_0f7a4_5 : decode cJ9_abs_0f7a4 5 = .ok (.ineg, 1) := by decide +kernel
theorem dJ9_abs_0f7a4_6 : decode cJ9_abs_0f7a4 6 = .ok (.goto 4, 3) := by decide +kernel
theorem dJ9_abs_0f7a4_9 : decode cJ9_abs_0f7a4 9 = .ok (.iload_n 0, 1) := by decide +kernel
theorem dJ9_abs_0f7a4_10 : decode cJ9_abs_0f7a4 10 = .ok (.ireturn, 1) := by decide +kernel
theorem dJ9_max_7cf53_0 : decode cJ9_max_7cf53 0 = .ok (.iload_n 0, 1) := by decide +kernel
theorem dJ9_max_7cf53_1 : decode cJ9_max_7cf53 1 = .ok (.iload_n 1, 1) := by decide +kernel
theorem dJ9_max_7cf53_2 : decode cJ9_max_7cf53 2 = .ok (.if_icmp .lt 7, 3) := by decide +kernel
theorem dJ9_max_7cf53_5 : decode cJ9_max_7cf53 5 = .ok (.iload_n 0, 1) := by decide +kernel
theorem dJ9_max_7cf53_6 : decode cJ9_max_7cf53 6 = .ok (.goto 4, 3) := by decide +kernel
theorem dJ9_max_7cf53_9 : decode cJ9_max_7cf53 9 = .ok (.iload_n 1, 1) := by decide +kernel
theorem dJ9_max_7cf53_10 : decode cJ9_max_7cf53 10 = .ok (.ireturn, 1) := by decide +kernel
theorem dJ9_min_7cf53_0 : decode cJ9_min_7cf53 0 = .ok (.iload_n 0, 1) := by decide +kernel
theorem dJ9_min_7cf53_1 : decode cJ9_min_7cf53 1 = .ok (.iload_n 1, 1) := by decide +kernel
theorem dJ9_min_7cf53_2 : decode cJ9_min_7cf53 2 = .ok (.if_icmp .gt 7, 3) := by decide +kernel
theorem dJ9_min_7cf53_5 : decode cJ9_min_7cf53 5 = .ok (.iload_n 0, 1) := by decide +kernel
theorem dJ9_min_7cf53_6 : decode cJ9_min_7cf53 6 = .ok (.goto 4, 3) := by decide +kernel
theorem dJ9_min_7cf53_9 : decode cJ9_min_7cf53 9 = .ok (.iload_n 1, 1) := by decide +kernel
theorem dJ9_min_7cf53_10 : decode cJ9_min_7cf53 10 = .ok (.ireturn, 1) := by decide +kernel
theorem dJxa1e45_init_da8c8_0 : decode cJxa1e45_init_da8c8 0 = .ok (.aload_n 0, 1) := by decide +kernel
theorem dJxa1e45_init_da8c8_1 : decode cJxa1e45_init_da8c8 1 = .ok (.invokespecial 1, 3) := by decide +kernel
theorem dJxa1e45_init_da8c8_4 : decode cJxa1e45_init_da8c8 4 = .ok (.return_, 1) := by decide +kernel
theorem dJxc12de_init_da8c8_0 : decode cJxc12de_init_da8c8 0 = .ok (.aload_n 0, 1) := by decide +kernel
theorem dJxc12de_init_da8c8_1 : decode cJxc12de_init_da8c8 1 = .ok (.invokespecial 1, 3) := by decide +kernel
theorem dJxc12de_init_da8c8_4 : decode cJxc12de_init_da8c8 4 = .ok (.aload_n 0, 1) := by decide +kernel
theorem dJxc12de_init_da8c8_5 : decode cJxc12de_init_da8c8 5 = .ok (.iconst 0, 1) := by decide +kernel
theorem dJxc12de_init_da8c8_6 : decode cJxc12de_init_da8c8 6 = .ok (.putfield 7, 3) := by decide +kernel
theorem dJxc12de_init_da8c8_9 : decode cJxc12de_init_da8c8 9 = .ok (.return_, 1) := by decide +kernel
theorem dJx4a65c_init_da8c8_0 : decode cJx4a65c_init_da8c8 0 = .ok (.aload_n 0, 1) := by decide +kernel
theorem dJx4a65c_init_da8c8_1 : decode cJx4a65c_init_da8c8 1 = .ok (.invokespecial 1, 3) := by decide +kernel
theorem dJx4a65c_init_da8c8_4 : decode cJx4a65c_init_da8c8 4 = .ok (.aload_n 0, 1) := by decide +kernel
theorem dJx4a65c_init_da8c8_5 : decode cJx4a65c_init_da8c8 5 = .ok (.getstatic 39, 3) := by decide +kernel
theorem dJx4a65c_init_da8c8_8 : decode cJx4a65c_init_da8c8 8 = .ok (.putfield 9, 3) := by decide +kernel
theorem dJx4a65c_init_da8c8_11 : decode cJx4a65c_init_da8c8 11 = .ok (.return_, 1) := by decide +kernel
theorem dJx4a65c_grow_92f84_0 : decode cJx4a65c_grow_92f84 0 = .ok (.aload_n 0, 1) := by decide +kernel
theorem dJx4a65c_grow_92f84_1 : decode cJx4a65c_grow_92f84 1 = .ok (.getfield 9, 3) := by decide +kernel
theorem dJx4a65c_grow_92f84_4 : decode cJx4a65c_grow_92f84 4 = .ok (.arraylength, 1) := by decide +kernel
theorem dJx4a65c_grow_92f84_5 : decode cJx4a65c_grow_92f84 5 = .ok (.istore_n 2, 1) := by decide +kernel
theorem dJx4a65c_grow_92f84_6 : decode cJx4a65c_grow_92f84 6 = .ok (.iload_n 2, 1) := by decide +kernel
theorem dJx4a65c_grow_92f84_7 : decode cJx4a65c_grow_92f84 7 = .ok (.ifCond .gt 13, 3) := by decide +kernel
theorem dJx4a65c_grow_92f84_10 : decode cJx4a65c_grow_92f84 10 = .ok (.aload_n 0, 1) := by decide +kernel
theorem dJx4a65c_grow_92f84_11 : decode cJx4a65c_grow_92f84 11 = .ok (.getfield 9, 3) := by decide +kernel
theorem dJx4a65c_grow_92f84_14 : decode cJx4a65c_grow_92f84 14 = .ok (.getstatic 39, 3) := by decide +kernel
theorem dJx4a65c_grow_92f84_17 : decode cJx4a65c_grow_92f84 17 = .ok (.if_acmp .eq 28, 3) := by decide +kernel
theorem dJx4a65c_grow_92f84_20 : decode cJx4a65c_grow_92f84 20 = .ok (.iload_n 2, 1) := by decide +kernel
theorem dJx4a65c_grow_92f84_21 : decode cJx4a65c_grow_92f84 21 = .ok (.iload_n 1, 1) := by decide +kernel
theorem dJx4a65c_grow_92f84_22 : decode cJx4a65c_grow_92f84 22 = .ok (.iload_n 2, 1) := by decide +kernel
theorem dJx4a65c_grow_92f84_23 : decode cJx4a65c_grow_92f84 23 = .ok (.isub, 1) := by decide +kernel
theorem dJx4a65c_grow_92f84_24 : decode cJx4a65c_grow_92f84 24 = .ok (.iload_n 2, 1) := by decide +kernel
theorem dJx4a65c_grow_92f84_25 : decode cJx4a65c_grow_92f84 25 = .ok (.iconst 1, 1) := by decide +kernel
theorem dJx4a65c_grow_92f84_26 : decode cJx4a65c_grow_92f84 26 = .ok (.ishr, 1) := by decide +kernel
theorem dJx4a65c_grow_92f84_27 : decode cJx4a65c_grow_92f84 27 = .ok (.invokestatic 73, 3) := by decide +kernel
theorem dJx4a65c_grow_92f84_30 : decode cJx4a65c_grow_92f84 30 = .ok (.istore_n 3, 1) := by decide +kernel
theorem dJx4a65c_grow_92f84_31 : decode cJx4a65c_grow_92f84 31 = .ok (.aload_n 0, 1) := by decide +kernel
theorem dJx4a65c_grow_92f84_32 : decode cJx4a65c_grow_92f84 32 = .ok (.aload_n 0, 1) := by decide +kernel
theorem dJx4a65c_grow_92f84_33 : decode cJx4a65c_grow_92f84 33 = .ok (.getfield 9, 3) := by decide +kernel
theorem dJx4a65c_grow_92f84_36 : decode cJx4a65c_grow_92f84 36 = .ok (.iload_n 3, 1) := by decide +kernel
theorem dJx4a65c_grow_92f84_37 : decode cJx4a65c_grow_92f84 37 = .ok (.invokestatic 66, 3) := by decide +kernel
theorem dJx4a65c_grow_92f84_40 : decode cJx4a65c_grow_92f84 40 = .ok (.dup_x1, 1) := by decide +kernel
theorem dJx4a65c_grow_92f84_41 : decode cJx4a65c_grow_92f84 41 = .ok (.putfield 9, 3) := by decide +kernel
theorem dJx4a65c_grow_92f84_44 : decode cJx4a65c_grow_92f84 44 = .ok (.areturn, 1) := by decide +kernel
theorem dJx4a65c_grow_92f84_45 : decode cJx4a65c_grow_92f84 45 = .ok (.aload_n 0, 1) := by decide +kernel
theorem dJx4a65c_grow_92f84_46 : decode cJx4a65c_grow_92f84 46 = .ok (.bipush 10, 2) := by decide +kernel
theorem dJx4a65c_grow_92f84_48 : decode cJx4a65c_grow_92f84 48 = .ok (.iload_n 1, 1) := by decide +kernel
theorem dJx4a65c_grow_92f84_49 : decode cJx4a65c_grow_92f84 49 = .ok (.invokestatic 79, 3) := by decide +kernel
theorem dJx4a65c_grow_92f84_52 : decode cJx4a65c_grow_92f84 52 = .ok (.anewarray 7, 3) := by decide +kernel
theorem dJx4a65c_grow_92f84_55 : decode cJx4a65c_grow_92f84 55 = .ok (.dup_x1, 1) := by decide +kernel
theorem dJx4a65c_grow_92f84_56 : decode cJx4a65c_grow_92f84 56 = .ok (.putfield 9, 3) := by decide +kernel
theorem dJx4a65c_grow_92f84_59 : decode cJx4a65c_grow_92f84 59 = .ok (.areturn, 1) := by decide +kernel
theorem dJx4a65c_grow_d5877_0 : decode cJx4a65c_grow_d5877 0 = .ok (.aload_n 0, 1) := by decide +kernel
theorem dJx4a65c_grow_d5877_1 : decode cJx4a65c_grow_d5877 1 = .ok (.aload_n 0, 1) := by decide +kernel
theorem dJx4a65c_grow_d5877_2 : decode cJx4a65c_grow_d5877 2 = .ok (.getfield 48, 3) := by decide +kernel
theorem dJx4a65c_grow_d5877_5 : decode cJx4a65c_grow_d5877 5 = .ok (.iconst 1, 1) := by decide +kernel
theorem dJx4a65c_grow_d5877_6 : decode cJx4a65c_grow_d5877 6 = .ok (.iadd, 1) := by decide +kernel
theorem dJx4a65c_grow_d5877_7 : decode cJx4a65c_grow_d5877 7 = .ok (.invokevirtual 69, 3) := by decide +kernel
theorem dJx4a65c_grow_d5877_10 : decode cJx4a65c_grow_d5877 10 = .ok (.areturn, 1) := by decide +kernel
theorem dJx4a65c_size_8abf5_0 : decode cJx4a65c_size_8abf5 0 = .ok (.aload_n 0, 1) := by decide +kernel
theorem dJx4a65c_size_8abf5_1 : decode cJx4a65c_size_8abf5 1 = .ok (.getfield 48, 3) := by decide +kernel
theorem dJx4a65c_size_8abf5_4 : decode cJx4a65c_size_8abf5 4 = .ok (.ireturn, 1) := by decide +kernel
theorem dJx4a65c_isEmpty_aae02_0 : decode cJx4a65c_isEmpty_aae02 0 = .ok (.aload_n 0, 1) := by decide +kernel
theorem dJx4a65c_isEmpty_aae02_1 : decode cJx4a65c_isEmpty_aae02 1 = .ok (.getfield 48, 3) := by decide +kernel
theorem dJx4a65c_isEmpty_aae02_4 : decode cJx4a65c_isEmpty_aae02 4 = .ok (.ifCond .ne 7, 3) := by decide +kernel
theorem dJx4a65c_isEmpty_aae02_7 : decode cJx4a65c_isEmpty_aae02 7 = .ok (.iconst 1, 1) := by decide +kernel
theorem dJx4a65c_isEmpty_aae02_8 : decode cJx4a65c_isEmpty_aae02 8 = .ok (.goto 4, 3) := by decide +kernel
theorem dJx4a65c_isEmpty_aae02_11 : decode cJx4a65c_isEmpty_aae02 11 = .ok (.iconst 0, 1) := by decide +kernel
theorem dJx4a65c_isEmpty_aae02_12 : decode cJx4a65c_isEmpty_aae02 12 = .ok (.ireturn, 1) := by decide +kernel
theorem dJx4a65c_elementData_915e3_0 : decode cJx4a65c_elementData_915e3 0 = .ok (.aload_n 0, 1) := by decide +kernel
theorem dJx4a65c_elementData_915e3_1 : decode cJx4a65c_elementData_915e3 1 = .ok (.getfield 9, 3) := by decide +kernel
theorem dJx4a65c_elementData_915e3_4 : decode cJx4a65c_elementData_915e3 4 = .ok (.iload_n 1, 1) := by decide +kernel
theorem dJx4a65c_elementData_915e3_5 : decode cJx4a65c_elementData_915e3 5 = .ok (.aaload, 1) := by decide +kernel
theorem dJx4a65c_elementData_915e3_6 : decode cJx4a65c_elementData_915e3 6 = .ok (.areturn, 1) := by decide +kernel
theorem dJx4a65c_get_915e3_0 : decode cJx4a65c_get_915e3 0 = .ok (.iload_n 1, 1) := by decide +kernel
theorem dJx4a65c_get_915e3_1 : decode cJx4a65c_get_915e3 1 = .ok (.aload_n 0, 1) := by decide +kernel
theorem dJx4a65c_get_915e3_2 : decode cJx4a65c_get_915e3 2 = .ok (.getfield 48, 3) := by decide +kernel
theorem dJx4a65c_get_915e3_5 : decode cJx4a65c_get_915e3 5 = .ok (.invokestatic 118, 3) := by decide +kernel
theorem dJx4a65c_get_915e3_8 : decode cJx4a65c_get_915e3 8 = .ok (.pop, 1) := by decide +kernel
theorem dJx4a65c_get_915e3_9 : decode cJx4a65c_get_915e3 9 = .ok (.aload_n 0, 1) := by decide +kernel
theorem dJx4a65c_get_915e3_10 : decode cJx4a65c_get_915e3 10 = .ok (.iload_n 1, 1) := by decide +kernel
theorem dJx4a65c_get_915e3_11 : decode cJx4a65c_get_915e3 11 = .ok (.invokevirtual 123, 3) := by decide +kernel
theorem dJx4a65c_get_915e3_14 : decode cJx4a65c_get_915e3 14 = .ok (.areturn, 1) := by decide +kernel
theorem dJx4a65c_add_72be8_0 : decode cJx4a65c_add_72be8 0 = .ok (.iload_n 3, 1) := by decide +kernel
theorem dJx4a65c_add_72be8_1 : decode cJx4a65c_add_72be8 1 = .ok (.aload_n 2, 1) := by decide +kernel
theorem dJx4a65c_add_72be8_2 : decode cJx4a65c_add_72be8 2 = .ok (.arraylength, 1) := by decide +kernel
theorem dJx4a65c_add_72be8_3 : decode cJx4a65c_add_72be8 3 = .ok (.if_icmp .ne 8, 3) := by decide +kernel
theorem dJx4a65c_add_72be8_6 : decode cJx4a65c_add_72be8 6 = .ok (.aload_n 0, 1) := by decide +kernel
theorem dJx4a65c_add_72be8_7 : decode cJx4a65c_add_72be8 7 = .ok (.invokevirtual 129, 3) := by decide +kernel
theorem dJx4a65c_add_72be8_10 : decode cJx4a65c_add_72be8 10 = .ok (.astore_n 2, 1) := by decide +kernel
theorem dJx4a65c_add_72be8_11 : decode cJx4a65c_add_72be8 11 = .ok (.aload_n 2, 1) := by decide +kernel
theorem dJx4a65c_add_72be8_12 : decode cJx4a65c_add_72be8 12 = .ok (.iload_n 3, 1) := by decide +kernel
theorem dJx4a65c_add_72be8_13 : decode cJx4a65c_add_72be8 13 = .ok (.aload_n 1, 1) := by decide +kernel
theorem dJx4a65c_add_72be8_14 : decode cJx4a65c_add_72be8 14 = .ok (.aastore, 1) := by decide +kernel
theorem dJx4a65c_add_72be8_15 : decode cJx4a65c_add_72be8 15 = .ok (.aload_n 0, 1) := by decide +kernel
theorem dJx4a65c_add_72be8_16 : decode cJx4a65c_add_72be8 16 = .ok (.iload_n 3, 1) := by decide +kernel
theorem dJx4a65c_add_72be8_17 : decode cJx4a65c_add_72be8 17 = .ok (.iconst 1, 1) := by decide +kernel
theorem dJx4a65c_add_72be8_18 : decode cJx4a65c_add_72be8 18 = .ok (.iadd, 1) := by decide +kernel
theorem dJx4a65c_add_72be8_19 : decode cJx4a65c_add_72be8 19 = .ok (.putfield 48, 3) := by decide +kernel
theorem dJx4a65c_add_72be8_22 : decode cJx4a65c_add_72be8 22 = .ok (.return_, 1) := by decide +kernel
theorem dJx4a65c_add_9ea2d_0 : decode cJx4a65c_add_9ea2d 0 = .ok (.aload_n 0, 1) := by decide +kernel
theorem dJx4a65c_add_9ea2d_1 : decode cJx4a65c_add_9ea2d 1 = .ok (.dup, 1) := by decide +kernel
theorem dJx4a65c_add_9ea2d_2 : decode cJx4a65c_add_9ea2d 2 = .ok (.getfield 63, 3) := by decide +kernel
theorem dJx4a65c_add_9ea2d_5 : decode cJx4a65c_add_9ea2d 5 = .ok (.iconst 1, 1) := by decide +kernel
theorem dJx4a65c_add_9ea2d_6 : decode cJx4a65c_add_9ea2d 6 = .ok (.iadd, 1) := by decide +kernel
theorem dJx4a65c_add_9ea2d_7 : decode cJx4a65c_add_9ea2d 7 = .ok (.putfield 63, 3) := by decide +kernel
theorem dJx4a65c_add_9ea2d_10 : decode cJx4a65c_add_9ea2d 10 = .ok (.aload_n 0, 1) := by decide +kernel
theorem dJx4a65c_add_9ea2d_11 : decode cJx4a65c_add_9ea2d 11 = .ok (.aload_n 1, 1) := by decide +kernel
theorem dJx4a65c_add_9ea2d_12 : decode cJx4a65c_add_9ea2d 12 = .ok (.aload_n 0, 1) := by decide +kernel
theorem dJx4a65c_add_9ea2d_13 : decode cJx4a65c_add_9ea2d 13 = .ok (.getfield 9, 3) := by decide +kernel
theorem dJx4a65c_add_9ea2d_16 : decode cJx4a65c_add_9ea2d 16 = .ok (.aload_n 0, 1) := by decide +kernel
theorem dJx4a65c_add_9ea2d_17 : decode cJx4a65c_add_9ea2d 17 = .ok (.getfield 48, 3) := by decide +kernel
theorem dJx4a65c_add_9ea2d_20 : decode cJx4a65c_add_9ea2d 20 = .ok (.invokevirtual 131, 3) := by decide +kernel
theorem dJx4a65c_add_9ea2d_23 : decode cJx4a65c_add_9ea2d 23 = .ok (.iconst 1, 1) := by decide +kernel
theorem dJx4a65c_add_9ea2d_24 : decode cJx4a65c_add_9ea2d 24 = .ok (.ireturn, 1) := by decide +kernel
theorem dJx4a65c_remove_915e3_0 : decode cJx4a65c_remove_915e3 0 = .ok (.iload_n 1, 1) := by decide +kernel
theorem dJx4a65c_remove_915e3_1 : decode cJx4a65c_remove_915e3 1 = .ok (.aload_n 0, 1) := by decide +kernel
theorem dJx4a65c_remove_915e3_2 : decode cJx4a65c_remove_915e3 2 = .ok (.getfield 48, 3) := by decide +kernel
theorem dJx4a65c_remove_915e3_5 : decode cJx4a65c_remove_915e3 5 = .ok (.invokestatic 118, 3) := by decide +kernel
theorem dJx4a65c_remove_915e3_8 : decode cJx4a65c_remove_915e3 8 = .ok (.pop, 1) := by decide +kernel
theorem dJx4a65c_remove_915e3_9 : decode cJx4a65c_remove_915e3 9 = .ok (.aload_n 0, 1) := by decide +kernel
theorem dJx4a65c_remove_915e3_10 : decode cJx4a65c_remove_915e3 10 = .ok (.getfield 9, 3) := by decide +kernel
theorem dJx4a65c_remove_915e3_13 : decode cJx4a65c_remove_915e3 13 = .ok (.astore_n 2, 1) := by decide +kernel
theorem dJx4a65c_remove_915e3_14 : decode cJx4a65c_remove_915e3 14 = .ok (.aload_n 2, 1) := by decide +kernel
theorem dJx4a65c_remove_915e3_15 : decode cJx4a65c_remove_915e3 15 = .ok (.iload_n 1, 1) := by decide +kernel
theorem dJx4a65c_remove_915e3_16 : decode cJx4a65c_remove_915e3 16 = .ok (.aaload, 1) := by decide +kernel
theorem dJx4a65c_remove_915e3_17 : decode cJx4a65c_remove_915e3 17 = .ok (.astore_n 3, 1) := by decide +kernel
theorem dJx4a65c_remove_915e3_18 : decode cJx4a65c_remove_915e3 18 = .ok (.aload_n 0, 1) := by decide +kernel
theorem dJx4a65c_remove_915e3_19 : decode cJx4a65c_remove_915e3 19 = .ok (.aload_n 2, 1) := by decide +kernel
theorem dJx4a65c_remove_915e3_20 : decode cJx4a65c_remove_915e3 20 = .ok (.iload_n 1, 1) := by decide +kernel
theorem dJx4a65c_remove_915e3_21 : decode cJx4a65c_remove_915e3 21 = .ok (.invokevirtual 144, 3) := by decide +kernel
theorem dJx4a65c_remove_915e3_24 : decode cJx4a65c_remove_915e3 24 = .ok (.aload_n 3, 1) := by decide +kernel
theorem dJx4a65c_remove_915e3_25 : decode cJx4a65c_remove_915e3 25 = .ok (.areturn, 1) := by decide +kernel
theorem dJx4a65c_fastRemove_b59b0_0 : decode cJx4a65c_fastRemove_b59b0 0 = .ok (.aload_n 0, 1) := by decide +kernel
theorem dJx4a65c_fastRemove_b59b0_1 : decode cJx4a65c_fastRemove_b59b0 1 = .ok (.dup, 1) := by decide +kernel
theorem dJx4a65c_fastRemove_b59b0_2 : decode cJx4a65c_fastRemove_b59b0 2 = .ok (.getfield 63, 3) := by decide +kernel
theorem dJx4a65c_fastRemove_b59b0_5 : decode cJx4a65c_fastRemove_b59b0 5 = .ok (.iconst 1, 1) := by decide +kernel
theorem dJx4a65c_fastRemove_b59b0_6 : decode cJx4a65c_fastRemove_b59b0 6 = .ok (.iadd, 1) := by decide +kernel
theorem dJx4a65c_fastRemove_b59b0_7 : decode cJx4a65c_fastRemove_b59b0 7 = .ok (.putfield 63, 3) := by decide +kernel
theorem dJx4a65c_fastRemove_b59b0_10 : decode cJx4a65c_fastRemove_b59b0 10 = .ok (.aload_n 0, 1) := by decide +kernel
theorem dJx4a65c_fastRemove_b59b0_11 : decode cJx4a65c_fastRemove_b59b0 11 = .ok (.getfield 48, 3) := by decide +kernel
theorem dJx4a65c_fastRemove_b59b0_14 : decode cJx4a65c_fastRemove_b59b0 14 = .ok (.iconst 1, 1) := by decide +kernel
theorem dJx4a65c_fastRemove_b59b0_15 : decode cJx4a65c_fastRemove_b59b0 15 = .ok (.isub, 1) := by decide +kernel
theorem dJx4a65c_fastRemove_b59b0_16 : decode cJx4a65c_fastRemove_b59b0 16 = .ok (.dup, 1) := by decide +kernel
theorem dJx4a65c_fastRemove_b59b0_17 : decode cJx4a65c_fastRemove_b59b0 17 = .ok (.istore_n 3, 1) := by decide +kernel
theorem dJx4a65c_fastRemove_b59b0_18 : decode cJx4a65c_fastRemove_b59b0 18 = .ok (.iload_n 2, 1) := by decide +kernel
theorem dJx4a65c_fastRemove_b59b0_19 : decode cJx4a65c_fastRemove_b59b0 19 = .ok (.if_icmp .le 15, 3) := by decide +kernel
theorem dJx4a65c_fastRemove_b59b0_22 : decode cJx4a65c_fastRemove_b59b0 22 = .ok (.aload_n 1, 1) := by decide +kernel
theorem dJx4a65c_fastRemove_b59b0_23 : decode cJx4a65c_fastRemove_b59b0 23 = .ok (.iload_n 2, 1) := by decide +kernel
theorem dJx4a65c_fastRemove_b59b0_24 : decode cJx4a65c_fastRemove_b59b0 24 = .ok (.iconst 1, 1) := by decide +kernel
theorem dJx4a65c_fastRemove_b59b0_25 : decode cJx4a65c_fastRemove_b59b0 25 = .ok (.iadd, 1) := by decide +kernel
theorem dJx4a65c_fastRemove_b59b0_26 : decode cJx4a65c_fastRemove_b59b0 26 = .ok (.aload_n 1, 1) := by decide +kernel
theorem dJx4a65c_fastRemove_b59b0_27 : decode cJx4a65c_fastRemove_b59b0 27 = .ok (.iload_n 2, 1) := by decide +kernel
theorem dJx4a65c_fastRemove_b59b0_28 : decode cJx4a65c_fastRemove_b59b0 28 = .ok (.iload_n 3, 1) := by decide +kernel
theorem dJx4a65c_fastRemove_b59b0_29 : decode cJx4a65c_fastRemove_b59b0 29 = .ok (.iload_n 2, 1) := by decide +kernel
theorem dJx4a65c_fastRemove_b59b0_30 : decode cJx4a65c_fastRemove_b59b0 30 = .ok (.isub, 1) := by decide +kernel
theorem dJx4a65c_fastRemove_b59b0_31 : decode cJx4a65c_fastRemove_b59b0 31 = .ok (.invokestatic 112, 3) := by decide +kernel
theorem dJx4a65c_fastRemove_b59b0_34 : decode cJx4a65c_fastRemove_b59b0 34 = .ok (.aload_n 1, 1) := by decide +kernel
theorem dJx4a65c_fastRemove_b59b0_35 : decode cJx4a65c_fastRemove_b59b0 35 = .ok (.aload_n 0, 1) := by decide +kernel
theorem dJx4a65c_fastRemove_b59b0_36 : decode cJx4a65c_fastRemove_b59b0 36 = .ok (.iload_n 3, 1) := by decide +kernel
theorem dJx4a65c_fastRemove_b59b0_37 : decode cJx4a65c_fastRemove_b59b0 37 = .ok (.dup_x1, 1) := by decide +kernel
theorem dJx4a65c_fastRemove_b59b0_38 : decode cJx4a65c_fastRemove_b59b0 38 = .ok (.putfield 48, 3) := by decide +kernel
theorem dJx4a65c_fastRemove_b59b0_41 : decode cJx4a65c_fastRemove_b59b0 41 = .ok (.aconst_null, 1) := by decide +kernel
theorem dJx4a65c_fastRemove_b59b0_42 : decode cJx4a65c_fastRemove_b59b0 42 = .ok (.aastore, 1) := by decide +kernel
theorem dJx4a65c_fastRemove_b59b0_43 : decode cJx4a65c_fastRemove_b59b0 43 = .ok (.return_, 1) := by decide +kernel
theorem dJ7_copyOf_1904c_0 : decode cJ7_copyOf_1904c 0 = .ok (.aload_n 0, 1) := by decide +kernel
theorem dJ7_copyOf_1904c_1 : decode cJ7_copyOf_1904c 1 = .ok (.iload_n 1, 1) := by decide +kernel
theorem dJ7_copyOf_1904c_2 : decode cJ7_copyOf_1904c 2 = .ok (.aload_n 0, 1) := by decide +kernel
theorem dJ7_copyOf_1904c_3 : decode cJ7_copyOf_1904c 3 = .ok (.invokevirtual 86, 3) := by decide +kernel
theorem dJ7_copyOf_1904c_6 : decode cJ7_copyOf_1904c 6 = .ok (.invokestatic 300, 3) := by decide +kernel
theorem dJ7_copyOf_1904c_9 : decode cJ7_copyOf_1904c 9 = .ok (.areturn, 1) := by decide +kernel
theorem dJ7_copyOf_6403c_0 : decode cJ7_copyOf_6403c 0 = .ok (.aload_n 2, 1) := by decide +kernel
theorem dJ7_copyOf_6403c_1 : decode cJ7_copyOf_6403c 1 = .ok (.ldc 110, 2) := by decide +kernel
theorem dJ7_copyOf_6403c_3 : decode cJ7_copyOf_6403c 3 = .ok (.if_acmp .ne 10, 3) := by decide +kernel
theorem dJ7_copyOf_6403c_6 : decode cJ7_copyOf_6403c 6 = .ok (.iload_n 1, 1) := by decide +kernel
theorem dJ7_copyOf_6403c_7 : decode cJ7_copyOf_6403c 7 = .ok (.anewarray 2, 3) := by decide +kernel
theorem dJ7_copyOf_6403c_10 : decode cJ7_copyOf_6403c 10 = .ok (.goto 14, 3) := by decide +kernel
theorem dJ7_copyOf_6403c_13 : decode cJ7_copyOf_6403c 13 = .ok (.aload_n 2, 1) := by decide +kernel
theorem dJ7_copyOf_6403c_14 : decode cJ7_copyOf_6403c 14 = .ok (.invokevirtual 90, 3) := by decide +kernel
theorem dJ7_copyOf_6403c_17 : decode cJ7_copyOf_6403c 17 = .ok (.iload_n 1, 1) := by decide +kernel
theorem dJ7_copyOf_6403c_18 : decode cJ7_copyOf_6403c 18 = .ok (.invokestatic 95, 3) := by decide +kernel
theorem dJ7_copyOf_6403c_21 : decode cJ7_copyOf_6403c 21 = .ok (.checkcast 110, 3) := by decide +kernel
theorem dJ7_copyOf_6403c_24 : decode cJ7_copyOf_6403c 24 = .ok (.astore_n 3, 1) := by decide +kernel
theorem dJ7_copyOf_6403c_25 : decode cJ7_copyOf_6403c 25 = .ok (.aload_n 0, 1) := by decide +kernel
theorem dJ7_copyOf_6403c_26 : decode cJ7_copyOf_6403c 26 = .ok (.iconst 0, 1) := by decide +kernel
theorem dJ7_copyOf_6403c_27 : decode cJ7_copyOf_6403c 27 = .ok (.aload_n 3, 1) := by decide +kernel
theorem dJ7_copyOf_6403c_28 : decode cJ7_copyOf_6403c 28 = .ok (.iconst 0, 1) := by decide +kernel
theorem dJ7_copyOf_6403c_29 : decode cJ7_copyOf_6403c 29 = .ok (.aload_n 0, 1) := by decide +kernel
theorem dJ7_copyOf_6403c_30 : decode cJ7_copyOf_6403c 30 = .ok (.arraylength, 1) := by decide +kernel
theorem dJ7_copyOf_6403c_31 : decode cJ7_copyOf_6403c 31 = .ok (.iload_n 1, 1) := by decide +kernel
theorem dJ7_copyOf_6403c_32 : decode cJ7_copyOf_6403c 32 = .ok (.invokestatic 304, 3) := by decide +kernel
theorem dJ7_copyOf_6403c_35 : decode cJ7_copyOf_6403c 35 = .ok (.invokestatic 150, 3) := by decide +kernel
theorem dJ7_copyOf_6403c_38 : decode cJ7_copyOf_6403c 38 = .ok (.aload_n 3, 1) := by decide +kernel
theorem dJ7_copyOf_6403c_39 : decode cJ7_copyOf_6403c 39 = .ok (.areturn, 1) := by decide +kernel
theorem dJ15_checkIndex_7cf53_0 : decode cJ15_checkIndex_7cf53 0 = .ok (.iload_n 0, 1) := by decide +kernel
theorem dJ15_checkIndex_7cf53_1 : decode cJ15_checkIndex_7cf53 1 = .ok (.iload_n 1, 1) := by decide +kernel
theorem dJ15_checkIndex_7cf53_2 : decode cJ15_checkIndex_7cf53 2 = .ok (.aconst_null, 1) := by decide +kernel
theorem dJ15_checkIndex_7cf53_3 : decode cJ15_checkIndex_7cf53 3 = .ok (.invokestatic 105, 3) := by decide +kernel
theorem dJ15_checkIndex_7cf53_6 : decode cJ15_checkIndex_7cf53 6 = .ok (.ireturn, 1) := by decide +kernel
theorem dJ8_newLength_cabcc_0 : decode cJ8_newLength_cabcc 0 = .ok (.iload_n 0, 1) := by decide +kernel
theorem dJ8_newLength_cabcc_1 : decode cJ8_newLength_cabcc 1 = .ok (.iload_n 1, 1) := by decide +kernel
theorem dJ8_newLength_cabcc_2 : decode cJ8_newLength_cabcc 2 = .ok (.iload_n 2, 1) := by decide +kernel
theorem dJ8_newLength_cabcc_3 : decode cJ8_newLength_cabcc 3 = .ok (.invokestatic 194, 3) := by decide +kernel
theorem dJ8_newLength_cabcc_6 : decode cJ8_newLength_cabcc 6 = .ok (.iadd, 1) := by decide +kernel
theorem dJ8_newLength_cabcc_7 : decode cJ8_newLength_cabcc 7 = .ok (.istore_n 3, 1) := by decide +kernel
theorem dJ8_newLength_cabcc_8 : decode cJ8_newLength_cabcc 8 = .ok (.iconst 0, 1) := by decide +kernel
theorem dJ8_newLength_cabcc_9 : decode cJ8_newLength_cabcc 9 = .ok (.iload_n 3, 1) := by decide +kernel
theorem dJ8_newLength_cabcc_10 : decode cJ8_newLength_cabcc 10 = .ok (.if_icmp .ge 11, 3) := by decide +kernel
theorem dJ8_newLength_cabcc_13 : decode cJ8_newLength_cabcc 13 = .ok (.iload_n 3, 1) := by decide +kernel
theorem dJ8_newLength_cabcc_14 : decode cJ8_newLength_cabcc 14 = .ok (.ldc 200, 2) := by decide +kernel
theorem dJ8_newLength_cabcc_16 : decode cJ8_newLength_cabcc 16 = .ok (.if_icmp .gt 5, 3) := by decide +kernel
theorem dJ8_newLength_cabcc_19 : decode cJ8_newLength_cabcc 19 = .ok (.iload_n 3, 1) := by decide +kernel
theorem dJ8_newLength_cabcc_20 : decode cJ8_newLength_cabcc 20 = .ok (.ireturn, 1) := by decide +kernel
theorem dJ8_newLength_cabcc_21 : decode cJ8_newLength_cabcc 21 = .ok (.iload_n 0, 1) := by decide +kernel
theorem dJ8_newLength_cabcc_22 : decode cJ8_newLength_cabcc 22 = .ok (.iload_n 1, 1) := by decide +kernel
theorem dJ8_newLength_cabcc_23 : decode cJ8_newLength_cabcc 23 = .ok (.invokestatic 201, 3) := by decide +kernel
theorem dJ8_newLength_cabcc_26 : decode cJ8_newLength_cabcc 26 = .ok (.ireturn, 1) := by decide +kernel
theorem dJ8_hugeLength_7cf53_0 : decode cJ8_hugeLength_7cf53 0 = .ok (.iload_n 0, 1) := by decide +kernel
theorem dJ8_hugeLength_7cf53_1 : decode cJ8_hugeLength_7cf53 1 = .ok (.iload_n 1, 1) := by decide +kernel
theorem dJ8_hugeLength_7cf53_2 : decode cJ8_hugeLength_7cf53 2 = .ok (.iadd, 1) := by decide +kernel
theorem dJ8_hugeLength_7cf53_3 : decode cJ8_hugeLength_7cf53 3 = .ok (.istore_n 2, 1) := by decide +kernel
theorem dJ8_hugeLength_7cf53_4 : decode cJ8_hugeLength_7cf53 4 = .ok (.iload_n 2, 1) := by decide +kernel
theorem dJ8_hugeLength_7cf53_5 : decode cJ8_hugeLength_7cf53 5 = .ok (.ifCond .ge 44, 3) := by decide +kernel
theorem dJ8_hugeLength_7cf53_8 : decode cJ8_hugeLength_7cf53 8 = .ok (.new 204, 3) := by decide +kernel
theorem dJ8_hugeLength_7cf53_11 : decode cJ8_hugeLength_7cf53 11 = .ok (.dup, 1) := by decide +kernel
theorem dJ8_hugeLength_7cf53_12 : decode cJ8_hugeLength_7cf53 12 = .ok (.new 89, 3) := by decide +kernel
theorem dJ8_hugeLength_7cf53_15 : decode cJ8_hugeLength_7cf53 15 = .ok (.dup, 1) := by decide +kernel
theorem dJ8_hugeLength_7cf53_16 : decode cJ8_hugeLength_7cf53 16 = .ok (.invokespecial 91, 3) := by decide +kernel
theorem dJ8_hugeLength_7cf53_19 : decode cJ8_hugeLength_7cf53 19 = .ok (.ldc 206, 2) := by decide +kernel
theorem dJ8_hugeLength_7cf53_21 : decode cJ8_hugeLength_7cf53 21 = .ok (.invokevirtual 94, 3) := by decide +kernel
theorem dJ8_hugeLength_7cf53_24 : decode cJ8_hugeLength_7cf53 24 = .ok (.iload_n 0, 1) := by decide +kernel
theorem dJ8_hugeLength_7cf53_25 : decode cJ8_hugeLength_7cf53 25 = .ok (.invokevirtual 98, 3) := by decide +kernel
theorem dJ8_hugeLength_7cf53_28 : decode cJ8_hugeLength_7cf53 28 = .ok (.ldc 208, 2) := by decide +kernel
theorem dJ8_hugeLength_7cf53_30 : decode cJ8_hugeLength_7cf53 30 = .ok (.invokevirtual 94, 3) := by decide +kernel
theorem dJ8_hugeLength_7cf53_33 : decode cJ8_hugeLength_7cf53 33 = .ok (.iload_n 1, 1) := by decide +kernel
theorem dJ8_hugeLength_7cf53_34 : decode cJ8_hugeLength_7cf53 34 = .ok (.invokevirtual 98, 3) := by decide +kernel
theorem dJ8_hugeLength_7cf53_37 : decode cJ8_hugeLength_7cf53 37 = .ok (.ldc 210, 2) := by decide +kernel
theorem dJ8_hugeLength_7cf53_39 : decode cJ8_hugeLength_7cf53 39 = .ok (.invokevirtual 94, 3) := by decide +kernel
theorem dJ8_hugeLength_7cf53_42 : decode cJ8_hugeLength_7cf53 42 = .ok (.invokevirtual 101, 3) := by decide +kernel
theorem dJ8_hugeLength_7cf53_45 : decode cJ8_hugeLength_7cf53 45 = .ok (.invokespecial 212, 3) := by decide +kernel
theorem dJ8_hugeLength_7cf53_48 : decode cJ8_hugeLength_7cf53 48 = .ok (.athrow, 1) := by decide +kernel
theorem dJ8_hugeLength_7cf53_49 : decode cJ8_hugeLength_7cf53 49 = .ok (.iload_n 2, 1) := by decide +kernel
theorem dJ8_hugeLength_7cf53_50 : decode cJ8_hugeLength_7cf53 50 = .ok (.ldc 200, 2) := by decide +kernel
theorem dJ8_hugeLength_7cf53_52 : decode cJ8_hugeLength_7cf53 52 = .ok (.if_icmp .gt 6, 3) := by decide +kernel
theorem dJ8_hugeLength_7cf53_55 : decode cJ8_hugeLength_7cf53 55 = .ok (.ldc 200, 2) := by decide +kernel
theorem dJ8_hugeLength_7cf53_57 : decode cJ8_hugeLength_7cf53 57 = .ok (.ireturn, 1) := by decide +kernel
theorem dJ8_hugeLength_7cf53_58 : decode cJ8_hugeLength_7cf53 58 = .ok (.iload_n 2, 1) := by decide +kernel
theorem dJ8_hugeLength_7cf53_59 : decode cJ8_hugeLength_7cf53 59 = .ok (.ireturn, 1) := by decide +kernel
theorem dJ3_checkIndex_8e157_0 : decode cJ3_checkIndex_8e157 0 = .ok (.iload_n 0, 1) := by decide +kernel
theorem dJ3_checkIndex_8e157_1 : decode cJ3_checkIndex_8e157 1 = .ok (.ifCond .lt 8, 3) := by decide +kernel
theorem dJ3_checkIndex_8e157_4 : decode cJ3_checkIndex_8e157 4 = .ok (.iload_n 0, 1) := by decide +kernel
theorem dJ3_checkIndex_8e157_5 : decode cJ3_checkIndex_8e157 5 = .ok (.iload_n 1, 1) := by decide +kernel
theorem dJ3_checkIndex_8e157_6 : decode cJ3_checkIndex_8e157 6 = .ok (.if_icmp .lt 10, 3) := by decide +kernel
theorem dJ3_checkIndex_8e157_9 : decode cJ3_checkIndex_8e157 9 = .ok (.aload_n 2, 1) := by decide +kernel
theorem dJ3_checkIndex_8e157_10 : decode cJ3_checkIndex_8e157 10 = .ok (.iload_n 0, 1) := by decide +kernel
theorem dJ3_checkIndex_8e157_11 : decode cJ3_checkIndex_8e157 11 = .ok (.iload_n 1, 1) := by decide +kernel
theorem dJ3_checkIndex_8e157_12 : decode cJ3_checkIndex_8e157 12 = .ok (.invokestatic 95, 3) := by decide +kernel
theorem dJ3_checkIndex_8e157_15 : decode cJ3_checkIndex_8e157 15 = .ok (.athrow, 1) := by decide +kernel
theorem dJ3_checkIndex_8e157_16 : decode cJ3_checkIndex_8e157 16 = .ok (.iload_n 0, 1) := by decide +kernel
theorem dJ3_checkIndex_8e157_17 : decode cJ3_checkIndex_8e157 17 = .ok (.ireturn, 1) := by decide +kernel
end
section
theorem dL_feed_0 : decode cL_feed 0 = .ok (.aload_n 2, 1) := by decide +kernel
theorem dL_feed_1 : decode cL_feed 1 = .ok (.iconst 0, 1) := by decide +kernel
theorem dL_feed_2 : decode cL_feed 2 = .ok (.aload_n 0, 1) := by decide +kernel
theorem dL_feed_3 : decode cL_feed 3 = .ok (.iload_n 1, 1) := by decide +kernel
theorem dL_feed_4 : decode cL_feed 4 = .ok (.invokevirtual 7, 3) := by decide +kernel
theorem dL_feed_7 : decode cL_feed 7 = .ok (.ifCond .eq 7, 3) := by decide +kernel
theorem dL_feed_10 : decode cL_feed 10 = .ok (.lconst 1, 1) := by decide +kernel
theorem dL_feed_11 : decode cL_feed 11 = .ok (.goto 4, 3) := by decide +kernel
theorem dL_feed_14 : decode cL_feed 14 = .ok (.lconst 0, 1) := by decide +kernel
theorem dL_feed_15 : decode cL_feed 15 = .ok (.lastore, 1) := by decide +kernel
theorem dL_feed_16 : decode cL_feed 16 = .ok (.goto 6, 3) := by decide +kernel
theorem dL_feed_19 : decode cL_feed 19 = .ok (.astore_n 3, 1) := by decide +kernel
theorem dL_feed_20 : decode cL_feed 20 = .ok (.iconst 1, 1) := by decide +kernel
theorem dL_feed_21 : decode cL_feed 21 = .ok (.ireturn, 1) := by decide +kernel
theorem dL_feed_22 : decode cL_feed 22 = .ok (.iconst 0, 1) := by decide +kernel
theorem dL_feed_23 : decode cL_feed 23 = .ok (.ireturn, 1) := by decide +kernel
theorem dL_tick_0 : decode cL_tick 0 = .ok (.aload_n 2, 1) := by decide +kernel
theorem dL_tick_1 : decode cL_tick 1 = .ok (.iconst 0, 1) := by decide +kernel
theorem dL_tick_2 : decode cL_tick 2 = .ok (.aload_n 0, 1) := by decide +kernel
theorem dL_tick_3 : decode cL_tick 3 = .ok (.iload_n 1, 1) := by decide +kernel
theorem dL_tick_4 : decode cL_tick 4 = .ok (.invokevirtual 15, 3) := by decide +kernel
theorem dL_tick_7 : decode cL_tick 7 = .ok (.i2l, 1) := by decide +kernel
theorem dL_tick_8 : decode cL_tick 8 = .ok (.lastore, 1) := by decide +kernel
theorem dL_tick_9 : decode cL_tick 9 = .ok (.goto 6, 3) := by decide +kernel
theorem dL_tick_12 : decode cL_tick 12 = .ok (.astore_n 3, 1) := by decide +kernel
theorem dL_tick_13 : decode cL_tick 13 = .ok (.iconst 1, 1) := by decide +kernel
theorem dL_tick_14 : decode cL_tick 14 = .ok (.ireturn, 1) := by decide +kernel
theorem dL_tick_15 : decode cL_tick 15 = .ok (.iconst 0, 1) := by decide +kernel
theorem dL_tick_16 : decode cL_tick 16 = .ok (.ireturn, 1) := by decide +kernel
theorem dL_refill_0 : decode cL_refill 0 = .ok (.aload_n 2, 1) := by decide +kernel
theorem dL_refill_1 : decode cL_refill 1 = .ok (.iconst 0, 1) := by decide +kernel
theorem dL_refill_2 : decode cL_refill 2 = .ok (.aload_n 0, 1) := by decide +kernel
theorem dL_refill_3 : decode cL_refill 3 = .ok (.iload_n 1, 1) := by decide +kernel
theorem dL_refill_4 : decode cL_refill 4 = .ok (.invokevirtual 19, 3) := by decide +kernel
theorem dL_refill_7 : decode cL_refill 7 = .ok (.i2l, 1) := by decide +kernel
theorem dL_refill_8 : decode cL_refill 8 = .ok (.lastore, 1) := by decide +kernel
theorem dL_refill_9 : decode cL_refill 9 = .ok (.goto 6, 3) := by decide +kernel
theorem dL_refill_12 : decode cL_refill 12 = .ok (.astore_n 3, 1) := by decide +kernel
theorem dL_refill_13 : decode cL_refill 13 = .ok (.iconst 1, 1) := by decide +kernel
theorem dL_refill_14 : decode cL_refill 14 = .ok (.ireturn, 1) := by decide +kernel
theorem dL_refill_15 : decode cL_refill 15 = .ok (.iconst 0, 1) := by decide +kernel
theorem dL_refill_16 : decode cL_refill 16 = .ok (.ireturn, 1) := by decide +kernel
theorem dL_pour_0 : decode cL_pour 0 = .ok (.aload_n 3, 1) := by decide +kernel
theorem dL_pour_1 : decode cL_pour 1 = .ok (.iconst 0, 1) := by decide +kernel
theorem dL_pour_2 : decode cL_pour 2 = .ok (.aload_n 0, 1) := by decide +kernel
theorem dL_pour_3 : decode cL_pour 3 = .ok (.iload_n 1, 1) := by decide +kernel
theorem dL_pour_4 : decode cL_pour 4 = .ok (.iload_n 2, 1) := by decide +kernel
theorem dL_pour_5 : decode cL_pour 5 = .ok (.invokevirtual 24, 3) := by decide +kernel
theorem dL_pour_8 : decode cL_pour 8 = .ok (.i2l, 1) := by decide +kernel
theorem dL_pour_9 : decode cL_pour 9 = .ok (.lastore, 1) := by decide +kernel
theorem dL_pour_10 : decode cL_pour 10 = .ok (.goto 11, 3) := by decide +kernel
theorem dL_pour_13 : decode cL_pour 13 = .ok (.astore 4, 2) := by decide +kernel
theorem dL_pour_15 : decode cL_pour 15 = .ok (.iconst 1, 1) := by decide +kernel
theorem dL_pour_16 : decode cL_pour 16 = .ok (.ireturn, 1) := by decide +kernel
theorem dL_pour_17 : decode cL_pour 17 = .ok (.astore 4, 2) := by decide +kernel
theorem dL_pour_19 : decode cL_pour 19 = .ok (.iconst 2, 1) := by decide +kernel
theorem dL_pour_20 : decode cL_pour 20 = .ok (.ireturn, 1) := by decide +kernel
theorem dL_pour_21 : decode cL_pour 21 = .ok (.iconst 0, 1) := by decide +kernel
theorem dL_pour_22 : decode cL_pour 22 = .ok (.ireturn, 1) := by decide +kernel
theorem dL_ink_0 : decode cL_ink 0 = .ok (.aload_n 2, 1) := by decide +kernel
theorem dL_ink_1 : decode cL_ink 1 = .ok (.iconst 0, 1) := by decide +kernel
theorem dL_ink_2 : decode cL_ink 2 = .ok (.aload_n 0, 1) := by decide +kernel
theorem dL_ink_3 : decode cL_ink 3 = .ok (.iload_n 1, 1) := by decide +kernel
theorem dL_ink_4 : decode cL_ink 4 = .ok (.invokevirtual 28, 3) := by decide +kernel
theorem dL_ink_7 : decode cL_ink 7 = .ok (.i2l, 1) := by decide +kernel
theorem dL_ink_8 : decode cL_ink 8 = .ok (.lastore, 1) := by decide +kernel
theorem dL_ink_9 : decode cL_ink 9 = .ok (.goto 6, 3) := by decide +kernel
theorem dL_ink_12 : decode cL_ink 12 = .ok (.astore_n 3, 1) := by decide +kernel
theorem dL_ink_13 : decode cL_ink 13 = .ok (.iconst 1, 1) := by decide +kernel
theorem dL_ink_14 : decode cL_ink 14 = .ok (.ireturn, 1) := by decide +kernel
theorem dL_ink_15 : decode cL_ink 15 = .ok (.iconst 0, 1) := by decide +kernel
theorem dL_ink_16 : decode cL_ink 16 = .ok (.ireturn, 1) := by decide +kernel
theorem dL_isMarked_0 : decode cL_isMarked 0 = .ok (.aload_n 3, 1) := by decide +kernel
theorem dL_isMarked_1 : decode cL_isMarked 1 = .ok (.iconst 0, 1) := by decide +kernel
theorem dL_isMarked_2 : decode cL_isMarked 2 = .ok (.aload_n 0, 1) := by decide +kernel
theorem dL_isMarked_3 : decode cL_isMarked 3 = .ok (.iload_n 1, 1) := by decide +kernel
theorem dL_isMarked_4 : decode cL_isMarked 4 = .ok (.iload_n 2, 1) := by decide +kernel
theorem dL_isMarked_5 : decode cL_isMarked 5 = .ok (.invokevirtual 31, 3) := by decide +kernel
theorem dL_isMarked_8 : decode cL_isMarked 8 = .ok (.ifCond .eq 7, 3) := by decide +kernel
theorem dL_isMarked_11 : decode cL_isMarked 11 = .ok (.lconst 1, 1) := by decide +kernel
theorem dL_isMarked_12 : decode cL_isMarked 12 = .ok (.goto 4, 3) := by decide +kernel
theorem dL_isMarked_15 : decode cL_isMarked 15 = .ok (.lconst 0, 1) := by decide +kernel
theorem dL_isMarked_16 : decode cL_isMarked 16 = .ok (.lastore, 1) := by decide +kernel
theorem dL_isMarked_17 : decode cL_isMarked 17 = .ok (.goto 7, 3) := by decide +kernel
theorem dL_isMarked_20 : decode cL_isMarked 20 = .ok (.astore 4, 2) := by decide +kernel
theorem dL_isMarked_22 : decode cL_isMarked 22 = .ok (.iconst 1, 1) := by decide +kernel
theorem dL_isMarked_23 : decode cL_isMarked 23 = .ok (.ireturn, 1) := by decide +kernel
theorem dL_isMarked_24 : decode cL_isMarked 24 = .ok (.iconst 0, 1) := by decide +kernel
theorem dL_isMarked_25 : decode cL_isMarked 25 = .ok (.ireturn, 1) := by decide +kernel
theorem dL_law_0 : decode cL_law 0 = .ok (.new 8, 3) := by decide +kernel
theorem dL_law_3 : decode cL_law 3 = .ok (.dup, 1) := by decide +kernel
theorem dL_law_4 : decode cL_law 4 = .ok (.invokespecial 35, 3) := by decide +kernel
theorem dL_law_7 : decode cL_law 7 = .ok (.astore_n 1, 1) := by decide +kernel
theorem dL_law_8 : decode cL_law 8 = .ok (.new 36, 3) := by decide +kernel
theorem dL_law_11 : decode cL_law 11 = .ok (.dup, 1) := by decide +kernel
theorem dL_law_12 : decode cL_law 12 = .ok (.invokespecial 38, 3) := by decide +kernel
theorem dL_law_15 : decode cL_law 15 = .ok (.astore_n 2, 1) := by decide +kernel
theorem dL_law_16 : decode cL_law 16 = .ok (.iconst 1, 1) := by decide +kernel
theorem dL_law_17 : decode cL_law 17 = .ok (.newarray .long, 2) := by decide +kernel
theorem dL_law_19 : decode cL_law 19 = .ok (.astore_n 3, 1) := by decide +kernel
theorem dL_law_20 : decode cL_law 20 = .ok (.iconst 0, 1) := by decide +kernel
theorem dL_law_21 : decode cL_law 21 = .ok (.istore 4, 2) := by decide +kernel
theorem dL_law_23 : decode cL_law 23 = .ok (.iload 4, 2) := by decide +kernel
theorem dL_law_25 : decode cL_law 25 = .ok (.aload_n 0, 1) := by decide +kernel
theorem dL_law_26 : decode cL_law 26 = .ok (.arraylength, 1) := by decide +kernel
theorem dL_law_27 : decode cL_law 27 = .ok (.iconst 3, 1) := by decide +kernel
theorem dL_law_28 : decode cL_law 28 = .ok (.isub, 1) := by decide +kernel
theorem dL_law_29 : decode cL_law 29 = .ok (.if_icmp .gt 648, 3) := by decide +kernel
theorem dL_law_32 : decode cL_law 32 = .ok (.aload_n 0, 1) := by decide +kernel
theorem dL_law_33 : decode cL_law 33 = .ok (.iload 4, 2) := by decide +kernel
theorem dL_law_35 : decode cL_law 35 = .ok (.iaload, 1) := by decide +kernel
theorem dL_law_36 : decode cL_law 36 = .ok (.bipush 31, 2) := by decide +kernel
theorem dL_law_38 : decode cL_law 38 = .ok (.iand, 1) := by decide +kernel
theorem dL_law_39 : decode cL_law 39 = .ok (.tableswitch 632 0 18 #[89, 152, 165, 178, 191, 247, 260, 316, 384, 397, 410, 423, 479, 492, 505, 518, 531, 606, 619], 89) := by decide +kernel
theorem dL_law_128 : decode cL_law 128 = .ok (.aload_n 1, 1) := by decide +kernel
theorem dL_law_129 : decode cL_law 129 = .ok (.aload_n 0, 1) := by decide +kernel
theorem dL_law_130 : decode cL_law 130 = .ok (.iload 4, 2) := by decide +kernel
theorem dL_law_132 : decode cL_law 132 = .ok (.iconst 1, 1) := by decide +kernel
theorem dL_law_133 : decode cL_law 133 = .ok (.iadd, 1) := by decide +kernel
theorem dL_law_134 : decode cL_law 134 = .ok (.iaload, 1) := by decide +kernel
theorem dL_law_135 : decode cL_law 135 = .ok (.aload_n 3, 1) := by decide +kernel
theorem dL_law_136 : decode cL_law 136 = .ok (.invokestatic 39, 3) := by decide +kernel
theorem dL_law_139 : decode cL_law 139 = .ok (.istore 5, 2) := by decide +kernel
theorem dL_law_141 : decode cL_law 141 = .ok (.aload_n 2, 1) := by decide +kernel
theorem dL_law_142 : decode cL_law 142 = .ok (.aload_n 0, 1) := by decide +kernel
theorem dL_law_143 : decode cL_law 143 = .ok (.iload 4, 2) := by decide +kernel
theorem dL_law_145 : decode cL_law 145 = .ok (.iconst 1, 1) := by decide +kernel
theorem dL_law_146 : decode cL_law 146 = .ok (.iadd, 1) := by decide +kernel
theorem dL_law_147 : decode cL_law 147 = .ok (.iaload, 1) := by decide +kernel
theorem dL_law_148 : decode cL_law 148 = .ok (.invokevirtual 44, 3) := by decide +kernel
theorem dL_law_151 : decode cL_law 151 = .ok (.istore 6, 2) := by decide +kernel
theorem dL_law_153 : decode cL_law 153 = .ok (.aload_n 2, 1) := by decide +kernel
theorem dL_law_154 : decode cL_law 154 = .ok (.invokevirtual 45, 3) := by decide +kernel
theorem dL_law_157 : decode cL_law 157 = .ok (.iload 5, 2) := by decide +kernel
theorem dL_law_159 : decode cL_law 159 = .ok (.if_icmp .eq 5, 3) := by decide +kernel
theorem dL_law_162 : decode cL_law 162 = .ok (.iconst 0, 1) := by decide +kernel
theorem dL_law_163 : decode cL_law 163 = .ok (.ireturn, 1) := by decide +kernel
theorem dL_law_164 : decode cL_law 164 = .ok (.iload 5, 2) := by decide +kernel
theorem dL_law_166 : decode cL_law 166 = .ok (.ifCond .ne 22, 3) := by decide +kernel
theorem dL_law_169 : decode cL_law 169 = .ok (.aload_n 3, 1) := by decide +kernel
theorem dL_law_170 : decode cL_law 170 = .ok (.iconst 0, 1) := by decide +kernel
theorem dL_law_171 : decode cL_law 171 = .ok (.laload, 1) := by decide +kernel
theorem dL_law_172 : decode cL_law 172 = .ok (.iload 6, 2) := by decide +kernel
theorem dL_law_174 : decode cL_law 174 = .ok (.ifCond .eq 7, 3) := by decide +kernel
theorem dL_law_177 : decode cL_law 177 = .ok (.lconst 1, 1) := by decide +kernel
theorem dL_law_178 : decode cL_law 178 = .ok (.goto 4, 3) := by decide +kernel
theorem dL_law_181 : decode cL_law 181 = .ok (.lconst 0, 1) := by decide +kernel
theorem dL_law_182 : decode cL_law 182 = .ok (.lcmp, 1) := by decide +kernel
theorem dL_law_183 : decode cL_law 183 = .ok (.ifCond .eq 5, 3) := by decide +kernel
theorem dL_law_186 : decode cL_law 186 = .ok (.iconst 0, 1) := by decide +kernel
theorem dL_law_187 : decode cL_law 187 = .ok (.ireturn, 1) := by decide +kernel
theorem dL_law_188 : decode cL_law 188 = .ok (.goto 483, 3) := by decide +kernel
theorem dL_law_191 : decode cL_law 191 = .ok (.aload_n 1, 1) := by decide +kernel
theorem dL_law_192 : decode cL_law 192 = .ok (.invokevirtual 49, 3) := by decide +kernel
theorem dL_law_195 : decode cL_law 195 = .ok (.aload_n 2, 1) := by decide +kernel
theorem dL_law_196 : decode cL_law 196 = .ok (.invokevirtual 52, 3) := by decide +kernel
theorem dL_law_199 : decode cL_law 199 = .ok (.if_icmp .eq 472, 3) := by decide +kernel
theorem dL_law_202 : decode cL_law 202 = .ok (.iconst 0, 1) := by decide +kernel
theorem dL_law_203 : decode cL_law 203 = .ok (.ireturn, 1) := by decide +kernel
theorem dL_law_204 : decode cL_law 204 = .ok (.aload_n 1, 1) := by decide +kernel
theorem dL_law_205 : decode cL_law 205 = .ok (.invokevirtual 53, 3) := by decide +kernel
theorem dL_law_208 : decode cL_law 208 = .ok (.aload_n 2, 1) := by decide +kernel
theorem dL_law_209 : decode cL_law 209 = .ok (.invokevirtual 56, 3) := by decide +kernel
theorem dL_law_212 : decode cL_law 212 = .ok (.if_icmp .eq 459, 3) := by decide +kernel
theorem dL_law_215 : decode cL_law 215 = .ok (.iconst 0, 1) := by decide +kernel
theorem dL_law_216 : decode cL_law 216 = .ok (.ireturn, 1) := by decide +kernel
theorem dL_law_217 : decode cL_law 217 = .ok (.aload_n 1, 1) := by decide +kernel
theorem dL_law_218 : decode cL_law 218 = .ok (.invokevirtual 57, 3) := by decide +kernel
theorem dL_law_221 : decode cL_law 221 = .ok (.aload_n 2, 1) := by decide +kernel
theorem dL_law_222 : decode cL_law 222 = .ok (.invokevirtual 60, 3) := by decide +kernel
theorem dL_law_225 : decode cL_law 225 = .ok (.if_icmp .eq 446, 3) := by decide +kernel
theorem dL_law_228 : decode cL_law 228 = .ok (.iconst 0, 1) := by decide +kernel
theorem dL_law_229 : decode cL_law 229 = .ok (.ireturn, 1) := by decide +kernel
theorem dL_law_230 : decode cL_law 230 = .ok (.aload_n 1, 1) := by decide +kernel
theorem dL_law_231 : decode cL_law 231 = .ok (.aload_n 0, 1) := by decide +kernel
theorem dL_law_232 : decode cL_law 232 = .ok (.iload 4, 2) := by decide +kernel
theorem dL_law_234 : decode cL_law 234 = .ok (.iconst 1, 1) := by decide +kernel
theorem dL_law_235 : decode cL_law 235 = .ok (.iadd, 1) := by decide +kernel
theorem dL_law_236 : decode cL_law 236 = .ok (.iaload, 1) := by decide +kernel
theorem dL_law_237 : decode cL_law 237 = .ok (.aload_n 3, 1) := by decide +kernel
theorem dL_law_238 : decode cL_law 238 = .ok (.invokestatic 61, 3) := by decide +kernel
theorem dL_law_241 : decode cL_law 241 = .ok (.istore 5, 2) := by decide +kernel
theorem dL_law_243 : decode cL_law 243 = .ok (.aload_n 2, 1) := by decide +kernel
theorem dL_law_244 : decode cL_law 244 = .ok (.aload_n 0, 1) := by decide +kernel
theorem dL_law_245 : decode cL_law 245 = .ok (.iload 4, 2) := by decide +kernel
theorem dL_law_247 : decode cL_law 247 = .ok (.iconst 1, 1) := by decide +kernel
theorem dL_law_248 : decode cL_law 248 = .ok (.iadd, 1) := by decide +kernel
theorem dL_law_249 : decode cL_law 249 = .ok (.iaload, 1) := by decide +kernel
theorem dL_law_250 : decode cL_law 250 = .ok (.invokevirtual 63, 3) := by decide +kernel
theorem dL_law_253 : decode cL_law 253 = .ok (.istore 6, 2) := by decide +kernel
theorem dL_law_255 : decode cL_law 255 = .ok (.aload_n 2, 1) := by decide +kernel
theorem dL_law_256 : decode cL_law 256 = .ok (.invokevirtual 45, 3) := by decide +kernel
theorem dL_law_259 : decode cL_law 259 = .ok (.iload 5, 2) := by decide +kernel
theorem dL_law_261 : decode cL_law 261 = .ok (.if_icmp .eq 5, 3) := by decide +kernel
theorem dL_law_264 : decode cL_law 264 = .ok (.iconst 0, 1) := by decide +kernel
theorem dL_law_265 : decode cL_law 265 = .ok (.ireturn, 1) := by decide +kernel
theorem dL_law_266 : decode cL_law 266 = .ok (.iload 5, 2) := by decide +kernel
theorem dL_law_268 : decode cL_law 268 = .ok (.ifCond .ne 15, 3) := by decide +kernel
theorem dL_law_271 : decode cL_law 271 = .ok (.aload_n 3, 1) := by decide +kernel
theorem dL_law_272 : decode cL_law 272 = .ok (.iconst 0, 1) := by decide +kernel
theorem dL_law_273 : decode cL_law 273 = .ok (.laload, 1) := by decide +kernel
theorem dL_law_274 : decode cL_law 274 = .ok (.iload 6, 2) := by decide +kernel
theorem dL_law_276 : decode cL_law 276 = .ok (.i2l, 1) := by decide +kernel
theorem dL_law_277 : decode cL_law 277 = .ok (.lcmp, 1) := by decide +kernel
theorem dL_law_278 : decode cL_law 278 = .ok (.ifCond .eq 5, 3) := by decide +kernel
theorem dL_law_281 : decode cL_law 281 = .ok (.iconst 0, 1) := by decide +kernel
theorem dL_law_282 : decode cL_law 282 = .ok (.ireturn, 1) := by decide +kernel
theorem dL_law_283 : decode cL_law 283 = .ok (.goto 388, 3) := by decide +kernel
theorem dL_law_286 : decode cL_law 286 = .ok (.aload_n 1, 1) := by decide +kernel
theorem dL_law_287 : decode cL_law 287 = .ok (.invokevirtual 64, 3) := by decide +kernel
theorem dL_law_290 : decode cL_law 290 = .ok (.aload_n 2, 1) := by decide +kernel
theorem dL_law_291 : decode cL_law 291 = .ok (.invokevirtual 67, 3) := by decide +kernel
theorem dL_law_294 : decode cL_law 294 = .ok (.if_icmp .eq 377, 3) := by decide +kernel
theorem dL_law_297 : decode cL_law 297 = .ok (.iconst 0, 1) := by decide +kernel
theorem dL_law_298 : decode cL_law 298 = .ok (.ireturn, 1) := by decide +kernel
theorem dL_law_299 : decode cL_law 299 = .ok (.aload_n 1, 1) := by decide +kernel
theorem dL_law_300 : decode cL_law 300 = .ok (.aload_n 0, 1) := by decide +kernel
theorem dL_law_301 : decode cL_law 301 = .ok (.iload 4, 2) := by decide +kernel
theorem dL_law_303 : decode cL_law 303 = .ok (.iconst 1, 1) := by decide +kernel
theorem dL_law_304 : decode cL_law 304 = .ok (.iadd, 1) := by decide +kernel
theorem dL_law_305 : decode cL_law 305 = .ok (.iaload, 1) := by decide +kernel
theorem dL_law_306 : decode cL_law 306 = .ok (.aload_n 3, 1) := by decide +kernel
theorem dL_law_307 : decode cL_law 307 = .ok (.invokestatic 68, 3) := by decide +kernel
theorem dL_law_310 : decode cL_law 310 = .ok (.istore 5, 2) := by decide +kernel
theorem dL_law_312 : decode cL_law 312 = .ok (.aload_n 2, 1) := by decide +kernel
theorem dL_law_313 : decode cL_law 313 = .ok (.aload_n 0, 1) := by decide +kernel
theorem dL_law_314 : decode cL_law 314 = .ok (.iload 4, 2) := by decide +kernel
theorem dL_law_316 : decode cL_law 316 = .ok (.iconst 1, 1) := by decide +kernel
theorem dL_law_317 : decode cL_law 317 = .ok (.iadd, 1) := by decide +kernel
theorem dL_law_318 : decode cL_law 318 = .ok (.iaload, 1) := by decide +kernel
theorem dL_law_319 : decode cL_law 319 = .ok (.invokevirtual 70, 3) := by decide +kernel
theorem dL_law_322 : decode cL_law 322 = .ok (.istore 6, 2) := by decide +kernel
theorem dL_law_324 : decode cL_law 324 = .ok (.aload_n 2, 1) := by decide +kernel
theorem dL_law_325 : decode cL_law 325 = .ok (.invokevirtual 45, 3) := by decide +kernel
theorem dL_law_328 : decode cL_law 328 = .ok (.iload 5, 2) := by decide +kernel
theorem dL_law_330 : decode cL_law 330 = .ok (.if_icmp .eq 5, 3) := by decide +kernel
theorem dL_law_333 : decode cL_law 333 = .ok (.iconst 0, 1) := by decide +kernel
theorem dL_law_334 : decode cL_law 334 = .ok (.ireturn, 1) := by decide +kernel
theorem dL_law_335 : decode cL_law 335 = .ok (.iload 5, 2) := by decide +kernel
theorem dL_law_337 : decode cL_law 337 = .ok (.ifCond .ne 15, 3) := by decide +kernel
theorem dL_law_340 : decode cL_law 340 = .ok (.aload_n 3, 1) := by decide +kernel
theorem dL_law_341 : decode cL_law 341 = .ok (.iconst 0, 1) := by decide +kernel
theorem dL_law_342 : decode cL_law 342 = .ok (.laload, 1) := by decide +kernel
theorem dL_law_343 : decode cL_law 343 = .ok (.iload 6, 2) := by decide +kernel
theorem dL_law_345 : decode cL_law 345 = .ok (.i2l, 1) := by decide +kernel
theorem dL_law_346 : decode cL_law 346 = .ok (.lcmp, 1) := by decide +kernel
theorem dL_law_347 : decode cL_law 347 = .ok (.ifCond .eq 5, 3) := by decide +kernel
theorem dL_law_350 : decode cL_law 350 = .ok (.iconst 0, 1) := by decide +kernel
theorem dL_law_351 : decode cL_law 351 = .ok (.ireturn, 1) := by decide +kernel
theorem dL_law_352 : decode cL_law 352 = .ok (.goto 319, 3) := by decide +kernel
theorem dL_law_355 : decode cL_law 355 = .ok (.aload_n 1, 1) := by decide +kernel
theorem dL_law_356 : decode cL_law 356 = .ok (.aload_n 0, 1) := by decide +kernel
theorem dL_law_357 : decode cL_law 357 = .ok (.iload 4, 2) := by decide +kernel
theorem dL_law_359 : decode cL_law 359 = .ok (.iconst 1, 1) := by decide +kernel
theorem dL_law_360 : decode cL_law 360 = .ok (.iadd, 1) := by decide +kernel
theorem dL_law_361 : decode cL_law 361 = .ok (.iaload, 1) := by decide +kernel
theorem dL_law_362 : decode cL_law 362 = .ok (.aload_n 0, 1) := by decide +kernel
theorem dL_law_363 : decode cL_law 363 = .ok (.iload 4, 2) := by decide +kernel
theorem dL_law_365 : decode cL_law 365 = .ok (.iconst 2, 1) := by decide +kernel
theorem dL_law_366 : decode cL_law 366 = .ok (.iadd, 1) := by decide +kernel
theorem dL_law_367 : decode cL_law 367 = .ok (.iaload, 1) := by decide +kernel
theorem dL_law_368 : decode cL_law 368 = .ok (.aload_n 3, 1) := by decide +kernel
theorem dL_law_369 : decode cL_law 369 = .ok (.invokestatic 71, 3) := by decide +kernel
theorem dL_law_372 : decode cL_law 372 = .ok (.istore 5, 2) := by decide +kernel
theorem dL_law_374 : decode cL_law 374 = .ok (.aload_n 2, 1) := by decide +kernel
theorem dL_law_375 : decode cL_law 375 = .ok (.aload_n 0, 1) := by decide +kernel
theorem dL_law_376 : decode cL_law 376 = .ok (.iload 4, 2) := by decide +kernel
theorem dL_law_378 : decode cL_law 378 = .ok (.iconst 1, 1) := by decide +kernel
theorem dL_law_379 : decode cL_law 379 = .ok (.iadd, 1) := by decide +kernel
theorem dL_law_380 : decode cL_law 380 = .ok (.iaload, 1) := by decide +kernel
theorem dL_law_381 : decode cL_law 381 = .ok (.aload_n 0, 1) := by decide +kernel
theorem dL_law_382 : decode cL_law 382 = .ok (.iload 4, 2) := by decide +kernel
theorem dL_law_384 : decode cL_law 384 = .ok (.iconst 2, 1) := by decide +kernel
theorem dL_law_385 : decode cL_law 385 = .ok (.iadd, 1) := by decide +kernel
theorem dL_law_386 : decode cL_law 386 = .ok (.iaload, 1) := by decide +kernel
theorem dL_law_387 : decode cL_law 387 = .ok (.invokevirtual 74, 3) := by decide +kernel
theorem dL_law_390 : decode cL_law 390 = .ok (.istore 6, 2) := by decide +kernel
theorem dL_law_392 : decode cL_law 392 = .ok (.aload_n 2, 1) := by decide +kernel
theorem dL_law_393 : decode cL_law 393 = .ok (.invokevirtual 45, 3) := by decide +kernel
theorem dL_law_396 : decode cL_law 396 = .ok (.iload 5, 2) := by decide +kernel
theorem dL_law_398 : decode cL_law 398 = .ok (.if_icmp .eq 5, 3) := by decide +kernel
theorem dL_law_401 : decode cL_law 401 = .ok (.iconst 0, 1) := by decide +kernel
theorem dL_law_402 : decode cL_law 402 = .ok (.ireturn, 1) := by decide +kernel
theorem dL_law_403 : decode cL_law 403 = .ok (.iload 5, 2) := by decide +kernel
theorem dL_law_405 : decode cL_law 405 = .ok (.ifCond .ne 15, 3) := by decide +kernel
theorem dL_law_408 : decode cL_law 408 = .ok (.aload_n 3, 1) := by decide +kernel
theorem dL_law_409 : decode cL_law 409 = .ok (.iconst 0, 1) := by decide +kernel
theorem dL_law_410 : decode cL_law 410 = .ok (.laload, 1) := by decide +kernel
theorem dL_law_411 : decode cL_law 411 = .ok (.iload 6, 2) := by decide +kernel
theorem dL_law_413 : decode cL_law 413 = .ok (.i2l, 1) := by decide +kernel
theorem dL_law_414 : decode cL_law 414 = .ok (.lcmp, 1) := by decide +kernel
theorem dL_law_415 : decode cL_law 415 = .ok (.ifCond .eq 5, 3) := by decide +kernel
theorem dL_law_418 : decode cL_law 418 = .ok (.iconst 0, 1) := by decide +kernel
theorem dL_law_419 : decode cL_law 419 = .ok (.ireturn, 1) := by decide +kernel
theorem dL_law_420 : decode cL_law 420 = .ok (.goto 251, 3) := by decide +kernel
theorem dL_law_423 : decode cL_law 423 = .ok (.aload_n 1, 1) := by decide +kernel
theorem dL_law_424 : decode cL_law 424 = .ok (.invokevirtual 75, 3) := by decide +kernel
theorem dL_law_427 : decode cL_law 427 = .ok (.aload_n 2, 1) := by decide +kernel
theorem dL_law_428 : decode cL_law 428 = .ok (.invokevirtual 78, 3) := by decide +kernel
theorem dL_law_431 : decode cL_law 431 = .ok (.if_icmp .eq 240, 3) := by decide +kernel
theorem dL_law_434 : decode cL_law 434 = .ok (.iconst 0, 1) := by decide +kernel
theorem dL_law_435 : decode cL_law 435 = .ok (.ireturn, 1) := by decide +kernel
theorem dL_law_436 : decode cL_law 436 = .ok (.aload_n 1, 1) := by decide +kernel
theorem dL_law_437 : decode cL_law 437 = .ok (.invokevirtual 79, 3) := by decide +kernel
theorem dL_law_440 : decode cL_law 440 = .ok (.aload_n 2, 1) := by decide +kernel
theorem dL_law_441 : decode cL_law 441 = .ok (.invokevirtual 83, 3) := by decide +kernel
theorem dL_law_444 : decode cL_law 444 = .ok (.if_icmp .eq 227, 3) := by decide +kernel
theorem dL_law_447 : decode cL_law 447 = .ok (.iconst 0, 1) := by decide +kernel
theorem dL_law_448 : decode cL_law 448 = .ok (.ireturn, 1) := by decide +kernel
theorem dL_law_449 : decode cL_law 449 = .ok (.aload_n 1, 1) := by decide +kernel
theorem dL_law_450 : decode cL_law 450 = .ok (.invokevirtual 84, 3) := by decide +kernel
theorem dL_law_453 : decode cL_law 453 = .ok (.aload_n 2, 1) := by decide +kernel
theorem dL_law_454 : decode cL_law 454 = .ok (.invokevirtual 87, 3) := by decide +kernel
theorem dL_law_457 : decode cL_law 457 = .ok (.if_icmp .eq 214, 3) := by decide +kernel
theorem dL_law_460 : decode cL_law 460 = .ok (.iconst 0, 1) := by decide +kernel
theorem dL_law_461 : decode cL_law 461 = .ok (.ireturn, 1) := by decide +kernel
theorem dL_law_462 : decode cL_law 462 = .ok (.aload_n 1, 1) := by decide +kernel
theorem dL_law_463 : decode cL_law 463 = .ok (.aload_n 0, 1) := by decide +kernel
theorem dL_law_464 : decode cL_law 464 = .ok (.iload 4, 2) := by decide +kernel
theorem dL_law_466 : decode cL_law 466 = .ok (.iconst 1, 1) := by decide +kernel
theorem dL_law_467 : decode cL_law 467 = .ok (.iadd, 1) := by decide +kernel
theorem dL_law_468 : decode cL_law 468 = .ok (.iaload, 1) := by decide +kernel
theorem dL_law_469 : decode cL_law 469 = .ok (.aload_n 3, 1) := by decide +kernel
theorem dL_law_470 : decode cL_law 470 = .ok (.invokestatic 88, 3) := by decide +kernel
theorem dL_law_473 : decode cL_law 473 = .ok (.istore 5, 2) := by decide +kernel
theorem dL_law_475 : decode cL_law 475 = .ok (.aload_n 2, 1) := by decide +kernel
theorem dL_law_476 : decode cL_law 476 = .ok (.aload_n 0, 1) := by decide +kernel
theorem dL_law_477 : decode cL_law 477 = .ok (.iload 4, 2) := by decide +kernel
theorem dL_law_479 : decode cL_law 479 = .ok (.iconst 1, 1) := by decide +kernel
theorem dL_law_480 : decode cL_law 480 = .ok (.iadd, 1) := by decide +kernel
theorem dL_law_481 : decode cL_law 481 = .ok (.iaload, 1) := by decide +kernel
theorem dL_law_482 : decode cL_law 482 = .ok (.invokevirtual 90, 3) := by decide +kernel
theorem dL_law_485 : decode cL_law 485 = .ok (.istore 6, 2) := by decide +kernel
theorem dL_law_487 : decode cL_law 487 = .ok (.aload_n 2, 1) := by decide +kernel
theorem dL_law_488 : decode cL_law 488 = .ok (.invokevirtual 45, 3) := by decide +kernel
theorem dL_law_491 : decode cL_law 491 = .ok (.iload 5, 2) := by decide +kernel
theorem dL_law_493 : decode cL_law 493 = .ok (.if_icmp .eq 5, 3) := by decide +kernel
theorem dL_law_496 : decode cL_law 496 = .ok (.iconst 0, 1) := by decide +kernel
theorem dL_law_497 : decode cL_law 497 = .ok (.ireturn, 1) := by decide +kernel
theorem dL_law_498 : decode cL_law 498 = .ok (.iload 5, 2) := by decide +kernel
theorem dL_law_500 : decode cL_law 500 = .ok (.ifCond .ne 15, 3) := by decide +kernel
theorem dL_law_503 : decode cL_law 503 = .ok (.aload_n 3, 1) := by decide +kernel
theorem dL_law_504 : decode cL_law 504 = .ok (.iconst 0, 1) := by decide +kernel
theorem dL_law_505 : decode cL_law 505 = .ok (.laload, 1) := by decide +kernel
theorem dL_law_506 : decode cL_law 506 = .ok (.iload 6, 2) := by decide +kernel
theorem dL_law_508 : decode cL_law 508 = .ok (.i2l, 1) := by decide +kernel
theorem dL_law_509 : decode cL_law 509 = .ok (.lcmp, 1) := by decide +kernel
theorem dL_law_510 : decode cL_law 510 = .ok (.ifCond .eq 5, 3) := by decide +kernel
theorem dL_law_513 : decode cL_law 513 = .ok (.iconst 0, 1) := by decide +kernel
theorem dL_law_514 : decode cL_law 514 = .ok (.ireturn, 1) := by decide +kernel
theorem dL_law_515 : decode cL_law 515 = .ok (.goto 156, 3) := by decide +kernel
theorem dL_law_518 : decode cL_law 518 = .ok (.aload_n 1, 1) := by decide +kernel
theorem dL_law_519 : decode cL_law 519 = .ok (.invokevirtual 91, 3) := by decide +kernel
theorem dL_law_522 : decode cL_law 522 = .ok (.aload_n 2, 1) := by decide +kernel
theorem dL_law_523 : decode cL_law 523 = .ok (.invokevirtual 94, 3) := by decide +kernel
theorem dL_law_526 : decode cL_law 526 = .ok (.if_icmp .eq 145, 3) := by decide +kernel
theorem dL_law_529 : decode cL_law 529 = .ok (.iconst 0, 1) := by decide +kernel
theorem dL_law_530 : decode cL_law 530 = .ok (.ireturn, 1) := by decide +kernel
theorem dL_law_531 : decode cL_law 531 = .ok (.aload_n 1, 1) := by decide +kernel
theorem dL_law_532 : decode cL_law 532 = .ok (.invokevirtual 95, 3) := by decide +kernel
theorem dL_law_535 : decode cL_law 535 = .ok (.aload_n 2, 1) := by decide +kernel
theorem dL_law_536 : decode cL_law 536 = .ok (.invokevirtual 98, 3) := by decide +kernel
theorem dL_law_539 : decode cL_law 539 = .ok (.if_icmp .eq 132, 3) := by decide +kernel
theorem dL_law_542 : decode cL_law 542 = .ok (.iconst 0, 1) := by decide +kernel
theorem dL_law_543 : decode cL_law 543 = .ok (.ireturn, 1) := by decide +kernel
theorem dL_law_544 : decode cL_law 544 = .ok (.aload_n 1, 1) := by decide +kernel
theorem dL_law_545 : decode cL_law 545 = .ok (.invokevirtual 99, 3) := by decide +kernel
theorem dL_law_548 : decode cL_law 548 = .ok (.aload_n 2, 1) := by decide +kernel
theorem dL_law_549 : decode cL_law 549 = .ok (.invokevirtual 102, 3) := by decide +kernel
theorem dL_law_552 : decode cL_law 552 = .ok (.if_icmp .eq 119, 3) := by decide +kernel
theorem dL_law_555 : decode cL_law 555 = .ok (.iconst 0, 1) := by decide +kernel
theorem dL_law_556 : decode cL_law 556 = .ok (.ireturn, 1) := by decide +kernel
theorem dL_law_557 : decode cL_law 557 = .ok (.aload_n 1, 1) := by decide +kernel
theorem dL_law_558 : decode cL_law 558 = .ok (.invokevirtual 103, 3) := by decide +kernel
theorem dL_law_561 : decode cL_law 561 = .ok (.aload_n 2, 1) := by decide +kernel
theorem dL_law_562 : decode cL_law 562 = .ok (.invokevirtual 106, 3) := by decide +kernel
theorem dL_law_565 : decode cL_law 565 = .ok (.if_icmp .eq 106, 3) := by decide +kernel
theorem dL_law_568 : decode cL_law 568 = .ok (.iconst 0, 1) := by decide +kernel
theorem dL_law_569 : decode cL_law 569 = .ok (.ireturn, 1) := by decide +kernel
theorem dL_law_570 : decode cL_law 570 = .ok (.aload_n 1, 1) := by decide +kernel
theorem dL_law_571 : decode cL_law 571 = .ok (.aload_n 0, 1) := by decide +kernel
theorem dL_law_572 : decode cL_law 572 = .ok (.iload 4, 2) := by decide +kernel
theorem dL_law_574 : decode cL_law 574 = .ok (.iconst 1, 1) := by decide +kernel
theorem dL_law_575 : decode cL_law 575 = .ok (.iadd, 1) := by decide +kernel
theorem dL_law_576 : decode cL_law 576 = .ok (.iaload, 1) := by decide +kernel
theorem dL_law_577 : decode cL_law 577 = .ok (.aload_n 0, 1) := by decide +kernel
theorem dL_law_578 : decode cL_law 578 = .ok (.iload 4, 2) := by decide +kernel
theorem dL_law_580 : decode cL_law 580 = .ok (.iconst 2, 1) := by decide +kernel
theorem dL_law_581 : decode cL_law 581 = .ok (.iadd, 1) := by decide +kernel
theorem dL_law_582 : decode cL_law 582 = .ok (.iaload, 1) := by decide +kernel
theorem dL_law_583 : decode cL_law 583 = .ok (.aload_n 3, 1) := by decide +kernel
theorem dL_law_584 : decode cL_law 584 = .ok (.invokestatic 107, 3) := by decide +kernel
theorem dL_law_587 : decode cL_law 587 = .ok (.istore 5, 2) := by decide +kernel
theorem dL_law_589 : decode cL_law 589 = .ok (.aload_n 2, 1) := by decide +kernel
theorem dL_law_590 : decode cL_law 590 = .ok (.aload_n 0, 1) := by decide +kernel
theorem dL_law_591 : decode cL_law 591 = .ok (.iload 4, 2) := by decide +kernel
theorem dL_law_593 : decode cL_law 593 = .ok (.iconst 1, 1) := by decide +kernel
theorem dL_law_594 : decode cL_law 594 = .ok (.iadd, 1) := by decide +kernel
theorem dL_law_595 : decode cL_law 595 = .ok (.iaload, 1) := by decide +kernel
theorem dL_law_596 : decode cL_law 596 = .ok (.aload_n 0, 1) := by decide +kernel
theorem dL_law_597 : decode cL_law 597 = .ok (.iload 4, 2) := by decide +kernel
theorem dL_law_599 : decode cL_law 599 = .ok (.iconst 2, 1) := by decide +kernel
theorem dL_law_600 : decode cL_law 600 = .ok (.iadd, 1) := by decide +kernel
theorem dL_law_601 : decode cL_law 601 = .ok (.iaload, 1) := by decide +kernel
theorem dL_law_602 : decode cL_law 602 = .ok (.invokevirtual 109, 3) := by decide +kernel
theorem dL_law_605 : decode cL_law 605 = .ok (.istore 6, 2) := by decide +kernel
theorem dL_law_607 : decode cL_law 607 = .ok (.aload_n 2, 1) := by decide +kernel
theorem dL_law_608 : decode cL_law 608 = .ok (.invokevirtual 45, 3) := by decide +kernel
theorem dL_law_611 : decode cL_law 611 = .ok (.iload 5, 2) := by decide +kernel
theorem dL_law_613 : decode cL_law 613 = .ok (.if_icmp .eq 5, 3) := by decide +kernel
theorem dL_law_616 : decode cL_law 616 = .ok (.iconst 0, 1) := by decide +kernel
theorem dL_law_617 : decode cL_law 617 = .ok (.ireturn, 1) := by decide +kernel
theorem dL_law_618 : decode cL_law 618 = .ok (.iload 5, 2) := by decide +kernel
theorem dL_law_620 : decode cL_law 620 = .ok (.ifCond .ne 22, 3) := by decide +kernel
theorem dL_law_623 : decode cL_law 623 = .ok (.aload_n 3, 1) := by decide +kernel
theorem dL_law_624 : decode cL_law 624 = .ok (.iconst 0, 1) := by decide +kernel
theorem dL_law_625 : decode cL_law 625 = .ok (.laload, 1) := by decide +kernel
theorem dL_law_626 : decode cL_law 626 = .ok (.iload 6, 2) := by decide +kernel
theorem dL_law_628 : decode cL_law 628 = .ok (.ifCond .eq 7, 3) := by decide +kernel
theorem dL_law_631 : decode cL_law 631 = .ok (.lconst 1, 1) := by decide +kernel
theorem dL_law_632 : decode cL_law 632 = .ok (.goto 4, 3) := by decide +kernel
theorem dL_law_635 : decode cL_law 635 = .ok (.lconst 0, 1) := by decide +kernel
theorem dL_law_636 : decode cL_law 636 = .ok (.lcmp, 1) := by decide +kernel
theorem dL_law_637 : decode cL_law 637 = .ok (.ifCond .eq 5, 3) := by decide +kernel
theorem dL_law_640 : decode cL_law 640 = .ok (.iconst 0, 1) := by decide +kernel
theorem dL_law_641 : decode cL_law 641 = .ok (.ireturn, 1) := by decide +kernel
theorem dL_law_642 : decode cL_law 642 = .ok (.goto 29, 3) := by decide +kernel
theorem dL_law_645 : decode cL_law 645 = .ok (.aload_n 1, 1) := by decide +kernel
theorem dL_law_646 : decode cL_law 646 = .ok (.invokevirtual 110, 3) := by decide +kernel
theorem dL_law_649 : decode cL_law 649 = .ok (.aload_n 2, 1) := by decide +kernel
theorem dL_law_650 : decode cL_law 650 = .ok (.invokevirtual 113, 3) := by decide +kernel
theorem dL_law_653 : decode cL_law 653 = .ok (.if_icmp .eq 18, 3) := by decide +kernel
theorem dL_law_656 : decode cL_law 656 = .ok (.iconst 0, 1) := by decide +kernel
theorem dL_law_657 : decode cL_law 657 = .ok (.ireturn, 1) := by decide +kernel
theorem dL_law_658 : decode cL_law 658 = .ok (.aload_n 1, 1) := by decide +kernel
theorem dL_law_659 : decode cL_law 659 = .ok (.invokevirtual 114, 3) := by decide +kernel
theorem dL_law_662 : decode cL_law 662 = .ok (.aload_n 2, 1) := by decide +kernel
theorem dL_law_663 : decode cL_law 663 = .ok (.invokevirtual 117, 3) := by decide +kernel
theorem dL_law_666 : decode cL_law 666 = .ok (.if_icmp .eq 5, 3) := by decide +kernel
theorem dL_law_669 : decode cL_law 669 = .ok (.iconst 0, 1) := by decide +kernel
theorem dL_law_670 : decode cL_law 670 = .ok (.ireturn, 1) := by decide +kernel
theorem dL_law_671 : decode cL_law 671 = .ok (.iinc 4 3, 3) := by decide +kernel
theorem dL_law_674 : decode cL_law 674 = .ok (.goto (-651), 3) := by decide +kernel
theorem dL_law_677 : decode cL_law 677 = .ok (.iconst 1, 1) := by decide +kernel
theorem dL_law_678 : decode cL_law 678 = .ok (.ireturn, 1) := by decide +kernel
end
section
def ALLW : List Cond := lw_tbl.filter goodWord
theorem twA {w : Cond} (h : w ∈ lw_tbl) (g : goodWord w = true) : w ∈ ALLW := List.mem_filter.mpr ⟨h, g⟩
theorem twL {w : Cond} (h : w ∈ tables_1) : w ∈ lw_tbl := List.mem_append_right _ h
theorem tq1 {w : Cond} (i : Nat) (h : tables_1_1[i]? = some w) : w ∈ lw_tbl := twL (List.mem_append_left _ (List.mem_of_getElem? h))
theorem tw1 {w : Cond} (i : Nat) (h : tables_1_1[i]? = some w) (g : goodWord w = true) : w ∈ ALLW := twA (tq1 i h) g
theorem tq2 {w : Cond} (i : Nat) (h : tables_1_2[i]? = some w) : w ∈ lw_tbl := twL (List.mem_append_right _ (List.mem_append_left _ (List.mem_of_getElem? h)))
theorem tw2 {w : Cond} (i : Nat) (h : tables_1_2[i]? = some w) (g : goodWord w = true) : w ∈ ALLW := twA (tq2 i h) g
theorem tq3 {w : Cond} (i : Nat) (h : tables_1_3[i]? = some w) : w ∈ lw_tbl := twL (List.mem_append_right _ (List.mem_append_right _ (List.mem_append_left _ (List.mem_of_getElem? h))))
theorem tw3 {w : Cond} (i : Nat) (h : tables_1_3[i]? = some w) (g : goodWord w = true) : w ∈ ALLW := twA (tq3 i h) g
theorem tq4 {w : Cond} (i : Nat) (h : tables_1_4[i]? = some w) : w ∈ lw_tbl := twL (List.mem_append_right _ (List.mem_append_right _ (List.mem_append_right _ (List.mem_of_getElem? h))))
theorem tw4 {w : Cond} (i : Nat) (h : tables_1_4[i]? = some w) (g : goodWord w = true) : w ∈ ALLW := twA (tq4 i h) g
theorem tw_0 : Cond.initialized "PlotKernelLaw" ∈ ALLW := tw1 0 rfl rfl
theorem tw_1 : Cond.initialized "PlotKernel" ∈ ALLW := tw1 1 rfl rfl
theorem tw_2 : Cond.initialized "java/util/AbstractCollection" ∈ ALLW := tw1 2 rfl rfl
theorem tw_3 : Cond.initialized "java/util/AbstractList" ∈ ALLW := tw1 3 rfl rfl
theorem tw_4 : Cond.initialized "java/util/ArrayList" ∈ ALLW := tw1 4 rfl rfl
theorem tw_5 : Cond.initialized "PlotKernel$Paper" ∈ ALLW := tw1 5 rfl rfl
theorem tw_6 : Cond.initialized "PlotKernelModel" ∈ ALLW := tw1 6 rfl rfl
theorem tw_7 : Cond.initialized "java/lang/Throwable" ∈ ALLW := tw1 7 rfl rfl
theorem tw_8 : Cond.initialized "java/lang/Exception" ∈ ALLW := tw1 8 rfl rfl
theorem tw_9 : Cond.initialized "java/lang/RuntimeException" ∈ ALLW := tw1 9 rfl rfl
theorem tw_10 : Cond.initialized "java/lang/IllegalArgumentException" ∈ ALLW := tw1 10 rfl rfl
theorem tw_11 : Cond.initialized "java/lang/Math" ∈ ALLW := tw1 11 rfl rfl
theorem tw_12 : Cond.initialized "jdk/internal/util/ArraysSupport" ∈ ALLW := tw1 12 rfl rfl
theorem tw_13 : Cond.initialized "java/util/Arrays" ∈ ALLW := tw1 13 rfl rfl
theorem tw_14 : Cond.initialized "java/lang/System" ∈ ALLW := tw1 14 rfl rfl
theorem tw_15 : Cond.initialized "PlotKernel$Command" ∈ ALLW := tw1 15 rfl rfl
theorem tw_16 : Cond.initialized "java/util/Objects" ∈ ALLW := tw1 16 rfl rfl
theorem tw_17 : Cond.initialized "jdk/internal/util/Preconditions" ∈ ALLW := tw1 17 rfl rfl
theorem tw_18 : Cond.initialized "java/lang/IndexOutOfBoundsException" ∈ ALLW := tw1 18 rfl rfl
theorem tw_19 : Cond.classLink "PlotKernelLaw" 8 "PlotKernel" ∈ ALLW := tw1 19 rfl rfl
theorem tw_20 : Cond.instantiable "PlotKernel" 19 ∈ ALLW := tw1 20 rfl rfl
theorem tw_21 : Cond.methodLink "PlotKernelLaw" 35 ⟨"PlotKernel", "<init>", "()V"⟩ ∈ ALLW := tw1 21 rfl rfl
theorem tw_22 : Cond.instanceMethod ⟨"PlotKernel", "<init>", "()V"⟩ ∈ ALLW := tw1 22 rfl rfl
theorem tw_23 : Cond.code ⟨"PlotKernel", "<init>", "()V"⟩ prog_1_method_1_code 2 none ∈ ALLW := tw1 23 rfl rfl
theorem tw_24 : Cond.methodLink "PlotKernel" 1 ⟨"java/lang/Object", "<init>", "()V"⟩ ∈ ALLW := tw1 24 rfl rfl
theorem tw_25 : Cond.instanceMethod ⟨"java/lang/Object", "<init>", "()V"⟩ ∈ ALLW := tw1 25 rfl rfl
theorem tw_26 : Cond.code ⟨"java/lang/Object", "<init>", "()V"⟩ object_method_1_code 1 none ∈ ALLW := tw1 26 rfl rfl
theorem tw_27 : Cond.classLink "PlotKernel" 7 "java/util/ArrayList" ∈ ALLW := tw1 27 rfl rfl
theorem tw_28 : Cond.instantiable "java/util/ArrayList" 3 ∈ ALLW := tw1 28 rfl rfl
theorem tw_29 : Cond.methodLink "PlotKernel" 9 ⟨"java/util/ArrayList", "<init>", "()V"⟩ ∈ ALLW := tw1 29 rfl rfl
theorem tw_30 : Cond.instanceMethod ⟨"java/util/ArrayList", "<init>", "()V"⟩ ∈ ALLW := tw1 30 rfl rfl
theorem tw_31 : Cond.code ⟨"java/util/ArrayList", "<init>", "()V"⟩ prog_19_method_2_code 1 none ∈ ALLW := tw1 31 rfl rfl
theorem tw_32 : Cond.methodLink "java/util/ArrayList" 1 ⟨"java/util/AbstractList", "<init>", "()V"⟩ ∈ ALLW := tw1 32 rfl rfl
theorem tw_33 : Cond.instanceMethod ⟨"java/util/AbstractList", "<init>", "()V"⟩ ∈ ALLW := tw1 33 rfl rfl
theorem tw_34 : Cond.code ⟨"java/util/AbstractList", "<init>", "()V"⟩ prog_18_method_1_code 1 none ∈ ALLW := tw1 34 rfl rfl
theorem tw_35 : Cond.methodLink "java/util/AbstractList" 1 ⟨"java/util/AbstractCollection", "<init>", "()V"⟩ ∈ ALLW := tw1 35 rfl rfl
theorem tw_36 : Cond.instanceMethod ⟨"java/util/AbstractCollection", "<init>", "()V"⟩ ∈ ALLW := tw1 36 rfl rfl
theorem tw_37 : Cond.code ⟨"java/util/AbstractCollection", "<init>", "()V"⟩ prog_17_method_1_code 1 none ∈ ALLW := tw1 37 rfl rfl
theorem tw_38 : Cond.methodLink "java/util/AbstractCollection" 1 ⟨"java/lang/Object", "<init>", "()V"⟩ ∈ ALLW := tw1 38 rfl rfl
theorem tw_39 : Cond.fieldLink "java/util/ArrayList" 39 "java/util/ArrayList" "DEFAULTCAPACITY_EMPTY_ELEMENTDATA" "[Ljava/lang/Object;" ∈ ALLW := tw1 39 rfl rfl
theorem tq_40 : Cond.laysStatic "java/util/ArrayList" "DEFAULTCAPACITY_EMPTY_ELEMENTDATA" "[Ljava/lang/Object;" ∈ lw_tbl := tq1 40 rfl
theorem tw_41 : Cond.fieldLink "java/util/ArrayList" 9 "java/util/ArrayList" "elementData" "[Ljava/lang/Object;" ∈ ALLW := tw1 41 rfl rfl
theorem tw_42 : Cond.fieldLink "java/util/ArrayList" 48 "java/util/ArrayList" "size" "I" ∈ ALLW := tw1 42 rfl rfl
theorem tw_43 : Cond.fieldLink "java/util/AbstractList" 7 "java/util/AbstractList" "modCount" "I" ∈ ALLW := tw1 43 rfl rfl
theorem tw_44 : Cond.fieldLink "java/util/ArrayList" 63 "java/util/ArrayList" "modCount" "I" ∈ ALLW := tw1 44 rfl rfl
theorem tw_45 : Cond.sameField "java/util/ArrayList" "java/util/AbstractList" "modCount" "I" ∈ ALLW := tw1 45 rfl rfl
theorem tw_46 : Cond.lays "java/util/ArrayList" "java/util/ArrayList" "elementData" "[Ljava/lang/Object;" ∈ ALLW := tw1 46 rfl rfl
theorem tw_47 : Cond.soleField "java/util/ArrayList" "elementData" ∈ ALLW := tw1 47 rfl rfl
theorem tw_48 : Cond.lays "java/util/ArrayList" "java/util/ArrayList" "size" "I" ∈ ALLW := tw1 48 rfl rfl
theorem tw_49 : Cond.soleField "java/util/ArrayList" "size" ∈ ALLW := tw1 49 rfl rfl
theorem tw_50 : Cond.lays "java/util/ArrayList" "java/util/AbstractList" "modCount" "I" ∈ ALLW := tw1 50 rfl rfl
theorem tw_51 : Cond.soleField "java/util/AbstractList" "modCount" ∈ ALLW := tw1 51 rfl rfl
theorem tw_52 : Cond.superclass "java/util/ArrayList" "java/util/AbstractList" ∈ ALLW := tw1 52 rfl rfl
theorem tw_53 : Cond.classLink "PlotKernel" 16 "PlotKernel$Paper" ∈ ALLW := tw1 53 rfl rfl
theorem tw_54 : Cond.instantiable "PlotKernel$Paper" 2 ∈ ALLW := tw1 54 rfl rfl
theorem tq_55 : Cond.methodLinkNest "PlotKernel" 18 ⟨"PlotKernel$Paper", "<init>", "()V"⟩ "PlotKernel" ∈ lw_tbl := tq1 55 rfl
theorem tw_56 : Cond.instanceMethod ⟨"PlotKernel$Paper", "<init>", "()V"⟩ ∈ ALLW := tw1 56 rfl rfl
theorem tw_57 : Cond.code ⟨"PlotKernel$Paper", "<init>", "()V"⟩ prog_3_method_1_code 1 none ∈ ALLW := tw1 57 rfl rfl
theorem tw_58 : Cond.methodLink "PlotKernel$Paper" 5 ⟨"java/lang/Object", "<init>", "()V"⟩ ∈ ALLW := tw1 58 rfl rfl
theorem tw_59 : Cond.fieldLink "PlotKernel$Paper" 11 "PlotKernel$Paper" "words" "[J" ∈ ALLW := tw1 59 rfl rfl
theorem tw_60 : Cond.fieldLink "PlotKernel$Paper" 27 "PlotKernel$Paper" "markCount" "I" ∈ ALLW := tw1 60 rfl rfl
theorem tq_61 : Cond.fieldLinkNest "PlotKernel" 233 "PlotKernel$Paper" "markCount" "I" "PlotKernel" ∈ lw_tbl := tq1 61 rfl
theorem tw_62 : Cond.laysFinal "PlotKernel$Paper" "PlotKernel$Paper" "words" "[J" ∈ ALLW := tw1 62 rfl rfl
theorem tw_63 : Cond.soleField "PlotKernel$Paper" "words" ∈ ALLW := tw1 63 rfl rfl
theorem tw_64 : Cond.lays "PlotKernel$Paper" "PlotKernel$Paper" "markCount" "I" ∈ ALLW := tw1 64 rfl rfl
theorem tw_65 : Cond.soleField "PlotKernel$Paper" "markCount" ∈ ALLW := tw1 65 rfl rfl
theorem tw_66 : Cond.superclass "PlotKernel$Paper" "java/lang/Object" ∈ ALLW := tw1 66 rfl rfl
theorem tw_67 : Cond.arrayClass .long ∈ ALLW := tw1 67 rfl rfl
theorem tw_68 : Cond.fieldLink "PlotKernel" 10 "PlotKernel" "queue" "Ljava/util/ArrayList;" ∈ ALLW := tw1 68 rfl rfl
theorem tw_69 : Cond.fieldLink "PlotKernel" 19 "PlotKernel" "paper" "LPlotKernel$Paper;" ∈ ALLW := tw1 69 rfl rfl
theorem tw_70 : Cond.fieldLink "PlotKernel" 23 "PlotKernel" "plan" "LPlotKernel$Paper;" ∈ ALLW := tw1 70 rfl rfl
theorem tw_71 : Cond.fieldLink "PlotKernel" 26 "PlotKernel" "inkLeft" "[I" ∈ ALLW := tw1 71 rfl rfl
theorem tw_72 : Cond.fieldLink "PlotKernel" 55 "PlotKernel" "opcode" "I" ∈ ALLW := tw1 72 rfl rfl
theorem tw_73 : Cond.fieldLink "PlotKernel" 58 "PlotKernel" "firstByte" "I" ∈ ALLW := tw1 73 rfl rfl
theorem tw_74 : Cond.fieldLink "PlotKernel" 49 "PlotKernel" "pendingBytes" "I" ∈ ALLW := tw1 74 rfl rfl
theorem tw_75 : Cond.fieldLink "PlotKernel" 45 "PlotKernel" "errorCount" "I" ∈ ALLW := tw1 75 rfl rfl
theorem tw_76 : Cond.fieldLink "PlotKernel" 84 "PlotKernel" "latest" "LPlotKernel$Command;" ∈ ALLW := tw1 76 rfl rfl
theorem tw_77 : Cond.fieldLink "PlotKernel" 102 "PlotKernel" "endX" "I" ∈ ALLW := tw1 77 rfl rfl
theorem tw_78 : Cond.fieldLink "PlotKernel" 108 "PlotKernel" "endY" "I" ∈ ALLW := tw1 78 rfl rfl
theorem tw_79 : Cond.fieldLink "PlotKernel" 206 "PlotKernel" "startX" "I" ∈ ALLW := tw1 79 rfl rfl
theorem tw_80 : Cond.fieldLink "PlotKernel" 209 "PlotKernel" "startY" "I" ∈ ALLW := tw1 80 rfl rfl
theorem tw_81 : Cond.fieldLink "PlotKernel" 152 "PlotKernel" "stepsDone" "I" ∈ ALLW := tw1 81 rfl rfl
theorem tw_82 : Cond.fieldLink "PlotKernel" 155 "PlotKernel" "begunTicks" "I" ∈ ALLW := tw1 82 rfl rfl
theorem tw_83 : Cond.fieldLink "PlotKernel" 158 "PlotKernel" "penDown" "Z" ∈ ALLW := tw1 83 rfl rfl
theorem tw_84 : Cond.fieldLink "PlotKernel" 200 "PlotKernel" "penHeld" "I" ∈ ALLW := tw1 84 rfl rfl
theorem tw_85 : Cond.fieldLink "PlotKernel" 143 "PlotKernel" "upSteps" "I" ∈ ALLW := tw1 85 rfl rfl
theorem tw_86 : Cond.fieldLink "PlotKernel" 146 "PlotKernel" "downSteps" "I" ∈ ALLW := tw1 86 rfl rfl
theorem tw_87 : Cond.laysFinal "PlotKernel" "PlotKernel" "queue" "Ljava/util/ArrayList;" ∈ ALLW := tw1 87 rfl rfl
theorem tw_88 : Cond.soleField "PlotKernel" "queue" ∈ ALLW := tw1 88 rfl rfl
theorem tw_89 : Cond.laysFinal "PlotKernel" "PlotKernel" "paper" "LPlotKernel$Paper;" ∈ ALLW := tw1 89 rfl rfl
theorem tw_90 : Cond.soleField "PlotKernel" "paper" ∈ ALLW := tw1 90 rfl rfl
theorem tw_91 : Cond.laysFinal "PlotKernel" "PlotKernel" "plan" "LPlotKernel$Paper;" ∈ ALLW := tw1 91 rfl rfl
theorem tw_92 : Cond.soleField "PlotKernel" "plan" ∈ ALLW := tw1 92 rfl rfl
theorem tw_93 : Cond.laysFinal "PlotKernel" "PlotKernel" "inkLeft" "[I" ∈ ALLW := tw1 93 rfl rfl
theorem tw_94 : Cond.soleField "PlotKernel" "inkLeft" ∈ ALLW := tw1 94 rfl rfl
theorem tw_95 : Cond.lays "PlotKernel" "PlotKernel" "opcode" "I" ∈ ALLW := tw1 95 rfl rfl
theorem tw_96 : Cond.soleField "PlotKernel" "opcode" ∈ ALLW := tw1 96 rfl rfl
theorem tw_97 : Cond.lays "PlotKernel" "PlotKernel" "firstByte" "I" ∈ ALLW := tw1 97 rfl rfl
theorem tw_98 : Cond.soleField "PlotKernel" "firstByte" ∈ ALLW := tw1 98 rfl rfl
theorem tw_99 : Cond.lays "PlotKernel" "PlotKernel" "pendingBytes" "I" ∈ ALLW := tw1 99 rfl rfl
theorem tw_100 : Cond.soleField "PlotKernel" "pendingBytes" ∈ ALLW := tw1 100 rfl rfl
theorem tw_101 : Cond.lays "PlotKernel" "PlotKernel" "errorCount" "I" ∈ ALLW := tw1 101 rfl rfl
theorem tw_102 : Cond.soleField "PlotKernel" "errorCount" ∈ ALLW := tw1 102 rfl rfl
theorem tw_103 : Cond.lays "PlotKernel" "PlotKernel" "latest" "LPlotKernel$Command;" ∈ ALLW := tw1 103 rfl rfl
theorem tw_104 : Cond.soleField "PlotKernel" "latest" ∈ ALLW := tw1 104 rfl rfl
theorem tw_105 : Cond.lays "PlotKernel" "PlotKernel" "endX" "I" ∈ ALLW := tw1 105 rfl rfl
theorem tw_106 : Cond.soleField "PlotKernel" "endX" ∈ ALLW := tw1 106 rfl rfl
theorem tw_107 : Cond.lays "PlotKernel" "PlotKernel" "endY" "I" ∈ ALLW := tw1 107 rfl rfl
theorem tw_108 : Cond.soleField "PlotKernel" "endY" ∈ ALLW := tw1 108 rfl rfl
theorem tw_109 : Cond.lays "PlotKernel" "PlotKernel" "startX" "I" ∈ ALLW := tw1 109 rfl rfl
theorem tw_110 : Cond.soleField "PlotKernel" "startX" ∈ ALLW := tw1 110 rfl rfl
theorem tw_111 : Cond.lays "PlotKernel" "PlotKernel" "startY" "I" ∈ ALLW := tw1 111 rfl rfl
theorem tw_112 : Cond.soleField "PlotKernel" "startY" ∈ ALLW := tw1 112 rfl rfl
theorem tw_113 : Cond.lays "PlotKernel" "PlotKernel" "stepsDone" "I" ∈ ALLW := tw1 113 rfl rfl
theorem tw_114 : Cond.soleField "PlotKernel" "stepsDone" ∈ ALLW := tw1 114 rfl rfl
theorem tw_115 : Cond.lays "PlotKernel" "PlotKernel" "begunTicks" "I" ∈ ALLW := tw1 115 rfl rfl
theorem tw_116 : Cond.soleField "PlotKernel" "begunTicks" ∈ ALLW := tw1 116 rfl rfl
theorem tw_117 : Cond.lays "PlotKernel" "PlotKernel" "penDown" "Z" ∈ ALLW := tw1 117 rfl rfl
theorem tw_118 : Cond.soleField "PlotKernel" "penDown" ∈ ALLW := tw1 118 rfl rfl
theorem tw_119 : Cond.lays "PlotKernel" "PlotKernel" "penHeld" "I" ∈ ALLW := tw1 119 rfl rfl
theorem tw_120 : Cond.soleField "PlotKernel" "penHeld" ∈ ALLW := tw1 120 rfl rfl
theorem tw_121 : Cond.lays "PlotKernel" "PlotKernel" "upSteps" "I" ∈ ALLW := tw1 121 rfl rfl
theorem tw_122 : Cond.soleField "PlotKernel" "upSteps" ∈ ALLW := tw1 122 rfl rfl
theorem tw_123 : Cond.lays "PlotKernel" "PlotKernel" "downSteps" "I" ∈ ALLW := tw1 123 rfl rfl
theorem tw_124 : Cond.soleField "PlotKernel" "downSteps" ∈ ALLW := tw1 124 rfl rfl
theorem tw_125 : Cond.superclass "PlotKernel" "java/lang/Object" ∈ ALLW := tw1 125 rfl rfl
theorem tw_126 : Cond.arrayClass .int ∈ ALLW := tw1 126 rfl rfl
theorem tw_127 : Cond.methodLink "PlotKernelLaw" 49 ⟨"PlotKernel", "errors", "()I"⟩ ∈ ALLW := tw1 127 rfl rfl
theorem tw_128 : Cond.instanceMethod ⟨"PlotKernel", "errors", "()I"⟩ ∈ ALLW := tw1 128 rfl rfl
theorem tw_129 : Cond.selects "PlotKernel" ⟨"PlotKernel", "errors", "()I"⟩ ⟨"PlotKernel", "errors", "()I"⟩ ∈ ALLW := tw1 129 rfl rfl
theorem tw_130 : Cond.code ⟨"PlotKernel", "errors", "()I"⟩ prog_1_method_3_code 1 (some .int) ∈ ALLW := tw1 130 rfl rfl
theorem tw_131 : Cond.methodLink "PlotKernelLaw" 53 ⟨"PlotKernel", "queued", "()I"⟩ ∈ ALLW := tw1 131 rfl rfl
theorem tw_132 : Cond.instanceMethod ⟨"PlotKernel", "queued", "()I"⟩ ∈ ALLW := tw1 132 rfl rfl
theorem tw_133 : Cond.selects "PlotKernel" ⟨"PlotKernel", "queued", "()I"⟩ ⟨"PlotKernel", "queued", "()I"⟩ ∈ ALLW := tw1 133 rfl rfl
theorem tw_134 : Cond.code ⟨"PlotKernel", "queued", "()I"⟩ prog_1_method_4_code 1 (some .int) ∈ ALLW := tw1 134 rfl rfl
theorem tw_135 : Cond.methodLink "PlotKernel" 37 ⟨"java/util/ArrayList", "size", "()I"⟩ ∈ ALLW := tw1 135 rfl rfl
theorem tw_136 : Cond.instanceMethod ⟨"java/util/ArrayList", "size", "()I"⟩ ∈ ALLW := tw1 136 rfl rfl
theorem tw_137 : Cond.selects "java/util/ArrayList" ⟨"java/util/ArrayList", "size", "()I"⟩ ⟨"java/util/ArrayList", "size", "()I"⟩ ∈ ALLW := tw1 137 rfl rfl
theorem tw_138 : Cond.code ⟨"java/util/ArrayList", "size", "()I"⟩ prog_19_method_8_code 1 (some .int) ∈ ALLW := tw1 138 rfl rfl
theorem tw_139 : Cond.methodLink "PlotKernelLaw" 57 ⟨"PlotKernel", "pending", "()I"⟩ ∈ ALLW := tw1 139 rfl rfl
theorem tw_140 : Cond.instanceMethod ⟨"PlotKernel", "pending", "()I"⟩ ∈ ALLW := tw1 140 rfl rfl
theorem tw_141 : Cond.selects "PlotKernel" ⟨"PlotKernel", "pending", "()I"⟩ ⟨"PlotKernel", "pending", "()I"⟩ ∈ ALLW := tw1 141 rfl rfl
theorem tw_142 : Cond.code ⟨"PlotKernel", "pending", "()I"⟩ prog_1_method_5_code 1 (some .int) ∈ ALLW := tw1 142 rfl rfl
theorem tw_143 : Cond.methodLink "PlotKernelLaw" 64 ⟨"PlotKernel", "cut", "()I"⟩ ∈ ALLW := tw1 143 rfl rfl
theorem tw_144 : Cond.instanceMethod ⟨"PlotKernel", "cut", "()I"⟩ ∈ ALLW := tw1 144 rfl rfl
theorem tw_145 : Cond.selects "PlotKernel" ⟨"PlotKernel", "cut", "()I"⟩ ⟨"PlotKernel", "cut", "()I"⟩ ∈ ALLW := tw1 145 rfl rfl
theorem tw_146 : Cond.code ⟨"PlotKernel", "cut", "()I"⟩ prog_1_method_16_code 2 (some .int) ∈ ALLW := tw1 146 rfl rfl
theorem tw_147 : Cond.methodLink "PlotKernelLaw" 75 ⟨"PlotKernel", "at", "()I"⟩ ∈ ALLW := tw1 147 rfl rfl
theorem tw_148 : Cond.instanceMethod ⟨"PlotKernel", "at", "()I"⟩ ∈ ALLW := tw1 148 rfl rfl
theorem tw_149 : Cond.selects "PlotKernel" ⟨"PlotKernel", "at", "()I"⟩ ⟨"PlotKernel", "at", "()I"⟩ ∈ ALLW := tw1 149 rfl rfl
theorem tw_150 : Cond.code ⟨"PlotKernel", "at", "()I"⟩ prog_1_method_25_code 1 (some .int) ∈ ALLW := tw1 150 rfl rfl
theorem tw_151 : Cond.methodLink "PlotKernel" 222 ⟨"PlotKernel", "carriageY", "()I"⟩ ∈ ALLW := tw1 151 rfl rfl
theorem tq_152 : Cond.privateMethod ⟨"PlotKernel", "carriageY", "()I"⟩ ∈ lw_tbl := tq1 152 rfl
theorem tw_153 : Cond.instanceMethod ⟨"PlotKernel", "carriageY", "()I"⟩ ∈ ALLW := tw1 153 rfl rfl
theorem tw_154 : Cond.code ⟨"PlotKernel", "carriageY", "()I"⟩ prog_1_method_35_code 2 (some .int) ∈ ALLW := tw1 154 rfl rfl
theorem tw_155 : Cond.methodLink "PlotKernel" 181 ⟨"PlotKernel", "firstCommand", "()LPlotKernel$Command;"⟩ ∈ ALLW := tw1 155 rfl rfl
theorem tq_156 : Cond.privateMethod ⟨"PlotKernel", "firstCommand", "()LPlotKernel$Command;"⟩ ∈ lw_tbl := tq1 156 rfl
theorem tw_157 : Cond.instanceMethod ⟨"PlotKernel", "firstCommand", "()LPlotKernel$Command;"⟩ ∈ ALLW := tw1 157 rfl rfl
theorem tw_158 : Cond.code ⟨"PlotKernel", "firstCommand", "()LPlotKernel$Command;"⟩ prog_1_method_33_code 1 (some (.object "PlotKernel$Command")) ∈ ALLW := tw1 158 rfl rfl
theorem tw_159 : Cond.methodLink "PlotKernel" 212 ⟨"java/util/ArrayList", "isEmpty", "()Z"⟩ ∈ ALLW := tw1 159 rfl rfl
theorem tw_160 : Cond.instanceMethod ⟨"java/util/ArrayList", "isEmpty", "()Z"⟩ ∈ ALLW := tw1 160 rfl rfl
theorem tw_161 : Cond.selects "java/util/ArrayList" ⟨"java/util/ArrayList", "isEmpty", "()Z"⟩ ⟨"java/util/ArrayList", "isEmpty", "()Z"⟩ ∈ ALLW := tw1 161 rfl rfl
theorem tw_162 : Cond.code ⟨"java/util/ArrayList", "isEmpty", "()Z"⟩ prog_19_method_9_code 1 (some .boolean) ∈ ALLW := tw1 162 rfl rfl
theorem tw_163 : Cond.methodLink "PlotKernel" 225 ⟨"java/util/ArrayList", "get", "(I)Ljava/lang/Object;"⟩ ∈ ALLW := tw1 163 rfl rfl
theorem tw_164 : Cond.instanceMethod ⟨"java/util/ArrayList", "get", "(I)Ljava/lang/Object;"⟩ ∈ ALLW := tw1 164 rfl rfl
theorem tw_165 : Cond.selects "java/util/ArrayList" ⟨"java/util/ArrayList", "get", "(I)Ljava/lang/Object;"⟩ ⟨"java/util/ArrayList", "get", "(I)Ljava/lang/Object;"⟩ ∈ ALLW := tw1 165 rfl rfl
theorem tw_166 : Cond.code ⟨"java/util/ArrayList", "get", "(I)Ljava/lang/Object;"⟩ prog_19_method_20_code 2 (some (.object "java/lang/Object")) ∈ ALLW := tw1 166 rfl rfl
theorem tw_167 : Cond.methodLink "java/util/ArrayList" 118 ⟨"java/util/Objects", "checkIndex", "(II)I"⟩ ∈ ALLW := tw1 167 rfl rfl
theorem tw_168 : Cond.static ⟨"java/util/Objects", "checkIndex", "(II)I"⟩ ∈ ALLW := tw1 168 rfl rfl
theorem tw_169 : Cond.code ⟨"java/util/Objects", "checkIndex", "(II)I"⟩ prog_23_method_17_code 2 (some .int) ∈ ALLW := tw1 169 rfl rfl
theorem tw_170 : Cond.methodLink "java/util/Objects" 105 ⟨"jdk/internal/util/Preconditions", "checkIndex", "(IILjava/util/function/BiFunction;)I"⟩ ∈ ALLW := tw1 170 rfl rfl
theorem tw_171 : Cond.static ⟨"jdk/internal/util/Preconditions", "checkIndex", "(IILjava/util/function/BiFunction;)I"⟩ ∈ ALLW := tw1 171 rfl rfl
theorem tw_172 : Cond.code ⟨"jdk/internal/util/Preconditions", "checkIndex", "(IILjava/util/function/BiFunction;)I"⟩ prog_27_method_11_code 3 (some .int) ∈ ALLW := tw1 172 rfl rfl
theorem tw_173 : Cond.methodLink "java/util/ArrayList" 123 ⟨"java/util/ArrayList", "elementData", "(I)Ljava/lang/Object;"⟩ ∈ ALLW := tw1 173 rfl rfl
theorem tw_174 : Cond.instanceMethod ⟨"java/util/ArrayList", "elementData", "(I)Ljava/lang/Object;"⟩ ∈ ALLW := tw1 174 rfl rfl
theorem tw_175 : Cond.selects "java/util/ArrayList" ⟨"java/util/ArrayList", "elementData", "(I)Ljava/lang/Object;"⟩ ⟨"java/util/ArrayList", "elementData", "(I)Ljava/lang/Object;"⟩ ∈ ALLW := tw1 175 rfl rfl
theorem tw_176 : Cond.code ⟨"java/util/ArrayList", "elementData", "(I)Ljava/lang/Object;"⟩ prog_19_method_18_code 2 (some (.object "java/lang/Object")) ∈ ALLW := tw1 176 rfl rfl
theorem tw_177 : Cond.classLink "PlotKernel" 67 "PlotKernel$Command" ∈ ALLW := tw1 177 rfl rfl
theorem tq_178 : Cond.methodLinkNest "PlotKernel" 134 ⟨"PlotKernel$Command", "wayY", "(I)I"⟩ "PlotKernel" ∈ lw_tbl := tq1 178 rfl
theorem tq_179 : Cond.privateMethod ⟨"PlotKernel$Command", "wayY", "(I)I"⟩ ∈ lw_tbl := tq1 179 rfl
theorem tw_180 : Cond.instanceMethod ⟨"PlotKernel$Command", "wayY", "(I)I"⟩ ∈ ALLW := tw1 180 rfl rfl
theorem tw_181 : Cond.instantiable "PlotKernel$Command" 4 ∈ ALLW := tw1 181 rfl rfl
theorem tw_182 : Cond.code ⟨"PlotKernel$Command", "wayY", "(I)I"⟩ prog_2_method_5_code 2 (some .int) ∈ ALLW := tw1 182 rfl rfl
theorem tw_183 : Cond.methodLink "PlotKernel$Command" 34 ⟨"PlotKernel$Command", "way", "(II)I"⟩ ∈ ALLW := tw1 183 rfl rfl
theorem tq_184 : Cond.privateMethod ⟨"PlotKernel$Command", "way", "(II)I"⟩ ∈ lw_tbl := tq1 184 rfl
theorem tw_185 : Cond.instanceMethod ⟨"PlotKernel$Command", "way", "(II)I"⟩ ∈ ALLW := tw1 185 rfl rfl
theorem tw_186 : Cond.code ⟨"PlotKernel$Command", "way", "(II)I"⟩ prog_2_method_6_code 4 (some .int) ∈ ALLW := tw1 186 rfl rfl
theorem tw_187 : Cond.methodLink "PlotKernel$Command" 37 ⟨"PlotKernel$Command", "steps", "()I"⟩ ∈ ALLW := tw1 187 rfl rfl
theorem tq_188 : Cond.privateMethod ⟨"PlotKernel$Command", "steps", "()I"⟩ ∈ lw_tbl := tq1 188 rfl
theorem tw_189 : Cond.instanceMethod ⟨"PlotKernel$Command", "steps", "()I"⟩ ∈ ALLW := tw1 189 rfl rfl
theorem tw_190 : Cond.code ⟨"PlotKernel$Command", "steps", "()I"⟩ prog_2_method_3_code 1 (some .int) ∈ ALLW := tw1 190 rfl rfl
theorem tw_191 : Cond.methodLink "PlotKernel$Command" 24 ⟨"java/lang/Math", "abs", "(I)I"⟩ ∈ ALLW := tw1 191 rfl rfl
theorem tw_192 : Cond.static ⟨"java/lang/Math", "abs", "(I)I"⟩ ∈ ALLW := tw1 192 rfl rfl
theorem tw_193 : Cond.code ⟨"java/lang/Math", "abs", "(I)I"⟩ prog_12_method_59_code 1 (some .int) ∈ ALLW := tw1 193 rfl rfl
theorem tw_194 : Cond.methodLink "PlotKernel$Command" 30 ⟨"java/lang/Math", "max", "(II)I"⟩ ∈ ALLW := tw1 194 rfl rfl
theorem tw_195 : Cond.static ⟨"java/lang/Math", "max", "(II)I"⟩ ∈ ALLW := tw1 195 rfl rfl
theorem tw_196 : Cond.code ⟨"java/lang/Math", "max", "(II)I"⟩ prog_12_method_65_code 2 (some .int) ∈ ALLW := tw1 196 rfl rfl
theorem tw_197 : Cond.methodLink "PlotKernel" 219 ⟨"PlotKernel", "carriageX", "()I"⟩ ∈ ALLW := tw1 197 rfl rfl
theorem tq_198 : Cond.privateMethod ⟨"PlotKernel", "carriageX", "()I"⟩ ∈ lw_tbl := tq1 198 rfl
theorem tw_199 : Cond.instanceMethod ⟨"PlotKernel", "carriageX", "()I"⟩ ∈ ALLW := tw1 199 rfl rfl
theorem tw_200 : Cond.code ⟨"PlotKernel", "carriageX", "()I"⟩ prog_1_method_34_code 2 (some .int) ∈ ALLW := tw1 200 rfl rfl
theorem tq_201 : Cond.methodLinkNest "PlotKernel" 131 ⟨"PlotKernel$Command", "wayX", "(I)I"⟩ "PlotKernel" ∈ lw_tbl := tq1 201 rfl
theorem tq_202 : Cond.privateMethod ⟨"PlotKernel$Command", "wayX", "(I)I"⟩ ∈ lw_tbl := tq1 202 rfl
theorem tw_203 : Cond.instanceMethod ⟨"PlotKernel$Command", "wayX", "(I)I"⟩ ∈ ALLW := tw1 203 rfl rfl
theorem tw_204 : Cond.code ⟨"PlotKernel$Command", "wayX", "(I)I"⟩ prog_2_method_4_code 2 (some .int) ∈ ALLW := tw1 204 rfl rfl
theorem tw_205 : Cond.methodLink "PlotKernelLaw" 79 ⟨"PlotKernel", "isDown", "()Z"⟩ ∈ ALLW := tw1 205 rfl rfl
theorem tw_206 : Cond.instanceMethod ⟨"PlotKernel", "isDown", "()Z"⟩ ∈ ALLW := tw1 206 rfl rfl
theorem tw_207 : Cond.selects "PlotKernel" ⟨"PlotKernel", "isDown", "()Z"⟩ ⟨"PlotKernel", "isDown", "()Z"⟩ ∈ ALLW := tw1 207 rfl rfl
theorem tw_208 : Cond.code ⟨"PlotKernel", "isDown", "()Z"⟩ prog_1_method_26_code 1 (some .boolean) ∈ ALLW := tw1 208 rfl rfl
theorem tw_209 : Cond.methodLink "PlotKernelLaw" 84 ⟨"PlotKernel", "pen", "()I"⟩ ∈ ALLW := tw1 209 rfl rfl
theorem tw_210 : Cond.instanceMethod ⟨"PlotKernel", "pen", "()I"⟩ ∈ ALLW := tw1 210 rfl rfl
theorem tw_211 : Cond.selects "PlotKernel" ⟨"PlotKernel", "pen", "()I"⟩ ⟨"PlotKernel", "pen", "()I"⟩ ∈ ALLW := tw1 211 rfl rfl
theorem tw_212 : Cond.code ⟨"PlotKernel", "pen", "()I"⟩ prog_1_method_27_code 1 (some .int) ∈ ALLW := tw1 212 rfl rfl
theorem tw_213 : Cond.methodLink "PlotKernelLaw" 91 ⟨"PlotKernel", "isWaiting", "()Z"⟩ ∈ ALLW := tw1 213 rfl rfl
theorem tw_214 : Cond.instanceMethod ⟨"PlotKernel", "isWaiting", "()Z"⟩ ∈ ALLW := tw1 214 rfl rfl
theorem tw_215 : Cond.selects "PlotKernel" ⟨"PlotKernel", "isWaiting", "()Z"⟩ ⟨"PlotKernel", "isWaiting", "()Z"⟩ ∈ ALLW := tw1 215 rfl rfl
theorem tw_216 : Cond.code ⟨"PlotKernel", "isWaiting", "()Z"⟩ prog_1_method_29_code 2 (some .boolean) ∈ ALLW := tw1 216 rfl rfl
theorem tw_217 : Cond.methodLink "PlotKernel" 185 ⟨"PlotKernel", "lacksInk", "(LPlotKernel$Command;)Z"⟩ ∈ ALLW := tw1 217 rfl rfl
theorem tq_218 : Cond.privateMethod ⟨"PlotKernel", "lacksInk", "(LPlotKernel$Command;)Z"⟩ ∈ lw_tbl := tq1 218 rfl
theorem tw_219 : Cond.instanceMethod ⟨"PlotKernel", "lacksInk", "(LPlotKernel$Command;)Z"⟩ ∈ ALLW := tw1 219 rfl rfl
theorem tw_220 : Cond.code ⟨"PlotKernel", "lacksInk", "(LPlotKernel$Command;)Z"⟩ prog_1_method_36_code 2 (some .boolean) ∈ ALLW := tw1 220 rfl rfl
theorem tq_221 : Cond.methodLinkNest "PlotKernel" 91 ⟨"PlotKernel$Command", "draws", "()Z"⟩ "PlotKernel" ∈ lw_tbl := tq1 221 rfl
theorem tq_222 : Cond.privateMethod ⟨"PlotKernel$Command", "draws", "()Z"⟩ ∈ lw_tbl := tq1 222 rfl
theorem tw_223 : Cond.instanceMethod ⟨"PlotKernel$Command", "draws", "()Z"⟩ ∈ ALLW := tw1 223 rfl rfl
theorem tw_224 : Cond.code ⟨"PlotKernel$Command", "draws", "()Z"⟩ prog_2_method_2_code 1 (some .boolean) ∈ ALLW := tw1 224 rfl rfl
theorem tw_225 : Cond.methodLink "PlotKernel" 167 ⟨"PlotKernel", "inkOf", "(I)I"⟩ ∈ ALLW := tw1 225 rfl rfl
theorem tq_226 : Cond.privateMethod ⟨"PlotKernel", "inkOf", "(I)I"⟩ ∈ lw_tbl := tq1 226 rfl
theorem tw_227 : Cond.instanceMethod ⟨"PlotKernel", "inkOf", "(I)I"⟩ ∈ ALLW := tw1 227 rfl rfl
theorem tw_228 : Cond.code ⟨"PlotKernel", "inkOf", "(I)I"⟩ prog_1_method_38_code 2 (some .int) ∈ ALLW := tw1 228 rfl rfl
theorem tw_229 : Cond.methodLink "PlotKernelLaw" 95 ⟨"PlotKernel", "timeLeft", "()I"⟩ ∈ ALLW := tw1 229 rfl rfl
theorem tw_230 : Cond.instanceMethod ⟨"PlotKernel", "timeLeft", "()I"⟩ ∈ ALLW := tw1 230 rfl rfl
theorem tw_231 : Cond.selects "PlotKernel" ⟨"PlotKernel", "timeLeft", "()I"⟩ ⟨"PlotKernel", "timeLeft", "()I"⟩ ∈ ALLW := tw1 231 rfl rfl
theorem tw_232 : Cond.code ⟨"PlotKernel", "timeLeft", "()I"⟩ prog_1_method_30_code 5 (some .int) ∈ ALLW := tw1 232 rfl rfl
theorem tq_233 : Cond.methodLinkNest "PlotKernel" 124 ⟨"PlotKernel$Command", "steps", "()I"⟩ "PlotKernel" ∈ lw_tbl := tq1 233 rfl
theorem tw_234 : Cond.methodLink "PlotKernelLaw" 99 ⟨"PlotKernel", "stepsUp", "()I"⟩ ∈ ALLW := tw1 234 rfl rfl
theorem tw_235 : Cond.instanceMethod ⟨"PlotKernel", "stepsUp", "()I"⟩ ∈ ALLW := tw1 235 rfl rfl
theorem tw_236 : Cond.selects "PlotKernel" ⟨"PlotKernel", "stepsUp", "()I"⟩ ⟨"PlotKernel", "stepsUp", "()I"⟩ ∈ ALLW := tw1 236 rfl rfl
theorem tw_237 : Cond.code ⟨"PlotKernel", "stepsUp", "()I"⟩ prog_1_method_31_code 1 (some .int) ∈ ALLW := tw1 237 rfl rfl
theorem tw_238 : Cond.methodLink "PlotKernelLaw" 103 ⟨"PlotKernel", "stepsDown", "()I"⟩ ∈ ALLW := tw1 238 rfl rfl
theorem tw_239 : Cond.instanceMethod ⟨"PlotKernel", "stepsDown", "()I"⟩ ∈ ALLW := tw1 239 rfl rfl
theorem tw_240 : Cond.selects "PlotKernel" ⟨"PlotKernel", "stepsDown", "()I"⟩ ⟨"PlotKernel", "stepsDown", "()I"⟩ ∈ ALLW := tw2 0 rfl rfl
theorem tw_241 : Cond.code ⟨"PlotKernel", "stepsDown", "()I"⟩ prog_1_method_32_code 1 (some .int) ∈ ALLW := tw2 1 rfl rfl
theorem tw_242 : Cond.methodLink "PlotKernelLaw" 110 ⟨"PlotKernel", "marks", "()I"⟩ ∈ ALLW := tw2 2 rfl rfl
theorem tw_243 : Cond.instanceMethod ⟨"PlotKernel", "marks", "()I"⟩ ∈ ALLW := tw2 3 rfl rfl
theorem tw_244 : Cond.selects "PlotKernel" ⟨"PlotKernel", "marks", "()I"⟩ ⟨"PlotKernel", "marks", "()I"⟩ ∈ ALLW := tw2 4 rfl rfl
theorem tw_245 : Cond.code ⟨"PlotKernel", "marks", "()I"⟩ prog_1_method_41_code 1 (some .int) ∈ ALLW := tw2 5 rfl rfl
theorem tw_246 : Cond.methodLink "PlotKernelLaw" 114 ⟨"PlotKernel", "marksInTheEnd", "()I"⟩ ∈ ALLW := tw2 6 rfl rfl
theorem tw_247 : Cond.instanceMethod ⟨"PlotKernel", "marksInTheEnd", "()I"⟩ ∈ ALLW := tw2 7 rfl rfl
theorem tw_248 : Cond.selects "PlotKernel" ⟨"PlotKernel", "marksInTheEnd", "()I"⟩ ⟨"PlotKernel", "marksInTheEnd", "()I"⟩ ∈ ALLW := tw2 8 rfl rfl
theorem tw_249 : Cond.code ⟨"PlotKernel", "marksInTheEnd", "()I"⟩ prog_1_method_42_code 1 (some .int) ∈ ALLW := tw2 9 rfl rfl
theorem tw_250 : Cond.methodLink "PlotKernelLaw" 39 ⟨"PlotKernelLaw", "feed", "(LPlotKernel;I[J)I"⟩ ∈ ALLW := tw2 10 rfl rfl
theorem tw_251 : Cond.static ⟨"PlotKernelLaw", "feed", "(LPlotKernel;I[J)I"⟩ ∈ ALLW := tw2 11 rfl rfl
theorem tw_252 : Cond.codeWith ⟨"PlotKernelLaw", "feed", "(LPlotKernel;I[J)I"⟩ method_3_code 4 (some .int) [(0, 16, 19, 13)] ∈ ALLW := tw2 12 rfl rfl
theorem tw_253 : Cond.classLink "PlotKernelLaw" 13 "java/lang/IllegalArgumentException" ∈ ALLW := tw2 13 rfl rfl
theorem tw_254 : Cond.methodLink "PlotKernelLaw" 7 ⟨"PlotKernel", "feed", "(I)Z"⟩ ∈ ALLW := tw2 14 rfl rfl
theorem tw_255 : Cond.instanceMethod ⟨"PlotKernel", "feed", "(I)Z"⟩ ∈ ALLW := tw2 15 rfl rfl
theorem tw_256 : Cond.selects "PlotKernel" ⟨"PlotKernel", "feed", "(I)Z"⟩ ⟨"PlotKernel", "feed", "(I)Z"⟩ ∈ ALLW := tw2 16 rfl rfl
theorem tw_257 : Cond.code ⟨"PlotKernel", "feed", "(I)Z"⟩ prog_1_method_2_code 2 (some .boolean) ∈ ALLW := tw2 17 rfl rfl
theorem tw_258 : Cond.classLink "PlotKernel" 30 "java/lang/IllegalArgumentException" ∈ ALLW := tw2 18 rfl rfl
theorem tw_259 : Cond.instantiable "java/lang/IllegalArgumentException" 6 ∈ ALLW := tw2 19 rfl rfl
theorem tq_260 : Cond.castable "java/lang/IllegalArgumentException" "java/lang/IllegalArgumentException" ∈ lw_tbl := tq2 20 rfl
theorem tq_261 : Cond.declares ⟨"java/lang/RuntimeException", "<init>", "()V"⟩ ∈ lw_tbl := tq2 21 rfl
theorem tq_262 : Cond.declares ⟨"java/lang/RuntimeException", "<init>", "(Ljava/lang/String;)V"⟩ ∈ lw_tbl := tq2 22 rfl
theorem tq_263 : Cond.declares ⟨"java/lang/Exception", "<init>", "()V"⟩ ∈ lw_tbl := tq2 23 rfl
theorem tq_264 : Cond.declares ⟨"java/lang/Exception", "<init>", "(Ljava/lang/String;)V"⟩ ∈ lw_tbl := tq2 24 rfl
theorem tq_265 : Cond.declares ⟨"java/lang/Throwable", "<init>", "()V"⟩ ∈ lw_tbl := tq2 25 rfl
theorem tq_266 : Cond.declares ⟨"java/lang/Throwable", "<init>", "(Ljava/lang/String;)V"⟩ ∈ lw_tbl := tq2 26 rfl
theorem tw_267 : Cond.selects "java/lang/IllegalArgumentException" ⟨"java/lang/Throwable", "fillInStackTrace", "(I)Ljava/lang/Throwable;"⟩ ⟨"java/lang/Throwable", "fillInStackTrace", "(I)Ljava/lang/Throwable;"⟩ ∈ ALLW := tw2 27 rfl rfl
theorem tw_268 : Cond.selects "java/lang/IllegalArgumentException" ⟨"java/lang/Throwable", "fillInStackTrace", "()Ljava/lang/Throwable;"⟩ ⟨"java/lang/Throwable", "fillInStackTrace", "()Ljava/lang/Throwable;"⟩ ∈ ALLW := tw2 28 rfl rfl
theorem tw_269 : Cond.lays "java/lang/IllegalArgumentException" "java/lang/Throwable" "cause" "Ljava/lang/Throwable;" ∈ ALLW := tw2 29 rfl rfl
theorem tw_270 : Cond.lays "java/lang/Throwable" "java/lang/Throwable" "cause" "Ljava/lang/Throwable;" ∈ ALLW := tw2 30 rfl rfl
theorem tw_271 : Cond.lays "java/lang/IllegalArgumentException" "java/lang/Throwable" "stackTrace" "[Ljava/lang/StackTraceElement;" ∈ ALLW := tw2 31 rfl rfl
theorem tw_272 : Cond.lays "java/lang/Throwable" "java/lang/Throwable" "stackTrace" "[Ljava/lang/StackTraceElement;" ∈ ALLW := tw2 32 rfl rfl
theorem tw_273 : Cond.lays "java/lang/IllegalArgumentException" "java/lang/Throwable" "suppressedExceptions" "Ljava/util/List;" ∈ ALLW := tw2 33 rfl rfl
theorem tw_274 : Cond.lays "java/lang/Throwable" "java/lang/Throwable" "suppressedExceptions" "Ljava/util/List;" ∈ ALLW := tw2 34 rfl rfl
theorem tw_275 : Cond.lays "java/lang/IllegalArgumentException" "java/lang/Throwable" "detailMessage" "Ljava/lang/String;" ∈ ALLW := tw2 35 rfl rfl
theorem tw_276 : Cond.lays "java/lang/Throwable" "java/lang/Throwable" "detailMessage" "Ljava/lang/String;" ∈ ALLW := tw2 36 rfl rfl
theorem tw_277 : Cond.lays "java/lang/IllegalArgumentException" "java/lang/Throwable" "backtrace" "Ljava/lang/Object;" ∈ ALLW := tw2 37 rfl rfl
theorem tw_278 : Cond.lays "java/lang/Throwable" "java/lang/Throwable" "backtrace" "Ljava/lang/Object;" ∈ ALLW := tw2 38 rfl rfl
theorem tw_279 : Cond.fieldLink "java/lang/Throwable" 198 "java/lang/Throwable" "backtrace" "Ljava/lang/Object;" ∈ ALLW := tw2 39 rfl rfl
theorem tw_280 : Cond.superclass "java/lang/Throwable" "java/lang/Object" ∈ ALLW := tw2 40 rfl rfl
theorem tw_281 : Cond.instanceMethod ⟨"java/lang/Throwable", "<init>", "()V"⟩ ∈ ALLW := tw2 41 rfl rfl
theorem tw_282 : Cond.code ⟨"java/lang/Throwable", "<init>", "()V"⟩ prog_16_method_1_code 1 none ∈ ALLW := tw2 42 rfl rfl
theorem tw_283 : Cond.methodLink "java/lang/Throwable" 1 ⟨"java/lang/Object", "<init>", "()V"⟩ ∈ ALLW := tw2 43 rfl rfl
theorem tw_284 : Cond.fieldLink "java/lang/Throwable" 13 "java/lang/Throwable" "UNASSIGNED_STACK" "[Ljava/lang/StackTraceElement;" ∈ ALLW := tw2 44 rfl rfl
theorem tq_285 : Cond.laysStatic "java/lang/Throwable" "UNASSIGNED_STACK" "[Ljava/lang/StackTraceElement;" ∈ lw_tbl := tq2 45 rfl
theorem tw_286 : Cond.fieldLink "java/lang/Throwable" 20 "java/lang/Throwable" "SUPPRESSED_SENTINEL" "Ljava/util/List;" ∈ ALLW := tw2 46 rfl rfl
theorem tq_287 : Cond.laysStatic "java/lang/Throwable" "SUPPRESSED_SENTINEL" "Ljava/util/List;" ∈ lw_tbl := tq2 47 rfl
theorem tw_288 : Cond.methodLink "java/lang/Throwable" 27 ⟨"java/lang/Throwable", "fillInStackTrace", "()Ljava/lang/Throwable;"⟩ ∈ ALLW := tw2 48 rfl rfl
theorem tw_289 : Cond.instanceMethod ⟨"java/lang/Throwable", "fillInStackTrace", "()Ljava/lang/Throwable;"⟩ ∈ ALLW := tw2 49 rfl rfl
theorem tw_290 : Cond.sameMethod "java/lang/Throwable" "java/lang/Throwable" "fillInStackTrace" "()Ljava/lang/Throwable;" ∈ ALLW := tw2 50 rfl rfl
theorem tw_291 : Cond.selects "java/lang/IndexOutOfBoundsException" ⟨"java/lang/Throwable", "fillInStackTrace", "()Ljava/lang/Throwable;"⟩ ⟨"java/lang/Throwable", "fillInStackTrace", "()Ljava/lang/Throwable;"⟩ ∈ ALLW := tw2 51 rfl rfl
theorem tw_292 : Cond.codeSync ⟨"java/lang/Throwable", "fillInStackTrace", "()Ljava/lang/Throwable;"⟩ prog_16_method_18_code 1 (some (.object "java/lang/Throwable")) ∈ ALLW := tw2 52 rfl rfl
theorem tw_293 : Cond.methodLink "java/lang/Throwable" 202 ⟨"java/lang/Throwable", "fillInStackTrace", "(I)Ljava/lang/Throwable;"⟩ ∈ ALLW := tw2 53 rfl rfl
theorem tq_294 : Cond.privateMethod ⟨"java/lang/Throwable", "fillInStackTrace", "(I)Ljava/lang/Throwable;"⟩ ∈ lw_tbl := tq2 54 rfl
theorem tw_295 : Cond.instanceMethod ⟨"java/lang/Throwable", "fillInStackTrace", "(I)Ljava/lang/Throwable;"⟩ ∈ ALLW := tw2 55 rfl rfl
theorem tw_296 : Cond.instantiable "java/lang/Throwable" 6 ∈ ALLW := tw2 56 rfl rfl
theorem tw_297 : Cond.native ⟨"java/lang/Throwable", "fillInStackTrace", "(I)Ljava/lang/Throwable;"⟩ ∈ ALLW := tw2 57 rfl rfl
theorem tq_298 : Cond.stringRef "PlotKernel" 32 "a byte is 0 to 255" ∈ lw_tbl := tq2 58 rfl
theorem tw_299 : Cond.methodLink "PlotKernel" 34 ⟨"java/lang/IllegalArgumentException", "<init>", "(Ljava/lang/String;)V"⟩ ∈ ALLW := tw2 59 rfl rfl
theorem tw_300 : Cond.instanceMethod ⟨"java/lang/IllegalArgumentException", "<init>", "(Ljava/lang/String;)V"⟩ ∈ ALLW := tw2 60 rfl rfl
theorem tw_301 : Cond.code ⟨"java/lang/IllegalArgumentException", "<init>", "(Ljava/lang/String;)V"⟩ prog_9_method_2_code 2 none ∈ ALLW := tw2 61 rfl rfl
theorem tw_302 : Cond.methodLink "java/lang/IllegalArgumentException" 7 ⟨"java/lang/RuntimeException", "<init>", "(Ljava/lang/String;)V"⟩ ∈ ALLW := tw2 62 rfl rfl
theorem tw_303 : Cond.instanceMethod ⟨"java/lang/RuntimeException", "<init>", "(Ljava/lang/String;)V"⟩ ∈ ALLW := tw2 63 rfl rfl
theorem tw_304 : Cond.code ⟨"java/lang/RuntimeException", "<init>", "(Ljava/lang/String;)V"⟩ prog_13_method_2_code 2 none ∈ ALLW := tw2 64 rfl rfl
theorem tw_305 : Cond.methodLink "java/lang/RuntimeException" 7 ⟨"java/lang/Exception", "<init>", "(Ljava/lang/String;)V"⟩ ∈ ALLW := tw2 65 rfl rfl
theorem tw_306 : Cond.instanceMethod ⟨"java/lang/Exception", "<init>", "(Ljava/lang/String;)V"⟩ ∈ ALLW := tw2 66 rfl rfl
theorem tw_307 : Cond.code ⟨"java/lang/Exception", "<init>", "(Ljava/lang/String;)V"⟩ prog_8_method_2_code 2 none ∈ ALLW := tw2 67 rfl rfl
theorem tw_308 : Cond.methodLink "java/lang/Exception" 7 ⟨"java/lang/Throwable", "<init>", "(Ljava/lang/String;)V"⟩ ∈ ALLW := tw2 68 rfl rfl
theorem tw_309 : Cond.instanceMethod ⟨"java/lang/Throwable", "<init>", "(Ljava/lang/String;)V"⟩ ∈ ALLW := tw2 69 rfl rfl
theorem tw_310 : Cond.code ⟨"java/lang/Throwable", "<init>", "(Ljava/lang/String;)V"⟩ prog_16_method_2_code 2 none ∈ ALLW := tw2 70 rfl rfl
theorem tw_311 : Cond.fieldLink "java/lang/Throwable" 198 "java/lang/Throwable" "backtrace" "Ljava/lang/Object;" ∈ ALLW := tw2 71 rfl rfl
theorem tw_312 : Cond.fieldLink "java/lang/Throwable" 31 "java/lang/Throwable" "detailMessage" "Ljava/lang/String;" ∈ ALLW := tw2 72 rfl rfl
theorem tw_313 : Cond.fieldLink "java/lang/Throwable" 7 "java/lang/Throwable" "cause" "Ljava/lang/Throwable;" ∈ ALLW := tw2 73 rfl rfl
theorem tw_314 : Cond.fieldLink "java/lang/Throwable" 17 "java/lang/Throwable" "stackTrace" "[Ljava/lang/StackTraceElement;" ∈ ALLW := tw2 74 rfl rfl
theorem tw_315 : Cond.fieldLink "java/lang/Throwable" 24 "java/lang/Throwable" "suppressedExceptions" "Ljava/util/List;" ∈ ALLW := tw2 75 rfl rfl
theorem tw_316 : Cond.soleField "java/lang/Throwable" "backtrace" ∈ ALLW := tw2 76 rfl rfl
theorem tw_317 : Cond.soleField "java/lang/Throwable" "detailMessage" ∈ ALLW := tw2 77 rfl rfl
theorem tw_318 : Cond.soleField "java/lang/Throwable" "cause" ∈ ALLW := tw2 78 rfl rfl
theorem tw_319 : Cond.soleField "java/lang/Throwable" "stackTrace" ∈ ALLW := tw2 79 rfl rfl
theorem tw_320 : Cond.lays "java/lang/IllegalArgumentException" "java/lang/Throwable" "depth" "I" ∈ ALLW := tw2 80 rfl rfl
theorem tw_321 : Cond.soleField "java/lang/Throwable" "depth" ∈ ALLW := tw2 81 rfl rfl
theorem tw_322 : Cond.soleField "java/lang/Throwable" "suppressedExceptions" ∈ ALLW := tw2 82 rfl rfl
theorem tw_323 : Cond.superclass "java/lang/IllegalArgumentException" "java/lang/RuntimeException" ∈ ALLW := tw2 83 rfl rfl
theorem tw_324 : Cond.arrayClass .byte ∈ ALLW := tw2 84 rfl rfl
theorem tw_325 : Cond.methodLink "PlotKernel" 41 ⟨"PlotKernel", "takeByte", "(I)V"⟩ ∈ ALLW := tw2 85 rfl rfl
theorem tq_326 : Cond.privateMethod ⟨"PlotKernel", "takeByte", "(I)V"⟩ ∈ lw_tbl := tq2 86 rfl
theorem tw_327 : Cond.instanceMethod ⟨"PlotKernel", "takeByte", "(I)V"⟩ ∈ ALLW := tw2 87 rfl rfl
theorem tw_328 : Cond.code ⟨"PlotKernel", "takeByte", "(I)V"⟩ prog_1_method_6_code 2 none ∈ ALLW := tw2 88 rfl rfl
theorem tw_329 : Cond.methodLink "PlotKernel" 52 ⟨"PlotKernel", "beginCommand", "(I)V"⟩ ∈ ALLW := tw2 89 rfl rfl
theorem tq_330 : Cond.privateMethod ⟨"PlotKernel", "beginCommand", "(I)V"⟩ ∈ lw_tbl := tq2 90 rfl
theorem tw_331 : Cond.instanceMethod ⟨"PlotKernel", "beginCommand", "(I)V"⟩ ∈ ALLW := tw2 91 rfl rfl
theorem tw_332 : Cond.code ⟨"PlotKernel", "beginCommand", "(I)V"⟩ prog_1_method_7_code 2 none ∈ ALLW := tw2 92 rfl rfl
theorem tw_333 : Cond.methodLink "PlotKernel" 61 ⟨"PlotKernel", "endCommand", "(I)V"⟩ ∈ ALLW := tw2 93 rfl rfl
theorem tq_334 : Cond.privateMethod ⟨"PlotKernel", "endCommand", "(I)V"⟩ ∈ lw_tbl := tq2 94 rfl
theorem tw_335 : Cond.instanceMethod ⟨"PlotKernel", "endCommand", "(I)V"⟩ ∈ ALLW := tw2 95 rfl rfl
theorem tw_336 : Cond.code ⟨"PlotKernel", "endCommand", "(I)V"⟩ prog_1_method_8_code 2 none ∈ ALLW := tw2 96 rfl rfl
theorem tw_337 : Cond.methodLink "PlotKernel" 64 ⟨"PlotKernel", "repeatLatest", "(I)V"⟩ ∈ ALLW := tw2 97 rfl rfl
theorem tq_338 : Cond.privateMethod ⟨"PlotKernel", "repeatLatest", "(I)V"⟩ ∈ lw_tbl := tq2 98 rfl
theorem tw_339 : Cond.instanceMethod ⟨"PlotKernel", "repeatLatest", "(I)V"⟩ ∈ ALLW := tw2 99 rfl rfl
theorem tw_340 : Cond.code ⟨"PlotKernel", "repeatLatest", "(I)V"⟩ prog_1_method_11_code 3 none ∈ ALLW := tw2 100 rfl rfl
theorem tw_341 : Cond.methodLink "PlotKernel" 72 ⟨"PlotKernel", "queueIfRight", "(LPlotKernel$Command;)Z"⟩ ∈ ALLW := tw2 101 rfl rfl
theorem tq_342 : Cond.privateMethod ⟨"PlotKernel", "queueIfRight", "(LPlotKernel$Command;)Z"⟩ ∈ lw_tbl := tq2 102 rfl
theorem tw_343 : Cond.instanceMethod ⟨"PlotKernel", "queueIfRight", "(LPlotKernel$Command;)Z"⟩ ∈ ALLW := tw2 103 rfl rfl
theorem tw_344 : Cond.code ⟨"PlotKernel", "queueIfRight", "(LPlotKernel$Command;)Z"⟩ prog_1_method_12_code 2 (some .boolean) ∈ ALLW := tw2 104 rfl rfl
theorem tw_345 : Cond.methodLink "PlotKernel" 88 ⟨"PlotKernel", "isRight", "(LPlotKernel$Command;)Z"⟩ ∈ ALLW := tw2 105 rfl rfl
theorem tq_346 : Cond.privateMethod ⟨"PlotKernel", "isRight", "(LPlotKernel$Command;)Z"⟩ ∈ lw_tbl := tq2 106 rfl
theorem tw_347 : Cond.instanceMethod ⟨"PlotKernel", "isRight", "(LPlotKernel$Command;)Z"⟩ ∈ ALLW := tw2 107 rfl rfl
theorem tw_348 : Cond.code ⟨"PlotKernel", "isRight", "(LPlotKernel$Command;)Z"⟩ prog_1_method_13_code 2 (some .boolean) ∈ ALLW := tw2 108 rfl rfl
theorem tw_349 : Cond.methodLink "PlotKernel" 120 ⟨"PlotKernel", "hasPen", "(I)Z"⟩ ∈ ALLW := tw2 109 rfl rfl
theorem tw_350 : Cond.static ⟨"PlotKernel", "hasPen", "(I)Z"⟩ ∈ ALLW := tw2 110 rfl rfl
theorem tw_351 : Cond.code ⟨"PlotKernel", "hasPen", "(I)Z"⟩ prog_1_method_37_code 1 (some .boolean) ∈ ALLW := tw2 111 rfl rfl
theorem tw_352 : Cond.methodLink "PlotKernel" 127 ⟨"PlotKernel", "hasCell", "(II)Z"⟩ ∈ ALLW := tw2 112 rfl rfl
theorem tw_353 : Cond.static ⟨"PlotKernel", "hasCell", "(II)Z"⟩ ∈ ALLW := tw2 113 rfl rfl
theorem tw_354 : Cond.code ⟨"PlotKernel", "hasCell", "(II)Z"⟩ prog_1_method_43_code 2 (some .boolean) ∈ ALLW := tw2 114 rfl rfl
theorem tw_355 : Cond.methodLink "PlotKernel" 95 ⟨"PlotKernel", "planLine", "(LPlotKernel$Command;)V"⟩ ∈ ALLW := tw2 115 rfl rfl
theorem tq_356 : Cond.privateMethod ⟨"PlotKernel", "planLine", "(LPlotKernel$Command;)V"⟩ ∈ lw_tbl := tq2 116 rfl
theorem tw_357 : Cond.instanceMethod ⟨"PlotKernel", "planLine", "(LPlotKernel$Command;)V"⟩ ∈ ALLW := tw2 117 rfl rfl
theorem tw_358 : Cond.code ⟨"PlotKernel", "planLine", "(LPlotKernel$Command;)V"⟩ prog_1_method_14_code 4 none ∈ ALLW := tw2 118 rfl rfl
theorem tq_359 : Cond.methodLinkNest "PlotKernel" 137 ⟨"PlotKernel$Paper", "putMark", "(II)V"⟩ "PlotKernel" ∈ lw_tbl := tq2 119 rfl
theorem tq_360 : Cond.privateMethod ⟨"PlotKernel$Paper", "putMark", "(II)V"⟩ ∈ lw_tbl := tq2 120 rfl
theorem tw_361 : Cond.instanceMethod ⟨"PlotKernel$Paper", "putMark", "(II)V"⟩ ∈ ALLW := tw2 121 rfl rfl
theorem tw_362 : Cond.code ⟨"PlotKernel$Paper", "putMark", "(II)V"⟩ prog_3_method_3_code 4 none ∈ ALLW := tw2 122 rfl rfl
theorem tw_363 : Cond.methodLink "PlotKernel$Paper" 15 ⟨"PlotKernel$Paper", "wordOf", "(II)I"⟩ ∈ ALLW := tw2 123 rfl rfl
theorem tw_364 : Cond.static ⟨"PlotKernel$Paper", "wordOf", "(II)I"⟩ ∈ ALLW := tw2 124 rfl rfl
theorem tw_365 : Cond.code ⟨"PlotKernel$Paper", "wordOf", "(II)I"⟩ prog_3_method_4_code 2 (some .int) ∈ ALLW := tw2 125 rfl rfl
theorem tq_366 : Cond.methodLinkNest "PlotKernel$Paper" 31 ⟨"PlotKernel", "hasCell", "(II)Z"⟩ "PlotKernel" ∈ lw_tbl := tq2 126 rfl
theorem tw_367 : Cond.methodLink "PlotKernel$Paper" 23 ⟨"PlotKernel$Paper", "hasMark", "(II)Z"⟩ ∈ ALLW := tw2 127 rfl rfl
theorem tq_368 : Cond.privateMethod ⟨"PlotKernel$Paper", "hasMark", "(II)Z"⟩ ∈ lw_tbl := tq2 128 rfl
theorem tw_369 : Cond.instanceMethod ⟨"PlotKernel$Paper", "hasMark", "(II)Z"⟩ ∈ ALLW := tw2 129 rfl rfl
theorem tw_370 : Cond.code ⟨"PlotKernel$Paper", "hasMark", "(II)Z"⟩ prog_3_method_2_code 4 (some .boolean) ∈ ALLW := tw2 130 rfl rfl
theorem tw_371 : Cond.methodLink "PlotKernel$Paper" 19 ⟨"PlotKernel$Paper", "bitOf", "(II)J"⟩ ∈ ALLW := tw2 131 rfl rfl
theorem tw_372 : Cond.static ⟨"PlotKernel$Paper", "bitOf", "(II)J"⟩ ∈ ALLW := tw2 132 rfl rfl
theorem tw_373 : Cond.code ⟨"PlotKernel$Paper", "bitOf", "(II)J"⟩ prog_3_method_5_code 2 (some .long) ∈ ALLW := tw2 133 rfl rfl
theorem tw_374 : Cond.methodLink "PlotKernel" 98 ⟨"java/util/ArrayList", "add", "(Ljava/lang/Object;)Z"⟩ ∈ ALLW := tw2 134 rfl rfl
theorem tw_375 : Cond.instanceMethod ⟨"java/util/ArrayList", "add", "(Ljava/lang/Object;)Z"⟩ ∈ ALLW := tw2 135 rfl rfl
theorem tw_376 : Cond.selects "java/util/ArrayList" ⟨"java/util/ArrayList", "add", "(Ljava/lang/Object;)Z"⟩ ⟨"java/util/ArrayList", "add", "(Ljava/lang/Object;)Z"⟩ ∈ ALLW := tw2 136 rfl rfl
theorem tw_377 : Cond.code ⟨"java/util/ArrayList", "add", "(Ljava/lang/Object;)Z"⟩ prog_19_method_25_code 2 (some .boolean) ∈ ALLW := tw2 137 rfl rfl
theorem tw_378 : Cond.methodLink "java/util/ArrayList" 131 ⟨"java/util/ArrayList", "add", "(Ljava/lang/Object;[Ljava/lang/Object;I)V"⟩ ∈ ALLW := tw2 138 rfl rfl
theorem tq_379 : Cond.privateMethod ⟨"java/util/ArrayList", "add", "(Ljava/lang/Object;[Ljava/lang/Object;I)V"⟩ ∈ lw_tbl := tq2 139 rfl
theorem tw_380 : Cond.instanceMethod ⟨"java/util/ArrayList", "add", "(Ljava/lang/Object;[Ljava/lang/Object;I)V"⟩ ∈ ALLW := tw2 140 rfl rfl
theorem tw_381 : Cond.code ⟨"java/util/ArrayList", "add", "(Ljava/lang/Object;[Ljava/lang/Object;I)V"⟩ prog_19_method_24_code 4 none ∈ ALLW := tw2 141 rfl rfl
theorem tw_382 : Cond.methodLink "java/util/ArrayList" 129 ⟨"java/util/ArrayList", "grow", "()[Ljava/lang/Object;"⟩ ∈ ALLW := tw2 142 rfl rfl
theorem tq_383 : Cond.privateMethod ⟨"java/util/ArrayList", "grow", "()[Ljava/lang/Object;"⟩ ∈ lw_tbl := tq2 143 rfl
theorem tw_384 : Cond.instanceMethod ⟨"java/util/ArrayList", "grow", "()[Ljava/lang/Object;"⟩ ∈ ALLW := tw2 144 rfl rfl
theorem tw_385 : Cond.code ⟨"java/util/ArrayList", "grow", "()[Ljava/lang/Object;"⟩ prog_19_method_7_code 1 (some (.array (.object "java/lang/Object"))) ∈ ALLW := tw2 145 rfl rfl
theorem tw_386 : Cond.methodLink "java/util/ArrayList" 69 ⟨"java/util/ArrayList", "grow", "(I)[Ljava/lang/Object;"⟩ ∈ ALLW := tw2 146 rfl rfl
theorem tq_387 : Cond.privateMethod ⟨"java/util/ArrayList", "grow", "(I)[Ljava/lang/Object;"⟩ ∈ lw_tbl := tq2 147 rfl
theorem tw_388 : Cond.instanceMethod ⟨"java/util/ArrayList", "grow", "(I)[Ljava/lang/Object;"⟩ ∈ ALLW := tw2 148 rfl rfl
theorem tw_389 : Cond.code ⟨"java/util/ArrayList", "grow", "(I)[Ljava/lang/Object;"⟩ prog_19_method_6_code 4 (some (.array (.object "java/lang/Object"))) ∈ ALLW := tw2 149 rfl rfl
theorem tw_390 : Cond.methodLink "java/util/ArrayList" 73 ⟨"jdk/internal/util/ArraysSupport", "newLength", "(III)I"⟩ ∈ ALLW := tw2 150 rfl rfl
theorem tw_391 : Cond.static ⟨"jdk/internal/util/ArraysSupport", "newLength", "(III)I"⟩ ∈ ALLW := tw2 151 rfl rfl
theorem tw_392 : Cond.code ⟨"jdk/internal/util/ArraysSupport", "newLength", "(III)I"⟩ prog_26_method_27_code 4 (some .int) ∈ ALLW := tw2 152 rfl rfl
theorem tw_393 : Cond.methodLink "jdk/internal/util/ArraysSupport" 194 ⟨"java/lang/Math", "max", "(II)I"⟩ ∈ ALLW := tw2 153 rfl rfl
theorem tw_394 : Cond.constant "jdk/internal/util/ArraysSupport" 200 (2147483639 : Int32) ∈ ALLW := tw2 154 rfl rfl
theorem tw_395 : Cond.methodLink "jdk/internal/util/ArraysSupport" 201 ⟨"jdk/internal/util/ArraysSupport", "hugeLength", "(II)I"⟩ ∈ ALLW := tw2 155 rfl rfl
theorem tw_396 : Cond.static ⟨"jdk/internal/util/ArraysSupport", "hugeLength", "(II)I"⟩ ∈ ALLW := tw2 156 rfl rfl
theorem tw_397 : Cond.code ⟨"jdk/internal/util/ArraysSupport", "hugeLength", "(II)I"⟩ prog_26_method_28_code 3 (some .int) ∈ ALLW := tw2 157 rfl rfl
theorem tw_398 : Cond.methodLink "java/util/ArrayList" 66 ⟨"java/util/Arrays", "copyOf", "([Ljava/lang/Object;I)[Ljava/lang/Object;"⟩ ∈ ALLW := tw2 158 rfl rfl
theorem tw_399 : Cond.static ⟨"java/util/Arrays", "copyOf", "([Ljava/lang/Object;I)[Ljava/lang/Object;"⟩ ∈ ALLW := tw2 159 rfl rfl
theorem tw_400 : Cond.code ⟨"java/util/Arrays", "copyOf", "([Ljava/lang/Object;I)[Ljava/lang/Object;"⟩ prog_20_method_119_code 2 (some (.array (.object "java/lang/Object"))) ∈ ALLW := tw2 160 rfl rfl
theorem tw_401 : Cond.methodLink "java/util/Arrays" 86 ⟨"java/lang/Object", "getClass", "()Ljava/lang/Class;"⟩ ∈ ALLW := tw2 161 rfl rfl
theorem tw_402 : Cond.instanceMethod ⟨"java/lang/Object", "getClass", "()Ljava/lang/Class;"⟩ ∈ ALLW := tw2 162 rfl rfl
theorem tw_403 : Cond.sameMethod "java/lang/Object" "java/lang/Object" "getClass" "()Ljava/lang/Class;" ∈ ALLW := tw2 163 rfl rfl
theorem tw_404 : Cond.selects "PlotKernel" ⟨"java/lang/Object", "getClass", "()Ljava/lang/Class;"⟩ ⟨"java/lang/Object", "getClass", "()Ljava/lang/Class;"⟩ ∈ ALLW := tw2 164 rfl rfl
theorem tw_405 : Cond.selects "PlotKernel$Command" ⟨"java/lang/Object", "getClass", "()Ljava/lang/Class;"⟩ ⟨"java/lang/Object", "getClass", "()Ljava/lang/Class;"⟩ ∈ ALLW := tw2 165 rfl rfl
theorem tw_406 : Cond.selects "PlotKernel$Paper" ⟨"java/lang/Object", "getClass", "()Ljava/lang/Class;"⟩ ⟨"java/lang/Object", "getClass", "()Ljava/lang/Class;"⟩ ∈ ALLW := tw2 166 rfl rfl
theorem tw_407 : Cond.selects "PlotKernelModel" ⟨"java/lang/Object", "getClass", "()Ljava/lang/Class;"⟩ ⟨"java/lang/Object", "getClass", "()Ljava/lang/Class;"⟩ ∈ ALLW := tw2 167 rfl rfl
theorem tw_408 : Cond.selects "java/lang/IllegalArgumentException" ⟨"java/lang/Object", "getClass", "()Ljava/lang/Class;"⟩ ⟨"java/lang/Object", "getClass", "()Ljava/lang/Class;"⟩ ∈ ALLW := tw2 168 rfl rfl
theorem tw_409 : Cond.selects "java/lang/IndexOutOfBoundsException" ⟨"java/lang/Object", "getClass", "()Ljava/lang/Class;"⟩ ⟨"java/lang/Object", "getClass", "()Ljava/lang/Class;"⟩ ∈ ALLW := tw2 169 rfl rfl
theorem tw_410 : Cond.selects "java/util/ArrayList" ⟨"java/lang/Object", "getClass", "()Ljava/lang/Class;"⟩ ⟨"java/lang/Object", "getClass", "()Ljava/lang/Class;"⟩ ∈ ALLW := tw2 170 rfl rfl
theorem tw_411 : Cond.native ⟨"java/lang/Object", "getClass", "()Ljava/lang/Class;"⟩ ∈ ALLW := tw2 171 rfl rfl
theorem tw_412 : Cond.methodLink "java/util/Arrays" 300 ⟨"java/util/Arrays", "copyOf", "([Ljava/lang/Object;ILjava/lang/Class;)[Ljava/lang/Object;"⟩ ∈ ALLW := tw2 172 rfl rfl
theorem tw_413 : Cond.static ⟨"java/util/Arrays", "copyOf", "([Ljava/lang/Object;ILjava/lang/Class;)[Ljava/lang/Object;"⟩ ∈ ALLW := tw2 173 rfl rfl
theorem tw_414 : Cond.code ⟨"java/util/Arrays", "copyOf", "([Ljava/lang/Object;ILjava/lang/Class;)[Ljava/lang/Object;"⟩ prog_20_method_120_code 4 (some (.array (.object "java/lang/Object"))) ∈ ALLW := tw2 174 rfl rfl
theorem tw_415 : Cond.classLink "java/util/Arrays" 110 "[Ljava/lang/Object;" ∈ ALLW := tw2 175 rfl rfl
theorem tq_416 : Cond.arrayOver (.object "java/lang/Object") ∈ lw_tbl := tq2 176 rfl
theorem tw_417 : Cond.classLink "java/util/Arrays" 2 "java/lang/Object" ∈ ALLW := tw2 177 rfl rfl
theorem tw_418 : Cond.methodLink "java/util/Arrays" 304 ⟨"java/lang/Math", "min", "(II)I"⟩ ∈ ALLW := tw2 178 rfl rfl
theorem tw_419 : Cond.static ⟨"java/lang/Math", "min", "(II)I"⟩ ∈ ALLW := tw2 179 rfl rfl
theorem tw_420 : Cond.code ⟨"java/lang/Math", "min", "(II)I"⟩ prog_12_method_69_code 2 (some .int) ∈ ALLW := tw2 180 rfl rfl
theorem tw_421 : Cond.methodLink "java/util/Arrays" 150 ⟨"java/lang/System", "arraycopy", "(Ljava/lang/Object;ILjava/lang/Object;II)V"⟩ ∈ ALLW := tw2 181 rfl rfl
theorem tw_422 : Cond.static ⟨"java/lang/System", "arraycopy", "(Ljava/lang/Object;ILjava/lang/Object;II)V"⟩ ∈ ALLW := tw2 182 rfl rfl
theorem tw_423 : Cond.native ⟨"java/lang/System", "arraycopy", "(Ljava/lang/Object;ILjava/lang/Object;II)V"⟩ ∈ ALLW := tw2 183 rfl rfl
theorem tw_424 : Cond.methodLink "java/util/ArrayList" 79 ⟨"java/lang/Math", "max", "(II)I"⟩ ∈ ALLW := tw2 184 rfl rfl
theorem tw_425 : Cond.classLink "java/util/ArrayList" 7 "java/lang/Object" ∈ ALLW := tw2 185 rfl rfl
theorem tq_426 : Cond.methodLinkNest "PlotKernel" 69 ⟨"PlotKernel$Command", "<init>", "(IIII)V"⟩ "PlotKernel" ∈ lw_tbl := tq2 186 rfl
theorem tw_427 : Cond.instanceMethod ⟨"PlotKernel$Command", "<init>", "(IIII)V"⟩ ∈ ALLW := tw2 187 rfl rfl
theorem tw_428 : Cond.code ⟨"PlotKernel$Command", "<init>", "(IIII)V"⟩ prog_2_method_1_code 5 none ∈ ALLW := tw2 188 rfl rfl
theorem tw_429 : Cond.methodLink "PlotKernel$Command" 3 ⟨"java/lang/Object", "<init>", "()V"⟩ ∈ ALLW := tw2 189 rfl rfl
theorem tw_430 : Cond.fieldLink "PlotKernel$Command" 9 "PlotKernel$Command" "kind" "I" ∈ ALLW := tw2 190 rfl rfl
theorem tq_431 : Cond.fieldLinkNest "PlotKernel" 114 "PlotKernel$Command" "kind" "I" "PlotKernel" ∈ lw_tbl := tq2 191 rfl
theorem tw_432 : Cond.fieldLink "PlotKernel$Command" 15 "PlotKernel$Command" "dx" "I" ∈ ALLW := tw2 192 rfl rfl
theorem tq_433 : Cond.fieldLinkNest "PlotKernel" 105 "PlotKernel$Command" "dx" "I" "PlotKernel" ∈ lw_tbl := tq2 193 rfl
theorem tw_434 : Cond.fieldLink "PlotKernel$Command" 18 "PlotKernel$Command" "dy" "I" ∈ ALLW := tw2 194 rfl rfl
theorem tq_435 : Cond.fieldLinkNest "PlotKernel" 111 "PlotKernel$Command" "dy" "I" "PlotKernel" ∈ lw_tbl := tq2 195 rfl
theorem tw_436 : Cond.fieldLink "PlotKernel$Command" 21 "PlotKernel$Command" "pen" "I" ∈ ALLW := tw2 196 rfl rfl
theorem tq_437 : Cond.fieldLinkNest "PlotKernel" 117 "PlotKernel$Command" "pen" "I" "PlotKernel" ∈ lw_tbl := tq2 197 rfl
theorem tw_438 : Cond.laysFinal "PlotKernel$Command" "PlotKernel$Command" "kind" "I" ∈ ALLW := tw2 198 rfl rfl
theorem tw_439 : Cond.soleField "PlotKernel$Command" "kind" ∈ ALLW := tw2 199 rfl rfl
theorem tw_440 : Cond.laysFinal "PlotKernel$Command" "PlotKernel$Command" "dx" "I" ∈ ALLW := tw2 200 rfl rfl
theorem tw_441 : Cond.soleField "PlotKernel$Command" "dx" ∈ ALLW := tw2 201 rfl rfl
theorem tw_442 : Cond.laysFinal "PlotKernel$Command" "PlotKernel$Command" "dy" "I" ∈ ALLW := tw2 202 rfl rfl
theorem tw_443 : Cond.soleField "PlotKernel$Command" "dy" ∈ ALLW := tw2 203 rfl rfl
theorem tw_444 : Cond.laysFinal "PlotKernel$Command" "PlotKernel$Command" "pen" "I" ∈ ALLW := tw2 204 rfl rfl
theorem tw_445 : Cond.soleField "PlotKernel$Command" "pen" ∈ ALLW := tw2 205 rfl rfl
theorem tw_446 : Cond.superclass "PlotKernel$Command" "java/lang/Object" ∈ ALLW := tw2 206 rfl rfl
theorem tw_447 : Cond.methodLink "PlotKernel" 76 ⟨"PlotKernel", "signed", "(I)I"⟩ ∈ ALLW := tw2 207 rfl rfl
theorem tw_448 : Cond.static ⟨"PlotKernel", "signed", "(I)I"⟩ ∈ ALLW := tw2 208 rfl rfl
theorem tw_449 : Cond.code ⟨"PlotKernel", "signed", "(I)I"⟩ prog_1_method_9_code 1 (some .int) ∈ ALLW := tw2 209 rfl rfl
theorem tw_450 : Cond.methodLink "PlotKernel" 80 ⟨"PlotKernel", "queueMotion", "(LPlotKernel$Command;)V"⟩ ∈ ALLW := tw2 210 rfl rfl
theorem tq_451 : Cond.privateMethod ⟨"PlotKernel", "queueMotion", "(LPlotKernel$Command;)V"⟩ ∈ lw_tbl := tq2 211 rfl
theorem tw_452 : Cond.instanceMethod ⟨"PlotKernel", "queueMotion", "(LPlotKernel$Command;)V"⟩ ∈ ALLW := tw2 212 rfl rfl
theorem tw_453 : Cond.code ⟨"PlotKernel", "queueMotion", "(LPlotKernel$Command;)V"⟩ prog_1_method_10_code 2 none ∈ ALLW := tw2 213 rfl rfl
theorem tw_454 : Cond.methodLink "PlotKernelLaw" 61 ⟨"PlotKernelLaw", "tick", "(LPlotKernel;I[J)I"⟩ ∈ ALLW := tw2 214 rfl rfl
theorem tw_455 : Cond.static ⟨"PlotKernelLaw", "tick", "(LPlotKernel;I[J)I"⟩ ∈ ALLW := tw2 215 rfl rfl
theorem tw_456 : Cond.codeWith ⟨"PlotKernelLaw", "tick", "(LPlotKernel;I[J)I"⟩ method_4_code 4 (some .int) [(0, 9, 12, 13)] ∈ ALLW := tw2 216 rfl rfl
theorem tw_457 : Cond.methodLink "PlotKernelLaw" 15 ⟨"PlotKernel", "tick", "(I)I"⟩ ∈ ALLW := tw2 217 rfl rfl
theorem tw_458 : Cond.instanceMethod ⟨"PlotKernel", "tick", "(I)I"⟩ ∈ ALLW := tw2 218 rfl rfl
theorem tw_459 : Cond.selects "PlotKernel" ⟨"PlotKernel", "tick", "(I)I"⟩ ⟨"PlotKernel", "tick", "(I)I"⟩ ∈ ALLW := tw2 219 rfl rfl
theorem tw_460 : Cond.code ⟨"PlotKernel", "tick", "(I)I"⟩ prog_1_method_15_code 5 (some .int) ∈ ALLW := tw2 220 rfl rfl
theorem tq_461 : Cond.stringRef "PlotKernel" 141 "ticks are 1 to 1000" ∈ lw_tbl := tq2 221 rfl
theorem tw_462 : Cond.methodLink "PlotKernel" 149 ⟨"PlotKernel", "doTick", "()Z"⟩ ∈ ALLW := tw2 222 rfl rfl
theorem tq_463 : Cond.privateMethod ⟨"PlotKernel", "doTick", "()Z"⟩ ∈ lw_tbl := tq2 223 rfl
theorem tw_464 : Cond.instanceMethod ⟨"PlotKernel", "doTick", "()Z"⟩ ∈ ALLW := tw2 224 rfl rfl
theorem tw_465 : Cond.code ⟨"PlotKernel", "doTick", "()Z"⟩ prog_1_method_19_code 2 (some .boolean) ∈ ALLW := tw2 225 rfl rfl
theorem tw_466 : Cond.methodLink "PlotKernel" 188 ⟨"PlotKernel", "turnPen", "()V"⟩ ∈ ALLW := tw2 226 rfl rfl
theorem tq_467 : Cond.privateMethod ⟨"PlotKernel", "turnPen", "()V"⟩ ∈ lw_tbl := tq2 227 rfl
theorem tw_468 : Cond.instanceMethod ⟨"PlotKernel", "turnPen", "()V"⟩ ∈ ALLW := tw2 228 rfl rfl
theorem tw_469 : Cond.code ⟨"PlotKernel", "turnPen", "()V"⟩ prog_1_method_20_code 1 none ∈ ALLW := tw2 229 rfl rfl
theorem tw_470 : Cond.methodLink "PlotKernel" 197 ⟨"PlotKernel", "markHere", "()V"⟩ ∈ ALLW := tw2 230 rfl rfl
theorem tq_471 : Cond.privateMethod ⟨"PlotKernel", "markHere", "()V"⟩ ∈ lw_tbl := tq2 231 rfl
theorem tw_472 : Cond.instanceMethod ⟨"PlotKernel", "markHere", "()V"⟩ ∈ ALLW := tw2 232 rfl rfl
theorem tw_473 : Cond.code ⟨"PlotKernel", "markHere", "()V"⟩ prog_1_method_24_code 1 none ∈ ALLW := tw2 233 rfl rfl
theorem tw_474 : Cond.methodLink "PlotKernel" 191 ⟨"PlotKernel", "changePen", "(LPlotKernel$Command;)V"⟩ ∈ ALLW := tw2 234 rfl rfl
theorem tq_475 : Cond.privateMethod ⟨"PlotKernel", "changePen", "(LPlotKernel$Command;)V"⟩ ∈ lw_tbl := tq2 235 rfl
theorem tw_476 : Cond.instanceMethod ⟨"PlotKernel", "changePen", "(LPlotKernel$Command;)V"⟩ ∈ ALLW := tw2 236 rfl rfl
theorem tw_477 : Cond.code ⟨"PlotKernel", "changePen", "(LPlotKernel$Command;)V"⟩ prog_1_method_21_code 2 none ∈ ALLW := tw2 237 rfl rfl
theorem tw_478 : Cond.methodLink "PlotKernel" 203 ⟨"PlotKernel", "endFirstCommand", "(LPlotKernel$Command;)V"⟩ ∈ ALLW := tw2 238 rfl rfl
theorem tq_479 : Cond.privateMethod ⟨"PlotKernel", "endFirstCommand", "(LPlotKernel$Command;)V"⟩ ∈ lw_tbl := tq2 239 rfl
theorem tw_480 : Cond.instanceMethod ⟨"PlotKernel", "endFirstCommand", "(LPlotKernel$Command;)V"⟩ ∈ ALLW := tw3 0 rfl rfl
theorem tw_481 : Cond.code ⟨"PlotKernel", "endFirstCommand", "(LPlotKernel$Command;)V"⟩ prog_1_method_23_code 2 none ∈ ALLW := tw3 1 rfl rfl
theorem tw_482 : Cond.methodLink "PlotKernel" 215 ⟨"java/util/ArrayList", "remove", "(I)Ljava/lang/Object;"⟩ ∈ ALLW := tw3 2 rfl rfl
theorem tw_483 : Cond.instanceMethod ⟨"java/util/ArrayList", "remove", "(I)Ljava/lang/Object;"⟩ ∈ ALLW := tw3 3 rfl rfl
theorem tw_484 : Cond.selects "java/util/ArrayList" ⟨"java/util/ArrayList", "remove", "(I)Ljava/lang/Object;"⟩ ⟨"java/util/ArrayList", "remove", "(I)Ljava/lang/Object;"⟩ ∈ ALLW := tw3 4 rfl rfl
theorem tw_485 : Cond.code ⟨"java/util/ArrayList", "remove", "(I)Ljava/lang/Object;"⟩ prog_19_method_29_code 4 (some (.object "java/lang/Object")) ∈ ALLW := tw3 5 rfl rfl
theorem tw_486 : Cond.methodLink "java/util/ArrayList" 144 ⟨"java/util/ArrayList", "fastRemove", "([Ljava/lang/Object;I)V"⟩ ∈ ALLW := tw3 6 rfl rfl
theorem tq_487 : Cond.privateMethod ⟨"java/util/ArrayList", "fastRemove", "([Ljava/lang/Object;I)V"⟩ ∈ lw_tbl := tq3 7 rfl
theorem tw_488 : Cond.instanceMethod ⟨"java/util/ArrayList", "fastRemove", "([Ljava/lang/Object;I)V"⟩ ∈ ALLW := tw3 8 rfl rfl
theorem tw_489 : Cond.code ⟨"java/util/ArrayList", "fastRemove", "([Ljava/lang/Object;I)V"⟩ prog_19_method_39_code 4 none ∈ ALLW := tw3 9 rfl rfl
theorem tw_490 : Cond.methodLink "java/util/ArrayList" 112 ⟨"java/lang/System", "arraycopy", "(Ljava/lang/Object;ILjava/lang/Object;II)V"⟩ ∈ ALLW := tw3 10 rfl rfl
theorem tw_491 : Cond.methodLink "PlotKernel" 194 ⟨"PlotKernel", "doStep", "(LPlotKernel$Command;)V"⟩ ∈ ALLW := tw3 11 rfl rfl
theorem tq_492 : Cond.privateMethod ⟨"PlotKernel", "doStep", "(LPlotKernel$Command;)V"⟩ ∈ lw_tbl := tq3 12 rfl
theorem tw_493 : Cond.instanceMethod ⟨"PlotKernel", "doStep", "(LPlotKernel$Command;)V"⟩ ∈ ALLW := tw3 13 rfl rfl
theorem tw_494 : Cond.code ⟨"PlotKernel", "doStep", "(LPlotKernel$Command;)V"⟩ prog_1_method_22_code 2 none ∈ ALLW := tw3 14 rfl rfl
theorem tw_495 : Cond.methodLink "PlotKernel" 170 ⟨"PlotKernel", "setInk", "(II)V"⟩ ∈ ALLW := tw3 15 rfl rfl
theorem tq_496 : Cond.privateMethod ⟨"PlotKernel", "setInk", "(II)V"⟩ ∈ lw_tbl := tq3 16 rfl
theorem tw_497 : Cond.instanceMethod ⟨"PlotKernel", "setInk", "(II)V"⟩ ∈ ALLW := tw3 17 rfl rfl
theorem tw_498 : Cond.code ⟨"PlotKernel", "setInk", "(II)V"⟩ prog_1_method_39_code 3 none ∈ ALLW := tw3 18 rfl rfl
theorem tw_499 : Cond.methodLink "PlotKernelLaw" 68 ⟨"PlotKernelLaw", "refill", "(LPlotKernel;I[J)I"⟩ ∈ ALLW := tw3 19 rfl rfl
theorem tw_500 : Cond.static ⟨"PlotKernelLaw", "refill", "(LPlotKernel;I[J)I"⟩ ∈ ALLW := tw3 20 rfl rfl
theorem tw_501 : Cond.codeWith ⟨"PlotKernelLaw", "refill", "(LPlotKernel;I[J)I"⟩ method_5_code 4 (some .int) [(0, 9, 12, 22)] ∈ ALLW := tw3 21 rfl rfl
theorem tw_502 : Cond.classLink "PlotKernelLaw" 22 "java/lang/IndexOutOfBoundsException" ∈ ALLW := tw3 22 rfl rfl
theorem tw_503 : Cond.methodLink "PlotKernelLaw" 19 ⟨"PlotKernel", "refill", "(I)I"⟩ ∈ ALLW := tw3 23 rfl rfl
theorem tw_504 : Cond.instanceMethod ⟨"PlotKernel", "refill", "(I)I"⟩ ∈ ALLW := tw3 24 rfl rfl
theorem tw_505 : Cond.selects "PlotKernel" ⟨"PlotKernel", "refill", "(I)I"⟩ ⟨"PlotKernel", "refill", "(I)I"⟩ ∈ ALLW := tw3 25 rfl rfl
theorem tw_506 : Cond.code ⟨"PlotKernel", "refill", "(I)I"⟩ prog_1_method_17_code 3 (some .int) ∈ ALLW := tw3 26 rfl rfl
theorem tw_507 : Cond.classLink "PlotKernel" 162 "java/lang/IndexOutOfBoundsException" ∈ ALLW := tw3 27 rfl rfl
theorem tw_508 : Cond.instantiable "java/lang/IndexOutOfBoundsException" 6 ∈ ALLW := tw3 28 rfl rfl
theorem tq_509 : Cond.castable "java/lang/IndexOutOfBoundsException" "java/lang/IndexOutOfBoundsException" ∈ lw_tbl := tq3 29 rfl
theorem tw_510 : Cond.selects "java/lang/IndexOutOfBoundsException" ⟨"java/lang/Throwable", "fillInStackTrace", "(I)Ljava/lang/Throwable;"⟩ ⟨"java/lang/Throwable", "fillInStackTrace", "(I)Ljava/lang/Throwable;"⟩ ∈ ALLW := tw3 30 rfl rfl
theorem tw_511 : Cond.lays "java/lang/IndexOutOfBoundsException" "java/lang/Throwable" "cause" "Ljava/lang/Throwable;" ∈ ALLW := tw3 31 rfl rfl
theorem tw_512 : Cond.lays "java/lang/IndexOutOfBoundsException" "java/lang/Throwable" "stackTrace" "[Ljava/lang/StackTraceElement;" ∈ ALLW := tw3 32 rfl rfl
theorem tw_513 : Cond.lays "java/lang/IndexOutOfBoundsException" "java/lang/Throwable" "suppressedExceptions" "Ljava/util/List;" ∈ ALLW := tw3 33 rfl rfl
theorem tw_514 : Cond.lays "java/lang/IndexOutOfBoundsException" "java/lang/Throwable" "detailMessage" "Ljava/lang/String;" ∈ ALLW := tw3 34 rfl rfl
theorem tw_515 : Cond.lays "java/lang/IndexOutOfBoundsException" "java/lang/Throwable" "backtrace" "Ljava/lang/Object;" ∈ ALLW := tw3 35 rfl rfl
theorem tq_516 : Cond.stringRef "PlotKernel" 164 "a pen is 0 to 2" ∈ lw_tbl := tq3 36 rfl
theorem tw_517 : Cond.methodLink "PlotKernel" 166 ⟨"java/lang/IndexOutOfBoundsException", "<init>", "(Ljava/lang/String;)V"⟩ ∈ ALLW := tw3 37 rfl rfl
theorem tw_518 : Cond.instanceMethod ⟨"java/lang/IndexOutOfBoundsException", "<init>", "(Ljava/lang/String;)V"⟩ ∈ ALLW := tw3 38 rfl rfl
theorem tw_519 : Cond.code ⟨"java/lang/IndexOutOfBoundsException", "<init>", "(Ljava/lang/String;)V"⟩ prog_10_method_2_code 2 none ∈ ALLW := tw3 39 rfl rfl
theorem tw_520 : Cond.methodLink "java/lang/IndexOutOfBoundsException" 7 ⟨"java/lang/RuntimeException", "<init>", "(Ljava/lang/String;)V"⟩ ∈ ALLW := tw3 40 rfl rfl
theorem tw_521 : Cond.lays "java/lang/IndexOutOfBoundsException" "java/lang/Throwable" "depth" "I" ∈ ALLW := tw3 41 rfl rfl
theorem tw_522 : Cond.superclass "java/lang/IndexOutOfBoundsException" "java/lang/RuntimeException" ∈ ALLW := tw3 42 rfl rfl
theorem tw_523 : Cond.methodLink "PlotKernelLaw" 71 ⟨"PlotKernelLaw", "pour", "(LPlotKernel;II[J)I"⟩ ∈ ALLW := tw3 43 rfl rfl
theorem tw_524 : Cond.static ⟨"PlotKernelLaw", "pour", "(LPlotKernel;II[J)I"⟩ ∈ ALLW := tw3 44 rfl rfl
theorem tw_525 : Cond.codeWith ⟨"PlotKernelLaw", "pour", "(LPlotKernel;II[J)I"⟩ method_6_code 5 (some .int) [(0, 10, 13, 22), (0, 10, 17, 13)] ∈ ALLW := tw3 45 rfl rfl
theorem tw_526 : Cond.methodLink "PlotKernelLaw" 24 ⟨"PlotKernel", "pour", "(II)I"⟩ ∈ ALLW := tw3 46 rfl rfl
theorem tw_527 : Cond.instanceMethod ⟨"PlotKernel", "pour", "(II)I"⟩ ∈ ALLW := tw3 47 rfl rfl
theorem tw_528 : Cond.selects "PlotKernel" ⟨"PlotKernel", "pour", "(II)I"⟩ ⟨"PlotKernel", "pour", "(II)I"⟩ ∈ ALLW := tw3 48 rfl rfl
theorem tw_529 : Cond.code ⟨"PlotKernel", "pour", "(II)I"⟩ prog_1_method_18_code 4 (some .int) ∈ ALLW := tw3 49 rfl rfl
theorem tq_530 : Cond.stringRef "PlotKernel" 173 "an amount is 1 to 500" ∈ lw_tbl := tq3 50 rfl
theorem tw_531 : Cond.methodLink "PlotKernel" 175 ⟨"java/lang/Math", "max", "(II)I"⟩ ∈ ALLW := tw3 51 rfl rfl
theorem tw_532 : Cond.methodLink "PlotKernelLaw" 88 ⟨"PlotKernelLaw", "ink", "(LPlotKernel;I[J)I"⟩ ∈ ALLW := tw3 52 rfl rfl
theorem tw_533 : Cond.static ⟨"PlotKernelLaw", "ink", "(LPlotKernel;I[J)I"⟩ ∈ ALLW := tw3 53 rfl rfl
theorem tw_534 : Cond.codeWith ⟨"PlotKernelLaw", "ink", "(LPlotKernel;I[J)I"⟩ method_7_code 4 (some .int) [(0, 9, 12, 22)] ∈ ALLW := tw3 54 rfl rfl
theorem tw_535 : Cond.methodLink "PlotKernelLaw" 28 ⟨"PlotKernel", "ink", "(I)I"⟩ ∈ ALLW := tw3 55 rfl rfl
theorem tw_536 : Cond.instanceMethod ⟨"PlotKernel", "ink", "(I)I"⟩ ∈ ALLW := tw3 56 rfl rfl
theorem tw_537 : Cond.selects "PlotKernel" ⟨"PlotKernel", "ink", "(I)I"⟩ ⟨"PlotKernel", "ink", "(I)I"⟩ ∈ ALLW := tw3 57 rfl rfl
theorem tw_538 : Cond.code ⟨"PlotKernel", "ink", "(I)I"⟩ prog_1_method_28_code 2 (some .int) ∈ ALLW := tw3 58 rfl rfl
theorem tw_539 : Cond.methodLink "PlotKernelLaw" 107 ⟨"PlotKernelLaw", "isMarked", "(LPlotKernel;II[J)I"⟩ ∈ ALLW := tw3 59 rfl rfl
theorem tw_540 : Cond.static ⟨"PlotKernelLaw", "isMarked", "(LPlotKernel;II[J)I"⟩ ∈ ALLW := tw3 60 rfl rfl
theorem tw_541 : Cond.codeWith ⟨"PlotKernelLaw", "isMarked", "(LPlotKernel;II[J)I"⟩ method_8_code 5 (some .int) [(0, 17, 20, 22)] ∈ ALLW := tw3 61 rfl rfl
theorem tw_542 : Cond.methodLink "PlotKernelLaw" 31 ⟨"PlotKernel", "isMarked", "(II)Z"⟩ ∈ ALLW := tw3 62 rfl rfl
theorem tw_543 : Cond.instanceMethod ⟨"PlotKernel", "isMarked", "(II)Z"⟩ ∈ ALLW := tw3 63 rfl rfl
theorem tw_544 : Cond.selects "PlotKernel" ⟨"PlotKernel", "isMarked", "(II)Z"⟩ ⟨"PlotKernel", "isMarked", "(II)Z"⟩ ∈ ALLW := tw3 64 rfl rfl
theorem tw_545 : Cond.code ⟨"PlotKernel", "isMarked", "(II)Z"⟩ prog_1_method_40_code 3 (some .boolean) ∈ ALLW := tw3 65 rfl rfl
theorem tq_546 : Cond.stringRef "PlotKernel" 228 "a cell has x and y from 0 to 99" ∈ lw_tbl := tq3 66 rfl
theorem tq_547 : Cond.methodLinkNest "PlotKernel" 230 ⟨"PlotKernel$Paper", "hasMark", "(II)Z"⟩ "PlotKernel" ∈ lw_tbl := tq3 67 rfl
theorem tw_548 : Cond.classLink "PlotKernelLaw" 36 "PlotKernelModel" ∈ ALLW := tw3 68 rfl rfl
theorem tw_549 : Cond.instantiable "PlotKernelModel" 27 ∈ ALLW := tw3 69 rfl rfl
theorem tw_550 : Cond.methodLink "PlotKernelLaw" 38 ⟨"PlotKernelModel", "<init>", "()V"⟩ ∈ ALLW := tw3 70 rfl rfl
theorem tw_551 : Cond.instanceMethod ⟨"PlotKernelModel", "<init>", "()V"⟩ ∈ ALLW := tw3 71 rfl rfl
theorem tw_552 : Cond.code ⟨"PlotKernelModel", "<init>", "()V"⟩ prog_5_method_1_code 1 none ∈ ALLW := tw3 72 rfl rfl
theorem tw_553 : Cond.methodLink "PlotKernelModel" 1 ⟨"java/lang/Object", "<init>", "()V"⟩ ∈ ALLW := tw3 73 rfl rfl
theorem tw_554 : Cond.fieldLink "PlotKernelModel" 89 "PlotKernelModel" "pending" "I" ∈ ALLW := tw3 74 rfl rfl
theorem tw_555 : Cond.fieldLink "PlotKernelModel" 76 "PlotKernelModel" "kind" "I" ∈ ALLW := tw3 75 rfl rfl
theorem tw_556 : Cond.fieldLink "PlotKernelModel" 83 "PlotKernelModel" "first" "I" ∈ ALLW := tw3 76 rfl rfl
theorem tw_557 : Cond.fieldLink "PlotKernelModel" 54 "PlotKernelModel" "errors" "I" ∈ ALLW := tw3 77 rfl rfl
theorem tw_558 : Cond.fieldLink "PlotKernelModel" 57 "PlotKernelModel" "queued" "I" ∈ ALLW := tw3 78 rfl rfl
theorem tw_559 : Cond.fieldLink "PlotKernelModel" 7 "PlotKernelModel" "kinds" "[I" ∈ ALLW := tw3 79 rfl rfl
theorem tw_560 : Cond.fieldLink "PlotKernelModel" 13 "PlotKernelModel" "ones" "[I" ∈ ALLW := tw3 80 rfl rfl
theorem tw_561 : Cond.fieldLink "PlotKernelModel" 16 "PlotKernelModel" "others" "[I" ∈ ALLW := tw3 81 rfl rfl
theorem tw_562 : Cond.fieldLink "PlotKernelModel" 64 "PlotKernelModel" "lastKind" "I" ∈ ALLW := tw3 82 rfl rfl
theorem tw_563 : Cond.fieldLink "PlotKernelModel" 67 "PlotKernelModel" "lastOne" "I" ∈ ALLW := tw3 83 rfl rfl
theorem tw_564 : Cond.fieldLink "PlotKernelModel" 70 "PlotKernelModel" "lastOther" "I" ∈ ALLW := tw3 84 rfl rfl
theorem tw_565 : Cond.fieldLink "PlotKernelModel" 47 "PlotKernelModel" "endX" "I" ∈ ALLW := tw3 85 rfl rfl
theorem tw_566 : Cond.fieldLink "PlotKernelModel" 44 "PlotKernelModel" "endY" "I" ∈ ALLW := tw3 86 rfl rfl
theorem tw_567 : Cond.fieldLink "PlotKernelModel" 105 "PlotKernelModel" "done" "I" ∈ ALLW := tw3 87 rfl rfl
theorem tw_568 : Cond.fieldLink "PlotKernelModel" 108 "PlotKernelModel" "phase" "I" ∈ ALLW := tw3 88 rfl rfl
theorem tw_569 : Cond.fieldLink "PlotKernelModel" 111 "PlotKernelModel" "fromX" "I" ∈ ALLW := tw3 89 rfl rfl
theorem tw_570 : Cond.fieldLink "PlotKernelModel" 114 "PlotKernelModel" "fromY" "I" ∈ ALLW := tw3 90 rfl rfl
theorem tw_571 : Cond.fieldLink "PlotKernelModel" 102 "PlotKernelModel" "x" "I" ∈ ALLW := tw3 91 rfl rfl
theorem tw_572 : Cond.fieldLink "PlotKernelModel" 99 "PlotKernelModel" "y" "I" ∈ ALLW := tw3 92 rfl rfl
theorem tw_573 : Cond.fieldLink "PlotKernelModel" 117 "PlotKernelModel" "isDown" "Z" ∈ ALLW := tw3 93 rfl rfl
theorem tw_574 : Cond.fieldLink "PlotKernelModel" 124 "PlotKernelModel" "pen" "I" ∈ ALLW := tw3 94 rfl rfl
theorem tw_575 : Cond.fieldLink "PlotKernelModel" 19 "PlotKernelModel" "inks" "[I" ∈ ALLW := tw3 95 rfl rfl
theorem tw_576 : Cond.fieldLink "PlotKernelModel" 136 "PlotKernelModel" "stepsUp" "I" ∈ ALLW := tw3 96 rfl rfl
theorem tw_577 : Cond.fieldLink "PlotKernelModel" 133 "PlotKernelModel" "stepsDown" "I" ∈ ALLW := tw3 97 rfl rfl
theorem tw_578 : Cond.fieldLink "PlotKernelModel" 22 "PlotKernelModel" "marked" "[I" ∈ ALLW := tw3 98 rfl rfl
theorem tw_579 : Cond.fieldLink "PlotKernelModel" 25 "PlotKernelModel" "inTheEnd" "[I" ∈ ALLW := tw3 99 rfl rfl
theorem tw_580 : Cond.fieldLink "PlotKernelModel" 28 "PlotKernelModel" "thrown" "I" ∈ ALLW := tw3 100 rfl rfl
theorem tw_581 : Cond.lays "PlotKernelModel" "PlotKernelModel" "pending" "I" ∈ ALLW := tw3 101 rfl rfl
theorem tw_582 : Cond.soleField "PlotKernelModel" "pending" ∈ ALLW := tw3 102 rfl rfl
theorem tw_583 : Cond.lays "PlotKernelModel" "PlotKernelModel" "kind" "I" ∈ ALLW := tw3 103 rfl rfl
theorem tw_584 : Cond.soleField "PlotKernelModel" "kind" ∈ ALLW := tw3 104 rfl rfl
theorem tw_585 : Cond.lays "PlotKernelModel" "PlotKernelModel" "first" "I" ∈ ALLW := tw3 105 rfl rfl
theorem tw_586 : Cond.soleField "PlotKernelModel" "first" ∈ ALLW := tw3 106 rfl rfl
theorem tw_587 : Cond.lays "PlotKernelModel" "PlotKernelModel" "errors" "I" ∈ ALLW := tw3 107 rfl rfl
theorem tw_588 : Cond.soleField "PlotKernelModel" "errors" ∈ ALLW := tw3 108 rfl rfl
theorem tw_589 : Cond.lays "PlotKernelModel" "PlotKernelModel" "queued" "I" ∈ ALLW := tw3 109 rfl rfl
theorem tw_590 : Cond.soleField "PlotKernelModel" "queued" ∈ ALLW := tw3 110 rfl rfl
theorem tw_591 : Cond.laysFinal "PlotKernelModel" "PlotKernelModel" "kinds" "[I" ∈ ALLW := tw3 111 rfl rfl
theorem tw_592 : Cond.soleField "PlotKernelModel" "kinds" ∈ ALLW := tw3 112 rfl rfl
theorem tw_593 : Cond.laysFinal "PlotKernelModel" "PlotKernelModel" "ones" "[I" ∈ ALLW := tw3 113 rfl rfl
theorem tw_594 : Cond.soleField "PlotKernelModel" "ones" ∈ ALLW := tw3 114 rfl rfl
theorem tw_595 : Cond.laysFinal "PlotKernelModel" "PlotKernelModel" "others" "[I" ∈ ALLW := tw3 115 rfl rfl
theorem tw_596 : Cond.soleField "PlotKernelModel" "others" ∈ ALLW := tw3 116 rfl rfl
theorem tw_597 : Cond.lays "PlotKernelModel" "PlotKernelModel" "lastKind" "I" ∈ ALLW := tw3 117 rfl rfl
theorem tw_598 : Cond.soleField "PlotKernelModel" "lastKind" ∈ ALLW := tw3 118 rfl rfl
theorem tw_599 : Cond.lays "PlotKernelModel" "PlotKernelModel" "lastOne" "I" ∈ ALLW := tw3 119 rfl rfl
theorem tw_600 : Cond.soleField "PlotKernelModel" "lastOne" ∈ ALLW := tw3 120 rfl rfl
theorem tw_601 : Cond.lays "PlotKernelModel" "PlotKernelModel" "lastOther" "I" ∈ ALLW := tw3 121 rfl rfl
theorem tw_602 : Cond.soleField "PlotKernelModel" "lastOther" ∈ ALLW := tw3 122 rfl rfl
theorem tw_603 : Cond.lays "PlotKernelModel" "PlotKernelModel" "endX" "I" ∈ ALLW := tw3 123 rfl rfl
theorem tw_604 : Cond.soleField "PlotKernelModel" "endX" ∈ ALLW := tw3 124 rfl rfl
theorem tw_605 : Cond.lays "PlotKernelModel" "PlotKernelModel" "endY" "I" ∈ ALLW := tw3 125 rfl rfl
theorem tw_606 : Cond.soleField "PlotKernelModel" "endY" ∈ ALLW := tw3 126 rfl rfl
theorem tw_607 : Cond.lays "PlotKernelModel" "PlotKernelModel" "done" "I" ∈ ALLW := tw3 127 rfl rfl
theorem tw_608 : Cond.soleField "PlotKernelModel" "done" ∈ ALLW := tw3 128 rfl rfl
theorem tw_609 : Cond.lays "PlotKernelModel" "PlotKernelModel" "phase" "I" ∈ ALLW := tw3 129 rfl rfl
theorem tw_610 : Cond.soleField "PlotKernelModel" "phase" ∈ ALLW := tw3 130 rfl rfl
theorem tw_611 : Cond.lays "PlotKernelModel" "PlotKernelModel" "fromX" "I" ∈ ALLW := tw3 131 rfl rfl
theorem tw_612 : Cond.soleField "PlotKernelModel" "fromX" ∈ ALLW := tw3 132 rfl rfl
theorem tw_613 : Cond.lays "PlotKernelModel" "PlotKernelModel" "fromY" "I" ∈ ALLW := tw3 133 rfl rfl
theorem tw_614 : Cond.soleField "PlotKernelModel" "fromY" ∈ ALLW := tw3 134 rfl rfl
theorem tw_615 : Cond.lays "PlotKernelModel" "PlotKernelModel" "x" "I" ∈ ALLW := tw3 135 rfl rfl
theorem tw_616 : Cond.soleField "PlotKernelModel" "x" ∈ ALLW := tw3 136 rfl rfl
theorem tw_617 : Cond.lays "PlotKernelModel" "PlotKernelModel" "y" "I" ∈ ALLW := tw3 137 rfl rfl
theorem tw_618 : Cond.soleField "PlotKernelModel" "y" ∈ ALLW := tw3 138 rfl rfl
theorem tw_619 : Cond.lays "PlotKernelModel" "PlotKernelModel" "isDown" "Z" ∈ ALLW := tw3 139 rfl rfl
theorem tw_620 : Cond.soleField "PlotKernelModel" "isDown" ∈ ALLW := tw3 140 rfl rfl
theorem tw_621 : Cond.lays "PlotKernelModel" "PlotKernelModel" "pen" "I" ∈ ALLW := tw3 141 rfl rfl
theorem tw_622 : Cond.soleField "PlotKernelModel" "pen" ∈ ALLW := tw3 142 rfl rfl
theorem tw_623 : Cond.laysFinal "PlotKernelModel" "PlotKernelModel" "inks" "[I" ∈ ALLW := tw3 143 rfl rfl
theorem tw_624 : Cond.soleField "PlotKernelModel" "inks" ∈ ALLW := tw3 144 rfl rfl
theorem tw_625 : Cond.lays "PlotKernelModel" "PlotKernelModel" "stepsUp" "I" ∈ ALLW := tw3 145 rfl rfl
theorem tw_626 : Cond.soleField "PlotKernelModel" "stepsUp" ∈ ALLW := tw3 146 rfl rfl
theorem tw_627 : Cond.lays "PlotKernelModel" "PlotKernelModel" "stepsDown" "I" ∈ ALLW := tw3 147 rfl rfl
theorem tw_628 : Cond.soleField "PlotKernelModel" "stepsDown" ∈ ALLW := tw3 148 rfl rfl
theorem tw_629 : Cond.laysFinal "PlotKernelModel" "PlotKernelModel" "marked" "[I" ∈ ALLW := tw3 149 rfl rfl
theorem tw_630 : Cond.soleField "PlotKernelModel" "marked" ∈ ALLW := tw3 150 rfl rfl
theorem tw_631 : Cond.laysFinal "PlotKernelModel" "PlotKernelModel" "inTheEnd" "[I" ∈ ALLW := tw3 151 rfl rfl
theorem tw_632 : Cond.soleField "PlotKernelModel" "inTheEnd" ∈ ALLW := tw3 152 rfl rfl
theorem tw_633 : Cond.lays "PlotKernelModel" "PlotKernelModel" "thrown" "I" ∈ ALLW := tw3 153 rfl rfl
theorem tw_634 : Cond.soleField "PlotKernelModel" "thrown" ∈ ALLW := tw3 154 rfl rfl
theorem tw_635 : Cond.superclass "PlotKernelModel" "java/lang/Object" ∈ ALLW := tw3 155 rfl rfl
theorem tw_636 : Cond.methodLink "PlotKernelLaw" 45 ⟨"PlotKernelModel", "thrown", "()I"⟩ ∈ ALLW := tw3 156 rfl rfl
theorem tw_637 : Cond.instanceMethod ⟨"PlotKernelModel", "thrown", "()I"⟩ ∈ ALLW := tw3 157 rfl rfl
theorem tw_638 : Cond.selects "PlotKernelModel" ⟨"PlotKernelModel", "thrown", "()I"⟩ ⟨"PlotKernelModel", "thrown", "()I"⟩ ∈ ALLW := tw3 158 rfl rfl
theorem tw_639 : Cond.code ⟨"PlotKernelModel", "thrown", "()I"⟩ prog_5_method_2_code 1 (some .int) ∈ ALLW := tw3 159 rfl rfl
theorem tw_640 : Cond.methodLink "PlotKernelLaw" 44 ⟨"PlotKernelModel", "feed", "(I)Z"⟩ ∈ ALLW := tw3 160 rfl rfl
theorem tw_641 : Cond.instanceMethod ⟨"PlotKernelModel", "feed", "(I)Z"⟩ ∈ ALLW := tw3 161 rfl rfl
theorem tw_642 : Cond.selects "PlotKernelModel" ⟨"PlotKernelModel", "feed", "(I)Z"⟩ ⟨"PlotKernelModel", "feed", "(I)Z"⟩ ∈ ALLW := tw3 162 rfl rfl
theorem tw_643 : Cond.code ⟨"PlotKernelModel", "feed", "(I)Z"⟩ prog_5_method_13_code 3 (some .boolean) ∈ ALLW := tw3 163 rfl rfl
theorem tw_644 : Cond.methodLink "PlotKernelModel" 32 ⟨"PlotKernelModel", "isIn", "(III)Z"⟩ ∈ ALLW := tw3 164 rfl rfl
theorem tw_645 : Cond.static ⟨"PlotKernelModel", "isIn", "(III)Z"⟩ ∈ ALLW := tw3 165 rfl rfl
theorem tw_646 : Cond.code ⟨"PlotKernelModel", "isIn", "(III)Z"⟩ prog_5_method_4_code 3 (some .boolean) ∈ ALLW := tw3 166 rfl rfl
theorem tw_647 : Cond.methodLink "PlotKernelModel" 92 ⟨"PlotKernelModel", "goes", "(I)Z"⟩ ∈ ALLW := tw3 167 rfl rfl
theorem tq_648 : Cond.privateMethod ⟨"PlotKernelModel", "goes", "(I)Z"⟩ ∈ lw_tbl := tq3 168 rfl
theorem tw_649 : Cond.instanceMethod ⟨"PlotKernelModel", "goes", "(I)Z"⟩ ∈ ALLW := tw3 169 rfl rfl
theorem tw_650 : Cond.code ⟨"PlotKernelModel", "goes", "(I)Z"⟩ prog_5_method_3_code 2 (some .boolean) ∈ ALLW := tw3 170 rfl rfl
theorem tw_651 : Cond.methodLink "PlotKernelModel" 96 ⟨"PlotKernelModel", "isWhole", "(I)V"⟩ ∈ ALLW := tw3 171 rfl rfl
theorem tq_652 : Cond.privateMethod ⟨"PlotKernelModel", "isWhole", "(I)V"⟩ ∈ lw_tbl := tq3 172 rfl
theorem tw_653 : Cond.instanceMethod ⟨"PlotKernelModel", "isWhole", "(I)V"⟩ ∈ ALLW := tw3 173 rfl rfl
theorem tw_654 : Cond.code ⟨"PlotKernelModel", "isWhole", "(I)V"⟩ prog_5_method_12_code 2 none ∈ ALLW := tw3 174 rfl rfl
theorem tw_655 : Cond.methodLink "PlotKernelModel" 79 ⟨"PlotKernelModel", "repeats", "(I)V"⟩ ∈ ALLW := tw3 175 rfl rfl
theorem tq_656 : Cond.privateMethod ⟨"PlotKernelModel", "repeats", "(I)V"⟩ ∈ lw_tbl := tq3 176 rfl
theorem tw_657 : Cond.instanceMethod ⟨"PlotKernelModel", "repeats", "(I)V"⟩ ∈ ALLW := tw3 177 rfl rfl
theorem tw_658 : Cond.code ⟨"PlotKernelModel", "repeats", "(I)V"⟩ prog_5_method_10_code 3 none ∈ ALLW := tw3 178 rfl rfl
theorem tw_659 : Cond.methodLink "PlotKernelModel" 73 ⟨"PlotKernelModel", "queues", "(III)Z"⟩ ∈ ALLW := tw3 179 rfl rfl
theorem tq_660 : Cond.privateMethod ⟨"PlotKernelModel", "queues", "(III)Z"⟩ ∈ lw_tbl := tq3 180 rfl
theorem tw_661 : Cond.instanceMethod ⟨"PlotKernelModel", "queues", "(III)Z"⟩ ∈ ALLW := tw3 181 rfl rfl
theorem tw_662 : Cond.code ⟨"PlotKernelModel", "queues", "(III)Z"⟩ prog_5_method_9_code 6 (some .boolean) ∈ ALLW := tw3 182 rfl rfl
theorem tw_663 : Cond.methodLink "PlotKernelModel" 50 ⟨"PlotKernelModel", "isCell", "(II)Z"⟩ ∈ ALLW := tw3 183 rfl rfl
theorem tw_664 : Cond.static ⟨"PlotKernelModel", "isCell", "(II)Z"⟩ ∈ ALLW := tw3 184 rfl rfl
theorem tw_665 : Cond.code ⟨"PlotKernelModel", "isCell", "(II)Z"⟩ prog_5_method_5_code 2 (some .boolean) ∈ ALLW := tw3 185 rfl rfl
theorem tw_666 : Cond.methodLink "PlotKernelModel" 60 ⟨"PlotKernelModel", "draws", "(II)V"⟩ ∈ ALLW := tw3 186 rfl rfl
theorem tq_667 : Cond.privateMethod ⟨"PlotKernelModel", "draws", "(II)V"⟩ ∈ lw_tbl := tq3 187 rfl
theorem tw_668 : Cond.instanceMethod ⟨"PlotKernelModel", "draws", "(II)V"⟩ ∈ ALLW := tw3 188 rfl rfl
theorem tw_669 : Cond.code ⟨"PlotKernelModel", "draws", "(II)V"⟩ prog_5_method_8_code 6 none ∈ ALLW := tw3 189 rfl rfl
theorem tw_670 : Cond.methodLink "PlotKernelModel" 40 ⟨"PlotKernelModel", "steps", "(II)I"⟩ ∈ ALLW := tw3 190 rfl rfl
theorem tw_671 : Cond.static ⟨"PlotKernelModel", "steps", "(II)I"⟩ ∈ ALLW := tw3 191 rfl rfl
theorem tw_672 : Cond.code ⟨"PlotKernelModel", "steps", "(II)I"⟩ prog_5_method_7_code 2 (some .int) ∈ ALLW := tw3 192 rfl rfl
theorem tw_673 : Cond.methodLink "PlotKernelModel" 36 ⟨"PlotKernelModel", "size", "(I)I"⟩ ∈ ALLW := tw3 193 rfl rfl
theorem tw_674 : Cond.static ⟨"PlotKernelModel", "size", "(I)I"⟩ ∈ ALLW := tw3 194 rfl rfl
theorem tw_675 : Cond.code ⟨"PlotKernelModel", "size", "(I)I"⟩ prog_5_method_6_code 1 (some .int) ∈ ALLW := tw3 195 rfl rfl
theorem tw_676 : Cond.methodLink "PlotKernelModel" 86 ⟨"PlotKernelModel", "signed", "(I)I"⟩ ∈ ALLW := tw3 196 rfl rfl
theorem tw_677 : Cond.static ⟨"PlotKernelModel", "signed", "(I)I"⟩ ∈ ALLW := tw3 197 rfl rfl
theorem tw_678 : Cond.code ⟨"PlotKernelModel", "signed", "(I)I"⟩ prog_5_method_11_code 1 (some .int) ∈ ALLW := tw3 198 rfl rfl
theorem tw_679 : Cond.methodLink "PlotKernelLaw" 52 ⟨"PlotKernelModel", "errors", "()I"⟩ ∈ ALLW := tw3 199 rfl rfl
theorem tw_680 : Cond.instanceMethod ⟨"PlotKernelModel", "errors", "()I"⟩ ∈ ALLW := tw3 200 rfl rfl
theorem tw_681 : Cond.selects "PlotKernelModel" ⟨"PlotKernelModel", "errors", "()I"⟩ ⟨"PlotKernelModel", "errors", "()I"⟩ ∈ ALLW := tw3 201 rfl rfl
theorem tw_682 : Cond.code ⟨"PlotKernelModel", "errors", "()I"⟩ prog_5_method_14_code 1 (some .int) ∈ ALLW := tw3 202 rfl rfl
theorem tw_683 : Cond.methodLink "PlotKernelLaw" 56 ⟨"PlotKernelModel", "queued", "()I"⟩ ∈ ALLW := tw3 203 rfl rfl
theorem tw_684 : Cond.instanceMethod ⟨"PlotKernelModel", "queued", "()I"⟩ ∈ ALLW := tw3 204 rfl rfl
theorem tw_685 : Cond.selects "PlotKernelModel" ⟨"PlotKernelModel", "queued", "()I"⟩ ⟨"PlotKernelModel", "queued", "()I"⟩ ∈ ALLW := tw3 205 rfl rfl
theorem tw_686 : Cond.code ⟨"PlotKernelModel", "queued", "()I"⟩ prog_5_method_15_code 1 (some .int) ∈ ALLW := tw3 206 rfl rfl
theorem tw_687 : Cond.methodLink "PlotKernelLaw" 60 ⟨"PlotKernelModel", "pending", "()I"⟩ ∈ ALLW := tw3 207 rfl rfl
theorem tw_688 : Cond.instanceMethod ⟨"PlotKernelModel", "pending", "()I"⟩ ∈ ALLW := tw3 208 rfl rfl
theorem tw_689 : Cond.selects "PlotKernelModel" ⟨"PlotKernelModel", "pending", "()I"⟩ ⟨"PlotKernelModel", "pending", "()I"⟩ ∈ ALLW := tw3 209 rfl rfl
theorem tw_690 : Cond.code ⟨"PlotKernelModel", "pending", "()I"⟩ prog_5_method_16_code 1 (some .int) ∈ ALLW := tw3 210 rfl rfl
theorem tw_691 : Cond.methodLink "PlotKernelLaw" 63 ⟨"PlotKernelModel", "tick", "(I)I"⟩ ∈ ALLW := tw3 211 rfl rfl
theorem tw_692 : Cond.instanceMethod ⟨"PlotKernelModel", "tick", "(I)I"⟩ ∈ ALLW := tw3 212 rfl rfl
theorem tw_693 : Cond.selects "PlotKernelModel" ⟨"PlotKernelModel", "tick", "(I)I"⟩ ⟨"PlotKernelModel", "tick", "(I)I"⟩ ∈ ALLW := tw3 213 rfl rfl
theorem tw_694 : Cond.code ⟨"PlotKernelModel", "tick", "(I)I"⟩ prog_5_method_25_code 4 (some .int) ∈ ALLW := tw3 214 rfl rfl
theorem tw_695 : Cond.methodLink "PlotKernelModel" 154 ⟨"PlotKernelModel", "ticks", "()I"⟩ ∈ ALLW := tw3 215 rfl rfl
theorem tq_696 : Cond.privateMethod ⟨"PlotKernelModel", "ticks", "()I"⟩ ∈ lw_tbl := tq3 216 rfl
theorem tw_697 : Cond.instanceMethod ⟨"PlotKernelModel", "ticks", "()I"⟩ ∈ ALLW := tw3 217 rfl rfl
theorem tw_698 : Cond.code ⟨"PlotKernelModel", "ticks", "()I"⟩ prog_5_method_24_code 1 (some .int) ∈ ALLW := tw3 218 rfl rfl
theorem tw_699 : Cond.methodLink "PlotKernelModel" 139 ⟨"PlotKernelModel", "lacksInk", "()Z"⟩ ∈ ALLW := tw3 219 rfl rfl
theorem tq_700 : Cond.privateMethod ⟨"PlotKernelModel", "lacksInk", "()Z"⟩ ∈ lw_tbl := tq3 220 rfl
theorem tw_701 : Cond.instanceMethod ⟨"PlotKernelModel", "lacksInk", "()Z"⟩ ∈ ALLW := tw3 221 rfl rfl
theorem tw_702 : Cond.code ⟨"PlotKernelModel", "lacksInk", "()Z"⟩ prog_5_method_23_code 1 (some .boolean) ∈ ALLW := tw3 222 rfl rfl
theorem tw_703 : Cond.methodLink "PlotKernelModel" 143 ⟨"PlotKernelModel", "lifts", "(Z)V"⟩ ∈ ALLW := tw3 223 rfl rfl
theorem tq_704 : Cond.privateMethod ⟨"PlotKernelModel", "lifts", "(Z)V"⟩ ∈ lw_tbl := tq3 224 rfl
theorem tw_705 : Cond.instanceMethod ⟨"PlotKernelModel", "lifts", "(Z)V"⟩ ∈ ALLW := tw3 225 rfl rfl
theorem tw_706 : Cond.code ⟨"PlotKernelModel", "lifts", "(Z)V"⟩ prog_5_method_19_code 2 none ∈ ALLW := tw3 226 rfl rfl
theorem tw_707 : Cond.methodLink "PlotKernelModel" 121 ⟨"PlotKernelModel", "marksCell", "()V"⟩ ∈ ALLW := tw3 227 rfl rfl
theorem tq_708 : Cond.privateMethod ⟨"PlotKernelModel", "marksCell", "()V"⟩ ∈ lw_tbl := tq3 228 rfl
theorem tw_709 : Cond.instanceMethod ⟨"PlotKernelModel", "marksCell", "()V"⟩ ∈ ALLW := tw3 229 rfl rfl
theorem tw_710 : Cond.code ⟨"PlotKernelModel", "marksCell", "()V"⟩ prog_5_method_17_code 2 none ∈ ALLW := tw3 230 rfl rfl
theorem tw_711 : Cond.methodLink "PlotKernelModel" 147 ⟨"PlotKernelModel", "changes", "()V"⟩ ∈ ALLW := tw3 231 rfl rfl
theorem tq_712 : Cond.privateMethod ⟨"PlotKernelModel", "changes", "()V"⟩ ∈ lw_tbl := tq3 232 rfl
theorem tw_713 : Cond.instanceMethod ⟨"PlotKernelModel", "changes", "()V"⟩ ∈ ALLW := tw3 233 rfl rfl
theorem tw_714 : Cond.code ⟨"PlotKernelModel", "changes", "()V"⟩ prog_5_method_20_code 1 none ∈ ALLW := tw3 234 rfl rfl
theorem tw_715 : Cond.methodLink "PlotKernelModel" 127 ⟨"PlotKernelModel", "isDone", "()V"⟩ ∈ ALLW := tw3 235 rfl rfl
theorem tq_716 : Cond.privateMethod ⟨"PlotKernelModel", "isDone", "()V"⟩ ∈ lw_tbl := tq3 236 rfl
theorem tw_717 : Cond.instanceMethod ⟨"PlotKernelModel", "isDone", "()V"⟩ ∈ ALLW := tw3 237 rfl rfl
theorem tw_718 : Cond.code ⟨"PlotKernelModel", "isDone", "()V"⟩ prog_5_method_18_code 2 none ∈ ALLW := tw3 238 rfl rfl
theorem tw_719 : Cond.methodLink "PlotKernelModel" 150 ⟨"PlotKernelModel", "step", "()I"⟩ ∈ ALLW := tw3 239 rfl rfl
theorem tq_720 : Cond.privateMethod ⟨"PlotKernelModel", "step", "()I"⟩ ∈ lw_tbl := tq4 0 rfl
theorem tw_721 : Cond.instanceMethod ⟨"PlotKernelModel", "step", "()I"⟩ ∈ ALLW := tw4 1 rfl rfl
theorem tw_722 : Cond.code ⟨"PlotKernelModel", "step", "()I"⟩ prog_5_method_22_code 1 (some .int) ∈ ALLW := tw4 2 rfl rfl
theorem tw_723 : Cond.methodLink "PlotKernelModel" 130 ⟨"PlotKernelModel", "goesTo", "(I)V"⟩ ∈ ALLW := tw4 3 rfl rfl
theorem tq_724 : Cond.privateMethod ⟨"PlotKernelModel", "goesTo", "(I)V"⟩ ∈ lw_tbl := tq4 4 rfl
theorem tw_725 : Cond.instanceMethod ⟨"PlotKernelModel", "goesTo", "(I)V"⟩ ∈ ALLW := tw4 5 rfl rfl
theorem tw_726 : Cond.code ⟨"PlotKernelModel", "goesTo", "(I)V"⟩ prog_5_method_21_code 3 none ∈ ALLW := tw4 6 rfl rfl
theorem tw_727 : Cond.methodLink "PlotKernelLaw" 67 ⟨"PlotKernelModel", "cut", "()I"⟩ ∈ ALLW := tw4 7 rfl rfl
theorem tw_728 : Cond.instanceMethod ⟨"PlotKernelModel", "cut", "()I"⟩ ∈ ALLW := tw4 8 rfl rfl
theorem tw_729 : Cond.selects "PlotKernelModel" ⟨"PlotKernelModel", "cut", "()I"⟩ ⟨"PlotKernelModel", "cut", "()I"⟩ ∈ ALLW := tw4 9 rfl rfl
theorem tw_730 : Cond.code ⟨"PlotKernelModel", "cut", "()I"⟩ prog_5_method_26_code 2 (some .int) ∈ ALLW := tw4 10 rfl rfl
theorem tw_731 : Cond.methodLink "PlotKernelLaw" 70 ⟨"PlotKernelModel", "refill", "(I)I"⟩ ∈ ALLW := tw4 11 rfl rfl
theorem tw_732 : Cond.instanceMethod ⟨"PlotKernelModel", "refill", "(I)I"⟩ ∈ ALLW := tw4 12 rfl rfl
theorem tw_733 : Cond.selects "PlotKernelModel" ⟨"PlotKernelModel", "refill", "(I)I"⟩ ⟨"PlotKernelModel", "refill", "(I)I"⟩ ∈ ALLW := tw4 13 rfl rfl
theorem tw_734 : Cond.code ⟨"PlotKernelModel", "refill", "(I)I"⟩ prog_5_method_28_code 3 (some .int) ∈ ALLW := tw4 14 rfl rfl
theorem tw_735 : Cond.methodLink "PlotKernelModel" 157 ⟨"PlotKernelModel", "isPen", "(I)Z"⟩ ∈ ALLW := tw4 15 rfl rfl
theorem tw_736 : Cond.static ⟨"PlotKernelModel", "isPen", "(I)Z"⟩ ∈ ALLW := tw4 16 rfl rfl
theorem tw_737 : Cond.code ⟨"PlotKernelModel", "isPen", "(I)Z"⟩ prog_5_method_27_code 1 (some .boolean) ∈ ALLW := tw4 17 rfl rfl
theorem tw_738 : Cond.methodLink "PlotKernelLaw" 74 ⟨"PlotKernelModel", "pour", "(II)I"⟩ ∈ ALLW := tw4 18 rfl rfl
theorem tw_739 : Cond.instanceMethod ⟨"PlotKernelModel", "pour", "(II)I"⟩ ∈ ALLW := tw4 19 rfl rfl
theorem tw_740 : Cond.selects "PlotKernelModel" ⟨"PlotKernelModel", "pour", "(II)I"⟩ ⟨"PlotKernelModel", "pour", "(II)I"⟩ ∈ ALLW := tw4 20 rfl rfl
theorem tw_741 : Cond.code ⟨"PlotKernelModel", "pour", "(II)I"⟩ prog_5_method_29_code 3 (some .int) ∈ ALLW := tw4 21 rfl rfl
theorem tw_742 : Cond.methodLink "PlotKernelLaw" 78 ⟨"PlotKernelModel", "at", "()I"⟩ ∈ ALLW := tw4 22 rfl rfl
theorem tw_743 : Cond.instanceMethod ⟨"PlotKernelModel", "at", "()I"⟩ ∈ ALLW := tw4 23 rfl rfl
theorem tw_744 : Cond.selects "PlotKernelModel" ⟨"PlotKernelModel", "at", "()I"⟩ ⟨"PlotKernelModel", "at", "()I"⟩ ∈ ALLW := tw4 24 rfl rfl
theorem tw_745 : Cond.code ⟨"PlotKernelModel", "at", "()I"⟩ prog_5_method_30_code 1 (some .int) ∈ ALLW := tw4 25 rfl rfl
theorem tw_746 : Cond.methodLink "PlotKernelLaw" 83 ⟨"PlotKernelModel", "isDown", "()Z"⟩ ∈ ALLW := tw4 26 rfl rfl
theorem tw_747 : Cond.instanceMethod ⟨"PlotKernelModel", "isDown", "()Z"⟩ ∈ ALLW := tw4 27 rfl rfl
theorem tw_748 : Cond.selects "PlotKernelModel" ⟨"PlotKernelModel", "isDown", "()Z"⟩ ⟨"PlotKernelModel", "isDown", "()Z"⟩ ∈ ALLW := tw4 28 rfl rfl
theorem tw_749 : Cond.code ⟨"PlotKernelModel", "isDown", "()Z"⟩ prog_5_method_31_code 1 (some .boolean) ∈ ALLW := tw4 29 rfl rfl
theorem tw_750 : Cond.methodLink "PlotKernelLaw" 87 ⟨"PlotKernelModel", "pen", "()I"⟩ ∈ ALLW := tw4 30 rfl rfl
theorem tw_751 : Cond.instanceMethod ⟨"PlotKernelModel", "pen", "()I"⟩ ∈ ALLW := tw4 31 rfl rfl
theorem tw_752 : Cond.selects "PlotKernelModel" ⟨"PlotKernelModel", "pen", "()I"⟩ ⟨"PlotKernelModel", "pen", "()I"⟩ ∈ ALLW := tw4 32 rfl rfl
theorem tw_753 : Cond.code ⟨"PlotKernelModel", "pen", "()I"⟩ prog_5_method_32_code 1 (some .int) ∈ ALLW := tw4 33 rfl rfl
theorem tw_754 : Cond.methodLink "PlotKernelLaw" 90 ⟨"PlotKernelModel", "ink", "(I)I"⟩ ∈ ALLW := tw4 34 rfl rfl
theorem tw_755 : Cond.instanceMethod ⟨"PlotKernelModel", "ink", "(I)I"⟩ ∈ ALLW := tw4 35 rfl rfl
theorem tw_756 : Cond.selects "PlotKernelModel" ⟨"PlotKernelModel", "ink", "(I)I"⟩ ⟨"PlotKernelModel", "ink", "(I)I"⟩ ∈ ALLW := tw4 36 rfl rfl
theorem tw_757 : Cond.code ⟨"PlotKernelModel", "ink", "(I)I"⟩ prog_5_method_33_code 2 (some .int) ∈ ALLW := tw4 37 rfl rfl
theorem tw_758 : Cond.methodLink "PlotKernelLaw" 94 ⟨"PlotKernelModel", "isWaiting", "()Z"⟩ ∈ ALLW := tw4 38 rfl rfl
theorem tw_759 : Cond.instanceMethod ⟨"PlotKernelModel", "isWaiting", "()Z"⟩ ∈ ALLW := tw4 39 rfl rfl
theorem tw_760 : Cond.selects "PlotKernelModel" ⟨"PlotKernelModel", "isWaiting", "()Z"⟩ ⟨"PlotKernelModel", "isWaiting", "()Z"⟩ ∈ ALLW := tw4 40 rfl rfl
theorem tw_761 : Cond.code ⟨"PlotKernelModel", "isWaiting", "()Z"⟩ prog_5_method_34_code 1 (some .boolean) ∈ ALLW := tw4 41 rfl rfl
theorem tw_762 : Cond.methodLink "PlotKernelLaw" 98 ⟨"PlotKernelModel", "timeLeft", "()I"⟩ ∈ ALLW := tw4 42 rfl rfl
theorem tw_763 : Cond.instanceMethod ⟨"PlotKernelModel", "timeLeft", "()I"⟩ ∈ ALLW := tw4 43 rfl rfl
theorem tw_764 : Cond.selects "PlotKernelModel" ⟨"PlotKernelModel", "timeLeft", "()I"⟩ ⟨"PlotKernelModel", "timeLeft", "()I"⟩ ∈ ALLW := tw4 44 rfl rfl
theorem tw_765 : Cond.code ⟨"PlotKernelModel", "timeLeft", "()I"⟩ prog_5_method_35_code 5 (some .int) ∈ ALLW := tw4 45 rfl rfl
theorem tw_766 : Cond.methodLink "PlotKernelLaw" 102 ⟨"PlotKernelModel", "stepsUp", "()I"⟩ ∈ ALLW := tw4 46 rfl rfl
theorem tw_767 : Cond.instanceMethod ⟨"PlotKernelModel", "stepsUp", "()I"⟩ ∈ ALLW := tw4 47 rfl rfl
theorem tw_768 : Cond.selects "PlotKernelModel" ⟨"PlotKernelModel", "stepsUp", "()I"⟩ ⟨"PlotKernelModel", "stepsUp", "()I"⟩ ∈ ALLW := tw4 48 rfl rfl
theorem tw_769 : Cond.code ⟨"PlotKernelModel", "stepsUp", "()I"⟩ prog_5_method_36_code 1 (some .int) ∈ ALLW := tw4 49 rfl rfl
theorem tw_770 : Cond.methodLink "PlotKernelLaw" 106 ⟨"PlotKernelModel", "stepsDown", "()I"⟩ ∈ ALLW := tw4 50 rfl rfl
theorem tw_771 : Cond.instanceMethod ⟨"PlotKernelModel", "stepsDown", "()I"⟩ ∈ ALLW := tw4 51 rfl rfl
theorem tw_772 : Cond.selects "PlotKernelModel" ⟨"PlotKernelModel", "stepsDown", "()I"⟩ ⟨"PlotKernelModel", "stepsDown", "()I"⟩ ∈ ALLW := tw4 52 rfl rfl
theorem tw_773 : Cond.code ⟨"PlotKernelModel", "stepsDown", "()I"⟩ prog_5_method_37_code 1 (some .int) ∈ ALLW := tw4 53 rfl rfl
theorem tw_774 : Cond.methodLink "PlotKernelLaw" 109 ⟨"PlotKernelModel", "isMarked", "(II)Z"⟩ ∈ ALLW := tw4 54 rfl rfl
theorem tw_775 : Cond.instanceMethod ⟨"PlotKernelModel", "isMarked", "(II)Z"⟩ ∈ ALLW := tw4 55 rfl rfl
theorem tw_776 : Cond.selects "PlotKernelModel" ⟨"PlotKernelModel", "isMarked", "(II)Z"⟩ ⟨"PlotKernelModel", "isMarked", "(II)Z"⟩ ∈ ALLW := tw4 56 rfl rfl
theorem tw_777 : Cond.code ⟨"PlotKernelModel", "isMarked", "(II)Z"⟩ prog_5_method_38_code 4 (some .boolean) ∈ ALLW := tw4 57 rfl rfl
theorem tw_778 : Cond.methodLink "PlotKernelLaw" 113 ⟨"PlotKernelModel", "marks", "()I"⟩ ∈ ALLW := tw4 58 rfl rfl
theorem tw_779 : Cond.instanceMethod ⟨"PlotKernelModel", "marks", "()I"⟩ ∈ ALLW := tw4 59 rfl rfl
theorem tw_780 : Cond.selects "PlotKernelModel" ⟨"PlotKernelModel", "marks", "()I"⟩ ⟨"PlotKernelModel", "marks", "()I"⟩ ∈ ALLW := tw4 60 rfl rfl
theorem tw_781 : Cond.code ⟨"PlotKernelModel", "marks", "()I"⟩ prog_5_method_40_code 3 (some .int) ∈ ALLW := tw4 61 rfl rfl
theorem tw_782 : Cond.methodLink "PlotKernelModel" 160 ⟨"PlotKernelModel", "bits", "(I)I"⟩ ∈ ALLW := tw4 62 rfl rfl
theorem tw_783 : Cond.static ⟨"PlotKernelModel", "bits", "(I)I"⟩ ∈ ALLW := tw4 63 rfl rfl
theorem tw_784 : Cond.code ⟨"PlotKernelModel", "bits", "(I)I"⟩ prog_5_method_39_code 3 (some .int) ∈ ALLW := tw4 64 rfl rfl
theorem tw_785 : Cond.methodLink "PlotKernelLaw" 117 ⟨"PlotKernelModel", "marksInTheEnd", "()I"⟩ ∈ ALLW := tw4 65 rfl rfl
theorem tw_786 : Cond.instanceMethod ⟨"PlotKernelModel", "marksInTheEnd", "()I"⟩ ∈ ALLW := tw4 66 rfl rfl
theorem tw_787 : Cond.selects "PlotKernelModel" ⟨"PlotKernelModel", "marksInTheEnd", "()I"⟩ ⟨"PlotKernelModel", "marksInTheEnd", "()I"⟩ ∈ ALLW := tw4 67 rfl rfl
theorem tw_788 : Cond.code ⟨"PlotKernelModel", "marksInTheEnd", "()I"⟩ prog_5_method_41_code 3 (some .int) ∈ ALLW := tw4 68 rfl rfl
theorem tw_789 : Cond.sameMethod "java/lang/Throwable" "java/lang/Throwable" "fillInStackTrace" "(I)Ljava/lang/Throwable;" ∈ ALLW := tw4 69 rfl rfl
theorem tq_790 : Cond.castable "PlotKernel" "java/lang/Object" ∈ lw_tbl := tq4 70 rfl
theorem tq_791 : Cond.castable "java/util/ArrayList" "java/lang/Object" ∈ lw_tbl := tq4 71 rfl
theorem tq_792 : Cond.castable "PlotKernel$Paper" "java/lang/Object" ∈ lw_tbl := tq4 72 rfl
theorem tq_793 : Cond.castable "PlotKernelModel" "java/lang/Object" ∈ lw_tbl := tq4 73 rfl
theorem tq_794 : Cond.castable "java/lang/IllegalArgumentException" "java/lang/Object" ∈ lw_tbl := tq4 74 rfl
theorem tq_795 : Cond.castable "PlotKernel$Command" "java/lang/Object" ∈ lw_tbl := tq4 75 rfl
theorem tq_796 : Cond.castable "java/lang/IndexOutOfBoundsException" "java/lang/Object" ∈ lw_tbl := tq4 76 rfl
theorem tq_797 : Cond.castable "java/lang/Throwable" "java/lang/Object" ∈ lw_tbl := tq4 77 rfl
theorem tq_798 : Cond.castable "java/lang/String" "java/lang/Object" ∈ lw_tbl := tq4 78 rfl
theorem tw_799 : Cond.sameMethod "[Ljava/lang/Object;" "java/lang/Object" "getClass" "()Ljava/lang/Class;" ∈ ALLW := tw4 79 rfl rfl
theorem tw_800 : Cond.selects "[Ljava/lang/Object;" ⟨"java/lang/Object", "getClass", "()Ljava/lang/Class;"⟩ ⟨"java/lang/Object", "getClass", "()Ljava/lang/Class;"⟩ ∈ ALLW := tw4 80 rfl rfl
theorem tq_801 : Cond.declares ⟨"java/lang/Object", "getClass", "()Ljava/lang/Class;"⟩ ∈ lw_tbl := tq4 81 rfl
theorem tq_802 : Cond.castable "[J" "java/lang/Object" ∈ lw_tbl := tq4 82 rfl
theorem tq_803 : Cond.castable "[I" "java/lang/Object" ∈ lw_tbl := tq4 83 rfl
theorem tq_804 : Cond.castable "[B" "java/lang/Object" ∈ lw_tbl := tq4 84 rfl
theorem tq_805 : Cond.castable "[Ljava/lang/Object;" "java/lang/Object" ∈ lw_tbl := tq4 85 rfl
theorem tp_0 : Cond.selects "PlotKernel" ⟨"PlotKernel", "carriageY", "()I"⟩ ⟨"PlotKernel", "carriageY", "()I"⟩ ∈ ALLW := twA (List.mem_append_left _ (List.mem_map.mpr ⟨(⟨"PlotKernel", "carriageY", "()I"⟩, 19), List.mem_of_getElem? (i := 0) rfl, rfl⟩)) rfl
theorem tp_1 : Cond.selects "PlotKernel" ⟨"PlotKernel", "firstCommand", "()LPlotKernel$Command;"⟩ ⟨"PlotKernel", "firstCommand", "()LPlotKernel$Command;"⟩ ∈ ALLW := twA (List.mem_append_left _ (List.mem_map.mpr ⟨(⟨"PlotKernel", "firstCommand", "()LPlotKernel$Command;"⟩, 19), List.mem_of_getElem? (i := 1) rfl, rfl⟩)) rfl
theorem tp_2 : Cond.selects "PlotKernel$Command" ⟨"PlotKernel$Command", "wayY", "(I)I"⟩ ⟨"PlotKernel$Command", "wayY", "(I)I"⟩ ∈ ALLW := twA (List.mem_append_left _ (List.mem_map.mpr ⟨(⟨"PlotKernel$Command", "wayY", "(I)I"⟩, 4), List.mem_of_getElem? (i := 2) rfl, rfl⟩)) rfl
theorem tp_3 : Cond.selects "PlotKernel$Command" ⟨"PlotKernel$Command", "way", "(II)I"⟩ ⟨"PlotKernel$Command", "way", "(II)I"⟩ ∈ ALLW := twA (List.mem_append_left _ (List.mem_map.mpr ⟨(⟨"PlotKernel$Command", "way", "(II)I"⟩, 4), List.mem_of_getElem? (i := 3) rfl, rfl⟩)) rfl
theorem tp_4 : Cond.selects "PlotKernel$Command" ⟨"PlotKernel$Command", "steps", "()I"⟩ ⟨"PlotKernel$Command", "steps", "()I"⟩ ∈ ALLW := twA (List.mem_append_left _ (List.mem_map.mpr ⟨(⟨"PlotKernel$Command", "steps", "()I"⟩, 4), List.mem_of_getElem? (i := 4) rfl, rfl⟩)) rfl
theorem tp_5 : Cond.selects "PlotKernel" ⟨"PlotKernel", "carriageX", "()I"⟩ ⟨"PlotKernel", "carriageX", "()I"⟩ ∈ ALLW := twA (List.mem_append_left _ (List.mem_map.mpr ⟨(⟨"PlotKernel", "carriageX", "()I"⟩, 19), List.mem_of_getElem? (i := 5) rfl, rfl⟩)) rfl
theorem tp_6 : Cond.selects "PlotKernel$Command" ⟨"PlotKernel$Command", "wayX", "(I)I"⟩ ⟨"PlotKernel$Command", "wayX", "(I)I"⟩ ∈ ALLW := twA (List.mem_append_left _ (List.mem_map.mpr ⟨(⟨"PlotKernel$Command", "wayX", "(I)I"⟩, 4), List.mem_of_getElem? (i := 6) rfl, rfl⟩)) rfl
theorem tp_7 : Cond.selects "PlotKernel" ⟨"PlotKernel", "lacksInk", "(LPlotKernel$Command;)Z"⟩ ⟨"PlotKernel", "lacksInk", "(LPlotKernel$Command;)Z"⟩ ∈ ALLW := twA (List.mem_append_left _ (List.mem_map.mpr ⟨(⟨"PlotKernel", "lacksInk", "(LPlotKernel$Command;)Z"⟩, 19), List.mem_of_getElem? (i := 7) rfl, rfl⟩)) rfl
theorem tp_8 : Cond.selects "PlotKernel$Command" ⟨"PlotKernel$Command", "draws", "()Z"⟩ ⟨"PlotKernel$Command", "draws", "()Z"⟩ ∈ ALLW := twA (List.mem_append_left _ (List.mem_map.mpr ⟨(⟨"PlotKernel$Command", "draws", "()Z"⟩, 4), List.mem_of_getElem? (i := 8) rfl, rfl⟩)) rfl
theorem tp_9 : Cond.selects "PlotKernel" ⟨"PlotKernel", "inkOf", "(I)I"⟩ ⟨"PlotKernel", "inkOf", "(I)I"⟩ ∈ ALLW := twA (List.mem_append_left _ (List.mem_map.mpr ⟨(⟨"PlotKernel", "inkOf", "(I)I"⟩, 19), List.mem_of_getElem? (i := 9) rfl, rfl⟩)) rfl
theorem tp_10 : Cond.selects "java/lang/Throwable" ⟨"java/lang/Throwable", "fillInStackTrace", "(I)Ljava/lang/Throwable;"⟩ ⟨"java/lang/Throwable", "fillInStackTrace", "(I)Ljava/lang/Throwable;"⟩ ∈ ALLW := twA (List.mem_append_left _ (List.mem_map.mpr ⟨(⟨"java/lang/Throwable", "fillInStackTrace", "(I)Ljava/lang/Throwable;"⟩, 6), List.mem_of_getElem? (i := 10) rfl, rfl⟩)) rfl
theorem tp_11 : Cond.selects "PlotKernel" ⟨"PlotKernel", "takeByte", "(I)V"⟩ ⟨"PlotKernel", "takeByte", "(I)V"⟩ ∈ ALLW := twA (List.mem_append_left _ (List.mem_map.mpr ⟨(⟨"PlotKernel", "takeByte", "(I)V"⟩, 19), List.mem_of_getElem? (i := 11) rfl, rfl⟩)) rfl
theorem tp_12 : Cond.selects "PlotKernel" ⟨"PlotKernel", "beginCommand", "(I)V"⟩ ⟨"PlotKernel", "beginCommand", "(I)V"⟩ ∈ ALLW := twA (List.mem_append_left _ (List.mem_map.mpr ⟨(⟨"PlotKernel", "beginCommand", "(I)V"⟩, 19), List.mem_of_getElem? (i := 12) rfl, rfl⟩)) rfl
theorem tp_13 : Cond.selects "PlotKernel" ⟨"PlotKernel", "endCommand", "(I)V"⟩ ⟨"PlotKernel", "endCommand", "(I)V"⟩ ∈ ALLW := twA (List.mem_append_left _ (List.mem_map.mpr ⟨(⟨"PlotKernel", "endCommand", "(I)V"⟩, 19), List.mem_of_getElem? (i := 13) rfl, rfl⟩)) rfl
theorem tp_14 : Cond.selects "PlotKernel" ⟨"PlotKernel", "repeatLatest", "(I)V"⟩ ⟨"PlotKernel", "repeatLatest", "(I)V"⟩ ∈ ALLW := twA (List.mem_append_left _ (List.mem_map.mpr ⟨(⟨"PlotKernel", "repeatLatest", "(I)V"⟩, 19), List.mem_of_getElem? (i := 14) rfl, rfl⟩)) rfl
theorem tp_15 : Cond.selects "PlotKernel" ⟨"PlotKernel", "queueIfRight", "(LPlotKernel$Command;)Z"⟩ ⟨"PlotKernel", "queueIfRight", "(LPlotKernel$Command;)Z"⟩ ∈ ALLW := twA (List.mem_append_left _ (List.mem_map.mpr ⟨(⟨"PlotKernel", "queueIfRight", "(LPlotKernel$Command;)Z"⟩, 19), List.mem_of_getElem? (i := 15) rfl, rfl⟩)) rfl
theorem tp_16 : Cond.selects "PlotKernel" ⟨"PlotKernel", "isRight", "(LPlotKernel$Command;)Z"⟩ ⟨"PlotKernel", "isRight", "(LPlotKernel$Command;)Z"⟩ ∈ ALLW := twA (List.mem_append_left _ (List.mem_map.mpr ⟨(⟨"PlotKernel", "isRight", "(LPlotKernel$Command;)Z"⟩, 19), List.mem_of_getElem? (i := 16) rfl, rfl⟩)) rfl
theorem tp_17 : Cond.selects "PlotKernel" ⟨"PlotKernel", "planLine", "(LPlotKernel$Command;)V"⟩ ⟨"PlotKernel", "planLine", "(LPlotKernel$Command;)V"⟩ ∈ ALLW := twA (List.mem_append_left _ (List.mem_map.mpr ⟨(⟨"PlotKernel", "planLine", "(LPlotKernel$Command;)V"⟩, 19), List.mem_of_getElem? (i := 17) rfl, rfl⟩)) rfl
theorem tp_18 : Cond.selects "PlotKernel$Paper" ⟨"PlotKernel$Paper", "putMark", "(II)V"⟩ ⟨"PlotKernel$Paper", "putMark", "(II)V"⟩ ∈ ALLW := twA (List.mem_append_left _ (List.mem_map.mpr ⟨(⟨"PlotKernel$Paper", "putMark", "(II)V"⟩, 2), List.mem_of_getElem? (i := 18) rfl, rfl⟩)) rfl
theorem tp_19 : Cond.selects "PlotKernel$Paper" ⟨"PlotKernel$Paper", "hasMark", "(II)Z"⟩ ⟨"PlotKernel$Paper", "hasMark", "(II)Z"⟩ ∈ ALLW := twA (List.mem_append_left _ (List.mem_map.mpr ⟨(⟨"PlotKernel$Paper", "hasMark", "(II)Z"⟩, 2), List.mem_of_getElem? (i := 19) rfl, rfl⟩)) rfl
theorem tp_20 : Cond.selects "java/util/ArrayList" ⟨"java/util/ArrayList", "add", "(Ljava/lang/Object;[Ljava/lang/Object;I)V"⟩ ⟨"java/util/ArrayList", "add", "(Ljava/lang/Object;[Ljava/lang/Object;I)V"⟩ ∈ ALLW := twA (List.mem_append_left _ (List.mem_map.mpr ⟨(⟨"java/util/ArrayList", "add", "(Ljava/lang/Object;[Ljava/lang/Object;I)V"⟩, 3), List.mem_of_getElem? (i := 20) rfl, rfl⟩)) rfl
theorem tp_21 : Cond.selects "java/util/ArrayList" ⟨"java/util/ArrayList", "grow", "()[Ljava/lang/Object;"⟩ ⟨"java/util/ArrayList", "grow", "()[Ljava/lang/Object;"⟩ ∈ ALLW := twA (List.mem_append_left _ (List.mem_map.mpr ⟨(⟨"java/util/ArrayList", "grow", "()[Ljava/lang/Object;"⟩, 3), List.mem_of_getElem? (i := 21) rfl, rfl⟩)) rfl
theorem tp_22 : Cond.selects "java/util/ArrayList" ⟨"java/util/ArrayList", "grow", "(I)[Ljava/lang/Object;"⟩ ⟨"java/util/ArrayList", "grow", "(I)[Ljava/lang/Object;"⟩ ∈ ALLW := twA (List.mem_append_left _ (List.mem_map.mpr ⟨(⟨"java/util/ArrayList", "grow", "(I)[Ljava/lang/Object;"⟩, 3), List.mem_of_getElem? (i := 22) rfl, rfl⟩)) rfl
theorem tp_23 : Cond.selects "PlotKernel" ⟨"PlotKernel", "queueMotion", "(LPlotKernel$Command;)V"⟩ ⟨"PlotKernel", "queueMotion", "(LPlotKernel$Command;)V"⟩ ∈ ALLW := twA (List.mem_append_left _ (List.mem_map.mpr ⟨(⟨"PlotKernel", "queueMotion", "(LPlotKernel$Command;)V"⟩, 19), List.mem_of_getElem? (i := 23) rfl, rfl⟩)) rfl
theorem tp_24 : Cond.selects "PlotKernel" ⟨"PlotKernel", "doTick", "()Z"⟩ ⟨"PlotKernel", "doTick", "()Z"⟩ ∈ ALLW := twA (List.mem_append_left _ (List.mem_map.mpr ⟨(⟨"PlotKernel", "doTick", "()Z"⟩, 19), List.mem_of_getElem? (i := 24) rfl, rfl⟩)) rfl
theorem tp_25 : Cond.selects "PlotKernel" ⟨"PlotKernel", "turnPen", "()V"⟩ ⟨"PlotKernel", "turnPen", "()V"⟩ ∈ ALLW := twA (List.mem_append_left _ (List.mem_map.mpr ⟨(⟨"PlotKernel", "turnPen", "()V"⟩, 19), List.mem_of_getElem? (i := 25) rfl, rfl⟩)) rfl
theorem tp_26 : Cond.selects "PlotKernel" ⟨"PlotKernel", "markHere", "()V"⟩ ⟨"PlotKernel", "markHere", "()V"⟩ ∈ ALLW := twA (List.mem_append_left _ (List.mem_map.mpr ⟨(⟨"PlotKernel", "markHere", "()V"⟩, 19), List.mem_of_getElem? (i := 26) rfl, rfl⟩)) rfl
theorem tp_27 : Cond.selects "PlotKernel" ⟨"PlotKernel", "changePen", "(LPlotKernel$Command;)V"⟩ ⟨"PlotKernel", "changePen", "(LPlotKernel$Command;)V"⟩ ∈ ALLW := twA (List.mem_append_left _ (List.mem_map.mpr ⟨(⟨"PlotKernel", "changePen", "(LPlotKernel$Command;)V"⟩, 19), List.mem_of_getElem? (i := 27) rfl, rfl⟩)) rfl
theorem tp_28 : Cond.selects "PlotKernel" ⟨"PlotKernel", "endFirstCommand", "(LPlotKernel$Command;)V"⟩ ⟨"PlotKernel", "endFirstCommand", "(LPlotKernel$Command;)V"⟩ ∈ ALLW := twA (List.mem_append_left _ (List.mem_map.mpr ⟨(⟨"PlotKernel", "endFirstCommand", "(LPlotKernel$Command;)V"⟩, 19), List.mem_of_getElem? (i := 28) rfl, rfl⟩)) rfl
theorem tp_29 : Cond.selects "java/util/ArrayList" ⟨"java/util/ArrayList", "fastRemove", "([Ljava/lang/Object;I)V"⟩ ⟨"java/util/ArrayList", "fastRemove", "([Ljava/lang/Object;I)V"⟩ ∈ ALLW := twA (List.mem_append_left _ (List.mem_map.mpr ⟨(⟨"java/util/ArrayList", "fastRemove", "([Ljava/lang/Object;I)V"⟩, 3), List.mem_of_getElem? (i := 29) rfl, rfl⟩)) rfl
theorem tp_30 : Cond.selects "PlotKernel" ⟨"PlotKernel", "doStep", "(LPlotKernel$Command;)V"⟩ ⟨"PlotKernel", "doStep", "(LPlotKernel$Command;)V"⟩ ∈ ALLW := twA (List.mem_append_left _ (List.mem_map.mpr ⟨(⟨"PlotKernel", "doStep", "(LPlotKernel$Command;)V"⟩, 19), List.mem_of_getElem? (i := 30) rfl, rfl⟩)) rfl
theorem tp_31 : Cond.selects "PlotKernel" ⟨"PlotKernel", "setInk", "(II)V"⟩ ⟨"PlotKernel", "setInk", "(II)V"⟩ ∈ ALLW := twA (List.mem_append_left _ (List.mem_map.mpr ⟨(⟨"PlotKernel", "setInk", "(II)V"⟩, 19), List.mem_of_getElem? (i := 31) rfl, rfl⟩)) rfl
theorem tp_32 : Cond.selects "PlotKernelModel" ⟨"PlotKernelModel", "goes", "(I)Z"⟩ ⟨"PlotKernelModel", "goes", "(I)Z"⟩ ∈ ALLW := twA (List.mem_append_left _ (List.mem_map.mpr ⟨(⟨"PlotKernelModel", "goes", "(I)Z"⟩, 27), List.mem_of_getElem? (i := 32) rfl, rfl⟩)) rfl
theorem tp_33 : Cond.selects "PlotKernelModel" ⟨"PlotKernelModel", "isWhole", "(I)V"⟩ ⟨"PlotKernelModel", "isWhole", "(I)V"⟩ ∈ ALLW := twA (List.mem_append_left _ (List.mem_map.mpr ⟨(⟨"PlotKernelModel", "isWhole", "(I)V"⟩, 27), List.mem_of_getElem? (i := 33) rfl, rfl⟩)) rfl
theorem tp_34 : Cond.selects "PlotKernelModel" ⟨"PlotKernelModel", "repeats", "(I)V"⟩ ⟨"PlotKernelModel", "repeats", "(I)V"⟩ ∈ ALLW := twA (List.mem_append_left _ (List.mem_map.mpr ⟨(⟨"PlotKernelModel", "repeats", "(I)V"⟩, 27), List.mem_of_getElem? (i := 34) rfl, rfl⟩)) rfl
theorem tp_35 : Cond.selects "PlotKernelModel" ⟨"PlotKernelModel", "queues", "(III)Z"⟩ ⟨"PlotKernelModel", "queues", "(III)Z"⟩ ∈ ALLW := twA (List.mem_append_left _ (List.mem_map.mpr ⟨(⟨"PlotKernelModel", "queues", "(III)Z"⟩, 27), List.mem_of_getElem? (i := 35) rfl, rfl⟩)) rfl
theorem tp_36 : Cond.selects "PlotKernelModel" ⟨"PlotKernelModel", "draws", "(II)V"⟩ ⟨"PlotKernelModel", "draws", "(II)V"⟩ ∈ ALLW := twA (List.mem_append_left _ (List.mem_map.mpr ⟨(⟨"PlotKernelModel", "draws", "(II)V"⟩, 27), List.mem_of_getElem? (i := 36) rfl, rfl⟩)) rfl
theorem tp_37 : Cond.selects "PlotKernelModel" ⟨"PlotKernelModel", "ticks", "()I"⟩ ⟨"PlotKernelModel", "ticks", "()I"⟩ ∈ ALLW := twA (List.mem_append_left _ (List.mem_map.mpr ⟨(⟨"PlotKernelModel", "ticks", "()I"⟩, 27), List.mem_of_getElem? (i := 37) rfl, rfl⟩)) rfl
theorem tp_38 : Cond.selects "PlotKernelModel" ⟨"PlotKernelModel", "lacksInk", "()Z"⟩ ⟨"PlotKernelModel", "lacksInk", "()Z"⟩ ∈ ALLW := twA (List.mem_append_left _ (List.mem_map.mpr ⟨(⟨"PlotKernelModel", "lacksInk", "()Z"⟩, 27), List.mem_of_getElem? (i := 38) rfl, rfl⟩)) rfl
theorem tp_39 : Cond.selects "PlotKernelModel" ⟨"PlotKernelModel", "lifts", "(Z)V"⟩ ⟨"PlotKernelModel", "lifts", "(Z)V"⟩ ∈ ALLW := twA (List.mem_append_left _ (List.mem_map.mpr ⟨(⟨"PlotKernelModel", "lifts", "(Z)V"⟩, 27), List.mem_of_getElem? (i := 39) rfl, rfl⟩)) rfl
theorem tp_40 : Cond.selects "PlotKernelModel" ⟨"PlotKernelModel", "marksCell", "()V"⟩ ⟨"PlotKernelModel", "marksCell", "()V"⟩ ∈ ALLW := twA (List.mem_append_left _ (List.mem_map.mpr ⟨(⟨"PlotKernelModel", "marksCell", "()V"⟩, 27), List.mem_of_getElem? (i := 40) rfl, rfl⟩)) rfl
theorem tp_41 : Cond.selects "PlotKernelModel" ⟨"PlotKernelModel", "changes", "()V"⟩ ⟨"PlotKernelModel", "changes", "()V"⟩ ∈ ALLW := twA (List.mem_append_left _ (List.mem_map.mpr ⟨(⟨"PlotKernelModel", "changes", "()V"⟩, 27), List.mem_of_getElem? (i := 41) rfl, rfl⟩)) rfl
theorem tp_42 : Cond.selects "PlotKernelModel" ⟨"PlotKernelModel", "isDone", "()V"⟩ ⟨"PlotKernelModel", "isDone", "()V"⟩ ∈ ALLW := twA (List.mem_append_left _ (List.mem_map.mpr ⟨(⟨"PlotKernelModel", "isDone", "()V"⟩, 27), List.mem_of_getElem? (i := 42) rfl, rfl⟩)) rfl
theorem tp_43 : Cond.selects "PlotKernelModel" ⟨"PlotKernelModel", "step", "()I"⟩ ⟨"PlotKernelModel", "step", "()I"⟩ ∈ ALLW := twA (List.mem_append_left _ (List.mem_map.mpr ⟨(⟨"PlotKernelModel", "step", "()I"⟩, 27), List.mem_of_getElem? (i := 43) rfl, rfl⟩)) rfl
theorem tp_44 : Cond.selects "PlotKernelModel" ⟨"PlotKernelModel", "goesTo", "(I)V"⟩ ⟨"PlotKernelModel", "goesTo", "(I)V"⟩ ∈ ALLW := twA (List.mem_append_left _ (List.mem_map.mpr ⟨(⟨"PlotKernelModel", "goesTo", "(I)V"⟩, 27), List.mem_of_getElem? (i := 44) rfl, rfl⟩)) rfl
end
section
abbrev EV : Type := (Nat → ClassId) × (Nat → Nat → Nat) × (Nat → ClassId) × (Nat → Nat)
abbrev eD (E : EV) : va_G := (E.1, E.2.1)
abbrev eC (E : EV) (k : Nat) : ClassId := E.2.2.1 k
abbrev eA (E : EV) (k : Nat) : Nat := E.2.2.2 k
abbrev eT (E : EV) : List (ClassId × FieldType) := [(eC E 0, .int), (eC E 1, .long), (eC E 2, .object "java/lang/Object")]
/-- words that the tables alone decide, but that a word list can't carry -/
def nwl : List Cond := [Cond.methodLinkNest "PlotKernel" 18 ⟨"PlotKernel$Paper", "<init>", "()V"⟩ "PlotKernel", Cond.fieldLinkNest "PlotKernel" 233 "PlotKernel$Paper" "markCount" "I" "PlotKernel", Cond.methodLinkNest "PlotKernel" 134 ⟨"PlotKernel$Command", "wayY", "(I)I"⟩ "PlotKernel", Cond.methodLinkNest "PlotKernel" 131 ⟨"PlotKernel$Command", "wayX", "(I)I"⟩ "PlotKernel", Cond.methodLinkNest "PlotKernel" 91 ⟨"PlotKernel$Command", "draws", "()Z"⟩ "PlotKernel", Cond.methodLinkNest "PlotKernel" 124 ⟨"PlotKernel$Command", "steps", "()I"⟩ "PlotKernel", Cond.methodLinkNest "PlotKernel" 137 ⟨"PlotKernel$Paper", "putMark", "(II)V"⟩ "PlotKernel", Cond.methodLinkNest "PlotKernel$Paper" 31 ⟨"PlotKernel", "hasCell", "(II)Z"⟩ "PlotKernel", Cond.methodLinkNest "PlotKernel" 69 ⟨"PlotKernel$Command", "<init>", "(IIII)V"⟩ "PlotKernel", Cond.fieldLinkNest "PlotKernel" 114 "PlotKernel$Command" "kind" "I" "PlotKernel", Cond.fieldLinkNest "PlotKernel" 105 "PlotKernel$Command" "dx" "I" "PlotKernel", Cond.fieldLinkNest "PlotKernel" 111 "PlotKernel$Command" "dy" "I" "PlotKernel", Cond.fieldLinkNest "PlotKernel" 117 "PlotKernel$Command" "pen" "I" "PlotKernel", Cond.methodLinkNest "PlotKernel" 230 ⟨"PlotKernel$Paper", "hasMark", "(II)Z"⟩ "PlotKernel", Cond.castable "PlotKernel$Command" "java/lang/Object"]
def NW (U : State) : Prop := ∀ w ∈ nwl, va_Nw w U
theorem NW.warm {s U : State} (hW : s.WarmedH U.vm) (h : NW s) : NW U := by
  intro w hw
  have h1 := h w hw
  simp only [nwl, List.mem_cons, List.not_mem_nil, or_false] at hw
  rcases hw with rfl | rfl | rfl | rfl | rfl | rfl | rfl | rfl | rfl | rfl | rfl | rfl | rfl | rfl | rfl <;> first | exact va_Nw.warmF hW h1 | exact va_Nw.warmM hW h1 | exact va_Nw.warmC hW h1
theorem nwl_ot : ∀ w ∈ nwl, w.onTables = true := by
  intro w hw
  simp only [nwl, List.mem_cons, List.not_mem_nil, or_false] at hw
  rcases hw with rfl | rfl | rfl | rfl | rfl | rfl | rfl | rfl | rfl | rfl | rfl | rfl | rfl | rfl | rfl <;> rfl
theorem NW.same {u U : State} (h : u.vm = U.vm) (hN : NW u) : NW U := fun w hw => va_Nw.same (nwl_ot w hw) h (hN w hw)
def SR (E : EV) (U : State) : Prop := vk_R RX2 32 "a byte is 0 to 255" (eA E 2) U ∧ vk_R RX2 141 "ticks are 1 to 1000" (eA E 3) U ∧ vk_R RX2 164 "a pen is 0 to 2" (eA E 4) U ∧ vk_R RX2 173 "an amount is 1 to 500" (eA E 5) U ∧ vk_R RX2 228 "a cell has x and y from 0 to 99" (eA E 6) U
def KE (E : EV) (U : State) : Prop := va_K (eD E) vwCl (eT E) U ∧ NW U ∧ va_AO "java/lang/Object" U ∧ va_Mi "[Ljava/lang/Object;" (eA E 1) U ∧ va_Dc U ∧ SR E U
theorem SR.warm {E : EV} {s U : State} (hW : s.WarmedH U.vm) (h : SR E s) : SR E U := by
  obtain ⟨h0, h1, h2, h3, h4⟩ := h
  exact ⟨h0.warm hW, h1.warm hW, h2.warm hW, h3.warm hW, h4.warm hW⟩
theorem SR.same {E : EV} {u U : State} (hv : U.vm = u.vm) (h : SR E u) : SR E U := by
  obtain ⟨h0, h1, h2, h3, h4⟩ := h
  exact ⟨h0.same hv, h1.same hv, h2.same hv, h3.same hv, h4.same hv⟩
theorem KE.warm {E : EV} {s U : State} (h : KE E s) (hW : s.WarmedH U.vm) : KE E U :=
  ⟨va_K.moved hW.alike h.1, NW.warm hW h.2.1, va_AO.moved hW.alike h.2.2.1, va_Mi.moved hW.alike h.2.2.2.1, va_Dc.moved hW.alike h.2.2.2.2.1, SR.warm hW h.2.2.2.2.2⟩
theorem KE.call {E : EV} {U : State} {g : JFrame} {mk : MethodId} {a : Array Value} (h : KE E U) : KE E (U.calling g mk a) :=
  ⟨va_K.moved (u := U) (U := U.calling g mk a) (Vm.Alike.refl U.vm) h.1, NW.same (u := U) (U := U.calling g mk a) rfl h.2.1, va_AO.moved (u := U) (U := U.calling g mk a) (Vm.Alike.refl U.vm) h.2.2.1, va_Mi.moved (u := U) (U := U.calling g mk a) (Vm.Alike.refl U.vm) h.2.2.2.1, va_Dc.moved (u := U) (U := U.calling g mk a) (Vm.Alike.refl U.vm) h.2.2.2.2.1, SR.same (u := U) (U := U.calling g mk a) rfl h.2.2.2.2.2⟩
/-- the statics that are read: where they lie, apart from what may be written -/
def ZE (E : EV) (A : Nat → Prop) (U : State) (H : Heap) : Prop := va_Z "java/util/ArrayList" "DEFAULTCAPACITY_EMPTY_ELEMENTDATA" "[Ljava/lang/Object;" (.ref (eA E 0)) A U H ∧ va_T (.object "java/lang/Object") (eA E 0) 0 (fun _ => .null) A U H ∧ vx_Zq Bundle.tN "UNASSIGNED_STACK" Bundle.steD A U H ∧ vx_Zq Bundle.tN "SUPPRESSED_SENTINEL" Bundle.listD A U H
theorem ZE.to {E : EV} {A B : Nat → Prop} {s U : State} {H : Heap} {locs : List Loc} (h : ZE E A s s.heap) (hS : va_S A s.heap H locs) (hAB : ∀ q, B q → A q) (hU : U.heap = H) (hW : s.WarmedH U.vm) : ZE E B U U.heap := by
  rw [hU]
  exact ⟨((h.1.kept hS.2.1).narrow hAB).moved hW.alike, ((h.2.1.kept hS.2.1).narrow hAB).moved hW.alike, ((h.2.2.1.kept hS.2.1).narrow hAB).moved hW.alike, ((h.2.2.2.kept hS.2.1).narrow hAB).moved hW.alike⟩
theorem ZE.call {E : EV} {A : Nat → Prop} {U : State} {H : Heap} {g : JFrame} {mk : MethodId} {a : Array Value} (h : ZE E A U H) : ZE E A (U.calling g mk a) H :=
  ⟨va_Z.moved (u := U) (U := U.calling g mk a) (Vm.Alike.refl U.vm) h.1, va_T.moved (u := U) (U := U.calling g mk a) (Vm.Alike.refl U.vm) h.2.1, vx_Zq.moved (u := U) (U := U.calling g mk a) (Vm.Alike.refl U.vm) h.2.2.1, vx_Zq.moved (u := U) (U := U.calling g mk a) (Vm.Alike.refl U.vm) h.2.2.2⟩
/-- what a method that only reads finds -/
def preR (E : EV) (ws : va_W) : State → Prop := fun U => va_P (eD E) vwCl ws U.heap ∧ KE E U
theorem fbR {E : EV} {ws : va_W} {av : List Value} : FrameBlind (va_Pc av (preR E ws)) := fun _ _ _ _ q => ⟨q.1, q.2.1, q.2.2.call⟩
theorem preR.mk {E : EV} {ws : va_W} {s U : State} {H : Heap} (hP : va_P (eD E) vwCl ws H) (hK : KE E s) (hU : U.heap = H) (hW : s.WarmedH U.vm) : preR E ws U := ⟨by rw [hU]; exact hP, hK.warm hW⟩
/-- what a method that writes finds -/
def preM (E : EV) (ws : va_W) (sz : Nat) : State → Prop := fun U => U.heap.size = sz ∧ va_P (eD E) vwCl ws U.heap ∧ KE E U ∧ va_D (fun _ => True) ws ∧ ZE E (va_A ws sz) U U.heap
theorem fbM {E : EV} {ws : va_W} {sz : Nat} {av : List Value} : FrameBlind (va_Pc av (preM E ws sz)) := fun _ _ _ _ q => ⟨q.1, q.2.1, q.2.2.1, q.2.2.2.1.call, q.2.2.2.2.1, q.2.2.2.2.2.call⟩
theorem preM.mk {E : EV} {A : Nat → Prop} {ws wc : va_W} {s U : State} {H : Heap} {locs : List Loc} (hPc : va_P (eD E) vwCl wc H) (hK : KE E s) (hDc : va_D A wc) (hZ : ZE E A s s.heap) (hS : va_S A s.heap H locs) (hF : ∀ q, va_A wc H.size q → A q) (hU : U.heap = H) (hW : s.WarmedH U.vm) : preM E wc H.size U :=
  ⟨by rw [hU], by rw [hU]; exact hPc, hK.warm hW, hDc.weaken (fun _ _ _ _ => trivial), hZ.to hS hF hU hW⟩
theorem frS {A : Nat → Prop} {ws : va_W} {H0 H : Heap} {locs : List Loc} (hD : va_D A ws) (hS : va_S A H0 H locs) (hA : ∀ q, H0.size ≤ q → A q) : ∀ q, va_A ws H.size q → A q := by
  intro q h
  rcases h with ⟨k, e, h⟩ | h
  · exact hD.2 k (q, e) h
  · exact hA q (Nat.le_trans hS.1 h)
/-- cells of a part, by their places -/
theorem frP {A : Nat → Prop} {ws wc : va_W} {H0 H : Heap} {locs : List Loc} (hD : va_D A ws) (hS : va_S A H0 H locs) (hA : ∀ q, H0.size ≤ q → A q) (hc : ∀ (k : Nat) (q : Nat × va_E), wc[k]? = some q → ∃ i : Nat, ws[i]? = some q) : ∀ q, va_A wc H.size q → A q := by
  intro q h
  rcases h with ⟨k, e, h⟩ | h
  · obtain ⟨i, hi⟩ := hc k _ h
    exact hD.2 i (q, e) hi
  · exact hA q (Nat.le_trans hS.1 h)
theorem va_D.adr {A : Nat → Prop} {w1 w2 : va_W} (h : va_D A w1) (he : w1.map Prod.fst = w2.map Prod.fst) : va_D A w2 := by
  have key : ∀ (k : Nat) (q : Nat × va_E), w2[k]? = some q → ∃ q1 : Nat × va_E, w1[k]? = some q1 ∧ q1.1 = q.1 := by
    intro k q hk
    have h2 : (w2.map Prod.fst)[k]? = some q.1 := by rw [List.getElem?_map, hk]; rfl
    rw [← he, List.getElem?_map] at h2
    cases h3 : w1[k]? with
    | none => rw [h3] at h2; cases h2
    | some q1 => rw [h3] at h2; exact ⟨q1, rfl, Option.some.inj h2⟩
  refine ⟨fun i j p q hi hj hpq => ?_, fun k q hk => ?_⟩
  · obtain ⟨p1, h1, h2⟩ := key i p hi
    obtain ⟨q1, h3, h4⟩ := key j q hj
    exact h.1 i j p1 q1 h1 h3 (by rw [h2, h4]; exact hpq)
  · obtain ⟨q1, h1, h2⟩ := key k q hk
    rw [← h2]; exact h.2 k q1 h1
/-- behind a call that had some cells: those anew, the others as they were -/
theorem jn {A : Nat → Prop} {D : va_G} {cl : List vw_C} {ws wc w1 ws1 : va_W} {H H1 : Heap} (hP : va_P D cl ws H) (hD : va_D A ws) (hk : ∀ q : Nat, q < H.size → ¬ va_A wc H.size q → H1[q]? = H[q]?) (hP1 : va_P D cl w1 H1) (he : ws.map Prod.fst = ws1.map Prod.fst)
    (hc : ∀ (k : Nat) (q : Nat × va_E), ws1[k]? = some q → (∃ j : Nat, w1[j]? = some q) ∨ (ws[k]? = some q ∧ ∀ (j : Nat) (e : va_E), wc[j]? = some (q.1, e) → False)) : va_P D cl ws1 H1 ∧ va_D A ws1 := by
  refine ⟨fun k q hq => ?_, hD.adr he⟩
  rcases hc k q hq with ⟨j, h⟩ | ⟨h, hn⟩
  · exact hP1 j q h
  · have hl := (hP k q h).lt
    refine (hP k q h).kept (hk q.1 hl ?_)
    rintro (⟨j, e, hj⟩ | hj)
    · exact hn j e hj
    · omega
theorem goodAll {c : Cond} (h : c ∈ ALLW) : GoodIn ALLW (c :: ALLW) := by
  intro w hw
  rcases List.mem_cons.mp hw with rfl | hw
  · exact ⟨h, good_of_word (List.mem_filter.mp h).2⟩
  · exact ⟨hw, good_of_word (List.mem_filter.mp hw).2⟩
section CW
variable {R : Room} {s : State} {args : Array Value} {own C : String} {index maxL mc ms n : Nat} {y : MethodName} {bytes : ByteArray} {ret : Option FieldType} {rm : Room}
abbrev hdP (y : MethodName) (n : Nat) : Prop := y.cls ≠ "java/lang/invoke/MethodHandle" ∧ y.cls ≠ "java/lang/invoke/VarHandle" ∧ (parseMethodDescriptor y.desc).map (fun d => d.parameters.length) = some n
theorem pcB (hta : ∀ w ∈ ALLW, w.before args s = true) (hcode : Cond.code y bytes maxL ret ∈ ALLW) (hlink : Cond.methodLink own index y ∈ ALLW) (hini : Cond.initialized y.cls ∈ ALLW) (hrc : rm.cells = mc) (hrs : rm.slots = ms) (hd : hdP y n) (hR : rm.frames + 1 ≤ R.frames ∧ 8 + (maxL + 11) + rm.locals ≤ R.locals) : CallB R s args own index y bytes maxL ret (Cond.code y bytes maxL ret :: ALLW) rm mc ms n := callB_of n hta (goodAll hcode) rfl hrc hrs (hta _ hini) (hta _ hlink) hd hR
theorem pcV (hta : ∀ w ∈ ALLW, w.before args s = true) (hcode : Cond.code y bytes maxL ret ∈ ALLW) (hlink : Cond.methodLink own index y ∈ ALLW) (hini : Cond.initialized y.cls ∈ ALLW) (hinst : Cond.instanceMethod y ∈ ALLW) (hsel : Cond.selects C y y ∈ ALLW) (hrc : rm.cells = mc) (hrs : rm.slots = ms) (hd : hdP y n) (hR : rm.frames + 1 ≤ R.frames ∧ 8 + (maxL + 11) + rm.locals ≤ R.locals) : CallW R s args own C index y bytes maxL ret (Cond.code y bytes maxL ret :: ALLW) rm mc ms n := ⟨pcB hta hcode hlink hini hrc hrs hd hR, hta _ hinst, hta _ hsel⟩
theorem pcS (hta : ∀ w ∈ ALLW, w.before args s = true) (hcode : Cond.code y bytes maxL ret ∈ ALLW) (hlink : Cond.methodLink own index y ∈ ALLW) (hini : Cond.initialized y.cls ∈ ALLW) (hstat : Cond.static y ∈ ALLW) (hrc : rm.cells = mc) (hrs : rm.slots = ms) (hd : hdP y n) (hR : rm.frames + 1 ≤ R.frames ∧ 8 + (maxL + 11) + rm.locals ≤ R.locals) : CallB R s args own index y bytes maxL ret (Cond.code y bytes maxL ret :: ALLW) rm mc ms n ∧ (Cond.static y).before args s = true := ⟨pcB hta hcode hlink hini hrc hrs hd hR, hta _ hstat⟩
theorem pcI (hta : ∀ w ∈ ALLW, w.before args s = true) (hcode : Cond.code y bytes maxL none ∈ ALLW) (hlink : Cond.methodLink own index y ∈ ALLW) (hini : Cond.initialized y.cls ∈ ALLW) (hinst : Cond.instanceMethod y ∈ ALLW) (hnm : y.name = "<init>") (hrc : rm.cells = mc) (hrs : rm.slots = ms) (hd : hdP y n) (hR : rm.frames + 1 ≤ R.frames ∧ 8 + (maxL + 11) + rm.locals ≤ R.locals) : CallB R s args own index y bytes maxL none (Cond.code y bytes maxL none :: ALLW) rm mc ms n ∧ y.name = "<init>" ∧ (Cond.instanceMethod y).before args s = true := ⟨pcB hta hcode hlink hini hrc hrs hd hR, hnm, hta _ hinst⟩
theorem pcN {host : String} (hta : ∀ w ∈ ALLW, w.before args s = true) (hcode : Cond.code y bytes maxL ret ∈ ALLW) (hl : va_Nw (.methodLinkNest own index y host) s) (hini : Cond.initialized y.cls ∈ ALLW) (hrc : rm.cells = mc) (hrs : rm.slots = ms) (hd : hdP y n) (hR : rm.frames + 1 ≤ R.frames ∧ 8 + (maxL + 11) + rm.locals ≤ R.locals) : va_CN R s args own index y host bytes maxL ret (Cond.code y bytes maxL ret :: ALLW) rm mc ms n := va_cnB n hta (goodAll hcode) rfl hrc hrs hl (hta _ hini) hd hR
theorem pcVN {host : String} (hta : ∀ w ∈ ALLW, w.before args s = true) (hcode : Cond.code y bytes maxL ret ∈ ALLW) (hl : va_Nw (.methodLinkNest own index y host) s) (hini : Cond.initialized y.cls ∈ ALLW) (hinst : Cond.instanceMethod y ∈ ALLW) (hsel : Cond.selects C y y ∈ ALLW) (hrc : rm.cells = mc) (hrs : rm.slots = ms) (hd : hdP y n) (hR : rm.frames + 1 ≤ R.frames ∧ 8 + (maxL + 11) + rm.locals ≤ R.locals) : va_CN R s args own index y host bytes maxL ret (Cond.code y bytes maxL ret :: ALLW) rm mc ms n ∧ (Cond.instanceMethod y).before args s = true ∧ (Cond.selects C y y).before args s = true := ⟨pcN hta hcode hl hini hrc hrs hd hR, hta _ hinst, hta _ hsel⟩
theorem pcSN {host : String} (hta : ∀ w ∈ ALLW, w.before args s = true) (hcode : Cond.code y bytes maxL ret ∈ ALLW) (hl : va_Nw (.methodLinkNest own index y host) s) (hini : Cond.initialized y.cls ∈ ALLW) (hstat : Cond.static y ∈ ALLW) (hrc : rm.cells = mc) (hrs : rm.slots = ms) (hd : hdP y n) (hR : rm.frames + 1 ≤ R.frames ∧ 8 + (maxL + 11) + rm.locals ≤ R.locals) : va_CN R s args own index y host bytes maxL ret (Cond.code y bytes maxL ret :: ALLW) rm mc ms n ∧ (Cond.static y).before args s = true ∧ True := ⟨pcN hta hcode hl hini hrc hrs hd hR, hta _ hstat, trivial⟩
theorem pcIN {host : String} (hta : ∀ w ∈ ALLW, w.before args s = true) (hcode : Cond.code y bytes maxL none ∈ ALLW) (hl : va_Nw (.methodLinkNest own index y host) s) (hini : Cond.initialized y.cls ∈ ALLW) (hinst : Cond.instanceMethod y ∈ ALLW) (hnm : y.name = "<init>") (hrc : rm.cells = mc) (hrs : rm.slots = ms) (hd : hdP y n) (hR : rm.frames + 1 ≤ R.frames ∧ 8 + (maxL + 11) + rm.locals ≤ R.locals) : va_CN R s args own index y host bytes maxL none (Cond.code y bytes maxL none :: ALLW) rm mc ms n ∧ y.name = "<init>" ∧ (Cond.instanceMethod y).before args s = true := ⟨pcN hta hcode hl hini hrc hrs hd hR, hnm, hta _ hinst⟩
end CW
theorem lay_AL : ∀ w ∈ u_ws RJx4a65c TJx4a65c 3, w ∈ ALLW := List.forall_mem_cons.mpr ⟨tw_50, List.forall_mem_cons.mpr ⟨tw_46, List.forall_mem_cons.mpr ⟨tw_48, fun _ h => absurd h List.not_mem_nil⟩⟩⟩
theorem lay_X0 : ∀ w ∈ u_ws RX0 TX0 4, w ∈ ALLW := List.forall_mem_cons.mpr ⟨tw_438, List.forall_mem_cons.mpr ⟨tw_440, List.forall_mem_cons.mpr ⟨tw_442, List.forall_mem_cons.mpr ⟨tw_444, fun _ h => absurd h List.not_mem_nil⟩⟩⟩⟩
theorem lay_X1 : ∀ w ∈ u_ws RX1 TX1 2, w ∈ ALLW := List.forall_mem_cons.mpr ⟨tw_62, List.forall_mem_cons.mpr ⟨tw_64, fun _ h => absurd h List.not_mem_nil⟩⟩
theorem lay_X2 : ∀ w ∈ u_ws RX2 TX2 19, w ∈ ALLW := List.forall_mem_cons.mpr ⟨tw_87, List.forall_mem_cons.mpr ⟨tw_89, List.forall_mem_cons.mpr ⟨tw_91, List.forall_mem_cons.mpr ⟨tw_93, List.forall_mem_cons.mpr ⟨tw_95, List.forall_mem_cons.mpr ⟨tw_97, List.forall_mem_cons.mpr ⟨tw_99, List.forall_mem_cons.mpr ⟨tw_101, List.forall_mem_cons.mpr ⟨tw_103, List.forall_mem_cons.mpr ⟨tw_105, List.forall_mem_cons.mpr ⟨tw_107, List.forall_mem_cons.mpr ⟨tw_109, List.forall_mem_cons.mpr ⟨tw_111, List.forall_mem_cons.mpr ⟨tw_113, List.forall_mem_cons.mpr ⟨tw_115, List.forall_mem_cons.mpr ⟨tw_117, List.forall_mem_cons.mpr ⟨tw_119, List.forall_mem_cons.mpr ⟨tw_121, List.forall_mem_cons.mpr ⟨tw_123, fun _ h => absurd h List.not_mem_nil⟩⟩⟩⟩⟩⟩⟩⟩⟩⟩⟩⟩⟩⟩⟩⟩⟩⟩⟩
theorem lay_X3 : ∀ w ∈ u_ws RX3 TX3 27, w ∈ ALLW := List.forall_mem_cons.mpr ⟨tw_581, List.forall_mem_cons.mpr ⟨tw_583, List.forall_mem_cons.mpr ⟨tw_585, List.forall_mem_cons.mpr ⟨tw_587, List.forall_mem_cons.mpr ⟨tw_589, List.forall_mem_cons.mpr ⟨tw_591, List.forall_mem_cons.mpr ⟨tw_593, List.forall_mem_cons.mpr ⟨tw_595, List.forall_mem_cons.mpr ⟨tw_597, List.forall_mem_cons.mpr ⟨tw_599, List.forall_mem_cons.mpr ⟨tw_601, List.forall_mem_cons.mpr ⟨tw_603, List.forall_mem_cons.mpr ⟨tw_605, List.forall_mem_cons.mpr ⟨tw_607, List.forall_mem_cons.mpr ⟨tw_609, List.forall_mem_cons.mpr ⟨tw_611, List.forall_mem_cons.mpr ⟨tw_613, List.forall_mem_cons.mpr ⟨tw_615, List.forall_mem_cons.mpr ⟨tw_617, List.forall_mem_cons.mpr ⟨tw_619, List.forall_mem_cons.mpr ⟨tw_621, List.forall_mem_cons.mpr ⟨tw_623, List.forall_mem_cons.mpr ⟨tw_625, List.forall_mem_cons.mpr ⟨tw_627, List.forall_mem_cons.mpr ⟨tw_629, List.forall_mem_cons.mpr ⟨tw_631, List.forall_mem_cons.mpr ⟨tw_633, fun _ h => absurd h List.not_mem_nil⟩⟩⟩⟩⟩⟩⟩⟩⟩⟩⟩⟩⟩⟩⟩⟩⟩⟩⟩⟩⟩⟩⟩⟩⟩⟩⟩
end
section
theorem va_P_nil {D : va_G} {cl : List vw_C} {H : Heap} : va_P D cl [] H := fun k q h => by simp at h
theorem va_D_nil {A : Nat → Prop} : va_D A [] := ⟨fun i j p q h => by simp at h, fun k q h => by simp at h⟩
theorem va_one {D : va_G} {cl : List vw_C} {ws : va_W} {H : Heap} (hP : va_P D cl ws H) {i : Nat} {q : Nat × va_E} (h : ws[i]? = some q) : va_P D cl [q] H := by
  intro k x hx
  rcases k with _ | k
  · cases hx; exact hP i q h
  · cases hx
/-- behind a call that had the cells at the places 'is': those anew, the others as they were -/
theorem jnI {A : Nat → Prop} {D : va_G} {cl : List vw_C} {ws wc w1 ws1 : va_W} {H H1 : Heap} (hP : va_P D cl ws H) (hD : va_D A ws) (is : List Nat) (hC : is.map (fun i => ws[i]?) = wc.map some) (hk : ∀ q : Nat, q < H.size → ¬ va_A wc H.size q → H1[q]? = H[q]?) (hP1 : va_P D cl w1 H1) (he : ws.map Prod.fst = ws1.map Prod.fst)
    (h1 : ∀ k : Nat, k ∉ is → ws1[k]? = ws[k]?) (h2 : ∀ j i : Nat, is[j]? = some i → ws1[i]? = w1[j]?) : va_P D cl ws1 H1 ∧ va_D A ws1 := by
  refine jn hP hD hk hP1 he fun k q hq => ?_
  by_cases hm : k ∈ is
  · obtain ⟨j, hj⟩ := List.getElem?_of_mem hm
    exact Or.inl ⟨j, by rw [← h2 j k hj]; exact hq⟩
  · have hw : ws[k]? = some q := by rw [← h1 k hm]; exact hq
    refine Or.inr ⟨hw, fun j e hj => ?_⟩
    have h3 : (is.map (fun i => ws[i]?))[j]? = some (some (q.1, e)) := by rw [hC, List.getElem?_map, hj]; rfl
    rw [List.getElem?_map] at h3
    cases hi : is[j]? with
    | none => rw [hi] at h3; cases h3
    | some i =>
      rw [hi] at h3
      have hij : i = k := hD.1 i k (q.1, e) q (Option.some.inj h3) hw rfl
      exact hm (hij ▸ List.mem_of_getElem? hi)
end
section
abbrev wC (ca : Nat) (ck : Int32) (cx : Int32) (cy : Int32) (cp : Int32) : va_W := [(ca, .inr (1, [.int ck, .int cx, .int cy, .int cp]))]
abbrev wP (E : EV) (pa : Nat) (pb : Nat) (pw : Nat → Int64) (pk : Int32) : va_W := [(pa, .inr (2, [.ref pb, .int pk])), (pb, .inl (eC E 1, 157, .inr (.inl pw)))]
abbrev wL (la : Nat) (mo : Int32) (ad : Nat) (ln : Int32) (PL : List Nat) (pf : Nat → va_E) : va_W := ([(la, .inr (0, [.int mo, .ref ad, .int ln]))] ++ va_pl PL pf)
abbrev wX (E : EV) (ax : Nat → Nat) (gx : Nat → Int32) (lt : Option Nat) (mo : Int32) (ad : Nat) (ln : Int32) (PL : List Nat) (pf : Nat → va_E) (pw : Nat → Int64) (pk : Int32) (lw : Nat → Int64) (lk : Int32) (ik : Nat → Int32) : va_W := ([((ax 0), .inr (3, [.ref (ax 1), .ref (ax 2), .ref (ax 4), .ref (ax 6), .int (gx 4), .int (gx 5), .int (gx 6), .int (gx 7), va_rf lt, .int (gx 9), .int (gx 10), .int (gx 11), .int (gx 12), .int (gx 13), .int (gx 14), .int (gx 15), .int (gx 16), .int (gx 17), .int (gx 18)])), ((ax 1), .inr (0, [.int mo, .ref ad, .int ln])), ((ax 2), .inr (2, [.ref (ax 3), .int pk])), ((ax 3), .inl (eC E 1, 157, .inr (.inl pw))), ((ax 4), .inr (2, [.ref (ax 5), .int lk])), ((ax 5), .inl (eC E 1, 157, .inr (.inl lw))), ((ax 6), .inl (eC E 0, 3, .inl ik))] ++ va_pl PL pf)
abbrev wM (E : EV) (am : Nat → Nat) (gm : Nat → Int32) (ks : Nat → Int32) (os : Nat → Int32) (ts : Nat → Int32) (iq : Nat → Int32) (mk : Nat → Int32) (me : Nat → Int32) : va_W := [((am 0), .inr (4, [.int (gm 0), .int (gm 1), .int (gm 2), .int (gm 3), .int (gm 4), .ref (am 1), .ref (am 2), .ref (am 3), .int (gm 8), .int (gm 9), .int (gm 10), .int (gm 11), .int (gm 12), .int (gm 13), .int (gm 14), .int (gm 15), .int (gm 16), .int (gm 17), .int (gm 18), .int (gm 19), .int (gm 20), .ref (am 4), .int (gm 22), .int (gm 23), .ref (am 5), .ref (am 6), .int (gm 26)])), ((am 1), .inl (eC E 0, 32, .inl ks)), ((am 2), .inl (eC E 0, 32, .inl os)), ((am 3), .inl (eC E 0, 32, .inl ts)), ((am 4), .inl (eC E 0, 3, .inl iq)), ((am 5), .inl (eC E 0, 320, .inl mk)), ((am 6), .inl (eC E 0, 320, .inl me))]
theorem hd_X0_init : hdP yX0_init 4 := by decide +kernel
theorem hd_X0_draws : hdP yX0_draws 0 := by decide +kernel
theorem hd_X0_steps : hdP yX0_steps 0 := by decide +kernel
theorem hd_X0_wayX : hdP yX0_wayX 1 := by decide +kernel
theorem hd_X0_wayY : hdP yX0_wayY 1 := by decide +kernel
theorem hd_X0_way : hdP yX0_way 2 := by decide +kernel
theorem hd_X1_init : hdP yX1_init 0 := by decide +kernel
theorem hd_X1_hasMark : hdP yX1_hasMark 2 := by decide +kernel
theorem hd_X1_putMark : hdP yX1_putMark 2 := by decide +kernel
theorem hd_X1_wordOf : hdP yX1_wordOf 2 := by decide +kernel
theorem hd_X1_bitOf : hdP yX1_bitOf 2 := by decide +kernel
theorem hd_X2_init : hdP yX2_init 0 := by decide +kernel
theorem hd_X2_feed : hdP yX2_feed 1 := by decide +kernel
theorem hd_X2_errors : hdP yX2_errors 0 := by decide +kernel
theorem hd_X2_queued : hdP yX2_queued 0 := by decide +kernel
theorem hd_X2_pending : hdP yX2_pending 0 := by decide +kernel
theorem hd_X2_takeByte : hdP yX2_takeByte 1 := by decide +kernel
theorem hd_X2_beginCommand : hdP yX2_beginCommand 1 := by decide +kernel
theorem hd_X2_endCommand : hdP yX2_endCommand 1 := by decide +kernel
theorem hd_X2_signed : hdP yX2_signed 1 := by decide +kernel
theorem hd_X2_queueMotion : hdP yX2_queueMotion 1 := by decide +kernel
theorem hd_X2_repeatLatest : hdP yX2_repeatLatest 1 := by decide +kernel
theorem hd_X2_queueIfRight : hdP yX2_queueIfRight 1 := by decide +kernel
theorem hd_X2_isRight : hdP yX2_isRight 1 := by decide +kernel
theorem hd_X2_planLine : hdP yX2_planLine 1 := by decide +kernel
theorem hd_X2_tick : hdP yX2_tick 1 := by decide +kernel
theorem hd_X2_cut : hdP yX2_cut 0 := by decide +kernel
theorem hd_X2_refill : hdP yX2_refill 1 := by decide +kernel
theorem hd_X2_pour : hdP yX2_pour 2 := by decide +kernel
theorem hd_X2_doTick : hdP yX2_doTick 0 := by decide +kernel
theorem hd_X2_turnPen : hdP yX2_turnPen 0 := by decide +kernel
theorem hd_X2_changePen : hdP yX2_changePen 1 := by decide +kernel
theorem hd_X2_doStep : hdP yX2_doStep 1 := by decide +kernel
theorem hd_X2_endFirstCommand : hdP yX2_endFirstCommand 1 := by decide +kernel
theorem hd_X2_markHere : hdP yX2_markHere 0 := by decide +kernel
theorem hd_X2_at : hdP yX2_at 0 := by decide +kernel
theorem hd_X2_isDown : hdP yX2_isDown 0 := by decide +kernel
theorem hd_X2_pen : hdP yX2_pen 0 := by decide +kernel
theorem hd_X2_ink : hdP yX2_ink 1 := by decide +kernel
theorem hd_X2_isWaiting : hdP yX2_isWaiting 0 := by decide +kernel
theorem hd_X2_timeLeft : hdP yX2_timeLeft 0 := by decide +kernel
theorem hd_X2_stepsUp : hdP yX2_stepsUp 0 := by decide +kernel
theorem hd_X2_stepsDown : hdP yX2_stepsDown 0 := by decide +kernel
theorem hd_X2_firstCommand : hdP yX2_firstCommand 0 := by decide +kernel
theorem hd_X2_carriageX : hdP yX2_carriageX 0 := by decide +kernel
theorem hd_X2_carriageY : hdP yX2_carriageY 0 := by decide +kernel
theorem hd_X2_lacksInk : hdP yX2_lacksInk 1 := by decide +kernel
theorem hd_X2_hasPen : hdP yX2_hasPen 1 := by decide +kernel
theorem hd_X2_inkOf : hdP yX2_inkOf 1 := by decide +kernel
theorem hd_X2_setInk : hdP yX2_setInk 2 := by decide +kernel
theorem hd_X2_isMarked : hdP yX2_isMarked 2 := by decide +kernel
theorem hd_X2_marks : hdP yX2_marks 0 := by decide +kernel
theorem hd_X2_marksInTheEnd : hdP yX2_marksInTheEnd 0 := by decide +kernel
theorem hd_X2_hasCell : hdP yX2_hasCell 2 := by decide +kernel
theorem hd_X3_init : hdP yX3_init 0 := by decide +kernel
theorem hd_X3_thrown : hdP yX3_thrown 0 := by decide +kernel
theorem hd_X3_goes : hdP yX3_goes 1 := by decide +kernel
theorem hd_X3_isIn : hdP yX3_isIn 3 := by decide +kernel
theorem hd_X3_isCell : hdP yX3_isCell 2 := by decide +kernel
theorem hd_X3_size : hdP yX3_size 1 := by decide +kernel
theorem hd_X3_steps : hdP yX3_steps 2 := by decide +kernel
theorem hd_X3_draws : hdP yX3_draws 2 := by decide +kernel
theorem hd_X3_queues : hdP yX3_queues 3 := by decide +kernel
theorem hd_X3_repeats : hdP yX3_repeats 1 := by decide +kernel
theorem hd_X3_signed : hdP yX3_signed 1 := by decide +kernel
theorem hd_X3_isWhole : hdP yX3_isWhole 1 := by decide +kernel
theorem hd_X3_feed : hdP yX3_feed 1 := by decide +kernel
theorem hd_X3_errors : hdP yX3_errors 0 := by decide +kernel
theorem hd_X3_queued : hdP yX3_queued 0 := by decide +kernel
theorem hd_X3_pending : hdP yX3_pending 0 := by decide +kernel
theorem hd_X3_marksCell : hdP yX3_marksCell 0 := by decide +kernel
theorem hd_X3_isDone : hdP yX3_isDone 0 := by decide +kernel
theorem hd_X3_lifts : hdP yX3_lifts 1 := by decide +kernel
theorem hd_X3_changes : hdP yX3_changes 0 := by decide +kernel
theorem hd_X3_goesTo : hdP yX3_goesTo 1 := by decide +kernel
theorem hd_X3_step : hdP yX3_step 0 := by decide +kernel
theorem hd_X3_lacksInk : hdP yX3_lacksInk 0 := by decide +kernel
theorem hd_X3_ticks : hdP yX3_ticks 0 := by decide +kernel
theorem hd_X3_tick : hdP yX3_tick 1 := by decide +kernel
theorem hd_X3_cut : hdP yX3_cut 0 := by decide +kernel
theorem hd_X3_isPen : hdP yX3_isPen 1 := by decide +kernel
theorem hd_X3_refill : hdP yX3_refill 1 := by decide +kernel
theorem hd_X3_pour : hdP yX3_pour 2 := by decide +kernel
theorem hd_X3_at : hdP yX3_at 0 := by decide +kernel
theorem hd_X3_isDown : hdP yX3_isDown 0 := by decide +kernel
theorem hd_X3_pen : hdP yX3_pen 0 := by decide +kernel
theorem hd_X3_ink : hdP yX3_ink 1 := by decide +kernel
theorem hd_X3_isWaiting : hdP yX3_isWaiting 0 := by decide +kernel
theorem hd_X3_timeLeft : hdP yX3_timeLeft 0 := by decide +kernel
theorem hd_X3_stepsUp : hdP yX3_stepsUp 0 := by decide +kernel
theorem hd_X3_stepsDown : hdP yX3_stepsDown 0 := by decide +kernel
theorem hd_X3_isMarked : hdP yX3_isMarked 2 := by decide +kernel
theorem hd_X3_bits : hdP yX3_bits 1 := by decide +kernel
theorem hd_X3_marks : hdP yX3_marks 0 := by decide +kernel
theorem hd_X3_marksInTheEnd : hdP yX3_marksInTheEnd 0 := by decide +kernel
theorem hd_J9_abs_0f7a4 : hdP yJ9_abs_0f7a4 1 := by decide +kernel
theorem hd_J9_max_7cf53 : hdP yJ9_max_7cf53 2 := by decide +kernel
theorem hd_J9_min_7cf53 : hdP yJ9_min_7cf53 2 := by decide +kernel
theorem hd_Jxa1e45_init_da8c8 : hdP yJxa1e45_init_da8c8 0 := by decide +kernel
theorem hd_Jxc12de_init_da8c8 : hdP yJxc12de_init_da8c8 0 := by decide +kernel
theorem hd_Jx4a65c_init_da8c8 : hdP yJx4a65c_init_da8c8 0 := by decide +kernel
theorem hd_Jx4a65c_grow_92f84 : hdP yJx4a65c_grow_92f84 1 := by decide +kernel
theorem hd_Jx4a65c_grow_d5877 : hdP yJx4a65c_grow_d5877 0 := by decide +kernel
theorem hd_Jx4a65c_size_8abf5 : hdP yJx4a65c_size_8abf5 0 := by decide +kernel
theorem hd_Jx4a65c_isEmpty_aae02 : hdP yJx4a65c_isEmpty_aae02 0 := by decide +kernel
theorem hd_Jx4a65c_elementData_915e3 : hdP yJx4a65c_elementData_915e3 1 := by decide +kernel
theorem hd_Jx4a65c_get_915e3 : hdP yJx4a65c_get_915e3 1 := by decide +kernel
theorem hd_Jx4a65c_add_72be8 : hdP yJx4a65c_add_72be8 3 := by decide +kernel
theorem hd_Jx4a65c_add_9ea2d : hdP yJx4a65c_add_9ea2d 1 := by decide +kernel
theorem hd_Jx4a65c_remove_915e3 : hdP yJx4a65c_remove_915e3 1 := by decide +kernel
theorem hd_Jx4a65c_fastRemove_b59b0 : hdP yJx4a65c_fastRemove_b59b0 2 := by decide +kernel
theorem hd_J7_copyOf_1904c : hdP yJ7_copyOf_1904c 2 := by decide +kernel
theorem hd_J7_copyOf_6403c : hdP yJ7_copyOf_6403c 3 := by decide +kernel
theorem hd_J15_checkIndex_7cf53 : hdP yJ15_checkIndex_7cf53 2 := by decide +kernel
theorem hd_J8_newLength_cabcc : hdP yJ8_newLength_cabcc 3 := by decide +kernel
theorem hd_J8_hugeLength_7cf53 : hdP yJ8_hugeLength_7cf53 2 := by decide +kernel
theorem hd_J3_checkIndex_8e157 : hdP yJ3_checkIndex_8e157 3 := by decide +kernel
theorem hd_L_feed : hdP yL_feed 3 := by decide +kernel
theorem hd_L_tick : hdP yL_tick 3 := by decide +kernel
theorem hd_L_refill : hdP yL_refill 3 := by decide +kernel
theorem hd_L_pour : hdP yL_pour 4 := by decide +kernel
theorem hd_L_ink : hdP yL_ink 3 := by decide +kernel
theorem hd_L_isMarked : hdP yL_isMarked 4 := by decide +kernel
end
section
def wp_X0_draws (E : EV) (post : Int32 → Prop) (ck : Int32) (cx : Int32) (cy : Int32) (cp : Int32) : Prop := ((ck = 2 → post 1) ∧ (¬ (ck = 2) → post 0))
set_option maxHeartbeats 4000000 in
set_option maxRecDepth 100000 in
theorem c_X0_draws (E : EV) (l : Launch) (ca : Nat) (ck : Int32) (cx : Int32) (cy : Int32) (cp : Int32) (post : Int32 → Prop) (hw : wp_X0_draws E post ck cx cy cp) : Met l yX0_draws (Cond.code yX0_draws cX0_draws 1 (some .boolean) :: ALLW) ({ frames := 0, cells := 0, slots := 0, locals := 0 } : Room) (va_Pc [.ref ca] (preR E (wC ca ck cx cy cp))) (vp_Si post) 0 0 (fun _ => False) := by
  refine Met.ofW (cc := cX0_draws) (maxL := 1) (ret := (some .boolean)) (by decide) rfl ?_
  intro p e s m args below meth c s₁ B hml hv
  obtain ⟨rfl, hpre⟩ := hv
  have hx := B.exec
  have hb := B.bytes
  have hr := B.returns
  have hlocks := B.notSynchronized
  have hts := atoms_spec (ws := (Cond.code yX0_draws cX0_draws 1 (some .boolean) :: ALLW)) B.pre
  have hta : ∀ w ∈ ALLW, w.before ([.ref ca] : List Value).toArray s = true := fun w h => hts w (List.mem_cons_of_mem _ h)
  have hown : s.vm.findClass RX0 = some m.cls := findClass_of_methodNamed B.named
  obtain ⟨hP, hKE⟩ := hpre
  have hP : va_P (eD E) vwCl [(ca, .inr (1, [.int ck, .int cx, .int cy, .int cp]))] s.heap := hP
  have hl := lv_entry ([.ref ca]) (n := 1) (Nat.le_of_ble_eq_true rfl)
  rw [lg_entry_eq]
  generalize (lg_sl ([.ref ca]) ++ List.replicate (1 - (lg_sl ([.ref ca])).length) Slot.unset).toArray = ls at hl ⊢
  have hl : lv_has ls 1 [(0, .ref ca)] := hl
  unfold wp_X0_draws at hw
  refine lv_aload_n hx hb dX0_draws_0 rfl (lv_at hl 0 rfl) ?_
  refine va_get (D := eD E) (ci := 1) (v := .int ck) (C := RX0) (T := TX0) (N := 4) hx hb hta lay_X0 hown hKE.1 hP 0 rfl rfl 0 (by decide) (hta _ tw_430) (fun _ h9 => h9) rfl dX0_draws_1 ?_
  refine lv_iconst (v := 2) hx hb dX0_draws_4 (by decide) ?_
  refine lv_icmp_ne (tgt := 12) hx hb dX0_draws_5 (by decide) (fun c_1 => ?_) (fun c_1 => ?_)
  · have hw := hw.2 c_1
    refine lv_iconst (v := 0) hx hb dX0_draws_12 (by decide) ?_
    exact W.zret (v := 0) hx hb hr rfl (fun t ht hW => ⟨0, rfl, hw, ht⟩) (fun q hq => nomatch hq) dX0_draws_13
  · have hw := hw.1 c_1
    refine lv_iconst (v := 1) hx hb dX0_draws_8 (by decide) ?_
    refine lv_goto (tgt := 13) hx hb dX0_draws_9 (by decide) ?_
    exact W.zret (v := 1) hx hb hr rfl (fun t ht hW => ⟨1, rfl, hw, ht⟩) (fun q hq => nomatch hq) dX0_draws_13
def wp_X0_steps (E : EV) (post : Int32 → Prop) (ck : Int32) (cx : Int32) (cy : Int32) (cp : Int32) : Prop := post (if (if 0 ≤ cx then cx else 0 - cx) < (if 0 ≤ cy then cy else 0 - cy) then (if 0 ≤ cy then cy else 0 - cy) else (if 0 ≤ cx then cx else 0 - cx))
set_option maxHeartbeats 4000000 in
set_option maxRecDepth 100000 in
theorem c_X0_steps (E : EV) (l : Launch) (ca : Nat) (ck : Int32) (cx : Int32) (cy : Int32) (cp : Int32) (post : Int32 → Prop) (hw : wp_X0_steps E post ck cx cy cp) : Met l yX0_steps (Cond.code yX0_steps cX0_steps 1 (some .int) :: ALLW) ({ frames := 1, cells := 0, slots := 0, locals := 14 } : Room) (va_Pc [.ref ca] (preR E (wC ca ck cx cy cp))) (vp_Si post) 0 0 (fun _ => False) := by
  refine Met.ofW (cc := cX0_steps) (maxL := 1) (ret := (some .int)) (by decide) rfl ?_
  intro p e s m args below meth c s₁ B hml hv
  obtain ⟨rfl, hpre⟩ := hv
  have hx := B.exec
  have hb := B.bytes
  have hr := B.returns
  have hlocks := B.notSynchronized
  have hts := atoms_spec (ws := (Cond.code yX0_steps cX0_steps 1 (some .int) :: ALLW)) B.pre
  have hta : ∀ w ∈ ALLW, w.before ([.ref ca] : List Value).toArray s = true := fun w h => hts w (List.mem_cons_of_mem _ h)
  have hown : s.vm.findClass RX0 = some m.cls := findClass_of_methodNamed B.named
  obtain ⟨hP, hKE⟩ := hpre
  have hP : va_P (eD E) vwCl [(ca, .inr (1, [.int ck, .int cx, .int cy, .int cp]))] s.heap := hP
  have hl := lv_entry ([.ref ca]) (n := 1) (Nat.le_of_ble_eq_true rfl)
  rw [lg_entry_eq]
  generalize (lg_sl ([.ref ca]) ++ List.replicate (1 - (lg_sl ([.ref ca])).length) Slot.unset).toArray = ls at hl ⊢
  have hl : lv_has ls 1 [(0, .ref ca)] := hl
  unfold wp_X0_steps at hw
  refine lv_aload_n hx hb dX0_steps_0 rfl (lv_at hl 0 rfl) ?_
  refine va_get (D := eD E) (ci := 1) (v := .int cx) (C := RX0) (T := TX0) (N := 4) hx hb hta lay_X0 hown hKE.1 hP 0 rfl rfl 1 (by decide) (hta _ tw_432) (fun _ h9 => h9) rfl dX0_steps_1 ?_
  refine va_mabs hx hb (hml.trans hl.1.symm) hown (hta _ tw_191) (hta _ tw_192) (hta _ tw_11) (hta _ tw_193) (Nat.le_of_ble_eq_true rfl) (Nat.le_of_ble_eq_true rfl) (Nat.le_of_ble_eq_true rfl) (Nat.le_of_ble_eq_true rfl) dX0_steps_4 ?_
  refine lv_aload_n hx hb dX0_steps_7 rfl (lv_at hl 0 rfl) ?_
  refine va_get (D := eD E) (ci := 1) (v := .int cy) (C := RX0) (T := TX0) (N := 4) hx hb hta lay_X0 hown hKE.1 hP 0 rfl rfl 2 (by decide) (hta _ tw_434) (fun _ h9 => h9) rfl dX0_steps_8 ?_
  refine va_mabs hx hb (hml.trans hl.1.symm) hown (hta _ tw_191) (hta _ tw_192) (hta _ tw_11) (hta _ tw_193) (Nat.le_of_ble_eq_true rfl) (Nat.le_of_ble_eq_true rfl) (Nat.le_of_ble_eq_true rfl) (Nat.le_of_ble_eq_true rfl) dX0_steps_11 ?_
  refine va_mmax hx hb (hml.trans hl.1.symm) hown (hta _ tw_194) (hta _ tw_195) (hta _ tw_11) (hta _ tw_196) (Nat.le_of_ble_eq_true rfl) (Nat.le_of_ble_eq_true rfl) (Nat.le_of_ble_eq_true rfl) (Nat.le_of_ble_eq_true rfl) dX0_steps_14 ?_
  exact W.iret (v := (if (if 0 ≤ cx then cx else 0 - cx) < (if 0 ≤ cy then cy else 0 - cy) then (if 0 ≤ cy then cy else 0 - cy) else (if 0 ≤ cx then cx else 0 - cx))) hx hb hr (fun t ht hW => ⟨(if (if 0 ≤ cx then cx else 0 - cx) < (if 0 ≤ cy then cy else 0 - cy) then (if 0 ≤ cy then cy else 0 - cy) else (if 0 ≤ cx then cx else 0 - cx)), rfl, hw, ht⟩) (fun q hq => nomatch hq) dX0_steps_17
def wp_X0_way (E : EV) (post : Int32 → Prop) (ck : Int32) (cx : Int32) (cy : Int32) (cp : Int32) (p0 : Int32) (p1 : Int32) : Prop := (wp_X0_steps E (fun r_2 : Int32 => ((r_2 = 0 → post 0) ∧ (¬ (r_2 = 0) → post ((p0 * p1) / r_2)))) ck cx cy cp)
set_option maxHeartbeats 4000000 in
set_option maxRecDepth 100000 in
theorem c_X0_way (E : EV) (l : Launch) (ca : Nat) (ck : Int32) (cx : Int32) (cy : Int32) (cp : Int32) (p0 : Int32) (p1 : Int32) (post : Int32 → Prop) (hw : wp_X0_way E post ck cx cy cp p0 p1) : Met l yX0_way (Cond.code yX0_way cX0_way 4 (some .int) :: ALLW) ({ frames := 2, cells := 0, slots := 0, locals := 34 } : Room) (va_Pc [.ref ca, .int p0, .int p1] (preR E (wC ca ck cx cy cp))) (vp_Si post) 0 0 (fun _ => False) := by
  refine Met.ofW (cc := cX0_way) (maxL := 4) (ret := (some .int)) (by decide) rfl ?_
  intro p e s m args below meth c s₁ B hml hv
  obtain ⟨rfl, hpre⟩ := hv
  have hx := B.exec
  have hb := B.bytes
  have hr := B.returns
  have hlocks := B.notSynchronized
  have hts := atoms_spec (ws := (Cond.code yX0_way cX0_way 4 (some .int) :: ALLW)) B.pre
  have hta : ∀ w ∈ ALLW, w.before ([.ref ca, .int p0, .int p1] : List Value).toArray s = true := fun w h => hts w (List.mem_cons_of_mem _ h)
  have hown : s.vm.findClass RX0 = some m.cls := findClass_of_methodNamed B.named
  obtain ⟨hP, hKE⟩ := hpre
  have hP : va_P (eD E) vwCl [(ca, .inr (1, [.int ck, .int cx, .int cy, .int cp]))] s.heap := hP
  have hl := lv_entry ([.ref ca, .int p0, .int p1]) (n := 4) (Nat.le_of_ble_eq_true rfl)
  rw [lg_entry_eq]
  generalize (lg_sl ([.ref ca, .int p0, .int p1]) ++ List.replicate (4 - (lg_sl ([.ref ca, .int p0, .int p1])).length) Slot.unset).toArray = ls at hl ⊢
  have hl : lv_has ls 4 [(0, .ref ca), (1, .int p0), (2, .int p1)] := hl
  unfold wp_X0_way at hw
  refine lv_aload_n hx hb dX0_way_0 rfl (lv_at hl 0 rfl) ?_
  have hPc : va_P (eD E) vwCl (wC ca ck cx cy cp) s.heap := hP
  refine vp_callSi (va_Run.run (va_runV (As := []) (rest := []) ⟨hx, hb, hml, hown, hta⟩ (c_X0_steps E l ca ck cx cy cp _ hw) (pcV (n := 0) hta tw_190 tw_187 tw_15 tw_189 tp_4 rfl rfl hd_X0_steps ⟨Nat.le_of_ble_eq_true rfl, Nat.le_of_ble_eq_true rfl⟩) ⟨fbR, va_recv hKE.1 hP (ci := 1) (q0 := 0) rfl rfl, fun U hU hW => ⟨rfl, preR.mk hPc hKE hU hW⟩⟩ rfl rfl hl.1 rfl (lv_room (Nat.le_of_ble_eq_true rfl)) dX0_way_1 ⟨Nat.le_of_ble_eq_true rfl, Nat.le_of_ble_eq_true rfl⟩)) (fun r_2 hw => ?_)
  refine lv_istore_n (lv' := [(3, .int r_2), (0, .ref ca), (1, .int p0), (2, .int p1)]) hx hb dX0_way_4 rfl hl (by decide) rfl (fun ls hl => ?_)
  refine lv_iload_n hx hb dX0_way_5 rfl (lv_at hl 0 rfl) ?_
  refine lv_if_ne (tgt := 13) hx hb dX0_way_6 (by decide) (fun c_3 => ?_) (fun c_3 => ?_)
  · have hw := hw.2 c_3
    refine lv_iload_n hx hb dX0_way_13 rfl (lv_at hl 2 rfl) ?_
    refine lv_iload_n hx hb dX0_way_14 rfl (lv_at hl 3 rfl) ?_
    refine lv_imul hx hb dX0_way_15 ?_
    refine lv_iload_n hx hb dX0_way_16 rfl (lv_at hl 0 rfl) ?_
    refine lv_idiv hx hb dX0_way_17 c_3 ?_
    exact W.iret (v := ((p0 * p1) / r_2)) hx hb hr (fun t ht hW => ⟨((p0 * p1) / r_2), rfl, hw, ht⟩) (fun q hq => nomatch hq) dX0_way_18
  · have hw := hw.1 c_3
    refine lv_iconst (v := 0) hx hb dX0_way_9 (by decide) ?_
    refine lv_goto (tgt := 18) hx hb dX0_way_10 (by decide) ?_
    exact W.iret (v := 0) hx hb hr (fun t ht hW => ⟨0, rfl, hw, ht⟩) (fun q hq => nomatch hq) dX0_way_18
def wp_X0_wayX (E : EV) (post : Int32 → Prop) (ck : Int32) (cx : Int32) (cy : Int32) (cp : Int32) (p0 : Int32) : Prop := (wp_X0_way E (fun r_4 : Int32 => post r_4) ck cx cy cp cx p0)
set_option maxHeartbeats 4000000 in
set_option maxRecDepth 100000 in
theorem c_X0_wayX (E : EV) (l : Launch) (ca : Nat) (ck : Int32) (cx : Int32) (cy : Int32) (cp : Int32) (p0 : Int32) (post : Int32 → Prop) (hw : wp_X0_wayX E post ck cx cy cp p0) : Met l yX0_wayX (Cond.code yX0_wayX cX0_wayX 2 (some .int) :: ALLW) ({ frames := 3, cells := 0, slots := 0, locals := 57 } : Room) (va_Pc [.ref ca, .int p0] (preR E (wC ca ck cx cy cp))) (vp_Si post) 0 0 (fun _ => False) := by
  refine Met.ofW (cc := cX0_wayX) (maxL := 2) (ret := (some .int)) (by decide) rfl ?_
  intro p e s m args below meth c s₁ B hml hv
  obtain ⟨rfl, hpre⟩ := hv
  have hx := B.exec
  have hb := B.bytes
  have hr := B.returns
  have hlocks := B.notSynchronized
  have hts := atoms_spec (ws := (Cond.code yX0_wayX cX0_wayX 2 (some .int) :: ALLW)) B.pre
  have hta : ∀ w ∈ ALLW, w.before ([.ref ca, .int p0] : List Value).toArray s = true := fun w h => hts w (List.mem_cons_of_mem _ h)
  have hown : s.vm.findClass RX0 = some m.cls := findClass_of_methodNamed B.named
  obtain ⟨hP, hKE⟩ := hpre
  have hP : va_P (eD E) vwCl [(ca, .inr (1, [.int ck, .int cx, .int cy, .int cp]))] s.heap := hP
  have hl := lv_entry ([.ref ca, .int p0]) (n := 2) (Nat.le_of_ble_eq_true rfl)
  rw [lg_entry_eq]
  generalize (lg_sl ([.ref ca, .int p0]) ++ List.replicate (2 - (lg_sl ([.ref ca, .int p0])).length) Slot.unset).toArray = ls at hl ⊢
  have hl : lv_has ls 2 [(0, .ref ca), (1, .int p0)] := hl
  unfold wp_X0_wayX at hw
  refine lv_aload_n hx hb dX0_wayX_0 rfl (lv_at hl 0 rfl) ?_
  refine lv_aload_n hx hb dX0_wayX_1 rfl (lv_at hl 0 rfl) ?_
  refine va_get (D := eD E) (ci := 1) (v := .int cx) (C := RX0) (T := TX0) (N := 4) hx hb hta lay_X0 hown hKE.1 hP 0 rfl rfl 1 (by decide) (hta _ tw_432) (fun _ h9 => h9) rfl dX0_wayX_2 ?_
  refine lv_iload_n hx hb dX0_wayX_5 rfl (lv_at hl 1 rfl) ?_
  have hPc : va_P (eD E) vwCl (wC ca ck cx cy cp) s.heap := hP
  refine vp_callSi (va_Run.run (va_runV (As := [.int cx, .int p0]) (rest := []) ⟨hx, hb, hml, hown, hta⟩ (c_X0_way E l ca ck cx cy cp cx p0 _ hw) (pcV (n := 2) hta tw_186 tw_183 tw_15 tw_185 tp_3 rfl rfl hd_X0_way ⟨Nat.le_of_ble_eq_true rfl, Nat.le_of_ble_eq_true rfl⟩) ⟨fbR, va_recv hKE.1 hP (ci := 1) (q0 := 0) rfl rfl, fun U hU hW => ⟨rfl, preR.mk hPc hKE hU hW⟩⟩ rfl rfl hl.1 rfl (lv_room (Nat.le_of_ble_eq_true rfl)) dX0_wayX_6 ⟨Nat.le_of_ble_eq_true rfl, Nat.le_of_ble_eq_true rfl⟩)) (fun r_4 hw => ?_)
  exact W.iret (v := r_4) hx hb hr (fun t ht hW => ⟨r_4, rfl, hw, ht⟩) (fun q hq => nomatch hq) dX0_wayX_9
def wp_X0_wayY (E : EV) (post : Int32 → Prop) (ck : Int32) (cx : Int32) (cy : Int32) (cp : Int32) (p0 : Int32) : Prop := (wp_X0_way E (fun r_5 : Int32 => post r_5) ck cx cy cp cy p0)
set_option maxHeartbeats 4000000 in
set_option maxRecDepth 100000 in
theorem c_X0_wayY (E : EV) (l : Launch) (ca : Nat) (ck : Int32) (cx : Int32) (cy : Int32) (cp : Int32) (p0 : Int32) (post : Int32 → Prop) (hw : wp_X0_wayY E post ck cx cy cp p0) : Met l yX0_wayY (Cond.code yX0_wayY cX0_wayY 2 (some .int) :: ALLW) ({ frames := 3, cells := 0, slots := 0, locals := 57 } : Room) (va_Pc [.ref ca, .int p0] (preR E (wC ca ck cx cy cp))) (vp_Si post) 0 0 (fun _ => False) := by
  refine Met.ofW (cc := cX0_wayY) (maxL := 2) (ret := (some .int)) (by decide) rfl ?_
  intro p e s m args below meth c s₁ B hml hv
  obtain ⟨rfl, hpre⟩ := hv
  have hx := B.exec
  have hb := B.bytes
  have hr := B.returns
  have hlocks := B.notSynchronized
  have hts := atoms_spec (ws := (Cond.code yX0_wayY cX0_wayY 2 (some .int) :: ALLW)) B.pre
  have hta : ∀ w ∈ ALLW, w.before ([.ref ca, .int p0] : List Value).toArray s = true := fun w h => hts w (List.mem_cons_of_mem _ h)
  have hown : s.vm.findClass RX0 = some m.cls := findClass_of_methodNamed B.named
  obtain ⟨hP, hKE⟩ := hpre
  have hP : va_P (eD E) vwCl [(ca, .inr (1, [.int ck, .int cx, .int cy, .int cp]))] s.heap := hP
  have hl := lv_entry ([.ref ca, .int p0]) (n := 2) (Nat.le_of_ble_eq_true rfl)
  rw [lg_entry_eq]
  generalize (lg_sl ([.ref ca, .int p0]) ++ List.replicate (2 - (lg_sl ([.ref ca, .int p0])).length) Slot.unset).toArray = ls at hl ⊢
  have hl : lv_has ls 2 [(0, .ref ca), (1, .int p0)] := hl
  unfold wp_X0_wayY at hw
  refine lv_aload_n hx hb dX0_wayY_0 rfl (lv_at hl 0 rfl) ?_
  refine lv_aload_n hx hb dX0_wayY_1 rfl (lv_at hl 0 rfl) ?_
  refine va_get (D := eD E) (ci := 1) (v := .int cy) (C := RX0) (T := TX0) (N := 4) hx hb hta lay_X0 hown hKE.1 hP 0 rfl rfl 2 (by decide) (hta _ tw_434) (fun _ h9 => h9) rfl dX0_wayY_2 ?_
  refine lv_iload_n hx hb dX0_wayY_5 rfl (lv_at hl 1 rfl) ?_
  have hPc : va_P (eD E) vwCl (wC ca ck cx cy cp) s.heap := hP
  refine vp_callSi (va_Run.run (va_runV (As := [.int cy, .int p0]) (rest := []) ⟨hx, hb, hml, hown, hta⟩ (c_X0_way E l ca ck cx cy cp cy p0 _ hw) (pcV (n := 2) hta tw_186 tw_183 tw_15 tw_185 tp_3 rfl rfl hd_X0_way ⟨Nat.le_of_ble_eq_true rfl, Nat.le_of_ble_eq_true rfl⟩) ⟨fbR, va_recv hKE.1 hP (ci := 1) (q0 := 0) rfl rfl, fun U hU hW => ⟨rfl, preR.mk hPc hKE hU hW⟩⟩ rfl rfl hl.1 rfl (lv_room (Nat.le_of_ble_eq_true rfl)) dX0_wayY_6 ⟨Nat.le_of_ble_eq_true rfl, Nat.le_of_ble_eq_true rfl⟩)) (fun r_5 hw => ?_)
  exact W.iret (v := r_5) hx hb hr (fun t ht hW => ⟨r_5, rfl, hw, ht⟩) (fun q hq => nomatch hq) dX0_wayY_9
def wp_X2_signed (E : EV) (post : Int32 → Prop) (p0 : Int32) : Prop := ((p0 ≤ 127 → post p0) ∧ (¬ (p0 ≤ 127) → post ((p0 - 255) - 1)))
set_option maxHeartbeats 4000000 in
set_option maxRecDepth 100000 in
theorem c_X2_signed (E : EV) (l : Launch) (p0 : Int32) (post : Int32 → Prop) (hw : wp_X2_signed E post p0) : Met l yX2_signed (Cond.code yX2_signed cX2_signed 1 (some .int) :: ALLW) ({ frames := 0, cells := 0, slots := 0, locals := 0 } : Room) (va_Pc [.int p0] (preR E ([]))) (vp_Si post) 0 0 (fun _ => False) := by
  refine Met.ofW (cc := cX2_signed) (maxL := 1) (ret := (some .int)) (by decide) rfl ?_
  intro p e s m args below meth c s₁ B hml hv
  obtain ⟨rfl, hpre⟩ := hv
  have hx := B.exec
  have hb := B.bytes
  have hr := B.returns
  have hlocks := B.notSynchronized
  have hts := atoms_spec (ws := (Cond.code yX2_signed cX2_signed 1 (some .int) :: ALLW)) B.pre
  have hta : ∀ w ∈ ALLW, w.before ([.int p0] : List Value).toArray s = true := fun w h => hts w (List.mem_cons_of_mem _ h)
  have hown : s.vm.findClass RX2 = some m.cls := findClass_of_methodNamed B.named
  obtain ⟨hP, hKE⟩ := hpre
  have hP : va_P (eD E) vwCl [] s.heap := hP
  have hl := lv_entry ([.int p0]) (n := 1) (Nat.le_of_ble_eq_true rfl)
  rw [lg_entry_eq]
  generalize (lg_sl ([.int p0]) ++ List.replicate (1 - (lg_sl ([.int p0])).length) Slot.unset).toArray = ls at hl ⊢
  have hl : lv_has ls 1 [(0, .int p0)] := hl
  unfold wp_X2_signed at hw
  refine lv_iload_n hx hb dX2_signed_0 rfl (lv_at hl 0 rfl) ?_
  refine lv_bipush (v := 127) hx hb dX2_signed_1 (by decide) ?_
  refine lv_icmp_le (tgt := 16) hx hb dX2_signed_3 (by decide) (fun c_6 => ?_) (fun c_6 => ?_)
  · have hw := hw.1 c_6
    refine lv_iload_n hx hb dX2_signed_16 rfl (lv_at hl 0 rfl) ?_
    exact W.iret (v := p0) hx hb hr (fun t ht hW => ⟨p0, rfl, hw, ht⟩) (fun q hq => nomatch hq) dX2_signed_17
  · have hw := hw.2 c_6
    refine lv_iload_n hx hb dX2_signed_6 rfl (lv_at hl 0 rfl) ?_
    refine lv_sipush (v := 255) hx hb dX2_signed_7 (by decide) ?_
    refine lv_isub hx hb dX2_signed_10 ?_
    refine lv_iconst (v := 1) hx hb dX2_signed_11 (by decide) ?_
    refine lv_isub hx hb dX2_signed_12 ?_
    refine lv_goto (tgt := 17) hx hb dX2_signed_13 (by decide) ?_
    exact W.iret (v := ((p0 - 255) - 1)) hx hb hr (fun t ht hW => ⟨((p0 - 255) - 1), rfl, hw, ht⟩) (fun q hq => nomatch hq) dX2_signed_17
def wp_X2_hasPen (E : EV) (post : Int32 → Prop) (p0 : Int32) : Prop := ((p0 < 0 → post 0) ∧ (¬ (p0 < 0) → ((3 ≤ p0 → post 0) ∧ (¬ (3 ≤ p0) → post 1))))
set_option maxHeartbeats 4000000 in
set_option maxRecDepth 100000 in
theorem c_X2_hasPen (E : EV) (l : Launch) (p0 : Int32) (post : Int32 → Prop) (hw : wp_X2_hasPen E post p0) : Met l yX2_hasPen (Cond.code yX2_hasPen cX2_hasPen 1 (some .boolean) :: ALLW) ({ frames := 0, cells := 0, slots := 0, locals := 0 } : Room) (va_Pc [.int p0] (preR E ([]))) (vp_Si post) 0 0 (fun _ => False) := by
  refine Met.ofW (cc := cX2_hasPen) (maxL := 1) (ret := (some .boolean)) (by decide) rfl ?_
  intro p e s m args below meth c s₁ B hml hv
  obtain ⟨rfl, hpre⟩ := hv
  have hx := B.exec
  have hb := B.bytes
  have hr := B.returns
  have hlocks := B.notSynchronized
  have hts := atoms_spec (ws := (Cond.code yX2_hasPen cX2_hasPen 1 (some .boolean) :: ALLW)) B.pre
  have hta : ∀ w ∈ ALLW, w.before ([.int p0] : List Value).toArray s = true := fun w h => hts w (List.mem_cons_of_mem _ h)
  have hown : s.vm.findClass RX2 = some m.cls := findClass_of_methodNamed B.named
  obtain ⟨hP, hKE⟩ := hpre
  have hP : va_P (eD E) vwCl [] s.heap := hP
  have hl := lv_entry ([.int p0]) (n := 1) (Nat.le_of_ble_eq_true rfl)
  rw [lg_entry_eq]
  generalize (lg_sl ([.int p0]) ++ List.replicate (1 - (lg_sl ([.int p0])).length) Slot.unset).toArray = ls at hl ⊢
  have hl : lv_has ls 1 [(0, .int p0)] := hl
  unfold wp_X2_hasPen at hw
  refine lv_iload_n hx hb dX2_hasPen_0 rfl (lv_at hl 0 rfl) ?_
  refine lv_if_lt (tgt := 13) hx hb dX2_hasPen_1 (by decide) (fun c_7 => ?_) (fun c_7 => ?_)
  · have hw := hw.1 c_7
    refine lv_iconst (v := 0) hx hb dX2_hasPen_13 (by decide) ?_
    exact W.zret (v := 0) hx hb hr rfl (fun t ht hW => ⟨0, rfl, hw, ht⟩) (fun q hq => nomatch hq) dX2_hasPen_14
  · have hw := hw.2 c_7
    refine lv_iload_n hx hb dX2_hasPen_4 rfl (lv_at hl 0 rfl) ?_
    refine lv_iconst (v := 3) hx hb dX2_hasPen_5 (by decide) ?_
    refine lv_icmp_ge (tgt := 13) hx hb dX2_hasPen_6 (by decide) (fun c_8 => ?_) (fun c_8 => ?_)
    · have hw := hw.1 c_8
      refine lv_iconst (v := 0) hx hb dX2_hasPen_13 (by decide) ?_
      exact W.zret (v := 0) hx hb hr rfl (fun t ht hW => ⟨0, rfl, hw, ht⟩) (fun q hq => nomatch hq) dX2_hasPen_14
    · have hw := hw.2 c_8
      refine lv_iconst (v := 1) hx hb dX2_hasPen_9 (by decide) ?_
      refine lv_goto (tgt := 14) hx hb dX2_hasPen_10 (by decide) ?_
      exact W.zret (v := 1) hx hb hr rfl (fun t ht hW => ⟨1, rfl, hw, ht⟩) (fun q hq => nomatch hq) dX2_hasPen_14
def wp_X2_hasCell (E : EV) (post : Int32 → Prop) (p0 : Int32) (p1 : Int32) : Prop := ((p0 < 0 → post 0) ∧ (¬ (p0 < 0) → ((100 ≤ p0 → post 0) ∧ (¬ (100 ≤ p0) → ((p1 < 0 → post 0) ∧ (¬ (p1 < 0) → ((100 ≤ p1 → post 0) ∧ (¬ (100 ≤ p1) → post 1))))))))
set_option maxHeartbeats 4000000 in
set_option maxRecDepth 100000 in
theorem c_X2_hasCell (E : EV) (l : Launch) (p0 : Int32) (p1 : Int32) (post : Int32 → Prop) (hw : wp_X2_hasCell E post p0 p1) : Met l yX2_hasCell (Cond.code yX2_hasCell cX2_hasCell 2 (some .boolean) :: ALLW) ({ frames := 0, cells := 0, slots := 0, locals := 0 } : Room) (va_Pc [.int p0, .int p1] (preR E ([]))) (vp_Si post) 0 0 (fun _ => False) := by
  refine Met.ofW (cc := cX2_hasCell) (maxL := 2) (ret := (some .boolean)) (by decide) rfl ?_
  intro p e s m args below meth c s₁ B hml hv
  obtain ⟨rfl, hpre⟩ := hv
  have hx := B.exec
  have hb := B.bytes
  have hr := B.returns
  have hlocks := B.notSynchronized
  have hts := atoms_spec (ws := (Cond.code yX2_hasCell cX2_hasCell 2 (some .boolean) :: ALLW)) B.pre
  have hta : ∀ w ∈ ALLW, w.before ([.int p0, .int p1] : List Value).toArray s = true := fun w h => hts w (List.mem_cons_of_mem _ h)
  have hown : s.vm.findClass RX2 = some m.cls := findClass_of_methodNamed B.named
  obtain ⟨hP, hKE⟩ := hpre
  have hP : va_P (eD E) vwCl [] s.heap := hP
  have hl := lv_entry ([.int p0, .int p1]) (n := 2) (Nat.le_of_ble_eq_true rfl)
  rw [lg_entry_eq]
  generalize (lg_sl ([.int p0, .int p1]) ++ List.replicate (2 - (lg_sl ([.int p0, .int p1])).length) Slot.unset).toArray = ls at hl ⊢
  have hl : lv_has ls 2 [(0, .int p0), (1, .int p1)] := hl
  unfold wp_X2_hasCell at hw
  refine lv_iload_n hx hb dX2_hasCell_0 rfl (lv_at hl 0 rfl) ?_
  refine lv_if_lt (tgt := 24) hx hb dX2_hasCell_1 (by decide) (fun c_9 => ?_) (fun c_9 => ?_)
  · have hw := hw.1 c_9
    refine lv_iconst (v := 0) hx hb dX2_hasCell_24 (by decide) ?_
    exact W.zret (v := 0) hx hb hr rfl (fun t ht hW => ⟨0, rfl, hw, ht⟩) (fun q hq => nomatch hq) dX2_hasCell_25
  · have hw := hw.2 c_9
    refine lv_iload_n hx hb dX2_hasCell_4 rfl (lv_at hl 0 rfl) ?_
    refine lv_bipush (v := 100) hx hb dX2_hasCell_5 (by decide) ?_
    refine lv_icmp_ge (tgt := 24) hx hb dX2_hasCell_7 (by decide) (fun c_10 => ?_) (fun c_10 => ?_)
    · have hw := hw.1 c_10
      refine lv_iconst (v := 0) hx hb dX2_hasCell_24 (by decide) ?_
      exact W.zret (v := 0) hx hb hr rfl (fun t ht hW => ⟨0, rfl, hw, ht⟩) (fun q hq => nomatch hq) dX2_hasCell_25
    · have hw := hw.2 c_10
      refine lv_iload_n hx hb dX2_hasCell_10 rfl (lv_at hl 1 rfl) ?_
      refine lv_if_lt (tgt := 24) hx hb dX2_hasCell_11 (by decide) (fun c_11 => ?_) (fun c_11 => ?_)
      · have hw := hw.1 c_11
        refine lv_iconst (v := 0) hx hb dX2_hasCell_24 (by decide) ?_
        exact W.zret (v := 0) hx hb hr rfl (fun t ht hW => ⟨0, rfl, hw, ht⟩) (fun q hq => nomatch hq) dX2_hasCell_25
      · have hw := hw.2 c_11
        refine lv_iload_n hx hb dX2_hasCell_14 rfl (lv_at hl 1 rfl) ?_
        refine lv_bipush (v := 100) hx hb dX2_hasCell_15 (by decide) ?_
        refine lv_icmp_ge (tgt := 24) hx hb dX2_hasCell_17 (by decide) (fun c_12 => ?_) (fun c_12 => ?_)
        · have hw := hw.1 c_12
          refine lv_iconst (v := 0) hx hb dX2_hasCell_24 (by decide) ?_
          exact W.zret (v := 0) hx hb hr rfl (fun t ht hW => ⟨0, rfl, hw, ht⟩) (fun q hq => nomatch hq) dX2_hasCell_25
        · have hw := hw.2 c_12
          refine lv_iconst (v := 1) hx hb dX2_hasCell_20 (by decide) ?_
          refine lv_goto (tgt := 25) hx hb dX2_hasCell_21 (by decide) ?_
          exact W.zret (v := 1) hx hb hr rfl (fun t ht hW => ⟨1, rfl, hw, ht⟩) (fun q hq => nomatch hq) dX2_hasCell_25
def wp_X1_wordOf (E : EV) (post : Int32 → Prop) (p0 : Int32) (p1 : Int32) : Prop := (wp_X2_hasCell E (fun r_13 : Int32 => ((r_13 = 0 → post (-1)) ∧ (¬ (r_13 = 0) → post (((100 * p1) + p0) / 64)))) p0 p1)
set_option maxHeartbeats 4000000 in
set_option maxRecDepth 100000 in
theorem c_X1_wordOf (E : EV) (l : Launch) (p0 : Int32) (p1 : Int32) (post : Int32 → Prop) (hw : wp_X1_wordOf E post p0 p1) : Met l yX1_wordOf (Cond.code yX1_wordOf cX1_wordOf 2 (some .int) :: ALLW) ({ frames := 1, cells := 0, slots := 0, locals := 21 } : Room) (va_Pc [.int p0, .int p1] (preR E ([]))) (vp_Si post) 0 0 (fun _ => False) := by
  refine Met.ofW (cc := cX1_wordOf) (maxL := 2) (ret := (some .int)) (by decide) rfl ?_
  intro p e s m args below meth c s₁ B hml hv
  obtain ⟨rfl, hpre⟩ := hv
  have hx := B.exec
  have hb := B.bytes
  have hr := B.returns
  have hlocks := B.notSynchronized
  have hts := atoms_spec (ws := (Cond.code yX1_wordOf cX1_wordOf 2 (some .int) :: ALLW)) B.pre
  have hta : ∀ w ∈ ALLW, w.before ([.int p0, .int p1] : List Value).toArray s = true := fun w h => hts w (List.mem_cons_of_mem _ h)
  have hown : s.vm.findClass RX1 = some m.cls := findClass_of_methodNamed B.named
  obtain ⟨hP, hKE⟩ := hpre
  have hP : va_P (eD E) vwCl [] s.heap := hP
  have hl := lv_entry ([.int p0, .int p1]) (n := 2) (Nat.le_of_ble_eq_true rfl)
  rw [lg_entry_eq]
  generalize (lg_sl ([.int p0, .int p1]) ++ List.replicate (2 - (lg_sl ([.int p0, .int p1])).length) Slot.unset).toArray = ls at hl ⊢
  have hl : lv_has ls 2 [(0, .int p0), (1, .int p1)] := hl
  unfold wp_X1_wordOf at hw
  refine lv_iload_n hx hb dX1_wordOf_0 rfl (lv_at hl 0 rfl) ?_
  refine lv_iload_n hx hb dX1_wordOf_1 rfl (lv_at hl 1 rfl) ?_
  have hPc : va_P (eD E) vwCl [] s.heap := va_P_nil
  refine vp_callSi (va_Run.run (va_runSN (As := [.int p0, .int p1]) (rest := []) ⟨hx, hb, hml, hown, hta⟩ (c_X2_hasCell E l p0 p1 _ hw) (pcSN (n := 2) hta tw_354 (hKE.2.1 _ (List.mem_of_getElem? (i := 7) rfl)) tw_1 tw_353 rfl rfl hd_X2_hasCell ⟨Nat.le_of_ble_eq_true rfl, Nat.le_of_ble_eq_true rfl⟩) ⟨fbR, fun U hU hW => ⟨rfl, preR.mk hPc hKE hU hW⟩⟩ rfl rfl hl.1 rfl (lv_room (Nat.le_of_ble_eq_true rfl)) dX1_wordOf_2 ⟨Nat.le_of_ble_eq_true rfl, Nat.le_of_ble_eq_true rfl⟩)) (fun r_13 hw => ?_)
  refine lv_if_eq (tgt := 20) hx hb dX1_wordOf_5 (by decide) (fun c_14 => ?_) (fun c_14 => ?_)
  · have hw := hw.1 c_14
    refine lv_iconst (v := (-1)) hx hb dX1_wordOf_20 (by decide) ?_
    exact W.iret (v := (-1)) hx hb hr (fun t ht hW => ⟨(-1), rfl, hw, ht⟩) (fun q hq => nomatch hq) dX1_wordOf_21
  · have hw := hw.2 c_14
    refine lv_bipush (v := 100) hx hb dX1_wordOf_8 (by decide) ?_
    refine lv_iload_n hx hb dX1_wordOf_10 rfl (lv_at hl 1 rfl) ?_
    refine lv_imul hx hb dX1_wordOf_11 ?_
    refine lv_iload_n hx hb dX1_wordOf_12 rfl (lv_at hl 0 rfl) ?_
    refine lv_iadd hx hb dX1_wordOf_13 ?_
    refine lv_bipush (v := 64) hx hb dX1_wordOf_14 (by decide) ?_
    refine lv_idiv hx hb dX1_wordOf_16 (by decide) ?_
    refine lv_goto (tgt := 21) hx hb dX1_wordOf_17 (by decide) ?_
    exact W.iret (v := (((100 * p1) + p0) / 64)) hx hb hr (fun t ht hW => ⟨(((100 * p1) + p0) / 64), rfl, hw, ht⟩) (fun q hq => nomatch hq) dX1_wordOf_21
def wp_X1_bitOf (E : EV) (post : Int64 → Prop) (p0 : Int32) (p1 : Int32) : Prop := post (1 <<< ((((100 * p1) + p0) - ((100 * p1) + p0) / 64 * 64).toInt64 &&& 63))
set_option maxHeartbeats 4000000 in
set_option maxRecDepth 100000 in
theorem c_X1_bitOf (E : EV) (l : Launch) (p0 : Int32) (p1 : Int32) (post : Int64 → Prop) (hw : wp_X1_bitOf E post p0 p1) : Met l yX1_bitOf (Cond.code yX1_bitOf cX1_bitOf 2 (some .long) :: ALLW) ({ frames := 0, cells := 0, slots := 0, locals := 0 } : Room) (va_Pc [.int p0, .int p1] (preR E ([]))) (vp_Sl post) 0 0 (fun _ => False) := by
  refine Met.ofW (cc := cX1_bitOf) (maxL := 2) (ret := (some .long)) (by decide) rfl ?_
  intro p e s m args below meth c s₁ B hml hv
  obtain ⟨rfl, hpre⟩ := hv
  have hx := B.exec
  have hb := B.bytes
  have hr := B.returns
  have hlocks := B.notSynchronized
  have hts := atoms_spec (ws := (Cond.code yX1_bitOf cX1_bitOf 2 (some .long) :: ALLW)) B.pre
  have hta : ∀ w ∈ ALLW, w.before ([.int p0, .int p1] : List Value).toArray s = true := fun w h => hts w (List.mem_cons_of_mem _ h)
  have hown : s.vm.findClass RX1 = some m.cls := findClass_of_methodNamed B.named
  obtain ⟨hP, hKE⟩ := hpre
  have hP : va_P (eD E) vwCl [] s.heap := hP
  have hl := lv_entry ([.int p0, .int p1]) (n := 2) (Nat.le_of_ble_eq_true rfl)
  rw [lg_entry_eq]
  generalize (lg_sl ([.int p0, .int p1]) ++ List.replicate (2 - (lg_sl ([.int p0, .int p1])).length) Slot.unset).toArray = ls at hl ⊢
  have hl : lv_has ls 2 [(0, .int p0), (1, .int p1)] := hl
  unfold wp_X1_bitOf at hw
  refine lv_lconst (v := 1) hx hb dX1_bitOf_0 (by decide) ?_
  refine lv_bipush (v := 100) hx hb dX1_bitOf_1 (by decide) ?_
  refine lv_iload_n hx hb dX1_bitOf_3 rfl (lv_at hl 1 rfl) ?_
  refine lv_imul hx hb dX1_bitOf_4 ?_
  refine lv_iload_n hx hb dX1_bitOf_5 rfl (lv_at hl 0 rfl) ?_
  refine lv_iadd hx hb dX1_bitOf_6 ?_
  refine lv_bipush (v := 64) hx hb dX1_bitOf_7 (by decide) ?_
  refine lv_irem hx hb dX1_bitOf_9 (by decide) ?_
  refine lv_lshl hx hb dX1_bitOf_10 rfl ?_
  exact W.lret (v := (1 <<< ((((100 * p1) + p0) - ((100 * p1) + p0) / 64 * 64).toInt64 &&& 63))) hx hb hr (fun t ht hW => ⟨(1 <<< ((((100 * p1) + p0) - ((100 * p1) + p0) / 64 * 64).toInt64 &&& 63)), rfl, hw, ht⟩) (fun q hq => nomatch hq) dX1_bitOf_11
def wp_X1_hasMark (E : EV) (post : Int32 → Prop) (pw : Nat → Int64) (pk : Int32) (p0 : Int32) (p1 : Int32) : Prop := (wp_X1_wordOf E (fun r_15 : Int32 => ((r_15 < 0 → post 0) ∧ (¬ (r_15 < 0) → ((157 ≤ r_15 → post 0) ∧ (¬ (157 ≤ r_15) → (vp_in r_15 157 ∧ (wp_X1_bitOf E (fun r_19 : Int64 => (((lg_cmp ((pw r_15.toNatClampNeg) &&& r_19) 0) = 0 → post 0) ∧ (¬ (lg_cmp ((pw r_15.toNatClampNeg) &&& r_19) 0) = 0 → post 1))) p0 p1))))))) p0 p1)
set_option maxHeartbeats 4000000 in
set_option maxRecDepth 100000 in
theorem c_X1_hasMark (E : EV) (l : Launch) (pa : Nat) (pb : Nat) (pw : Nat → Int64) (pk : Int32) (p0 : Int32) (p1 : Int32) (post : Int32 → Prop) (hw : wp_X1_hasMark E post pw pk p0 p1) : Met l yX1_hasMark (Cond.code yX1_hasMark cX1_hasMark 4 (some .boolean) :: ALLW) ({ frames := 2, cells := 0, slots := 0, locals := 42 } : Room) (va_Pc [.ref pa, .int p0, .int p1] (preR E (wP E pa pb pw pk))) (vp_Si post) 0 0 (fun _ => False) := by
  refine Met.ofW (cc := cX1_hasMark) (maxL := 4) (ret := (some .boolean)) (by decide) rfl ?_
  intro p e s m args below meth c s₁ B hml hv
  obtain ⟨rfl, hpre⟩ := hv
  have hx := B.exec
  have hb := B.bytes
  have hr := B.returns
  have hlocks := B.notSynchronized
  have hts := atoms_spec (ws := (Cond.code yX1_hasMark cX1_hasMark 4 (some .boolean) :: ALLW)) B.pre
  have hta : ∀ w ∈ ALLW, w.before ([.ref pa, .int p0, .int p1] : List Value).toArray s = true := fun w h => hts w (List.mem_cons_of_mem _ h)
  have hown : s.vm.findClass RX1 = some m.cls := findClass_of_methodNamed B.named
  obtain ⟨hP, hKE⟩ := hpre
  have hP : va_P (eD E) vwCl [(pa, .inr (2, [.ref pb, .int pk])), (pb, .inl (eC E 1, 157, .inr (.inl pw)))] s.heap := hP
  have hl := lv_entry ([.ref pa, .int p0, .int p1]) (n := 4) (Nat.le_of_ble_eq_true rfl)
  rw [lg_entry_eq]
  generalize (lg_sl ([.ref pa, .int p0, .int p1]) ++ List.replicate (4 - (lg_sl ([.ref pa, .int p0, .int p1])).length) Slot.unset).toArray = ls at hl ⊢
  have hl : lv_has ls 4 [(0, .ref pa), (1, .int p0), (2, .int p1)] := hl
  unfold wp_X1_hasMark at hw
  refine lv_iload_n hx hb dX1_hasMark_0 rfl (lv_at hl 1 rfl) ?_
  refine lv_iload_n hx hb dX1_hasMark_1 rfl (lv_at hl 2 rfl) ?_
  have hPc : va_P (eD E) vwCl [] s.heap := va_P_nil
  refine vp_callSi (va_Run.run (va_runS (As := [.int p0, .int p1]) (rest := []) ⟨hx, hb, hml, hown, hta⟩ (c_X1_wordOf E l p0 p1 _ hw) (pcS (n := 2) hta tw_365 tw_363 tw_5 tw_364 rfl rfl hd_X1_wordOf ⟨Nat.le_of_ble_eq_true rfl, Nat.le_of_ble_eq_true rfl⟩) ⟨fbR, fun U hU hW => ⟨rfl, preR.mk hPc hKE hU hW⟩⟩ rfl rfl hl.1 rfl (lv_room (Nat.le_of_ble_eq_true rfl)) dX1_hasMark_2 ⟨Nat.le_of_ble_eq_true rfl, Nat.le_of_ble_eq_true rfl⟩)) (fun r_15 hw => ?_)
  refine lv_istore_n (lv' := [(3, .int r_15), (0, .ref pa), (1, .int p0), (2, .int p1)]) hx hb dX1_hasMark_5 rfl hl (by decide) rfl (fun ls hl => ?_)
  refine lv_iload_n hx hb dX1_hasMark_6 rfl (lv_at hl 0 rfl) ?_
  refine lv_if_lt (tgt := 40) hx hb dX1_hasMark_7 (by decide) (fun c_16 => ?_) (fun c_16 => ?_)
  · have hw := hw.1 c_16
    refine lv_iconst (v := 0) hx hb dX1_hasMark_40 (by decide) ?_
    exact W.zret (v := 0) hx hb hr rfl (fun t ht hW => ⟨0, rfl, hw, ht⟩) (fun q hq => nomatch hq) dX1_hasMark_41
  · have hw := hw.2 c_16
    refine lv_iload_n hx hb dX1_hasMark_10 rfl (lv_at hl 0 rfl) ?_
    refine lv_aload_n hx hb dX1_hasMark_11 rfl (lv_at hl 1 rfl) ?_
    refine va_get (D := eD E) (ci := 2) (v := .ref pb) (C := RX1) (T := TX1) (N := 2) hx hb hta lay_X1 hown hKE.1 hP 0 rfl rfl 0 (by decide) (hta _ tw_59) (fun _ h9 => h9) rfl dX1_hasMark_12 ?_
    refine va_alen hx hb hKE.1 hP 1 1 rfl rfl (v := 157) (by show Int32.ofNat 157 = 157; decide) dX1_hasMark_15 ?_
    refine lv_icmp_ge (tgt := 40) hx hb dX1_hasMark_16 (by decide) (fun c_17 => ?_) (fun c_17 => ?_)
    · have hw := hw.1 c_17
      refine lv_iconst (v := 0) hx hb dX1_hasMark_40 (by decide) ?_
      exact W.zret (v := 0) hx hb hr rfl (fun t ht hW => ⟨0, rfl, hw, ht⟩) (fun q hq => nomatch hq) dX1_hasMark_41
    · have hw := hw.2 c_17
      refine lv_aload_n hx hb dX1_hasMark_19 rfl (lv_at hl 1 rfl) ?_
      refine va_get (D := eD E) (ci := 2) (v := .ref pb) (C := RX1) (T := TX1) (N := 2) hx hb hta lay_X1 hown hKE.1 hP 0 rfl rfl 0 (by decide) (hta _ tw_59) (fun _ h9 => h9) rfl dX1_hasMark_20 ?_
      refine lv_iload_n hx hb dX1_hasMark_23 rfl (lv_at hl 0 rfl) ?_
      obtain ⟨hi_18, hw⟩ := hw
      refine va_lald hx hb hKE.1 hP 1 1 rfl rfl hi_18 dX1_hasMark_24 ?_
      refine lv_iload_n hx hb dX1_hasMark_25 rfl (lv_at hl 2 rfl) ?_
      refine lv_iload_n hx hb dX1_hasMark_26 rfl (lv_at hl 3 rfl) ?_
      have hPc : va_P (eD E) vwCl [] s.heap := va_P_nil
      refine vp_callSl (va_Run.run (va_runS (As := [.int p0, .int p1]) (rest := [.long (pw r_15.toNatClampNeg)]) ⟨hx, hb, hml, hown, hta⟩ (c_X1_bitOf E l p0 p1 _ hw) (pcS (n := 2) hta tw_373 tw_371 tw_5 tw_372 rfl rfl hd_X1_bitOf ⟨Nat.le_of_ble_eq_true rfl, Nat.le_of_ble_eq_true rfl⟩) ⟨fbR, fun U hU hW => ⟨rfl, preR.mk hPc hKE hU hW⟩⟩ rfl rfl hl.1 rfl (lv_room (Nat.le_of_ble_eq_true rfl)) dX1_hasMark_27 ⟨Nat.le_of_ble_eq_true rfl, Nat.le_of_ble_eq_true rfl⟩)) (fun r_19 hw => ?_)
      refine lv_land hx hb dX1_hasMark_30 ?_
      refine lv_lconst (v := 0) hx hb dX1_hasMark_31 (by decide) ?_
      refine W.lcmp hx hb dX1_hasMark_32 ?_
      refine lv_if_eq (tgt := 40) hx hb dX1_hasMark_33 (by decide) (fun c_20 => ?_) (fun c_20 => ?_)
      · have hw := hw.1 c_20
        refine lv_iconst (v := 0) hx hb dX1_hasMark_40 (by decide) ?_
        exact W.zret (v := 0) hx hb hr rfl (fun t ht hW => ⟨0, rfl, hw, ht⟩) (fun q hq => nomatch hq) dX1_hasMark_41
      · have hw := hw.2 c_20
        refine lv_iconst (v := 1) hx hb dX1_hasMark_36 (by decide) ?_
        refine lv_goto (tgt := 41) hx hb dX1_hasMark_37 (by decide) ?_
        exact W.zret (v := 1) hx hb hr rfl (fun t ht hW => ⟨1, rfl, hw, ht⟩) (fun q hq => nomatch hq) dX1_hasMark_41
def wp_X1_putMark (E : EV) (post : (Nat → Int64) → Int32 → Prop) (pw : Nat → Int64) (pk : Int32) (p0 : Int32) (p1 : Int32) : Prop := (wp_X1_wordOf E (fun r_21 : Int32 => ((r_21 < 0 → post pw pk) ∧ (¬ (r_21 < 0) → ((157 ≤ r_21 → post pw pk) ∧ (¬ (157 ≤ r_21) → (wp_X1_hasMark E (fun r_24 : Int32 => ((r_24 = 0 → (vp_in r_21 157 ∧ (wp_X1_bitOf E (fun r_27 : Int64 => post (vp_updL pw r_21.toNatClampNeg ((pw r_21.toNatClampNeg) ||| r_27)) (pk + 1)) p0 p1))) ∧ (¬ (r_24 = 0) → post pw pk))) pw pk p0 p1)))))) p0 p1)
set_option maxHeartbeats 4000000 in
set_option maxRecDepth 100000 in
theorem c_X1_putMark (E : EV) (l : Launch) (pa : Nat) (pb : Nat) (pw : Nat → Int64) (pk : Int32) (p0 : Int32) (p1 : Int32) (hz : Nat) (post : (Nat → Int64) → Int32 → Prop) (hw : wp_X1_putMark E post pw pk p0 p1) : Met l yX1_putMark (Cond.code yX1_putMark cX1_putMark 4 none :: ALLW) ({ frames := 3, cells := 0, slots := 0, locals := 65 } : Room) (va_Pc [.ref pa, .int p0, .int p1] (preM E (wP E pa pb pw pk) hz)) (va_Qv (fun (u : (Nat → Int64) × Int32) => post u.1 u.2) (fun (u : (Nat → Int64) × Int32) t => va_P (eD E) vwCl (wP E pa pb u.1 u.2) t.heap ∧ va_D (va_A (wP E pa pb pw pk) hz) (wP E pa pb u.1 u.2)) (va_A (wP E pa pb pw pk) hz)) 0 0 (va_A (wP E pa pb pw pk) hz) := by
  refine Met.ofW (cc := cX1_putMark) (maxL := 4) (ret := none) (by decide) rfl ?_
  intro p e s m args below meth c s₁ B hml hv
  obtain ⟨rfl, hpre⟩ := hv
  have hx := B.exec
  have hb := B.bytes
  have hr := B.returns
  have hlocks := B.notSynchronized
  have hts := atoms_spec (ws := (Cond.code yX1_putMark cX1_putMark 4 none :: ALLW)) B.pre
  have hta : ∀ w ∈ ALLW, w.before ([.ref pa, .int p0, .int p1] : List Value).toArray s = true := fun w h => hts w (List.mem_cons_of_mem _ h)
  have hown : s.vm.findClass RX1 = some m.cls := findClass_of_methodNamed B.named
  obtain ⟨hsz, hP, hKE, hD0, hZ⟩ := hpre
  subst hsz
  have hD := hD0.self (sz := s.heap.size)
  generalize hAe : va_A (wP E pa pb pw pk) s.heap.size = A at hD hZ ⊢
  have hA : ∀ q : Nat, s.heap.size ≤ q → A q := fun q h => by rw [← hAe]; exact Or.inr h
  have hS : va_S A s.heap s.heap [] := va_S.rf
  have hP : va_P (eD E) vwCl [(pa, .inr (2, [.ref pb, .int pk])), (pb, .inl (eC E 1, 157, .inr (.inl pw)))] s.heap := hP
  have hD : va_D A [(pa, .inr (2, [.ref pb, .int pk])), (pb, .inl (eC E 1, 157, .inr (.inl pw)))] := hD
  have hl := lv_entry ([.ref pa, .int p0, .int p1]) (n := 4) (Nat.le_of_ble_eq_true rfl)
  rw [lg_entry_eq]
  generalize (lg_sl ([.ref pa, .int p0, .int p1]) ++ List.replicate (4 - (lg_sl ([.ref pa, .int p0, .int p1])).length) Slot.unset).toArray = ls at hl ⊢
  have hl : lv_has ls 4 [(0, .ref pa), (1, .int p0), (2, .int p1)] := hl
  unfold wp_X1_putMark at hw
  refine lv_iload_n hx hb dX1_putMark_0 rfl (lv_at hl 1 rfl) ?_
  refine lv_iload_n hx hb dX1_putMark_1 rfl (lv_at hl 2 rfl) ?_
  have hPc : va_P (eD E) vwCl [] s.heap := va_P_nil
  refine vp_callSi (va_Run.run (va_runS (As := [.int p0, .int p1]) (rest := []) ⟨hx, hb, hml, hown, hta⟩ (c_X1_wordOf E l p0 p1 _ hw) (pcS (n := 2) hta tw_365 tw_363 tw_5 tw_364 rfl rfl hd_X1_wordOf ⟨Nat.le_of_ble_eq_true rfl, Nat.le_of_ble_eq_true rfl⟩) ⟨fbR, fun U hU hW => ⟨rfl, preR.mk hPc hKE hU hW⟩⟩ rfl rfl hl.1 rfl (lv_room (Nat.le_of_ble_eq_true rfl)) dX1_putMark_2 ⟨Nat.le_of_ble_eq_true rfl, Nat.le_of_ble_eq_true rfl⟩)) (fun r_21 hw => ?_)
  refine lv_istore_n (lv' := [(3, .int r_21), (0, .ref pa), (1, .int p0), (2, .int p1)]) hx hb dX1_putMark_5 rfl hl (by decide) rfl (fun ls hl => ?_)
  refine lv_iload_n hx hb dX1_putMark_6 rfl (lv_at hl 0 rfl) ?_
  refine lv_if_lt (tgt := 28) hx hb dX1_putMark_7 (by decide) (fun c_22 => ?_) (fun c_22 => ?_)
  · have hw := hw.1 c_22
    have hP9 : va_P (eD E) vwCl (wP E pa pb pw pk) s.heap := hP
    have hD9 : va_D A (wP E pa pb pw pk) := hD
    exact W.vret hx hb hr (fun t ht hW => ⟨⟨(pw, pk), rfl, hw, ⟨by rw [ht]; exact hP9, hD9⟩⟩, hS.F ht⟩) hS.2.2 dX1_putMark_28
  · have hw := hw.2 c_22
    refine lv_iload_n hx hb dX1_putMark_10 rfl (lv_at hl 0 rfl) ?_
    refine lv_aload_n hx hb dX1_putMark_11 rfl (lv_at hl 1 rfl) ?_
    refine va_get (D := eD E) (ci := 2) (v := .ref pb) (C := RX1) (T := TX1) (N := 2) hx hb hta lay_X1 hown hKE.1 hP 0 rfl rfl 0 (by decide) (hta _ tw_59) (fun _ h9 => h9) rfl dX1_putMark_12 ?_
    refine va_alen hx hb hKE.1 hP 1 1 rfl rfl (v := 157) (by show Int32.ofNat 157 = 157; decide) dX1_putMark_15 ?_
    refine lv_icmp_ge (tgt := 28) hx hb dX1_putMark_16 (by decide) (fun c_23 => ?_) (fun c_23 => ?_)
    · have hw := hw.1 c_23
      have hP9 : va_P (eD E) vwCl (wP E pa pb pw pk) s.heap := hP
      have hD9 : va_D A (wP E pa pb pw pk) := hD
      exact W.vret hx hb hr (fun t ht hW => ⟨⟨(pw, pk), rfl, hw, ⟨by rw [ht]; exact hP9, hD9⟩⟩, hS.F ht⟩) hS.2.2 dX1_putMark_28
    · have hw := hw.2 c_23
      refine lv_aload_n hx hb dX1_putMark_19 rfl (lv_at hl 1 rfl) ?_
      refine lv_iload_n hx hb dX1_putMark_20 rfl (lv_at hl 2 rfl) ?_
      refine lv_iload_n hx hb dX1_putMark_21 rfl (lv_at hl 3 rfl) ?_
      have hPc : va_P (eD E) vwCl (wP E pa pb pw pk) s.heap := hP
      refine vp_callSi (va_Run.run (va_runV (As := [.int p0, .int p1]) (rest := []) ⟨hx, hb, hml, hown, hta⟩ (c_X1_hasMark E l pa pb pw pk p0 p1 _ hw) (pcV (n := 2) hta tw_370 tw_367 tw_5 tw_369 tp_19 rfl rfl hd_X1_hasMark ⟨Nat.le_of_ble_eq_true rfl, Nat.le_of_ble_eq_true rfl⟩) ⟨fbR, va_recv hKE.1 hP (ci := 2) (q0 := 0) rfl rfl, fun U hU hW => ⟨rfl, preR.mk hPc hKE hU hW⟩⟩ rfl rfl hl.1 rfl (lv_room (Nat.le_of_ble_eq_true rfl)) dX1_putMark_22 ⟨Nat.le_of_ble_eq_true rfl, Nat.le_of_ble_eq_true rfl⟩)) (fun r_24 hw => ?_)
      refine lv_if_eq (tgt := 29) hx hb dX1_putMark_25 (by decide) (fun c_25 => ?_) (fun c_25 => ?_)
      · have hw := hw.1 c_25
        refine lv_aload_n hx hb dX1_putMark_29 rfl (lv_at hl 1 rfl) ?_
        refine va_get (D := eD E) (ci := 2) (v := .ref pb) (C := RX1) (T := TX1) (N := 2) hx hb hta lay_X1 hown hKE.1 hP 0 rfl rfl 0 (by decide) (hta _ tw_59) (fun _ h9 => h9) rfl dX1_putMark_30 ?_
        refine lv_iload_n hx hb dX1_putMark_33 rfl (lv_at hl 0 rfl) ?_
        refine lv_dup2_11 hx hb dX1_putMark_34 rfl rfl ?_
        obtain ⟨hi_26, hw⟩ := hw
        refine va_lald hx hb hKE.1 hP 1 1 rfl rfl hi_26 dX1_putMark_35 ?_
        refine lv_iload_n hx hb dX1_putMark_36 rfl (lv_at hl 2 rfl) ?_
        refine lv_iload_n hx hb dX1_putMark_37 rfl (lv_at hl 3 rfl) ?_
        have hPc : va_P (eD E) vwCl [] s.heap := va_P_nil
        refine vp_callSl (va_Run.run (va_runS (As := [.int p0, .int p1]) (rest := [.long (pw r_21.toNatClampNeg), .int r_21, .ref pb]) ⟨hx, hb, hml, hown, hta⟩ (c_X1_bitOf E l p0 p1 _ hw) (pcS (n := 2) hta tw_373 tw_371 tw_5 tw_372 rfl rfl hd_X1_bitOf ⟨Nat.le_of_ble_eq_true rfl, Nat.le_of_ble_eq_true rfl⟩) ⟨fbR, fun U hU hW => ⟨rfl, preR.mk hPc hKE hU hW⟩⟩ rfl rfl hl.1 rfl (lv_room (Nat.le_of_ble_eq_true rfl)) dX1_putMark_38 ⟨Nat.le_of_ble_eq_true rfl, Nat.le_of_ble_eq_true rfl⟩)) (fun r_27 hw => ?_)
        refine lv_lor hx hb dX1_putMark_41 ?_
        refine va_last hx hb hKE.1 hP hD hS 1 1 rfl rfl hi_26 dX1_putMark_42 (fun H locs hP hD hS => ?_)
        have hP : va_P (eD E) vwCl [(pa, .inr (2, [.ref pb, .int pk])), (pb, .inl (eC E 1, 157, .inr (.inl (vp_updL pw r_21.toNatClampNeg ((pw r_21.toNatClampNeg) ||| r_27)))))] H := hP
        have hD : va_D A [(pa, .inr (2, [.ref pb, .int pk])), (pb, .inl (eC E 1, 157, .inr (.inl (vp_updL pw r_21.toNatClampNeg ((pw r_21.toNatClampNeg) ||| r_27)))))] := hD
        refine lv_aload_n hx hb dX1_putMark_43 rfl (lv_at hl 1 rfl) ?_
        refine lv_dup hx hb dX1_putMark_44 rfl ?_
        refine va_get (D := eD E) (ci := 2) (v := .int pk) (C := RX1) (T := TX1) (N := 2) hx hb hta lay_X1 hown hKE.1 hP 0 rfl rfl 1 (by decide) (hta _ tw_60) (fun _ h9 => h9) rfl dX1_putMark_45 ?_
        refine lv_iconst (v := 1) hx hb dX1_putMark_48 (by decide) ?_
        refine lv_iadd hx hb dX1_putMark_49 ?_
        refine va_put (D := eD E) (ci := 2) (v := .int (pk + 1)) (ty := .int) (C := RX1) (T := TX1) (N := 2) hx hb hta lay_X1 tyX1 tyX1_ok nmX1 hown hKE.1 hP hD hS 0 rfl rfl 1 (by decide) (hta _ tw_60) (fun _ h9 => h9) rfl (by decide +kernel) rfl rfl (Nat.le_of_ble_eq_true rfl) dX1_putMark_50 (fun H locs hP hD hS => ?_)
        have hP : va_P (eD E) vwCl [(pa, .inr (2, [.ref pb, .int (pk + 1)])), (pb, .inl (eC E 1, 157, .inr (.inl (vp_updL pw r_21.toNatClampNeg ((pw r_21.toNatClampNeg) ||| r_27)))))] H := hP
        have hD : va_D A [(pa, .inr (2, [.ref pb, .int (pk + 1)])), (pb, .inl (eC E 1, 157, .inr (.inl (vp_updL pw r_21.toNatClampNeg ((pw r_21.toNatClampNeg) ||| r_27)))))] := hD
        have hP9 : va_P (eD E) vwCl (wP E pa pb (vp_updL pw r_21.toNatClampNeg ((pw r_21.toNatClampNeg) ||| r_27)) (pk + 1)) H := hP
        have hD9 : va_D A (wP E pa pb (vp_updL pw r_21.toNatClampNeg ((pw r_21.toNatClampNeg) ||| r_27)) (pk + 1)) := hD
        exact W.vret hx hb hr (fun t ht hW => ⟨⟨((vp_updL pw r_21.toNatClampNeg ((pw r_21.toNatClampNeg) ||| r_27)), (pk + 1)), rfl, hw, ⟨by rw [ht]; exact hP9, hD9⟩⟩, hS.F ht⟩) hS.2.2 dX1_putMark_53
      · have hw := hw.2 c_25
        have hP9 : va_P (eD E) vwCl (wP E pa pb pw pk) s.heap := hP
        have hD9 : va_D A (wP E pa pb pw pk) := hD
        exact W.vret hx hb hr (fun t ht hW => ⟨⟨(pw, pk), rfl, hw, ⟨by rw [ht]; exact hP9, hD9⟩⟩, hS.F ht⟩) hS.2.2 dX1_putMark_28
end
section
def wp_J3_checkIndex_8e157 (E : EV) (post : Int32 → Prop) (p0 : Int32) (p1 : Int32) : Prop := ((p0 < 0 → False) ∧ (¬ (p0 < 0) → ((p0 < p1 → post p0) ∧ (¬ (p0 < p1) → False))))
set_option maxHeartbeats 4000000 in
set_option maxRecDepth 100000 in
theorem c_J3_checkIndex_8e157 (E : EV) (l : Launch) (p0 : Int32) (p1 : Int32) (post : Int32 → Prop) (hw : wp_J3_checkIndex_8e157 E post p0 p1) : Met l yJ3_checkIndex_8e157 (Cond.code yJ3_checkIndex_8e157 cJ3_checkIndex_8e157 3 (some .int) :: ALLW) ({ frames := 0, cells := 0, slots := 0, locals := 0 } : Room) (va_Pc [.int p0, .int p1, .null] (preR E ([]))) (vp_Si post) 0 0 (fun _ => False) := by
  refine Met.ofW (cc := cJ3_checkIndex_8e157) (maxL := 3) (ret := (some .int)) (by decide) rfl ?_
  intro p e s m args below meth c s₁ B hml hv
  obtain ⟨rfl, hpre⟩ := hv
  have hx := B.exec
  have hb := B.bytes
  have hr := B.returns
  have hlocks := B.notSynchronized
  have hts := atoms_spec (ws := (Cond.code yJ3_checkIndex_8e157 cJ3_checkIndex_8e157 3 (some .int) :: ALLW)) B.pre
  have hta : ∀ w ∈ ALLW, w.before ([.int p0, .int p1, .null] : List Value).toArray s = true := fun w h => hts w (List.mem_cons_of_mem _ h)
  have hown : s.vm.findClass RJ3 = some m.cls := findClass_of_methodNamed B.named
  obtain ⟨hP, hKE⟩ := hpre
  have hP : va_P (eD E) vwCl [] s.heap := hP
  have hl := lv_entry ([.int p0, .int p1, .null]) (n := 3) (Nat.le_of_ble_eq_true rfl)
  rw [lg_entry_eq]
  generalize (lg_sl ([.int p0, .int p1, .null]) ++ List.replicate (3 - (lg_sl ([.int p0, .int p1, .null])).length) Slot.unset).toArray = ls at hl ⊢
  have hl : lv_has ls 3 [(0, .int p0), (1, .int p1), (2, .null)] := hl
  unfold wp_J3_checkIndex_8e157 at hw
  refine lv_iload_n hx hb dJ3_checkIndex_8e157_0 rfl (lv_at hl 0 rfl) ?_
  refine lv_if_lt (tgt := 9) hx hb dJ3_checkIndex_8e157_1 (by decide) (fun c_28 => ?_) (fun c_28 => ?_)
  · have hw := hw.1 c_28
    exact hw.elim
  · have hw := hw.2 c_28
    refine lv_iload_n hx hb dJ3_checkIndex_8e157_4 rfl (lv_at hl 0 rfl) ?_
    refine lv_iload_n hx hb dJ3_checkIndex_8e157_5 rfl (lv_at hl 1 rfl) ?_
    refine lv_icmp_lt (tgt := 16) hx hb dJ3_checkIndex_8e157_6 (by decide) (fun c_29 => ?_) (fun c_29 => ?_)
    · have hw := hw.1 c_29
      refine lv_iload_n hx hb dJ3_checkIndex_8e157_16 rfl (lv_at hl 0 rfl) ?_
      exact W.iret (v := p0) hx hb hr (fun t ht hW => ⟨p0, rfl, hw, ht⟩) (fun q hq => nomatch hq) dJ3_checkIndex_8e157_17
    · have hw := hw.2 c_29
      exact hw.elim
def wp_J15_checkIndex_7cf53 (E : EV) (post : Int32 → Prop) (p0 : Int32) (p1 : Int32) : Prop := (wp_J3_checkIndex_8e157 E (fun r_30 : Int32 => post r_30) p0 p1)
set_option maxHeartbeats 4000000 in
set_option maxRecDepth 100000 in
theorem c_J15_checkIndex_7cf53 (E : EV) (l : Launch) (p0 : Int32) (p1 : Int32) (post : Int32 → Prop) (hw : wp_J15_checkIndex_7cf53 E post p0 p1) : Met l yJ15_checkIndex_7cf53 (Cond.code yJ15_checkIndex_7cf53 cJ15_checkIndex_7cf53 2 (some .int) :: ALLW) ({ frames := 1, cells := 0, slots := 0, locals := 22 } : Room) (va_Pc [.int p0, .int p1] (preR E ([]))) (vp_Si post) 0 0 (fun _ => False) := by
  refine Met.ofW (cc := cJ15_checkIndex_7cf53) (maxL := 2) (ret := (some .int)) (by decide) rfl ?_
  intro p e s m args below meth c s₁ B hml hv
  obtain ⟨rfl, hpre⟩ := hv
  have hx := B.exec
  have hb := B.bytes
  have hr := B.returns
  have hlocks := B.notSynchronized
  have hts := atoms_spec (ws := (Cond.code yJ15_checkIndex_7cf53 cJ15_checkIndex_7cf53 2 (some .int) :: ALLW)) B.pre
  have hta : ∀ w ∈ ALLW, w.before ([.int p0, .int p1] : List Value).toArray s = true := fun w h => hts w (List.mem_cons_of_mem _ h)
  have hown : s.vm.findClass RJ15 = some m.cls := findClass_of_methodNamed B.named
  obtain ⟨hP, hKE⟩ := hpre
  have hP : va_P (eD E) vwCl [] s.heap := hP
  have hl := lv_entry ([.int p0, .int p1]) (n := 2) (Nat.le_of_ble_eq_true rfl)
  rw [lg_entry_eq]
  generalize (lg_sl ([.int p0, .int p1]) ++ List.replicate (2 - (lg_sl ([.int p0, .int p1])).length) Slot.unset).toArray = ls at hl ⊢
  have hl : lv_has ls 2 [(0, .int p0), (1, .int p1)] := hl
  unfold wp_J15_checkIndex_7cf53 at hw
  refine lv_iload_n hx hb dJ15_checkIndex_7cf53_0 rfl (lv_at hl 0 rfl) ?_
  refine lv_iload_n hx hb dJ15_checkIndex_7cf53_1 rfl (lv_at hl 1 rfl) ?_
  refine lv_null hx hb dJ15_checkIndex_7cf53_2 ?_
  have hPc : va_P (eD E) vwCl [] s.heap := va_P_nil
  refine vp_callSi (va_Run.run (va_runS (As := [.int p0, .int p1, .null]) (rest := []) ⟨hx, hb, hml, hown, hta⟩ (c_J3_checkIndex_8e157 E l p0 p1 _ hw) (pcS (n := 3) hta tw_172 tw_170 tw_17 tw_171 rfl rfl hd_J3_checkIndex_8e157 ⟨Nat.le_of_ble_eq_true rfl, Nat.le_of_ble_eq_true rfl⟩) ⟨fbR, fun U hU hW => ⟨rfl, preR.mk hPc hKE hU hW⟩⟩ rfl rfl hl.1 rfl (lv_room (Nat.le_of_ble_eq_true rfl)) dJ15_checkIndex_7cf53_3 ⟨Nat.le_of_ble_eq_true rfl, Nat.le_of_ble_eq_true rfl⟩)) (fun r_30 hw => ?_)
  exact W.iret (v := r_30) hx hb hr (fun t ht hW => ⟨r_30, rfl, hw, ht⟩) (fun q hq => nomatch hq) dJ15_checkIndex_7cf53_6
def wp_Jx4a65c_size_8abf5 (E : EV) (post : Int32 → Prop) (mo : Int32) (ad : Nat) (ln : Int32) (PL : List Nat) (pf : Nat → va_E) : Prop := post ln
set_option maxHeartbeats 4000000 in
set_option maxRecDepth 100000 in
theorem c_Jx4a65c_size_8abf5 (E : EV) (l : Launch) (la : Nat) (mo : Int32) (ad : Nat) (ln : Int32) (PL : List Nat) (pf : Nat → va_E) (post : Int32 → Prop) (hw : wp_Jx4a65c_size_8abf5 E post mo ad ln PL pf) : Met l yJx4a65c_size_8abf5 (Cond.code yJx4a65c_size_8abf5 cJx4a65c_size_8abf5 1 (some .int) :: ALLW) ({ frames := 0, cells := 0, slots := 0, locals := 0 } : Room) (va_Pc [.ref la] (preR E (wL la mo ad ln PL pf))) (vp_Si post) 0 0 (fun _ => False) := by
  refine Met.ofW (cc := cJx4a65c_size_8abf5) (maxL := 1) (ret := (some .int)) (by decide) rfl ?_
  intro p e s m args below meth c s₁ B hml hv
  obtain ⟨rfl, hpre⟩ := hv
  have hx := B.exec
  have hb := B.bytes
  have hr := B.returns
  have hlocks := B.notSynchronized
  have hts := atoms_spec (ws := (Cond.code yJx4a65c_size_8abf5 cJx4a65c_size_8abf5 1 (some .int) :: ALLW)) B.pre
  have hta : ∀ w ∈ ALLW, w.before ([.ref la] : List Value).toArray s = true := fun w h => hts w (List.mem_cons_of_mem _ h)
  have hown : s.vm.findClass RJx4a65c = some m.cls := findClass_of_methodNamed B.named
  obtain ⟨hP, hKE⟩ := hpre
  have hP : va_P (eD E) vwCl ([(la, .inr (0, [.int mo, .ref ad, .int ln]))] ++ va_pl PL pf) s.heap := hP
  have hl := lv_entry ([.ref la]) (n := 1) (Nat.le_of_ble_eq_true rfl)
  rw [lg_entry_eq]
  generalize (lg_sl ([.ref la]) ++ List.replicate (1 - (lg_sl ([.ref la])).length) Slot.unset).toArray = ls at hl ⊢
  have hl : lv_has ls 1 [(0, .ref la)] := hl
  unfold wp_Jx4a65c_size_8abf5 at hw
  refine lv_aload_n hx hb dJx4a65c_size_8abf5_0 rfl (lv_at hl 0 rfl) ?_
  refine va_get (D := eD E) (ci := 0) (v := .int ln) (C := RJx4a65c) (T := TJx4a65c) (N := 3) hx hb hta lay_AL hown hKE.1 hP 0 rfl rfl 2 (by decide) (hta _ tw_42) (fun _ h9 => h9) rfl dJx4a65c_size_8abf5_1 ?_
  exact W.iret (v := ln) hx hb hr (fun t ht hW => ⟨ln, rfl, hw, ht⟩) (fun q hq => nomatch hq) dJx4a65c_size_8abf5_4
def wp_Jx4a65c_isEmpty_aae02 (E : EV) (post : Int32 → Prop) (mo : Int32) (ad : Nat) (ln : Int32) (PL : List Nat) (pf : Nat → va_E) : Prop := ((ln = 0 → post 1) ∧ (¬ (ln = 0) → post 0))
set_option maxHeartbeats 4000000 in
set_option maxRecDepth 100000 in
theorem c_Jx4a65c_isEmpty_aae02 (E : EV) (l : Launch) (la : Nat) (mo : Int32) (ad : Nat) (ln : Int32) (PL : List Nat) (pf : Nat → va_E) (post : Int32 → Prop) (hw : wp_Jx4a65c_isEmpty_aae02 E post mo ad ln PL pf) : Met l yJx4a65c_isEmpty_aae02 (Cond.code yJx4a65c_isEmpty_aae02 cJx4a65c_isEmpty_aae02 1 (some .boolean) :: ALLW) ({ frames := 0, cells := 0, slots := 0, locals := 0 } : Room) (va_Pc [.ref la] (preR E (wL la mo ad ln PL pf))) (vp_Si post) 0 0 (fun _ => False) := by
  refine Met.ofW (cc := cJx4a65c_isEmpty_aae02) (maxL := 1) (ret := (some .boolean)) (by decide) rfl ?_
  intro p e s m args below meth c s₁ B hml hv
  obtain ⟨rfl, hpre⟩ := hv
  have hx := B.exec
  have hb := B.bytes
  have hr := B.returns
  have hlocks := B.notSynchronized
  have hts := atoms_spec (ws := (Cond.code yJx4a65c_isEmpty_aae02 cJx4a65c_isEmpty_aae02 1 (some .boolean) :: ALLW)) B.pre
  have hta : ∀ w ∈ ALLW, w.before ([.ref la] : List Value).toArray s = true := fun w h => hts w (List.mem_cons_of_mem _ h)
  have hown : s.vm.findClass RJx4a65c = some m.cls := findClass_of_methodNamed B.named
  obtain ⟨hP, hKE⟩ := hpre
  have hP : va_P (eD E) vwCl ([(la, .inr (0, [.int mo, .ref ad, .int ln]))] ++ va_pl PL pf) s.heap := hP
  have hl := lv_entry ([.ref la]) (n := 1) (Nat.le_of_ble_eq_true rfl)
  rw [lg_entry_eq]
  generalize (lg_sl ([.ref la]) ++ List.replicate (1 - (lg_sl ([.ref la])).length) Slot.unset).toArray = ls at hl ⊢
  have hl : lv_has ls 1 [(0, .ref la)] := hl
  unfold wp_Jx4a65c_isEmpty_aae02 at hw
  refine lv_aload_n hx hb dJx4a65c_isEmpty_aae02_0 rfl (lv_at hl 0 rfl) ?_
  refine va_get (D := eD E) (ci := 0) (v := .int ln) (C := RJx4a65c) (T := TJx4a65c) (N := 3) hx hb hta lay_AL hown hKE.1 hP 0 rfl rfl 2 (by decide) (hta _ tw_42) (fun _ h9 => h9) rfl dJx4a65c_isEmpty_aae02_1 ?_
  refine lv_if_ne (tgt := 11) hx hb dJx4a65c_isEmpty_aae02_4 (by decide) (fun c_31 => ?_) (fun c_31 => ?_)
  · have hw := hw.2 c_31
    refine lv_iconst (v := 0) hx hb dJx4a65c_isEmpty_aae02_11 (by decide) ?_
    exact W.zret (v := 0) hx hb hr rfl (fun t ht hW => ⟨0, rfl, hw, ht⟩) (fun q hq => nomatch hq) dJx4a65c_isEmpty_aae02_12
  · have hw := hw.1 c_31
    refine lv_iconst (v := 1) hx hb dJx4a65c_isEmpty_aae02_7 (by decide) ?_
    refine lv_goto (tgt := 12) hx hb dJx4a65c_isEmpty_aae02_8 (by decide) ?_
    exact W.zret (v := 1) hx hb hr rfl (fun t ht hW => ⟨1, rfl, hw, ht⟩) (fun q hq => nomatch hq) dJx4a65c_isEmpty_aae02_12
def wp_Jx4a65c_elementData_915e3 (E : EV) (post : Option Nat → Prop) (mo : Int32) (ad : Nat) (ln : Int32) (PL : List Nat) (pf : Nat → va_E) (p0 : Int32) : Prop := (∃ (anz_32 : Nat) (afz_32 : Nat → Option Nat), ad ∈ PL ∧ pf ad = .inl (eC E 2, anz_32, .inr (.inr (.inr (.inr afz_32)))) ∧ (vp_in p0 anz_32 ∧ (∀ o_35, o_35 = (afz_32 p0.toNatClampNeg) → post o_35)))
set_option maxHeartbeats 4000000 in
set_option maxRecDepth 100000 in
theorem c_Jx4a65c_elementData_915e3 (E : EV) (l : Launch) (la : Nat) (mo : Int32) (ad : Nat) (ln : Int32) (PL : List Nat) (pf : Nat → va_E) (p0 : Int32) (post : Option Nat → Prop) (hw : wp_Jx4a65c_elementData_915e3 E post mo ad ln PL pf p0) : Met l yJx4a65c_elementData_915e3 (Cond.code yJx4a65c_elementData_915e3 cJx4a65c_elementData_915e3 2 (some (.object "java/lang/Object")) :: ALLW) ({ frames := 0, cells := 0, slots := 0, locals := 0 } : Room) (va_Pc [.ref la, .int p0] (preR E (wL la mo ad ln PL pf))) (va_Sq post) 0 0 (fun _ => False) := by
  refine Met.ofW (cc := cJx4a65c_elementData_915e3) (maxL := 2) (ret := (some (.object "java/lang/Object"))) (by decide) rfl ?_
  intro p e s m args below meth c s₁ B hml hv
  obtain ⟨rfl, hpre⟩ := hv
  have hx := B.exec
  have hb := B.bytes
  have hr := B.returns
  have hlocks := B.notSynchronized
  have hts := atoms_spec (ws := (Cond.code yJx4a65c_elementData_915e3 cJx4a65c_elementData_915e3 2 (some (.object "java/lang/Object")) :: ALLW)) B.pre
  have hta : ∀ w ∈ ALLW, w.before ([.ref la, .int p0] : List Value).toArray s = true := fun w h => hts w (List.mem_cons_of_mem _ h)
  have hown : s.vm.findClass RJx4a65c = some m.cls := findClass_of_methodNamed B.named
  obtain ⟨hP, hKE⟩ := hpre
  have hP : va_P (eD E) vwCl ([(la, .inr (0, [.int mo, .ref ad, .int ln]))] ++ va_pl PL pf) s.heap := hP
  have hl := lv_entry ([.ref la, .int p0]) (n := 2) (Nat.le_of_ble_eq_true rfl)
  rw [lg_entry_eq]
  generalize (lg_sl ([.ref la, .int p0]) ++ List.replicate (2 - (lg_sl ([.ref la, .int p0])).length) Slot.unset).toArray = ls at hl ⊢
  have hl : lv_has ls 2 [(0, .ref la), (1, .int p0)] := hl
  unfold wp_Jx4a65c_elementData_915e3 at hw
  refine lv_aload_n hx hb dJx4a65c_elementData_915e3_0 rfl (lv_at hl 0 rfl) ?_
  refine va_get (D := eD E) (ci := 0) (v := .ref ad) (C := RJx4a65c) (T := TJx4a65c) (N := 3) hx hb hta lay_AL hown hKE.1 hP 0 rfl rfl 1 (by decide) (hta _ tw_41) (fun _ h9 => h9) rfl dJx4a65c_elementData_915e3_1 ?_
  refine lv_iload_n hx hb dJx4a65c_elementData_915e3_4 rfl (lv_at hl 1 rfl) ?_
  obtain ⟨anz_32, afz_32, hyz_32, hfz_32, hw⟩ := hw
  obtain ⟨i_33, hi_33⟩ := va_pl_get (X := [(la, .inr (0, [.int mo, .ref ad, .int ln]))]) (f := pf) hyz_32
  rw [hfz_32] at hi_33
  obtain ⟨hi_34, hw⟩ := hw
  refine va_aldq hx hb hKE.1 hP i_33 2 hi_33 rfl hi_34 dJx4a65c_elementData_915e3_5 ?_
  obtain ⟨o_35, eo_35⟩ : ∃ z, z = (afz_32 p0.toNatClampNeg) := ⟨_, rfl⟩
  rw [← eo_35]
  have hw := hw o_35 eo_35
  exact W.aret (v := va_rf o_35) hx hb hr (Or.inl ⟨_, rfl⟩) (va_rf_or _) (fun t ht hW => ⟨o_35, rfl, hw, ht⟩) (fun q hq => nomatch hq) dJx4a65c_elementData_915e3_6
def wp_Jx4a65c_get_915e3 (E : EV) (post : Option Nat → Prop) (mo : Int32) (ad : Nat) (ln : Int32) (PL : List Nat) (pf : Nat → va_E) (p0 : Int32) : Prop := (wp_J15_checkIndex_7cf53 E (fun r_36 : Int32 => (wp_Jx4a65c_elementData_915e3 E (fun r_37 : Option Nat => post r_37) mo ad ln PL pf p0)) p0 ln)
set_option maxHeartbeats 4000000 in
set_option maxRecDepth 100000 in
theorem c_Jx4a65c_get_915e3 (E : EV) (l : Launch) (la : Nat) (mo : Int32) (ad : Nat) (ln : Int32) (PL : List Nat) (pf : Nat → va_E) (p0 : Int32) (post : Option Nat → Prop) (hw : wp_Jx4a65c_get_915e3 E post mo ad ln PL pf p0) : Met l yJx4a65c_get_915e3 (Cond.code yJx4a65c_get_915e3 cJx4a65c_get_915e3 2 (some (.object "java/lang/Object")) :: ALLW) ({ frames := 2, cells := 0, slots := 0, locals := 43 } : Room) (va_Pc [.ref la, .int p0] (preR E (wL la mo ad ln PL pf))) (va_Sq post) 0 0 (fun _ => False) := by
  refine Met.ofW (cc := cJx4a65c_get_915e3) (maxL := 2) (ret := (some (.object "java/lang/Object"))) (by decide) rfl ?_
  intro p e s m args below meth c s₁ B hml hv
  obtain ⟨rfl, hpre⟩ := hv
  have hx := B.exec
  have hb := B.bytes
  have hr := B.returns
  have hlocks := B.notSynchronized
  have hts := atoms_spec (ws := (Cond.code yJx4a65c_get_915e3 cJx4a65c_get_915e3 2 (some (.object "java/lang/Object")) :: ALLW)) B.pre
  have hta : ∀ w ∈ ALLW, w.before ([.ref la, .int p0] : List Value).toArray s = true := fun w h => hts w (List.mem_cons_of_mem _ h)
  have hown : s.vm.findClass RJx4a65c = some m.cls := findClass_of_methodNamed B.named
  obtain ⟨hP, hKE⟩ := hpre
  have hP : va_P (eD E) vwCl ([(la, .inr (0, [.int mo, .ref ad, .int ln]))] ++ va_pl PL pf) s.heap := hP
  have hl := lv_entry ([.ref la, .int p0]) (n := 2) (Nat.le_of_ble_eq_true rfl)
  rw [lg_entry_eq]
  generalize (lg_sl ([.ref la, .int p0]) ++ List.replicate (2 - (lg_sl ([.ref la, .int p0])).length) Slot.unset).toArray = ls at hl ⊢
  have hl : lv_has ls 2 [(0, .ref la), (1, .int p0)] := hl
  unfold wp_Jx4a65c_get_915e3 at hw
  refine lv_iload_n hx hb dJx4a65c_get_915e3_0 rfl (lv_at hl 1 rfl) ?_
  refine lv_aload_n hx hb dJx4a65c_get_915e3_1 rfl (lv_at hl 0 rfl) ?_
  refine va_get (D := eD E) (ci := 0) (v := .int ln) (C := RJx4a65c) (T := TJx4a65c) (N := 3) hx hb hta lay_AL hown hKE.1 hP 0 rfl rfl 2 (by decide) (hta _ tw_42) (fun _ h9 => h9) rfl dJx4a65c_get_915e3_2 ?_
  have hPc : va_P (eD E) vwCl [] s.heap := va_P_nil
  refine vp_callSi (va_Run.run (va_runS (As := [.int p0, .int ln]) (rest := []) ⟨hx, hb, hml, hown, hta⟩ (c_J15_checkIndex_7cf53 E l p0 ln _ hw) (pcS (n := 2) hta tw_169 tw_167 tw_16 tw_168 rfl rfl hd_J15_checkIndex_7cf53 ⟨Nat.le_of_ble_eq_true rfl, Nat.le_of_ble_eq_true rfl⟩) ⟨fbR, fun U hU hW => ⟨rfl, preR.mk hPc hKE hU hW⟩⟩ rfl rfl hl.1 rfl (lv_room (Nat.le_of_ble_eq_true rfl)) dJx4a65c_get_915e3_5 ⟨Nat.le_of_ble_eq_true rfl, Nat.le_of_ble_eq_true rfl⟩)) (fun r_36 hw => ?_)
  refine lv_pop hx hb dJx4a65c_get_915e3_8 rfl ?_
  refine lv_aload_n hx hb dJx4a65c_get_915e3_9 rfl (lv_at hl 0 rfl) ?_
  refine lv_iload_n hx hb dJx4a65c_get_915e3_10 rfl (lv_at hl 1 rfl) ?_
  have hPc : va_P (eD E) vwCl (wL la mo ad ln PL pf) s.heap := hP
  refine va_csq (va_Run.run (va_runV (As := [.int p0]) (rest := []) ⟨hx, hb, hml, hown, hta⟩ (c_Jx4a65c_elementData_915e3 E l la mo ad ln PL pf p0 _ hw) (pcV (n := 1) hta tw_176 tw_173 tw_4 tw_174 tw_175 rfl rfl hd_Jx4a65c_elementData_915e3 ⟨Nat.le_of_ble_eq_true rfl, Nat.le_of_ble_eq_true rfl⟩) ⟨fbR, va_recv hKE.1 hP (ci := 0) (q0 := 0) rfl rfl, fun U hU hW => ⟨rfl, preR.mk hPc hKE hU hW⟩⟩ rfl rfl hl.1 rfl (lv_room (Nat.le_of_ble_eq_true rfl)) dJx4a65c_get_915e3_11 ⟨Nat.le_of_ble_eq_true rfl, Nat.le_of_ble_eq_true rfl⟩)) (fun r_37 hw => ?_)
  exact W.aret (v := va_rf r_37) hx hb hr (Or.inl ⟨_, rfl⟩) (va_rf_or _) (fun t ht hW => ⟨r_37, rfl, hw, ht⟩) (fun q hq => nomatch hq) dJx4a65c_get_915e3_14
def wp_X2_errors (E : EV) (post : Int32 → Prop) (gx : Nat → Int32) (lt : Option Nat) (mo : Int32) (ad : Nat) (ln : Int32) (PL : List Nat) (pf : Nat → va_E) (pw : Nat → Int64) (pk : Int32) (lw : Nat → Int64) (lk : Int32) (ik : Nat → Int32) : Prop := post (gx 7)
set_option maxHeartbeats 4000000 in
set_option maxRecDepth 100000 in
theorem c_X2_errors (E : EV) (l : Launch) (ax : Nat → Nat) (gx : Nat → Int32) (lt : Option Nat) (mo : Int32) (ad : Nat) (ln : Int32) (PL : List Nat) (pf : Nat → va_E) (pw : Nat → Int64) (pk : Int32) (lw : Nat → Int64) (lk : Int32) (ik : Nat → Int32) (post : Int32 → Prop) (hw : wp_X2_errors E post gx lt mo ad ln PL pf pw pk lw lk ik) : Met l yX2_errors (Cond.code yX2_errors cX2_errors 1 (some .int) :: ALLW) ({ frames := 0, cells := 0, slots := 0, locals := 0 } : Room) (va_Pc [.ref (ax 0)] (preR E (wX E ax gx lt mo ad ln PL pf pw pk lw lk ik))) (vp_Si post) 0 0 (fun _ => False) := by
  refine Met.ofW (cc := cX2_errors) (maxL := 1) (ret := (some .int)) (by decide) rfl ?_
  intro p e s m args below meth c s₁ B hml hv
  obtain ⟨rfl, hpre⟩ := hv
  have hx := B.exec
  have hb := B.bytes
  have hr := B.returns
  have hlocks := B.notSynchronized
  have hts := atoms_spec (ws := (Cond.code yX2_errors cX2_errors 1 (some .int) :: ALLW)) B.pre
  have hta : ∀ w ∈ ALLW, w.before ([.ref (ax 0)] : List Value).toArray s = true := fun w h => hts w (List.mem_cons_of_mem _ h)
  have hown : s.vm.findClass RX2 = some m.cls := findClass_of_methodNamed B.named
  obtain ⟨hP, hKE⟩ := hpre
  have hP : va_P (eD E) vwCl ([((ax 0), .inr (3, [.ref (ax 1), .ref (ax 2), .ref (ax 4), .ref (ax 6), .int (gx 4), .int (gx 5), .int (gx 6), .int (gx 7), va_rf lt, .int (gx 9), .int (gx 10), .int (gx 11), .int (gx 12), .int (gx 13), .int (gx 14), .int (gx 15), .int (gx 16), .int (gx 17), .int (gx 18)])), ((ax 1), .inr (0, [.int mo, .ref ad, .int ln])), ((ax 2), .inr (2, [.ref (ax 3), .int pk])), ((ax 3), .inl (eC E 1, 157, .inr (.inl pw))), ((ax 4), .inr (2, [.ref (ax 5), .int lk])), ((ax 5), .inl (eC E 1, 157, .inr (.inl lw))), ((ax 6), .inl (eC E 0, 3, .inl ik))] ++ va_pl PL pf) s.heap := hP
  have hl := lv_entry ([.ref (ax 0)]) (n := 1) (Nat.le_of_ble_eq_true rfl)
  rw [lg_entry_eq]
  generalize (lg_sl ([.ref (ax 0)]) ++ List.replicate (1 - (lg_sl ([.ref (ax 0)])).length) Slot.unset).toArray = ls at hl ⊢
  have hl : lv_has ls 1 [(0, .ref (ax 0))] := hl
  unfold wp_X2_errors at hw
  refine lv_aload_n hx hb dX2_errors_0 rfl (lv_at hl 0 rfl) ?_
  refine va_get (D := eD E) (ci := 3) (v := .int (gx 7)) (C := RX2) (T := TX2) (N := 19) hx hb hta lay_X2 hown hKE.1 hP 0 rfl rfl 7 (by decide) (hta _ tw_75) (fun _ h9 => h9) rfl dX2_errors_1 ?_
  exact W.iret (v := (gx 7)) hx hb hr (fun t ht hW => ⟨(gx 7), rfl, hw, ht⟩) (fun q hq => nomatch hq) dX2_errors_4
def wp_X2_queued (E : EV) (post : Int32 → Prop) (gx : Nat → Int32) (lt : Option Nat) (mo : Int32) (ad : Nat) (ln : Int32) (PL : List Nat) (pf : Nat → va_E) (pw : Nat → Int64) (pk : Int32) (lw : Nat → Int64) (lk : Int32) (ik : Nat → Int32) : Prop := (wp_Jx4a65c_size_8abf5 E (fun r_38 : Int32 => post r_38) mo ad ln PL pf)
set_option maxHeartbeats 4000000 in
set_option maxRecDepth 100000 in
theorem c_X2_queued (E : EV) (l : Launch) (ax : Nat → Nat) (gx : Nat → Int32) (lt : Option Nat) (mo : Int32) (ad : Nat) (ln : Int32) (PL : List Nat) (pf : Nat → va_E) (pw : Nat → Int64) (pk : Int32) (lw : Nat → Int64) (lk : Int32) (ik : Nat → Int32) (post : Int32 → Prop) (hw : wp_X2_queued E post gx lt mo ad ln PL pf pw pk lw lk ik) : Met l yX2_queued (Cond.code yX2_queued cX2_queued 1 (some .int) :: ALLW) ({ frames := 1, cells := 0, slots := 0, locals := 20 } : Room) (va_Pc [.ref (ax 0)] (preR E (wX E ax gx lt mo ad ln PL pf pw pk lw lk ik))) (vp_Si post) 0 0 (fun _ => False) := by
  refine Met.ofW (cc := cX2_queued) (maxL := 1) (ret := (some .int)) (by decide) rfl ?_
  intro p e s m args below meth c s₁ B hml hv
  obtain ⟨rfl, hpre⟩ := hv
  have hx := B.exec
  have hb := B.bytes
  have hr := B.returns
  have hlocks := B.notSynchronized
  have hts := atoms_spec (ws := (Cond.code yX2_queued cX2_queued 1 (some .int) :: ALLW)) B.pre
  have hta : ∀ w ∈ ALLW, w.before ([.ref (ax 0)] : List Value).toArray s = true := fun w h => hts w (List.mem_cons_of_mem _ h)
  have hown : s.vm.findClass RX2 = some m.cls := findClass_of_methodNamed B.named
  obtain ⟨hP, hKE⟩ := hpre
  have hP : va_P (eD E) vwCl ([((ax 0), .inr (3, [.ref (ax 1), .ref (ax 2), .ref (ax 4), .ref (ax 6), .int (gx 4), .int (gx 5), .int (gx 6), .int (gx 7), va_rf lt, .int (gx 9), .int (gx 10), .int (gx 11), .int (gx 12), .int (gx 13), .int (gx 14), .int (gx 15), .int (gx 16), .int (gx 17), .int (gx 18)])), ((ax 1), .inr (0, [.int mo, .ref ad, .int ln])), ((ax 2), .inr (2, [.ref (ax 3), .int pk])), ((ax 3), .inl (eC E 1, 157, .inr (.inl pw))), ((ax 4), .inr (2, [.ref (ax 5), .int lk])), ((ax 5), .inl (eC E 1, 157, .inr (.inl lw))), ((ax 6), .inl (eC E 0, 3, .inl ik))] ++ va_pl PL pf) s.heap := hP
  have hl := lv_entry ([.ref (ax 0)]) (n := 1) (Nat.le_of_ble_eq_true rfl)
  rw [lg_entry_eq]
  generalize (lg_sl ([.ref (ax 0)]) ++ List.replicate (1 - (lg_sl ([.ref (ax 0)])).length) Slot.unset).toArray = ls at hl ⊢
  have hl : lv_has ls 1 [(0, .ref (ax 0))] := hl
  unfold wp_X2_queued at hw
  refine lv_aload_n hx hb dX2_queued_0 rfl (lv_at hl 0 rfl) ?_
  refine va_get (D := eD E) (ci := 3) (v := .ref (ax 1)) (C := RX2) (T := TX2) (N := 19) hx hb hta lay_X2 hown hKE.1 hP 0 rfl rfl 0 (by decide) (hta _ tw_68) (fun _ h9 => h9) rfl dX2_queued_1 ?_
  have hPc : va_P (eD E) vwCl ([((ax 1), .inr (0, [.int mo, .ref ad, .int ln]))] ++ va_pl PL pf) s.heap := hP.part [1] rfl
  refine vp_callSi (va_Run.run (va_runV (As := []) (rest := []) ⟨hx, hb, hml, hown, hta⟩ (c_Jx4a65c_size_8abf5 E l (ax 1) mo ad ln PL pf _ hw) (pcV (n := 0) hta tw_138 tw_135 tw_4 tw_136 tw_137 rfl rfl hd_Jx4a65c_size_8abf5 ⟨Nat.le_of_ble_eq_true rfl, Nat.le_of_ble_eq_true rfl⟩) ⟨fbR, va_recv hKE.1 hP (ci := 0) (q0 := 1) rfl rfl, fun U hU hW => ⟨rfl, preR.mk hPc hKE hU hW⟩⟩ rfl rfl hl.1 rfl (lv_room (Nat.le_of_ble_eq_true rfl)) dX2_queued_4 ⟨Nat.le_of_ble_eq_true rfl, Nat.le_of_ble_eq_true rfl⟩)) (fun r_38 hw => ?_)
  exact W.iret (v := r_38) hx hb hr (fun t ht hW => ⟨r_38, rfl, hw, ht⟩) (fun q hq => nomatch hq) dX2_queued_7
def wp_X2_pending (E : EV) (post : Int32 → Prop) (gx : Nat → Int32) (lt : Option Nat) (mo : Int32) (ad : Nat) (ln : Int32) (PL : List Nat) (pf : Nat → va_E) (pw : Nat → Int64) (pk : Int32) (lw : Nat → Int64) (lk : Int32) (ik : Nat → Int32) : Prop := post (gx 6)
set_option maxHeartbeats 4000000 in
set_option maxRecDepth 100000 in
theorem c_X2_pending (E : EV) (l : Launch) (ax : Nat → Nat) (gx : Nat → Int32) (lt : Option Nat) (mo : Int32) (ad : Nat) (ln : Int32) (PL : List Nat) (pf : Nat → va_E) (pw : Nat → Int64) (pk : Int32) (lw : Nat → Int64) (lk : Int32) (ik : Nat → Int32) (post : Int32 → Prop) (hw : wp_X2_pending E post gx lt mo ad ln PL pf pw pk lw lk ik) : Met l yX2_pending (Cond.code yX2_pending cX2_pending 1 (some .int) :: ALLW) ({ frames := 0, cells := 0, slots := 0, locals := 0 } : Room) (va_Pc [.ref (ax 0)] (preR E (wX E ax gx lt mo ad ln PL pf pw pk lw lk ik))) (vp_Si post) 0 0 (fun _ => False) := by
  refine Met.ofW (cc := cX2_pending) (maxL := 1) (ret := (some .int)) (by decide) rfl ?_
  intro p e s m args below meth c s₁ B hml hv
  obtain ⟨rfl, hpre⟩ := hv
  have hx := B.exec
  have hb := B.bytes
  have hr := B.returns
  have hlocks := B.notSynchronized
  have hts := atoms_spec (ws := (Cond.code yX2_pending cX2_pending 1 (some .int) :: ALLW)) B.pre
  have hta : ∀ w ∈ ALLW, w.before ([.ref (ax 0)] : List Value).toArray s = true := fun w h => hts w (List.mem_cons_of_mem _ h)
  have hown : s.vm.findClass RX2 = some m.cls := findClass_of_methodNamed B.named
  obtain ⟨hP, hKE⟩ := hpre
  have hP : va_P (eD E) vwCl ([((ax 0), .inr (3, [.ref (ax 1), .ref (ax 2), .ref (ax 4), .ref (ax 6), .int (gx 4), .int (gx 5), .int (gx 6), .int (gx 7), va_rf lt, .int (gx 9), .int (gx 10), .int (gx 11), .int (gx 12), .int (gx 13), .int (gx 14), .int (gx 15), .int (gx 16), .int (gx 17), .int (gx 18)])), ((ax 1), .inr (0, [.int mo, .ref ad, .int ln])), ((ax 2), .inr (2, [.ref (ax 3), .int pk])), ((ax 3), .inl (eC E 1, 157, .inr (.inl pw))), ((ax 4), .inr (2, [.ref (ax 5), .int lk])), ((ax 5), .inl (eC E 1, 157, .inr (.inl lw))), ((ax 6), .inl (eC E 0, 3, .inl ik))] ++ va_pl PL pf) s.heap := hP
  have hl := lv_entry ([.ref (ax 0)]) (n := 1) (Nat.le_of_ble_eq_true rfl)
  rw [lg_entry_eq]
  generalize (lg_sl ([.ref (ax 0)]) ++ List.replicate (1 - (lg_sl ([.ref (ax 0)])).length) Slot.unset).toArray = ls at hl ⊢
  have hl : lv_has ls 1 [(0, .ref (ax 0))] := hl
  unfold wp_X2_pending at hw
  refine lv_aload_n hx hb dX2_pending_0 rfl (lv_at hl 0 rfl) ?_
  refine va_get (D := eD E) (ci := 3) (v := .int (gx 6)) (C := RX2) (T := TX2) (N := 19) hx hb hta lay_X2 hown hKE.1 hP 0 rfl rfl 6 (by decide) (hta _ tw_74) (fun _ h9 => h9) rfl dX2_pending_1 ?_
  exact W.iret (v := (gx 6)) hx hb hr (fun t ht hW => ⟨(gx 6), rfl, hw, ht⟩) (fun q hq => nomatch hq) dX2_pending_4
def wp_X2_firstCommand (E : EV) (post : Option Nat → Prop) (gx : Nat → Int32) (lt : Option Nat) (mo : Int32) (ad : Nat) (ln : Int32) (PL : List Nat) (pf : Nat → va_E) (pw : Nat → Int64) (pk : Int32) (lw : Nat → Int64) (lk : Int32) (ik : Nat → Int32) : Prop := (wp_Jx4a65c_isEmpty_aae02 E (fun r_39 : Int32 => ((r_39 = 0 → (wp_Jx4a65c_get_915e3 E (fun r_41 : Option Nat => ((r_41 = none → post none) ∧ (∀ y_42 : Nat, r_41 = some y_42 → (∃ ckz_43 cxz_43 cyz_43 cpz_43 : Int32, y_42 ∈ PL ∧ pf y_42 = .inr (1, [.int ckz_43, .int cxz_43, .int cyz_43, .int cpz_43]) ∧ post (some y_42))))) mo ad ln PL pf 0)) ∧ (¬ (r_39 = 0) → post none))) mo ad ln PL pf)
set_option maxHeartbeats 4000000 in
set_option maxRecDepth 100000 in
theorem c_X2_firstCommand (E : EV) (l : Launch) (ax : Nat → Nat) (gx : Nat → Int32) (lt : Option Nat) (mo : Int32) (ad : Nat) (ln : Int32) (PL : List Nat) (pf : Nat → va_E) (pw : Nat → Int64) (pk : Int32) (lw : Nat → Int64) (lk : Int32) (ik : Nat → Int32) (post : Option Nat → Prop) (hw : wp_X2_firstCommand E post gx lt mo ad ln PL pf pw pk lw lk ik) : Met l yX2_firstCommand (Cond.code yX2_firstCommand cX2_firstCommand 1 (some (.object "PlotKernel$Command")) :: ALLW) ({ frames := 3, cells := 0, slots := 0, locals := 64 } : Room) (va_Pc [.ref (ax 0)] (preR E (wX E ax gx lt mo ad ln PL pf pw pk lw lk ik))) (va_Sq post) 0 0 (fun _ => False) := by
  refine Met.ofW (cc := cX2_firstCommand) (maxL := 1) (ret := (some (.object "PlotKernel$Command"))) (by decide) rfl ?_
  intro p e s m args below meth c s₁ B hml hv
  obtain ⟨rfl, hpre⟩ := hv
  have hx := B.exec
  have hb := B.bytes
  have hr := B.returns
  have hlocks := B.notSynchronized
  have hts := atoms_spec (ws := (Cond.code yX2_firstCommand cX2_firstCommand 1 (some (.object "PlotKernel$Command")) :: ALLW)) B.pre
  have hta : ∀ w ∈ ALLW, w.before ([.ref (ax 0)] : List Value).toArray s = true := fun w h => hts w (List.mem_cons_of_mem _ h)
  have hown : s.vm.findClass RX2 = some m.cls := findClass_of_methodNamed B.named
  obtain ⟨hP, hKE⟩ := hpre
  have hP : va_P (eD E) vwCl ([((ax 0), .inr (3, [.ref (ax 1), .ref (ax 2), .ref (ax 4), .ref (ax 6), .int (gx 4), .int (gx 5), .int (gx 6), .int (gx 7), va_rf lt, .int (gx 9), .int (gx 10), .int (gx 11), .int (gx 12), .int (gx 13), .int (gx 14), .int (gx 15), .int (gx 16), .int (gx 17), .int (gx 18)])), ((ax 1), .inr (0, [.int mo, .ref ad, .int ln])), ((ax 2), .inr (2, [.ref (ax 3), .int pk])), ((ax 3), .inl (eC E 1, 157, .inr (.inl pw))), ((ax 4), .inr (2, [.ref (ax 5), .int lk])), ((ax 5), .inl (eC E 1, 157, .inr (.inl lw))), ((ax 6), .inl (eC E 0, 3, .inl ik))] ++ va_pl PL pf) s.heap := hP
  have hl := lv_entry ([.ref (ax 0)]) (n := 1) (Nat.le_of_ble_eq_true rfl)
  rw [lg_entry_eq]
  generalize (lg_sl ([.ref (ax 0)]) ++ List.replicate (1 - (lg_sl ([.ref (ax 0)])).length) Slot.unset).toArray = ls at hl ⊢
  have hl : lv_has ls 1 [(0, .ref (ax 0))] := hl
  unfold wp_X2_firstCommand at hw
  refine lv_aload_n hx hb dX2_firstCommand_0 rfl (lv_at hl 0 rfl) ?_
  refine va_get (D := eD E) (ci := 3) (v := .ref (ax 1)) (C := RX2) (T := TX2) (N := 19) hx hb hta lay_X2 hown hKE.1 hP 0 rfl rfl 0 (by decide) (hta _ tw_68) (fun _ h9 => h9) rfl dX2_firstCommand_1 ?_
  have hPc : va_P (eD E) vwCl ([((ax 1), .inr (0, [.int mo, .ref ad, .int ln]))] ++ va_pl PL pf) s.heap := hP.part [1] rfl
  refine vp_callSi (va_Run.run (va_runV (As := []) (rest := []) ⟨hx, hb, hml, hown, hta⟩ (c_Jx4a65c_isEmpty_aae02 E l (ax 1) mo ad ln PL pf _ hw) (pcV (n := 0) hta tw_162 tw_159 tw_4 tw_160 tw_161 rfl rfl hd_Jx4a65c_isEmpty_aae02 ⟨Nat.le_of_ble_eq_true rfl, Nat.le_of_ble_eq_true rfl⟩) ⟨fbR, va_recv hKE.1 hP (ci := 0) (q0 := 1) rfl rfl, fun U hU hW => ⟨rfl, preR.mk hPc hKE hU hW⟩⟩ rfl rfl hl.1 rfl (lv_room (Nat.le_of_ble_eq_true rfl)) dX2_firstCommand_4 ⟨Nat.le_of_ble_eq_true rfl, Nat.le_of_ble_eq_true rfl⟩)) (fun r_39 hw => ?_)
  refine lv_if_eq (tgt := 14) hx hb dX2_firstCommand_7 (by decide) (fun c_40 => ?_) (fun c_40 => ?_)
  · have hw := hw.1 c_40
    refine lv_aload_n hx hb dX2_firstCommand_14 rfl (lv_at hl 0 rfl) ?_
    refine va_get (D := eD E) (ci := 3) (v := .ref (ax 1)) (C := RX2) (T := TX2) (N := 19) hx hb hta lay_X2 hown hKE.1 hP 0 rfl rfl 0 (by decide) (hta _ tw_68) (fun _ h9 => h9) rfl dX2_firstCommand_15 ?_
    refine lv_iconst (v := 0) hx hb dX2_firstCommand_18 (by decide) ?_
    have hPc : va_P (eD E) vwCl ([((ax 1), .inr (0, [.int mo, .ref ad, .int ln]))] ++ va_pl PL pf) s.heap := hP.part [1] rfl
    refine va_csq (va_Run.run (va_runV (As := [.int 0]) (rest := []) ⟨hx, hb, hml, hown, hta⟩ (c_Jx4a65c_get_915e3 E l (ax 1) mo ad ln PL pf 0 _ hw) (pcV (n := 1) hta tw_166 tw_163 tw_4 tw_164 tw_165 rfl rfl hd_Jx4a65c_get_915e3 ⟨Nat.le_of_ble_eq_true rfl, Nat.le_of_ble_eq_true rfl⟩) ⟨fbR, va_recv hKE.1 hP (ci := 0) (q0 := 1) rfl rfl, fun U hU hW => ⟨rfl, preR.mk hPc hKE hU hW⟩⟩ rfl rfl hl.1 rfl (lv_room (Nat.le_of_ble_eq_true rfl)) dX2_firstCommand_19 ⟨Nat.le_of_ble_eq_true rfl, Nat.le_of_ble_eq_true rfl⟩)) (fun r_41 hw => ?_)
    rcases r_41 with _ | y_42
    · have hw := hw.1 rfl
      refine lv_castN hx hb dX2_firstCommand_22 ?_
      exact W.aret (v := .null) hx hb hr (Or.inl ⟨_, rfl⟩) (Or.inl rfl) (fun t ht hW => ⟨none, rfl, hw, ht⟩) (fun q hq => nomatch hq) dX2_firstCommand_25
    · have hw := hw.2 y_42 rfl
      obtain ⟨ckz_43, cxz_43, cyz_43, cpz_43, hyz_43, hfz_43, hw⟩ := hw
      obtain ⟨i_44, hi_44⟩ := va_pl_get (X := [((ax 0), .inr (3, [.ref (ax 1), .ref (ax 2), .ref (ax 4), .ref (ax 6), .int (gx 4), .int (gx 5), .int (gx 6), .int (gx 7), va_rf lt, .int (gx 9), .int (gx 10), .int (gx 11), .int (gx 12), .int (gx 13), .int (gx 14), .int (gx 15), .int (gx 16), .int (gx 17), .int (gx 18)])), ((ax 1), .inr (0, [.int mo, .ref ad, .int ln])), ((ax 2), .inr (2, [.ref (ax 3), .int pk])), ((ax 3), .inl (eC E 1, 157, .inr (.inl pw))), ((ax 4), .inr (2, [.ref (ax 5), .int lk])), ((ax 5), .inl (eC E 1, 157, .inr (.inl lw))), ((ax 6), .inl (eC E 0, 3, .inl ik))]) (f := pf) hyz_43
      rw [hfz_43] at hi_44
      refine va_castS hx hb hown (hta _ tw_177) (hKE.1.1 1 (RX0, TX0, 4) rfl).2 (va_recv hKE.1 hP (ci := 1) (q0 := i_44) rfl hi_44) dX2_firstCommand_22 ?_
      exact W.aret (v := .ref y_42) hx hb hr (Or.inl ⟨_, rfl⟩) (Or.inr ⟨_, rfl⟩) (fun t ht hW => ⟨(some y_42), rfl, hw, ht⟩) (fun q hq => nomatch hq) dX2_firstCommand_25
  · have hw := hw.2 c_40
    refine lv_null hx hb dX2_firstCommand_10 ?_
    refine lv_goto (tgt := 25) hx hb dX2_firstCommand_11 (by decide) ?_
    exact W.aret (v := .null) hx hb hr (Or.inl ⟨_, rfl⟩) (Or.inl rfl) (fun t ht hW => ⟨none, rfl, hw, ht⟩) (fun q hq => nomatch hq) dX2_firstCommand_25
def wp_X2_inkOf (E : EV) (post : Int32 → Prop) (gx : Nat → Int32) (lt : Option Nat) (mo : Int32) (ad : Nat) (ln : Int32) (PL : List Nat) (pf : Nat → va_E) (pw : Nat → Int64) (pk : Int32) (lw : Nat → Int64) (lk : Int32) (ik : Nat → Int32) (p0 : Int32) : Prop := ((p0 < 0 → post 0) ∧ (¬ (p0 < 0) → ((3 ≤ p0 → post 0) ∧ (¬ (3 ≤ p0) → (vp_in p0 3 ∧ post (ik p0.toNatClampNeg))))))
set_option maxHeartbeats 4000000 in
set_option maxRecDepth 100000 in
theorem c_X2_inkOf (E : EV) (l : Launch) (ax : Nat → Nat) (gx : Nat → Int32) (lt : Option Nat) (mo : Int32) (ad : Nat) (ln : Int32) (PL : List Nat) (pf : Nat → va_E) (pw : Nat → Int64) (pk : Int32) (lw : Nat → Int64) (lk : Int32) (ik : Nat → Int32) (p0 : Int32) (post : Int32 → Prop) (hw : wp_X2_inkOf E post gx lt mo ad ln PL pf pw pk lw lk ik p0) : Met l yX2_inkOf (Cond.code yX2_inkOf cX2_inkOf 2 (some .int) :: ALLW) ({ frames := 0, cells := 0, slots := 0, locals := 0 } : Room) (va_Pc [.ref (ax 0), .int p0] (preR E (wX E ax gx lt mo ad ln PL pf pw pk lw lk ik))) (vp_Si post) 0 0 (fun _ => False) := by
  refine Met.ofW (cc := cX2_inkOf) (maxL := 2) (ret := (some .int)) (by decide) rfl ?_
  intro p e s m args below meth c s₁ B hml hv
  obtain ⟨rfl, hpre⟩ := hv
  have hx := B.exec
  have hb := B.bytes
  have hr := B.returns
  have hlocks := B.notSynchronized
  have hts := atoms_spec (ws := (Cond.code yX2_inkOf cX2_inkOf 2 (some .int) :: ALLW)) B.pre
  have hta : ∀ w ∈ ALLW, w.before ([.ref (ax 0), .int p0] : List Value).toArray s = true := fun w h => hts w (List.mem_cons_of_mem _ h)
  have hown : s.vm.findClass RX2 = some m.cls := findClass_of_methodNamed B.named
  obtain ⟨hP, hKE⟩ := hpre
  have hP : va_P (eD E) vwCl ([((ax 0), .inr (3, [.ref (ax 1), .ref (ax 2), .ref (ax 4), .ref (ax 6), .int (gx 4), .int (gx 5), .int (gx 6), .int (gx 7), va_rf lt, .int (gx 9), .int (gx 10), .int (gx 11), .int (gx 12), .int (gx 13), .int (gx 14), .int (gx 15), .int (gx 16), .int (gx 17), .int (gx 18)])), ((ax 1), .inr (0, [.int mo, .ref ad, .int ln])), ((ax 2), .inr (2, [.ref (ax 3), .int pk])), ((ax 3), .inl (eC E 1, 157, .inr (.inl pw))), ((ax 4), .inr (2, [.ref (ax 5), .int lk])), ((ax 5), .inl (eC E 1, 157, .inr (.inl lw))), ((ax 6), .inl (eC E 0, 3, .inl ik))] ++ va_pl PL pf) s.heap := hP
  have hl := lv_entry ([.ref (ax 0), .int p0]) (n := 2) (Nat.le_of_ble_eq_true rfl)
  rw [lg_entry_eq]
  generalize (lg_sl ([.ref (ax 0), .int p0]) ++ List.replicate (2 - (lg_sl ([.ref (ax 0), .int p0])).length) Slot.unset).toArray = ls at hl ⊢
  have hl : lv_has ls 2 [(0, .ref (ax 0)), (1, .int p0)] := hl
  unfold wp_X2_inkOf at hw
  refine lv_iload_n hx hb dX2_inkOf_0 rfl (lv_at hl 1 rfl) ?_
  refine lv_if_lt (tgt := 22) hx hb dX2_inkOf_1 (by decide) (fun c_45 => ?_) (fun c_45 => ?_)
  · have hw := hw.1 c_45
    refine lv_iconst (v := 0) hx hb dX2_inkOf_22 (by decide) ?_
    exact W.iret (v := 0) hx hb hr (fun t ht hW => ⟨0, rfl, hw, ht⟩) (fun q hq => nomatch hq) dX2_inkOf_23
  · have hw := hw.2 c_45
    refine lv_iload_n hx hb dX2_inkOf_4 rfl (lv_at hl 1 rfl) ?_
    refine lv_aload_n hx hb dX2_inkOf_5 rfl (lv_at hl 0 rfl) ?_
    refine va_get (D := eD E) (ci := 3) (v := .ref (ax 6)) (C := RX2) (T := TX2) (N := 19) hx hb hta lay_X2 hown hKE.1 hP 0 rfl rfl 3 (by decide) (hta _ tw_71) (fun _ h9 => h9) rfl dX2_inkOf_6 ?_
    refine va_alen hx hb hKE.1 hP 6 0 rfl rfl (v := 3) (by show Int32.ofNat 3 = 3; decide) dX2_inkOf_9 ?_
    refine lv_icmp_ge (tgt := 22) hx hb dX2_inkOf_10 (by decide) (fun c_46 => ?_) (fun c_46 => ?_)
    · have hw := hw.1 c_46
      refine lv_iconst (v := 0) hx hb dX2_inkOf_22 (by decide) ?_
      exact W.iret (v := 0) hx hb hr (fun t ht hW => ⟨0, rfl, hw, ht⟩) (fun q hq => nomatch hq) dX2_inkOf_23
    · have hw := hw.2 c_46
      refine lv_aload_n hx hb dX2_inkOf_13 rfl (lv_at hl 0 rfl) ?_
      refine va_get (D := eD E) (ci := 3) (v := .ref (ax 6)) (C := RX2) (T := TX2) (N := 19) hx hb hta lay_X2 hown hKE.1 hP 0 rfl rfl 3 (by decide) (hta _ tw_71) (fun _ h9 => h9) rfl dX2_inkOf_14 ?_
      refine lv_iload_n hx hb dX2_inkOf_17 rfl (lv_at hl 1 rfl) ?_
      obtain ⟨hi_47, hw⟩ := hw
      refine va_iald hx hb hKE.1 hP 6 0 rfl rfl hi_47 dX2_inkOf_18 ?_
      refine lv_goto (tgt := 23) hx hb dX2_inkOf_19 (by decide) ?_
      exact W.iret (v := (ik p0.toNatClampNeg)) hx hb hr (fun t ht hW => ⟨(ik p0.toNatClampNeg), rfl, hw, ht⟩) (fun q hq => nomatch hq) dX2_inkOf_23
def wp_X2_lacksInk (E : EV) (post : Int32 → Prop) (gx : Nat → Int32) (lt : Option Nat) (mo : Int32) (ad : Nat) (ln : Int32) (PL : List Nat) (pf : Nat → va_E) (pw : Nat → Int64) (pk : Int32) (lw : Nat → Int64) (lk : Int32) (ik : Nat → Int32) (cm : Nat) : Prop := (∃ ckz_48 cxz_48 cyz_48 cpz_48 : Int32, cm ∈ PL ∧ pf cm = .inr (1, [.int ckz_48, .int cxz_48, .int cyz_48, .int cpz_48]) ∧ (wp_X0_draws E (fun r_50 : Int32 => ((r_50 = 0 → post 0) ∧ (¬ (r_50 = 0) → (((gx 15) = 0 → post 0) ∧ (¬ (gx 15) = 0 → (wp_X2_inkOf E (fun r_53 : Int32 => ((r_53 = 0 → post 1) ∧ (¬ (r_53 = 0) → post 0))) gx lt mo ad ln PL pf pw pk lw lk ik (gx 16))))))) ckz_48 cxz_48 cyz_48 cpz_48))
set_option maxHeartbeats 4000000 in
set_option maxRecDepth 100000 in
theorem c_X2_lacksInk (E : EV) (l : Launch) (ax : Nat → Nat) (gx : Nat → Int32) (lt : Option Nat) (mo : Int32) (ad : Nat) (ln : Int32) (PL : List Nat) (pf : Nat → va_E) (pw : Nat → Int64) (pk : Int32) (lw : Nat → Int64) (lk : Int32) (ik : Nat → Int32) (cm : Nat) (post : Int32 → Prop) (hw : wp_X2_lacksInk E post gx lt mo ad ln PL pf pw pk lw lk ik cm) : Met l yX2_lacksInk (Cond.code yX2_lacksInk cX2_lacksInk 2 (some .boolean) :: ALLW) ({ frames := 1, cells := 0, slots := 0, locals := 21 } : Room) (va_Pc [.ref (ax 0), .ref cm] (preR E (wX E ax gx lt mo ad ln PL pf pw pk lw lk ik))) (vp_Si post) 0 0 (fun _ => False) := by
  refine Met.ofW (cc := cX2_lacksInk) (maxL := 2) (ret := (some .boolean)) (by decide) rfl ?_
  intro p e s m args below meth c s₁ B hml hv
  obtain ⟨rfl, hpre⟩ := hv
  have hx := B.exec
  have hb := B.bytes
  have hr := B.returns
  have hlocks := B.notSynchronized
  have hts := atoms_spec (ws := (Cond.code yX2_lacksInk cX2_lacksInk 2 (some .boolean) :: ALLW)) B.pre
  have hta : ∀ w ∈ ALLW, w.before ([.ref (ax 0), .ref cm] : List Value).toArray s = true := fun w h => hts w (List.mem_cons_of_mem _ h)
  have hown : s.vm.findClass RX2 = some m.cls := findClass_of_methodNamed B.named
  obtain ⟨hP, hKE⟩ := hpre
  have hP : va_P (eD E) vwCl ([((ax 0), .inr (3, [.ref (ax 1), .ref (ax 2), .ref (ax 4), .ref (ax 6), .int (gx 4), .int (gx 5), .int (gx 6), .int (gx 7), va_rf lt, .int (gx 9), .int (gx 10), .int (gx 11), .int (gx 12), .int (gx 13), .int (gx 14), .int (gx 15), .int (gx 16), .int (gx 17), .int (gx 18)])), ((ax 1), .inr (0, [.int mo, .ref ad, .int ln])), ((ax 2), .inr (2, [.ref (ax 3), .int pk])), ((ax 3), .inl (eC E 1, 157, .inr (.inl pw))), ((ax 4), .inr (2, [.ref (ax 5), .int lk])), ((ax 5), .inl (eC E 1, 157, .inr (.inl lw))), ((ax 6), .inl (eC E 0, 3, .inl ik))] ++ va_pl PL pf) s.heap := hP
  have hl := lv_entry ([.ref (ax 0), .ref cm]) (n := 2) (Nat.le_of_ble_eq_true rfl)
  rw [lg_entry_eq]
  generalize (lg_sl ([.ref (ax 0), .ref cm]) ++ List.replicate (2 - (lg_sl ([.ref (ax 0), .ref cm])).length) Slot.unset).toArray = ls at hl ⊢
  have hl : lv_has ls 2 [(0, .ref (ax 0)), (1, .ref cm)] := hl
  unfold wp_X2_lacksInk at hw
  refine lv_aload_n hx hb dX2_lacksInk_0 rfl (lv_at hl 1 rfl) ?_
  obtain ⟨ckz_48, cxz_48, cyz_48, cpz_48, hyz_48, hfz_48, hw⟩ := hw
  obtain ⟨i_49, hi_49⟩ := va_pl_get (X := [((ax 0), .inr (3, [.ref (ax 1), .ref (ax 2), .ref (ax 4), .ref (ax 6), .int (gx 4), .int (gx 5), .int (gx 6), .int (gx 7), va_rf lt, .int (gx 9), .int (gx 10), .int (gx 11), .int (gx 12), .int (gx 13), .int (gx 14), .int (gx 15), .int (gx 16), .int (gx 17), .int (gx 18)])), ((ax 1), .inr (0, [.int mo, .ref ad, .int ln])), ((ax 2), .inr (2, [.ref (ax 3), .int pk])), ((ax 3), .inl (eC E 1, 157, .inr (.inl pw))), ((ax 4), .inr (2, [.ref (ax 5), .int lk])), ((ax 5), .inl (eC E 1, 157, .inr (.inl lw))), ((ax 6), .inl (eC E 0, 3, .inl ik))]) (f := pf) hyz_48
  rw [hfz_48] at hi_49
  have hPc : va_P (eD E) vwCl [(cm, .inr (1, [.int ckz_48, .int cxz_48, .int cyz_48, .int cpz_48]))] s.heap := va_one hP hi_49
  refine vp_callSi (va_Run.run (va_runVN (As := []) (rest := []) ⟨hx, hb, hml, hown, hta⟩ (c_X0_draws E l cm ckz_48 cxz_48 cyz_48 cpz_48 _ hw) (pcVN (n := 0) hta tw_224 (hKE.2.1 _ (List.mem_of_getElem? (i := 4) rfl)) tw_15 tw_223 tp_8 rfl rfl hd_X0_draws ⟨Nat.le_of_ble_eq_true rfl, Nat.le_of_ble_eq_true rfl⟩) ⟨fbR, va_recv hKE.1 hP (ci := 1) (q0 := i_49) rfl hi_49, fun U hU hW => ⟨rfl, preR.mk hPc hKE hU hW⟩⟩ rfl rfl hl.1 rfl (lv_room (Nat.le_of_ble_eq_true rfl)) dX2_lacksInk_1 ⟨Nat.le_of_ble_eq_true rfl, Nat.le_of_ble_eq_true rfl⟩)) (fun r_50 hw => ?_)
  refine lv_if_eq (tgt := 29) hx hb dX2_lacksInk_4 (by decide) (fun c_51 => ?_) (fun c_51 => ?_)
  · have hw := hw.1 c_51
    refine lv_iconst (v := 0) hx hb dX2_lacksInk_29 (by decide) ?_
    exact W.zret (v := 0) hx hb hr rfl (fun t ht hW => ⟨0, rfl, hw, ht⟩) (fun q hq => nomatch hq) dX2_lacksInk_30
  · have hw := hw.2 c_51
    refine lv_aload_n hx hb dX2_lacksInk_7 rfl (lv_at hl 0 rfl) ?_
    refine va_get (D := eD E) (ci := 3) (v := .int (gx 15)) (C := RX2) (T := TX2) (N := 19) hx hb hta lay_X2 hown hKE.1 hP 0 rfl rfl 15 (by decide) (hta _ tw_83) (fun _ h9 => h9) rfl dX2_lacksInk_8 ?_
    refine lv_if_eq (tgt := 29) hx hb dX2_lacksInk_11 (by decide) (fun c_52 => ?_) (fun c_52 => ?_)
    · have hw := hw.1 c_52
      refine lv_iconst (v := 0) hx hb dX2_lacksInk_29 (by decide) ?_
      exact W.zret (v := 0) hx hb hr rfl (fun t ht hW => ⟨0, rfl, hw, ht⟩) (fun q hq => nomatch hq) dX2_lacksInk_30
    · have hw := hw.2 c_52
      refine lv_aload_n hx hb dX2_lacksInk_14 rfl (lv_at hl 0 rfl) ?_
      refine lv_aload_n hx hb dX2_lacksInk_15 rfl (lv_at hl 0 rfl) ?_
      refine va_get (D := eD E) (ci := 3) (v := .int (gx 16)) (C := RX2) (T := TX2) (N := 19) hx hb hta lay_X2 hown hKE.1 hP 0 rfl rfl 16 (by decide) (hta _ tw_84) (fun _ h9 => h9) rfl dX2_lacksInk_16 ?_
      have hPc : va_P (eD E) vwCl (wX E ax gx lt mo ad ln PL pf pw pk lw lk ik) s.heap := hP
      refine vp_callSi (va_Run.run (va_runV (As := [.int (gx 16)]) (rest := []) ⟨hx, hb, hml, hown, hta⟩ (c_X2_inkOf E l ax gx lt mo ad ln PL pf pw pk lw lk ik (gx 16) _ hw) (pcV (n := 1) hta tw_228 tw_225 tw_1 tw_227 tp_9 rfl rfl hd_X2_inkOf ⟨Nat.le_of_ble_eq_true rfl, Nat.le_of_ble_eq_true rfl⟩) ⟨fbR, va_recv hKE.1 hP (ci := 3) (q0 := 0) rfl rfl, fun U hU hW => ⟨rfl, preR.mk hPc hKE hU hW⟩⟩ rfl rfl hl.1 rfl (lv_room (Nat.le_of_ble_eq_true rfl)) dX2_lacksInk_19 ⟨Nat.le_of_ble_eq_true rfl, Nat.le_of_ble_eq_true rfl⟩)) (fun r_53 hw => ?_)
      refine lv_if_ne (tgt := 29) hx hb dX2_lacksInk_22 (by decide) (fun c_54 => ?_) (fun c_54 => ?_)
      · have hw := hw.2 c_54
        refine lv_iconst (v := 0) hx hb dX2_lacksInk_29 (by decide) ?_
        exact W.zret (v := 0) hx hb hr rfl (fun t ht hW => ⟨0, rfl, hw, ht⟩) (fun q hq => nomatch hq) dX2_lacksInk_30
      · have hw := hw.1 c_54
        refine lv_iconst (v := 1) hx hb dX2_lacksInk_25 (by decide) ?_
        refine lv_goto (tgt := 30) hx hb dX2_lacksInk_26 (by decide) ?_
        exact W.zret (v := 1) hx hb hr rfl (fun t ht hW => ⟨1, rfl, hw, ht⟩) (fun q hq => nomatch hq) dX2_lacksInk_30
def wp_X2_carriageX (E : EV) (post : Int32 → Prop) (gx : Nat → Int32) (lt : Option Nat) (mo : Int32) (ad : Nat) (ln : Int32) (PL : List Nat) (pf : Nat → va_E) (pw : Nat → Int64) (pk : Int32) (lw : Nat → Int64) (lk : Int32) (ik : Nat → Int32) : Prop := (wp_X2_firstCommand E (fun r_55 : Option Nat => ((r_55 = none → post (gx 11)) ∧ (∀ y_56 : Nat, r_55 = some y_56 → (∃ ckz_57 cxz_57 cyz_57 cpz_57 : Int32, y_56 ∈ PL ∧ pf y_56 = .inr (1, [.int ckz_57, .int cxz_57, .int cyz_57, .int cpz_57]) ∧ (wp_X0_wayX E (fun r_59 : Int32 => post ((gx 11) + r_59)) ckz_57 cxz_57 cyz_57 cpz_57 (gx 13)))))) gx lt mo ad ln PL pf pw pk lw lk ik)
set_option maxHeartbeats 4000000 in
set_option maxRecDepth 100000 in
theorem c_X2_carriageX (E : EV) (l : Launch) (ax : Nat → Nat) (gx : Nat → Int32) (lt : Option Nat) (mo : Int32) (ad : Nat) (ln : Int32) (PL : List Nat) (pf : Nat → va_E) (pw : Nat → Int64) (pk : Int32) (lw : Nat → Int64) (lk : Int32) (ik : Nat → Int32) (post : Int32 → Prop) (hw : wp_X2_carriageX E post gx lt mo ad ln PL pf pw pk lw lk ik) : Met l yX2_carriageX (Cond.code yX2_carriageX cX2_carriageX 2 (some .int) :: ALLW) ({ frames := 4, cells := 0, slots := 0, locals := 84 } : Room) (va_Pc [.ref (ax 0)] (preR E (wX E ax gx lt mo ad ln PL pf pw pk lw lk ik))) (vp_Si post) 0 0 (fun _ => False) := by
  refine Met.ofW (cc := cX2_carriageX) (maxL := 2) (ret := (some .int)) (by decide) rfl ?_
  intro p e s m args below meth c s₁ B hml hv
  obtain ⟨rfl, hpre⟩ := hv
  have hx := B.exec
  have hb := B.bytes
  have hr := B.returns
  have hlocks := B.notSynchronized
  have hts := atoms_spec (ws := (Cond.code yX2_carriageX cX2_carriageX 2 (some .int) :: ALLW)) B.pre
  have hta : ∀ w ∈ ALLW, w.before ([.ref (ax 0)] : List Value).toArray s = true := fun w h => hts w (List.mem_cons_of_mem _ h)
  have hown : s.vm.findClass RX2 = some m.cls := findClass_of_methodNamed B.named
  obtain ⟨hP, hKE⟩ := hpre
  have hP : va_P (eD E) vwCl ([((ax 0), .inr (3, [.ref (ax 1), .ref (ax 2), .ref (ax 4), .ref (ax 6), .int (gx 4), .int (gx 5), .int (gx 6), .int (gx 7), va_rf lt, .int (gx 9), .int (gx 10), .int (gx 11), .int (gx 12), .int (gx 13), .int (gx 14), .int (gx 15), .int (gx 16), .int (gx 17), .int (gx 18)])), ((ax 1), .inr (0, [.int mo, .ref ad, .int ln])), ((ax 2), .inr (2, [.ref (ax 3), .int pk])), ((ax 3), .inl (eC E 1, 157, .inr (.inl pw))), ((ax 4), .inr (2, [.ref (ax 5), .int lk])), ((ax 5), .inl (eC E 1, 157, .inr (.inl lw))), ((ax 6), .inl (eC E 0, 3, .inl ik))] ++ va_pl PL pf) s.heap := hP
  have hl := lv_entry ([.ref (ax 0)]) (n := 2) (Nat.le_of_ble_eq_true rfl)
  rw [lg_entry_eq]
  generalize (lg_sl ([.ref (ax 0)]) ++ List.replicate (2 - (lg_sl ([.ref (ax 0)])).length) Slot.unset).toArray = ls at hl ⊢
  have hl : lv_has ls 2 [(0, .ref (ax 0))] := hl
  unfold wp_X2_carriageX at hw
  refine lv_aload_n hx hb dX2_carriageX_0 rfl (lv_at hl 0 rfl) ?_
  have hPc : va_P (eD E) vwCl (wX E ax gx lt mo ad ln PL pf pw pk lw lk ik) s.heap := hP
  refine va_csq (va_Run.run (va_runV (As := []) (rest := []) ⟨hx, hb, hml, hown, hta⟩ (c_X2_firstCommand E l ax gx lt mo ad ln PL pf pw pk lw lk ik _ hw) (pcV (n := 0) hta tw_158 tw_155 tw_1 tw_157 tp_1 rfl rfl hd_X2_firstCommand ⟨Nat.le_of_ble_eq_true rfl, Nat.le_of_ble_eq_true rfl⟩) ⟨fbR, va_recv hKE.1 hP (ci := 3) (q0 := 0) rfl rfl, fun U hU hW => ⟨rfl, preR.mk hPc hKE hU hW⟩⟩ rfl rfl hl.1 rfl (lv_room (Nat.le_of_ble_eq_true rfl)) dX2_carriageX_1 ⟨Nat.le_of_ble_eq_true rfl, Nat.le_of_ble_eq_true rfl⟩)) (fun r_55 hw => ?_)
  rcases r_55 with _ | y_56
  · have hw := hw.1 rfl
    refine lv_astore_nN (lv' := [(1, .null), (0, .ref (ax 0))]) hx hb dX2_carriageX_4 rfl hl (by decide) rfl (fun ls hl => ?_)
    refine lv_aload_nN hx hb dX2_carriageX_5 rfl (lv_at hl 0 rfl) ?_
    refine lv_ifnonnullN hx hb dX2_carriageX_6 ?_
    refine lv_aload_n hx hb dX2_carriageX_9 rfl (lv_at hl 1 rfl) ?_
    refine va_get (D := eD E) (ci := 3) (v := .int (gx 11)) (C := RX2) (T := TX2) (N := 19) hx hb hta lay_X2 hown hKE.1 hP 0 rfl rfl 11 (by decide) (hta _ tw_79) (fun _ h9 => h9) rfl dX2_carriageX_10 ?_
    refine lv_goto (tgt := 29) hx hb dX2_carriageX_13 (by decide) ?_
    exact W.iret (v := (gx 11)) hx hb hr (fun t ht hW => ⟨(gx 11), rfl, hw, ht⟩) (fun q hq => nomatch hq) dX2_carriageX_29
  · have hw := hw.2 y_56 rfl
    refine lv_astore_n (lv' := [(1, .ref y_56), (0, .ref (ax 0))]) hx hb dX2_carriageX_4 rfl hl (by decide) rfl (fun ls hl => ?_)
    refine lv_aload_n hx hb dX2_carriageX_5 rfl (lv_at hl 0 rfl) ?_
    refine lv_ifnonnull (tgt := 16) hx hb dX2_carriageX_6 (by decide) ?_
    refine lv_aload_n hx hb dX2_carriageX_16 rfl (lv_at hl 1 rfl) ?_
    refine va_get (D := eD E) (ci := 3) (v := .int (gx 11)) (C := RX2) (T := TX2) (N := 19) hx hb hta lay_X2 hown hKE.1 hP 0 rfl rfl 11 (by decide) (hta _ tw_79) (fun _ h9 => h9) rfl dX2_carriageX_17 ?_
    refine lv_aload_n hx hb dX2_carriageX_20 rfl (lv_at hl 0 rfl) ?_
    refine lv_aload_n hx hb dX2_carriageX_21 rfl (lv_at hl 1 rfl) ?_
    refine va_get (D := eD E) (ci := 3) (v := .int (gx 13)) (C := RX2) (T := TX2) (N := 19) hx hb hta lay_X2 hown hKE.1 hP 0 rfl rfl 13 (by decide) (hta _ tw_81) (fun _ h9 => h9) rfl dX2_carriageX_22 ?_
    obtain ⟨ckz_57, cxz_57, cyz_57, cpz_57, hyz_57, hfz_57, hw⟩ := hw
    obtain ⟨i_58, hi_58⟩ := va_pl_get (X := [((ax 0), .inr (3, [.ref (ax 1), .ref (ax 2), .ref (ax 4), .ref (ax 6), .int (gx 4), .int (gx 5), .int (gx 6), .int (gx 7), va_rf lt, .int (gx 9), .int (gx 10), .int (gx 11), .int (gx 12), .int (gx 13), .int (gx 14), .int (gx 15), .int (gx 16), .int (gx 17), .int (gx 18)])), ((ax 1), .inr (0, [.int mo, .ref ad, .int ln])), ((ax 2), .inr (2, [.ref (ax 3), .int pk])), ((ax 3), .inl (eC E 1, 157, .inr (.inl pw))), ((ax 4), .inr (2, [.ref (ax 5), .int lk])), ((ax 5), .inl (eC E 1, 157, .inr (.inl lw))), ((ax 6), .inl (eC E 0, 3, .inl ik))]) (f := pf) hyz_57
    rw [hfz_57] at hi_58
    have hPc : va_P (eD E) vwCl [(y_56, .inr (1, [.int ckz_57, .int cxz_57, .int cyz_57, .int cpz_57]))] s.heap := va_one hP hi_58
    refine vp_callSi (va_Run.run (va_runVN (As := [.int (gx 13)]) (rest := [.int (gx 11)]) ⟨hx, hb, hml, hown, hta⟩ (c_X0_wayX E l y_56 ckz_57 cxz_57 cyz_57 cpz_57 (gx 13) _ hw) (pcVN (n := 1) hta tw_204 (hKE.2.1 _ (List.mem_of_getElem? (i := 3) rfl)) tw_15 tw_203 tp_6 rfl rfl hd_X0_wayX ⟨Nat.le_of_ble_eq_true rfl, Nat.le_of_ble_eq_true rfl⟩) ⟨fbR, va_recv hKE.1 hP (ci := 1) (q0 := i_58) rfl hi_58, fun U hU hW => ⟨rfl, preR.mk hPc hKE hU hW⟩⟩ rfl rfl hl.1 rfl (lv_room (Nat.le_of_ble_eq_true rfl)) dX2_carriageX_25 ⟨Nat.le_of_ble_eq_true rfl, Nat.le_of_ble_eq_true rfl⟩)) (fun r_59 hw => ?_)
    refine lv_iadd hx hb dX2_carriageX_28 ?_
    exact W.iret (v := ((gx 11) + r_59)) hx hb hr (fun t ht hW => ⟨((gx 11) + r_59), rfl, hw, ht⟩) (fun q hq => nomatch hq) dX2_carriageX_29
def wp_X2_carriageY (E : EV) (post : Int32 → Prop) (gx : Nat → Int32) (lt : Option Nat) (mo : Int32) (ad : Nat) (ln : Int32) (PL : List Nat) (pf : Nat → va_E) (pw : Nat → Int64) (pk : Int32) (lw : Nat → Int64) (lk : Int32) (ik : Nat → Int32) : Prop := (wp_X2_firstCommand E (fun r_60 : Option Nat => ((r_60 = none → post (gx 12)) ∧ (∀ y_61 : Nat, r_60 = some y_61 → (∃ ckz_62 cxz_62 cyz_62 cpz_62 : Int32, y_61 ∈ PL ∧ pf y_61 = .inr (1, [.int ckz_62, .int cxz_62, .int cyz_62, .int cpz_62]) ∧ (wp_X0_wayY E (fun r_64 : Int32 => post ((gx 12) + r_64)) ckz_62 cxz_62 cyz_62 cpz_62 (gx 13)))))) gx lt mo ad ln PL pf pw pk lw lk ik)
set_option maxHeartbeats 4000000 in
set_option maxRecDepth 100000 in
theorem c_X2_carriageY (E : EV) (l : Launch) (ax : Nat → Nat) (gx : Nat → Int32) (lt : Option Nat) (mo : Int32) (ad : Nat) (ln : Int32) (PL : List Nat) (pf : Nat → va_E) (pw : Nat → Int64) (pk : Int32) (lw : Nat → Int64) (lk : Int32) (ik : Nat → Int32) (post : Int32 → Prop) (hw : wp_X2_carriageY E post gx lt mo ad ln PL pf pw pk lw lk ik) : Met l yX2_carriageY (Cond.code yX2_carriageY cX2_carriageY 2 (some .int) :: ALLW) ({ frames := 4, cells := 0, slots := 0, locals := 84 } : Room) (va_Pc [.ref (ax 0)] (preR E (wX E ax gx lt mo ad ln PL pf pw pk lw lk ik))) (vp_Si post) 0 0 (fun _ => False) := by
  refine Met.ofW (cc := cX2_carriageY) (maxL := 2) (ret := (some .int)) (by decide) rfl ?_
  intro p e s m args below meth c s₁ B hml hv
  obtain ⟨rfl, hpre⟩ := hv
  have hx := B.exec
  have hb := B.bytes
  have hr := B.returns
  have hlocks := B.notSynchronized
  have hts := atoms_spec (ws := (Cond.code yX2_carriageY cX2_carriageY 2 (some .int) :: ALLW)) B.pre
  have hta : ∀ w ∈ ALLW, w.before ([.ref (ax 0)] : List Value).toArray s = true := fun w h => hts w (List.mem_cons_of_mem _ h)
  have hown : s.vm.findClass RX2 = some m.cls := findClass_of_methodNamed B.named
  obtain ⟨hP, hKE⟩ := hpre
  have hP : va_P (eD E) vwCl ([((ax 0), .inr (3, [.ref (ax 1), .ref (ax 2), .ref (ax 4), .ref (ax 6), .int (gx 4), .int (gx 5), .int (gx 6), .int (gx 7), va_rf lt, .int (gx 9), .int (gx 10), .int (gx 11), .int (gx 12), .int (gx 13), .int (gx 14), .int (gx 15), .int (gx 16), .int (gx 17), .int (gx 18)])), ((ax 1), .inr (0, [.int mo, .ref ad, .int ln])), ((ax 2), .inr (2, [.ref (ax 3), .int pk])), ((ax 3), .inl (eC E 1, 157, .inr (.inl pw))), ((ax 4), .inr (2, [.ref (ax 5), .int lk])), ((ax 5), .inl (eC E 1, 157, .inr (.inl lw))), ((ax 6), .inl (eC E 0, 3, .inl ik))] ++ va_pl PL pf) s.heap := hP
  have hl := lv_entry ([.ref (ax 0)]) (n := 2) (Nat.le_of_ble_eq_true rfl)
  rw [lg_entry_eq]
  generalize (lg_sl ([.ref (ax 0)]) ++ List.replicate (2 - (lg_sl ([.ref (ax 0)])).length) Slot.unset).toArray = ls at hl ⊢
  have hl : lv_has ls 2 [(0, .ref (ax 0))] := hl
  unfold wp_X2_carriageY at hw
  refine lv_aload_n hx hb dX2_carriageY_0 rfl (lv_at hl 0 rfl) ?_
  have hPc : va_P (eD E) vwCl (wX E ax gx lt mo ad ln PL pf pw pk lw lk ik) s.heap := hP
  refine va_csq (va_Run.run (va_runV (As := []) (rest := []) ⟨hx, hb, hml, hown, hta⟩ (c_X2_firstCommand E l ax gx lt mo ad ln PL pf pw pk lw lk ik _ hw) (pcV (n := 0) hta tw_158 tw_155 tw_1 tw_157 tp_1 rfl rfl hd_X2_firstCommand ⟨Nat.le_of_ble_eq_true rfl, Nat.le_of_ble_eq_true rfl⟩) ⟨fbR, va_recv hKE.1 hP (ci := 3) (q0 := 0) rfl rfl, fun U hU hW => ⟨rfl, preR.mk hPc hKE hU hW⟩⟩ rfl rfl hl.1 rfl (lv_room (Nat.le_of_ble_eq_true rfl)) dX2_carriageY_1 ⟨Nat.le_of_ble_eq_true rfl, Nat.le_of_ble_eq_true rfl⟩)) (fun r_60 hw => ?_)
  rcases r_60 with _ | y_61
  · have hw := hw.1 rfl
    refine lv_astore_nN (lv' := [(1, .null), (0, .ref (ax 0))]) hx hb dX2_carriageY_4 rfl hl (by decide) rfl (fun ls hl => ?_)
    refine lv_aload_nN hx hb dX2_carriageY_5 rfl (lv_at hl 0 rfl) ?_
    refine lv_ifnonnullN hx hb dX2_carriageY_6 ?_
    refine lv_aload_n hx hb dX2_carriageY_9 rfl (lv_at hl 1 rfl) ?_
    refine va_get (D := eD E) (ci := 3) (v := .int (gx 12)) (C := RX2) (T := TX2) (N := 19) hx hb hta lay_X2 hown hKE.1 hP 0 rfl rfl 12 (by decide) (hta _ tw_80) (fun _ h9 => h9) rfl dX2_carriageY_10 ?_
    refine lv_goto (tgt := 29) hx hb dX2_carriageY_13 (by decide) ?_
    exact W.iret (v := (gx 12)) hx hb hr (fun t ht hW => ⟨(gx 12), rfl, hw, ht⟩) (fun q hq => nomatch hq) dX2_carriageY_29
  · have hw := hw.2 y_61 rfl
    refine lv_astore_n (lv' := [(1, .ref y_61), (0, .ref (ax 0))]) hx hb dX2_carriageY_4 rfl hl (by decide) rfl (fun ls hl => ?_)
    refine lv_aload_n hx hb dX2_carriageY_5 rfl (lv_at hl 0 rfl) ?_
    refine lv_ifnonnull (tgt := 16) hx hb dX2_carriageY_6 (by decide) ?_
    refine lv_aload_n hx hb dX2_carriageY_16 rfl (lv_at hl 1 rfl) ?_
    refine va_get (D := eD E) (ci := 3) (v := .int (gx 12)) (C := RX2) (T := TX2) (N := 19) hx hb hta lay_X2 hown hKE.1 hP 0 rfl rfl 12 (by decide) (hta _ tw_80) (fun _ h9 => h9) rfl dX2_carriageY_17 ?_
    refine lv_aload_n hx hb dX2_carriageY_20 rfl (lv_at hl 0 rfl) ?_
    refine lv_aload_n hx hb dX2_carriageY_21 rfl (lv_at hl 1 rfl) ?_
    refine va_get (D := eD E) (ci := 3) (v := .int (gx 13)) (C := RX2) (T := TX2) (N := 19) hx hb hta lay_X2 hown hKE.1 hP 0 rfl rfl 13 (by decide) (hta _ tw_81) (fun _ h9 => h9) rfl dX2_carriageY_22 ?_
    obtain ⟨ckz_62, cxz_62, cyz_62, cpz_62, hyz_62, hfz_62, hw⟩ := hw
    obtain ⟨i_63, hi_63⟩ := va_pl_get (X := [((ax 0), .inr (3, [.ref (ax 1), .ref (ax 2), .ref (ax 4), .ref (ax 6), .int (gx 4), .int (gx 5), .int (gx 6), .int (gx 7), va_rf lt, .int (gx 9), .int (gx 10), .int (gx 11), .int (gx 12), .int (gx 13), .int (gx 14), .int (gx 15), .int (gx 16), .int (gx 17), .int (gx 18)])), ((ax 1), .inr (0, [.int mo, .ref ad, .int ln])), ((ax 2), .inr (2, [.ref (ax 3), .int pk])), ((ax 3), .inl (eC E 1, 157, .inr (.inl pw))), ((ax 4), .inr (2, [.ref (ax 5), .int lk])), ((ax 5), .inl (eC E 1, 157, .inr (.inl lw))), ((ax 6), .inl (eC E 0, 3, .inl ik))]) (f := pf) hyz_62
    rw [hfz_62] at hi_63
    have hPc : va_P (eD E) vwCl [(y_61, .inr (1, [.int ckz_62, .int cxz_62, .int cyz_62, .int cpz_62]))] s.heap := va_one hP hi_63
    refine vp_callSi (va_Run.run (va_runVN (As := [.int (gx 13)]) (rest := [.int (gx 12)]) ⟨hx, hb, hml, hown, hta⟩ (c_X0_wayY E l y_61 ckz_62 cxz_62 cyz_62 cpz_62 (gx 13) _ hw) (pcVN (n := 1) hta tw_182 (hKE.2.1 _ (List.mem_of_getElem? (i := 2) rfl)) tw_15 tw_180 tp_2 rfl rfl hd_X0_wayY ⟨Nat.le_of_ble_eq_true rfl, Nat.le_of_ble_eq_true rfl⟩) ⟨fbR, va_recv hKE.1 hP (ci := 1) (q0 := i_63) rfl hi_63, fun U hU hW => ⟨rfl, preR.mk hPc hKE hU hW⟩⟩ rfl rfl hl.1 rfl (lv_room (Nat.le_of_ble_eq_true rfl)) dX2_carriageY_25 ⟨Nat.le_of_ble_eq_true rfl, Nat.le_of_ble_eq_true rfl⟩)) (fun r_64 hw => ?_)
    refine lv_iadd hx hb dX2_carriageY_28 ?_
    exact W.iret (v := ((gx 12) + r_64)) hx hb hr (fun t ht hW => ⟨((gx 12) + r_64), rfl, hw, ht⟩) (fun q hq => nomatch hq) dX2_carriageY_29
def wp_X2_at (E : EV) (post : Int32 → Prop) (gx : Nat → Int32) (lt : Option Nat) (mo : Int32) (ad : Nat) (ln : Int32) (PL : List Nat) (pf : Nat → va_E) (pw : Nat → Int64) (pk : Int32) (lw : Nat → Int64) (lk : Int32) (ik : Nat → Int32) : Prop := (wp_X2_carriageY E (fun r_65 : Int32 => (wp_X2_carriageX E (fun r_66 : Int32 => post ((100 * r_65) + r_66)) gx lt mo ad ln PL pf pw pk lw lk ik)) gx lt mo ad ln PL pf pw pk lw lk ik)
set_option maxHeartbeats 4000000 in
set_option maxRecDepth 100000 in
theorem c_X2_at (E : EV) (l : Launch) (ax : Nat → Nat) (gx : Nat → Int32) (lt : Option Nat) (mo : Int32) (ad : Nat) (ln : Int32) (PL : List Nat) (pf : Nat → va_E) (pw : Nat → Int64) (pk : Int32) (lw : Nat → Int64) (lk : Int32) (ik : Nat → Int32) (post : Int32 → Prop) (hw : wp_X2_at E post gx lt mo ad ln PL pf pw pk lw lk ik) : Met l yX2_at (Cond.code yX2_at cX2_at 1 (some .int) :: ALLW) ({ frames := 5, cells := 0, slots := 0, locals := 105 } : Room) (va_Pc [.ref (ax 0)] (preR E (wX E ax gx lt mo ad ln PL pf pw pk lw lk ik))) (vp_Si post) 0 0 (fun _ => False) := by
  refine Met.ofW (cc := cX2_at) (maxL := 1) (ret := (some .int)) (by decide) rfl ?_
  intro p e s m args below meth c s₁ B hml hv
  obtain ⟨rfl, hpre⟩ := hv
  have hx := B.exec
  have hb := B.bytes
  have hr := B.returns
  have hlocks := B.notSynchronized
  have hts := atoms_spec (ws := (Cond.code yX2_at cX2_at 1 (some .int) :: ALLW)) B.pre
  have hta : ∀ w ∈ ALLW, w.before ([.ref (ax 0)] : List Value).toArray s = true := fun w h => hts w (List.mem_cons_of_mem _ h)
  have hown : s.vm.findClass RX2 = some m.cls := findClass_of_methodNamed B.named
  obtain ⟨hP, hKE⟩ := hpre
  have hP : va_P (eD E) vwCl ([((ax 0), .inr (3, [.ref (ax 1), .ref (ax 2), .ref (ax 4), .ref (ax 6), .int (gx 4), .int (gx 5), .int (gx 6), .int (gx 7), va_rf lt, .int (gx 9), .int (gx 10), .int (gx 11), .int (gx 12), .int (gx 13), .int (gx 14), .int (gx 15), .int (gx 16), .int (gx 17), .int (gx 18)])), ((ax 1), .inr (0, [.int mo, .ref ad, .int ln])), ((ax 2), .inr (2, [.ref (ax 3), .int pk])), ((ax 3), .inl (eC E 1, 157, .inr (.inl pw))), ((ax 4), .inr (2, [.ref (ax 5), .int lk])), ((ax 5), .inl (eC E 1, 157, .inr (.inl lw))), ((ax 6), .inl (eC E 0, 3, .inl ik))] ++ va_pl PL pf) s.heap := hP
  have hl := lv_entry ([.ref (ax 0)]) (n := 1) (Nat.le_of_ble_eq_true rfl)
  rw [lg_entry_eq]
  generalize (lg_sl ([.ref (ax 0)]) ++ List.replicate (1 - (lg_sl ([.ref (ax 0)])).length) Slot.unset).toArray = ls at hl ⊢
  have hl : lv_has ls 1 [(0, .ref (ax 0))] := hl
  unfold wp_X2_at at hw
  refine lv_bipush (v := 100) hx hb dX2_at_0 (by decide) ?_
  refine lv_aload_n hx hb dX2_at_2 rfl (lv_at hl 0 rfl) ?_
  have hPc : va_P (eD E) vwCl (wX E ax gx lt mo ad ln PL pf pw pk lw lk ik) s.heap := hP
  refine vp_callSi (va_Run.run (va_runV (As := []) (rest := [.int 100]) ⟨hx, hb, hml, hown, hta⟩ (c_X2_carriageY E l ax gx lt mo ad ln PL pf pw pk lw lk ik _ hw) (pcV (n := 0) hta tw_154 tw_151 tw_1 tw_153 tp_0 rfl rfl hd_X2_carriageY ⟨Nat.le_of_ble_eq_true rfl, Nat.le_of_ble_eq_true rfl⟩) ⟨fbR, va_recv hKE.1 hP (ci := 3) (q0 := 0) rfl rfl, fun U hU hW => ⟨rfl, preR.mk hPc hKE hU hW⟩⟩ rfl rfl hl.1 rfl (lv_room (Nat.le_of_ble_eq_true rfl)) dX2_at_3 ⟨Nat.le_of_ble_eq_true rfl, Nat.le_of_ble_eq_true rfl⟩)) (fun r_65 hw => ?_)
  refine lv_imul hx hb dX2_at_6 ?_
  refine lv_aload_n hx hb dX2_at_7 rfl (lv_at hl 0 rfl) ?_
  have hPc : va_P (eD E) vwCl (wX E ax gx lt mo ad ln PL pf pw pk lw lk ik) s.heap := hP
  refine vp_callSi (va_Run.run (va_runV (As := []) (rest := [.int (100 * r_65)]) ⟨hx, hb, hml, hown, hta⟩ (c_X2_carriageX E l ax gx lt mo ad ln PL pf pw pk lw lk ik _ hw) (pcV (n := 0) hta tw_200 tw_197 tw_1 tw_199 tp_5 rfl rfl hd_X2_carriageX ⟨Nat.le_of_ble_eq_true rfl, Nat.le_of_ble_eq_true rfl⟩) ⟨fbR, va_recv hKE.1 hP (ci := 3) (q0 := 0) rfl rfl, fun U hU hW => ⟨rfl, preR.mk hPc hKE hU hW⟩⟩ rfl rfl hl.1 rfl (lv_room (Nat.le_of_ble_eq_true rfl)) dX2_at_8 ⟨Nat.le_of_ble_eq_true rfl, Nat.le_of_ble_eq_true rfl⟩)) (fun r_66 hw => ?_)
  refine lv_iadd hx hb dX2_at_11 ?_
  exact W.iret (v := ((100 * r_65) + r_66)) hx hb hr (fun t ht hW => ⟨((100 * r_65) + r_66), rfl, hw, ht⟩) (fun q hq => nomatch hq) dX2_at_12
def wp_X2_isDown (E : EV) (post : Int32 → Prop) (gx : Nat → Int32) (lt : Option Nat) (mo : Int32) (ad : Nat) (ln : Int32) (PL : List Nat) (pf : Nat → va_E) (pw : Nat → Int64) (pk : Int32) (lw : Nat → Int64) (lk : Int32) (ik : Nat → Int32) : Prop := (narrow .boolean (.int (gx 15)) = .int (gx 15) ∧ post (gx 15))
set_option maxHeartbeats 4000000 in
set_option maxRecDepth 100000 in
theorem c_X2_isDown (E : EV) (l : Launch) (ax : Nat → Nat) (gx : Nat → Int32) (lt : Option Nat) (mo : Int32) (ad : Nat) (ln : Int32) (PL : List Nat) (pf : Nat → va_E) (pw : Nat → Int64) (pk : Int32) (lw : Nat → Int64) (lk : Int32) (ik : Nat → Int32) (post : Int32 → Prop) (hw : wp_X2_isDown E post gx lt mo ad ln PL pf pw pk lw lk ik) : Met l yX2_isDown (Cond.code yX2_isDown cX2_isDown 1 (some .boolean) :: ALLW) ({ frames := 0, cells := 0, slots := 0, locals := 0 } : Room) (va_Pc [.ref (ax 0)] (preR E (wX E ax gx lt mo ad ln PL pf pw pk lw lk ik))) (vp_Si post) 0 0 (fun _ => False) := by
  refine Met.ofW (cc := cX2_isDown) (maxL := 1) (ret := (some .boolean)) (by decide) rfl ?_
  intro p e s m args below meth c s₁ B hml hv
  obtain ⟨rfl, hpre⟩ := hv
  have hx := B.exec
  have hb := B.bytes
  have hr := B.returns
  have hlocks := B.notSynchronized
  have hts := atoms_spec (ws := (Cond.code yX2_isDown cX2_isDown 1 (some .boolean) :: ALLW)) B.pre
  have hta : ∀ w ∈ ALLW, w.before ([.ref (ax 0)] : List Value).toArray s = true := fun w h => hts w (List.mem_cons_of_mem _ h)
  have hown : s.vm.findClass RX2 = some m.cls := findClass_of_methodNamed B.named
  obtain ⟨hP, hKE⟩ := hpre
  have hP : va_P (eD E) vwCl ([((ax 0), .inr (3, [.ref (ax 1), .ref (ax 2), .ref (ax 4), .ref (ax 6), .int (gx 4), .int (gx 5), .int (gx 6), .int (gx 7), va_rf lt, .int (gx 9), .int (gx 10), .int (gx 11), .int (gx 12), .int (gx 13), .int (gx 14), .int (gx 15), .int (gx 16), .int (gx 17), .int (gx 18)])), ((ax 1), .inr (0, [.int mo, .ref ad, .int ln])), ((ax 2), .inr (2, [.ref (ax 3), .int pk])), ((ax 3), .inl (eC E 1, 157, .inr (.inl pw))), ((ax 4), .inr (2, [.ref (ax 5), .int lk])), ((ax 5), .inl (eC E 1, 157, .inr (.inl lw))), ((ax 6), .inl (eC E 0, 3, .inl ik))] ++ va_pl PL pf) s.heap := hP
  have hl := lv_entry ([.ref (ax 0)]) (n := 1) (Nat.le_of_ble_eq_true rfl)
  rw [lg_entry_eq]
  generalize (lg_sl ([.ref (ax 0)]) ++ List.replicate (1 - (lg_sl ([.ref (ax 0)])).length) Slot.unset).toArray = ls at hl ⊢
  have hl : lv_has ls 1 [(0, .ref (ax 0))] := hl
  unfold wp_X2_isDown at hw
  refine lv_aload_n hx hb dX2_isDown_0 rfl (lv_at hl 0 rfl) ?_
  refine va_get (D := eD E) (ci := 3) (v := .int (gx 15)) (C := RX2) (T := TX2) (N := 19) hx hb hta lay_X2 hown hKE.1 hP 0 rfl rfl 15 (by decide) (hta _ tw_83) (fun _ h9 => h9) rfl dX2_isDown_1 ?_
  obtain ⟨hn_67, hw⟩ := hw
  exact W.zret (v := (gx 15)) hx hb hr hn_67 (fun t ht hW => ⟨(gx 15), rfl, hw, ht⟩) (fun q hq => nomatch hq) dX2_isDown_4
def wp_X2_pen (E : EV) (post : Int32 → Prop) (gx : Nat → Int32) (lt : Option Nat) (mo : Int32) (ad : Nat) (ln : Int32) (PL : List Nat) (pf : Nat → va_E) (pw : Nat → Int64) (pk : Int32) (lw : Nat → Int64) (lk : Int32) (ik : Nat → Int32) : Prop := post (gx 16)
set_option maxHeartbeats 4000000 in
set_option maxRecDepth 100000 in
theorem c_X2_pen (E : EV) (l : Launch) (ax : Nat → Nat) (gx : Nat → Int32) (lt : Option Nat) (mo : Int32) (ad : Nat) (ln : Int32) (PL : List Nat) (pf : Nat → va_E) (pw : Nat → Int64) (pk : Int32) (lw : Nat → Int64) (lk : Int32) (ik : Nat → Int32) (post : Int32 → Prop) (hw : wp_X2_pen E post gx lt mo ad ln PL pf pw pk lw lk ik) : Met l yX2_pen (Cond.code yX2_pen cX2_pen 1 (some .int) :: ALLW) ({ frames := 0, cells := 0, slots := 0, locals := 0 } : Room) (va_Pc [.ref (ax 0)] (preR E (wX E ax gx lt mo ad ln PL pf pw pk lw lk ik))) (vp_Si post) 0 0 (fun _ => False) := by
  refine Met.ofW (cc := cX2_pen) (maxL := 1) (ret := (some .int)) (by decide) rfl ?_
  intro p e s m args below meth c s₁ B hml hv
  obtain ⟨rfl, hpre⟩ := hv
  have hx := B.exec
  have hb := B.bytes
  have hr := B.returns
  have hlocks := B.notSynchronized
  have hts := atoms_spec (ws := (Cond.code yX2_pen cX2_pen 1 (some .int) :: ALLW)) B.pre
  have hta : ∀ w ∈ ALLW, w.before ([.ref (ax 0)] : List Value).toArray s = true := fun w h => hts w (List.mem_cons_of_mem _ h)
  have hown : s.vm.findClass RX2 = some m.cls := findClass_of_methodNamed B.named
  obtain ⟨hP, hKE⟩ := hpre
  have hP : va_P (eD E) vwCl ([((ax 0), .inr (3, [.ref (ax 1), .ref (ax 2), .ref (ax 4), .ref (ax 6), .int (gx 4), .int (gx 5), .int (gx 6), .int (gx 7), va_rf lt, .int (gx 9), .int (gx 10), .int (gx 11), .int (gx 12), .int (gx 13), .int (gx 14), .int (gx 15), .int (gx 16), .int (gx 17), .int (gx 18)])), ((ax 1), .inr (0, [.int mo, .ref ad, .int ln])), ((ax 2), .inr (2, [.ref (ax 3), .int pk])), ((ax 3), .inl (eC E 1, 157, .inr (.inl pw))), ((ax 4), .inr (2, [.ref (ax 5), .int lk])), ((ax 5), .inl (eC E 1, 157, .inr (.inl lw))), ((ax 6), .inl (eC E 0, 3, .inl ik))] ++ va_pl PL pf) s.heap := hP
  have hl := lv_entry ([.ref (ax 0)]) (n := 1) (Nat.le_of_ble_eq_true rfl)
  rw [lg_entry_eq]
  generalize (lg_sl ([.ref (ax 0)]) ++ List.replicate (1 - (lg_sl ([.ref (ax 0)])).length) Slot.unset).toArray = ls at hl ⊢
  have hl : lv_has ls 1 [(0, .ref (ax 0))] := hl
  unfold wp_X2_pen at hw
  refine lv_aload_n hx hb dX2_pen_0 rfl (lv_at hl 0 rfl) ?_
  refine va_get (D := eD E) (ci := 3) (v := .int (gx 16)) (C := RX2) (T := TX2) (N := 19) hx hb hta lay_X2 hown hKE.1 hP 0 rfl rfl 16 (by decide) (hta _ tw_84) (fun _ h9 => h9) rfl dX2_pen_1 ?_
  exact W.iret (v := (gx 16)) hx hb hr (fun t ht hW => ⟨(gx 16), rfl, hw, ht⟩) (fun q hq => nomatch hq) dX2_pen_4
def wp_X2_isWaiting (E : EV) (post : Int32 → Prop) (gx : Nat → Int32) (lt : Option Nat) (mo : Int32) (ad : Nat) (ln : Int32) (PL : List Nat) (pf : Nat → va_E) (pw : Nat → Int64) (pk : Int32) (lw : Nat → Int64) (lk : Int32) (ik : Nat → Int32) : Prop := (wp_X2_firstCommand E (fun r_68 : Option Nat => ((r_68 = none → post 0) ∧ (∀ y_69 : Nat, r_68 = some y_69 → (wp_X2_lacksInk E (fun r_70 : Int32 => ((r_70 = 0 → post 0) ∧ (¬ (r_70 = 0) → post 1))) gx lt mo ad ln PL pf pw pk lw lk ik y_69)))) gx lt mo ad ln PL pf pw pk lw lk ik)
set_option maxHeartbeats 4000000 in
set_option maxRecDepth 100000 in
theorem c_X2_isWaiting (E : EV) (l : Launch) (ax : Nat → Nat) (gx : Nat → Int32) (lt : Option Nat) (mo : Int32) (ad : Nat) (ln : Int32) (PL : List Nat) (pf : Nat → va_E) (pw : Nat → Int64) (pk : Int32) (lw : Nat → Int64) (lk : Int32) (ik : Nat → Int32) (post : Int32 → Prop) (hw : wp_X2_isWaiting E post gx lt mo ad ln PL pf pw pk lw lk ik) : Met l yX2_isWaiting (Cond.code yX2_isWaiting cX2_isWaiting 2 (some .boolean) :: ALLW) ({ frames := 4, cells := 0, slots := 0, locals := 84 } : Room) (va_Pc [.ref (ax 0)] (preR E (wX E ax gx lt mo ad ln PL pf pw pk lw lk ik))) (vp_Si post) 0 0 (fun _ => False) := by
  refine Met.ofW (cc := cX2_isWaiting) (maxL := 2) (ret := (some .boolean)) (by decide) rfl ?_
  intro p e s m args below meth c s₁ B hml hv
  obtain ⟨rfl, hpre⟩ := hv
  have hx := B.exec
  have hb := B.bytes
  have hr := B.returns
  have hlocks := B.notSynchronized
  have hts := atoms_spec (ws := (Cond.code yX2_isWaiting cX2_isWaiting 2 (some .boolean) :: ALLW)) B.pre
  have hta : ∀ w ∈ ALLW, w.before ([.ref (ax 0)] : List Value).toArray s = true := fun w h => hts w (List.mem_cons_of_mem _ h)
  have hown : s.vm.findClass RX2 = some m.cls := findClass_of_methodNamed B.named
  obtain ⟨hP, hKE⟩ := hpre
  have hP : va_P (eD E) vwCl ([((ax 0), .inr (3, [.ref (ax 1), .ref (ax 2), .ref (ax 4), .ref (ax 6), .int (gx 4), .int (gx 5), .int (gx 6), .int (gx 7), va_rf lt, .int (gx 9), .int (gx 10), .int (gx 11), .int (gx 12), .int (gx 13), .int (gx 14), .int (gx 15), .int (gx 16), .int (gx 17), .int (gx 18)])), ((ax 1), .inr (0, [.int mo, .ref ad, .int ln])), ((ax 2), .inr (2, [.ref (ax 3), .int pk])), ((ax 3), .inl (eC E 1, 157, .inr (.inl pw))), ((ax 4), .inr (2, [.ref (ax 5), .int lk])), ((ax 5), .inl (eC E 1, 157, .inr (.inl lw))), ((ax 6), .inl (eC E 0, 3, .inl ik))] ++ va_pl PL pf) s.heap := hP
  have hl := lv_entry ([.ref (ax 0)]) (n := 2) (Nat.le_of_ble_eq_true rfl)
  rw [lg_entry_eq]
  generalize (lg_sl ([.ref (ax 0)]) ++ List.replicate (2 - (lg_sl ([.ref (ax 0)])).length) Slot.unset).toArray = ls at hl ⊢
  have hl : lv_has ls 2 [(0, .ref (ax 0))] := hl
  unfold wp_X2_isWaiting at hw
  refine lv_aload_n hx hb dX2_isWaiting_0 rfl (lv_at hl 0 rfl) ?_
  have hPc : va_P (eD E) vwCl (wX E ax gx lt mo ad ln PL pf pw pk lw lk ik) s.heap := hP
  refine va_csq (va_Run.run (va_runV (As := []) (rest := []) ⟨hx, hb, hml, hown, hta⟩ (c_X2_firstCommand E l ax gx lt mo ad ln PL pf pw pk lw lk ik _ hw) (pcV (n := 0) hta tw_158 tw_155 tw_1 tw_157 tp_1 rfl rfl hd_X2_firstCommand ⟨Nat.le_of_ble_eq_true rfl, Nat.le_of_ble_eq_true rfl⟩) ⟨fbR, va_recv hKE.1 hP (ci := 3) (q0 := 0) rfl rfl, fun U hU hW => ⟨rfl, preR.mk hPc hKE hU hW⟩⟩ rfl rfl hl.1 rfl (lv_room (Nat.le_of_ble_eq_true rfl)) dX2_isWaiting_1 ⟨Nat.le_of_ble_eq_true rfl, Nat.le_of_ble_eq_true rfl⟩)) (fun r_68 hw => ?_)
  rcases r_68 with _ | y_69
  · have hw := hw.1 rfl
    refine lv_astore_nN (lv' := [(1, .null), (0, .ref (ax 0))]) hx hb dX2_isWaiting_4 rfl hl (by decide) rfl (fun ls hl => ?_)
    refine lv_aload_nN hx hb dX2_isWaiting_5 rfl (lv_at hl 0 rfl) ?_
    refine lv_ifnullN (tgt := 21) hx hb dX2_isWaiting_6 (by decide) ?_
    refine lv_iconst (v := 0) hx hb dX2_isWaiting_21 (by decide) ?_
    exact W.zret (v := 0) hx hb hr rfl (fun t ht hW => ⟨0, rfl, hw, ht⟩) (fun q hq => nomatch hq) dX2_isWaiting_22
  · have hw := hw.2 y_69 rfl
    refine lv_astore_n (lv' := [(1, .ref y_69), (0, .ref (ax 0))]) hx hb dX2_isWaiting_4 rfl hl (by decide) rfl (fun ls hl => ?_)
    refine lv_aload_n hx hb dX2_isWaiting_5 rfl (lv_at hl 0 rfl) ?_
    refine lv_ifnull hx hb dX2_isWaiting_6 ?_
    refine lv_aload_n hx hb dX2_isWaiting_9 rfl (lv_at hl 1 rfl) ?_
    refine lv_aload_n hx hb dX2_isWaiting_10 rfl (lv_at hl 0 rfl) ?_
    have hPc : va_P (eD E) vwCl (wX E ax gx lt mo ad ln PL pf pw pk lw lk ik) s.heap := hP
    refine vp_callSi (va_Run.run (va_runV (As := [.ref y_69]) (rest := []) ⟨hx, hb, hml, hown, hta⟩ (c_X2_lacksInk E l ax gx lt mo ad ln PL pf pw pk lw lk ik y_69 _ hw) (pcV (n := 1) hta tw_220 tw_217 tw_1 tw_219 tp_7 rfl rfl hd_X2_lacksInk ⟨Nat.le_of_ble_eq_true rfl, Nat.le_of_ble_eq_true rfl⟩) ⟨fbR, va_recv hKE.1 hP (ci := 3) (q0 := 0) rfl rfl, fun U hU hW => ⟨rfl, preR.mk hPc hKE hU hW⟩⟩ rfl rfl hl.1 rfl (lv_room (Nat.le_of_ble_eq_true rfl)) dX2_isWaiting_11 ⟨Nat.le_of_ble_eq_true rfl, Nat.le_of_ble_eq_true rfl⟩)) (fun r_70 hw => ?_)
    refine lv_if_eq (tgt := 21) hx hb dX2_isWaiting_14 (by decide) (fun c_71 => ?_) (fun c_71 => ?_)
    · have hw := hw.1 c_71
      refine lv_iconst (v := 0) hx hb dX2_isWaiting_21 (by decide) ?_
      exact W.zret (v := 0) hx hb hr rfl (fun t ht hW => ⟨0, rfl, hw, ht⟩) (fun q hq => nomatch hq) dX2_isWaiting_22
    · have hw := hw.2 c_71
      refine lv_iconst (v := 1) hx hb dX2_isWaiting_17 (by decide) ?_
      refine lv_goto (tgt := 22) hx hb dX2_isWaiting_18 (by decide) ?_
      exact W.zret (v := 1) hx hb hr rfl (fun t ht hW => ⟨1, rfl, hw, ht⟩) (fun q hq => nomatch hq) dX2_isWaiting_22
def wp_X2_stepsUp (E : EV) (post : Int32 → Prop) (gx : Nat → Int32) (lt : Option Nat) (mo : Int32) (ad : Nat) (ln : Int32) (PL : List Nat) (pf : Nat → va_E) (pw : Nat → Int64) (pk : Int32) (lw : Nat → Int64) (lk : Int32) (ik : Nat → Int32) : Prop := post (gx 17)
set_option maxHeartbeats 4000000 in
set_option maxRecDepth 100000 in
theorem c_X2_stepsUp (E : EV) (l : Launch) (ax : Nat → Nat) (gx : Nat → Int32) (lt : Option Nat) (mo : Int32) (ad : Nat) (ln : Int32) (PL : List Nat) (pf : Nat → va_E) (pw : Nat → Int64) (pk : Int32) (lw : Nat → Int64) (lk : Int32) (ik : Nat → Int32) (post : Int32 → Prop) (hw : wp_X2_stepsUp E post gx lt mo ad ln PL pf pw pk lw lk ik) : Met l yX2_stepsUp (Cond.code yX2_stepsUp cX2_stepsUp 1 (some .int) :: ALLW) ({ frames := 0, cells := 0, slots := 0, locals := 0 } : Room) (va_Pc [.ref (ax 0)] (preR E (wX E ax gx lt mo ad ln PL pf pw pk lw lk ik))) (vp_Si post) 0 0 (fun _ => False) := by
  refine Met.ofW (cc := cX2_stepsUp) (maxL := 1) (ret := (some .int)) (by decide) rfl ?_
  intro p e s m args below meth c s₁ B hml hv
  obtain ⟨rfl, hpre⟩ := hv
  have hx := B.exec
  have hb := B.bytes
  have hr := B.returns
  have hlocks := B.notSynchronized
  have hts := atoms_spec (ws := (Cond.code yX2_stepsUp cX2_stepsUp 1 (some .int) :: ALLW)) B.pre
  have hta : ∀ w ∈ ALLW, w.before ([.ref (ax 0)] : List Value).toArray s = true := fun w h => hts w (List.mem_cons_of_mem _ h)
  have hown : s.vm.findClass RX2 = some m.cls := findClass_of_methodNamed B.named
  obtain ⟨hP, hKE⟩ := hpre
  have hP : va_P (eD E) vwCl ([((ax 0), .inr (3, [.ref (ax 1), .ref (ax 2), .ref (ax 4), .ref (ax 6), .int (gx 4), .int (gx 5), .int (gx 6), .int (gx 7), va_rf lt, .int (gx 9), .int (gx 10), .int (gx 11), .int (gx 12), .int (gx 13), .int (gx 14), .int (gx 15), .int (gx 16), .int (gx 17), .int (gx 18)])), ((ax 1), .inr (0, [.int mo, .ref ad, .int ln])), ((ax 2), .inr (2, [.ref (ax 3), .int pk])), ((ax 3), .inl (eC E 1, 157, .inr (.inl pw))), ((ax 4), .inr (2, [.ref (ax 5), .int lk])), ((ax 5), .inl (eC E 1, 157, .inr (.inl lw))), ((ax 6), .inl (eC E 0, 3, .inl ik))] ++ va_pl PL pf) s.heap := hP
  have hl := lv_entry ([.ref (ax 0)]) (n := 1) (Nat.le_of_ble_eq_true rfl)
  rw [lg_entry_eq]
  generalize (lg_sl ([.ref (ax 0)]) ++ List.replicate (1 - (lg_sl ([.ref (ax 0)])).length) Slot.unset).toArray = ls at hl ⊢
  have hl : lv_has ls 1 [(0, .ref (ax 0))] := hl
  unfold wp_X2_stepsUp at hw
  refine lv_aload_n hx hb dX2_stepsUp_0 rfl (lv_at hl 0 rfl) ?_
  refine va_get (D := eD E) (ci := 3) (v := .int (gx 17)) (C := RX2) (T := TX2) (N := 19) hx hb hta lay_X2 hown hKE.1 hP 0 rfl rfl 17 (by decide) (hta _ tw_85) (fun _ h9 => h9) rfl dX2_stepsUp_1 ?_
  exact W.iret (v := (gx 17)) hx hb hr (fun t ht hW => ⟨(gx 17), rfl, hw, ht⟩) (fun q hq => nomatch hq) dX2_stepsUp_4
def wp_X2_stepsDown (E : EV) (post : Int32 → Prop) (gx : Nat → Int32) (lt : Option Nat) (mo : Int32) (ad : Nat) (ln : Int32) (PL : List Nat) (pf : Nat → va_E) (pw : Nat → Int64) (pk : Int32) (lw : Nat → Int64) (lk : Int32) (ik : Nat → Int32) : Prop := post (gx 18)
set_option maxHeartbeats 4000000 in
set_option maxRecDepth 100000 in
theorem c_X2_stepsDown (E : EV) (l : Launch) (ax : Nat → Nat) (gx : Nat → Int32) (lt : Option Nat) (mo : Int32) (ad : Nat) (ln : Int32) (PL : List Nat) (pf : Nat → va_E) (pw : Nat → Int64) (pk : Int32) (lw : Nat → Int64) (lk : Int32) (ik : Nat → Int32) (post : Int32 → Prop) (hw : wp_X2_stepsDown E post gx lt mo ad ln PL pf pw pk lw lk ik) : Met l yX2_stepsDown (Cond.code yX2_stepsDown cX2_stepsDown 1 (some .int) :: ALLW) ({ frames := 0, cells := 0, slots := 0, locals := 0 } : Room) (va_Pc [.ref (ax 0)] (preR E (wX E ax gx lt mo ad ln PL pf pw pk lw lk ik))) (vp_Si post) 0 0 (fun _ => False) := by
  refine Met.ofW (cc := cX2_stepsDown) (maxL := 1) (ret := (some .int)) (by decide) rfl ?_
  intro p e s m args below meth c s₁ B hml hv
  obtain ⟨rfl, hpre⟩ := hv
  have hx := B.exec
  have hb := B.bytes
  have hr := B.returns
  have hlocks := B.notSynchronized
  have hts := atoms_spec (ws := (Cond.code yX2_stepsDown cX2_stepsDown 1 (some .int) :: ALLW)) B.pre
  have hta : ∀ w ∈ ALLW, w.before ([.ref (ax 0)] : List Value).toArray s = true := fun w h => hts w (List.mem_cons_of_mem _ h)
  have hown : s.vm.findClass RX2 = some m.cls := findClass_of_methodNamed B.named
  obtain ⟨hP, hKE⟩ := hpre
  have hP : va_P (eD E) vwCl ([((ax 0), .inr (3, [.ref (ax 1), .ref (ax 2), .ref (ax 4), .ref (ax 6), .int (gx 4), .int (gx 5), .int (gx 6), .int (gx 7), va_rf lt, .int (gx 9), .int (gx 10), .int (gx 11), .int (gx 12), .int (gx 13), .int (gx 14), .int (gx 15), .int (gx 16), .int (gx 17), .int (gx 18)])), ((ax 1), .inr (0, [.int mo, .ref ad, .int ln])), ((ax 2), .inr (2, [.ref (ax 3), .int pk])), ((ax 3), .inl (eC E 1, 157, .inr (.inl pw))), ((ax 4), .inr (2, [.ref (ax 5), .int lk])), ((ax 5), .inl (eC E 1, 157, .inr (.inl lw))), ((ax 6), .inl (eC E 0, 3, .inl ik))] ++ va_pl PL pf) s.heap := hP
  have hl := lv_entry ([.ref (ax 0)]) (n := 1) (Nat.le_of_ble_eq_true rfl)
  rw [lg_entry_eq]
  generalize (lg_sl ([.ref (ax 0)]) ++ List.replicate (1 - (lg_sl ([.ref (ax 0)])).length) Slot.unset).toArray = ls at hl ⊢
  have hl : lv_has ls 1 [(0, .ref (ax 0))] := hl
  unfold wp_X2_stepsDown at hw
  refine lv_aload_n hx hb dX2_stepsDown_0 rfl (lv_at hl 0 rfl) ?_
  refine va_get (D := eD E) (ci := 3) (v := .int (gx 18)) (C := RX2) (T := TX2) (N := 19) hx hb hta lay_X2 hown hKE.1 hP 0 rfl rfl 18 (by decide) (hta _ tw_86) (fun _ h9 => h9) rfl dX2_stepsDown_1 ?_
  exact W.iret (v := (gx 18)) hx hb hr (fun t ht hW => ⟨(gx 18), rfl, hw, ht⟩) (fun q hq => nomatch hq) dX2_stepsDown_4
def wp_X2_marks (E : EV) (post : Int32 → Prop) (gx : Nat → Int32) (lt : Option Nat) (mo : Int32) (ad : Nat) (ln : Int32) (PL : List Nat) (pf : Nat → va_E) (pw : Nat → Int64) (pk : Int32) (lw : Nat → Int64) (lk : Int32) (ik : Nat → Int32) : Prop := post pk
set_option maxHeartbeats 4000000 in
set_option maxRecDepth 100000 in
theorem c_X2_marks (E : EV) (l : Launch) (ax : Nat → Nat) (gx : Nat → Int32) (lt : Option Nat) (mo : Int32) (ad : Nat) (ln : Int32) (PL : List Nat) (pf : Nat → va_E) (pw : Nat → Int64) (pk : Int32) (lw : Nat → Int64) (lk : Int32) (ik : Nat → Int32) (post : Int32 → Prop) (hw : wp_X2_marks E post gx lt mo ad ln PL pf pw pk lw lk ik) : Met l yX2_marks (Cond.code yX2_marks cX2_marks 1 (some .int) :: ALLW) ({ frames := 0, cells := 0, slots := 0, locals := 0 } : Room) (va_Pc [.ref (ax 0)] (preR E (wX E ax gx lt mo ad ln PL pf pw pk lw lk ik))) (vp_Si post) 0 0 (fun _ => False) := by
  refine Met.ofW (cc := cX2_marks) (maxL := 1) (ret := (some .int)) (by decide) rfl ?_
  intro p e s m args below meth c s₁ B hml hv
  obtain ⟨rfl, hpre⟩ := hv
  have hx := B.exec
  have hb := B.bytes
  have hr := B.returns
  have hlocks := B.notSynchronized
  have hts := atoms_spec (ws := (Cond.code yX2_marks cX2_marks 1 (some .int) :: ALLW)) B.pre
  have hta : ∀ w ∈ ALLW, w.before ([.ref (ax 0)] : List Value).toArray s = true := fun w h => hts w (List.mem_cons_of_mem _ h)
  have hown : s.vm.findClass RX2 = some m.cls := findClass_of_methodNamed B.named
  obtain ⟨hP, hKE⟩ := hpre
  have hP : va_P (eD E) vwCl ([((ax 0), .inr (3, [.ref (ax 1), .ref (ax 2), .ref (ax 4), .ref (ax 6), .int (gx 4), .int (gx 5), .int (gx 6), .int (gx 7), va_rf lt, .int (gx 9), .int (gx 10), .int (gx 11), .int (gx 12), .int (gx 13), .int (gx 14), .int (gx 15), .int (gx 16), .int (gx 17), .int (gx 18)])), ((ax 1), .inr (0, [.int mo, .ref ad, .int ln])), ((ax 2), .inr (2, [.ref (ax 3), .int pk])), ((ax 3), .inl (eC E 1, 157, .inr (.inl pw))), ((ax 4), .inr (2, [.ref (ax 5), .int lk])), ((ax 5), .inl (eC E 1, 157, .inr (.inl lw))), ((ax 6), .inl (eC E 0, 3, .inl ik))] ++ va_pl PL pf) s.heap := hP
  have hl := lv_entry ([.ref (ax 0)]) (n := 1) (Nat.le_of_ble_eq_true rfl)
  rw [lg_entry_eq]
  generalize (lg_sl ([.ref (ax 0)]) ++ List.replicate (1 - (lg_sl ([.ref (ax 0)])).length) Slot.unset).toArray = ls at hl ⊢
  have hl : lv_has ls 1 [(0, .ref (ax 0))] := hl
  unfold wp_X2_marks at hw
  refine lv_aload_n hx hb dX2_marks_0 rfl (lv_at hl 0 rfl) ?_
  refine va_get (D := eD E) (ci := 3) (v := .ref (ax 2)) (C := RX2) (T := TX2) (N := 19) hx hb hta lay_X2 hown hKE.1 hP 0 rfl rfl 1 (by decide) (hta _ tw_69) (fun _ h9 => h9) rfl dX2_marks_1 ?_
  refine va_getN (D := eD E) (ci := 2) (v := .int pk) (C := RX1) (T := TX1) (N := 2) hx hb hta lay_X1 hown hKE.1 hP 2 rfl rfl 1 (by decide) (va_Nw.use rfl (hKE.2.1 _ (List.mem_of_getElem? (i := 1) rfl))) (fun _ h9 => h9) rfl dX2_marks_4 ?_
  exact W.iret (v := pk) hx hb hr (fun t ht hW => ⟨pk, rfl, hw, ht⟩) (fun q hq => nomatch hq) dX2_marks_7
def wp_X2_marksInTheEnd (E : EV) (post : Int32 → Prop) (gx : Nat → Int32) (lt : Option Nat) (mo : Int32) (ad : Nat) (ln : Int32) (PL : List Nat) (pf : Nat → va_E) (pw : Nat → Int64) (pk : Int32) (lw : Nat → Int64) (lk : Int32) (ik : Nat → Int32) : Prop := post lk
set_option maxHeartbeats 4000000 in
set_option maxRecDepth 100000 in
theorem c_X2_marksInTheEnd (E : EV) (l : Launch) (ax : Nat → Nat) (gx : Nat → Int32) (lt : Option Nat) (mo : Int32) (ad : Nat) (ln : Int32) (PL : List Nat) (pf : Nat → va_E) (pw : Nat → Int64) (pk : Int32) (lw : Nat → Int64) (lk : Int32) (ik : Nat → Int32) (post : Int32 → Prop) (hw : wp_X2_marksInTheEnd E post gx lt mo ad ln PL pf pw pk lw lk ik) : Met l yX2_marksInTheEnd (Cond.code yX2_marksInTheEnd cX2_marksInTheEnd 1 (some .int) :: ALLW) ({ frames := 0, cells := 0, slots := 0, locals := 0 } : Room) (va_Pc [.ref (ax 0)] (preR E (wX E ax gx lt mo ad ln PL pf pw pk lw lk ik))) (vp_Si post) 0 0 (fun _ => False) := by
  refine Met.ofW (cc := cX2_marksInTheEnd) (maxL := 1) (ret := (some .int)) (by decide) rfl ?_
  intro p e s m args below meth c s₁ B hml hv
  obtain ⟨rfl, hpre⟩ := hv
  have hx := B.exec
  have hb := B.bytes
  have hr := B.returns
  have hlocks := B.notSynchronized
  have hts := atoms_spec (ws := (Cond.code yX2_marksInTheEnd cX2_marksInTheEnd 1 (some .int) :: ALLW)) B.pre
  have hta : ∀ w ∈ ALLW, w.before ([.ref (ax 0)] : List Value).toArray s = true := fun w h => hts w (List.mem_cons_of_mem _ h)
  have hown : s.vm.findClass RX2 = some m.cls := findClass_of_methodNamed B.named
  obtain ⟨hP, hKE⟩ := hpre
  have hP : va_P (eD E) vwCl ([((ax 0), .inr (3, [.ref (ax 1), .ref (ax 2), .ref (ax 4), .ref (ax 6), .int (gx 4), .int (gx 5), .int (gx 6), .int (gx 7), va_rf lt, .int (gx 9), .int (gx 10), .int (gx 11), .int (gx 12), .int (gx 13), .int (gx 14), .int (gx 15), .int (gx 16), .int (gx 17), .int (gx 18)])), ((ax 1), .inr (0, [.int mo, .ref ad, .int ln])), ((ax 2), .inr (2, [.ref (ax 3), .int pk])), ((ax 3), .inl (eC E 1, 157, .inr (.inl pw))), ((ax 4), .inr (2, [.ref (ax 5), .int lk])), ((ax 5), .inl (eC E 1, 157, .inr (.inl lw))), ((ax 6), .inl (eC E 0, 3, .inl ik))] ++ va_pl PL pf) s.heap := hP
  have hl := lv_entry ([.ref (ax 0)]) (n := 1) (Nat.le_of_ble_eq_true rfl)
  rw [lg_entry_eq]
  generalize (lg_sl ([.ref (ax 0)]) ++ List.replicate (1 - (lg_sl ([.ref (ax 0)])).length) Slot.unset).toArray = ls at hl ⊢
  have hl : lv_has ls 1 [(0, .ref (ax 0))] := hl
  unfold wp_X2_marksInTheEnd at hw
  refine lv_aload_n hx hb dX2_marksInTheEnd_0 rfl (lv_at hl 0 rfl) ?_
  refine va_get (D := eD E) (ci := 3) (v := .ref (ax 4)) (C := RX2) (T := TX2) (N := 19) hx hb hta lay_X2 hown hKE.1 hP 0 rfl rfl 2 (by decide) (hta _ tw_70) (fun _ h9 => h9) rfl dX2_marksInTheEnd_1 ?_
  refine va_getN (D := eD E) (ci := 2) (v := .int lk) (C := RX1) (T := TX1) (N := 2) hx hb hta lay_X1 hown hKE.1 hP 4 rfl rfl 1 (by decide) (va_Nw.use rfl (hKE.2.1 _ (List.mem_of_getElem? (i := 1) rfl))) (fun _ h9 => h9) rfl dX2_marksInTheEnd_4 ?_
  exact W.iret (v := lk) hx hb hr (fun t ht hW => ⟨lk, rfl, hw, ht⟩) (fun q hq => nomatch hq) dX2_marksInTheEnd_7
def wp_X2_isRight (E : EV) (post : Int32 → Prop) (gx : Nat → Int32) (lt : Option Nat) (mo : Int32) (ad : Nat) (ln : Int32) (PL : List Nat) (pf : Nat → va_E) (pw : Nat → Int64) (pk : Int32) (lw : Nat → Int64) (lk : Int32) (ik : Nat → Int32) (cm : Nat) : Prop := (∃ ckz_72 cxz_72 cyz_72 cpz_72 : Int32, cm ∈ PL ∧ pf cm = .inr (1, [.int ckz_72, .int cxz_72, .int cyz_72, .int cpz_72]) ∧ ((ckz_72 = 3 → (wp_X2_hasPen E (fun r_83 : Int32 => (narrow .boolean (.int r_83) = .int r_83 ∧ post r_83)) cpz_72)) ∧ (¬ (ckz_72 = 3) → (wp_X0_steps E (fun r_76 : Int32 => ((r_76 ≤ 0 → post 0) ∧ (¬ (r_76 ≤ 0) → (wp_X2_hasCell E (fun r_80 : Int32 => ((r_80 = 0 → post 0) ∧ (¬ (r_80 = 0) → post 1))) ((gx 9) + cxz_72) ((gx 10) + cyz_72))))) ckz_72 cxz_72 cyz_72 cpz_72))))
set_option maxHeartbeats 4000000 in
set_option maxRecDepth 100000 in
theorem c_X2_isRight (E : EV) (l : Launch) (ax : Nat → Nat) (gx : Nat → Int32) (lt : Option Nat) (mo : Int32) (ad : Nat) (ln : Int32) (PL : List Nat) (pf : Nat → va_E) (pw : Nat → Int64) (pk : Int32) (lw : Nat → Int64) (lk : Int32) (ik : Nat → Int32) (cm : Nat) (post : Int32 → Prop) (hw : wp_X2_isRight E post gx lt mo ad ln PL pf pw pk lw lk ik cm) : Met l yX2_isRight (Cond.code yX2_isRight cX2_isRight 2 (some .boolean) :: ALLW) ({ frames := 2, cells := 0, slots := 0, locals := 34 } : Room) (va_Pc [.ref (ax 0), .ref cm] (preR E (wX E ax gx lt mo ad ln PL pf pw pk lw lk ik))) (vp_Si post) 0 0 (fun _ => False) := by
  refine Met.ofW (cc := cX2_isRight) (maxL := 2) (ret := (some .boolean)) (by decide) rfl ?_
  intro p e s m args below meth c s₁ B hml hv
  obtain ⟨rfl, hpre⟩ := hv
  have hx := B.exec
  have hb := B.bytes
  have hr := B.returns
  have hlocks := B.notSynchronized
  have hts := atoms_spec (ws := (Cond.code yX2_isRight cX2_isRight 2 (some .boolean) :: ALLW)) B.pre
  have hta : ∀ w ∈ ALLW, w.before ([.ref (ax 0), .ref cm] : List Value).toArray s = true := fun w h => hts w (List.mem_cons_of_mem _ h)
  have hown : s.vm.findClass RX2 = some m.cls := findClass_of_methodNamed B.named
  obtain ⟨hP, hKE⟩ := hpre
  have hP : va_P (eD E) vwCl ([((ax 0), .inr (3, [.ref (ax 1), .ref (ax 2), .ref (ax 4), .ref (ax 6), .int (gx 4), .int (gx 5), .int (gx 6), .int (gx 7), va_rf lt, .int (gx 9), .int (gx 10), .int (gx 11), .int (gx 12), .int (gx 13), .int (gx 14), .int (gx 15), .int (gx 16), .int (gx 17), .int (gx 18)])), ((ax 1), .inr (0, [.int mo, .ref ad, .int ln])), ((ax 2), .inr (2, [.ref (ax 3), .int pk])), ((ax 3), .inl (eC E 1, 157, .inr (.inl pw))), ((ax 4), .inr (2, [.ref (ax 5), .int lk])), ((ax 5), .inl (eC E 1, 157, .inr (.inl lw))), ((ax 6), .inl (eC E 0, 3, .inl ik))] ++ va_pl PL pf) s.heap := hP
  have hl := lv_entry ([.ref (ax 0), .ref cm]) (n := 2) (Nat.le_of_ble_eq_true rfl)
  rw [lg_entry_eq]
  generalize (lg_sl ([.ref (ax 0), .ref cm]) ++ List.replicate (2 - (lg_sl ([.ref (ax 0), .ref cm])).length) Slot.unset).toArray = ls at hl ⊢
  have hl : lv_has ls 2 [(0, .ref (ax 0)), (1, .ref cm)] := hl
  unfold wp_X2_isRight at hw
  refine lv_aload_n hx hb dX2_isRight_0 rfl (lv_at hl 1 rfl) ?_
  obtain ⟨ckz_72, cxz_72, cyz_72, cpz_72, hyz_72, hfz_72, hw⟩ := hw
  obtain ⟨i_73, hi_73⟩ := va_pl_get (X := [((ax 0), .inr (3, [.ref (ax 1), .ref (ax 2), .ref (ax 4), .ref (ax 6), .int (gx 4), .int (gx 5), .int (gx 6), .int (gx 7), va_rf lt, .int (gx 9), .int (gx 10), .int (gx 11), .int (gx 12), .int (gx 13), .int (gx 14), .int (gx 15), .int (gx 16), .int (gx 17), .int (gx 18)])), ((ax 1), .inr (0, [.int mo, .ref ad, .int ln])), ((ax 2), .inr (2, [.ref (ax 3), .int pk])), ((ax 3), .inl (eC E 1, 157, .inr (.inl pw))), ((ax 4), .inr (2, [.ref (ax 5), .int lk])), ((ax 5), .inl (eC E 1, 157, .inr (.inl lw))), ((ax 6), .inl (eC E 0, 3, .inl ik))]) (f := pf) hyz_72
  rw [hfz_72] at hi_73
  refine va_getN (D := eD E) (ci := 1) (v := .int ckz_72) (C := RX0) (T := TX0) (N := 4) hx hb hta lay_X0 hown hKE.1 hP i_73 hi_73 rfl 0 (by decide) (va_Nw.use rfl (hKE.2.1 _ (List.mem_of_getElem? (i := 9) rfl))) (fun _ h9 => h9) rfl dX2_isRight_1 ?_
  refine lv_iconst (v := 3) hx hb dX2_isRight_4 (by decide) ?_
  refine lv_icmp_ne (tgt := 16) hx hb dX2_isRight_5 (by decide) (fun c_74 => ?_) (fun c_74 => ?_)
  · have hw := hw.2 c_74
    refine lv_aload_n hx hb dX2_isRight_16 rfl (lv_at hl 1 rfl) ?_
    obtain ⟨i_75, hi_75⟩ := va_pl_get (X := [((ax 0), .inr (3, [.ref (ax 1), .ref (ax 2), .ref (ax 4), .ref (ax 6), .int (gx 4), .int (gx 5), .int (gx 6), .int (gx 7), va_rf lt, .int (gx 9), .int (gx 10), .int (gx 11), .int (gx 12), .int (gx 13), .int (gx 14), .int (gx 15), .int (gx 16), .int (gx 17), .int (gx 18)])), ((ax 1), .inr (0, [.int mo, .ref ad, .int ln])), ((ax 2), .inr (2, [.ref (ax 3), .int pk])), ((ax 3), .inl (eC E 1, 157, .inr (.inl pw))), ((ax 4), .inr (2, [.ref (ax 5), .int lk])), ((ax 5), .inl (eC E 1, 157, .inr (.inl lw))), ((ax 6), .inl (eC E 0, 3, .inl ik))]) (f := pf) hyz_72
    rw [hfz_72] at hi_75
    have hPc : va_P (eD E) vwCl [(cm, .inr (1, [.int ckz_72, .int cxz_72, .int cyz_72, .int cpz_72]))] s.heap := va_one hP hi_75
    refine vp_callSi (va_Run.run (va_runVN (As := []) (rest := []) ⟨hx, hb, hml, hown, hta⟩ (c_X0_steps E l cm ckz_72 cxz_72 cyz_72 cpz_72 _ hw) (pcVN (n := 0) hta tw_190 (hKE.2.1 _ (List.mem_of_getElem? (i := 5) rfl)) tw_15 tw_189 tp_4 rfl rfl hd_X0_steps ⟨Nat.le_of_ble_eq_true rfl, Nat.le_of_ble_eq_true rfl⟩) ⟨fbR, va_recv hKE.1 hP (ci := 1) (q0 := i_75) rfl hi_75, fun U hU hW => ⟨rfl, preR.mk hPc hKE hU hW⟩⟩ rfl rfl hl.1 rfl (lv_room (Nat.le_of_ble_eq_true rfl)) dX2_isRight_17 ⟨Nat.le_of_ble_eq_true rfl, Nat.le_of_ble_eq_true rfl⟩)) (fun r_76 hw => ?_)
    refine lv_if_le (tgt := 51) hx hb dX2_isRight_20 (by decide) (fun c_77 => ?_) (fun c_77 => ?_)
    · have hw := hw.1 c_77
      refine lv_iconst (v := 0) hx hb dX2_isRight_51 (by decide) ?_
      exact W.zret (v := 0) hx hb hr rfl (fun t ht hW => ⟨0, rfl, hw, ht⟩) (fun q hq => nomatch hq) dX2_isRight_52
    · have hw := hw.2 c_77
      refine lv_aload_n hx hb dX2_isRight_23 rfl (lv_at hl 0 rfl) ?_
      refine va_get (D := eD E) (ci := 3) (v := .int (gx 9)) (C := RX2) (T := TX2) (N := 19) hx hb hta lay_X2 hown hKE.1 hP 0 rfl rfl 9 (by decide) (hta _ tw_77) (fun _ h9 => h9) rfl dX2_isRight_24 ?_
      refine lv_aload_n hx hb dX2_isRight_27 rfl (lv_at hl 1 rfl) ?_
      obtain ⟨i_78, hi_78⟩ := va_pl_get (X := [((ax 0), .inr (3, [.ref (ax 1), .ref (ax 2), .ref (ax 4), .ref (ax 6), .int (gx 4), .int (gx 5), .int (gx 6), .int (gx 7), va_rf lt, .int (gx 9), .int (gx 10), .int (gx 11), .int (gx 12), .int (gx 13), .int (gx 14), .int (gx 15), .int (gx 16), .int (gx 17), .int (gx 18)])), ((ax 1), .inr (0, [.int mo, .ref ad, .int ln])), ((ax 2), .inr (2, [.ref (ax 3), .int pk])), ((ax 3), .inl (eC E 1, 157, .inr (.inl pw))), ((ax 4), .inr (2, [.ref (ax 5), .int lk])), ((ax 5), .inl (eC E 1, 157, .inr (.inl lw))), ((ax 6), .inl (eC E 0, 3, .inl ik))]) (f := pf) hyz_72
      rw [hfz_72] at hi_78
      refine va_getN (D := eD E) (ci := 1) (v := .int cxz_72) (C := RX0) (T := TX0) (N := 4) hx hb hta lay_X0 hown hKE.1 hP i_78 hi_78 rfl 1 (by decide) (va_Nw.use rfl (hKE.2.1 _ (List.mem_of_getElem? (i := 10) rfl))) (fun _ h9 => h9) rfl dX2_isRight_28 ?_
      refine lv_iadd hx hb dX2_isRight_31 ?_
      refine lv_aload_n hx hb dX2_isRight_32 rfl (lv_at hl 0 rfl) ?_
      refine va_get (D := eD E) (ci := 3) (v := .int (gx 10)) (C := RX2) (T := TX2) (N := 19) hx hb hta lay_X2 hown hKE.1 hP 0 rfl rfl 10 (by decide) (hta _ tw_78) (fun _ h9 => h9) rfl dX2_isRight_33 ?_
      refine lv_aload_n hx hb dX2_isRight_36 rfl (lv_at hl 1 rfl) ?_
      obtain ⟨i_79, hi_79⟩ := va_pl_get (X := [((ax 0), .inr (3, [.ref (ax 1), .ref (ax 2), .ref (ax 4), .ref (ax 6), .int (gx 4), .int (gx 5), .int (gx 6), .int (gx 7), va_rf lt, .int (gx 9), .int (gx 10), .int (gx 11), .int (gx 12), .int (gx 13), .int (gx 14), .int (gx 15), .int (gx 16), .int (gx 17), .int (gx 18)])), ((ax 1), .inr (0, [.int mo, .ref ad, .int ln])), ((ax 2), .inr (2, [.ref (ax 3), .int pk])), ((ax 3), .inl (eC E 1, 157, .inr (.inl pw))), ((ax 4), .inr (2, [.ref (ax 5), .int lk])), ((ax 5), .inl (eC E 1, 157, .inr (.inl lw))), ((ax 6), .inl (eC E 0, 3, .inl ik))]) (f := pf) hyz_72
      rw [hfz_72] at hi_79
      refine va_getN (D := eD E) (ci := 1) (v := .int cyz_72) (C := RX0) (T := TX0) (N := 4) hx hb hta lay_X0 hown hKE.1 hP i_79 hi_79 rfl 2 (by decide) (va_Nw.use rfl (hKE.2.1 _ (List.mem_of_getElem? (i := 11) rfl))) (fun _ h9 => h9) rfl dX2_isRight_37 ?_
      refine lv_iadd hx hb dX2_isRight_40 ?_
      have hPc : va_P (eD E) vwCl [] s.heap := va_P_nil
      refine vp_callSi (va_Run.run (va_runS (As := [.int ((gx 9) + cxz_72), .int ((gx 10) + cyz_72)]) (rest := []) ⟨hx, hb, hml, hown, hta⟩ (c_X2_hasCell E l ((gx 9) + cxz_72) ((gx 10) + cyz_72) _ hw) (pcS (n := 2) hta tw_354 tw_352 tw_1 tw_353 rfl rfl hd_X2_hasCell ⟨Nat.le_of_ble_eq_true rfl, Nat.le_of_ble_eq_true rfl⟩) ⟨fbR, fun U hU hW => ⟨rfl, preR.mk hPc hKE hU hW⟩⟩ rfl rfl hl.1 rfl (lv_room (Nat.le_of_ble_eq_true rfl)) dX2_isRight_41 ⟨Nat.le_of_ble_eq_true rfl, Nat.le_of_ble_eq_true rfl⟩)) (fun r_80 hw => ?_)
      refine lv_if_eq (tgt := 51) hx hb dX2_isRight_44 (by decide) (fun c_81 => ?_) (fun c_81 => ?_)
      · have hw := hw.1 c_81
        refine lv_iconst (v := 0) hx hb dX2_isRight_51 (by decide) ?_
        exact W.zret (v := 0) hx hb hr rfl (fun t ht hW => ⟨0, rfl, hw, ht⟩) (fun q hq => nomatch hq) dX2_isRight_52
      · have hw := hw.2 c_81
        refine lv_iconst (v := 1) hx hb dX2_isRight_47 (by decide) ?_
        refine lv_goto (tgt := 52) hx hb dX2_isRight_48 (by decide) ?_
        exact W.zret (v := 1) hx hb hr rfl (fun t ht hW => ⟨1, rfl, hw, ht⟩) (fun q hq => nomatch hq) dX2_isRight_52
  · have hw := hw.1 c_74
    refine lv_aload_n hx hb dX2_isRight_8 rfl (lv_at hl 1 rfl) ?_
    obtain ⟨i_82, hi_82⟩ := va_pl_get (X := [((ax 0), .inr (3, [.ref (ax 1), .ref (ax 2), .ref (ax 4), .ref (ax 6), .int (gx 4), .int (gx 5), .int (gx 6), .int (gx 7), va_rf lt, .int (gx 9), .int (gx 10), .int (gx 11), .int (gx 12), .int (gx 13), .int (gx 14), .int (gx 15), .int (gx 16), .int (gx 17), .int (gx 18)])), ((ax 1), .inr (0, [.int mo, .ref ad, .int ln])), ((ax 2), .inr (2, [.ref (ax 3), .int pk])), ((ax 3), .inl (eC E 1, 157, .inr (.inl pw))), ((ax 4), .inr (2, [.ref (ax 5), .int lk])), ((ax 5), .inl (eC E 1, 157, .inr (.inl lw))), ((ax 6), .inl (eC E 0, 3, .inl ik))]) (f := pf) hyz_72
    rw [hfz_72] at hi_82
    refine va_getN (D := eD E) (ci := 1) (v := .int cpz_72) (C := RX0) (T := TX0) (N := 4) hx hb hta lay_X0 hown hKE.1 hP i_82 hi_82 rfl 3 (by decide) (va_Nw.use rfl (hKE.2.1 _ (List.mem_of_getElem? (i := 12) rfl))) (fun _ h9 => h9) rfl dX2_isRight_9 ?_
    have hPc : va_P (eD E) vwCl [] s.heap := va_P_nil
    refine vp_callSi (va_Run.run (va_runS (As := [.int cpz_72]) (rest := []) ⟨hx, hb, hml, hown, hta⟩ (c_X2_hasPen E l cpz_72 _ hw) (pcS (n := 1) hta tw_351 tw_349 tw_1 tw_350 rfl rfl hd_X2_hasPen ⟨Nat.le_of_ble_eq_true rfl, Nat.le_of_ble_eq_true rfl⟩) ⟨fbR, fun U hU hW => ⟨rfl, preR.mk hPc hKE hU hW⟩⟩ rfl rfl hl.1 rfl (lv_room (Nat.le_of_ble_eq_true rfl)) dX2_isRight_12 ⟨Nat.le_of_ble_eq_true rfl, Nat.le_of_ble_eq_true rfl⟩)) (fun r_83 hw => ?_)
    obtain ⟨hn_84, hw⟩ := hw
    exact W.zret (v := r_83) hx hb hr hn_84 (fun t ht hW => ⟨r_83, rfl, hw, ht⟩) (fun q hq => nomatch hq) dX2_isRight_15
def wp_X2_timeLeft_L9 (E : EV) (post : Int32 → Prop) (gx : Nat → Int32) (lt : Option Nat) (mo : Int32) (ad : Nat) (ln : Int32) (PL : List Nat) (pf : Nat → va_E) (pw : Nat → Int64) (pk : Int32) (lw : Nat → Int64) (lk : Int32) (ik : Nat → Int32)  : Nat → Int32 → Int32 → Int32 → Prop
  | 0, _, _, _ => False
  | n + 1, x1, x2, x3 => (wp_Jx4a65c_size_8abf5 E (fun r_85 : Int32 => ((r_85 ≤ x3 → post ((x1 - (gx 13)) - (gx 14))) ∧ (¬ (r_85 ≤ x3) → (wp_Jx4a65c_get_915e3 E (fun r_87 : Option Nat => ((r_87 = none → False) ∧ (∀ y_88 : Nat, r_87 = some y_88 → (∃ ckz_89 cxz_89 cyz_89 cpz_89 : Int32, y_88 ∈ PL ∧ pf y_88 = .inr (1, [.int ckz_89, .int cxz_89, .int cyz_89, .int cpz_89]) ∧ (wp_X0_draws E (fun r_92 : Int32 => ((x2 = r_92 → ((ckz_89 = 3 → (wp_X0_draws E (fun r_101 : Int32 => (wp_X2_timeLeft_L9 E post gx lt mo ad ln PL pf pw pk lw lk ik n (x1 + 3) r_101 (x3 + 1))) ckz_89 cxz_89 cyz_89 cpz_89)) ∧ (¬ (ckz_89 = 3) → (wp_X0_steps E (fun r_97 : Int32 => (wp_X0_draws E (fun r_99 : Int32 => (wp_X2_timeLeft_L9 E post gx lt mo ad ln PL pf pw pk lw lk ik n (x1 + r_97) r_99 (x3 + 1))) ckz_89 cxz_89 cyz_89 cpz_89)) ckz_89 cxz_89 cyz_89 cpz_89)))) ∧ (¬ (x2 = r_92) → ((ckz_89 = 3 → (wp_X0_draws E (fun r_109 : Int32 => (wp_X2_timeLeft_L9 E post gx lt mo ad ln PL pf pw pk lw lk ik n ((x1 + 2) + 3) r_109 (x3 + 1))) ckz_89 cxz_89 cyz_89 cpz_89)) ∧ (¬ (ckz_89 = 3) → (wp_X0_steps E (fun r_105 : Int32 => (wp_X0_draws E (fun r_107 : Int32 => (wp_X2_timeLeft_L9 E post gx lt mo ad ln PL pf pw pk lw lk ik n ((x1 + 2) + r_105) r_107 (x3 + 1))) ckz_89 cxz_89 cyz_89 cpz_89)) ckz_89 cxz_89 cyz_89 cpz_89)))))) ckz_89 cxz_89 cyz_89 cpz_89))))) mo ad ln PL pf x3)))) mo ad ln PL pf)
def wp_X2_timeLeft (E : EV) (post : Int32 → Prop) (gx : Nat → Int32) (lt : Option Nat) (mo : Int32) (ad : Nat) (ln : Int32) (PL : List Nat) (pf : Nat → va_E) (pw : Nat → Int64) (pk : Int32) (lw : Nat → Int64) (lk : Int32) (ik : Nat → Int32) : Prop := (∃ n : Nat, wp_X2_timeLeft_L9 E post gx lt mo ad ln PL pf pw pk lw lk ik n 0 (gx 15) 0)
set_option maxHeartbeats 4000000 in
set_option maxRecDepth 100000 in
theorem c_X2_timeLeft (E : EV) (l : Launch) (ax : Nat → Nat) (gx : Nat → Int32) (lt : Option Nat) (mo : Int32) (ad : Nat) (ln : Int32) (PL : List Nat) (pf : Nat → va_E) (pw : Nat → Int64) (pk : Int32) (lw : Nat → Int64) (lk : Int32) (ik : Nat → Int32) (post : Int32 → Prop) (hw : wp_X2_timeLeft E post gx lt mo ad ln PL pf pw pk lw lk ik) : Met l yX2_timeLeft (Cond.code yX2_timeLeft cX2_timeLeft 5 (some .int) :: ALLW) ({ frames := 3, cells := 0, slots := 0, locals := 64 } : Room) (va_Pc [.ref (ax 0)] (preR E (wX E ax gx lt mo ad ln PL pf pw pk lw lk ik))) (vp_Si post) 0 0 (fun _ => False) := by
  refine Met.ofW (cc := cX2_timeLeft) (maxL := 5) (ret := (some .int)) (by decide) rfl ?_
  intro p e s m args below meth c s₁ B hml hv
  obtain ⟨rfl, hpre⟩ := hv
  have hx := B.exec
  have hb := B.bytes
  have hr := B.returns
  have hlocks := B.notSynchronized
  have hts := atoms_spec (ws := (Cond.code yX2_timeLeft cX2_timeLeft 5 (some .int) :: ALLW)) B.pre
  have hta : ∀ w ∈ ALLW, w.before ([.ref (ax 0)] : List Value).toArray s = true := fun w h => hts w (List.mem_cons_of_mem _ h)
  have hown : s.vm.findClass RX2 = some m.cls := findClass_of_methodNamed B.named
  obtain ⟨hP, hKE⟩ := hpre
  have hP : va_P (eD E) vwCl ([((ax 0), .inr (3, [.ref (ax 1), .ref (ax 2), .ref (ax 4), .ref (ax 6), .int (gx 4), .int (gx 5), .int (gx 6), .int (gx 7), va_rf lt, .int (gx 9), .int (gx 10), .int (gx 11), .int (gx 12), .int (gx 13), .int (gx 14), .int (gx 15), .int (gx 16), .int (gx 17), .int (gx 18)])), ((ax 1), .inr (0, [.int mo, .ref ad, .int ln])), ((ax 2), .inr (2, [.ref (ax 3), .int pk])), ((ax 3), .inl (eC E 1, 157, .inr (.inl pw))), ((ax 4), .inr (2, [.ref (ax 5), .int lk])), ((ax 5), .inl (eC E 1, 157, .inr (.inl lw))), ((ax 6), .inl (eC E 0, 3, .inl ik))] ++ va_pl PL pf) s.heap := hP
  have hl := lv_entry ([.ref (ax 0)]) (n := 5) (Nat.le_of_ble_eq_true rfl)
  rw [lg_entry_eq]
  generalize (lg_sl ([.ref (ax 0)]) ++ List.replicate (5 - (lg_sl ([.ref (ax 0)])).length) Slot.unset).toArray = ls at hl ⊢
  have hl : lv_has ls 5 [(0, .ref (ax 0))] := hl
  have loop_9 : ∀ (n : Nat) (x1 : Int32) (x2 : Int32) (x3 : Int32), wp_X2_timeLeft_L9 E post gx lt mo ad ln PL pf pw pk lw lk ik n x1 x2 x3 → ∀ (ls : Array Slot), lv_has ls 5 [(0, .ref (ax 0)), (1, .int x1), (2, .int x2), (3, .int x3)] → W p l e (headSpec (Cond.code yX2_timeLeft cX2_timeLeft 5 (some .int) :: ALLW) ({ frames := 3, cells := 0, slots := 0, locals := 64 } : Room)).room s m ([.ref (ax 0)] : List Value).toArray below meth c s.heap [] 0 0 (MQ below (vp_Si post) ([.ref (ax 0)] : List Value).toArray s 0 0 (fun _ => False)) (F0 m 9 ls []) := by
    intro n
    induction n with
    | zero => intro x1 x2 x3 hw; exact hw.elim
    | succ n ih =>
      intro x1 x2 x3 hw ls hl
      unfold wp_X2_timeLeft_L9 at hw
      refine lv_iload_n hx hb dX2_timeLeft_9 rfl (lv_at hl 3 rfl) ?_
      refine lv_aload_n hx hb dX2_timeLeft_10 rfl (lv_at hl 0 rfl) ?_
      refine va_get (D := eD E) (ci := 3) (v := .ref (ax 1)) (C := RX2) (T := TX2) (N := 19) hx hb hta lay_X2 hown hKE.1 hP 0 rfl rfl 0 (by decide) (hta _ tw_68) (fun _ h9 => h9) rfl dX2_timeLeft_11 ?_
      have hPc : va_P (eD E) vwCl ([((ax 1), .inr (0, [.int mo, .ref ad, .int ln]))] ++ va_pl PL pf) s.heap := hP.part [1] rfl
      refine vp_callSi (va_Run.run (va_runV (As := []) (rest := [.int x3]) ⟨hx, hb, hml, hown, hta⟩ (c_Jx4a65c_size_8abf5 E l (ax 1) mo ad ln PL pf _ hw) (pcV (n := 0) hta tw_138 tw_135 tw_4 tw_136 tw_137 rfl rfl hd_Jx4a65c_size_8abf5 ⟨Nat.le_of_ble_eq_true rfl, Nat.le_of_ble_eq_true rfl⟩) ⟨fbR, va_recv hKE.1 hP (ci := 0) (q0 := 1) rfl rfl, fun U hU hW => ⟨rfl, preR.mk hPc hKE hU hW⟩⟩ rfl rfl hl.1 rfl (lv_room (Nat.le_of_ble_eq_true rfl)) dX2_timeLeft_14 ⟨Nat.le_of_ble_eq_true rfl, Nat.le_of_ble_eq_true rfl⟩)) (fun r_85 hw => ?_)
      refine lv_icmp_ge (tgt := 78) hx hb dX2_timeLeft_17 (by decide) (fun c_86 => ?_) (fun c_86 => ?_)
      · have hw := hw.1 c_86
        refine lv_iload_n hx hb dX2_timeLeft_78 rfl (lv_at hl 1 rfl) ?_
        refine lv_aload_n hx hb dX2_timeLeft_79 rfl (lv_at hl 0 rfl) ?_
        refine va_get (D := eD E) (ci := 3) (v := .int (gx 13)) (C := RX2) (T := TX2) (N := 19) hx hb hta lay_X2 hown hKE.1 hP 0 rfl rfl 13 (by decide) (hta _ tw_81) (fun _ h9 => h9) rfl dX2_timeLeft_80 ?_
        refine lv_isub hx hb dX2_timeLeft_83 ?_
        refine lv_aload_n hx hb dX2_timeLeft_84 rfl (lv_at hl 0 rfl) ?_
        refine va_get (D := eD E) (ci := 3) (v := .int (gx 14)) (C := RX2) (T := TX2) (N := 19) hx hb hta lay_X2 hown hKE.1 hP 0 rfl rfl 14 (by decide) (hta _ tw_82) (fun _ h9 => h9) rfl dX2_timeLeft_85 ?_
        refine lv_isub hx hb dX2_timeLeft_88 ?_
        exact W.iret (v := ((x1 - (gx 13)) - (gx 14))) hx hb hr (fun t ht hW => ⟨((x1 - (gx 13)) - (gx 14)), rfl, hw, ht⟩) (fun q hq => nomatch hq) dX2_timeLeft_89
      · have hw := hw.2 c_86
        refine lv_aload_n hx hb dX2_timeLeft_20 rfl (lv_at hl 0 rfl) ?_
        refine va_get (D := eD E) (ci := 3) (v := .ref (ax 1)) (C := RX2) (T := TX2) (N := 19) hx hb hta lay_X2 hown hKE.1 hP 0 rfl rfl 0 (by decide) (hta _ tw_68) (fun _ h9 => h9) rfl dX2_timeLeft_21 ?_
        refine lv_iload_n hx hb dX2_timeLeft_24 rfl (lv_at hl 3 rfl) ?_
        have hPc : va_P (eD E) vwCl ([((ax 1), .inr (0, [.int mo, .ref ad, .int ln]))] ++ va_pl PL pf) s.heap := hP.part [1] rfl
        refine va_csq (va_Run.run (va_runV (As := [.int x3]) (rest := []) ⟨hx, hb, hml, hown, hta⟩ (c_Jx4a65c_get_915e3 E l (ax 1) mo ad ln PL pf x3 _ hw) (pcV (n := 1) hta tw_166 tw_163 tw_4 tw_164 tw_165 rfl rfl hd_Jx4a65c_get_915e3 ⟨Nat.le_of_ble_eq_true rfl, Nat.le_of_ble_eq_true rfl⟩) ⟨fbR, va_recv hKE.1 hP (ci := 0) (q0 := 1) rfl rfl, fun U hU hW => ⟨rfl, preR.mk hPc hKE hU hW⟩⟩ rfl rfl hl.1 rfl (lv_room (Nat.le_of_ble_eq_true rfl)) dX2_timeLeft_25 ⟨Nat.le_of_ble_eq_true rfl, Nat.le_of_ble_eq_true rfl⟩)) (fun r_87 hw => ?_)
        rcases r_87 with _ | y_88
        · have hw := hw.1 rfl
          refine lv_castN hx hb dX2_timeLeft_28 ?_
          refine lv_astoreN (lv' := [(4, .null), (0, .ref (ax 0)), (1, .int x1), (2, .int x2), (3, .int x3)]) hx hb dX2_timeLeft_31 hl (by decide) rfl (fun ls hl => ?_)
          refine lv_iload_n hx hb dX2_timeLeft_33 rfl (lv_at hl 3 rfl) ?_
          refine lv_aloadN hx hb dX2_timeLeft_34 (lv_at hl 0 rfl) ?_
          exact hw.elim
        · have hw := hw.2 y_88 rfl
          obtain ⟨ckz_89, cxz_89, cyz_89, cpz_89, hyz_89, hfz_89, hw⟩ := hw
          obtain ⟨i_90, hi_90⟩ := va_pl_get (X := [((ax 0), .inr (3, [.ref (ax 1), .ref (ax 2), .ref (ax 4), .ref (ax 6), .int (gx 4), .int (gx 5), .int (gx 6), .int (gx 7), va_rf lt, .int (gx 9), .int (gx 10), .int (gx 11), .int (gx 12), .int (gx 13), .int (gx 14), .int (gx 15), .int (gx 16), .int (gx 17), .int (gx 18)])), ((ax 1), .inr (0, [.int mo, .ref ad, .int ln])), ((ax 2), .inr (2, [.ref (ax 3), .int pk])), ((ax 3), .inl (eC E 1, 157, .inr (.inl pw))), ((ax 4), .inr (2, [.ref (ax 5), .int lk])), ((ax 5), .inl (eC E 1, 157, .inr (.inl lw))), ((ax 6), .inl (eC E 0, 3, .inl ik))]) (f := pf) hyz_89
          rw [hfz_89] at hi_90
          refine va_castS hx hb hown (hta _ tw_177) (hKE.1.1 1 (RX0, TX0, 4) rfl).2 (va_recv hKE.1 hP (ci := 1) (q0 := i_90) rfl hi_90) dX2_timeLeft_28 ?_
          refine lv_astore (lv' := [(4, .ref y_88), (0, .ref (ax 0)), (1, .int x1), (2, .int x2), (3, .int x3)]) hx hb dX2_timeLeft_31 hl (by decide) rfl (fun ls hl => ?_)
          refine lv_iload_n hx hb dX2_timeLeft_33 rfl (lv_at hl 3 rfl) ?_
          refine lv_aload hx hb dX2_timeLeft_34 (lv_at hl 0 rfl) ?_
          obtain ⟨i_91, hi_91⟩ := va_pl_get (X := [((ax 0), .inr (3, [.ref (ax 1), .ref (ax 2), .ref (ax 4), .ref (ax 6), .int (gx 4), .int (gx 5), .int (gx 6), .int (gx 7), va_rf lt, .int (gx 9), .int (gx 10), .int (gx 11), .int (gx 12), .int (gx 13), .int (gx 14), .int (gx 15), .int (gx 16), .int (gx 17), .int (gx 18)])), ((ax 1), .inr (0, [.int mo, .ref ad, .int ln])), ((ax 2), .inr (2, [.ref (ax 3), .int pk])), ((ax 3), .inl (eC E 1, 157, .inr (.inl pw))), ((ax 4), .inr (2, [.ref (ax 5), .int lk])), ((ax 5), .inl (eC E 1, 157, .inr (.inl lw))), ((ax 6), .inl (eC E 0, 3, .inl ik))]) (f := pf) hyz_89
          rw [hfz_89] at hi_91
          have hPc : va_P (eD E) vwCl [(y_88, .inr (1, [.int ckz_89, .int cxz_89, .int cyz_89, .int cpz_89]))] s.heap := va_one hP hi_91
          refine vp_callSi (va_Run.run (va_runVN (As := []) (rest := [.int x2]) ⟨hx, hb, hml, hown, hta⟩ (c_X0_draws E l y_88 ckz_89 cxz_89 cyz_89 cpz_89 _ hw) (pcVN (n := 0) hta tw_224 (hKE.2.1 _ (List.mem_of_getElem? (i := 4) rfl)) tw_15 tw_223 tp_8 rfl rfl hd_X0_draws ⟨Nat.le_of_ble_eq_true rfl, Nat.le_of_ble_eq_true rfl⟩) ⟨fbR, va_recv hKE.1 hP (ci := 1) (q0 := i_91) rfl hi_91, fun U hU hW => ⟨rfl, preR.mk hPc hKE hU hW⟩⟩ rfl rfl hl.1 rfl (lv_room (Nat.le_of_ble_eq_true rfl)) dX2_timeLeft_36 ⟨Nat.le_of_ble_eq_true rfl, Nat.le_of_ble_eq_true rfl⟩)) (fun r_92 hw => ?_)
          refine lv_icmp_eq (tgt := 45) hx hb dX2_timeLeft_39 (by decide) (fun c_93 => ?_) (fun c_93 => ?_)
          · have hw := hw.1 c_93
            refine lv_iload_n hx hb dX2_timeLeft_45 rfl (lv_at hl 2 rfl) ?_
            refine lv_aload hx hb dX2_timeLeft_46 (lv_at hl 0 rfl) ?_
            obtain ⟨i_94, hi_94⟩ := va_pl_get (X := [((ax 0), .inr (3, [.ref (ax 1), .ref (ax 2), .ref (ax 4), .ref (ax 6), .int (gx 4), .int (gx 5), .int (gx 6), .int (gx 7), va_rf lt, .int (gx 9), .int (gx 10), .int (gx 11), .int (gx 12), .int (gx 13), .int (gx 14), .int (gx 15), .int (gx 16), .int (gx 17), .int (gx 18)])), ((ax 1), .inr (0, [.int mo, .ref ad, .int ln])), ((ax 2), .inr (2, [.ref (ax 3), .int pk])), ((ax 3), .inl (eC E 1, 157, .inr (.inl pw))), ((ax 4), .inr (2, [.ref (ax 5), .int lk])), ((ax 5), .inl (eC E 1, 157, .inr (.inl lw))), ((ax 6), .inl (eC E 0, 3, .inl ik))]) (f := pf) hyz_89
            rw [hfz_89] at hi_94
            refine va_getN (D := eD E) (ci := 1) (v := .int ckz_89) (C := RX0) (T := TX0) (N := 4) hx hb hta lay_X0 hown hKE.1 hP i_94 hi_94 rfl 0 (by decide) (va_Nw.use rfl (hKE.2.1 _ (List.mem_of_getElem? (i := 9) rfl))) (fun _ h9 => h9) rfl dX2_timeLeft_48 ?_
            refine lv_iconst (v := 3) hx hb dX2_timeLeft_51 (by decide) ?_
            refine lv_icmp_ne (tgt := 59) hx hb dX2_timeLeft_52 (by decide) (fun c_95 => ?_) (fun c_95 => ?_)
            · have hw := hw.2 c_95
              refine lv_aload hx hb dX2_timeLeft_59 (lv_at hl 0 rfl) ?_
              obtain ⟨i_96, hi_96⟩ := va_pl_get (X := [((ax 0), .inr (3, [.ref (ax 1), .ref (ax 2), .ref (ax 4), .ref (ax 6), .int (gx 4), .int (gx 5), .int (gx 6), .int (gx 7), va_rf lt, .int (gx 9), .int (gx 10), .int (gx 11), .int (gx 12), .int (gx 13), .int (gx 14), .int (gx 15), .int (gx 16), .int (gx 17), .int (gx 18)])), ((ax 1), .inr (0, [.int mo, .ref ad, .int ln])), ((ax 2), .inr (2, [.ref (ax 3), .int pk])), ((ax 3), .inl (eC E 1, 157, .inr (.inl pw))), ((ax 4), .inr (2, [.ref (ax 5), .int lk])), ((ax 5), .inl (eC E 1, 157, .inr (.inl lw))), ((ax 6), .inl (eC E 0, 3, .inl ik))]) (f := pf) hyz_89
              rw [hfz_89] at hi_96
              have hPc : va_P (eD E) vwCl [(y_88, .inr (1, [.int ckz_89, .int cxz_89, .int cyz_89, .int cpz_89]))] s.heap := va_one hP hi_96
              refine vp_callSi (va_Run.run (va_runVN (As := []) (rest := [.int x1]) ⟨hx, hb, hml, hown, hta⟩ (c_X0_steps E l y_88 ckz_89 cxz_89 cyz_89 cpz_89 _ hw) (pcVN (n := 0) hta tw_190 (hKE.2.1 _ (List.mem_of_getElem? (i := 5) rfl)) tw_15 tw_189 tp_4 rfl rfl hd_X0_steps ⟨Nat.le_of_ble_eq_true rfl, Nat.le_of_ble_eq_true rfl⟩) ⟨fbR, va_recv hKE.1 hP (ci := 1) (q0 := i_96) rfl hi_96, fun U hU hW => ⟨rfl, preR.mk hPc hKE hU hW⟩⟩ rfl rfl hl.1 rfl (lv_room (Nat.le_of_ble_eq_true rfl)) dX2_timeLeft_61 ⟨Nat.le_of_ble_eq_true rfl, Nat.le_of_ble_eq_true rfl⟩)) (fun r_97 hw => ?_)
              refine lv_iadd hx hb dX2_timeLeft_64 ?_
              refine lv_istore_n (lv' := [(1, .int (x1 + r_97)), (4, .ref y_88), (0, .ref (ax 0)), (2, .int x2), (3, .int x3)]) hx hb dX2_timeLeft_65 rfl hl (by decide) rfl (fun ls hl => ?_)
              refine lv_aload hx hb dX2_timeLeft_66 (lv_at hl 1 rfl) ?_
              obtain ⟨i_98, hi_98⟩ := va_pl_get (X := [((ax 0), .inr (3, [.ref (ax 1), .ref (ax 2), .ref (ax 4), .ref (ax 6), .int (gx 4), .int (gx 5), .int (gx 6), .int (gx 7), va_rf lt, .int (gx 9), .int (gx 10), .int (gx 11), .int (gx 12), .int (gx 13), .int (gx 14), .int (gx 15), .int (gx 16), .int (gx 17), .int (gx 18)])), ((ax 1), .inr (0, [.int mo, .ref ad, .int ln])), ((ax 2), .inr (2, [.ref (ax 3), .int pk])), ((ax 3), .inl (eC E 1, 157, .inr (.inl pw))), ((ax 4), .inr (2, [.ref (ax 5), .int lk])), ((ax 5), .inl (eC E 1, 157, .inr (.inl lw))), ((ax 6), .inl (eC E 0, 3, .inl ik))]) (f := pf) hyz_89
              rw [hfz_89] at hi_98
              have hPc : va_P (eD E) vwCl [(y_88, .inr (1, [.int ckz_89, .int cxz_89, .int cyz_89, .int cpz_89]))] s.heap := va_one hP hi_98
              refine vp_callSi (va_Run.run (va_runVN (As := []) (rest := []) ⟨hx, hb, hml, hown, hta⟩ (c_X0_draws E l y_88 ckz_89 cxz_89 cyz_89 cpz_89 _ hw) (pcVN (n := 0) hta tw_224 (hKE.2.1 _ (List.mem_of_getElem? (i := 4) rfl)) tw_15 tw_223 tp_8 rfl rfl hd_X0_draws ⟨Nat.le_of_ble_eq_true rfl, Nat.le_of_ble_eq_true rfl⟩) ⟨fbR, va_recv hKE.1 hP (ci := 1) (q0 := i_98) rfl hi_98, fun U hU hW => ⟨rfl, preR.mk hPc hKE hU hW⟩⟩ rfl rfl hl.1 rfl (lv_room (Nat.le_of_ble_eq_true rfl)) dX2_timeLeft_68 ⟨Nat.le_of_ble_eq_true rfl, Nat.le_of_ble_eq_true rfl⟩)) (fun r_99 hw => ?_)
              refine lv_istore_n (lv' := [(2, .int r_99), (1, .int (x1 + r_97)), (4, .ref y_88), (0, .ref (ax 0)), (3, .int x3)]) hx hb dX2_timeLeft_71 rfl hl (by decide) rfl (fun ls hl => ?_)
              refine lv_iinc (v := (x3 + 1)) (lv' := [(3, .int (x3 + 1)), (2, .int r_99), (1, .int (x1 + r_97)), (4, .ref y_88), (0, .ref (ax 0))]) hx hb dX2_timeLeft_72 hl (k := 4) rfl rfl (by decide) rfl (fun ls hl => ?_)
              refine lv_goto (tgt := 9) hx hb dX2_timeLeft_75 (by decide) ?_
              exact ih (x1 + r_97) r_99 (x3 + 1) hw ls (lv_sub hl [4, 2, 1, 0] rfl)
            · have hw := hw.1 c_95
              refine lv_iconst (v := 3) hx hb dX2_timeLeft_55 (by decide) ?_
              refine lv_goto (tgt := 64) hx hb dX2_timeLeft_56 (by decide) ?_
              refine lv_iadd hx hb dX2_timeLeft_64 ?_
              refine lv_istore_n (lv' := [(1, .int (x1 + 3)), (4, .ref y_88), (0, .ref (ax 0)), (2, .int x2), (3, .int x3)]) hx hb dX2_timeLeft_65 rfl hl (by decide) rfl (fun ls hl => ?_)
              refine lv_aload hx hb dX2_timeLeft_66 (lv_at hl 1 rfl) ?_
              obtain ⟨i_100, hi_100⟩ := va_pl_get (X := [((ax 0), .inr (3, [.ref (ax 1), .ref (ax 2), .ref (ax 4), .ref (ax 6), .int (gx 4), .int (gx 5), .int (gx 6), .int (gx 7), va_rf lt, .int (gx 9), .int (gx 10), .int (gx 11), .int (gx 12), .int (gx 13), .int (gx 14), .int (gx 15), .int (gx 16), .int (gx 17), .int (gx 18)])), ((ax 1), .inr (0, [.int mo, .ref ad, .int ln])), ((ax 2), .inr (2, [.ref (ax 3), .int pk])), ((ax 3), .inl (eC E 1, 157, .inr (.inl pw))), ((ax 4), .inr (2, [.ref (ax 5), .int lk])), ((ax 5), .inl (eC E 1, 157, .inr (.inl lw))), ((ax 6), .inl (eC E 0, 3, .inl ik))]) (f := pf) hyz_89
              rw [hfz_89] at hi_100
              have hPc : va_P (eD E) vwCl [(y_88, .inr (1, [.int ckz_89, .int cxz_89, .int cyz_89, .int cpz_89]))] s.heap := va_one hP hi_100
              refine vp_callSi (va_Run.run (va_runVN (As := []) (rest := []) ⟨hx, hb, hml, hown, hta⟩ (c_X0_draws E l y_88 ckz_89 cxz_89 cyz_89 cpz_89 _ hw) (pcVN (n := 0) hta tw_224 (hKE.2.1 _ (List.mem_of_getElem? (i := 4) rfl)) tw_15 tw_223 tp_8 rfl rfl hd_X0_draws ⟨Nat.le_of_ble_eq_true rfl, Nat.le_of_ble_eq_true rfl⟩) ⟨fbR, va_recv hKE.1 hP (ci := 1) (q0 := i_100) rfl hi_100, fun U hU hW => ⟨rfl, preR.mk hPc hKE hU hW⟩⟩ rfl rfl hl.1 rfl (lv_room (Nat.le_of_ble_eq_true rfl)) dX2_timeLeft_68 ⟨Nat.le_of_ble_eq_true rfl, Nat.le_of_ble_eq_true rfl⟩)) (fun r_101 hw => ?_)
              refine lv_istore_n (lv' := [(2, .int r_101), (1, .int (x1 + 3)), (4, .ref y_88), (0, .ref (ax 0)), (3, .int x3)]) hx hb dX2_timeLeft_71 rfl hl (by decide) rfl (fun ls hl => ?_)
              refine lv_iinc (v := (x3 + 1)) (lv' := [(3, .int (x3 + 1)), (2, .int r_101), (1, .int (x1 + 3)), (4, .ref y_88), (0, .ref (ax 0))]) hx hb dX2_timeLeft_72 hl (k := 4) rfl rfl (by decide) rfl (fun ls hl => ?_)
              refine lv_goto (tgt := 9) hx hb dX2_timeLeft_75 (by decide) ?_
              exact ih (x1 + 3) r_101 (x3 + 1) hw ls (lv_sub hl [4, 2, 1, 0] rfl)
          · have hw := hw.2 c_93
            refine lv_iinc (v := (x1 + 2)) (lv' := [(1, .int (x1 + 2)), (4, .ref y_88), (0, .ref (ax 0)), (2, .int x2), (3, .int x3)]) hx hb dX2_timeLeft_42 hl (k := 2) rfl rfl (by decide) rfl (fun ls hl => ?_)
            refine lv_iload_n hx hb dX2_timeLeft_45 rfl (lv_at hl 0 rfl) ?_
            refine lv_aload hx hb dX2_timeLeft_46 (lv_at hl 1 rfl) ?_
            obtain ⟨i_102, hi_102⟩ := va_pl_get (X := [((ax 0), .inr (3, [.ref (ax 1), .ref (ax 2), .ref (ax 4), .ref (ax 6), .int (gx 4), .int (gx 5), .int (gx 6), .int (gx 7), va_rf lt, .int (gx 9), .int (gx 10), .int (gx 11), .int (gx 12), .int (gx 13), .int (gx 14), .int (gx 15), .int (gx 16), .int (gx 17), .int (gx 18)])), ((ax 1), .inr (0, [.int mo, .ref ad, .int ln])), ((ax 2), .inr (2, [.ref (ax 3), .int pk])), ((ax 3), .inl (eC E 1, 157, .inr (.inl pw))), ((ax 4), .inr (2, [.ref (ax 5), .int lk])), ((ax 5), .inl (eC E 1, 157, .inr (.inl lw))), ((ax 6), .inl (eC E 0, 3, .inl ik))]) (f := pf) hyz_89
            rw [hfz_89] at hi_102
            refine va_getN (D := eD E) (ci := 1) (v := .int ckz_89) (C := RX0) (T := TX0) (N := 4) hx hb hta lay_X0 hown hKE.1 hP i_102 hi_102 rfl 0 (by decide) (va_Nw.use rfl (hKE.2.1 _ (List.mem_of_getElem? (i := 9) rfl))) (fun _ h9 => h9) rfl dX2_timeLeft_48 ?_
            refine lv_iconst (v := 3) hx hb dX2_timeLeft_51 (by decide) ?_
            refine lv_icmp_ne (tgt := 59) hx hb dX2_timeLeft_52 (by decide) (fun c_103 => ?_) (fun c_103 => ?_)
            · have hw := hw.2 c_103
              refine lv_aload hx hb dX2_timeLeft_59 (lv_at hl 1 rfl) ?_
              obtain ⟨i_104, hi_104⟩ := va_pl_get (X := [((ax 0), .inr (3, [.ref (ax 1), .ref (ax 2), .ref (ax 4), .ref (ax 6), .int (gx 4), .int (gx 5), .int (gx 6), .int (gx 7), va_rf lt, .int (gx 9), .int (gx 10), .int (gx 11), .int (gx 12), .int (gx 13), .int (gx 14), .int (gx 15), .int (gx 16), .int (gx 17), .int (gx 18)])), ((ax 1), .inr (0, [.int mo, .ref ad, .int ln])), ((ax 2), .inr (2, [.ref (ax 3), .int pk])), ((ax 3), .inl (eC E 1, 157, .inr (.inl pw))), ((ax 4), .inr (2, [.ref (ax 5), .int lk])), ((ax 5), .inl (eC E 1, 157, .inr (.inl lw))), ((ax 6), .inl (eC E 0, 3, .inl ik))]) (f := pf) hyz_89
              rw [hfz_89] at hi_104
              have hPc : va_P (eD E) vwCl [(y_88, .inr (1, [.int ckz_89, .int cxz_89, .int cyz_89, .int cpz_89]))] s.heap := va_one hP hi_104
              refine vp_callSi (va_Run.run (va_runVN (As := []) (rest := [.int (x1 + 2)]) ⟨hx, hb, hml, hown, hta⟩ (c_X0_steps E l y_88 ckz_89 cxz_89 cyz_89 cpz_89 _ hw) (pcVN (n := 0) hta tw_190 (hKE.2.1 _ (List.mem_of_getElem? (i := 5) rfl)) tw_15 tw_189 tp_4 rfl rfl hd_X0_steps ⟨Nat.le_of_ble_eq_true rfl, Nat.le_of_ble_eq_true rfl⟩) ⟨fbR, va_recv hKE.1 hP (ci := 1) (q0 := i_104) rfl hi_104, fun U hU hW => ⟨rfl, preR.mk hPc hKE hU hW⟩⟩ rfl rfl hl.1 rfl (lv_room (Nat.le_of_ble_eq_true rfl)) dX2_timeLeft_61 ⟨Nat.le_of_ble_eq_true rfl, Nat.le_of_ble_eq_true rfl⟩)) (fun r_105 hw => ?_)
              refine lv_iadd hx hb dX2_timeLeft_64 ?_
              refine lv_istore_n (lv' := [(1, .int ((x1 + 2) + r_105)), (4, .ref y_88), (0, .ref (ax 0)), (2, .int x2), (3, .int x3)]) hx hb dX2_timeLeft_65 rfl hl (by decide) rfl (fun ls hl => ?_)
              refine lv_aload hx hb dX2_timeLeft_66 (lv_at hl 1 rfl) ?_
              obtain ⟨i_106, hi_106⟩ := va_pl_get (X := [((ax 0), .inr (3, [.ref (ax 1), .ref (ax 2), .ref (ax 4), .ref (ax 6), .int (gx 4), .int (gx 5), .int (gx 6), .int (gx 7), va_rf lt, .int (gx 9), .int (gx 10), .int (gx 11), .int (gx 12), .int (gx 13), .int (gx 14), .int (gx 15), .int (gx 16), .int (gx 17), .int (gx 18)])), ((ax 1), .inr (0, [.int mo, .ref ad, .int ln])), ((ax 2), .inr (2, [.ref (ax 3), .int pk])), ((ax 3), .inl (eC E 1, 157, .inr (.inl pw))), ((ax 4), .inr (2, [.ref (ax 5), .int lk])), ((ax 5), .inl (eC E 1, 157, .inr (.inl lw))), ((ax 6), .inl (eC E 0, 3, .inl ik))]) (f := pf) hyz_89
              rw [hfz_89] at hi_106
              have hPc : va_P (eD E) vwCl [(y_88, .inr (1, [.int ckz_89, .int cxz_89, .int cyz_89, .int cpz_89]))] s.heap := va_one hP hi_106
              refine vp_callSi (va_Run.run (va_runVN (As := []) (rest := []) ⟨hx, hb, hml, hown, hta⟩ (c_X0_draws E l y_88 ckz_89 cxz_89 cyz_89 cpz_89 _ hw) (pcVN (n := 0) hta tw_224 (hKE.2.1 _ (List.mem_of_getElem? (i := 4) rfl)) tw_15 tw_223 tp_8 rfl rfl hd_X0_draws ⟨Nat.le_of_ble_eq_true rfl, Nat.le_of_ble_eq_true rfl⟩) ⟨fbR, va_recv hKE.1 hP (ci := 1) (q0 := i_106) rfl hi_106, fun U hU hW => ⟨rfl, preR.mk hPc hKE hU hW⟩⟩ rfl rfl hl.1 rfl (lv_room (Nat.le_of_ble_eq_true rfl)) dX2_timeLeft_68 ⟨Nat.le_of_ble_eq_true rfl, Nat.le_of_ble_eq_true rfl⟩)) (fun r_107 hw => ?_)
              refine lv_istore_n (lv' := [(2, .int r_107), (1, .int ((x1 + 2) + r_105)), (4, .ref y_88), (0, .ref (ax 0)), (3, .int x3)]) hx hb dX2_timeLeft_71 rfl hl (by decide) rfl (fun ls hl => ?_)
              refine lv_iinc (v := (x3 + 1)) (lv' := [(3, .int (x3 + 1)), (2, .int r_107), (1, .int ((x1 + 2) + r_105)), (4, .ref y_88), (0, .ref (ax 0))]) hx hb dX2_timeLeft_72 hl (k := 4) rfl rfl (by decide) rfl (fun ls hl => ?_)
              refine lv_goto (tgt := 9) hx hb dX2_timeLeft_75 (by decide) ?_
              exact ih ((x1 + 2) + r_105) r_107 (x3 + 1) hw ls (lv_sub hl [4, 2, 1, 0] rfl)
            · have hw := hw.1 c_103
              refine lv_iconst (v := 3) hx hb dX2_timeLeft_55 (by decide) ?_
              refine lv_goto (tgt := 64) hx hb dX2_timeLeft_56 (by decide) ?_
              refine lv_iadd hx hb dX2_timeLeft_64 ?_
              refine lv_istore_n (lv' := [(1, .int ((x1 + 2) + 3)), (4, .ref y_88), (0, .ref (ax 0)), (2, .int x2), (3, .int x3)]) hx hb dX2_timeLeft_65 rfl hl (by decide) rfl (fun ls hl => ?_)
              refine lv_aload hx hb dX2_timeLeft_66 (lv_at hl 1 rfl) ?_
              obtain ⟨i_108, hi_108⟩ := va_pl_get (X := [((ax 0), .inr (3, [.ref (ax 1), .ref (ax 2), .ref (ax 4), .ref (ax 6), .int (gx 4), .int (gx 5), .int (gx 6), .int (gx 7), va_rf lt, .int (gx 9), .int (gx 10), .int (gx 11), .int (gx 12), .int (gx 13), .int (gx 14), .int (gx 15), .int (gx 16), .int (gx 17), .int (gx 18)])), ((ax 1), .inr (0, [.int mo, .ref ad, .int ln])), ((ax 2), .inr (2, [.ref (ax 3), .int pk])), ((ax 3), .inl (eC E 1, 157, .inr (.inl pw))), ((ax 4), .inr (2, [.ref (ax 5), .int lk])), ((ax 5), .inl (eC E 1, 157, .inr (.inl lw))), ((ax 6), .inl (eC E 0, 3, .inl ik))]) (f := pf) hyz_89
              rw [hfz_89] at hi_108
              have hPc : va_P (eD E) vwCl [(y_88, .inr (1, [.int ckz_89, .int cxz_89, .int cyz_89, .int cpz_89]))] s.heap := va_one hP hi_108
              refine vp_callSi (va_Run.run (va_runVN (As := []) (rest := []) ⟨hx, hb, hml, hown, hta⟩ (c_X0_draws E l y_88 ckz_89 cxz_89 cyz_89 cpz_89 _ hw) (pcVN (n := 0) hta tw_224 (hKE.2.1 _ (List.mem_of_getElem? (i := 4) rfl)) tw_15 tw_223 tp_8 rfl rfl hd_X0_draws ⟨Nat.le_of_ble_eq_true rfl, Nat.le_of_ble_eq_true rfl⟩) ⟨fbR, va_recv hKE.1 hP (ci := 1) (q0 := i_108) rfl hi_108, fun U hU hW => ⟨rfl, preR.mk hPc hKE hU hW⟩⟩ rfl rfl hl.1 rfl (lv_room (Nat.le_of_ble_eq_true rfl)) dX2_timeLeft_68 ⟨Nat.le_of_ble_eq_true rfl, Nat.le_of_ble_eq_true rfl⟩)) (fun r_109 hw => ?_)
              refine lv_istore_n (lv' := [(2, .int r_109), (1, .int ((x1 + 2) + 3)), (4, .ref y_88), (0, .ref (ax 0)), (3, .int x3)]) hx hb dX2_timeLeft_71 rfl hl (by decide) rfl (fun ls hl => ?_)
              refine lv_iinc (v := (x3 + 1)) (lv' := [(3, .int (x3 + 1)), (2, .int r_109), (1, .int ((x1 + 2) + 3)), (4, .ref y_88), (0, .ref (ax 0))]) hx hb dX2_timeLeft_72 hl (k := 4) rfl rfl (by decide) rfl (fun ls hl => ?_)
              refine lv_goto (tgt := 9) hx hb dX2_timeLeft_75 (by decide) ?_
              exact ih ((x1 + 2) + 3) r_109 (x3 + 1) hw ls (lv_sub hl [4, 2, 1, 0] rfl)
  unfold wp_X2_timeLeft at hw
  refine lv_iconst (v := 0) hx hb dX2_timeLeft_0 (by decide) ?_
  refine lv_istore_n (lv' := [(1, .int 0), (0, .ref (ax 0))]) hx hb dX2_timeLeft_1 rfl hl (by decide) rfl (fun ls hl => ?_)
  refine lv_aload_n hx hb dX2_timeLeft_2 rfl (lv_at hl 1 rfl) ?_
  refine va_get (D := eD E) (ci := 3) (v := .int (gx 15)) (C := RX2) (T := TX2) (N := 19) hx hb hta lay_X2 hown hKE.1 hP 0 rfl rfl 15 (by decide) (hta _ tw_83) (fun _ h9 => h9) rfl dX2_timeLeft_3 ?_
  refine lv_istore_n (lv' := [(2, .int (gx 15)), (1, .int 0), (0, .ref (ax 0))]) hx hb dX2_timeLeft_6 rfl hl (by decide) rfl (fun ls hl => ?_)
  refine lv_iconst (v := 0) hx hb dX2_timeLeft_7 (by decide) ?_
  refine lv_istore_n (lv' := [(3, .int 0), (2, .int (gx 15)), (1, .int 0), (0, .ref (ax 0))]) hx hb dX2_timeLeft_8 rfl hl (by decide) rfl (fun ls hl => ?_)
  obtain ⟨n_110, hw⟩ := hw
  exact loop_9 n_110 0 (gx 15) 0 hw ls (lv_sub hl [3, 2, 1, 0] rfl)
end
