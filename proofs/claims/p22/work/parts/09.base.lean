abbrev EV : Type := (Nat → ClassId) × (Nat → Nat → Nat) × (Nat → ClassId) × (Nat → Nat)
abbrev eD (E : EV) : va_G := (E.1, E.2.1)
abbrev eC (E : EV) (k : Nat) : ClassId := E.2.2.1 k
abbrev eA (E : EV) (k : Nat) : Nat := E.2.2.2 k
abbrev eT (E : EV) : List (ClassId × FieldType) := [(eC E 0, .int), (eC E 1, .long), (eC E 2, .object "java/lang/Object")]
/-- words that the tables alone decide, but that a word list can't carry -/
def nwl : List Cond := [Cond.methodLinkNest "PlotKernel" 18 ⟨"PlotKernel$Paper", "<init>", "()V"⟩ "PlotKernel", Cond.fieldLinkNest "PlotKernel" 233 "PlotKernel$Paper" "markCount" "I" "PlotKernel", Cond.methodLinkNest "PlotKernel" 124 ⟨"PlotKernel$Command", "steps", "()I"⟩ "PlotKernel", Cond.methodLinkNest "PlotKernel" 91 ⟨"PlotKernel$Command", "draws", "()Z"⟩ "PlotKernel", Cond.methodLinkNest "PlotKernel" 131 ⟨"PlotKernel$Command", "wayX", "(I)I"⟩ "PlotKernel", Cond.methodLinkNest "PlotKernel" 134 ⟨"PlotKernel$Command", "wayY", "(I)I"⟩ "PlotKernel", Cond.methodLinkNest "PlotKernel" 137 ⟨"PlotKernel$Paper", "putMark", "(II)V"⟩ "PlotKernel", Cond.methodLinkNest "PlotKernel$Paper" 31 ⟨"PlotKernel", "hasCell", "(II)Z"⟩ "PlotKernel", Cond.methodLinkNest "PlotKernel" 69 ⟨"PlotKernel$Command", "<init>", "(IIII)V"⟩ "PlotKernel", Cond.fieldLinkNest "PlotKernel" 114 "PlotKernel$Command" "kind" "I" "PlotKernel", Cond.fieldLinkNest "PlotKernel" 105 "PlotKernel$Command" "dx" "I" "PlotKernel", Cond.fieldLinkNest "PlotKernel" 111 "PlotKernel$Command" "dy" "I" "PlotKernel", Cond.fieldLinkNest "PlotKernel" 117 "PlotKernel$Command" "pen" "I" "PlotKernel", Cond.methodLinkNest "PlotKernel" 230 ⟨"PlotKernel$Paper", "hasMark", "(II)Z"⟩ "PlotKernel", Cond.castable "PlotKernel$Command" "java/lang/Object", Cond.declares ⟨"java/lang/RuntimeException", "<init>", "()V"⟩, Cond.declares ⟨"java/lang/RuntimeException", "<init>", "(Ljava/lang/String;)V"⟩, Cond.declares ⟨"java/lang/Exception", "<init>", "()V"⟩, Cond.declares ⟨"java/lang/Exception", "<init>", "(Ljava/lang/String;)V"⟩, Cond.declares ⟨"java/lang/Throwable", "<init>", "()V"⟩, Cond.declares ⟨"java/lang/Throwable", "<init>", "(Ljava/lang/String;)V"⟩, Cond.castable "java/lang/IndexOutOfBoundsException" "java/lang/IndexOutOfBoundsException", Cond.castable "java/lang/IllegalArgumentException" "java/lang/IllegalArgumentException"]
def NW (U : State) : Prop := ∀ w ∈ nwl, va_Nw w U
theorem NW.warm {s U : State} (hW : s.WarmedH U.vm) (h : NW s) : NW U := by
  intro w hw
  have h1 := h w hw
  simp only [nwl, List.mem_cons, List.not_mem_nil, or_false] at hw
  rcases hw with rfl | rfl | rfl | rfl | rfl | rfl | rfl | rfl | rfl | rfl | rfl | rfl | rfl | rfl | rfl | rfl | rfl | rfl | rfl | rfl | rfl | rfl | rfl <;> first | exact va_Nw.warmF hW h1 | exact va_Nw.warmM hW h1 | exact va_Nw.warmC hW h1 | exact va_Nw.warmD hW h1
theorem nwl_ot : ∀ w ∈ nwl, w.onTables = true := by
  intro w hw
  simp only [nwl, List.mem_cons, List.not_mem_nil, or_false] at hw
  rcases hw with rfl | rfl | rfl | rfl | rfl | rfl | rfl | rfl | rfl | rfl | rfl | rfl | rfl | rfl | rfl | rfl | rfl | rfl | rfl | rfl | rfl | rfl | rfl <;> rfl
theorem NW.same {u U : State} (h : u.vm = U.vm) (hN : NW u) : NW U := fun w hw => va_Nw.same (nwl_ot w hw) h (hN w hw)
def SR (E : EV) (U : State) : Prop := vk_R RX2 164 "a pen is 0 to 2" (eA E 2) U ∧ vk_R RX2 32 "a byte is 0 to 255" (eA E 3) U ∧ vk_R RX2 141 "ticks are 1 to 1000" (eA E 4) U ∧ vk_R RX2 173 "an amount is 1 to 500" (eA E 5) U ∧ vk_R RX2 228 "a cell has x and y from 0 to 99" (eA E 6) U
def KE (E : EV) (U : State) : Prop := va_K (eD E) vwCl (eT E) U ∧ NW U ∧ va_AO "java/lang/Object" U ∧ va_Mi "[Ljava/lang/Object;" (eA E 1) U ∧ va_Dc U ∧ SR E U ∧ va_Nc "java/lang/IllegalArgumentException" "java/lang/IndexOutOfBoundsException" U
theorem SR.warm {E : EV} {s U : State} (hW : s.WarmedH U.vm) (h : SR E s) : SR E U := by
  obtain ⟨h0, h1, h2, h3, h4⟩ := h
  exact ⟨h0.warm hW, h1.warm hW, h2.warm hW, h3.warm hW, h4.warm hW⟩
theorem SR.same {E : EV} {u U : State} (hv : U.vm = u.vm) (h : SR E u) : SR E U := by
  obtain ⟨h0, h1, h2, h3, h4⟩ := h
  exact ⟨h0.same hv, h1.same hv, h2.same hv, h3.same hv, h4.same hv⟩
theorem KE.warm {E : EV} {s U : State} (h : KE E s) (hW : s.WarmedH U.vm) : KE E U :=
  ⟨va_K.moved hW.alike h.1, NW.warm hW h.2.1, va_AO.moved hW.alike h.2.2.1, va_Mi.moved hW.alike h.2.2.2.1, va_Dc.moved hW.alike h.2.2.2.2.1, SR.warm hW h.2.2.2.2.2.1, va_Nc.moved hW.alike h.2.2.2.2.2.2⟩
theorem KE.call {E : EV} {U : State} {g : JFrame} {mk : MethodId} {a : Array Value} (h : KE E U) : KE E (U.calling g mk a) :=
  ⟨va_K.moved (u := U) (U := U.calling g mk a) (Vm.Alike.refl U.vm) h.1, NW.same (u := U) (U := U.calling g mk a) rfl h.2.1, va_AO.moved (u := U) (U := U.calling g mk a) (Vm.Alike.refl U.vm) h.2.2.1, va_Mi.moved (u := U) (U := U.calling g mk a) (Vm.Alike.refl U.vm) h.2.2.2.1, va_Dc.moved (u := U) (U := U.calling g mk a) (Vm.Alike.refl U.vm) h.2.2.2.2.1, SR.same (u := U) (U := U.calling g mk a) rfl h.2.2.2.2.2.1, va_Nc.moved (u := U) (U := U.calling g mk a) (Vm.Alike.refl U.vm) h.2.2.2.2.2.2⟩
/-- the statics that are read: where they lie, apart from what may be written -/
def ZE (E : EV) (A : Nat → Prop) (U : State) (H : Heap) : Prop := va_Z "java/util/ArrayList" "DEFAULTCAPACITY_EMPTY_ELEMENTDATA" "[Ljava/lang/Object;" (.ref (eA E 0)) A U H ∧ va_T (.object "java/lang/Object") (eA E 0) 0 (fun _ => .null) A U H ∧ vx_Zq Bundle.tN "UNASSIGNED_STACK" Bundle.steD A U H ∧ vx_Zq Bundle.tN "SUPPRESSED_SENTINEL" Bundle.listD A U H
theorem ZE.to {E : EV} {A B : Nat → Prop} {s U : State} {H : Heap} {locs : List Loc} (h : ZE E A s s.heap) (hS : va_S A s.heap H locs) (hAB : ∀ q, B q → A q) (hU : U.heap = H) (hW : s.WarmedH U.vm) : ZE E B U U.heap := by
  rw [hU]
  exact ⟨((h.1.kept hS.2.1).narrow hAB).moved hW.alike, ((h.2.1.kept hS.2.1).narrow hAB).moved hW.alike, ((h.2.2.1.kept hS.2.1).narrow hAB).moved hW.alike, ((h.2.2.2.kept hS.2.1).narrow hAB).moved hW.alike⟩
theorem ZE.call {E : EV} {A : Nat → Prop} {U : State} {H : Heap} {g : JFrame} {mk : MethodId} {a : Array Value} (h : ZE E A U H) : ZE E A (U.calling g mk a) H :=
  ⟨va_Z.moved (u := U) (U := U.calling g mk a) (Vm.Alike.refl U.vm) h.1, va_T.moved (u := U) (U := U.calling g mk a) (Vm.Alike.refl U.vm) h.2.1, vx_Zq.moved (u := U) (U := U.calling g mk a) (Vm.Alike.refl U.vm) h.2.2.1, vx_Zq.moved (u := U) (U := U.calling g mk a) (Vm.Alike.refl U.vm) h.2.2.2⟩
/-- what a method that only reads finds -/
def preR (E : EV) (ws : va_W) : State → Prop := fun U => va_P (eD E) vwCl ws U.heap ∧ KE E U
theorem fbR {E : EV} {ws : va_W} {av : List Value} : FrameBlind (va_Pc av (preR E ws)) := fun _ _ _ _ q => ⟨q.1, q.2.1, q.2.2.call⟩
theorem preR.mk {E : EV} {ws : va_W} {s U : State} {H : Heap} (hP : va_P (eD E) vwCl ws H) (hK : KE E s) (hU : U.heap = H) (hW : s.WarmedH U.vm) : preR E ws U := ⟨by rw [hU]; exact hP, hK.warm hW⟩
/-- what a method that writes finds -/
def preM (E : EV) (ws : va_W) (sz : Nat) : State → Prop := fun U => U.heap.size = sz ∧ va_P (eD E) vwCl ws U.heap ∧ KE E U ∧ va_D (fun _ => True) ws ∧ ZE E (va_A ws sz) U U.heap
theorem fbM {E : EV} {ws : va_W} {sz : Nat} {av : List Value} : FrameBlind (va_Pc av (preM E ws sz)) := fun _ _ _ _ q => ⟨q.1, q.2.1, q.2.2.1, q.2.2.2.1.call, q.2.2.2.2.1, q.2.2.2.2.2.call⟩
theorem preM.mk {E : EV} {A : Nat → Prop} {wc : va_W} {s U : State} {H : Heap} {locs : List Loc} (hPc : va_P (eD E) vwCl wc H) (hK : KE E s) (hDc : va_D A wc) (hZ : ZE E A s s.heap) (hS : va_S A s.heap H locs) (hF : ∀ q, va_A wc H.size q → A q) (hU : U.heap = H) (hW : s.WarmedH U.vm) : preM E wc H.size U :=
  ⟨by rw [hU], by rw [hU]; exact hPc, hK.warm hW, hDc.weaken (fun _ _ _ _ => trivial), hZ.to hS hF hU hW⟩
theorem frS {A : Nat → Prop} {ws : va_W} {H0 H : Heap} {locs : List Loc} (hD : va_D A ws) (hS : va_S A H0 H locs) (hA : ∀ q, H0.size ≤ q → A q) : ∀ q, va_A ws H.size q → A q := by
  intro q h
  rcases h with ⟨k, e, h⟩ | h
  · exact hD.2 k (q, e) h
  · exact hA q (Nat.le_trans hS.1 h)
/-- cells of a part, by their places -/
theorem frP {A : Nat → Prop} {ws wc : va_W} {H0 H : Heap} {locs : List Loc} (hD : va_D A ws) (hS : va_S A H0 H locs) (hA : ∀ q, H0.size ≤ q → A q) (hc : ∀ (k : Nat) (q : Nat × va_E), wc[k]? = some q → ∃ i : Nat, ws[i]? = some q) : ∀ q, va_A wc H.size q → A q := by
  intro q h
  rcases h with ⟨k, e, h⟩ | h
  · obtain ⟨i, hi⟩ := hc k _ h
    exact hD.2 i (q, e) hi
  · exact hA q (Nat.le_trans hS.1 h)
theorem va_D.adr {A : Nat → Prop} {w1 w2 : va_W} (h : va_D A w1) (he : w1.map Prod.fst = w2.map Prod.fst) : va_D A w2 := by
  have key : ∀ (k : Nat) (q : Nat × va_E), w2[k]? = some q → ∃ q1 : Nat × va_E, w1[k]? = some q1 ∧ q1.1 = q.1 := by
    intro k q hk
    have h2 : (w2.map Prod.fst)[k]? = some q.1 := by rw [List.getElem?_map, hk]; rfl
    rw [← he, List.getElem?_map] at h2
    cases h3 : w1[k]? with
    | none => rw [h3] at h2; cases h2
    | some q1 => rw [h3] at h2; exact ⟨q1, rfl, Option.some.inj h2⟩
  refine ⟨fun i j p q hi hj hpq => ?_, fun k q hk => ?_⟩
  · obtain ⟨p1, h1, h2⟩ := key i p hi
    obtain ⟨q1, h3, h4⟩ := key j q hj
    exact h.1 i j p1 q1 h1 h3 (by rw [h2, h4]; exact hpq)
  · obtain ⟨q1, h1, h2⟩ := key k q hk
    rw [← h2]; exact h.2 k q1 h1
/-- behind a call that had some cells: those anew, the others as they were -/
theorem jn {A : Nat → Prop} {D : va_G} {cl : List vw_C} {ws wc w1 ws1 : va_W} {H H1 : Heap} (hP : va_P D cl ws H) (hD : va_D A ws) (hk : ∀ q : Nat, q < H.size → ¬ va_A wc H.size q → H1[q]? = H[q]?) (hP1 : va_P D cl w1 H1) (he : ws.map Prod.fst = ws1.map Prod.fst)
    (hc : ∀ (k : Nat) (q : Nat × va_E), ws1[k]? = some q → (∃ j : Nat, w1[j]? = some q) ∨ (ws[k]? = some q ∧ ∀ (j : Nat) (e : va_E), wc[j]? = some (q.1, e) → False)) : va_P D cl ws1 H1 ∧ va_D A ws1 := by
  refine ⟨fun k q hq => ?_, hD.adr he⟩
  rcases hc k q hq with ⟨j, h⟩ | ⟨h, hn⟩
  · exact hP1 j q h
  · have hl := (hP k q h).lt
    refine (hP k q h).kept (hk q.1 hl ?_)
    rintro (⟨j, e, hj⟩ | hj)
    · exact hn j e hj
    · omega
theorem goodAll {c : Cond} (h : c ∈ ALLW) : GoodIn ALLW (c :: ALLW) := by
  intro w hw
  rcases List.mem_cons.mp hw with rfl | hw
  · exact ⟨h, good_of_word (List.mem_filter.mp h).2⟩
  · exact ⟨hw, good_of_word (List.mem_filter.mp hw).2⟩
section CW
variable {R : Room} {s : State} {args : Array Value} {own C : String} {index maxL mc ms n : Nat} {y : MethodName} {bytes : ByteArray} {ret : Option FieldType} {rm : Room}
abbrev hdP (y : MethodName) (n : Nat) : Prop := y.cls ≠ "java/lang/invoke/MethodHandle" ∧ y.cls ≠ "java/lang/invoke/VarHandle" ∧ (parseMethodDescriptor y.desc).map (fun d => d.parameters.length) = some n
theorem pcB (hta : ∀ w ∈ ALLW, w.before args s = true) (hcode : Cond.code y bytes maxL ret ∈ ALLW) (hlink : Cond.methodLink own index y ∈ ALLW) (hini : Cond.initialized y.cls ∈ ALLW) (hrc : rm.cells = mc) (hrs : rm.slots = ms) (hd : hdP y n) (hR : rm.frames + 1 ≤ R.frames ∧ 8 + (maxL + 11) + rm.locals ≤ R.locals) : CallB R s args own index y bytes maxL ret (Cond.code y bytes maxL ret :: ALLW) rm mc ms n := callB_of n hta (goodAll hcode) rfl hrc hrs (hta _ hini) (hta _ hlink) hd hR
theorem pcV (hta : ∀ w ∈ ALLW, w.before args s = true) (hcode : Cond.code y bytes maxL ret ∈ ALLW) (hlink : Cond.methodLink own index y ∈ ALLW) (hini : Cond.initialized y.cls ∈ ALLW) (hinst : Cond.instanceMethod y ∈ ALLW) (hsel : Cond.selects C y y ∈ ALLW) (hrc : rm.cells = mc) (hrs : rm.slots = ms) (hd : hdP y n) (hR : rm.frames + 1 ≤ R.frames ∧ 8 + (maxL + 11) + rm.locals ≤ R.locals) : CallW R s args own C index y bytes maxL ret (Cond.code y bytes maxL ret :: ALLW) rm mc ms n := ⟨pcB hta hcode hlink hini hrc hrs hd hR, hta _ hinst, hta _ hsel⟩
theorem pcS (hta : ∀ w ∈ ALLW, w.before args s = true) (hcode : Cond.code y bytes maxL ret ∈ ALLW) (hlink : Cond.methodLink own index y ∈ ALLW) (hini : Cond.initialized y.cls ∈ ALLW) (hstat : Cond.static y ∈ ALLW) (hrc : rm.cells = mc) (hrs : rm.slots = ms) (hd : hdP y n) (hR : rm.frames + 1 ≤ R.frames ∧ 8 + (maxL + 11) + rm.locals ≤ R.locals) : CallB R s args own index y bytes maxL ret (Cond.code y bytes maxL ret :: ALLW) rm mc ms n ∧ (Cond.static y).before args s = true := ⟨pcB hta hcode hlink hini hrc hrs hd hR, hta _ hstat⟩
theorem pcI (hta : ∀ w ∈ ALLW, w.before args s = true) (hcode : Cond.code y bytes maxL none ∈ ALLW) (hlink : Cond.methodLink own index y ∈ ALLW) (hini : Cond.initialized y.cls ∈ ALLW) (hinst : Cond.instanceMethod y ∈ ALLW) (hnm : y.name = "<init>") (hrc : rm.cells = mc) (hrs : rm.slots = ms) (hd : hdP y n) (hR : rm.frames + 1 ≤ R.frames ∧ 8 + (maxL + 11) + rm.locals ≤ R.locals) : CallB R s args own index y bytes maxL none (Cond.code y bytes maxL none :: ALLW) rm mc ms n ∧ y.name = "<init>" ∧ (Cond.instanceMethod y).before args s = true := ⟨pcB hta hcode hlink hini hrc hrs hd hR, hnm, hta _ hinst⟩
theorem pcN {host : String} (hta : ∀ w ∈ ALLW, w.before args s = true) (hcode : Cond.code y bytes maxL ret ∈ ALLW) (hl : va_Nw (.methodLinkNest own index y host) s) (hini : Cond.initialized y.cls ∈ ALLW) (hrc : rm.cells = mc) (hrs : rm.slots = ms) (hd : hdP y n) (hR : rm.frames + 1 ≤ R.frames ∧ 8 + (maxL + 11) + rm.locals ≤ R.locals) : va_CN R s args own index y host bytes maxL ret (Cond.code y bytes maxL ret :: ALLW) rm mc ms n := va_cnB n hta (goodAll hcode) rfl hrc hrs hl (hta _ hini) hd hR
theorem pcVN {host : String} (hta : ∀ w ∈ ALLW, w.before args s = true) (hcode : Cond.code y bytes maxL ret ∈ ALLW) (hl : va_Nw (.methodLinkNest own index y host) s) (hini : Cond.initialized y.cls ∈ ALLW) (hinst : Cond.instanceMethod y ∈ ALLW) (hsel : Cond.selects C y y ∈ ALLW) (hrc : rm.cells = mc) (hrs : rm.slots = ms) (hd : hdP y n) (hR : rm.frames + 1 ≤ R.frames ∧ 8 + (maxL + 11) + rm.locals ≤ R.locals) : va_CN R s args own index y host bytes maxL ret (Cond.code y bytes maxL ret :: ALLW) rm mc ms n ∧ (Cond.instanceMethod y).before args s = true ∧ (Cond.selects C y y).before args s = true := ⟨pcN hta hcode hl hini hrc hrs hd hR, hta _ hinst, hta _ hsel⟩
theorem pcSN {host : String} (hta : ∀ w ∈ ALLW, w.before args s = true) (hcode : Cond.code y bytes maxL ret ∈ ALLW) (hl : va_Nw (.methodLinkNest own index y host) s) (hini : Cond.initialized y.cls ∈ ALLW) (hstat : Cond.static y ∈ ALLW) (hrc : rm.cells = mc) (hrs : rm.slots = ms) (hd : hdP y n) (hR : rm.frames + 1 ≤ R.frames ∧ 8 + (maxL + 11) + rm.locals ≤ R.locals) : va_CN R s args own index y host bytes maxL ret (Cond.code y bytes maxL ret :: ALLW) rm mc ms n ∧ (Cond.static y).before args s = true ∧ True := ⟨pcN hta hcode hl hini hrc hrs hd hR, hta _ hstat, trivial⟩
theorem pcIN {host : String} (hta : ∀ w ∈ ALLW, w.before args s = true) (hcode : Cond.code y bytes maxL none ∈ ALLW) (hl : va_Nw (.methodLinkNest own index y host) s) (hini : Cond.initialized y.cls ∈ ALLW) (hinst : Cond.instanceMethod y ∈ ALLW) (hnm : y.name = "<init>") (hrc : rm.cells = mc) (hrs : rm.slots = ms) (hd : hdP y n) (hR : rm.frames + 1 ≤ R.frames ∧ 8 + (maxL + 11) + rm.locals ≤ R.locals) : va_CN R s args own index y host bytes maxL none (Cond.code y bytes maxL none :: ALLW) rm mc ms n ∧ y.name = "<init>" ∧ (Cond.instanceMethod y).before args s = true := ⟨pcN hta hcode hl hini hrc hrs hd hR, hnm, hta _ hinst⟩
end CW
theorem lay_AL : ∀ w ∈ u_ws RJx4a65c TJx4a65c 3, w ∈ ALLW := List.forall_mem_cons.mpr ⟨tw_49, List.forall_mem_cons.mpr ⟨tw_45, List.forall_mem_cons.mpr ⟨tw_47, fun _ h => absurd h List.not_mem_nil⟩⟩⟩
theorem lay_X0 : ∀ w ∈ u_ws RX0 TX0 4, w ∈ ALLW := List.forall_mem_cons.mpr ⟨tw_396, List.forall_mem_cons.mpr ⟨tw_398, List.forall_mem_cons.mpr ⟨tw_400, List.forall_mem_cons.mpr ⟨tw_402, fun _ h => absurd h List.not_mem_nil⟩⟩⟩⟩
theorem lay_X1 : ∀ w ∈ u_ws RX1 TX1 2, w ∈ ALLW := List.forall_mem_cons.mpr ⟨tw_61, List.forall_mem_cons.mpr ⟨tw_63, fun _ h => absurd h List.not_mem_nil⟩⟩
theorem lay_X2 : ∀ w ∈ u_ws RX2 TX2 19, w ∈ ALLW := List.forall_mem_cons.mpr ⟨tw_86, List.forall_mem_cons.mpr ⟨tw_88, List.forall_mem_cons.mpr ⟨tw_90, List.forall_mem_cons.mpr ⟨tw_92, List.forall_mem_cons.mpr ⟨tw_94, List.forall_mem_cons.mpr ⟨tw_96, List.forall_mem_cons.mpr ⟨tw_98, List.forall_mem_cons.mpr ⟨tw_100, List.forall_mem_cons.mpr ⟨tw_102, List.forall_mem_cons.mpr ⟨tw_104, List.forall_mem_cons.mpr ⟨tw_106, List.forall_mem_cons.mpr ⟨tw_108, List.forall_mem_cons.mpr ⟨tw_110, List.forall_mem_cons.mpr ⟨tw_112, List.forall_mem_cons.mpr ⟨tw_114, List.forall_mem_cons.mpr ⟨tw_116, List.forall_mem_cons.mpr ⟨tw_118, List.forall_mem_cons.mpr ⟨tw_120, List.forall_mem_cons.mpr ⟨tw_122, fun _ h => absurd h List.not_mem_nil⟩⟩⟩⟩⟩⟩⟩⟩⟩⟩⟩⟩⟩⟩⟩⟩⟩⟩⟩
