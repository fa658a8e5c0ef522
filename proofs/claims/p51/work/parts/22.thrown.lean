theorem tw_iae {p : Program} {l : Launch} {e : Env} {R : Room} {s : State} {m : MethodId} {args : Array Value} {below : List Frame} {meth : Method} {c : Code} {H : Heap} {locs : List Loc} {cells slots : Nat} {ls : Array Slot} {rest : List Value} {Qc : Array Value → State → Outcome → State → Prop} {XC : String → State → State → Prop} {free : Addr → Prop}
    {cc : ByteArray} {pc pcI is mc ms sa B0 : Nat} {X : Nat → Nat → Nat} {text : String} {A : Nat → Prop} (hexec : p.tables.exec = Jvm.exec) (hb : c.code = cc) (hl : l.stackTraces = false) (hts : ∀ w ∈ tb, w.before args s = true) (hown : s.vm.findClass RX7 = some m.cls) (hE : EN B0 X s s.heap) (hAB : ∀ q, A q → B0 ≤ q)
    (hstr : vk_R RX7 is text sa s) (hS : va_S A s.heap H locs) (hsize : ls.size = c.maxLocals) (d0 : decode cc pc = .ok (.new 285, 3)) (d3 : decode cc (pc + 3) = .ok (.dup, 1))
    (dl : (decode cc (pc + 4) = .ok (.ldc is, 2) ∧ pcI = pc + 6) ∨ (decode cc (pc + 4) = .ok (.ldc_w is, 3) ∧ pcI = pc + 7)) (d6 : decode cc pcI = .ok (.invokespecial 289, 3)) (d9 : decode cc (pcI + 3) = .ok (.athrow, 1)) (hout : ∀ x ∈ c.exceptionTable.toList, False)
    (hRf : 5 < R.frames) (hRl : (rest.map fun v => v.category).sum + 82 ≤ R.locals) (hRc : cells + 1 ≤ R.cells) (hRs : slots + 6 ≤ R.slots) (hlocks : meth.locks = false)
    (hx : ∀ t : State, s.vm.Alike t.vm → H.size ≤ t.heap.size → (∀ q : Nat, q < H.size → t.heap[q]? = H[q]?) → XC "java/lang/IllegalArgumentException" s t)
    (hf : ∀ z ∈ locs, free z.base) (hc : cells + 1 ≤ mc) (hs : slots + 6 ≤ ms) :
    W p l e R s m args below meth c H locs cells slots (vx_MQ below Qc XC args s mc ms free) (F0 m pc ls rest) := by
  have hk : (Cond.classLink RX7 285 "java/lang/IllegalArgumentException").before args s = true := hts _ kw_348
  have hi : (Cond.initialized "java/lang/IllegalArgumentException").before args s = true := hts _ kw_40
  have hSw := S_weak hS hAB
  rcases dl with ⟨d4, rfl⟩ | ⟨d4, rfl⟩
  · exact vx_throwS hexec hb hl (names := ["java/lang/RuntimeException", "java/lang/Exception"]) hown (by decide) (by decide) hk hi hstr (at_iae hts hE.nw) ot_iae hE.t.1 hE.t.2 hSw hsize d0 d3 d4 d6 d9 (fun x hx => (hout x hx).elim) hRf hRl hRc hRs hlocks hx hf hc hs
  · exact vx_throwSW hexec hb hl (names := ["java/lang/RuntimeException", "java/lang/Exception"]) hown (by decide) (by decide) hk hi hstr (at_iae hts hE.nw) ot_iae hE.t.1 hE.t.2 hSw hsize d0 d3 d4 d6 d9 (fun x hx => (hout x hx).elim) hRf hRl hRc hRs hlocks hx hf hc hs

theorem tw_iob {p : Program} {l : Launch} {e : Env} {R : Room} {s : State} {m : MethodId} {args : Array Value} {below : List Frame} {meth : Method} {c : Code} {H : Heap} {locs : List Loc} {cells slots : Nat} {ls : Array Slot} {rest : List Value} {Qc : Array Value → State → Outcome → State → Prop} {XC : String → State → State → Prop} {free : Addr → Prop}
    {cc : ByteArray} {pc pcI is mc ms sa B0 : Nat} {X : Nat → Nat → Nat} {text : String} {A : Nat → Prop} (hexec : p.tables.exec = Jvm.exec) (hb : c.code = cc) (hl : l.stackTraces = false) (hts : ∀ w ∈ tb, w.before args s = true) (hown : s.vm.findClass RX7 = some m.cls) (hE : EN B0 X s s.heap) (hAB : ∀ q, A q → B0 ≤ q)
    (hstr : vk_R RX7 is text sa s) (hS : va_S A s.heap H locs) (hsize : ls.size = c.maxLocals) (d0 : decode cc pc = .ok (.new 198, 3)) (d3 : decode cc (pc + 3) = .ok (.dup, 1))
    (dl : (decode cc (pc + 4) = .ok (.ldc is, 2) ∧ pcI = pc + 6) ∨ (decode cc (pc + 4) = .ok (.ldc_w is, 3) ∧ pcI = pc + 7)) (d6 : decode cc pcI = .ok (.invokespecial 202, 3)) (d9 : decode cc (pcI + 3) = .ok (.athrow, 1)) (hout : ∀ x ∈ c.exceptionTable.toList, False)
    (hRf : 5 < R.frames) (hRl : (rest.map fun v => v.category).sum + 82 ≤ R.locals) (hRc : cells + 1 ≤ R.cells) (hRs : slots + 6 ≤ R.slots) (hlocks : meth.locks = false)
    (hx : ∀ t : State, s.vm.Alike t.vm → H.size ≤ t.heap.size → (∀ q : Nat, q < H.size → t.heap[q]? = H[q]?) → XC "java/lang/IndexOutOfBoundsException" s t)
    (hf : ∀ z ∈ locs, free z.base) (hc : cells + 1 ≤ mc) (hs : slots + 6 ≤ ms) :
    W p l e R s m args below meth c H locs cells slots (vx_MQ below Qc XC args s mc ms free) (F0 m pc ls rest) := by
  have hk : (Cond.classLink RX7 198 "java/lang/IndexOutOfBoundsException").before args s = true := hts _ kw_440
  have hi : (Cond.initialized "java/lang/IndexOutOfBoundsException").before args s = true := hts _ kw_42
  have hSw := S_weak hS hAB
  rcases dl with ⟨d4, rfl⟩ | ⟨d4, rfl⟩
  · exact vx_throwS hexec hb hl (names := ["java/lang/RuntimeException", "java/lang/Exception"]) hown (by decide) (by decide) hk hi hstr (at_iob hts hE.nw) ot_iob hE.t.1 hE.t.2 hSw hsize d0 d3 d4 d6 d9 (fun x hx => (hout x hx).elim) hRf hRl hRc hRs hlocks hx hf hc hs
  · exact vx_throwSW hexec hb hl (names := ["java/lang/RuntimeException", "java/lang/Exception"]) hown (by decide) (by decide) hk hi hstr (at_iob hts hE.nw) ot_iob hE.t.1 hE.t.2 hSw hsize d0 d3 d4 d6 d9 (fun x hx => (hout x hx).elim) hRf hRl hRc hRs hlocks hx hf hc hs

theorem tw_ise {p : Program} {l : Launch} {e : Env} {R : Room} {s : State} {m : MethodId} {args : Array Value} {below : List Frame} {meth : Method} {c : Code} {H : Heap} {locs : List Loc} {cells slots : Nat} {ls : Array Slot} {rest : List Value} {Qc : Array Value → State → Outcome → State → Prop} {XC : String → State → State → Prop} {free : Addr → Prop}
    {cc : ByteArray} {pc pcI is mc ms sa B0 : Nat} {X : Nat → Nat → Nat} {text : String} {A : Nat → Prop} (hexec : p.tables.exec = Jvm.exec) (hb : c.code = cc) (hl : l.stackTraces = false) (hts : ∀ w ∈ tb, w.before args s = true) (hown : s.vm.findClass RX7 = some m.cls) (hE : EN B0 X s s.heap) (hAB : ∀ q, A q → B0 ≤ q)
    (hstr : vk_R RX7 is text sa s) (hS : va_S A s.heap H locs) (hsize : ls.size = c.maxLocals) (d0 : decode cc pc = .ok (.new 293, 3)) (d3 : decode cc (pc + 3) = .ok (.dup, 1))
    (dl : (decode cc (pc + 4) = .ok (.ldc is, 2) ∧ pcI = pc + 6) ∨ (decode cc (pc + 4) = .ok (.ldc_w is, 3) ∧ pcI = pc + 7)) (d6 : decode cc pcI = .ok (.invokespecial 297, 3)) (d9 : decode cc (pcI + 3) = .ok (.athrow, 1)) (hout : ∀ x ∈ c.exceptionTable.toList, False)
    (hRf : 5 < R.frames) (hRl : (rest.map fun v => v.category).sum + 82 ≤ R.locals) (hRc : cells + 1 ≤ R.cells) (hRs : slots + 6 ≤ R.slots) (hlocks : meth.locks = false)
    (hx : ∀ t : State, s.vm.Alike t.vm → H.size ≤ t.heap.size → (∀ q : Nat, q < H.size → t.heap[q]? = H[q]?) → XC "java/lang/IllegalStateException" s t)
    (hf : ∀ z ∈ locs, free z.base) (hc : cells + 1 ≤ mc) (hs : slots + 6 ≤ ms) :
    W p l e R s m args below meth c H locs cells slots (vx_MQ below Qc XC args s mc ms free) (F0 m pc ls rest) := by
  have hk : (Cond.classLink RX7 293 "java/lang/IllegalStateException").before args s = true := hts _ kw_457
  have hi : (Cond.initialized "java/lang/IllegalStateException").before args s = true := hts _ kw_38
  have hSw := S_weak hS hAB
  rcases dl with ⟨d4, rfl⟩ | ⟨d4, rfl⟩
  · exact vx_throwS hexec hb hl (names := ["java/lang/RuntimeException", "java/lang/Exception"]) hown (by decide) (by decide) hk hi hstr (at_ise hts hE.nw) ot_ise hE.t.1 hE.t.2 hSw hsize d0 d3 d4 d6 d9 (fun x hx => (hout x hx).elim) hRf hRl hRc hRs hlocks hx hf hc hs
  · exact vx_throwSW hexec hb hl (names := ["java/lang/RuntimeException", "java/lang/Exception"]) hown (by decide) (by decide) hk hi hstr (at_ise hts hE.nw) ot_ise hE.t.1 hE.t.2 hSw hsize d0 d3 d4 d6 d9 (fun x hx => (hout x hx).elim) hRf hRl hRc hRs hlocks hx hf hc hs

theorem tw_uoe {p : Program} {l : Launch} {e : Env} {R : Room} {s : State} {m : MethodId} {args : Array Value} {below : List Frame} {meth : Method} {c : Code} {H : Heap} {locs : List Loc} {cells slots : Nat} {ls : Array Slot} {rest : List Value} {Qc : Array Value → State → Outcome → State → Prop} {XC : String → State → State → Prop} {free : Addr → Prop}
    {cc : ByteArray} {pc pcI is mc ms sa B0 : Nat} {X : Nat → Nat → Nat} {text : String} {A : Nat → Prop} (hexec : p.tables.exec = Jvm.exec) (hb : c.code = cc) (hl : l.stackTraces = false) (hts : ∀ w ∈ tb, w.before args s = true) (hown : s.vm.findClass RX7 = some m.cls) (hE : EN B0 X s s.heap) (hAB : ∀ q, A q → B0 ≤ q)
    (hstr : vk_R RX7 is text sa s) (hS : va_S A s.heap H locs) (hsize : ls.size = c.maxLocals) (d0 : decode cc pc = .ok (.new 362, 3)) (d3 : decode cc (pc + 3) = .ok (.dup, 1))
    (dl : (decode cc (pc + 4) = .ok (.ldc is, 2) ∧ pcI = pc + 6) ∨ (decode cc (pc + 4) = .ok (.ldc_w is, 3) ∧ pcI = pc + 7)) (d6 : decode cc pcI = .ok (.invokespecial 366, 3)) (d9 : decode cc (pcI + 3) = .ok (.athrow, 1)) (hout : ∀ x ∈ c.exceptionTable.toList, False)
    (hRf : 5 < R.frames) (hRl : (rest.map fun v => v.category).sum + 82 ≤ R.locals) (hRc : cells + 1 ≤ R.cells) (hRs : slots + 6 ≤ R.slots) (hlocks : meth.locks = false)
    (hx : ∀ t : State, s.vm.Alike t.vm → H.size ≤ t.heap.size → (∀ q : Nat, q < H.size → t.heap[q]? = H[q]?) → XC "java/lang/UnsupportedOperationException" s t)
    (hf : ∀ z ∈ locs, free z.base) (hc : cells + 1 ≤ mc) (hs : slots + 6 ≤ ms) :
    W p l e R s m args below meth c H locs cells slots (vx_MQ below Qc XC args s mc ms free) (F0 m pc ls rest) := by
  have hk : (Cond.classLink RX7 362 "java/lang/UnsupportedOperationException").before args s = true := hts _ kw_475
  have hi : (Cond.initialized "java/lang/UnsupportedOperationException").before args s = true := hts _ kw_43
  have hSw := S_weak hS hAB
  rcases dl with ⟨d4, rfl⟩ | ⟨d4, rfl⟩
  · exact vx_throwS hexec hb hl (names := ["java/lang/RuntimeException", "java/lang/Exception"]) hown (by decide) (by decide) hk hi hstr (at_uoe hts hE.nw) ot_uoe hE.t.1 hE.t.2 hSw hsize d0 d3 d4 d6 d9 (fun x hx => (hout x hx).elim) hRf hRl hRc hRs hlocks hx hf hc hs
  · exact vx_throwSW hexec hb hl (names := ["java/lang/RuntimeException", "java/lang/Exception"]) hown (by decide) (by decide) hk hi hstr (at_uoe hts hE.nw) ot_uoe hE.t.1 hE.t.2 hSw hsize d0 d3 d4 d6 d9 (fun x hx => (hout x hx).elim) hRf hRl hRc hRs hlocks hx hf hc hs

theorem tw_are {p : Program} {l : Launch} {e : Env} {R : Room} {s : State} {m : MethodId} {args : Array Value} {below : List Frame} {meth : Method} {c : Code} {H : Heap} {locs : List Loc} {cells slots : Nat} {ls : Array Slot} {rest : List Value} {Qc : Array Value → State → Outcome → State → Prop} {XC : String → State → State → Prop} {free : Addr → Prop}
    {cc : ByteArray} {pc pcI is mc ms sa B0 : Nat} {X : Nat → Nat → Nat} {text : String} {A : Nat → Prop} (hexec : p.tables.exec = Jvm.exec) (hb : c.code = cc) (hl : l.stackTraces = false) (hts : ∀ w ∈ tb, w.before args s = true) (hown : s.vm.findClass RX7 = some m.cls) (hE : EN B0 X s s.heap) (hAB : ∀ q, A q → B0 ≤ q)
    (hstr : vk_R RX7 is text sa s) (hS : va_S A s.heap H locs) (hsize : ls.size = c.maxLocals) (d0 : decode cc pc = .ok (.new 258, 3)) (d3 : decode cc (pc + 3) = .ok (.dup, 1))
    (dl : (decode cc (pc + 4) = .ok (.ldc is, 2) ∧ pcI = pc + 6) ∨ (decode cc (pc + 4) = .ok (.ldc_w is, 3) ∧ pcI = pc + 7)) (d6 : decode cc pcI = .ok (.invokespecial 260, 3)) (d9 : decode cc (pcI + 3) = .ok (.athrow, 1)) (hout : ∀ x ∈ c.exceptionTable.toList, False)
    (hRf : 5 < R.frames) (hRl : (rest.map fun v => v.category).sum + 82 ≤ R.locals) (hRc : cells + 1 ≤ R.cells) (hRs : slots + 6 ≤ R.slots) (hlocks : meth.locks = false)
    (hx : ∀ t : State, s.vm.Alike t.vm → H.size ≤ t.heap.size → (∀ q : Nat, q < H.size → t.heap[q]? = H[q]?) → XC "java/lang/ArithmeticException" s t)
    (hf : ∀ z ∈ locs, free z.base) (hc : cells + 1 ≤ mc) (hs : slots + 6 ≤ ms) :
    W p l e R s m args below meth c H locs cells slots (vx_MQ below Qc XC args s mc ms free) (F0 m pc ls rest) := by
  have hk : (Cond.classLink RX7 258 "java/lang/ArithmeticException").before args s = true := hts _ kw_959
  have hi : (Cond.initialized "java/lang/ArithmeticException").before args s = true := hts _ kw_49
  have hSw := S_weak hS hAB
  rcases dl with ⟨d4, rfl⟩ | ⟨d4, rfl⟩
  · exact vx_throwS hexec hb hl (names := ["java/lang/RuntimeException", "java/lang/Exception"]) hown (by decide) (by decide) hk hi hstr (at_are hts hE.nw) ot_are hE.t.1 hE.t.2 hSw hsize d0 d3 d4 d6 d9 (fun x hx => (hout x hx).elim) hRf hRl hRc hRs hlocks hx hf hc hs
  · exact vx_throwSW hexec hb hl (names := ["java/lang/RuntimeException", "java/lang/Exception"]) hown (by decide) (by decide) hk hi hstr (at_are hts hE.nw) ot_are hE.t.1 hE.t.2 hSw hsize d0 d3 d4 d6 d9 (fun x hx => (hout x hx).elim) hRf hRl hRc hRs hlocks hx hf hc hs

theorem mt_nse : ∀ w ∈ (nsW.filter vx_no).filter goodWord, w ∈ tb := by decide +kernel
theorem at_nse {args : Array Value} {s : State} (hts : ∀ w ∈ tb, w.before args s = true) (hw : NWp s) : ∀ w ∈ nsW.filter vx_no, w.before args s = true := vx_hat (B := [.castable "java/util/NoSuchElementException" "java/util/NoSuchElementException", .declares ⟨"java/lang/RuntimeException", "<init>", "(Ljava/lang/String;)V"⟩, .declares ⟨"java/lang/Exception", "<init>", "(Ljava/lang/String;)V"⟩, .declares ⟨"java/lang/Throwable", "<init>", "(Ljava/lang/String;)V"⟩]) (fun w h => hts w (mt_nse w h)) (by decide +kernel) (vx_c (va_Nw.use rfl (nw_424 hw)) (vx_c (va_Nw.use rfl (nw_352 hw)) (vx_c (va_Nw.use rfl (nw_354 hw)) (vx_c (va_Nw.use rfl (nw_356 hw)) vx_n))))
theorem ot_nse : ∀ w ∈ Cond.classLink RX7 140 "java/util/NoSuchElementException" :: Cond.initialized "java/util/NoSuchElementException" :: nsW.filter vx_no, vx_ot w = true := by decide +kernel
set_option maxHeartbeats 4000000 in
theorem tw_nse {p : Program} {l : Launch} {e : Env} {R : Room} {s : State} {m : MethodId} {args : Array Value} {below : List Frame} {meth : Method} {c : Code} {H : Heap} {locs : List Loc} {cells slots : Nat} {ls : Array Slot} {rest : List Value} {Qc : Array Value → State → Outcome → State → Prop} {XC : String → State → State → Prop} {free : Addr → Prop}
    {cc : ByteArray} {pc pcI is mc ms sa B0 : Nat} {X : Nat → Nat → Nat} {text : String} {A : Nat → Prop} (hexec : p.tables.exec = Jvm.exec) (hb : c.code = cc) (hl : l.stackTraces = false) (hts : ∀ w ∈ tb, w.before args s = true) (hown : s.vm.findClass RX7 = some m.cls) (hE : EN B0 X s s.heap) (hAB : ∀ q, A q → B0 ≤ q)
    (hstr : vk_R RX7 is text sa s) (hS : va_S A s.heap H locs) (hsize : ls.size = c.maxLocals) (d0 : decode cc pc = .ok (.new 140, 3)) (d3 : decode cc (pc + 3) = .ok (.dup, 1))
    (dl : (decode cc (pc + 4) = .ok (.ldc is, 2) ∧ pcI = pc + 6) ∨ (decode cc (pc + 4) = .ok (.ldc_w is, 3) ∧ pcI = pc + 7)) (d6 : decode cc pcI = .ok (.invokespecial 144, 3)) (d9 : decode cc (pcI + 3) = .ok (.athrow, 1)) (hout : ∀ x ∈ c.exceptionTable.toList, False)
    (hRf : 5 < R.frames) (hRl : (rest.map fun v => v.category).sum + 82 ≤ R.locals) (hRc : cells + 1 ≤ R.cells) (hRs : slots + 6 ≤ R.slots) (hlocks : meth.locks = false)
    (hx : ∀ t : State, s.vm.Alike t.vm → H.size ≤ t.heap.size → (∀ q : Nat, q < H.size → t.heap[q]? = H[q]?) → XC nse s t)
    (hf : ∀ z ∈ locs, free z.base) (hc : cells + 1 ≤ mc) (hs : slots + 6 ≤ ms) :
    W p l e R s m args below meth c H locs cells slots (vx_MQ below Qc XC args s mc ms free) (F0 m pc ls rest) := by
  have hk : (Cond.classLink RX7 140 nse).before args s = true := hts _ kw_422
  have hi : (Cond.initialized nse).before args s = true := hts _ kw_41
  have hSw := S_weak hS hAB
  intro T hT Z
  have htr : e.platform.stackTraces = false := (show e.platform.stackTraces = l.stackTraces by rw [Z.admits.platform]).trans hl
  have Y := vx_rebase Z (R' := { frames := R.frames, locals := R.locals, cells := 1, slots := 6 }) (Nat.le_refl _) (Nat.le_refl _) hRc hRs
  obtain ⟨s', hs'⟩ : ∃ z, z = (T.setVm s.vm).setFrames (.invoking m args :: below) := ⟨_, rfl⟩
  rw [← hs'] at Y
  have hvm : s'.vm = s.vm := by rw [hs']; rfl
  have hhp : s'.heap = H := by rw [hs']; exact hT
  have hW0 : s.WarmedH s'.vm := by rw [hvm]; exact State.WarmedH.refl s
  have hat1 : ∀ w ∈ nsW.filter vx_no, w.before args s' = true := fun w hw => vx_ot_at hW0 hvm.symm (ot_nse w (List.mem_cons_of_mem _ (List.mem_cons_of_mem _ hw))) (at_nse hts hE.nw w hw)
  have hk1 : (Cond.classLink RX7 140 nse).before args s' = true := vx_ot_at hW0 hvm.symm (ot_nse _ List.mem_cons_self) hk
  have hi1 : (Cond.initialized nse).before args s' = true := vx_ot_at hW0 hvm.symm (ot_nse _ (List.mem_cons_of_mem _ List.mem_cons_self)) hi
  have hU1 : vx_Zq Bundle.tN "UNASSIGNED_STACK" Bundle.steD (bA B0) s' s'.heap := by rw [hhp]; exact vx_Zq.moved hW0.alike (hE.t.1.kept hSw.2.1)
  have hN1 : vx_Zq Bundle.tN "SUPPRESSED_SENTINEL" Bundle.listD (bA B0) s' s'.heap := by rw [hhp]; exact vx_Zq.moved hW0.alike (hE.t.2.kept hSw.2.1)
  have h : ∀ w ∈ nsW, w.before args s' = true := vx_own hat1 (vx_isRefq hU1.1) (vx_isRefq hN1.1) hU1.2.word hN1.2.word
  have hown1 : s'.vm.findClass RX7 = some m.cls := by rw [hvm]; exact hown
  have hins : (Cond.instantiable nse 6).before args s' = true := h _ (by simp [nsW])
  obtain ⟨vm₁, cX, kX, hfX, hkX, -, -, X₁, st1⟩ := Y.newCold hexec (own := RX7) (C := nse) (index := 140) (n := 6) hown1 hk1 hins hi1 (g := F0 m pc ls rest) rfl (by rw [hb]; exact d0) (Nat.le_refl _) (Nat.le_refl _)
  generalize hT1 : (T.setVm vm₁).pushCell { cls := cX, slots := kX.instanceTypes.map defaultValue, vm := .none } = T1 at X₁ st1
  have hcat : (Value.ref T.heap.size).category = 1 := rfl
  have hcA : T1.heap[T.heap.size]? = some (freshCell cX kX) := by rw [← hT1]; exact State.heap_pushCell_size _ _
  have d3' : decode c.code (pc + 3) = .ok (.dup, 1) := by rw [hb]; exact d3
  have hstr1 : vk_R RX7 is text sa s' := vk_R.warm hW0 hstr
  obtain ⟨U, hsteps, hrun, hend, hW, hsame, ce, hce, hO, hOv⟩ := ns_ctor X₁ hexec htr hown1 h rfl hfX hkX hcA (by rw [hhp, hT]; exact Nat.le_refl _) (msg := .ref sa) rfl
    (g := { method := m, pc := pcI, locals := ls, stack := .ref sa :: .ref T.heap.size :: .ref T.heap.size :: rest, locked := none }) rfl hsize rfl rfl (rest := rest) rfl
    (by rw [hb]; exact d6) (by rw [hb]; exact d9) (fun x hx => (hout x hx).elim) hRf (by simp only [List.map_cons, List.sum_cons, hcat]; show 2 * 0 + _ + 81 ≤ R.locals; omega) hlocks
  obtain ⟨f1, f2⟩ := vx_frame hsame
  rw [hhp] at f1 f2
  have hWs : s.WarmedH U.vm := State.WarmedH.trans hW0 hW
  have hcl : s.vm.findClass nse = some ce.cls := by rw [hvm] at hO; exact hO
  have hall : s.sameButNew ({ U with vm := s.vm } : State) locs mc ms := by
    subst hs'
    obtain ⟨e1, e2⟩ := hsame
    rw [State.setFrames_setFrames] at e1
    have h2 : (T.setVm s.vm).sameButNew ({ U with vm := s.vm } : State) [] (0 + 1) (0 + 6) := ⟨e1, e2⟩
    have h3 := Z.same.trans h2
    rw [List.append_nil] at h3
    exact h3.mono hc hs
  refine ⟨U, ?_, .threw T.heap.size, hrun, hend, Or.inr ⟨T.heap.size, rfl, nse, ce, locs, hx U hWs.alike f1 (fun q hq => f2 q hq (fun z hz => nomatch hz)), hce, hOv, hcl, hWs, hall, hf⟩⟩
  refine st1 _ ?_
  show Steps p.tables e below (T1.setTop { method := m, pc := pc + 3, locals := ls, stack := .ref T.heap.size :: rest, locked := none }) _
  jvm_step X₁.here [X₁.here.top, hexec, d3', Value.category]
  rcases dl with ⟨d4, rfl⟩ | ⟨d4, rfl⟩
  · exact X₁.ldcString hexec (own := RX7) (text := text) (index := is) (a := sa) hown1 hstr1.1 hstr1.2 (g := { method := m, pc := pc + 4, locals := ls, stack := .ref T.heap.size :: .ref T.heap.size :: rest, locked := none }) rfl (by rw [hb]; exact d4) _ hsteps
  · exact X₁.ldcStringW hexec (own := RX7) (text := text) (index := is) (a := sa) hown1 hstr1.1 hstr1.2 (g := { method := m, pc := pc + 4, locals := ls, stack := .ref T.heap.size :: .ref T.heap.size :: rest, locked := none }) rfl (by rw [hb]; exact d4) _ hsteps

