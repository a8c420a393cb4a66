def gPre (D : va_G) (tys : List (ClassId × FieldType)) (ws : va_W) (sz : Nat) : State → Prop := fun U => U.heap.size = sz ∧ va_P D gCl ws U.heap ∧ va_K D gCl tys U ∧ va_D (fun _ => True) ws ∧ gNest U
def gPost (D : va_G) (tys : List (ClassId × FieldType)) (A : Nat → Prop) (ws : va_W) (t : State) : Prop := va_P D gCl ws t.heap ∧ va_K D gCl tys t ∧ va_D A ws
def gW (c : Cond) : List Cond := c :: gG
theorem gGood {c : Cond} (h : c ∈ gG) : GoodIn gG (gW c) := by
  intro w hw
  rcases List.mem_cons.mp hw with rfl | hw
  · exact ⟨h, good_of_word (List.mem_filter.mp h).2⟩
  · exact ⟨hw, good_of_word (List.mem_filter.mp hw).2⟩
def gMi (l : Launch) (D : va_G) (tys : List (ClassId × FieldType)) (y : MethodName) (cc : ByteArray) (n : Nat) (ret : FieldType) (rm : Room) (As : List Value) (ws : va_W) {S : Type} (ws' : S → va_W) (post : Int32 → S → Prop) : Prop :=
  ∀ sz : Nat, Met l y (gW (.code y cc n (some ret))) rm (va_Pc As (gPre D tys ws sz)) (va_Qi post (fun u t => gPost D tys (va_A ws sz) (ws' u) t) (va_A ws sz)) 0 0 (va_A ws sz)
def gMv (l : Launch) (D : va_G) (tys : List (ClassId × FieldType)) (y : MethodName) (cc : ByteArray) (n : Nat) (rm : Room) (As : List Value) (ws : va_W) {S : Type} (ws' : S → va_W) (post : S → Prop) : Prop :=
  ∀ sz : Nat, Met l y (gW (.code y cc n none)) rm (va_Pc As (gPre D tys ws sz)) (va_Qv post (fun u t => gPost D tys (va_A ws sz) (ws' u) t) (va_A ws sz)) 0 0 (va_A ws sz)
theorem gMi.of {l : Launch} {D : va_G} {tys : List (ClassId × FieldType)} {y : MethodName} {cc : ByteArray} {n : Nat} {ret : FieldType} {rm : Room} {As : List Value} {ws : va_W} {S : Type} {ws' : S → va_W} {post : Int32 → S → Prop} (hy : plainName y.cls = true) (hlen : (lg_sl As).length ≤ n)
    (body : ∀ (p : Program) (e : Env) (s : State) (m : MethodId) (args : Array Value) (below : List Frame) (meth : Method) (c : Code) (A : Nat → Prop) (Q : State → Prop) (ls : Array Slot),
      p.tables.exec = Jvm.exec → c.code = cc → c.maxLocals = n → s.vm.findClass y.cls = some m.cls → (∀ w ∈ gG, w.before args s = true) → gNest s → va_K D gCl tys s → (∀ q, s.heap.size ≤ q → A q) → va_P D gCl ws s.heap → va_D A ws →
      (∀ (H : Heap) (locs : List Loc) (r : Int32) (u : S) (pc : Nat) (ls : Array Slot), post r u → narrow ret (.int r) = .int r → va_P D gCl (ws' u) H → va_D A (ws' u) → va_S A s.heap H locs → decode cc pc = .ok (.ireturn, 1) → W p l e rm s m args below meth c H locs 0 0 Q (F0 m pc ls [.int r])) →
      lv_has ls n (lv_args 0 As) → W p l e rm s m args below meth c s.heap [] 0 0 Q (F0 m 0 ls [])) : gMi l D tys y cc n ret rm As ws ws' post := by
  intro sz
  refine Met.ofW (cc := cc) (maxL := n) (ret := some ret) hy rfl ?_
  intro p e s m args below meth c s₁ B hml hv
  obtain ⟨hav, hsz, hP, hK, hD0, hN⟩ := hv
  have hts := atoms_spec (ws := gW (.code y cc n (some ret))) B.pre
  have hown := findClass_of_methodNamed B.named
  have hlocks := B.notSynchronized
  subst hsz
  have hl := lv_entry As (n := n) hlen
  rw [show entryFrame m args n = F0 m 0 _ [] from by rw [hav, lg_entry_eq]]
  refine body p e s m args below meth c (va_A ws s.heap.size) _ _ B.exec B.bytes hml hown (fun w h => hts w (List.mem_cons_of_mem _ h)) hN hK (fun q h => Or.inr h) hP hD0.self ?_ hl
  intro H locs r u pc ls hp hn hP1 hD1 hS hd
  exact W.zret (v := r) B.exec B.bytes B.returns hn (fun t ht hW => ⟨⟨r, u, rfl, hp, by rw [ht]; exact hP1, va_K.moved hW.alike hK, hD1⟩, hS.F ht⟩) hS.2.2 hd
theorem gMv.of {l : Launch} {D : va_G} {tys : List (ClassId × FieldType)} {y : MethodName} {cc : ByteArray} {n : Nat} {rm : Room} {As : List Value} {ws : va_W} {S : Type} {ws' : S → va_W} {post : S → Prop} (hy : plainName y.cls = true) (hlen : (lg_sl As).length ≤ n)
    (body : ∀ (p : Program) (e : Env) (s : State) (m : MethodId) (args : Array Value) (below : List Frame) (meth : Method) (c : Code) (A : Nat → Prop) (Q : State → Prop) (ls : Array Slot),
      p.tables.exec = Jvm.exec → c.code = cc → c.maxLocals = n → s.vm.findClass y.cls = some m.cls → (∀ w ∈ gG, w.before args s = true) → gNest s → va_K D gCl tys s → (∀ q, s.heap.size ≤ q → A q) → va_P D gCl ws s.heap → va_D A ws →
      (∀ (H : Heap) (locs : List Loc) (u : S) (pc : Nat) (ls : Array Slot), post u → va_P D gCl (ws' u) H → va_D A (ws' u) → va_S A s.heap H locs → decode cc pc = .ok (.return_, 1) → W p l e rm s m args below meth c H locs 0 0 Q (F0 m pc ls [])) →
      lv_has ls n (lv_args 0 As) → W p l e rm s m args below meth c s.heap [] 0 0 Q (F0 m 0 ls [])) : gMv l D tys y cc n rm As ws ws' post := by
  intro sz
  refine Met.ofW (cc := cc) (maxL := n) (ret := none) hy rfl ?_
  intro p e s m args below meth c s₁ B hml hv
  obtain ⟨hav, hsz, hP, hK, hD0, hN⟩ := hv
  have hts := atoms_spec (ws := gW (.code y cc n none)) B.pre
  have hown := findClass_of_methodNamed B.named
  have hlocks := B.notSynchronized
  subst hsz
  have hl := lv_entry As (n := n) hlen
  rw [show entryFrame m args n = F0 m 0 _ [] from by rw [hav, lg_entry_eq]]
  refine body p e s m args below meth c (va_A ws s.heap.size) _ _ B.exec B.bytes hml hown (fun w h => hts w (List.mem_cons_of_mem _ h)) hN hK (fun q h => Or.inr h) hP hD0.self ?_ hl
  intro H locs u pc ls hp hP1 hD1 hS hd
  exact W.vret B.exec B.bytes B.returns (fun t ht hW => ⟨⟨u, rfl, hp, by rw [ht]; exact hP1, va_K.moved hW.alike hK, hD1⟩, hS.F ht⟩) hS.2.2 hd
def gOkD (y : MethodName) (n : Nat) : Prop := y.cls ≠ "java/lang/invoke/MethodHandle" ∧ y.cls ≠ "java/lang/invoke/VarHandle" ∧ (parseMethodDescriptor y.desc).map (fun d => d.parameters.length) = some n
def gFV (y : MethodName) (cc : ByteArray) (maxL : Nat) (ret : Option FieldType) (n : Nat) : Prop := Cond.code y cc maxL ret ∈ gG ∧ Cond.initialized y.cls ∈ gG ∧ gOkD y n ∧ Cond.instanceMethod y ∈ gG ∧ Cond.selects y.cls y y ∈ gG
def gFS (y : MethodName) (cc : ByteArray) (maxL : Nat) (ret : Option FieldType) (n : Nat) : Prop := Cond.code y cc maxL ret ∈ gG ∧ Cond.initialized y.cls ∈ gG ∧ gOkD y n ∧ Cond.static y ∈ gG
section GC
variable {p : Program} {l : Launch} {e : Env} {R : Room} {s : State} {m : MethodId} {args : Array Value} {below : List Frame} {meth : Method} {c : Code} {H : Heap} {locs : List Loc} {cells slots : Nat} {Q : State → Prop}
variable {cc : ByteArray} {pc nL : Nat} {ls : Array Slot} {rest : List Value} {D : va_G} {A : Nat → Prop} {a : Nat} {tys : List (ClassId × FieldType)} {ws : va_W} {own : String}
theorem gCallB {index n maxL : Nat} {y : MethodName} {cd : ByteArray} {ret : Option FieldType} {rm : Room} (hts : ∀ w ∈ gG, w.before args s = true) (hc : Cond.code y cd maxL ret ∈ gG) (hi : Cond.initialized y.cls ∈ gG) (hd : gOkD y n) (hl : Cond.methodLink own index y ∈ gG) (hz : rm.cells = 0 ∧ rm.slots = 0) (hR : rm.frames + 1 ≤ R.frames ∧ 8 + (maxL + 11) + rm.locals ≤ R.locals) :
    CallB R s args own index y cd maxL ret (gW (.code y cd maxL ret)) rm 0 0 n := callB_of n hts (gGood hc) rfl hz.1 hz.2 (hts _ hi) (hts _ hl) hd hR
theorem gBlind {As : List Value} {wc : va_W} {sz : Nat} : FrameBlind (va_Pc As (gPre D tys wc sz)) := fun a U g mk q => by
  obtain ⟨q0, q1, qP, qK, qD, qN⟩ := q
  exact ⟨q0, q1, qP, va_K.moved (u := U) (U := U.calling g mk a) (Vm.Alike.refl U.vm) qK, qD, gNest.same (u := U) (U := U.calling g mk a) rfl qN⟩
theorem gSubP {wc : va_W} (hP : va_P D gCl ws H) (isC : List Nat) (hC : isC.map (fun i => ws[i]?) = wc.map some) : va_P D gCl wc H := hP.by (fun k => isC.getD k 0) (fun k q hq => by
  have h1 : (isC.map (fun i => ws[i]?))[k]? = some (some q) := by rw [hC, List.getElem?_map, hq]; rfl
  rw [List.getElem?_map] at h1
  cases hi : isC[k]? with
  | none => rw [hi] at h1; cases h1
  | some i => rw [hi] at h1; rw [List.getD_eq_getElem?_getD, hi]; exact Option.some.inj h1)
theorem g_cVi {y : MethodName} {cd : ByteArray} {maxL n index : Nat} {ret : FieldType} {rm : Room} {b : Nat} {As : List Value} {wc wr : va_W} {S : Type} {wc' : S → va_W} {post : Int32 → S → Prop} {st : List Value}
    (fx : CallFix p m c cc nL s args gG own) (hM : gMi l D tys y cd maxL ret rm (.ref b :: As) wc wc' post) (hF : gFV y cd maxL (some ret) n) (hl : Cond.methodLink own index y ∈ gG) (hz : rm.cells = 0 ∧ rm.slots = 0) (hR : rm.frames + 1 ≤ R.frames ∧ 8 + (maxL + 11) + rm.locals ≤ R.locals)
    (hN : gNest s) (hK : va_K D gCl tys s) (hA : ∀ q, s.heap.size ≤ q → A q) (hP : va_P D gCl ws H) (hD : va_D A ws) (hS : va_S A s.heap H locs)
    (isC isR : List Nat) (hC : isC.map (fun i => ws[i]?) = wc.map some) (hRr : isR.map (fun i => ws[i]?) = wr.map some) (hnC : va_nd isC = true) (hn : va_nd isR = true) (hdis : ∀ i ∈ isR, i ∉ isC)
    (q0 : Nat) {ci : Nat} {fs : List Value} {T : u_T} {N : Nat} (hrc : wc[q0]? = some (b, .inr (ci, fs))) (hcl : gCl[ci]? = some (y.cls, T, N))
    (hst : st = As.reverse ++ .ref b :: rest) (hAs : As.length = n) (hls : ls.size = nL) (hW : (rest.map fun v => v.category).sum ≤ 8) (hdg : decode cc pc = .ok (.invokevirtual index, 3)) (hcs : cells ≤ R.cells ∧ slots ≤ R.slots)
    (kk : ∀ (r : Int32) (u : S) (H1 : Heap) (locs1 : List Loc), post r u → va_P D gCl (wr ++ wc' u) H1 → va_D A (wr ++ wc' u) → va_S A s.heap H1 locs1 → W p l e R s m args below meth c H1 locs1 cells slots Q (F0 m (pc + 3) ls (.int r :: rest))) : W p l e R s m args below meth c H locs cells slots Q (F0 m pc ls st) := by
  obtain ⟨hc, hi, hd, hin, hse⟩ := hF
  have hts := fx.2.2.2.2
  have hPc := gSubP hP isC hC
  have hFc := va_free (wc := wc) hD hS hA isC hC
  have hDc := hD.sub isC hnC hC
  subst hst
  refine va_calli (va_runV (As := As) (rest := rest) fx (hM H.size) ⟨gCallB hts hc hi hd hl hz hR, hts _ hin, hts _ hse⟩ ⟨gBlind, va_recv hK hPc hcl hrc, fun U hU hW => ⟨rfl, by rw [hU], by rw [hU]; exact hPc, va_K.moved hW.alike hK, hDc.weaken (fun _ _ _ _ => trivial), hN.warm hW⟩⟩ rfl hAs hls rfl (by show 2 * 0 + _ ≤ 8; omega) hdg ⟨by omega, by omega⟩) hS (fun q _ h => hFc q h) hFc (fun r u t H1 locs1 ht hvm hw hB hz1 hk1 hS1 => ?_)
  obtain ⟨hP1, hK1, hD1⟩ := hB
  rw [ht] at hP1
  obtain ⟨hP2, hD2⟩ := va_join (wr := wr) (w1 := wc' u) hP hD isC isR hC hRr hn hdis hk1 hFc hP1 hD1
  exact kk r u H1 locs1 hw hP2 hD2 hS1
theorem g_cVv {y : MethodName} {cd : ByteArray} {maxL n index : Nat} {rm : Room} {b : Nat} {As : List Value} {wc wr : va_W} {S : Type} {wc' : S → va_W} {post : S → Prop} {st : List Value}
    (fx : CallFix p m c cc nL s args gG own) (hM : gMv l D tys y cd maxL rm (.ref b :: As) wc wc' post) (hF : gFV y cd maxL none n) (hl : Cond.methodLink own index y ∈ gG) (hz : rm.cells = 0 ∧ rm.slots = 0) (hR : rm.frames + 1 ≤ R.frames ∧ 8 + (maxL + 11) + rm.locals ≤ R.locals)
    (hN : gNest s) (hK : va_K D gCl tys s) (hA : ∀ q, s.heap.size ≤ q → A q) (hP : va_P D gCl ws H) (hD : va_D A ws) (hS : va_S A s.heap H locs)
    (isC isR : List Nat) (hC : isC.map (fun i => ws[i]?) = wc.map some) (hRr : isR.map (fun i => ws[i]?) = wr.map some) (hnC : va_nd isC = true) (hn : va_nd isR = true) (hdis : ∀ i ∈ isR, i ∉ isC)
    (q0 : Nat) {ci : Nat} {fs : List Value} {T : u_T} {N : Nat} (hrc : wc[q0]? = some (b, .inr (ci, fs))) (hcl : gCl[ci]? = some (y.cls, T, N))
    (hst : st = As.reverse ++ .ref b :: rest) (hAs : As.length = n) (hls : ls.size = nL) (hW : (rest.map fun v => v.category).sum ≤ 8) (hdg : decode cc pc = .ok (.invokevirtual index, 3)) (hcs : cells ≤ R.cells ∧ slots ≤ R.slots)
    (kk : ∀ (u : S) (H1 : Heap) (locs1 : List Loc), post u → va_P D gCl (wr ++ wc' u) H1 → va_D A (wr ++ wc' u) → va_S A s.heap H1 locs1 → W p l e R s m args below meth c H1 locs1 cells slots Q (F0 m (pc + 3) ls rest)) : W p l e R s m args below meth c H locs cells slots Q (F0 m pc ls st) := by
  obtain ⟨hc, hi, hd, hin, hse⟩ := hF
  have hts := fx.2.2.2.2
  have hPc := gSubP hP isC hC
  have hFc := va_free (wc := wc) hD hS hA isC hC
  have hDc := hD.sub isC hnC hC
  subst hst
  refine va_callv (va_runV (As := As) (rest := rest) fx (hM H.size) ⟨gCallB hts hc hi hd hl hz hR, hts _ hin, hts _ hse⟩ ⟨gBlind, va_recv hK hPc hcl hrc, fun U hU hW => ⟨rfl, by rw [hU], by rw [hU]; exact hPc, va_K.moved hW.alike hK, hDc.weaken (fun _ _ _ _ => trivial), hN.warm hW⟩⟩ rfl hAs hls rfl (by show 2 * 0 + _ ≤ 8; omega) hdg ⟨by omega, by omega⟩) hS (fun q _ h => hFc q h) hFc (fun u t H1 locs1 ht hvm hw hB hz1 hk1 hS1 => ?_)
  obtain ⟨hP1, hK1, hD1⟩ := hB
  rw [ht] at hP1
  obtain ⟨hP2, hD2⟩ := va_join (wr := wr) (w1 := wc' u) hP hD isC isR hC hRr hn hdis hk1 hFc hP1 hD1
  exact kk u H1 locs1 hw hP2 hD2 hS1
theorem g_cSi {y : MethodName} {cd : ByteArray} {maxL n index : Nat} {ret : FieldType} {rm : Room} {As : List Value} {wc wr : va_W} {S : Type} {wc' : S → va_W} {post : Int32 → S → Prop} {st : List Value}
    (fx : CallFix p m c cc nL s args gG own) (hM : gMi l D tys y cd maxL ret rm As wc wc' post) (hF : gFS y cd maxL (some ret) n) (hl : Cond.methodLink own index y ∈ gG) (hz : rm.cells = 0 ∧ rm.slots = 0) (hR : rm.frames + 1 ≤ R.frames ∧ 8 + (maxL + 11) + rm.locals ≤ R.locals)
    (hN : gNest s) (hK : va_K D gCl tys s) (hA : ∀ q, s.heap.size ≤ q → A q) (hP : va_P D gCl ws H) (hD : va_D A ws) (hS : va_S A s.heap H locs)
    (isC isR : List Nat) (hC : isC.map (fun i => ws[i]?) = wc.map some) (hRr : isR.map (fun i => ws[i]?) = wr.map some) (hnC : va_nd isC = true) (hn : va_nd isR = true) (hdis : ∀ i ∈ isR, i ∉ isC)
    (hst : st = As.reverse ++ rest) (hAs : As.length = n) (hls : ls.size = nL) (hW : (rest.map fun v => v.category).sum ≤ 8) (hdg : decode cc pc = .ok (.invokestatic index, 3)) (hcs : cells ≤ R.cells ∧ slots ≤ R.slots)
    (kk : ∀ (r : Int32) (u : S) (H1 : Heap) (locs1 : List Loc), post r u → va_P D gCl (wr ++ wc' u) H1 → va_D A (wr ++ wc' u) → va_S A s.heap H1 locs1 → W p l e R s m args below meth c H1 locs1 cells slots Q (F0 m (pc + 3) ls (.int r :: rest))) : W p l e R s m args below meth c H locs cells slots Q (F0 m pc ls st) := by
  obtain ⟨hc, hi, hd, hse⟩ := hF
  have hts := fx.2.2.2.2
  have hPc := gSubP hP isC hC
  have hFc := va_free (wc := wc) hD hS hA isC hC
  have hDc := hD.sub isC hnC hC
  subst hst
  refine va_calli (va_runS (As := As) (rest := rest) fx (hM H.size) ⟨gCallB hts hc hi hd hl hz hR, hts _ hse⟩ ⟨gBlind, fun U hU hW => ⟨rfl, by rw [hU], by rw [hU]; exact hPc, va_K.moved hW.alike hK, hDc.weaken (fun _ _ _ _ => trivial), hN.warm hW⟩⟩ rfl hAs hls rfl (by show 2 * 0 + _ ≤ 8; omega) hdg ⟨by omega, by omega⟩) hS (fun q _ h => hFc q h) hFc (fun r u t H1 locs1 ht hvm hw hB hz1 hk1 hS1 => ?_)
  obtain ⟨hP1, hK1, hD1⟩ := hB
  rw [ht] at hP1
  obtain ⟨hP2, hD2⟩ := va_join (wr := wr) (w1 := wc' u) hP hD isC isR hC hRr hn hdis hk1 hFc hP1 hD1
  exact kk r u H1 locs1 hw hP2 hD2 hS1
theorem g_cSv {y : MethodName} {cd : ByteArray} {maxL n index : Nat} {rm : Room} {As : List Value} {wc wr : va_W} {S : Type} {wc' : S → va_W} {post : S → Prop} {st : List Value}
    (fx : CallFix p m c cc nL s args gG own) (hM : gMv l D tys y cd maxL rm As wc wc' post) (hF : gFS y cd maxL none n) (hl : Cond.methodLink own index y ∈ gG) (hz : rm.cells = 0 ∧ rm.slots = 0) (hR : rm.frames + 1 ≤ R.frames ∧ 8 + (maxL + 11) + rm.locals ≤ R.locals)
    (hN : gNest s) (hK : va_K D gCl tys s) (hA : ∀ q, s.heap.size ≤ q → A q) (hP : va_P D gCl ws H) (hD : va_D A ws) (hS : va_S A s.heap H locs)
    (isC isR : List Nat) (hC : isC.map (fun i => ws[i]?) = wc.map some) (hRr : isR.map (fun i => ws[i]?) = wr.map some) (hnC : va_nd isC = true) (hn : va_nd isR = true) (hdis : ∀ i ∈ isR, i ∉ isC)
    (hst : st = As.reverse ++ rest) (hAs : As.length = n) (hls : ls.size = nL) (hW : (rest.map fun v => v.category).sum ≤ 8) (hdg : decode cc pc = .ok (.invokestatic index, 3)) (hcs : cells ≤ R.cells ∧ slots ≤ R.slots)
    (kk : ∀ (u : S) (H1 : Heap) (locs1 : List Loc), post u → va_P D gCl (wr ++ wc' u) H1 → va_D A (wr ++ wc' u) → va_S A s.heap H1 locs1 → W p l e R s m args below meth c H1 locs1 cells slots Q (F0 m (pc + 3) ls rest)) : W p l e R s m args below meth c H locs cells slots Q (F0 m pc ls st) := by
  obtain ⟨hc, hi, hd, hse⟩ := hF
  have hts := fx.2.2.2.2
  have hPc := gSubP hP isC hC
  have hFc := va_free (wc := wc) hD hS hA isC hC
  have hDc := hD.sub isC hnC hC
  subst hst
  refine va_callv (va_runS (As := As) (rest := rest) fx (hM H.size) ⟨gCallB hts hc hi hd hl hz hR, hts _ hse⟩ ⟨gBlind, fun U hU hW => ⟨rfl, by rw [hU], by rw [hU]; exact hPc, va_K.moved hW.alike hK, hDc.weaken (fun _ _ _ _ => trivial), hN.warm hW⟩⟩ rfl hAs hls rfl (by show 2 * 0 + _ ≤ 8; omega) hdg ⟨by omega, by omega⟩) hS (fun q _ h => hFc q h) hFc (fun u t H1 locs1 ht hvm hw hB hz1 hk1 hS1 => ?_)
  obtain ⟨hP1, hK1, hD1⟩ := hB
  rw [ht] at hP1
  obtain ⟨hP2, hD2⟩ := va_join (wr := wr) (w1 := wc' u) hP hD isC isR hC hRr hn hdis hk1 hFc hP1 hD1
  exact kk u H1 locs1 hw hP2 hD2 hS1
theorem gGet {ci index k : Nat} {C : String} {T : u_T} {N : Nat} {fs : List Value} {v : Value} (fx : CallFix p m c cc nL s args gG own) (hK : va_K D gCl tys s) (hP : va_P D gCl ws H) (q0 : Nat) (he : ws[q0]? = some (a, .inr (ci, fs))) (hin : ∀ w ∈ u_ws C T N, w ∈ gG) (hc : gCl[ci]? = some (C, T, N)) (hk : k < N) (hlink : Cond.fieldLink own index (T k).1 (T k).2.1 (T k).2.2.1 ∈ gG) (hv : fs[k]? = some v) (hdg : decode cc pc = .ok (.getfield index, 3))
    (kk : W p l e R s m args below meth c H locs cells slots Q (F0 m (pc + 3) ls (v :: rest))) : W p l e R s m args below meth c H locs cells slots Q (F0 m pc ls (.ref a :: rest)) :=
  va_get fx.1 fx.2.1 fx.2.2.2.2 hin fx.2.2.2.1 hK hP q0 he hc k hk (fx.2.2.2.2 _ hlink) (fun _ h => h) hv hdg kk
theorem gGetN {ci index k : Nat} {C host : String} {T : u_T} {N : Nat} {fs : List Value} {v : Value} (fx : CallFix p m c cc nL s args gG own) (hN : gNest s) (hK : va_K D gCl tys s) (hP : va_P D gCl ws H) (q0 : Nat) (he : ws[q0]? = some (a, .inr (ci, fs))) (hin : ∀ w ∈ u_ws C T N, w ∈ gG) (hc : gCl[ci]? = some (C, T, N)) (hk : k < N) (hlink : Cond.fieldLinkNest own index (T k).1 (T k).2.1 (T k).2.2.1 host ∈ gN) (hv : fs[k]? = some v) (hdg : decode cc pc = .ok (.getfield index, 3))
    (kk : W p l e R s m args below meth c H locs cells slots Q (F0 m (pc + 3) ls (v :: rest))) : W p l e R s m args below meth c H locs cells slots Q (F0 m pc ls (.ref a :: rest)) :=
  va_getN fx.1 fx.2.1 fx.2.2.2.2 hin fx.2.2.2.1 hK hP q0 he hc k hk (va_Nw.use rfl (hN _ hlink)) (fun _ h => h) hv hdg kk
theorem gPut {ci index k : Nat} {C : String} {T : u_T} {N : Nat} {fs : List Value} {v : Value} {ty0 : Nat → FieldType} (fx : CallFix p m c cc nL s args gG own) (hK : va_K D gCl tys s) (hP : va_P D gCl ws H) (hD : va_D A ws) (hS : va_S A s.heap H locs) (q0 : Nat) (he : ws[q0]? = some (a, .inr (ci, fs))) (hin : ∀ w ∈ u_ws C T N, w ∈ gG) (hty : ∀ k, k < N → parseFieldDescriptor (T k).2.2.1 = some (ty0 k)) (hnm : ∀ a, a < N → ∀ b, b < N → a ≠ b → (T a).2.1 ≠ (T b).2.1) (hc : gCl[ci]? = some (C, T, N)) (hk : k < N) (hlink : Cond.fieldLink own index (T k).1 (T k).2.1 (T k).2.2.1 ∈ gG) (hfin : (T k).2.2.2 = false) (hn : narrow (ty0 k) v = v) (hfit : fits (ty0 k) v = true) (hl : k < fs.length) (hdg : decode cc pc = .ok (.putfield index, 3))
    (kk : ∀ (H1 : Heap) (locs1 : List Loc), va_P D gCl (ws.set q0 (a, .inr (ci, fs.set k v))) H1 → va_D A (ws.set q0 (a, .inr (ci, fs.set k v))) → va_S A s.heap H1 locs1 → W p l e R s m args below meth c H1 locs1 cells slots Q (F0 m (pc + 3) ls rest)) : W p l e R s m args below meth c H locs cells slots Q (F0 m pc ls (v :: .ref a :: rest)) :=
  va_put fx.1 fx.2.1 fx.2.2.2.2 hin ty0 hty hnm fx.2.2.2.1 hK hP hD hS q0 he hc k hk (fx.2.2.2.2 _ hlink) (fun _ h => h) hfin (hty k hk) hn hfit hl hdg kk
theorem g_sw {dflt lo hi : Int} {offs : Array Int} {len : Nat} {x : Int32} (K : Int32) {off : Int} {tgt : Nat} (hexec : p.tables.exec = Jvm.exec) (hb : c.code = cc) (hdg : decode cc pc = .ok (.tableswitch dflt lo hi offs, len)) (hxK : x = K) (h1 : ¬ K.toInt < lo) (h2 : ¬ hi < K.toInt) (ho : offs[(K.toInt - lo).toNat]? = some off) (ht : (pc : Int) + off = (tgt : Int))
    (kk : W p l e R s m args below meth c H locs cells slots Q (F0 m tgt ls rest)) : W p l e R s m args below meth c H locs cells slots Q (F0 m pc ls (.int x :: rest)) := by
  subst hxK
  exact lv_tableIn hexec hb hdg h1 h2 ho ht kk
end GC
theorem g_out {x : Int32} {n : Nat} (hn : n < 2 ^ 31) (h : ∀ j, j < n → ¬ x = nI j) : x.toInt < 0 ∨ ((n : Int) - 1) < x.toInt := by
  by_cases h0 : x < 0
  · left
    have := Int32.lt_iff_toInt_lt.mp h0
    simpa using this
  · right
    obtain ⟨j, hj, rfl⟩ := nI_of h0
    rw [nI_toInt hj]
    have : ¬ j < n := fun hlt => h j hlt rfl
    omega
theorem i32_m1 : Int32.ofInt (-1) = -1 := by decide
def gL1 {A1 : Type} (F : (A1 → Prop) → A1 → Prop) : Nat → A1 → Prop
  | 0 => fun _ => False
  | n + 1 => F (gL1 F n)
def gL2 {A1 A2 : Type} (F : (A1 → A2 → Prop) → A1 → A2 → Prop) : Nat → A1 → A2 → Prop
  | 0 => fun _ _ => False
  | n + 1 => F (gL2 F n)
def gL3 {A1 A2 A3 : Type} (F : (A1 → A2 → A3 → Prop) → A1 → A2 → A3 → Prop) : Nat → A1 → A2 → A3 → Prop
  | 0 => fun _ _ _ => False
  | n + 1 => F (gL3 F n)
def gL4 {A1 A2 A3 A4 : Type} (F : (A1 → A2 → A3 → A4 → Prop) → A1 → A2 → A3 → A4 → Prop) : Nat → A1 → A2 → A3 → A4 → Prop
  | 0 => fun _ _ _ _ => False
  | n + 1 => F (gL4 F n)
def gL5 {A1 A2 A3 A4 A5 : Type} (F : (A1 → A2 → A3 → A4 → A5 → Prop) → A1 → A2 → A3 → A4 → A5 → Prop) : Nat → A1 → A2 → A3 → A4 → A5 → Prop
  | 0 => fun _ _ _ _ _ => False
  | n + 1 => F (gL5 F n)
def gL6 {A1 A2 A3 A4 A5 A6 : Type} (F : (A1 → A2 → A3 → A4 → A5 → A6 → Prop) → A1 → A2 → A3 → A4 → A5 → A6 → Prop) : Nat → A1 → A2 → A3 → A4 → A5 → A6 → Prop
  | 0 => fun _ _ _ _ _ _ => False
  | n + 1 => F (gL6 F n)
def gL7 {A1 A2 A3 A4 A5 A6 A7 : Type} (F : (A1 → A2 → A3 → A4 → A5 → A6 → A7 → Prop) → A1 → A2 → A3 → A4 → A5 → A6 → A7 → Prop) : Nat → A1 → A2 → A3 → A4 → A5 → A6 → A7 → Prop
  | 0 => fun _ _ _ _ _ _ _ => False
  | n + 1 => F (gL7 F n)
def gL8 {A1 A2 A3 A4 A5 A6 A7 A8 : Type} (F : (A1 → A2 → A3 → A4 → A5 → A6 → A7 → A8 → Prop) → A1 → A2 → A3 → A4 → A5 → A6 → A7 → A8 → Prop) : Nat → A1 → A2 → A3 → A4 → A5 → A6 → A7 → A8 → Prop
  | 0 => fun _ _ _ _ _ _ _ _ => False
  | n + 1 => F (gL8 F n)
def gL9 {A1 A2 A3 A4 A5 A6 A7 A8 A9 : Type} (F : (A1 → A2 → A3 → A4 → A5 → A6 → A7 → A8 → A9 → Prop) → A1 → A2 → A3 → A4 → A5 → A6 → A7 → A8 → A9 → Prop) : Nat → A1 → A2 → A3 → A4 → A5 → A6 → A7 → A8 → A9 → Prop
  | 0 => fun _ _ _ _ _ _ _ _ _ => False
  | n + 1 => F (gL9 F n)
def gL10 {A1 A2 A3 A4 A5 A6 A7 A8 A9 A10 : Type} (F : (A1 → A2 → A3 → A4 → A5 → A6 → A7 → A8 → A9 → A10 → Prop) → A1 → A2 → A3 → A4 → A5 → A6 → A7 → A8 → A9 → A10 → Prop) : Nat → A1 → A2 → A3 → A4 → A5 → A6 → A7 → A8 → A9 → A10 → Prop
  | 0 => fun _ _ _ _ _ _ _ _ _ _ => False
  | n + 1 => F (gL10 F n)
def gL11 {A1 A2 A3 A4 A5 A6 A7 A8 A9 A10 A11 : Type} (F : (A1 → A2 → A3 → A4 → A5 → A6 → A7 → A8 → A9 → A10 → A11 → Prop) → A1 → A2 → A3 → A4 → A5 → A6 → A7 → A8 → A9 → A10 → A11 → Prop) : Nat → A1 → A2 → A3 → A4 → A5 → A6 → A7 → A8 → A9 → A10 → A11 → Prop
  | 0 => fun _ _ _ _ _ _ _ _ _ _ _ => False
  | n + 1 => F (gL11 F n)
def gL12 {A1 A2 A3 A4 A5 A6 A7 A8 A9 A10 A11 A12 : Type} (F : (A1 → A2 → A3 → A4 → A5 → A6 → A7 → A8 → A9 → A10 → A11 → A12 → Prop) → A1 → A2 → A3 → A4 → A5 → A6 → A7 → A8 → A9 → A10 → A11 → A12 → Prop) : Nat → A1 → A2 → A3 → A4 → A5 → A6 → A7 → A8 → A9 → A10 → A11 → A12 → Prop
  | 0 => fun _ _ _ _ _ _ _ _ _ _ _ _ => False
  | n + 1 => F (gL12 F n)
def gL13 {A1 A2 A3 A4 A5 A6 A7 A8 A9 A10 A11 A12 A13 : Type} (F : (A1 → A2 → A3 → A4 → A5 → A6 → A7 → A8 → A9 → A10 → A11 → A12 → A13 → Prop) → A1 → A2 → A3 → A4 → A5 → A6 → A7 → A8 → A9 → A10 → A11 → A12 → A13 → Prop) : Nat → A1 → A2 → A3 → A4 → A5 → A6 → A7 → A8 → A9 → A10 → A11 → A12 → A13 → Prop
  | 0 => fun _ _ _ _ _ _ _ _ _ _ _ _ _ => False
  | n + 1 => F (gL13 F n)
def gL14 {A1 A2 A3 A4 A5 A6 A7 A8 A9 A10 A11 A12 A13 A14 : Type} (F : (A1 → A2 → A3 → A4 → A5 → A6 → A7 → A8 → A9 → A10 → A11 → A12 → A13 → A14 → Prop) → A1 → A2 → A3 → A4 → A5 → A6 → A7 → A8 → A9 → A10 → A11 → A12 → A13 → A14 → Prop) : Nat → A1 → A2 → A3 → A4 → A5 → A6 → A7 → A8 → A9 → A10 → A11 → A12 → A13 → A14 → Prop
  | 0 => fun _ _ _ _ _ _ _ _ _ _ _ _ _ _ => False
  | n + 1 => F (gL14 F n)
theorem gBool {r : Int32} (h : r = nI 0 ∨ r = nI 1) : narrow .boolean (.int r) = .int r := by
  rcases h with rfl | rfl <;> rfl
