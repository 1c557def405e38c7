/-! ===== the logic, on: calls ===== -/
/-- a method that can be called, of n parameters -/
def gCB (M : gMd) (n : Nat) : Prop := Cond.code (gY M) (gBy M) (gMl M) (gRt M) ∈ lw_gd ∧ Cond.initialized (gY M).cls ∈ lw_gd ∧ plainFor (gY M) = true ∧
  ((gY M).cls ≠ "java/lang/invoke/MethodHandle" ∧ (gY M).cls ≠ "java/lang/invoke/VarHandle" ∧ (parseMethodDescriptor (gY M).desc).map (fun d => d.parameters.length) = some n)
def gEnt (M : gMd) (vs : List Value) : List (Option Value) := vs.map some ++ List.replicate (gMl M - vs.length) none
theorem gSl {vs : List Value} (hv : ∀ v ∈ vs, v.category = 1) : lg_sl vs = vs.map Slot.val := by
  induction vs with
  | nil => rfl
  | cons v vs ih =>
    have h1 : v.category = 1 := hv v List.mem_cons_self
    have h2 := ih (fun w hw => hv w (List.mem_cons_of_mem _ hw))
    show (v :: vs).flatMap _ = _
    rw [List.flatMap_cons]
    show _ ++ lg_sl vs = _
    rw [h2]
    simp [h1]
theorem gLs.entry {M : gMd} {vs : List Value} (hv : ∀ v ∈ vs, v.category = 1) (hlen : vs.length ≤ gMl M) : gLs M ((lg_sl vs ++ List.replicate (gMl M - (lg_sl vs).length) Slot.unset).toArray) (gEnt M vs) := by
  have hl := lv_entry vs (n := gMl M) (by rw [gSl hv, List.length_map]; exact hlen)
  refine ⟨hl.1, hl.2.1, fun k v hk => ?_⟩
  have hkl : k < vs.length := by
    rcases Nat.lt_or_ge k vs.length with h1 | h1
    · exact h1
    · unfold gEnt at hk
      rw [List.getElem?_append_right (by simpa using h1)] at hk
      have := List.eq_of_mem_replicate (List.mem_of_getElem? hk)
      cases this
  have hk2 : vs[k]? = some v := by
    unfold gEnt at hk
    rw [List.getElem?_append_left (by simpa using hkl), List.getElem?_map] at hk
    cases h1 : vs[k]? with
    | none => rw [h1] at hk; cases hk
    | some w => rw [h1] at hk; cases hk; rfl
  refine ⟨?_, Or.inl (hv v (List.mem_of_getElem? hk2))⟩
  rw [gSl hv, List.getElem?_toArray, List.getElem?_append_left (by simpa using hkl), List.getElem?_map, hk2]
  rfl
theorem gOfW {l : Launch} {y : MethodName} {ws ws' : List Cond} {rm : Room} {Pc : Array Value → State → Prop} {Qc : Array Value → State → Outcome → State → Prop} {mc ms : Nat} {free : Addr → Prop} {cc : ByteArray} {maxL : Nat} {ret : Option FieldType}
    (hy : plainFor y = true) (hw : ws = Cond.code y cc maxL ret :: ws')
    (body : ∀ p e s m args below meth c s₁, BodyLoose p l y (headSpec ws rm) cc maxL ret e s m args below meth c s₁ → c.maxLocals = maxL → Pc args s →
      W p l e (headSpec ws rm).room s m args below meth c s.heap [] 0 0 (MQ below Qc args s mc ms free) (entryFrame m args maxL)) : Met l y ws rm Pc Qc mc ms free := by
  refine MetFree.of_bodySF (code := cc) (maxLocals := maxL) (ret := ret) hy ?_ ?_
  · intro args s m h hn
    obtain ⟨meth, c, h1, h2, h3, h4, h5, h6, -, -⟩ := Cond.code_spec hn (atoms_spec (ws := ws) h _ (by rw [hw]; exact List.mem_cons_self))
    exact ⟨meth, c, h1, h2, h3, h4, h5, h6⟩
  · intro p e s m args below meth c s₁ B hml hP _
    have hh0 : s₁.heap = s.heap := by rw [B.state]; rfl
    obtain ⟨t, a1, o, b1, b2, b3⟩ := body p e s m args below meth c s₁ B hml hP s₁ hh0 (Stand.of_body B)
    exact ⟨t, o, a1, b1, b2, ⟨b3.1, b3.2⟩⟩
theorem gMet {E : gE} {M : gMd} {vs : List Value} {h h' : gH} {r : Option Value} (hp : plainFor (gY M) = true) (hv : ∀ v ∈ vs, v.category = 1) (hlen : vs.length ≤ gMl M) (hz : h.2.1 ≤ h'.2.1) (hz2 : h.2.2 ≤ h'.2.2) (k : gSem E M 0 (gEnt M vs) [] h r h') :
    Met (gL E) (gY M) (gWs M) ({ frames := gFr M, cells := h'.2.1 - h.2.1, slots := h'.2.2 - h.2.2, locals := gLo M }) (va_Pc vs (gPre E h)) (gQ E r h') (h'.2.1 - h.2.1) (h'.2.2 - h.2.2) (gFree E) := by
  refine gOfW (cc := gBy M) (maxL := gMl M) (ret := gRt M) hp rfl ?_
  intro p e s m args below meth c s₁ B hml hv'
  obtain ⟨rfl, hRep, hK, hX⟩ := hv'
  have hts := atoms_spec (ws := gWs M) B.pre
  have hl := gLs.entry (M := M) hv hlen
  have hC : gCx E M p s m vs.toArray meth c := ⟨B.exec, B.bytes, B.returns, hml, findClass_of_methodNamed B.named, fun w hw => hts w (List.mem_cons_of_mem _ hw), hX, B.notSynchronized, (name_of_methodNamed B.named B.method).1, hK⟩
  rw [lg_entry_eq]
  exact k p e _ s m _ below meth c hC (Nat.le_refl _) (Nat.le_refl _) _ _ 0 0 s.heap [] _ (Nat.le_refl _) (Nat.le_refl _) (by omega) (by omega) hRep (fun _ _ => rfl) (fun _ h => by cases h) hl
section GN
variable {E : gE} {M : gMd} {pc : Nat} {ls : List (Option Value)} {st : List Value} {h : gH} {Q : Option Value → gH → Prop}
theorem Wp.call {M' : gMd} {vs rest : List Value} {n : Nat} (hc : gCB M' n) (hv : (vs.all fun v => v.category == 1) = true) (hlen : vs.length ≤ gMl M')
    (k : ∀ (p : Program) (e : Env) (R : Room) (s : State) (m : MethodId) (args : Array Value) (below : List Frame) (meth : Method) (c : Code) (H : Heap) (locs : List Loc) (cells slots mc ms : Nat) (lsA : Array Slot) (r1 : Option Value) (h1 : gH), gFr M ≤ R.frames → gLo M ≤ R.locals → gCx E M p s m args meth c → gLs M lsA ls → gRep E s h H →
      Met (gL E) (gY M') (gWs M') ({ frames := gFr M', cells := mc, slots := ms, locals := gLo M' }) (va_Pc vs (gPre E h)) (gQ E r1 h1) mc ms (gFree E) → FrameBlind (va_Pc vs (gPre E h)) → (∀ U : State, U.heap = H → s.WarmedH U.vm → va_Pc vs (gPre E h) vs.toArray U) → cells + mc ≤ R.cells ∧ slots + ms ≤ R.slots →
      va_Run p (gL E) e R s m args below meth c H locs cells slots mc ms (F0 m pc lsA st) rest (gQ E r1 h1 vs.toArray) (gFree E))
    (w : Wp E M' 0 (gEnt M' vs) [] h (fun r h1 => Wp E M (pc + 3) ls (r.toList ++ rest) h1 Q)) : Wp E M pc ls st h Q := by
  obtain ⟨r1, h1, w1, a1, b1, k1⟩ := w
  obtain ⟨r, h', q, a2, b2, k2⟩ := w1
  refine ⟨r, h', q, Nat.le_trans a1 a2, Nat.le_trans b1 b2, fun p e R s m args below meth c C f1 f2 mc ms cells slots H locs lsA g1 g2 g3 g4 hR hB hl hL => ?_⟩
  have hv2 : ∀ v ∈ vs, v.category = 1 := fun v hm => by have := List.all_eq_true.mp hv v hm; simpa using this
  have hMet := gMet hc.2.2.1 hv2 hlen a1 b1 k1
  have hK := C.2.2.2.2.2.2.2.2.2
  have hX := C.2.2.2.2.2.2.1
  have hrun := k p e R s m args below meth c H locs cells slots _ _ lsA r1 h1 f1 f2 C hL hR hMet
    (fun a U g mk q => ⟨q.1, q.2.1, va_K.moved (u := U) (U := U.calling g mk a) (Vm.Alike.refl U.vm) q.2.2.1, gXs.moved (u := U) (U := U.calling g mk a) (State.WarmedH.refl U) q.2.2.2⟩)
    (fun U hU hW => ⟨rfl, by rw [hU]; exact hR.moved hW.alike, va_K.moved hW.alike hK, hX.moved hW⟩) ⟨by omega, by omega⟩
  intro T hT X
  obtain ⟨v, st₀, t, T', L, h0, X', hLf, e1, e2, ⟨hv0, hR1, hfr⟩, stp⟩ := hrun T hT X
  cases hv0
  have hal : t.vm.Alike s.vm := by rw [← e2]; exact X'.warmed.alike.symm
  obtain ⟨t2, s1, s2⟩ := k2 p e R s m args below meth c C f1 f2 mc ms _ _ T'.heap (locs ++ L) lsA g1 g2 (by omega) (by omega) (by rw [e1]; exact hR1.moved hal) (fun q hq => by rw [e1, hfr q hq, h0]; exact hB q hq) (fun q hq => by
    rcases List.mem_append.mp hq with h1 | h1
    · exact hl q h1
    · exact hLf q h1) hL T' rfl X'
  exact ⟨t2, stp t2 s1, s2⟩
def gRoom (M M' : gMd) : Prop := gFr M' + 1 ≤ gFr M ∧ 8 + (gMl M' + 11) + gLo M' ≤ gLo M
theorem gRoom.ok {M' : gMd} (h : gRoom M M') {R : Room} (f1 : gFr M ≤ R.frames) (f2 : gLo M ≤ R.locals) {mc ms : Nat} : ({ frames := gFr M', cells := mc, slots := ms, locals := gLo M' } : Room).frames + 1 ≤ R.frames ∧ 8 + (gMl M' + 11) + ({ frames := gFr M', cells := mc, slots := ms, locals := gLo M' } : Room).locals ≤ R.locals := ⟨Nat.le_trans h.1 f1, Nat.le_trans h.2 f2⟩
/-- sites: virtual, static, constructor; nest mates' -/
def gSV (own : String) (cp : Nat) (M : gMd) : Prop := Cond.methodLink own cp (gY M) ∈ lw_gd ∧ Cond.instanceMethod (gY M) ∈ lw_gd ∧ Cond.selects (gY M).cls (gY M) (gY M) ∈ lw_gd
def gSS (own : String) (cp : Nat) (M : gMd) : Prop := Cond.methodLink own cp (gY M) ∈ lw_gd ∧ Cond.static (gY M) ∈ lw_gd
def gSI (own : String) (cp : Nat) (M : gMd) : Prop := Cond.methodLink own cp (gY M) ∈ lw_gd ∧ Cond.instanceMethod (gY M) ∈ lw_gd ∧ (gY M).name = "<init>" ∧ gRt M = none
def gSSN (own : String) (cp : Nat) (M : gMd) : Prop := ∃ host, Cond.methodLinkNest own cp (gY M) host ∈ lw_tbl ∧ Cond.static (gY M) ∈ lw_gd
def gSIN (own : String) (cp : Nat) (M : gMd) : Prop := ∃ host, Cond.methodLinkNest own cp (gY M) host ∈ lw_tbl ∧ Cond.instanceMethod (gY M) ∈ lw_gd ∧ (gY M).name = "<init>" ∧ gRt M = none
theorem gGoodWs {M' : gMd} {n : Nat} (hc : gCB M' n) : GoodIn lw_gd (gWs M') := fun w hw => by
  rcases List.mem_cons.mp hw with rfl | hw
  · exact gGood _ hc.1
  · exact gGood _ hw
theorem wp_callV {M' : gMd} {cp n b ci : Nat} {fs As rest : List Value} (hd : gDec M pc (.invokevirtual cp) 3) (hs : gSV (gY M).cls cp M') (hc : gCB M' n) (hr : gRoom M M') (hb : h.1 b = some (.inl (ci, fs))) (hci : (vwCl[ci]?).map (fun q => q.1) = some (gY M').cls) (hn : As.length = n) (hst : st = As.reverse ++ .ref b :: rest)
    (hv : (As.all fun v => v.category == 1) = true) (hlen : As.length + 1 ≤ gMl M') (hW : (rest.map fun v => v.category).sum ≤ 8) (w : Wp E M' 0 (gEnt M' (.ref b :: As)) [] h (fun r h1 => Wp E M (pc + 3) ls (r.toList ++ rest) h1 Q)) : Wp E M pc ls st h Q := by
  refine Wp.call (vs := .ref b :: As) (rest := rest) hc (by simpa [Value.category] using hv) hlen (fun p e R s m args below meth c H locs cells slots mc ms lsA r1 h1 f1 f2 C hL hR hM hbl hpre hf => ?_) w
  obtain ⟨r, hr1, -, cell, q1, q2, q3, -⟩ := hR.2.2 b _ hb
  have hcl : r.1 = (gY M').cls := by rw [hr1] at hci; exact Option.some.inj hci
  have hts := C.2.2.2.2.2.1
  refine va_runV (C := (gY M').cls) ⟨C.1, C.2.1, C.2.2.2.1, C.2.2.2.2.1, hts⟩ hM ⟨callB_of n hts (gGoodWs hc) rfl rfl rfl (hts _ hc.2.1) (hts _ hs.1) hc.2.2.2 (hr.ok f1 f2), hts _ hs.2.1, hts _ hs.2.2⟩ ⟨hbl, ⟨cell, q1, by rw [q3]; rfl, ?_⟩, hpre⟩ rfl hn hL.1 hst (lv_room hW) hd hf
  rw [q2, ← hcl]
  exact (C.2.2.2.2.2.2.2.2.2.1 ci r hr1).2.1
theorem wp_callS {M' : gMd} {cp n : Nat} {As rest : List Value} (hd : gDec M pc (.invokestatic cp) 3) (hs : gSS (gY M).cls cp M') (hc : gCB M' n) (hr : gRoom M M') (hn : As.length = n) (hst : st = As.reverse ++ rest)
    (hv : (As.all fun v => v.category == 1) = true) (hlen : As.length ≤ gMl M') (hW : (rest.map fun v => v.category).sum ≤ 8) (w : Wp E M' 0 (gEnt M' As) [] h (fun r h1 => Wp E M (pc + 3) ls (r.toList ++ rest) h1 Q)) : Wp E M pc ls st h Q := by
  refine Wp.call (vs := As) (rest := rest) hc hv hlen (fun p e R s m args below meth c H locs cells slots mc ms lsA r1 h1 f1 f2 C hL hR hM hbl hpre hf => ?_) w
  have hts := C.2.2.2.2.2.1
  exact va_runS ⟨C.1, C.2.1, C.2.2.2.1, C.2.2.2.2.1, hts⟩ hM ⟨callB_of n hts (gGoodWs hc) rfl rfl rfl (hts _ hc.2.1) (hts _ hs.1) hc.2.2.2 (hr.ok f1 f2), hts _ hs.2⟩ ⟨hbl, hpre⟩ rfl hn hL.1 hst (lv_room hW) hd hf
theorem wp_callI {M' : gMd} {cp n b : Nat} {As rest : List Value} (hd : gDec M pc (.invokespecial cp) 3) (hs : gSI (gY M).cls cp M') (hc : gCB M' n) (hr : gRoom M M') (hn : As.length = n) (hst : st = As.reverse ++ .ref b :: rest)
    (hv : (As.all fun v => v.category == 1) = true) (hlen : As.length + 1 ≤ gMl M') (hW : (rest.map fun v => v.category).sum ≤ 8) (w : Wp E M' 0 (gEnt M' (.ref b :: As)) [] h (fun r h1 => Wp E M (pc + 3) ls (r.toList ++ rest) h1 Q)) : Wp E M pc ls st h Q := by
  refine Wp.call (vs := .ref b :: As) (rest := rest) hc (by simpa [Value.category] using hv) hlen (fun p e R s m args below meth c H locs cells slots mc ms lsA r1 h1 f1 f2 C hL hR hM hbl hpre hf => ?_) w
  have hts := C.2.2.2.2.2.1
  have hret := hs.2.2.2
  exact va_runI (ws := gWs M') ⟨C.1, C.2.1, C.2.2.2.1, C.2.2.2.2.1, hts⟩ hM ⟨callB_of n hts (gGoodWs hc) (by unfold gWs; rw [hret]) rfl rfl (hts _ hc.2.1) (hts _ hs.1) hc.2.2.2 (hr.ok f1 f2), hs.2.2.1, hts _ hs.2.1⟩ ⟨hbl, hpre⟩ rfl hn hL.1 hst (lv_room hW) hd hf
theorem wp_callSN {M' : gMd} {cp n : Nat} {As rest : List Value} (hd : gDec M pc (.invokestatic cp) 3) (hs : gSSN (gY M).cls cp M') (hc : gCB M' n) (hr : gRoom M M') (hn : As.length = n) (hst : st = As.reverse ++ rest)
    (hv : (As.all fun v => v.category == 1) = true) (hlen : As.length ≤ gMl M') (hW : (rest.map fun v => v.category).sum ≤ 8) (w : Wp E M' 0 (gEnt M' As) [] h (fun r h1 => Wp E M (pc + 3) ls (r.toList ++ rest) h1 Q)) : Wp E M pc ls st h Q := by
  obtain ⟨host, hl, hst2⟩ := hs
  refine Wp.call (vs := As) (rest := rest) hc hv hlen (fun p e R s m args below meth c H locs cells slots mc ms lsA r1 h1 f1 f2 C hL hR hM hbl hpre hf => ?_) w
  have hts := C.2.2.2.2.2.1
  exact va_runSN ⟨C.1, C.2.1, C.2.2.2.1, C.2.2.2.2.1, hts⟩ hM ⟨va_cnB n hts (gGoodWs hc) rfl rfl rfl (C.2.2.2.2.2.2.1 _ hl rfl) (hts _ hc.2.1) hc.2.2.2 (hr.ok f1 f2), hts _ hst2, trivial⟩ ⟨hbl, hpre⟩ rfl hn hL.1 hst (lv_room hW) hd hf
theorem wp_callIN {M' : gMd} {cp n b : Nat} {As rest : List Value} (hd : gDec M pc (.invokespecial cp) 3) (hs : gSIN (gY M).cls cp M') (hc : gCB M' n) (hr : gRoom M M') (hn : As.length = n) (hst : st = As.reverse ++ .ref b :: rest)
    (hv : (As.all fun v => v.category == 1) = true) (hlen : As.length + 1 ≤ gMl M') (hW : (rest.map fun v => v.category).sum ≤ 8) (w : Wp E M' 0 (gEnt M' (.ref b :: As)) [] h (fun r h1 => Wp E M (pc + 3) ls (r.toList ++ rest) h1 Q)) : Wp E M pc ls st h Q := by
  obtain ⟨host, hl, hin, hnm, hret⟩ := hs
  refine Wp.call (vs := .ref b :: As) (rest := rest) hc (by simpa [Value.category] using hv) hlen (fun p e R s m args below meth c H locs cells slots mc ms lsA r1 h1 f1 f2 C hL hR hM hbl hpre hf => ?_) w
  have hts := C.2.2.2.2.2.1
  exact va_runIN (ws := gWs M') ⟨C.1, C.2.1, C.2.2.2.1, C.2.2.2.2.1, hts⟩ hM ⟨va_cnB n hts (gGoodWs hc) (by unfold gWs; rw [hret]) rfl rfl (C.2.2.2.2.2.2.1 _ hl rfl) (hts _ hc.2.1) hc.2.2.2 (hr.ok f1 f2), hnm, hts _ hin⟩ ⟨hbl, hpre⟩ rfl hn hL.1 hst (lv_room hW) hd hf
/-- Object's constructor -/
def gOi (own : String) (cp : Nat) : Prop := Cond.methodLink own cp objectInit ∈ lw_gd ∧ Cond.instanceMethod objectInit ∈ lw_gd ∧ Cond.code objectInit ⟨#[0xb1]⟩ 1 none ∈ lw_gd
theorem wp_objInit {cp b : Nat} (hd : gDec M pc (.invokespecial cp) 3) (hs : gOi (gY M).cls cp) (hr : 1 ≤ gFr M ∧ 20 ≤ gLo M) (hW : (st.map fun v => v.category).sum ≤ 8) (w : Wp E M (pc + 3) ls st h Q) : Wp E M pc ls (.ref b :: st) h Q := by
  refine Wp.pureR (fun p e R s m args below meth c H locs cells slots Qs lsA f1 f2 C hL _ k => ?_) w
  have hts := C.2.2.2.2.2.1
  refine W.objInit C.1 C.2.1 C.2.2.2.2.1 (hts _ hs.1) (hts _ hs.2.1) (hts _ hs.2.2) rfl (hL.1.trans C.2.2.2.1.symm) rfl hd (by omega) ?_ k
  show 2 * 0 + _ + 12 ≤ R.locals
  omega
/-- System.arraycopy over arrays of ints -/
def gAc (own : String) (cp : Nat) : Prop := Cond.methodLink own cp arraycopyName ∈ lw_gd ∧ Cond.native arraycopyName ∈ lw_gd ∧ Cond.static arraycopyName ∈ lw_gd ∧ Cond.initialized "java/lang/System" ∈ lw_gd
theorem wp_arraycopy {cp a0 a n0 n1 : Nat} {f g : Nat → Int32} {sp dp n : Int32} (hd : gDec M pc (.invokestatic cp) 3) (hs : gAc (gY M).cls cp) (hr : 1 ≤ gFr M ∧ 26 ≤ gLo M) (ht : gTy E 0 .int) (ha0 : h.1 a0 = some (.inr (0, n0, fun j => .int (f j)))) (ha1 : h.1 a = some (.inr (0, n1, fun j => .int (g j)))) (ha : gB E ≤ a)
    (h1 : ¬ sp < 0) (h2 : ¬ dp < 0) (h3 : ¬ n < 0) (h4 : sp.toNatClampNeg + n.toNatClampNeg ≤ n0) (h5 : dp.toNatClampNeg + n.toNatClampNeg ≤ n1) (hW : (st.map fun v => v.category).sum ≤ 8)
    (w : Wp E M (pc + 3) ls st (gPut h a (.inr (0, n1, fun j => .int (va_cpy f g sp.toNatClampNeg dp.toNatClampNeg n.toNatClampNeg j)))) Q) : Wp E M pc ls (.int n :: .int dp :: .ref a :: .int sp :: .ref a0 :: st) h Q := by
  obtain ⟨cA, ht⟩ := ht.2
  refine Wp.put ha (fun p e R s m args below meth c H locs cells slots Qs lsA f1 f2 C hL hR kk => ?_) w
  have hts := C.2.2.2.2.2.1
  have hK := C.2.2.2.2.2.2.2.2.2
  obtain ⟨q0, i0, hc0⟩ := (hR.2.2 a0 _ ha0).arr (by decide)
  cases i0.symm.trans ht
  obtain ⟨q1, i1, hc1⟩ := (hR.2.2 a _ ha1).arr (by decide)
  cases i1.symm.trans ht
  have nn : ∀ z : Int32, ¬ z < 0 → z.toInt = (z.toNatClampNeg : Int) := by
    intro z hz
    have hz0 : (0 : Int) ≤ z.toInt := by
      have := Int32.not_lt.mp hz
      simpa using Int32.le_iff_toInt_le.mp this
    show z.toInt = ((z.toInt.toNat : Nat) : Int)
    omega
  have hw7 : nativeFrameWords "java/lang/System" "arraycopy" 5 = 7 := by decide
  intro T hT X
  obtain ⟨-, k0, hk0, cm0, hkk0⟩ := (hK.2 0 _ ht).1 n0 (fun j => .int (f j))
  obtain ⟨vm', X', step⟩ := X.arraycopy C.1 C.2.2.2.2.1 (hts _ hs.1) (hts _ hs.2.1) (hts _ hs.2.2.1) (hts _ hs.2.2.2) (src := a0) (dst := a) (cs := arrV cA n0 (fun j => .int (f j))) (cd := arrV cA n1 (fun j => .int (g j))) (srcPos := sp) (destPos := dp) (n := n) (by rw [hT]; exact hc0) (by rw [hT]; exact hc1)
    (fun _ h => by cases h) (fun _ h => by cases h) (fun h => by cases h) (fun h => by cases h) hk0 hk0 hkk0 hkk0 (by simp [refKind]) h1 h2 h3
    (by rw [nn sp h1, nn n h3]; show ¬ _ > ((arrV cA n0 (fun j => .int (f j))).slots.size : Int); rw [arrV_size]; omega)
    (by rw [nn dp h2, nn n h3]; show ¬ _ > ((arrV cA n1 (fun j => .int (g j))).slots.size : Int); rw [arrV_size]; omega)
    (fun vm₁ _ i hi => by
      have e : (arrV cA n0 (fun j => Value.int (f j))).slots.getD (sp.toNatClampNeg + i) .null = .int (f (sp.toNatClampNeg + i)) := by
        rw [Array.getD_eq_getD_getElem?, arrV_read _ _ (by omega)]
        rfl
      refine ⟨?_, ?_⟩
      · rw [e]
        rfl
      · rw [e]
        exact trivial)
    (g := F0 m pc lsA (.int n :: .int dp :: .ref a :: .int sp :: .ref a0 :: st)) rfl (by rw [hL.1, C.2.2.2.1]) (rest := st) rfl (by rw [C.2.1]; exact hd) (by omega) (by show 2 * 0 + _ + _ ≤ _; omega)
  have e1 : copied (arrV cA n0 (fun j => .int (f j))) (arrV cA n1 (fun j => .int (g j))) sp dp n = arrV cA n1 (fun j => .int (va_cpy f g sp.toNatClampNeg dp.toNatClampNeg n.toNatClampNeg j)) := va_copied (fun z => .int z) cA cA f g h4
  rw [e1] at X' step
  have hl : a < H.size := (Array.getElem?_eq_some_iff.mp hc1).1
  have hheap : ((T.setVm vm').setCell a (arrV cA n1 (fun j => .int (va_cpy f g sp.toNatClampNeg dp.toNatClampNeg n.toNatClampNeg j)))).heap = H.setIfInBounds a (arrV cA n1 (fun j => .int (va_cpy f g sp.toNatClampNeg dp.toNatClampNeg n.toNatClampNeg j))) := by rw [← hT]; rfl
  obtain ⟨t, b1, b2⟩ := kk _ _ (by simp) (fun q hq => by simp [Array.getElem?_setIfInBounds, Ne.symm hq]) (Or.inl ⟨_, ht, by simp [Array.getElem?_setIfInBounds, hl]⟩) (fun q hq => by
    obtain ⟨z, -, hz⟩ := List.mem_map.mp hq
    rw [← hz]) _ hheap X'
  exact ⟨t, step t b1, b2⟩
end GN
