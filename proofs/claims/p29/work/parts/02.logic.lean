/-! ===== a small logic over W: whole abstract heaps, exact ends, one rule an instruction ===== -/
/-- a cell: an object (number of its class in vwCl, its fields) or an array (kind, length, contents) -/
abbrev gC : Type := (Nat × List Value) ⊕ (Nat × Nat × (Nat → Value))
/-- a heap: its cells, the next address, the slots made so far -/
abbrev gH : Type := (Nat → Option gC) × Nat × Nat
/-- a method: name, code, locals, what it returns, the frames and the words that its calls need -/
abbrev gMd : Type := MethodName × ByteArray × Nat × Option FieldType × Nat × Nat
abbrev gY (M : gMd) : MethodName := M.1
abbrev gBy (M : gMd) : ByteArray := M.2.1
abbrev gMl (M : gMd) : Nat := M.2.2.1
abbrev gRt (M : gMd) : Option FieldType := M.2.2.2.1
abbrev gFr (M : gMd) : Nat := M.2.2.2.2.1
abbrev gLo (M : gMd) : Nat := M.2.2.2.2.2
/-- what is fixed: the launch, the classes' numbers and slots, the arrays' classes, the first address of ours -/
abbrev gE : Type := Launch × va_G × List (ClassId × FieldType) × Nat
abbrev gL (E : gE) : Launch := E.1
abbrev gD (E : gE) : va_G := E.2.1
abbrev gT (E : gE) : List (ClassId × FieldType) := E.2.2.1
abbrev gB (E : gE) : Nat := E.2.2.2
def gWs (M : gMd) : List Cond := Cond.code (gY M) (gBy M) (gMl M) (gRt M) :: lw_gd
/-- a cell as it lies in the machine's heap; kind 99: the script, which is only read -/
def gAt (E : gE) (U : State) (a : Nat) (c : gC) (H : Heap) : Prop := match c with
  | .inl o => ∃ r : vw_C, vwCl[o.1]? = some r ∧ o.2.length = r.2.2 ∧ t_OB a ((gD E).1 o.1) r.2.2 ((gD E).2 o.1) H (vp_V o.2)
  | .inr x => (∃ q, (gT E)[x.1]? = some q ∧ H[a]? = some (arrV q.1 x.2.1 x.2.2)) ∨ (x.1 = 99 ∧ ∃ scr : Cell, H[a]? = some scr ∧ U.isArrayOf scr .int ∧ scr.vm ≠ .unknown ∧ scr.slots.size = x.2.1 ∧ ∀ j : Nat, j < x.2.1 → scr.slots[j]? = some (x.2.2 j))
def gRep (E : gE) (U : State) (h : gH) (H : Heap) : Prop := H.size = h.2.1 ∧ gB E ≤ h.2.1 ∧ ∀ (a : Nat) (c : gC), h.1 a = some c → gAt E U a c H
theorem gAt.kept {E : gE} {U : State} {a : Nat} {c : gC} {H H1 : Heap} (h : gAt E U a c H) (hq : H1[a]? = H[a]?) : gAt E U a c H1 := by
  cases c with
  | inl o =>
    obtain ⟨r, h1, h2, h3⟩ := h
    exact ⟨r, h1, h2, h3.kept hq⟩
  | inr x =>
    rcases h with ⟨q, h1, h2⟩ | ⟨h0, scr, h1, h2⟩
    · exact Or.inl ⟨q, h1, by rw [hq]; exact h2⟩
    · exact Or.inr ⟨h0, scr, by rw [hq]; exact h1, h2⟩
theorem gAt.lt {E : gE} {U : State} {a : Nat} {c : gC} {H : Heap} (h : gAt E U a c H) : a < H.size := by
  cases c with
  | inl o =>
    obtain ⟨r, h1, h2, cell, h3, -⟩ := h
    exact (Array.getElem?_eq_some_iff.mp h3).1
  | inr x =>
    rcases h with ⟨q, h1, h2⟩ | ⟨h0, scr, h1, h2⟩
    · exact (Array.getElem?_eq_some_iff.mp h2).1
    · exact (Array.getElem?_eq_some_iff.mp h1).1
theorem gAt.moved {E : gE} {u U : State} {a : Nat} {c : gC} {H : Heap} (hvm : u.vm.Alike U.vm) (h : gAt E u a c H) : gAt E U a c H := by
  cases c with
  | inl o => exact h
  | inr x =>
    rcases h with h | ⟨h0, scr, h1, h2, h3⟩
    · exact Or.inl h
    · exact Or.inr ⟨h0, scr, h1, State.isArrayOf_alike hvm h2, h3⟩
theorem gRep.moved {E : gE} {u U : State} {h : gH} {H : Heap} (hvm : u.vm.Alike U.vm) (h1 : gRep E u h H) : gRep E U h H := ⟨h1.1, h1.2.1, fun a c hc => (h1.2.2 a c hc).moved hvm⟩
/-- one cell written -/
def gPut (h : gH) (a : Nat) (c : gC) : gH := (fun q => if q = a then some c else h.1 q, h.2)
/-- one cell made, of n slots -/
def gPush (h : gH) (c : gC) (n : Nat) : gH := (fun q => if q = h.2.1 then some c else h.1 q, h.2.1 + 1, h.2.2 + n)
theorem gRep.put {E : gE} {U : State} {h : gH} {H H1 : Heap} {a : Nat} {c : gC} (hR : gRep E U h H) (hz : H1.size = H.size) (ho : ∀ q : Nat, q ≠ a → H1[q]? = H[q]?) (hc : gAt E U a c H1) : gRep E U (gPut h a c) H1 := by
  refine ⟨hz.trans hR.1, hR.2.1, fun q x hx => ?_⟩
  by_cases hq : q = a
  · subst hq
    simp only [gPut, if_pos] at hx
    cases hx
    exact hc
  · simp only [gPut, if_neg hq] at hx
    exact (hR.2.2 q x hx).kept (ho q hq)
theorem gRep.push {E : gE} {U : State} {h : gH} {H H1 : Heap} {c : gC} {n : Nat} (hR : gRep E U h H) (hz : H1.size = H.size + 1) (ho : ∀ q : Nat, q < H.size → H1[q]? = H[q]?) (hc : gAt E U H.size c H1) : gRep E U (gPush h c n) H1 := by
  refine ⟨by rw [hz, hR.1]; rfl, Nat.le_trans hR.2.1 (Nat.le_succ _), fun q x hx => ?_⟩
  by_cases hq : q = h.2.1
  · subst hq
    simp only [gPush, if_pos] at hx
    cases hx
    rw [← hR.1]
    exact hc
  · simp only [gPush, if_neg hq] at hx
    have h1 := hR.2.2 q x hx
    exact h1.kept (ho q h1.lt)
/-- the words that callees get by the side: nest mates' links, arrays of references -/
def gXw : Cond → Bool
  | .methodLinkNest .. => true
  | .arrayOver (.object _) => true
  | _ => false
def gXs (U : State) : Prop := ∀ w ∈ lw_tbl, gXw w = true → va_Nw w U
theorem gXs.moved {u U : State} (hW : u.WarmedH U.vm) (h : gXs u) : gXs U := by
  intro w hw hx
  have h1 := h w hw hx
  cases w <;> first | exact va_Nw.warmM hW h1 | (simp [gXw] at hx; done) | skip
  rename_i t
  cases t <;> first | exact va_AO.moved hW.alike h1 | (simp [gXw] at hx; done)
/-- a method's end -/
def gQ (E : gE) (r : Option Value) (h' : gH) : Array Value → State → Outcome → State → Prop := fun _ st o t =>
  o = .returned r ∧ gRep E t h' t.heap ∧ ∀ q : Nat, q < gB E → t.heap[q]? = st.heap[q]?
def gFree (E : gE) : Addr → Prop := fun q => gB E ≤ q
def gPre (E : gE) (h : gH) (U : State) : Prop := gRep E U h U.heap ∧ va_K (gD E) vwCl (gT E) U ∧ gXs U
def gCx (E : gE) (M : gMd) (p : Program) (s : State) (m : MethodId) (args : Array Value) (meth : Method) (c : Code) : Prop :=
  p.tables.exec = Jvm.exec ∧ c.code = gBy M ∧ meth.sig.returnType = gRt M ∧ c.maxLocals = gMl M ∧ s.vm.findClass (gY M).cls = some m.cls ∧ (∀ w ∈ lw_gd, w.before args s = true) ∧ gXs s ∧ meth.locks = false ∧ meth.name = (gY M).name ∧ va_K (gD E) vwCl (gT E) s
/-- the slot of a method's long: 1 in a method that returns one, 5 in the law (its calls need 8 frames) -/
def gLn (M : gMd) (k : Nat) : Bool := match gRt M with
  | some .long => k == 1
  | _ => gFr M == 8 && k == 5
/-- a slot for an int or a reference: none that a long's second half lies in -/
abbrev gKs (M : gMd) (k : Nat) : Prop := k < gMl M ∧ gLn M (k - 1) = false
/-- the locals that are known -/
def gLs (M : gMd) (lsA : Array Slot) (ls : List (Option Value)) : Prop := lsA.size = gMl M ∧ lv_wf lsA ∧ ∀ (k : Nat) (v : Value), ls[k]? = some (some v) → lsA[k]? = some (.val v) ∧ (v.category = 1 ∨ gLn M k = true)
/-- from here the method ends with r and h' -/
def gSem (E : gE) (M : gMd) (pc : Nat) (ls : List (Option Value)) (st : List Value) (h : gH) (r : Option Value) (h' : gH) : Prop :=
  ∀ (p : Program) (e : Env) (R : Room) (s : State) (m : MethodId) (args : Array Value) (below : List Frame) (meth : Method) (c : Code), gCx E M p s m args meth c → gFr M ≤ R.frames → gLo M ≤ R.locals →
    ∀ (mc ms cells slots : Nat) (H : Heap) (locs : List Loc) (lsA : Array Slot), mc ≤ R.cells → ms ≤ R.slots → cells + h'.2.1 = mc + h.2.1 → slots + h'.2.2 = ms + h.2.2 → gRep E s h H → (∀ q : Nat, q < gB E → H[q]? = s.heap[q]?) → (∀ q ∈ locs, gFree E q.base) → gLs M lsA ls →
      W p (gL E) e R s m args below meth c H locs cells slots (MQ below (gQ E r h') args s mc ms (gFree E)) (F0 m pc lsA st)
/-- from here the method ends so that Q holds -/
def Wp (E : gE) (M : gMd) (pc : Nat) (ls : List (Option Value)) (st : List Value) (h : gH) (Q : Option Value → gH → Prop) : Prop :=
  ∃ (r : Option Value) (h' : gH), Q r h' ∧ h.2.1 ≤ h'.2.1 ∧ h.2.2 ≤ h'.2.2 ∧ gSem E M pc ls st h r h'
def gDec (M : gMd) (pc : Nat) (i : Instr) (n : Nat) : Prop := decode (gBy M) pc = .ok (i, n)
section GL
variable {E : gE} {M : gMd} {pc : Nat} {ls : List (Option Value)} {st : List Value} {h : gH} {Q : Option Value → gH → Prop}
theorem Wp.mono {Q' : Option Value → gH → Prop} (hq : ∀ r h', Q r h' → Q' r h') (w : Wp E M pc ls st h Q) : Wp E M pc ls st h Q' := by
  obtain ⟨r, h', q, a, b, k⟩ := w
  exact ⟨r, h', hq r h' q, a, b, k⟩
/-- an instruction that changes neither heap nor locals -/
theorem Wp.pure {pc' : Nat} {st' : List Value} (k : ∀ (p : Program) (e : Env) (R : Room) (s : State) (m : MethodId) (args : Array Value) (below : List Frame) (meth : Method) (c : Code) (H : Heap) (locs : List Loc) (cells slots : Nat) (Qs : State → Prop) (lsA : Array Slot), gCx E M p s m args meth c → gLs M lsA ls →
      gRep E s h H → W p (gL E) e R s m args below meth c H locs cells slots Qs (F0 m pc' lsA st') → W p (gL E) e R s m args below meth c H locs cells slots Qs (F0 m pc lsA st)) (w : Wp E M pc' ls st' h Q) : Wp E M pc ls st h Q := by
  obtain ⟨r, h', q, a, b, k1⟩ := w
  exact ⟨r, h', q, a, b, fun p e R s m args below meth c C f1 f2 mc ms cells slots H locs lsA g1 g2 g3 g4 hR hB hl hL => k p e R s m args below meth c H locs cells slots _ lsA C hL hR (k1 p e R s m args below meth c C f1 f2 mc ms cells slots H locs lsA g1 g2 g3 g4 hR hB hl hL)⟩
/-- an instruction that changes the locals -/
theorem Wp.loc {pc' : Nat} {st' : List Value} {ls' : List (Option Value)} (k : ∀ (p : Program) (e : Env) (R : Room) (s : State) (m : MethodId) (args : Array Value) (below : List Frame) (meth : Method) (c : Code) (H : Heap) (locs : List Loc) (cells slots : Nat) (Qs : State → Prop) (lsA : Array Slot), gCx E M p s m args meth c → gLs M lsA ls →
      (∀ lsB, gLs M lsB ls' → W p (gL E) e R s m args below meth c H locs cells slots Qs (F0 m pc' lsB st')) → W p (gL E) e R s m args below meth c H locs cells slots Qs (F0 m pc lsA st)) (w : Wp E M pc' ls' st' h Q) : Wp E M pc ls st h Q := by
  obtain ⟨r, h', q, a, b, k1⟩ := w
  exact ⟨r, h', q, a, b, fun p e R s m args below meth c C f1 f2 mc ms cells slots H locs lsA g1 g2 g3 g4 hR hB hl hL => k p e R s m args below meth c H locs cells slots _ lsA C hL (fun lsB hB2 => k1 p e R s m args below meth c C f1 f2 mc ms cells slots H locs lsB g1 g2 g3 g4 hR hB hl hB2)⟩
theorem gLs.at {lsA : Array Slot} (hL : gLs M lsA ls) {k : Nat} {v : Value} (hk : ls[k]? = some (some v)) : lsA[k]? = some (.val v) := (hL.2.2 k v hk).1
def gPr (ls : List (Option Value)) : List (Nat × Value) := (List.range ls.length).filterMap fun k => (ls[k]?).bind fun o => o.map fun v => (k, v)
theorem gPr_mem {k : Nat} {v : Value} (hk : ls[k]? = some (some v)) : (k, v) ∈ gPr ls := by
  refine List.mem_filterMap.mpr ⟨k, List.mem_range.mpr (List.getElem?_eq_some_iff.mp hk).1, ?_⟩
  rw [hk]; rfl
theorem gPr_of {q : Nat × Value} (hq : q ∈ gPr ls) : ls[q.1]? = some (some q.2) := by
  obtain ⟨k, -, hk⟩ := List.mem_filterMap.mp hq
  cases h1 : ls[k]? with
  | none => rw [h1] at hk; cases hk
  | some o => cases o with
    | none => rw [h1] at hk; cases hk
    | some v => rw [h1] at hk; cases hk; exact h1
theorem gLs.has {lsA : Array Slot} (hL : gLs M lsA ls) : lv_has lsA (gMl M) (gPr ls) := ⟨hL.1, hL.2.1, fun q hq => hL.at (gPr_of hq)⟩
theorem gLs.stored {lsA lsB : Array Slot} (hL : gLs M lsA ls) {i : Nat} {v : Value} (hc : v.category = 1) (hi : gLn M (i - 1) = false) (hB : lv_has lsB (gMl M) ((i, v) :: (gPr ls).filter (fun q => !(q.1 == i) && !(q.1 + 1 == i && q.2.category == 2)))) : gLs M lsB (ls.set i (some v)) := by
  refine ⟨hB.1, hB.2.1, fun k w hk => ?_⟩
  by_cases hki : k = i
  · subst hki
    rw [List.getElem?_set] at hk
    rw [if_pos rfl] at hk
    split at hk
    · cases hk
      exact ⟨hB.2.2 (k, v) List.mem_cons_self, Or.inl hc⟩
    · cases hk
  · rw [List.getElem?_set, if_neg (fun e => hki e.symm)] at hk
    have h1 := hL.2.2 k w hk
    refine ⟨hB.2.2 (k, w) (List.mem_cons_of_mem _ (List.mem_filter.mpr ⟨gPr_mem hk, ?_⟩)), h1.2⟩
    rcases h1.2 with h2 | h2
    · simp [hki, h2]
    · have h3 : k + 1 ≠ i := fun e => by
        subst e
        rw [Nat.add_sub_cancel, h2] at hi
        cases hi
      simp [hki, h3]
theorem gLs.storedL {lsA lsB : Array Slot} (hL : gLs M lsA ls) {i : Nat} {x : Int64} (hi : gLn M i = true) (h0 : gLn M (i - 1) = false) (hn : ls[i + 1]? = some none) (hB : lv_has lsB (gMl M) ((i, Value.long x) :: (gPr ls).filter (fun q => !(q.1 == i) && (!(q.1 == i + 1) && !(q.1 + 1 == i && q.2.category == 2))))) : gLs M lsB (ls.set i (some (.long x))) := by
  refine ⟨hB.1, hB.2.1, fun k w hk => ?_⟩
  by_cases hki : k = i
  · subst hki
    rw [List.getElem?_set] at hk
    rw [if_pos rfl] at hk
    split at hk
    · cases hk
      exact ⟨hB.2.2 (k, Value.long x) List.mem_cons_self, Or.inr hi⟩
    · cases hk
  · rw [List.getElem?_set, if_neg (fun e => hki e.symm)] at hk
    have h1 := hL.2.2 k w hk
    have hki1 : k ≠ i + 1 := fun e => by
      subst e
      rw [hn] at hk
      cases hk
    refine ⟨hB.2.2 (k, w) (List.mem_cons_of_mem _ (List.mem_filter.mpr ⟨gPr_mem hk, ?_⟩)), h1.2⟩
    rcases h1.2 with h2 | h2
    · simp [hki, hki1, h2]
    · have h3 : k + 1 ≠ i := fun e => by
        subst e
        rw [Nat.add_sub_cancel, h2] at h0
        cases h0
      simp [hki, hki1, h3]
-- ----- constants, locals, stack, arithmetic
theorem wp_iconst {n : Int} (hd : gDec M pc (.iconst n) 1) (w : Wp E M (pc + 1) ls (.int (Int32.ofInt n) :: st) h Q) : Wp E M pc ls st h Q :=
  Wp.pure (fun p e R s m args below meth c H locs cells slots Qs lsA C _ _ k => lv_iconst C.1 C.2.1 hd rfl k) w
theorem wp_bipush {n : Int} (hd : gDec M pc (.bipush n) 2) (w : Wp E M (pc + 2) ls (.int ((Int8.ofInt n).toInt32) :: st) h Q) : Wp E M pc ls st h Q :=
  Wp.pure (fun p e R s m args below meth c H locs cells slots Qs lsA C _ _ k => lv_bipush C.1 C.2.1 hd rfl k) w
theorem wp_sipush {n : Int} (hd : gDec M pc (.sipush n) 3) (w : Wp E M (pc + 3) ls (.int ((Int16.ofInt n).toInt32) :: st) h Q) : Wp E M pc ls st h Q :=
  Wp.pure (fun p e R s m args below meth c H locs cells slots Qs lsA C _ _ k => lv_sipush C.1 C.2.1 hd rfl k) w
def gLd (own : String) (cp : Nat) (v : Int32) : Prop := Cond.constant own cp v ∈ lw_gd
theorem wp_ldc {cp : Nat} {v : Int32} (hd : gDec M pc (.ldc cp) 2) (hc : gLd (gY M).cls cp v) (w : Wp E M (pc + 2) ls (.int v :: st) h Q) : Wp E M pc ls st h Q :=
  Wp.pure (fun p e R s m args below meth c H locs cells slots Qs lsA C _ _ k => lv_ldc C.1 C.2.1 C.2.2.2.2.1 (C.2.2.2.2.2.1 _ hc) hd k) w
theorem wp_ldc_w {cp : Nat} {v : Int32} (hd : gDec M pc (.ldc_w cp) 3) (hc : gLd (gY M).cls cp v) (w : Wp E M (pc + 3) ls (.int v :: st) h Q) : Wp E M pc ls st h Q :=
  Wp.pure (fun p e R s m args below meth c H locs cells slots Qs lsA C _ _ k => lv_ldcw C.1 C.2.1 C.2.2.2.2.1 (C.2.2.2.2.2.1 _ hc) hd k) w
theorem wp_aconst_null (hd : gDec M pc .aconst_null 1) (w : Wp E M (pc + 1) ls (.null :: st) h Q) : Wp E M pc ls st h Q :=
  Wp.pure (fun p e R s m args below meth c H locs cells slots Qs lsA C _ _ k => lv_null C.1 C.2.1 hd k) w
theorem wp_iload_n {k : Fin 4} {x : Int32} (hd : gDec M pc (.iload_n k) 1) (hl : ls[(k : Nat)]? = some (some (.int x))) (w : Wp E M (pc + 1) ls (.int x :: st) h Q) : Wp E M pc ls st h Q :=
  Wp.pure (fun p e R s m args below meth c H locs cells slots Qs lsA C hL _ kk => lv_iload_n C.1 C.2.1 hd rfl (hL.at hl) kk) w
theorem wp_iload {k : Nat} {x : Int32} (hd : gDec M pc (.iload k) 2) (hl : ls[k]? = some (some (.int x))) (w : Wp E M (pc + 2) ls (.int x :: st) h Q) : Wp E M pc ls st h Q :=
  Wp.pure (fun p e R s m args below meth c H locs cells slots Qs lsA C hL _ kk => lv_iload C.1 C.2.1 hd (hL.at hl) kk) w
theorem wp_aload_n {k : Fin 4} {x : Nat} (hd : gDec M pc (.aload_n k) 1) (hl : ls[(k : Nat)]? = some (some (.ref x))) (w : Wp E M (pc + 1) ls (.ref x :: st) h Q) : Wp E M pc ls st h Q :=
  Wp.pure (fun p e R s m args below meth c H locs cells slots Qs lsA C hL _ kk => lv_aload_n C.1 C.2.1 hd rfl (hL.at hl) kk) w
theorem wp_aload {k : Nat} {x : Nat} (hd : gDec M pc (.aload k) 2) (hl : ls[k]? = some (some (.ref x))) (w : Wp E M (pc + 2) ls (.ref x :: st) h Q) : Wp E M pc ls st h Q :=
  Wp.pure (fun p e R s m args below meth c H locs cells slots Qs lsA C hL _ kk => lv_aload C.1 C.2.1 hd (hL.at hl) kk) w
theorem wp_aload_nN {k : Fin 4} (hd : gDec M pc (.aload_n k) 1) (hl : ls[(k : Nat)]? = some (some .null)) (w : Wp E M (pc + 1) ls (.null :: st) h Q) : Wp E M pc ls st h Q :=
  Wp.pure (fun p e R s m args below meth c H locs cells slots Qs lsA C hL _ kk => lv_aload_nN C.1 C.2.1 hd rfl (hL.at hl) kk) w
theorem wp_aloadN {k : Nat} (hd : gDec M pc (.aload k) 2) (hl : ls[k]? = some (some .null)) (w : Wp E M (pc + 2) ls (.null :: st) h Q) : Wp E M pc ls st h Q :=
  Wp.pure (fun p e R s m args below meth c H locs cells slots Qs lsA C hL _ kk => lv_aloadN C.1 C.2.1 hd (hL.at hl) kk) w
theorem wp_istore_n {k : Fin 4} {x : Int32} {ls' : List (Option Value)} (hd : gDec M pc (.istore_n k) 1) (hk : gKs M (k : Nat)) (hl : ls.set (k : Nat) (some (.int x)) = ls') (w : Wp E M (pc + 1) ls' st h Q) : Wp E M pc ls (.int x :: st) h Q :=
  Wp.loc (fun p e R s m args below meth c H locs cells slots Qs lsA C hL kk => lv_istore_n C.1 C.2.1 hd rfl hL.has hk.1 rfl (fun lsB hB => kk lsB (hl ▸ hL.stored rfl hk.2 hB))) w
theorem wp_istore {k : Nat} {x : Int32} {ls' : List (Option Value)} (hd : gDec M pc (.istore k) 2) (hk : gKs M k) (hl : ls.set k (some (.int x)) = ls') (w : Wp E M (pc + 2) ls' st h Q) : Wp E M pc ls (.int x :: st) h Q :=
  Wp.loc (fun p e R s m args below meth c H locs cells slots Qs lsA C hL kk => lv_istore C.1 C.2.1 hd hL.has hk.1 rfl (fun lsB hB => kk lsB (hl ▸ hL.stored rfl hk.2 hB))) w
theorem wp_astore_n {k : Fin 4} {x : Nat} {ls' : List (Option Value)} (hd : gDec M pc (.astore_n k) 1) (hk : gKs M (k : Nat)) (hl : ls.set (k : Nat) (some (.ref x)) = ls') (w : Wp E M (pc + 1) ls' st h Q) : Wp E M pc ls (.ref x :: st) h Q :=
  Wp.loc (fun p e R s m args below meth c H locs cells slots Qs lsA C hL kk => lv_astore_n C.1 C.2.1 hd rfl hL.has hk.1 rfl (fun lsB hB => kk lsB (hl ▸ hL.stored rfl hk.2 hB))) w
theorem wp_astore {k : Nat} {x : Nat} {ls' : List (Option Value)} (hd : gDec M pc (.astore k) 2) (hk : gKs M k) (hl : ls.set k (some (.ref x)) = ls') (w : Wp E M (pc + 2) ls' st h Q) : Wp E M pc ls (.ref x :: st) h Q :=
  Wp.loc (fun p e R s m args below meth c H locs cells slots Qs lsA C hL kk => lv_astore C.1 C.2.1 hd hL.has hk.1 rfl (fun lsB hB => kk lsB (hl ▸ hL.stored rfl hk.2 hB))) w
theorem wp_astore_nN {k : Fin 4} {ls' : List (Option Value)} (hd : gDec M pc (.astore_n k) 1) (hk : gKs M (k : Nat)) (hl : ls.set (k : Nat) (some .null) = ls') (w : Wp E M (pc + 1) ls' st h Q) : Wp E M pc ls (.null :: st) h Q :=
  Wp.loc (fun p e R s m args below meth c H locs cells slots Qs lsA C hL kk => lv_astore_nN C.1 C.2.1 hd rfl hL.has hk.1 rfl (fun lsB hB => kk lsB (hl ▸ hL.stored rfl hk.2 hB))) w
theorem wp_astoreN {k : Nat} {ls' : List (Option Value)} (hd : gDec M pc (.astore k) 2) (hk : gKs M k) (hl : ls.set k (some .null) = ls') (w : Wp E M (pc + 2) ls' st h Q) : Wp E M pc ls (.null :: st) h Q :=
  Wp.loc (fun p e R s m args below meth c H locs cells slots Qs lsA C hL kk => lv_astoreN C.1 C.2.1 hd hL.has hk.1 rfl (fun lsB hB => kk lsB (hl ▸ hL.stored rfl hk.2 hB))) w
theorem wp_iinc {k : Nat} {n : Int} {x : Int32} {ls' : List (Option Value)} (hd : gDec M pc (.iinc k n) 3) (hx : ls[k]? = some (some (.int x))) (hk : gKs M k) (hl : ls.set k (some (.int (x + Int32.ofInt n))) = ls') (w : Wp E M (pc + 3) ls' st h Q) : Wp E M pc ls st h Q :=
  Wp.loc (fun p e R s m args below meth c H locs cells slots Qs lsA C hL kk => by
    obtain ⟨j, hj⟩ := List.getElem?_of_mem (gPr_mem hx)
    exact lv_iinc C.1 C.2.1 hd hL.has hj rfl hk.1 rfl (fun lsB hB => kk lsB (hl ▸ hL.stored rfl hk.2 hB))) w
theorem wp_iadd {x y : Int32} (hd : gDec M pc .iadd 1) (w : Wp E M (pc + 1) ls (.int (x + y) :: st) h Q) : Wp E M pc ls (.int y :: .int x :: st) h Q :=
  Wp.pure (fun p e R s m args below meth c H locs cells slots Qs lsA C _ _ k => lv_iadd C.1 C.2.1 hd k) w
theorem wp_isub {x y : Int32} (hd : gDec M pc .isub 1) (w : Wp E M (pc + 1) ls (.int (x - y) :: st) h Q) : Wp E M pc ls (.int y :: .int x :: st) h Q :=
  Wp.pure (fun p e R s m args below meth c H locs cells slots Qs lsA C _ _ k => lv_isub C.1 C.2.1 hd k) w
theorem wp_imul {x y : Int32} (hd : gDec M pc .imul 1) (w : Wp E M (pc + 1) ls (.int (x * y) :: st) h Q) : Wp E M pc ls (.int y :: .int x :: st) h Q :=
  Wp.pure (fun p e R s m args below meth c H locs cells slots Qs lsA C _ _ k => lv_imul C.1 C.2.1 hd k) w
theorem wp_iand {x y : Int32} (hd : gDec M pc .iand 1) (w : Wp E M (pc + 1) ls (.int (x &&& y) :: st) h Q) : Wp E M pc ls (.int y :: .int x :: st) h Q :=
  Wp.pure (fun p e R s m args below meth c H locs cells slots Qs lsA C _ _ k => lv_iand C.1 C.2.1 hd k) w
theorem wp_ixor {x y : Int32} (hd : gDec M pc .ixor 1) (w : Wp E M (pc + 1) ls (.int (x ^^^ y) :: st) h Q) : Wp E M pc ls (.int y :: .int x :: st) h Q :=
  Wp.pure (fun p e R s m args below meth c H locs cells slots Qs lsA C _ _ k => lv_ixor C.1 C.2.1 hd k) w
theorem wp_idiv {x y : Int32} (hd : gDec M pc .idiv 1) (hne : ¬ y = 0) (w : Wp E M (pc + 1) ls (.int (x / y) :: st) h Q) : Wp E M pc ls (.int y :: .int x :: st) h Q :=
  Wp.pure (fun p e R s m args below meth c H locs cells slots Qs lsA C _ _ k => lv_idiv C.1 C.2.1 hd hne k) w
theorem gRem (x y : Int32) : x - x / y * y = x % y := Int32.toInt_inj.mp (by rw [rem_toInt, Int32.toInt_mod])
theorem wp_irem {x y : Int32} (hd : gDec M pc .irem 1) (hne : ¬ y = 0) (w : Wp E M (pc + 1) ls (.int (x % y) :: st) h Q) : Wp E M pc ls (.int y :: .int x :: st) h Q :=
  Wp.pure (fun p e R s m args below meth c H locs cells slots Qs lsA C _ _ k => lv_irem C.1 C.2.1 hd hne (by rw [gRem]; exact k)) w
theorem wp_ineg {x : Int32} (hd : gDec M pc .ineg 1) (w : Wp E M (pc + 1) ls (.int (-x) :: st) h Q) : Wp E M pc ls (.int x :: st) h Q :=
  Wp.pure (fun p e R s m args below meth c H locs cells slots Qs lsA C _ _ k => lv_ineg C.1 C.2.1 hd k) w
theorem wp_i2c {x : Int32} (hd : gDec M pc .i2c 1) (w : Wp E M (pc + 1) ls (.int ((x.toUInt32 % 65536).toInt32) :: st) h Q) : Wp E M pc ls (.int x :: st) h Q :=
  Wp.pure (fun p e R s m args below meth c H locs cells slots Qs lsA C _ _ k => lv_i2c C.1 C.2.1 hd rfl k) w
theorem wp_dup {v : Value} (hd : gDec M pc .dup 1) (hv : v.category = 1) (w : Wp E M (pc + 1) ls (v :: v :: st) h Q) : Wp E M pc ls (v :: st) h Q :=
  Wp.pure (fun p e R s m args below meth c H locs cells slots Qs lsA C _ _ k => lv_dup C.1 C.2.1 hd hv k) w
theorem wp_dup2 {v u : Value} (hd : gDec M pc .dup2 1) (hv : v.category = 1) (hu : u.category = 1) (w : Wp E M (pc + 1) ls (v :: u :: v :: u :: st) h Q) : Wp E M pc ls (v :: u :: st) h Q :=
  Wp.pure (fun p e R s m args below meth c H locs cells slots Qs lsA C _ _ k => lv_dup2_11 C.1 C.2.1 hd hv hu k) w
theorem wp_pop {v : Value} (hd : gDec M pc .pop 1) (hv : v.category = 1) (w : Wp E M (pc + 1) ls st h Q) : Wp E M pc ls (v :: st) h Q :=
  Wp.pure (fun p e R s m args below meth c H locs cells slots Qs lsA C _ _ k => lv_pop C.1 C.2.1 hd hv k) w
end GL
