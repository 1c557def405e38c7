/-! ===== the logic, on: branches, heap, calls, ends ===== -/
section GM
variable {E : gE} {M : gMd} {pc : Nat} {ls : List (Option Value)} {st : List Value} {h : gH} {Q : Option Value → gH → Prop}
theorem wp_goto {off : Int} {tgt : Nat} (hd : gDec M pc (.goto off) 3) (ht : (pc : Int) + off = (tgt : Int)) (w : Wp E M tgt ls st h Q) : Wp E M pc ls st h Q :=
  Wp.pure (fun p e R s m args below meth c H locs cells slots Qs lsA C _ _ k => lv_goto C.1 C.2.1 hd ht k) w
theorem wp_if_eq {x : Int32} {off : Int} {tgt : Nat} (hd : gDec M pc (.ifCond .eq off) 3) (ht : (pc : Int) + off = (tgt : Int)) (kt : x = 0 → Wp E M tgt ls st h Q) (kf : ¬ x = 0 → Wp E M (pc + 3) ls st h Q) : Wp E M pc ls (.int x :: st) h Q := by
  by_cases hP : x = 0
  · exact Wp.pure (fun p e R s m args below meth c H locs cells slots Qs lsA C _ _ k => lv_if_eq C.1 C.2.1 hd ht (fun _ => k) (fun z => absurd hP z)) (kt hP)
  · exact Wp.pure (fun p e R s m args below meth c H locs cells slots Qs lsA C _ _ k => lv_if_eq C.1 C.2.1 hd ht (fun z => absurd z hP) (fun _ => k)) (kf hP)
theorem wp_if_ne {x : Int32} {off : Int} {tgt : Nat} (hd : gDec M pc (.ifCond .ne off) 3) (ht : (pc : Int) + off = (tgt : Int)) (kt : ¬ x = 0 → Wp E M tgt ls st h Q) (kf : x = 0 → Wp E M (pc + 3) ls st h Q) : Wp E M pc ls (.int x :: st) h Q := by
  by_cases hP : x = 0
  · exact Wp.pure (fun p e R s m args below meth c H locs cells slots Qs lsA C _ _ k => lv_if_ne C.1 C.2.1 hd ht (fun z => absurd hP z) (fun _ => k)) (kf hP)
  · exact Wp.pure (fun p e R s m args below meth c H locs cells slots Qs lsA C _ _ k => lv_if_ne C.1 C.2.1 hd ht (fun _ => k) (fun z => absurd z hP)) (kt hP)
theorem wp_if_lt {x : Int32} {off : Int} {tgt : Nat} (hd : gDec M pc (.ifCond .lt off) 3) (ht : (pc : Int) + off = (tgt : Int)) (kt : x < 0 → Wp E M tgt ls st h Q) (kf : ¬ x < 0 → Wp E M (pc + 3) ls st h Q) : Wp E M pc ls (.int x :: st) h Q := by
  by_cases hP : x < 0
  · exact Wp.pure (fun p e R s m args below meth c H locs cells slots Qs lsA C _ _ k => lv_if_lt C.1 C.2.1 hd ht (fun _ => k) (fun z => absurd hP z)) (kt hP)
  · exact Wp.pure (fun p e R s m args below meth c H locs cells slots Qs lsA C _ _ k => lv_if_lt C.1 C.2.1 hd ht (fun z => absurd z hP) (fun _ => k)) (kf hP)
theorem wp_if_ge {x : Int32} {off : Int} {tgt : Nat} (hd : gDec M pc (.ifCond .ge off) 3) (ht : (pc : Int) + off = (tgt : Int)) (kt : 0 ≤ x → Wp E M tgt ls st h Q) (kf : ¬ 0 ≤ x → Wp E M (pc + 3) ls st h Q) : Wp E M pc ls (.int x :: st) h Q := by
  by_cases hP : 0 ≤ x
  · exact Wp.pure (fun p e R s m args below meth c H locs cells slots Qs lsA C _ _ k => lv_if_ge C.1 C.2.1 hd ht (fun _ => k) (fun z => absurd hP z)) (kt hP)
  · exact Wp.pure (fun p e R s m args below meth c H locs cells slots Qs lsA C _ _ k => lv_if_ge C.1 C.2.1 hd ht (fun z => absurd z hP) (fun _ => k)) (kf hP)
theorem wp_if_gt {x : Int32} {off : Int} {tgt : Nat} (hd : gDec M pc (.ifCond .gt off) 3) (ht : (pc : Int) + off = (tgt : Int)) (kt : 0 < x → Wp E M tgt ls st h Q) (kf : ¬ 0 < x → Wp E M (pc + 3) ls st h Q) : Wp E M pc ls (.int x :: st) h Q := by
  by_cases hP : 0 < x
  · exact Wp.pure (fun p e R s m args below meth c H locs cells slots Qs lsA C _ _ k => lv_if_gt C.1 C.2.1 hd ht (fun _ => k) (fun z => absurd hP z)) (kt hP)
  · exact Wp.pure (fun p e R s m args below meth c H locs cells slots Qs lsA C _ _ k => lv_if_gt C.1 C.2.1 hd ht (fun z => absurd z hP) (fun _ => k)) (kf hP)
theorem wp_if_le {x : Int32} {off : Int} {tgt : Nat} (hd : gDec M pc (.ifCond .le off) 3) (ht : (pc : Int) + off = (tgt : Int)) (kt : x ≤ 0 → Wp E M tgt ls st h Q) (kf : ¬ x ≤ 0 → Wp E M (pc + 3) ls st h Q) : Wp E M pc ls (.int x :: st) h Q := by
  by_cases hP : x ≤ 0
  · exact Wp.pure (fun p e R s m args below meth c H locs cells slots Qs lsA C _ _ k => lv_if_le C.1 C.2.1 hd ht (fun _ => k) (fun z => absurd hP z)) (kt hP)
  · exact Wp.pure (fun p e R s m args below meth c H locs cells slots Qs lsA C _ _ k => lv_if_le C.1 C.2.1 hd ht (fun z => absurd z hP) (fun _ => k)) (kf hP)
theorem wp_icmp_eq {x y : Int32} {off : Int} {tgt : Nat} (hd : gDec M pc (.if_icmp .eq off) 3) (ht : (pc : Int) + off = (tgt : Int)) (kt : x = y → Wp E M tgt ls st h Q) (kf : ¬ x = y → Wp E M (pc + 3) ls st h Q) : Wp E M pc ls (.int y :: .int x :: st) h Q := by
  by_cases hP : x = y
  · exact Wp.pure (fun p e R s m args below meth c H locs cells slots Qs lsA C _ _ k => lv_icmp_eq C.1 C.2.1 hd ht (fun _ => k) (fun z => absurd hP z)) (kt hP)
  · exact Wp.pure (fun p e R s m args below meth c H locs cells slots Qs lsA C _ _ k => lv_icmp_eq C.1 C.2.1 hd ht (fun z => absurd z hP) (fun _ => k)) (kf hP)
theorem wp_icmp_ne {x y : Int32} {off : Int} {tgt : Nat} (hd : gDec M pc (.if_icmp .ne off) 3) (ht : (pc : Int) + off = (tgt : Int)) (kt : ¬ x = y → Wp E M tgt ls st h Q) (kf : x = y → Wp E M (pc + 3) ls st h Q) : Wp E M pc ls (.int y :: .int x :: st) h Q := by
  by_cases hP : x = y
  · exact Wp.pure (fun p e R s m args below meth c H locs cells slots Qs lsA C _ _ k => lv_icmp_ne C.1 C.2.1 hd ht (fun z => absurd hP z) (fun _ => k)) (kf hP)
  · exact Wp.pure (fun p e R s m args below meth c H locs cells slots Qs lsA C _ _ k => lv_icmp_ne C.1 C.2.1 hd ht (fun _ => k) (fun z => absurd z hP)) (kt hP)
theorem wp_icmp_lt {x y : Int32} {off : Int} {tgt : Nat} (hd : gDec M pc (.if_icmp .lt off) 3) (ht : (pc : Int) + off = (tgt : Int)) (kt : x < y → Wp E M tgt ls st h Q) (kf : ¬ x < y → Wp E M (pc + 3) ls st h Q) : Wp E M pc ls (.int y :: .int x :: st) h Q := by
  by_cases hP : x < y
  · exact Wp.pure (fun p e R s m args below meth c H locs cells slots Qs lsA C _ _ k => lv_icmp_lt C.1 C.2.1 hd ht (fun _ => k) (fun z => absurd hP z)) (kt hP)
  · exact Wp.pure (fun p e R s m args below meth c H locs cells slots Qs lsA C _ _ k => lv_icmp_lt C.1 C.2.1 hd ht (fun z => absurd z hP) (fun _ => k)) (kf hP)
theorem wp_icmp_ge {x y : Int32} {off : Int} {tgt : Nat} (hd : gDec M pc (.if_icmp .ge off) 3) (ht : (pc : Int) + off = (tgt : Int)) (kt : y ≤ x → Wp E M tgt ls st h Q) (kf : ¬ y ≤ x → Wp E M (pc + 3) ls st h Q) : Wp E M pc ls (.int y :: .int x :: st) h Q := by
  by_cases hP : y ≤ x
  · exact Wp.pure (fun p e R s m args below meth c H locs cells slots Qs lsA C _ _ k => lv_icmp_ge C.1 C.2.1 hd ht (fun _ => k) (fun z => absurd hP z)) (kt hP)
  · exact Wp.pure (fun p e R s m args below meth c H locs cells slots Qs lsA C _ _ k => lv_icmp_ge C.1 C.2.1 hd ht (fun z => absurd z hP) (fun _ => k)) (kf hP)
theorem wp_icmp_gt {x y : Int32} {off : Int} {tgt : Nat} (hd : gDec M pc (.if_icmp .gt off) 3) (ht : (pc : Int) + off = (tgt : Int)) (kt : y < x → Wp E M tgt ls st h Q) (kf : ¬ y < x → Wp E M (pc + 3) ls st h Q) : Wp E M pc ls (.int y :: .int x :: st) h Q := by
  by_cases hP : y < x
  · exact Wp.pure (fun p e R s m args below meth c H locs cells slots Qs lsA C _ _ k => lv_icmp_gt C.1 C.2.1 hd ht (fun _ => k) (fun z => absurd hP z)) (kt hP)
  · exact Wp.pure (fun p e R s m args below meth c H locs cells slots Qs lsA C _ _ k => lv_icmp_gt C.1 C.2.1 hd ht (fun z => absurd z hP) (fun _ => k)) (kf hP)
theorem wp_icmp_le {x y : Int32} {off : Int} {tgt : Nat} (hd : gDec M pc (.if_icmp .le off) 3) (ht : (pc : Int) + off = (tgt : Int)) (kt : x ≤ y → Wp E M tgt ls st h Q) (kf : ¬ x ≤ y → Wp E M (pc + 3) ls st h Q) : Wp E M pc ls (.int y :: .int x :: st) h Q := by
  by_cases hP : x ≤ y
  · exact Wp.pure (fun p e R s m args below meth c H locs cells slots Qs lsA C _ _ k => lv_icmp_le C.1 C.2.1 hd ht (fun _ => k) (fun z => absurd hP z)) (kt hP)
  · exact Wp.pure (fun p e R s m args below meth c H locs cells slots Qs lsA C _ _ k => lv_icmp_le C.1 C.2.1 hd ht (fun z => absurd z hP) (fun _ => k)) (kf hP)
theorem wp_ifnull {x : Nat} {off : Int} (hd : gDec M pc (.ifnull off) 3) (w : Wp E M (pc + 3) ls st h Q) : Wp E M pc ls (.ref x :: st) h Q :=
  Wp.pure (fun p e R s m args below meth c H locs cells slots Qs lsA C _ _ k => lv_ifnull C.1 C.2.1 hd k) w
theorem wp_ifnullN {off : Int} {tgt : Nat} (hd : gDec M pc (.ifnull off) 3) (ht : (pc : Int) + off = (tgt : Int)) (w : Wp E M tgt ls st h Q) : Wp E M pc ls (.null :: st) h Q :=
  Wp.pure (fun p e R s m args below meth c H locs cells slots Qs lsA C _ _ k => lv_ifnullN C.1 C.2.1 hd ht k) w
theorem wp_ifnonnull {x : Nat} {off : Int} {tgt : Nat} (hd : gDec M pc (.ifnonnull off) 3) (ht : (pc : Int) + off = (tgt : Int)) (w : Wp E M tgt ls st h Q) : Wp E M pc ls (.ref x :: st) h Q :=
  Wp.pure (fun p e R s m args below meth c H locs cells slots Qs lsA C _ _ k => lv_ifnonnull C.1 C.2.1 hd ht k) w
theorem wp_ifnonnullN {off : Int} (hd : gDec M pc (.ifnonnull off) 3) (w : Wp E M (pc + 3) ls st h Q) : Wp E M pc ls (.null :: st) h Q :=
  Wp.pure (fun p e R s m args below meth c H locs cells slots Qs lsA C _ _ k => lv_ifnonnullN C.1 C.2.1 hd k) w
theorem wp_tableOut {dflt lo hi : Int} {offs : Array Int} {len : Nat} {x : Int32} {tgt : Nat} (hd : gDec M pc (.tableswitch dflt lo hi offs) len) (hx : x.toInt < lo ∨ hi < x.toInt) (ht : (pc : Int) + dflt = (tgt : Int)) (w : Wp E M tgt ls st h Q) : Wp E M pc ls (.int x :: st) h Q :=
  Wp.pure (fun p e R s m args below meth c H locs cells slots Qs lsA C _ _ k => lv_tableOut C.1 C.2.1 hd hx ht k) w
theorem wp_tableIn {dflt lo hi : Int} {offs : Array Int} {len : Nat} {x : Int32} {off : Int} {tgt : Nat} (hd : gDec M pc (.tableswitch dflt lo hi offs) len) (h1 : ¬ x.toInt < lo) (h2 : ¬ hi < x.toInt) (ho : offs[(x.toInt - lo).toNat]? = some off) (ht : (pc : Int) + off = (tgt : Int)) (w : Wp E M tgt ls st h Q) : Wp E M pc ls (.int x :: st) h Q :=
  Wp.pure (fun p e R s m args below meth c H locs cells slots Qs lsA C _ _ k => lv_tableIn C.1 C.2.1 hd h1 h2 ho ht k) w
theorem wp_lookup {dflt : Int} {ps : Array (Int × Int)} {len : Nat} {x : Int32} {off : Int} {tgt : Nat} (hd : gDec M pc (.lookupswitch dflt ps) len) (hp : (ps.toList.zip (ps.toList.drop 1)).all (fun (a, next) => a.1 < next.1) = true) (ho : Op.lookupswitch.offset ps.toList dflt x.toInt = off) (ht : (pc : Int) + off = (tgt : Int)) (w : Wp E M tgt ls st h Q) : Wp E M pc ls (.int x :: st) h Q :=
  Wp.pure (fun p e R s m args below meth c H locs cells slots Qs lsA C _ _ k => lv_lookup C.1 C.2.1 hd hp ho ht k) w
-- ----- the heap
theorem Wp.put {a : Nat} {x : gC} {pc' : Nat} {st' : List Value} (ha : gB E ≤ a) (k : ∀ (p : Program) (e : Env) (R : Room) (s : State) (m : MethodId) (args : Array Value) (below : List Frame) (meth : Method) (c : Code) (H : Heap) (locs : List Loc) (cells slots : Nat) (Qs : State → Prop) (lsA : Array Slot), gFr M ≤ R.frames → gLo M ≤ R.locals → gCx E M p s m args meth c → gLs M lsA ls →
      gRep E s h H → (∀ (H1 : Heap) (L : List Loc), H1.size = H.size → (∀ q : Nat, q ≠ a → H1[q]? = H[q]?) → gAt E s a x H1 → (∀ q ∈ L, q.base = a) → W p (gL E) e R s m args below meth c H1 (locs ++ L) cells slots Qs (F0 m pc' lsA st')) → W p (gL E) e R s m args below meth c H locs cells slots Qs (F0 m pc lsA st)) (w : Wp E M pc' ls st' (gPut h a x) Q) : Wp E M pc ls st h Q := by
  obtain ⟨r, h', q, a1, b1, k1⟩ := w
  refine ⟨r, h', q, a1, b1, fun p e R s m args below meth c C f1 f2 mc ms cells slots H locs lsA g1 g2 g3 g4 hR hB hl hL => k p e R s m args below meth c H locs cells slots _ lsA f1 f2 C hL hR (fun H1 L z o hat hLb => ?_)⟩
  refine k1 p e R s m args below meth c C f1 f2 mc ms cells slots H1 (locs ++ L) lsA g1 g2 g3 g4 (hR.put z o hat) (fun q hq => (o q (Nat.ne_of_lt (Nat.lt_of_lt_of_le hq ha))).trans (hB q hq)) (fun q hq => ?_) hL
  rcases List.mem_append.mp hq with h1 | h1
  · exact hl q h1
  · show gB E ≤ q.base
    rw [hLb q h1]; exact ha
theorem Wp.push {x : gC} {n pc' : Nat} {st' : List Value} (k : ∀ (p : Program) (e : Env) (R : Room) (s : State) (m : MethodId) (args : Array Value) (below : List Frame) (meth : Method) (c : Code) (H : Heap) (locs : List Loc) (cells slots : Nat) (Qs : State → Prop) (lsA : Array Slot), gCx E M p s m args meth c → gLs M lsA ls →
      gRep E s h H → cells + 1 ≤ R.cells → slots + n ≤ R.slots → (∀ (H1 : Heap), H1.size = H.size + 1 → (∀ q : Nat, q < H.size → H1[q]? = H[q]?) → gAt E s H.size x H1 → W p (gL E) e R s m args below meth c H1 locs (cells + 1) (slots + n) Qs (F0 m pc' lsA st')) → W p (gL E) e R s m args below meth c H locs cells slots Qs (F0 m pc lsA st)) (w : Wp E M pc' ls st' (gPush h x n) Q) : Wp E M pc ls st h Q := by
  obtain ⟨r, h', q, a1, b1, k1⟩ := w
  have a2 : h.2.1 + 1 ≤ h'.2.1 := a1
  have b2 : h.2.2 + n ≤ h'.2.2 := b1
  refine ⟨r, h', q, by omega, by omega, fun p e R s m args below meth c C f1 f2 mc ms cells slots H locs lsA g1 g2 g3 g4 hR hB hl hL => k p e R s m args below meth c H locs cells slots _ lsA C hL hR (by omega) (by omega) (fun H1 z o hat => ?_)⟩
  refine k1 p e R s m args below meth c C f1 f2 mc ms (cells + 1) (slots + n) H1 locs lsA g1 g2 (by show cells + 1 + _ = mc + (h.2.1 + 1); omega) (by show slots + n + _ = ms + (h.2.2 + n); omega) (hR.push z o hat) (fun q hq => (o q ?_).trans (hB q hq)) hl hL
  have := hR.2.1
  rw [hR.1]
  omega
theorem Wp.pureR {pc' : Nat} {st' : List Value} (k : ∀ (p : Program) (e : Env) (R : Room) (s : State) (m : MethodId) (args : Array Value) (below : List Frame) (meth : Method) (c : Code) (H : Heap) (locs : List Loc) (cells slots : Nat) (Qs : State → Prop) (lsA : Array Slot), gFr M ≤ R.frames → gLo M ≤ R.locals → gCx E M p s m args meth c → gLs M lsA ls →
      gRep E s h H → W p (gL E) e R s m args below meth c H locs cells slots Qs (F0 m pc' lsA st') → W p (gL E) e R s m args below meth c H locs cells slots Qs (F0 m pc lsA st)) (w : Wp E M pc' ls st' h Q) : Wp E M pc ls st h Q := by
  obtain ⟨r, h', q, a, b, k1⟩ := w
  exact ⟨r, h', q, a, b, fun p e R s m args below meth c C f1 f2 mc ms cells slots H locs lsA g1 g2 g3 g4 hR hB hl hL => k p e R s m args below meth c H locs cells slots _ lsA f1 f2 C hL hR (k1 p e R s m args below meth c C f1 f2 mc ms cells slots H locs lsA g1 g2 g3 g4 hR hB hl hL)⟩
/-- a field's link in a class: which class of vwCl, which field, its type, whether it is final -/
def gFd (own : String) (cp ci k : Nat) (ty : FieldType) (fin : Bool) : Prop := ∃ (C : String) (T : u_T) (N : Nat) (t0 : Nat → FieldType), vwCl[ci]? = some (C, T, N) ∧ (∀ w ∈ u_ws C T N, w ∈ lw_gd) ∧ (∀ k, k < N → parseFieldDescriptor (T k).2.2.1 = some (t0 k)) ∧
  (∀ a, a < N → ∀ b, b < N → a ≠ b → (T a).2.1 ≠ (T b).2.1) ∧ k < N ∧ Cond.fieldLink own cp (T k).1 (T k).2.1 (T k).2.2.1 ∈ lw_gd ∧ t0 k = ty ∧ (T k).2.2.2 = fin
theorem gAt.obj {U : State} {a ci : Nat} {fs : List Value} {H : Heap} (hc : gAt E U a (.inl (ci, fs)) H) : va_P (gD E) vwCl [(a, .inr (ci, fs))] H := by
  obtain ⟨r, h1, h2, h3⟩ := hc
  intro k q hq
  match k, hq with
  | 0, hq => cases hq; exact ⟨r, h1, h3⟩
  | k + 1, hq => simp at hq
theorem wp_getfield {cp ci k a : Nat} {ty : FieldType} {fin : Bool} {fs : List Value} {v : Value} (hd : gDec M pc (.getfield cp) 3) (hf : gFd (gY M).cls cp ci k ty fin) (hh : h.1 a = some (.inl (ci, fs))) (hv : fs[k]? = some v) (w : Wp E M (pc + 3) ls (v :: st) h Q) : Wp E M pc ls (.ref a :: st) h Q := by
  obtain ⟨CN, T, N, t0, e1, e2, e3, e4, e5, e6, e7, e8⟩ := hf
  exact Wp.pure (fun p e R s m args below meth c H locs cells slots Qs lsA C _ hR kk => va_get (q0 := 0) C.1 C.2.1 C.2.2.2.2.2.1 e2 C.2.2.2.2.1 C.2.2.2.2.2.2.2.2.2 (hR.2.2 a _ hh).obj rfl e1 k e5 (C.2.2.2.2.2.1 _ e6) (fun _ z => z) hv hd kk) w
theorem wp_putfield {cp ci k a : Nat} {ty : FieldType} {fin : Bool} {fs : List Value} {v : Value} (hd : gDec M pc (.putfield cp) 3) (hf : gFd (gY M).cls cp ci k ty fin) (hh : h.1 a = some (.inl (ci, fs))) (ha : gB E ≤ a) (hn : narrow ty v = v) (hfit : fits ty v = true) (hfin : fin = false ∨ ((gY M).name = "<init>" ∧ ∀ q, vwCl[ci]? = some q → (q.2.1 k).1 = (gY M).cls))
    (w : Wp E M (pc + 3) ls st (gPut h a (.inl (ci, fs.set k v))) Q) : Wp E M pc ls (v :: .ref a :: st) h Q := by
  obtain ⟨CN, T, N, t0, e1, e2, e3, e4, e5, e6, e7, e8⟩ := hf
  refine Wp.put ha (fun p e R s m args below meth c H locs cells slots Qs lsA _ _ C _ hR kk => ?_) w
  obtain ⟨hx, hb, -, -, hown, hts, -, -, hname, hK⟩ := C
  have hap := va_apart (own := (gY M).cls) hts e2 t0 e3 e4 hK e1
  obtain ⟨r, h1, hlen, cell, q1, q2, q3, q4⟩ := hR.2.2 a _ hh
  have hr : r = (CN, T, N) := Option.some.inj (h1.symm.trans e1)
  subst hr
  obtain ⟨hS, hfc, kC, hkC, hkind⟩ := hK.1 ci _ e1
  obtain ⟨cf, kf, fi, f, hi, hsl⟩ := hS k e5
  have hlay := hts _ (e2 _ (u_in_lay e5))
  have hst := (u_facts hfc hkC (u_lays hts e2 e5) hi).1
  have hkl : k < fs.length := by rw [hlen]; exact e5
  have hty : parseFieldDescriptor (T k).2.2.1 = some ty := by rw [← e7]; exact e3 k e5
  have done : ∀ H' : Heap, H'[a]? = some (cell.setSlot f.slot v) → H'.size = H.size → (∀ q, q ≠ a → H'[q]? = H[q]?) → W p (gL E) e R s m args below meth c H' (locs ++ [⟨a, f.slot⟩]) cells slots Qs (F0 m (pc + 3) lsA st) := by
    intro H' i1 i2 i3
    rw [hsl] at i1
    refine kk H' _ i2 i3 ⟨_, e1, ?_, ?_⟩ (fun q hq => by rw [List.mem_singleton.mp hq])
    · rw [List.length_set]; exact hlen
    · exact t_OB.to (V := updV (vp_V fs) k v) ⟨_, i1, q2, q3, t_set q4 hap e5 v⟩ (fun j _ => vp_updV_set hkl v j)
  unfold u_lay at hlay
  cases fin with
  | false =>
    rw [if_neg (by rw [e8]; decide)] at hlay
    have h6 := u_store hfc hkC hkind hlay hi hty hn hfit
    exact W.putK hx hb (f := f) ⟨hown, hts _ e6, ⟨_, _, _, hi⟩, hst⟩ (by rw [q2]; exact h6) q1 q3 (by rw [hsl]; exact k2_hasslot (q4 k e5)) rfl rfl hd done
  | true =>
    rw [if_pos e8] at hlay
    obtain ⟨hin, hdecl0⟩ := hfin.resolve_left (by decide)
    have hdecl : (T k).1 = (gY M).cls := hdecl0 _ e1
    have hcf : m.cls = cf := by
      obtain ⟨_, _, c', _, _, _, -, -, hf', -, -, -, hown2, -⟩ := Cond.laysFinal_spec hlay
      have e1 : c' = cf := by have := hi.symm.trans hf'; simp at this; exact this.1.symm
      rw [hdecl] at hown2
      rw [← e1]; exact Option.some.inj (hown.symm.trans hown2)
    have h6 := u_fits hfc hkC hkind (Or.inr hlay) hi hty hn hfit
    exact W.putFinK hx hb hown (hts _ e6) hi hst hcf (hname.trans hin) (by rw [q2]; exact h6) q1 q3 (by rw [hsl]; exact k2_hasslot (q4 k e5)) rfl rfl hd done
/-- arrays: kinds of E's list -/
theorem gAt.arr {U : State} {a kd n : Nat} {f : Nat → Value} {H : Heap} (hc : gAt E U a (.inr (kd, n, f)) H) (hk : kd < 99) : ∃ q, (gT E)[kd]? = some q ∧ H[a]? = some (arrV q.1 n f) := by
  rcases hc with h | ⟨h0, -⟩
  · exact h
  · exact absurd h0 (Nat.ne_of_lt hk)
def gTy (E : gE) (kd : Nat) (ty : FieldType) : Prop := kd < 99 ∧ ∃ cA, (gT E)[kd]? = some (cA, ty)
theorem wp_iaload {a n : Nat} {f : Nat → Value} {i : Int32} (hd : gDec M pc .iaload 1) (ht : gTy E 0 .int) (hh : h.1 a = some (.inr (0, n, f))) (hin : vp_in i n) (w : Wp E M (pc + 1) ls (f i.toNatClampNeg :: st) h Q) : Wp E M pc ls (.int i :: .ref a :: st) h Q := by
  obtain ⟨cA, ht⟩ := ht.2
  have hlt : i.toNatClampNeg < n := Nat.not_le.mp fun q => hin (Or.inr q)
  refine Wp.pure (fun p e R s m args below meth c H locs cells slots Qs lsA C _ hR kk => ?_) w
  obtain ⟨q, h1, h2⟩ := (hR.2.2 a _ hh).arr (by decide)
  cases h1.symm.trans ht
  exact W.iald (v := f i.toNatClampNeg) C.1 C.2.1 h2 ((C.2.2.2.2.2.2.2.2.2.2 0 _ ht).1 n f) (fun q => by cases q) (by rw [arrV_size]; exact hin) (arrV_read _ _ hlt) rfl rfl hd kk
theorem wp_saload {a n : Nat} {f : Nat → Value} {i : Int32} (hd : gDec M pc .iaload 1) (hh : h.1 a = some (.inr (99, n, f))) (hin : vp_in i n) (hg : (gT E)[99]? = none) (w : Wp E M (pc + 1) ls (f i.toNatClampNeg :: st) h Q) : Wp E M pc ls (.int i :: .ref a :: st) h Q := by
  have hlt : i.toNatClampNeg < n := Nat.not_le.mp fun q => hin (Or.inr q)
  refine Wp.pure (fun p e R s m args below meth c H locs cells slots Qs lsA C _ hR kk => ?_) w
  rcases hR.2.2 a _ hh with ⟨q, h1, -⟩ | ⟨-, scr, h1, h2, h3, h4, h5⟩
  · rw [hg] at h1; cases h1
  · exact W.iald (v := f i.toNatClampNeg) C.1 C.2.1 h1 h2 h3 (by rw [h4]; exact hin) (h5 _ hlt) rfl rfl hd kk
theorem wp_caload {a n : Nat} {f : Nat → Value} {i : Int32} (hd : gDec M pc .caload 1) (ht : gTy E 1 .char) (hh : h.1 a = some (.inr (1, n, f))) (hin : vp_in i n) (w : Wp E M (pc + 1) ls (f i.toNatClampNeg :: st) h Q) : Wp E M pc ls (.int i :: .ref a :: st) h Q := by
  obtain ⟨cA, ht⟩ := ht.2
  have hlt : i.toNatClampNeg < n := Nat.not_le.mp fun q => hin (Or.inr q)
  refine Wp.pure (fun p e R s m args below meth c H locs cells slots Qs lsA C _ hR kk => ?_) w
  obtain ⟨q, h1, h2⟩ := (hR.2.2 a _ hh).arr (by decide)
  cases h1.symm.trans ht
  exact W.cald (v := f i.toNatClampNeg) C.1 C.2.1 h2 ((C.2.2.2.2.2.2.2.2.2.2 1 _ ht).1 n f) (fun q => by cases q) (by rw [arrV_size]; exact hin) (arrV_read _ _ hlt) rfl rfl hd kk
theorem wp_aaload {a n kd : Nat} {cn : String} {f : Nat → Value} {i : Int32} (hd : gDec M pc .aaload 1) (ht : gTy E kd (.object cn)) (hh : h.1 a = some (.inr (kd, n, f))) (hin : vp_in i n) (w : Wp E M (pc + 1) ls (f i.toNatClampNeg :: st) h Q) : Wp E M pc ls (.int i :: .ref a :: st) h Q := by
  obtain ⟨cA, ht'⟩ := ht.2
  have hlt : i.toNatClampNeg < n := Nat.not_le.mp fun q => hin (Or.inr q)
  refine Wp.pure (fun p e R s m args below meth c H locs cells slots Qs lsA C _ hR kk => ?_) w
  obtain ⟨q, h1, h2⟩ := (hR.2.2 a _ hh).arr ht.1
  cases h1.symm.trans ht'
  exact W.aald (v := f i.toNatClampNeg) (ty := .object cn) C.1 C.2.1 h2 ((C.2.2.2.2.2.2.2.2.2.2 kd _ ht').1 n f) rfl (fun q => by cases q) (by rw [arrV_size]; exact hin) (arrV_read _ _ hlt) rfl rfl hd kk
def gUp (f : Nat → Value) (k : Nat) (v : Value) : Nat → Value := fun j => if j = k then v else f j
theorem wp_iastore {a n : Nat} {f : Nat → Value} {i x : Int32} (hd : gDec M pc .iastore 1) (ht : gTy E 0 .int) (hh : h.1 a = some (.inr (0, n, f))) (ha : gB E ≤ a) (hin : vp_in i n) (w : Wp E M (pc + 1) ls st (gPut h a (.inr (0, n, gUp f i.toNatClampNeg (.int x)))) Q) : Wp E M pc ls (.int x :: .int i :: .ref a :: st) h Q := by
  obtain ⟨cA, ht⟩ := ht.2
  refine Wp.put ha (fun p e R s m args below meth c H locs cells slots Qs lsA _ _ C _ hR kk => ?_) w
  obtain ⟨q, h1, h2⟩ := (hR.2.2 a _ hh).arr (by decide)
  cases h1.symm.trans ht
  refine W.iast C.1 C.2.1 h2 ((C.2.2.2.2.2.2.2.2.2.2 0 _ ht).1 n f) (fun q => by cases q) (by rw [arrV_size]; exact hin) rfl rfl hd (fun H1 e1 z o => kk H1 _ z o (Or.inl ⟨_, ht, ?_⟩) (fun q hq => by rw [List.mem_singleton.mp hq]))
  rw [e1, arrV_store]
  rfl
theorem wp_castore {a n : Nat} {f : Nat → Value} {i x : Int32} (hd : gDec M pc .castore 1) (ht : gTy E 1 .char) (hh : h.1 a = some (.inr (1, n, f))) (ha : gB E ≤ a) (hin : vp_in i n) (hx : narrow .char (.int x) = .int x) (w : Wp E M (pc + 1) ls st (gPut h a (.inr (1, n, gUp f i.toNatClampNeg (.int x)))) Q) : Wp E M pc ls (.int x :: .int i :: .ref a :: st) h Q := by
  obtain ⟨cA, ht⟩ := ht.2
  refine Wp.put ha (fun p e R s m args below meth c H locs cells slots Qs lsA _ _ C _ hR kk => ?_) w
  obtain ⟨q, h1, h2⟩ := (hR.2.2 a _ hh).arr (by decide)
  cases h1.symm.trans ht
  refine W.cast C.1 C.2.1 h2 ((C.2.2.2.2.2.2.2.2.2.2 1 _ ht).1 n f) (fun q => by cases q) (by rw [arrV_size]; exact hin) rfl rfl hd (fun H1 e1 z o => kk H1 _ z o (Or.inl ⟨_, ht, ?_⟩) (fun q hq => by rw [List.mem_singleton.mp hq]))
  rw [e1, hx, arrV_store]
  rfl
theorem wp_aastore {a n kd v ci : Nat} {cn : String} {f : Nat → Value} {fs : List Value} {i : Int32} (hd : gDec M pc .aastore 1) (ht : gTy E kd (.object cn)) (hh : h.1 a = some (.inr (kd, n, f))) (ha : gB E ≤ a) (hv : h.1 v = some (.inl (ci, fs))) (hci : (vwCl[ci]?).map (fun q => q.1) = some cn) (hin : vp_in i n)
    (w : Wp E M (pc + 1) ls st (gPut h a (.inr (kd, n, gUp f i.toNatClampNeg (.ref v)))) Q) : Wp E M pc ls (.ref v :: .int i :: .ref a :: st) h Q := by
  obtain ⟨cA, ht'⟩ := ht.2
  have hlt : i.toNatClampNeg < n := Nat.not_le.mp fun q => hin (Or.inr q)
  have h0 : ¬ i < 0 := fun q => hin (Or.inl q)
  refine Wp.put ha (fun p e R s m args below meth c H locs cells slots Qs lsA _ _ C _ hR kk => ?_) w
  obtain ⟨q, h1, h2⟩ := (hR.2.2 a _ hh).arr ht.1
  cases h1.symm.trans ht'
  obtain ⟨r, hr, -, cellV, g1, g2, g3, -⟩ := hR.2.2 v _ hv
  have hK := C.2.2.2.2.2.2.2.2.2
  have hcn : r.1 = cn := by rw [hr] at hci; exact Option.some.inj hci
  have hcls := (hK.1 ci r hr).2
  rw [hcn] at hcls
  obtain ⟨kA, comp, k1, k2, k3, -⟩ := (hK.2 kd _ ht').2
  have hcomp : comp = (gD E).1 ci := Option.some.inj (k3.symm.trans hcls.1)
  subst hcomp
  obtain ⟨kC, hkC, -⟩ := hcls.2
  refine W.aast C.1 C.2.1 h2 (fun q h => by cases h) (fun h => by cases h) k1 k2 rfl hkC ⟨h0, by rw [arrV_size]; exact hlt⟩ g1 (fun q h => by rw [g3] at h; cases h) (by rw [g2]; exact hkC) (by rw [g2]; exact va_assign hcls) rfl rfl hd (fun H1 e1 z o => kk H1 _ z o (Or.inl ⟨_, ht', ?_⟩) (fun q hq => by rw [List.mem_singleton.mp hq]))
  rw [e1, arrV_store]
  rfl
theorem wp_arraylength {a n kd : Nat} {f : Nat → Value} (hd : gDec M pc .arraylength 1) (hk : kd < 99) (hh : h.1 a = some (.inr (kd, n, f))) (w : Wp E M (pc + 1) ls (.int (Int32.ofNat n) :: st) h Q) : Wp E M pc ls (.ref a :: st) h Q := by
  refine Wp.pure (fun p e R s m args below meth c H locs cells slots Qs lsA C _ hR kk => ?_) w
  obtain ⟨q, h1, h2⟩ := (hR.2.2 a _ hh).arr hk
  exact W.alen (n := Int32.ofNat n) C.1 C.2.1 h2 ((C.2.2.2.2.2.2.2.2.2.2 kd _ h1).1 n f) (by rw [arrV_size] <;> rfl) rfl rfl hd kk
theorem wp_slength {a n : Nat} {f : Nat → Value} (hd : gDec M pc .arraylength 1) (hh : h.1 a = some (.inr (99, n, f))) (hg : (gT E)[99]? = none) (w : Wp E M (pc + 1) ls (.int (Int32.ofNat n) :: st) h Q) : Wp E M pc ls (.ref a :: st) h Q := by
  refine Wp.pure (fun p e R s m args below meth c H locs cells slots Qs lsA C _ hR kk => ?_) w
  rcases hR.2.2 a _ hh with ⟨q, h1, -⟩ | ⟨-, scr, h1, h2, h3, h4, h5⟩
  · rw [hg] at h1; cases h1
  · exact W.alen (n := Int32.ofNat n) C.1 C.2.1 h1 h2 (by rw [h4] <;> rfl) rfl rfl hd kk
-- ----- what is made
def gNw (own : String) (cp ci n : Nat) : Prop := ∃ (C : String) (T : u_T) (t0 : Nat → FieldType), vwCl[ci]? = some (C, T, n) ∧ (∀ w ∈ u_ws C T n, w ∈ lw_gd) ∧ (∀ k, k < n → parseFieldDescriptor (T k).2.2.1 = some (t0 k)) ∧ Cond.classLink own cp C ∈ lw_gd ∧ Cond.instantiable C n ∈ lw_gd ∧ Cond.initialized C ∈ lw_gd
def gNf (ci n : Nat) (fs : List Value) : Prop := fs.length = n ∧ ∀ q, vwCl[ci]? = some q → ∀ j ty, j < n → parseFieldDescriptor (q.2.1 j).2.2.1 = some ty → defaultValue ty = vp_V fs j
theorem wp_new {cp ci n : Nat} {fs : List Value} (hd : gDec M pc (.new cp) 3) (hn : gNw (gY M).cls cp ci n) (hf : gNf ci n fs) (w : Wp E M (pc + 3) ls (.ref h.2.1 :: st) (gPush h (.inl (ci, fs)) n) Q) : Wp E M pc ls st h Q := by
  obtain ⟨CN, T, t0, e1, e2, e3, e4, e5, e6⟩ := hn
  refine Wp.push (fun p e R s m args below meth c H locs cells slots Qs lsA C _ hR r1 r2 kk => ?_) w
  have hK := C.2.2.2.2.2.2.2.2.2
  have hts := C.2.2.2.2.2.1
  have hKn := hK.1 ci _ e1
  refine W.newcK C.1 C.2.1 C.2.2.2.2.1 (hts _ e4) (hts _ e5) (hts _ e6) rfl hd r1 r2 hKn.2.1 rfl fun H1 kC hkC i1 z1 o1 => ?_
  have := kk H1 z1 o1 ⟨_, e1, hf.1, (u_born t0 hts e2 hKn hkC i1 e3).to (fun j hj => hf.2 _ e1 j _ hj (e3 j hj))⟩
  rw [← hR.1] at this
  exact this
theorem wp_newarray {aty : ArrayType} {kd N : Nat} {ty : FieldType} {n : Int32} (hd : gDec M pc (.newarray aty) 2) (hty : newarray.typeOf aty = ty) (ht : gTy E kd ty) (ha : Cond.arrayClass ty ∈ lw_gd) (hra : ∀ C, ty ≠ .object C) (hn : ¬ n < 0) (hN : n.toNatClampNeg = N) (hb : N * componentBytes ty ≤ 536870912)
    (w : Wp E M (pc + 2) ls (.ref h.2.1 :: st) (gPush h (.inr (kd, N, fun _ => defaultValue ty)) N) Q) : Wp E M pc ls (.int n :: st) h Q := by
  subst hty
  obtain ⟨cA, ht'⟩ := ht.2
  refine Wp.push (fun p e R s m args below meth c H locs cells slots Qs lsA C _ hR r1 r2 kk => ?_) w
  have hK := C.2.2.2.2.2.2.2.2.2
  refine va_newaK C.1 C.2.1 (C.2.2.2.2.2.1 _ ha) rfl hd rfl hn hN hb r1 r2 rfl fun H1 cB i1 z1 o1 hAr hNm => ?_
  have hra2 := (hK.2 kd _ ht').2
  have hcB : cB = cA := by
    have h2 : s.vm.findClass ("[" ++ (newarray.typeOf aty).toString) = some cA := by
      revert hra2 hra
      show _ → va_RA s cA (newarray.typeOf aty) → _
      cases aty <;> exact fun _ z => z
    exact Option.some.inj (hNm.symm.trans h2)
  subst hcB
  have := kk H1 z1 o1 (Or.inl ⟨_, ht', i1⟩)
  rw [← hR.1] at this
  exact this
theorem wp_anewarray {cp kd N : Nat} {cn : String} {n : Int32} (hd : gDec M pc (.anewarray cp) 3) (ht : gTy E kd (.object cn)) (hcl : Cond.classLink (gY M).cls cp cn ∈ lw_gd) (hov : Cond.arrayOver (.object cn) ∈ lw_tbl) (hn : ¬ n < 0) (hN : n.toNatClampNeg = N) (hb : N * 4 ≤ 536870912)
    (w : Wp E M (pc + 3) ls (.ref h.2.1 :: st) (gPush h (.inr (kd, N, fun _ => .null)) N) Q) : Wp E M pc ls (.int n :: st) h Q := by
  obtain ⟨cA, ht'⟩ := ht.2
  subst hN
  refine Wp.push (fun p e R s m args below meth c H locs cells slots Qs lsA C _ hR r1 r2 kk => ?_) w
  have hK := C.2.2.2.2.2.2.2.2.2
  refine W.anew C.1 C.2.1 C.2.2.2.2.1 (C.2.2.2.2.2.1 _ hcl) (va_AO.use (C.2.2.2.2.2.2.1 _ hov rfl)) rfl hd rfl hn hb r1 r2 fun cB kA comp f1 f2 f3 f4 => ?_
  obtain ⟨kA', comp', k1, k2, k3, k4⟩ := (hK.2 kd _ ht').2
  have hcB : cB = cA := Option.some.inj (f1.symm.trans k4)
  subst hcB
  have := kk (H.push { cls := cB, slots := Array.replicate n.toNatClampNeg .null, vm := .none }) (by simp) (fun q hq => by rw [Array.getElem?_push, if_neg (Nat.ne_of_lt hq)]) (Or.inl ⟨_, ht', by rw [← arrV_new]; simp⟩)
  rw [← hR.1] at this
  exact this
-- ----- ends
theorem wp_ireturn {v : Int32} {ty : FieldType} (hd : gDec M pc .ireturn 1) (hr : gRt M = some ty) (hn : narrow ty (.int v) = .int v) (hq : Q (some (.int v)) h) : Wp E M pc ls [.int v] h Q := by
  refine ⟨_, h, hq, Nat.le_refl _, Nat.le_refl _, fun p e R s m args below meth c C f1 f2 mc ms cells slots H locs lsA g1 g2 g3 g4 hR hB hl hL => ?_⟩
  obtain rfl : cells = mc := by omega
  obtain rfl : slots = ms := by omega
  exact W.zret C.1 C.2.1 (C.2.2.1.trans hr) hn (fun t ht hW => ⟨rfl, by rw [ht]; exact hR.moved hW.alike, fun q hq => by rw [ht]; exact hB q hq⟩) hl hd C.2.2.2.2.2.2.2.1
theorem wp_return (hd : gDec M pc .return_ 1) (hr : gRt M = none) (hq : Q none h) : Wp E M pc ls [] h Q := by
  refine ⟨_, h, hq, Nat.le_refl _, Nat.le_refl _, fun p e R s m args below meth c C f1 f2 mc ms cells slots H locs lsA g1 g2 g3 g4 hR hB hl hL => ?_⟩
  obtain rfl : cells = mc := by omega
  obtain rfl : slots = ms := by omega
  exact W.vret C.1 C.2.1 (C.2.2.1.trans hr) (fun t ht hW => ⟨rfl, by rw [ht]; exact hR.moved hW.alike, fun q hq => by rw [ht]; exact hB q hq⟩) hl hd C.2.2.2.2.2.2.2.1
theorem wp_areturn {v : Value} {ty : FieldType} (hd : gDec M pc .areturn 1) (hr : gRt M = some ty) (hty : (∃ n, ty = .object n) ∨ ∃ t, ty = .array t) (hv : v = .null ∨ ∃ a, v = .ref a) (hq : Q (some v) h) : Wp E M pc ls [v] h Q := by
  refine ⟨_, h, hq, Nat.le_refl _, Nat.le_refl _, fun p e R s m args below meth c C f1 f2 mc ms cells slots H locs lsA g1 g2 g3 g4 hR hB hl hL => ?_⟩
  obtain rfl : cells = mc := by omega
  obtain rfl : slots = ms := by omega
  exact W.aret C.1 C.2.1 (C.2.2.1.trans hr) hty hv (fun t ht hW => ⟨rfl, by rw [ht]; exact hR.moved hW.alike, fun q hq => by rw [ht]; exact hB q hq⟩) hl hd C.2.2.2.2.2.2.2.1
end GM
