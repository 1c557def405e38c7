/-! ===== what the start gives ===== -/
section S80
variable {E : gE} {B S : Nat} {h0 h : gH} {X : Nat → SC} {T : TC} {i : Nat} {Y : SC} {F t : Int → Int} {A : Nat → Nat} {N : Nat} {V : Nat → Int → Int} {Q : Option Value → gH → Prop}
theorem same_forget {s u : State} {Ls : List Loc} {k n k' n' : Nat} (h : s.sameButNew u Ls k n) (hL : ∀ q ∈ Ls, s.heap.size ≤ q.base) (hk : k ≤ k') (hn : n ≤ n') : s.sameButNew u [] k' n' := by
  obtain ⟨a1, a2, a3, a4, a5, a6⟩ := h
  refine ⟨a1, a2, by omega, a4, by omega, fun a c hc => ?_⟩
  obtain ⟨c', b1, b2, b3, b4⟩ := a6 a c hc
  refine ⟨c', b1, b2, b3, fun i _ => b4 i fun hm => ?_⟩
  have h1 : s.heap.size ≤ a := hL _ hm
  have h2 := (Array.getElem?_eq_some_iff.mp hc).1
  omega
theorem gd_tbl {w : Cond} (h : w ∈ lw_gd) : w ∈ lw_tbl := (List.mem_filter.mp h).1
/-- a class that can be made is known -/
theorem gNw.known {own : String} {cp ci n : Nat} {s : State} {args : Array Value} (h : gNw own cp ci n) (hts : ∀ w ∈ lw_tbl, w.before args s = true) : ∀ q : vw_C, vwCl[ci]? = some q → ∃ z : ClassId × (Nat → Nat), u_Kn s q.1 q.2.1 q.2.2 z.1 z.2 := by
  obtain ⟨C, T, t0, e1, e2, e3, e4, e5, e6⟩ := h
  intro q hq
  cases hq.symm.trans e1
  obtain ⟨cC, iS, hk⟩ := u_known (C := C) (T := T) (N := n) hts (fun w hw => gd_tbl (e2 w hw)) (hts _ (gd_tbl e5))
  exact ⟨(cC, iS), hk⟩
theorem all_known {s : State} {args : Array Value} (hts : ∀ w ∈ lw_tbl, w.before args s = true) : ∃ D : va_G, ∀ (ci : Nat) (q : vw_C), vwCl[ci]? = some q → u_Kn s q.1 q.2.1 q.2.2 (D.1 ci) (D.2 ci) := by
  obtain ⟨z0, -⟩ := w_St_21.known hts _ rfl
  have h : ∀ ci : Nat, ∃ z : ClassId × (Nat → Nat), ∀ q : vw_C, vwCl[ci]? = some q → u_Kn s q.1 q.2.1 q.2.2 z.1 z.2 := by
    intro ci
    cases hc : vwCl[ci]? with
    | none => exact ⟨z0, fun q hq => by cases hq⟩
    | some q =>
      have h9 : ci < 8 := by
        have := (List.getElem?_eq_some_iff.mp hc).1
        exact this
      have hz : ∃ z : ClassId × (Nat → Nat), u_Kn s q.1 q.2.1 q.2.2 z.1 z.2 := by
        rcases (show ci = 0 ∨ ci = 1 ∨ ci = 2 ∨ ci = 3 ∨ ci = 4 ∨ ci = 5 ∨ ci = 6 ∨ ci = 7 by omega) with rfl | rfl | rfl | rfl | rfl | rfl | rfl | rfl
        · exact w_St_21.known hts q hc
        · exact w_Yt_23.known hts q hc
        · exact w_Rk_9.known hts q hc
        · exact w_St_28.known hts q hc
        · exact w_St_9.known hts q hc
        · exact w_Yt_7.known hts q hc
        · exact w_Yt_30.known hts q hc
        · exact w_Lw_13.known hts q hc
      obtain ⟨z, hz⟩ := hz
      exact ⟨z, fun q2 hq => by cases hq; exact hz⟩
  obtain ⟨f, hf⟩ := Classical.axiomOfChoice h
  exact ⟨(fun ci => (f ci).1, fun ci => (f ci).2), hf⟩
/-- an array's class: of ints or chars -/
theorem arr_p {ty : FieldType} {s : State} {args : Array Value} (h : (Cond.arrayClass ty).before args s = true) : ∃ cA : ClassId, ArrOfT s cA ty ∧ s.vm.findClass ("[" ++ ty.toString) = some cA := by
  obtain ⟨cA, kA, comp, h1, h2, h3⟩ := Cond.arrayClass_spec h
  exact ⟨cA, fun n z => ⟨fun k q => (by cases q), kA, h2, comp, h3⟩, h1⟩
/-- an array's class: of references -/
theorem arr_o {C : String} {s : State} {args : Array Value} (h : (Cond.arrayOver (.object C)).before args s = true) : ∃ cA : ClassId, ArrOfT s cA (.object C) ∧ va_RA s cA (.object C) := by
  obtain ⟨comp, cA, kA, h1, h2, h3, h4, h5⟩ := Cond.arrayOver_spec h
  exact ⟨cA, fun n z => ⟨fun k q => (by cases q), kA, h3, comp, h4⟩, kA, comp, h3, h4, h1, h5⟩
theorem gXs.of {s : State} {args : Array Value} (hts : ∀ w ∈ lw_tbl, w.before args s = true) : gXs s := fun w hw hg => by
  cases w <;> first | exact va_Nw.of rfl (hts _ hw) | (simp [gXw] at hg; done) | skip
  rename_i ty
  cases ty <;> first | exact va_AO.of (hts _ hw) | (simp [gXw] at hg; done)
end S80
