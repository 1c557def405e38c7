/-! ===== the world that is made ===== -/
section S69
variable {E : gE} {B S : Nat} {h0 h : gH} {X : Nat → SC} {T : TC} {i : Nat} {Y : SC} {F t : Int → Int} {A : Nat → Nat} {N : Nat} {V : Nat → Int → Int} {Q : Option Value → gH → Prop}
variable {E : gE} {M : gMd} {pc : Nat} {ls : List (Option Value)} {st : List Value} {h g : gH} {Q : Option Value → gH → Prop} {s c : Nat} {l : List gC} {B S : Nat} {h0 : gH} {X : Nat → SC} {T : TC} {F t : Int → Int} {A : Nat → Nat} {N : Nat} {V : Nat → Int → Int}
/-- the cells l lie from s on -/
def CB (g : gH) (s : Nat) (l : List gC) : Prop := ∀ (o : Nat) (x : gC), l[o]? = some x → g.1 (s + o) = some x
theorem CB.lf {l' : List gC} (hC : CB g s (l ++ l')) : CB g s l := fun o x ho => hC o x (by
  have hlt := (List.getElem?_eq_some_iff.mp ho).1
  rw [List.getElem?_append_left hlt]
  exact ho)
theorem CB.rt {l' : List gC} {k : Nat} (hC : CB g s (l ++ l')) (hl : l.length = k) : CB g (s + k) l' := fun o x ho => by
  have := hC (k + o) x (by
    rw [List.getElem?_append_right (by omega), show k + o - l.length = o by omega]
    exact ho)
  rwa [← Nat.add_assoc] at this
theorem CB.tl {x : gC} (hC : CB g s (x :: l)) : CB g (s + 1) l := CB.rt (l := [x]) hC rfl
theorem CB.hi {s0 : Nat} : ∀ {n : Nat}, CB g s (hiS s0 n) → s = s0 + 2 → ∀ k : Nat, k < n → CB g (s0 + (2 + 85 * k)) (stL (s0 + (2 + 85 * k)))
  | 0, _, _, k, hk => absurd hk (by omega)
  | n + 1, hC, hs, k, hk => by
    have hC : CB g s (hiS s0 n ++ stL (s0 + (2 + 85 * n))) := hC
    by_cases q : k = n
    · subst q
      have := hC.rt (hiS_len s0 k)
      rwa [show s + 85 * k = s0 + (2 + 85 * k) by omega] at this
    · exact CB.hi hC.lf hs k (by omega)
theorem cut_z {n : Int} {f : Int → Int} (h : ∀ j : Int, 0 ≤ j → j < n → f j = 0) : cut n f = fun _ => 0 := by
  funext j
  unfold cut
  by_cases q : 0 ≤ j ∧ j < n
  · rw [if_pos q]
    exact h j q.1 q.2
  · exact if_neg q
theorem Fz_0 {j : Int} (h3 : j ≠ 3) (h4 : j ≠ 4) : Fz j = 0 := by
  unfold Fz
  rw [zup_ne _ _ h4, zup_ne _ _ h3]
theorem Fz_3 : Fz 3 = 2 := rfl
theorem Fz_4 : Fz 4 = 30 := rfl
/-- a state as it is made -/
def Xz (s : Nat) : SC := (Fz, fun _ => -1, fun j => s + 3 + j, 16, fun _ _ => 0)
theorem st_xS (hC : CB g s (stL s)) {o : Nat} {x : gC} (ho : o < 85) (hx : xS s (Xz s) o = some x) : g.1 (s + o) = some x := by
  have hF : CB g s (stF s (fun j => .ref (s + 15 + 14 * j)) (zup (zup (fun _ => 0) 1 2) 2 30)) := CB.lf (l' := rkS s 5) hC
  by_cases h15 : o < 15
  · have e : o = 0 ∨ o = 1 ∨ o = 2 ∨ (3 ≤ o ∧ o < 8) ∨ o = 8 ∨ o = 9 ∨ o = 10 ∨ o = 11 ∨ o = 12 ∨ o = 13 ∨ o = 14 := by omega
    rcases e with rfl | rfl | rfl | e | rfl | rfl | rfl | rfl | rfl | rfl | rfl
    · cases hx
      exact hF 0 _ rfl
    · cases hx
      exact hF 1 _ rfl
    · cases hx
      exact hF 2 _ rfl
    · unfold xS at hx
      rw [if_neg (by omega), if_neg (by omega), if_neg (by omega), if_pos (by omega)] at hx
      cases hx
    · cases hx
      exact hF 8 _ rfl
    · cases hx
      rw [show cut 10 (fun j => xR (Xz s) (529 + 3 * j)) = fun _ => 0 from cut_z fun j j0 j1 => Fz_0 (by omega) (by omega)]
      exact hF 9 _ rfl
    · cases hx
      rw [show cut 10 (fun j => xR (Xz s) (529 + 3 * j + 1)) = fun _ => 0 from cut_z fun j j0 j1 => Fz_0 (by omega) (by omega)]
      exact hF 10 _ rfl
    · cases hx
      rw [show cut 10 (fun j => xR (Xz s) (529 + 3 * j + 2)) = fun _ => 0 from cut_z fun j j0 j1 => Fz_0 (by omega) (by omega)]
      exact hF 11 _ rfl
    · cases hx
      rw [show cut 5 (fun j => xR (Xz s) (tmx j)) = fun _ => 0 from cut_z fun j j0 j1 => by
        have := tmx_b j0 j1
        exact Fz_0 (by omega) (by omega)]
      exact hF 12 _ rfl
    · cases hx
      rw [show cut 3 (fun j => xR (Xz s) (2 + j)) = zup (zup (fun _ => 0) 1 2) 2 30 by
        funext j
        unfold cut zup
        by_cases q : 0 ≤ j ∧ j < 3
        · rw [if_pos q]
          rcases (show j = 0 ∨ j = 1 ∨ j = 2 by omega) with rfl | rfl | rfl <;> rfl
        · rw [if_neg q, if_neg (by omega), if_neg (by omega)]]
      exact hF 13 _ rfl
    · cases hx
      rw [show cut 20 (fun j => xR (Xz s) (509 + j)) = fun _ => 0 from cut_z fun j j0 j1 => Fz_0 (by omega) (by omega)]
      exact hF 14 _ rfl
  · have hR : CB g (s + 15) (rkS s 5) := CB.rt (l := stF s (fun j => .ref (s + 15 + 14 * j)) (zup (zup (fun _ => 0) 1 2) 2 30)) hC rfl
    obtain ⟨k, i, hk, hi, rfl⟩ : ∃ k i : Nat, k < 5 ∧ i < 14 ∧ o = 15 + (14 * k + i) := ⟨(o - 15) / 14, (o - 15) % 14, by omega, by omega, by omega⟩
    have hq := fun y (hy : (rkL (s + 15 + 14 * k) k)[i]? = some y) => hR (14 * k + i) y (by rw [rkS_at s hk hi]; exact hy)
    rw [← Nat.add_assoc]
    refine hq x ?_
    rcases (show i = 0 ∨ i = 1 ∨ 2 ≤ i by omega) with rfl | rfl | h2
    · rw [show 15 + (14 * k + 0) = 15 + 14 * k by omega, xS_rk s (Xz s) hk] at hx
      cases hx
      unfold rkC
      rw [show xR (Xz s) (14 + 3 * (k : Int) + 0) = 0 from Fz_0 (by omega) (by omega), show xR (Xz s) (14 + 3 * (k : Int) + 1) = 0 from Fz_0 (by omega) (by omega), show xR (Xz s) (14 + 3 * (k : Int) + 2) = 0 from Fz_0 (by omega) (by omega),
        show s + 16 + 14 * ((k : Int)).toNat = s + 15 + 14 * k + 1 by omega]
      rfl
    · rw [show 15 + (14 * k + 1) = 16 + 14 * k by omega, xS_ra s (Xz s) hk] at hx
      cases hx
      refine congrArg some (congrArg (fun f : Nat → Value => (.inr (3, 12, f) : gC)) (funext fun j => congrArg Value.ref ?_))
      show s + 15 + 14 * k + 2 + j = s + 17 + 14 * k + ((j : Nat) : Int).toNat
      omega
    · obtain ⟨m, rfl⟩ : ∃ m, i = m + 2 := ⟨i - 2, by omega⟩
      rw [show 15 + (14 * k + (m + 2)) = 17 + 14 * k + m by omega, xS_hk s (Xz s) hk (by omega)] at hx
      cases hx
      show (hkL k 12)[m]? = _
      rw [hkL_at _ (by omega)]
      unfold hkC
      have z : ∀ j : Int, 5 ≤ j → xR (Xz s) j = 0 := fun j hj => Fz_0 (by omega) (by omega)
      rw [z (29 + 8 * (12 * (k : Int) + (m : Int)) + 0) (by omega), z (29 + 8 * (12 * (k : Int) + (m : Int)) + 5) (by omega), z (29 + 8 * (12 * (k : Int) + (m : Int)) + 6) (by omega), z (29 + 8 * (12 * (k : Int) + (m : Int)) + 7) (by omega), z (29 + 8 * (12 * (k : Int) + (m : Int)) + 3) (by omega), z (29 + 8 * (12 * (k : Int) + (m : Int)) + 4) (by omega)]
      rfl
theorem st_ar (hC : CB g s (stL s)) {j : Nat} (hj : j < 5) : g.1 (s + 3 + j) = some (gI 16 fun _ => 0) := by
  have hF : CB g s (stF s (fun j => .ref (s + 15 + 14 * j)) (zup (zup (fun _ => 0) 1 2) 2 30)) := CB.lf (l' := rkS s 5) hC
  rw [Nat.add_assoc]
  rcases (show j = 0 ∨ j = 1 ∨ j = 2 ∨ j = 3 ∨ j = 4 by omega) with rfl | rfl | rfl | rfl | rfl
  · exact hF 3 _ rfl
  · exact hF 4 _ rfl
  · exact hF 5 _ rfl
  · exact hF 6 _ rfl
  · exact hF 7 _ rfl
theorem yt_st {B : Nat} (hC : CB g B (ytL B)) {i : Nat} (hi : i < 6) : CB g (sA B i) (stL (sA B i)) := by
  have h1 : CB g (B + 1) ((((stL (B + 1) ++ stL (B + 86)) ++ hyL (B + 171)) ++ txL (B + 513)) ++ [gI 30 fun _ => 0]) := hC.tl
  have h2 : CB g (B + 1) (stL (B + 1) ++ stL (B + 86)) := h1.lf.lf.lf
  have h3 : CB g (B + 171) (hyL (B + 171)) := h1.lf.lf.rt (by rw [List.length_append, stL_len, stL_len])
  have h4 : CB g (B + 173) (hiS (B + 171) 4) := h3.tl.tl
  have h5 := fun k hk => CB.hi h4 (by omega) k hk
  rcases (show i = 0 ∨ i = 1 ∨ 2 ≤ i by omega) with rfl | rfl | q
  · exact h2.lf
  · have := h2.rt (stL_len _)
    exact this
  · have := h5 (i - 2) (by omega)
    have e : B + 171 + (2 + 85 * (i - 2)) = sA B i := by
      unfold sA
      rw [if_neg (by omega)]
      omega
    rwa [e] at this
/-- the world at its start -/
theorem CW.mk (hC : CB g B (ytL B)) (hz : g.2.1 = B + 517) : CW B g.2.2 g g (fun i => Xz (sA B i)) ((0, 0, 0, 0, 0), fun _ => 0, fun _ => 0, fun _ => 0) := by
  have h1 : CB g (B + 1) ((((stL (B + 1) ++ stL (B + 86)) ++ hyL (B + 171)) ++ txL (B + 513)) ++ [gI 30 fun _ => 0]) := hC.tl
  have h3 : CB g (B + 171) (hyL (B + 171)) := h1.lf.lf.rt (by rw [List.length_append, stL_len, stL_len])
  have h4 : CB g (B + 513) (txL (B + 513)) := h1.lf.rt (by rw [List.length_append, List.length_append, stL_len, stL_len, hyL_len])
  have h5 : CB g (B + 516) [gI 30 fun _ => 0] := h1.rt (by rw [List.length_append, List.length_append, List.length_append, stL_len, stL_len, hyL_len])
  refine ⟨fun o x hx => ?_, fun i o x hi ho hx => st_xS (yt_st hC hi) ho hx, fun i j hi hj => st_ar (yt_st hC hi) hj, fun i j hi hj => ?_, fun i j i' j' hi hj hi' hj' he => ?_, fun i hi => ?_, by omega, fun _ _ => rfl, ?_, Nat.le_add_right _ _⟩
  · rcases xO_o hx with rfl | rfl | q
    · cases hx
      exact hC 0 _ rfl
    · cases hx
      exact h3 0 _ rfl
    · rcases (show o = 172 ∨ o = 513 ∨ o = 514 ∨ o = 515 ∨ o = 516 by
        unfold xO at hx
        repeat' split at hx
        all_goals first | omega | cases hx) with rfl | rfl | rfl | rfl | rfl
      · cases hx
        have := h3 1 _ rfl
        refine Eq.trans this ?_
        refine congrArg some (congrArg (fun f : Nat → Value => (.inr (4, 4, f) : gC)) (funext fun j => congrArg Value.ref ?_))
        show B + 171 + (2 + 85 * j) = sA B (2 + ((j : Nat) : Int).toNat)
        unfold sA
        rw [if_neg (by omega)]
        omega
      · cases hx
        exact h4 0 _ rfl
      · cases hx
        exact h4 1 _ rfl
      · cases hx
        exact h4 2 _ rfl
      · cases hx
        exact h5 0 _ rfl
  · have hb := sA_b B hi
    refine ⟨Or.inl rfl, ?_⟩
    show sA B i + 3 + j < _
    omega
  · have he : sA B i + 3 + j = sA B i' + 3 + j' := he
    by_cases q : i = i'
    · subst q
      exact ⟨rfl, by omega⟩
    · have := sA_s B q
      omega
  · show 16 ≤ 16 ∧ 16 ≤ 6000
    omega
  · rw [hz]
    exact Nat.le_add_right _ _
theorem J.z : J 0 Fz := by
  have z : ∀ j : Int, 5 ≤ j → Fz j = 0 := fun j hj => Fz_0 (by omega) (by omega)
  refine ⟨fun j j0 j1 j2 => ?_, fun x x0 x1 h => ?_, fun x x0 x1 h1 h2 => z _ (by have : hdl Fz x = 100 * x + 0 := by unfold hdl; rw [z _ (by omega)]
                                                                                  omega), fun x y x0 x1 h1 h2 => ?_, fun x x0 x1 h => ⟨z _ (by omega), z _ (by omega), z _ (by omega)⟩, fun x x0 x1 h => ?_, fun x x0 x1 => ⟨Or.inl (z _ (by omega)), fun h => ?_⟩, fun x x0 x1 h => ?_, fun x x0 x1 => ⟨0, x, ?_, rfl, x0, x1, ?_⟩⟩
  · by_cases q3 : j = 3
    · subst q3
      rw [Fz_3]
      exact ⟨by decide, by show (2 : Int) ≤ 50; omega⟩
    · by_cases q4 : j = 4
      · subst q4
        rw [Fz_4]
        exact ⟨by decide, by show (30 : Int) ≤ 99; omega⟩
      · rw [Fz_0 q3 q4, bLo_0 q4]
        exact ⟨Int.le_refl 0, bHi_0 (Int.le_refl 0)⟩
  · rw [z _ (by omega)] at h
    omega
  · rw [z _ (by omega)] at h1
    exact z _ (by omega)
  · rw [z _ (by omega)] at h
    omega
  · unfold fol at h
    rw [z _ (by omega)] at h
    omega
  · rw [z _ (by omega)] at h
    omega
  · rw [z 5 (by omega)]
    exact Int.le_refl 0
  · unfold fol
    rw [z _ (by omega)]
    omega
theorem RI.z : RI Fz (fun _ => -1) 16 (fun _ _ => 0) := by
  have z : ∀ j : Int, 5 ≤ j → Fz j = 0 := fun j hj => Fz_0 (by omega) (by omega)
  have z5 := z 5 (by omega)
  refine ⟨by rw [z5]; omega, fun e e0 e1 => ?_, fun e e' e0 e1 => ?_, fun x x0 x1 h => ?_, fun n n0 n1 => ⟨fun h => ?_, fun _ => rfl⟩⟩
  · rw [z5] at e1
    omega
  · rw [z5] at e1
    omega
  · rw [z _ (by omega)] at h
    omega
  · rw [z _ (by omega)] at h
    omega
end S69
