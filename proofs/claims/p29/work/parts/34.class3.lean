/-! ===== one state: its other cells written ===== -/
section CNw
variable {E : gE} {M : gMd} {pc : Nat} {ls : List (Option Value)} {st : List Value} {Q : Option Value → gH → Prop} {B S : Nat} {h0 h : gH} {X : Nat → SC} {T : TC} {i : Nat} {Y : SC} {F t : Int → Int} {A : Nat → Nat} {N : Nat} {V : Nat → Int → Int}
theorem own_0 {j : Int} (h : j = 0 ∨ j = 1 ∨ j = 11 ∨ j = 12) : own j = 0 := by
  unfold own
  rw [if_pos h]
theorem own_l {j : Int} (h : 529 ≤ j) : own j = 9 + ((j - 529) % 3).toNat := by
  unfold own
  rw [if_neg (by omega), if_neg (by omega), if_neg (by omega), if_pos h]
theorem own_t {j : Int} (h : 6 ≤ j ∧ j ≤ 10) : own j = 12 := by
  unfold own
  rw [if_neg (by omega), if_neg (by omega), if_neg (by omega), if_neg (by omega), if_pos h]
theorem own_s {j : Int} (h : 2 ≤ j ∧ j ≤ 4) : own j = 13 := by
  unfold own
  rw [if_neg (by omega), if_neg (by omega), if_neg (by omega), if_neg (by omega), if_neg (by omega), if_pos (by omega)]
theorem own_u {j : Int} (h : 509 ≤ j ∧ j < 529) : own j = 14 := by
  unfold own
  rw [if_neg (by omega), if_neg (by omega), if_neg (by omega), if_neg (by omega), if_neg (by omega), if_neg (by omega), if_pos (by omega)]
theorem own_k {j : Int} (h : 14 ≤ j ∧ j < 29) : own j = 15 + 14 * ((j - 14) / 3).toNat := by
  unfold own
  rw [if_neg (by omega), if_neg (by omega), if_neg (by omega), if_neg (by omega), if_neg (by omega), if_neg (by omega), if_neg (by omega), if_pos (by omega)]
theorem CN.s1 (hW : CN B S h0 X T i h (F, t, A, N, V)) (hi : i < 6) {v : Int} : CN B S h0 X T i (gPut h (sA B i) (.inl (5, [.ref (sA B i + 1), .int (zI v), .ref (sA B i + 2), .ref (sA B i + 8), .ref (sA B i + 13), .ref (sA B i + 14), .int (zI (F 0)), .int (zI (F 11)), .int (zI (F 12))]))) (zup F 1 v, t, A, N, V) := by
  have := hW.w hi (o := 0) (by omega) (by omega) (F' := zup F 1 v) (t' := t) (fun j _ _ q2 => zup_ne _ _ fun q => q2 (by exact own_0 (by omega))) (fun _ _ _ _ => rfl) (by rfl)
  unfold stC at this
  simpa (disch := omega) only [xR, zup_ne, zup_eq, Nat.add_zero] using this
theorem CN.s6 (hW : CN B S h0 X T i h (F, t, A, N, V)) (hi : i < 6) {v : Int} : CN B S h0 X T i (gPut h (sA B i) (.inl (5, [.ref (sA B i + 1), .int (zI (F 1)), .ref (sA B i + 2), .ref (sA B i + 8), .ref (sA B i + 13), .ref (sA B i + 14), .int (zI v), .int (zI (F 11)), .int (zI (F 12))]))) (zup F 0 v, t, A, N, V) := by
  have := hW.w hi (o := 0) (by omega) (by omega) (F' := zup F 0 v) (t' := t) (fun j _ _ q2 => zup_ne _ _ fun q => q2 (by exact own_0 (by omega))) (fun _ _ _ _ => rfl) (by rfl)
  unfold stC at this
  simpa (disch := omega) only [xR, zup_ne, zup_eq, Nat.add_zero] using this
theorem CN.s7 (hW : CN B S h0 X T i h (F, t, A, N, V)) (hi : i < 6) {v : Int} : CN B S h0 X T i (gPut h (sA B i) (.inl (5, [.ref (sA B i + 1), .int (zI (F 1)), .ref (sA B i + 2), .ref (sA B i + 8), .ref (sA B i + 13), .ref (sA B i + 14), .int (zI (F 0)), .int (zI v), .int (zI (F 12))]))) (zup F 11 v, t, A, N, V) := by
  have := hW.w hi (o := 0) (by omega) (by omega) (F' := zup F 11 v) (t' := t) (fun j _ _ q2 => zup_ne _ _ fun q => q2 (by exact own_0 (by omega))) (fun _ _ _ _ => rfl) (by rfl)
  unfold stC at this
  simpa (disch := omega) only [xR, zup_ne, zup_eq, Nat.add_zero] using this
theorem CN.s8 (hW : CN B S h0 X T i h (F, t, A, N, V)) (hi : i < 6) {v : Int} : CN B S h0 X T i (gPut h (sA B i) (.inl (5, [.ref (sA B i + 1), .int (zI (F 1)), .ref (sA B i + 2), .ref (sA B i + 8), .ref (sA B i + 13), .ref (sA B i + 14), .int (zI (F 0)), .int (zI (F 11)), .int (zI v)]))) (zup F 12 v, t, A, N, V) := by
  have := hW.w hi (o := 0) (by omega) (by omega) (F' := zup F 12 v) (t' := t) (fun j _ _ q2 => zup_ne _ _ fun q => q2 (by exact own_0 (by omega))) (fun _ _ _ _ => rfl) (by rfl)
  unfold stC at this
  simpa (disch := omega) only [xR, zup_ne, zup_eq, Nat.add_zero] using this
theorem CN.g0 (hW : CN B S h0 X T i h (F, t, A, N, V)) (hi : i < 6) {v : Int} : CN B S h0 X T i (gPut h (sA B i + 2) (.inl (0, [.int (zI v), .ref (A 0), .ref (A 1), .ref (A 2), .ref (A 3), .ref (A 4)]))) (zup F 5 v, t, A, N, V) := by
  have := hW.w hi (o := 2) (by omega) (by omega) (F' := zup F 5 v) (t' := t) (fun j _ _ q2 => zup_ne _ _ fun q => q2 (by rw [q]; rfl)) (fun _ _ _ _ => rfl) (by rfl)
  unfold haC at this
  simpa (disch := omega) only [xR, zup_eq] using this
theorem CN.l8 (hW : CN B S h0 X T i h (F, t, A, N, V)) (hi : i < 6) {v : Int} : CN B S h0 X T i (gPut h (sA B i + 8) (.inl (3, [.int (zI v), .ref (sA B i + 9), .ref (sA B i + 10), .ref (sA B i + 11), .ref (sA B i + 12)]))) (zup F 13 v, t, A, N, V) := by
  have := hW.w hi (o := 8) (by omega) (by omega) (F' := zup F 13 v) (t' := t) (fun j _ _ q2 => zup_ne _ _ fun q => q2 (by rw [q]; rfl)) (fun _ _ _ _ => rfl) (by rfl)
  unfold lgC at this
  simpa (disch := omega) only [xR, zup_eq] using this
theorem CN.w9 (hW : CN B S h0 X T i h (F, t, A, N, V)) (hi : i < 6) {s v : Int} (q0 : 0 ≤ s) (q1 : s < 10) : CN B S h0 X T i (gPut h (sA B i + 9) (gI 10 (zup (cut 10 fun j => F (529 + 3 * j)) s v))) (zup F (529 + 3 * s) v, t, A, N, V) := by
  refine hW.w hi (o := 9) (by omega) (by omega) (fun j _ _ q2 => zup_ne _ _ fun q => q2 (by rw [own_l (j := j) (by omega)]; omega)) (fun _ _ _ _ => rfl) ?_
  rw [cut_up (g := fun j => zup F (529 + 3 * s) v (529 + 3 * j)) ⟨q0, q1⟩ (fun j r0 r1 => by
    by_cases q : j = s
    · subst q; rw [if_pos rfl, zup_eq]
    · rw [if_neg q, zup_ne _ _ (by omega)])]
  rfl
theorem CN.w10 (hW : CN B S h0 X T i h (F, t, A, N, V)) (hi : i < 6) {s v : Int} (q0 : 0 ≤ s) (q1 : s < 10) : CN B S h0 X T i (gPut h (sA B i + 10) (gI 10 (zup (cut 10 fun j => F (529 + 3 * j + 1)) s v))) (zup F (529 + 3 * s + 1) v, t, A, N, V) := by
  refine hW.w hi (o := 10) (by omega) (by omega) (fun j _ _ q2 => zup_ne _ _ fun q => q2 (by rw [own_l (j := j) (by omega)]; omega)) (fun _ _ _ _ => rfl) ?_
  rw [cut_up (g := fun j => zup F (529 + 3 * s + 1) v (529 + 3 * j + 1)) ⟨q0, q1⟩ (fun j r0 r1 => by
    by_cases q : j = s
    · subst q; rw [if_pos rfl, zup_eq]
    · rw [if_neg q, zup_ne _ _ (by omega)])]
  rfl
theorem CN.w11 (hW : CN B S h0 X T i h (F, t, A, N, V)) (hi : i < 6) {s v : Int} (q0 : 0 ≤ s) (q1 : s < 10) : CN B S h0 X T i (gPut h (sA B i + 11) (gI 10 (zup (cut 10 fun j => F (529 + 3 * j + 2)) s v))) (zup F (529 + 3 * s + 2) v, t, A, N, V) := by
  refine hW.w hi (o := 11) (by omega) (by omega) (fun j _ _ q2 => zup_ne _ _ fun q => q2 (by rw [own_l (j := j) (by omega)]; omega)) (fun _ _ _ _ => rfl) ?_
  rw [cut_up (g := fun j => zup F (529 + 3 * s + 2) v (529 + 3 * j + 2)) ⟨q0, q1⟩ (fun j r0 r1 => by
    by_cases q : j = s
    · subst q; rw [if_pos rfl, zup_eq]
    · rw [if_neg q, zup_ne _ _ (by omega)])]
  rfl
theorem CN.w13 (hW : CN B S h0 X T i h (F, t, A, N, V)) (hi : i < 6) {s v : Int} (q0 : 0 ≤ s) (q1 : s < 3) : CN B S h0 X T i (gPut h (sA B i + 13) (gI 3 (zup (cut 3 fun j => F (2 + j)) s v))) (zup F (2 + s) v, t, A, N, V) := by
  refine hW.w hi (o := 13) (by omega) (by omega) (fun j _ _ q2 => zup_ne _ _ fun q => q2 (by rw [own_s (j := j) (by omega)])) (fun _ _ _ _ => rfl) ?_
  rw [cut_up (g := fun j => zup F (2 + s) v (2 + j)) ⟨q0, q1⟩ (fun j r0 r1 => by
    by_cases q : j = s
    · subst q; rw [if_pos rfl, zup_eq]
    · rw [if_neg q, zup_ne _ _ (by omega)])]
  rfl
theorem CN.w14 (hW : CN B S h0 X T i h (F, t, A, N, V)) (hi : i < 6) {s v : Int} (q0 : 0 ≤ s) (q1 : s < 20) : CN B S h0 X T i (gPut h (sA B i + 14) (gI 20 (zup (cut 20 fun j => F (509 + j)) s v))) (zup F (509 + s) v, t, A, N, V) := by
  refine hW.w hi (o := 14) (by omega) (by omega) (fun j _ _ q2 => zup_ne _ _ fun q => q2 (by rw [own_u (j := j) (by omega)])) (fun _ _ _ _ => rfl) ?_
  rw [cut_up (g := fun j => zup F (509 + s) v (509 + j)) ⟨q0, q1⟩ (fun j r0 r1 => by
    by_cases q : j = s
    · subst q; rw [if_pos rfl, zup_eq]
    · rw [if_neg q, zup_ne _ _ (by omega)])]
  rfl
theorem tmx_inj {j k : Int} (h0 : 0 ≤ j) (h1 : j < 5) (h2 : 0 ≤ k) (h3 : k < 5) (h : tmx j = tmx k) : j = k := by
  unfold tmx at h
  (repeat' split at h) <;> omega
theorem tmx_b {j : Int} (h0 : 0 ≤ j) (h1 : j < 5) : 6 ≤ tmx j ∧ tmx j ≤ 10 := by
  unfold tmx
  (repeat' split) <;> omega
theorem CN.w12 (hW : CN B S h0 X T i h (F, t, A, N, V)) (hi : i < 6) {s v : Int} (q0 : 0 ≤ s) (q1 : s < 5) : CN B S h0 X T i (gPut h (sA B i + 12) (gI 5 (zup (cut 5 fun j => F (tmx j)) s v))) (zup F (tmx s) v, t, A, N, V) := by
  have hx := tmx_b q0 q1
  refine hW.w hi (o := 12) (by omega) (by omega) (fun j _ _ q2 => zup_ne _ _ fun q => q2 (by rw [own_t (j := j) (by omega)])) (fun _ _ _ _ => rfl) ?_
  rw [cut_up (g := fun j => zup F (tmx s) v (tmx j)) ⟨q0, q1⟩ (fun j r0 r1 => by
    by_cases q : j = s
    · subst q; rw [if_pos rfl, zup_eq]
    · rw [if_neg q, zup_ne _ _ (fun z => q (tmx_inj r0 r1 q0 q1 z))])]
  rfl
theorem CN.k1 (hW : CN B S h0 X T i h (F, t, A, N, V)) (hi : i < 6) {k v : Int} (q0 : 0 ≤ k) (q1 : k < 5) : CN B S h0 X T i (gPut h (rA B i k) (.inl (4, [.ref (rA B i k + 1), .int (zI v), .int (zI (F (14 + 3 * k + 1))), .int (zI (F (14 + 3 * k + 2)))]))) (zup F (14 + 3 * k + 0) v, t, A, N, V) := by
  have e : rA B i k = sA B i + (15 + 14 * k.toNat) := by unfold rA; omega
  have := hW.w hi (o := 15 + 14 * k.toNat) (by omega) (by omega) (F' := zup F (14 + 3 * k + 0) v) (t' := t) (fun j _ _ q2 => zup_ne _ _ fun q => q2 (by rw [own_k (j := j) (by omega)]; omega)) (fun _ _ _ _ => rfl) (xS_rk _ _ (by omega))
  unfold rkC at this
  rw [Int.toNat_of_nonneg q0, show sA B i + 16 + 14 * k.toNat = sA B i + (15 + 14 * k.toNat) + 1 by omega, ← e] at this
  simpa (disch := omega) only [xR, zup_ne, zup_eq] using this
theorem CN.k2 (hW : CN B S h0 X T i h (F, t, A, N, V)) (hi : i < 6) {k v : Int} (q0 : 0 ≤ k) (q1 : k < 5) : CN B S h0 X T i (gPut h (rA B i k) (.inl (4, [.ref (rA B i k + 1), .int (zI (F (14 + 3 * k + 0))), .int (zI v), .int (zI (F (14 + 3 * k + 2)))]))) (zup F (14 + 3 * k + 1) v, t, A, N, V) := by
  have e : rA B i k = sA B i + (15 + 14 * k.toNat) := by unfold rA; omega
  have := hW.w hi (o := 15 + 14 * k.toNat) (by omega) (by omega) (F' := zup F (14 + 3 * k + 1) v) (t' := t) (fun j _ _ q2 => zup_ne _ _ fun q => q2 (by rw [own_k (j := j) (by omega)]; omega)) (fun _ _ _ _ => rfl) (xS_rk _ _ (by omega))
  unfold rkC at this
  rw [Int.toNat_of_nonneg q0, show sA B i + 16 + 14 * k.toNat = sA B i + (15 + 14 * k.toNat) + 1 by omega, ← e] at this
  simpa (disch := omega) only [xR, zup_ne, zup_eq] using this
theorem CN.k3 (hW : CN B S h0 X T i h (F, t, A, N, V)) (hi : i < 6) {k v : Int} (q0 : 0 ≤ k) (q1 : k < 5) : CN B S h0 X T i (gPut h (rA B i k) (.inl (4, [.ref (rA B i k + 1), .int (zI (F (14 + 3 * k + 0))), .int (zI (F (14 + 3 * k + 1))), .int (zI v)]))) (zup F (14 + 3 * k + 2) v, t, A, N, V) := by
  have e : rA B i k = sA B i + (15 + 14 * k.toNat) := by unfold rA; omega
  have := hW.w hi (o := 15 + 14 * k.toNat) (by omega) (by omega) (F' := zup F (14 + 3 * k + 2) v) (t' := t) (fun j _ _ q2 => zup_ne _ _ fun q => q2 (by rw [own_k (j := j) (by omega)]; omega)) (fun _ _ _ _ => rfl) (xS_rk _ _ (by omega))
  unfold rkC at this
  rw [Int.toNat_of_nonneg q0, show sA B i + 16 + 14 * k.toNat = sA B i + (15 + 14 * k.toNat) + 1 by omega, ← e] at this
  simpa (disch := omega) only [xR, zup_ne, zup_eq] using this
/-- arraycopy from the start of one row to the start of another -/
theorem zp_acpy {cp a0 a n0 n1 : Nat} {P R : Int → Int} {n : Int} (hd : gDec M pc (.invokestatic cp) 3) (hs : gAc (gY M).cls cp) (hr : 1 ≤ gFr M ∧ 26 ≤ gLo M) (ht : gTy E 0 .int) (ha0 : h.1 a0 = some (gI n0 P)) (ha1 : h.1 a = some (gI n1 R)) (ha : gB E ≤ a)
    (q0 : 0 ≤ n) (q1 : n ≤ n0) (q2 : n ≤ n1) (q3 : n ≤ 2147483647) (hW : (st.map fun v => v.category).sum ≤ 8)
    (w : Wp E M (pc + 3) ls st (gPut h a (gI n1 (fun j => if j < n then P j else R j))) Q) : Wp E M pc ls (.int (zI n) :: .int (zI 0) :: .ref a :: .int (zI 0) :: .ref a0 :: st) h Q := by
  have e0 : (zI 0).toNatClampNeg = 0 := rfl
  have e1 : (zI n).toNatClampNeg = n.toNat := zI_clamp ⟨by omega, by omega⟩
  have e2 : ¬ zI n < 0 := by
    rw [zI_zero, zI_lt ⟨by omega, by omega⟩ gR0]
    omega
  refine wp_arraycopy hd hs hr ht ha0 ha1 ha (by decide) (by decide) e2 (by omega) (by omega) hW ?_
  rw [e0, e1]
  have e : (.inr (0, n1, fun j => .int (va_cpy (fun j : Nat => zI (P j)) (fun j : Nat => zI (R j)) 0 0 n.toNat j)) : gC) = gI n1 (fun j => if j < n then P j else R j) := by
    unfold gI
    congr 3
    funext j
    unfold va_cpy
    by_cases hj : j < n.toNat
    · rw [if_pos ⟨by omega, by omega⟩, show 0 + (j - 0) = j by omega]
      show _ = Value.int (zI (if (j : Int) < n then P j else R j))
      rw [if_pos (by omega)]
    · rw [if_neg (by omega)]
      show _ = Value.int (zI (if (j : Int) < n then P j else R j))
      rw [if_neg (by omega)]
  rw [e]
  exact w
end CNw
