/-! ===== the class: hooks ===== -/
section S35
variable {E : gE} {B S : Nat} {h0 h : gH} {X : Nat → SC} {T : TC} {i : Nat} {Y : SC} {F t : Int → Int} {A : Nat → Nat} {N : Nat} {V : Nat → Int → Int} {Q : Option Value → gH → Prop}
variable {M : gMd} {pc : Nat} {ls : List (Option Value)} {st : List Value}
theorem CN.sw2 (hW : CN B S h0 X T i h Y) {j : Nat} (hj : j ≠ i) {Z : SC} (hX : X j = Z) : CN B S h0 (upX X i Y) T j h Z := by
  have := hW.sw hj
  rwa [hX] at this
theorem pw_h1 (hW : CN B S h0 X T i h (F, t, A, N, V)) (hi : i < 6) {n v : Int} (n0 : 0 ≤ n) (n1 : n < 60) (w : ∀ h1, CN B S h0 X T i h1 (zup F (29 + 8 * n + 0) v, t, A, N, V) → Wp E M pc ls st h1 Q) : Wp E M pc ls st (gPut h (hA B i n) (.inl (2, ([.int (zI n), .int (zI (F (29 + 8 * n + 0))), .int (zI (F (29 + 8 * n + 5))), .int (zI (F (29 + 8 * n + 6))), .int (zI (F (29 + 8 * n + 7))), .int (zI (t n)), .int (zI (F (29 + 8 * n + 3))), .int (zI (F (29 + 8 * n + 4)))] : List Value).set 1 (.int (zI v))))) Q := w _ (hW.h1 hi n0 n1)
theorem pw_h2 (hW : CN B S h0 X T i h (F, t, A, N, V)) (hi : i < 6) {n v : Int} (n0 : 0 ≤ n) (n1 : n < 60) (w : ∀ h1, CN B S h0 X T i h1 (zup F (29 + 8 * n + 5) v, t, A, N, V) → Wp E M pc ls st h1 Q) : Wp E M pc ls st (gPut h (hA B i n) (.inl (2, ([.int (zI n), .int (zI (F (29 + 8 * n + 0))), .int (zI (F (29 + 8 * n + 5))), .int (zI (F (29 + 8 * n + 6))), .int (zI (F (29 + 8 * n + 7))), .int (zI (t n)), .int (zI (F (29 + 8 * n + 3))), .int (zI (F (29 + 8 * n + 4)))] : List Value).set 2 (.int (zI v))))) Q := w _ (hW.h2 hi n0 n1)
theorem pw_h3 (hW : CN B S h0 X T i h (F, t, A, N, V)) (hi : i < 6) {n v : Int} (n0 : 0 ≤ n) (n1 : n < 60) (w : ∀ h1, CN B S h0 X T i h1 (zup F (29 + 8 * n + 6) v, t, A, N, V) → Wp E M pc ls st h1 Q) : Wp E M pc ls st (gPut h (hA B i n) (.inl (2, ([.int (zI n), .int (zI (F (29 + 8 * n + 0))), .int (zI (F (29 + 8 * n + 5))), .int (zI (F (29 + 8 * n + 6))), .int (zI (F (29 + 8 * n + 7))), .int (zI (t n)), .int (zI (F (29 + 8 * n + 3))), .int (zI (F (29 + 8 * n + 4)))] : List Value).set 3 (.int (zI v))))) Q := w _ (hW.h3 hi n0 n1)
theorem pw_h4 (hW : CN B S h0 X T i h (F, t, A, N, V)) (hi : i < 6) {n v : Int} (n0 : 0 ≤ n) (n1 : n < 60) (w : ∀ h1, CN B S h0 X T i h1 (zup F (29 + 8 * n + 7) v, t, A, N, V) → Wp E M pc ls st h1 Q) : Wp E M pc ls st (gPut h (hA B i n) (.inl (2, ([.int (zI n), .int (zI (F (29 + 8 * n + 0))), .int (zI (F (29 + 8 * n + 5))), .int (zI (F (29 + 8 * n + 6))), .int (zI (F (29 + 8 * n + 7))), .int (zI (t n)), .int (zI (F (29 + 8 * n + 3))), .int (zI (F (29 + 8 * n + 4)))] : List Value).set 4 (.int (zI v))))) Q := w _ (hW.h4 hi n0 n1)
theorem pw_h5 (hW : CN B S h0 X T i h (F, t, A, N, V)) (hi : i < 6) {n v : Int} (n0 : 0 ≤ n) (n1 : n < 60) (w : ∀ h1, CN B S h0 X T i h1 (F, zup t n v, A, N, V) → Wp E M pc ls st h1 Q) : Wp E M pc ls st (gPut h (hA B i n) (.inl (2, ([.int (zI n), .int (zI (F (29 + 8 * n + 0))), .int (zI (F (29 + 8 * n + 5))), .int (zI (F (29 + 8 * n + 6))), .int (zI (F (29 + 8 * n + 7))), .int (zI (t n)), .int (zI (F (29 + 8 * n + 3))), .int (zI (F (29 + 8 * n + 4)))] : List Value).set 5 (.int (zI v))))) Q := w _ (hW.h5 hi n0 n1)
theorem pw_h6 (hW : CN B S h0 X T i h (F, t, A, N, V)) (hi : i < 6) {n v : Int} (n0 : 0 ≤ n) (n1 : n < 60) (w : ∀ h1, CN B S h0 X T i h1 (zup F (29 + 8 * n + 3) v, t, A, N, V) → Wp E M pc ls st h1 Q) : Wp E M pc ls st (gPut h (hA B i n) (.inl (2, ([.int (zI n), .int (zI (F (29 + 8 * n + 0))), .int (zI (F (29 + 8 * n + 5))), .int (zI (F (29 + 8 * n + 6))), .int (zI (F (29 + 8 * n + 7))), .int (zI (t n)), .int (zI (F (29 + 8 * n + 3))), .int (zI (F (29 + 8 * n + 4)))] : List Value).set 6 (.int (zI v))))) Q := w _ (hW.h6 hi n0 n1)
theorem pw_h7 (hW : CN B S h0 X T i h (F, t, A, N, V)) (hi : i < 6) {n v : Int} (n0 : 0 ≤ n) (n1 : n < 60) (w : ∀ h1, CN B S h0 X T i h1 (zup F (29 + 8 * n + 4) v, t, A, N, V) → Wp E M pc ls st h1 Q) : Wp E M pc ls st (gPut h (hA B i n) (.inl (2, ([.int (zI n), .int (zI (F (29 + 8 * n + 0))), .int (zI (F (29 + 8 * n + 5))), .int (zI (F (29 + 8 * n + 6))), .int (zI (F (29 + 8 * n + 7))), .int (zI (t n)), .int (zI (F (29 + 8 * n + 3))), .int (zI (F (29 + 8 * n + 4)))] : List Value).set 7 (.int (zI v))))) Q := w _ (hW.h7 hi n0 n1)
theorem pw_k1 (hW : CN B S h0 X T i h (F, t, A, N, V)) (hi : i < 6) {k v : Int} (k0 : 0 ≤ k) (k1 : k < 5) (w : ∀ h1, CN B S h0 X T i h1 (zup F (14 + 3 * k + 0) v, t, A, N, V) → Wp E M pc ls st h1 Q) : Wp E M pc ls st (gPut h (rA B i k) (.inl (4, ([.ref (rA B i k + 1), .int (zI (F (14 + 3 * k + 0))), .int (zI (F (14 + 3 * k + 1))), .int (zI (F (14 + 3 * k + 2)))] : List Value).set 1 (.int (zI v))))) Q := w _ (hW.k1 hi k0 k1)
theorem pw_k2 (hW : CN B S h0 X T i h (F, t, A, N, V)) (hi : i < 6) {k v : Int} (k0 : 0 ≤ k) (k1 : k < 5) (w : ∀ h1, CN B S h0 X T i h1 (zup F (14 + 3 * k + 1) v, t, A, N, V) → Wp E M pc ls st h1 Q) : Wp E M pc ls st (gPut h (rA B i k) (.inl (4, ([.ref (rA B i k + 1), .int (zI (F (14 + 3 * k + 0))), .int (zI (F (14 + 3 * k + 1))), .int (zI (F (14 + 3 * k + 2)))] : List Value).set 2 (.int (zI v))))) Q := w _ (hW.k2 hi k0 k1)
theorem pw_k3 (hW : CN B S h0 X T i h (F, t, A, N, V)) (hi : i < 6) {k v : Int} (k0 : 0 ≤ k) (k1 : k < 5) (w : ∀ h1, CN B S h0 X T i h1 (zup F (14 + 3 * k + 2) v, t, A, N, V) → Wp E M pc ls st h1 Q) : Wp E M pc ls st (gPut h (rA B i k) (.inl (4, ([.ref (rA B i k + 1), .int (zI (F (14 + 3 * k + 0))), .int (zI (F (14 + 3 * k + 1))), .int (zI (F (14 + 3 * k + 2)))] : List Value).set 3 (.int (zI v))))) Q := w _ (hW.k3 hi k0 k1)
theorem pw_s1 (hW : CN B S h0 X T i h (F, t, A, N, V)) (hi : i < 6) {v : Int} (w : ∀ h1, CN B S h0 X T i h1 (zup F 1 v, t, A, N, V) → Wp E M pc ls st h1 Q) : Wp E M pc ls st (gPut h (sA B i) (.inl (5, ([.ref (sA B i + 1), .int (zI (F 1)), .ref (sA B i + 2), .ref (sA B i + 8), .ref (sA B i + 13), .ref (sA B i + 14), .int (zI (F 0)), .int (zI (F 11)), .int (zI (F 12))] : List Value).set 1 (.int (zI v))))) Q := w _ (hW.s1 hi)
theorem pw_s6 (hW : CN B S h0 X T i h (F, t, A, N, V)) (hi : i < 6) {v : Int} (w : ∀ h1, CN B S h0 X T i h1 (zup F 0 v, t, A, N, V) → Wp E M pc ls st h1 Q) : Wp E M pc ls st (gPut h (sA B i) (.inl (5, ([.ref (sA B i + 1), .int (zI (F 1)), .ref (sA B i + 2), .ref (sA B i + 8), .ref (sA B i + 13), .ref (sA B i + 14), .int (zI (F 0)), .int (zI (F 11)), .int (zI (F 12))] : List Value).set 6 (.int (zI v))))) Q := w _ (hW.s6 hi)
theorem pw_s7 (hW : CN B S h0 X T i h (F, t, A, N, V)) (hi : i < 6) {v : Int} (w : ∀ h1, CN B S h0 X T i h1 (zup F 11 v, t, A, N, V) → Wp E M pc ls st h1 Q) : Wp E M pc ls st (gPut h (sA B i) (.inl (5, ([.ref (sA B i + 1), .int (zI (F 1)), .ref (sA B i + 2), .ref (sA B i + 8), .ref (sA B i + 13), .ref (sA B i + 14), .int (zI (F 0)), .int (zI (F 11)), .int (zI (F 12))] : List Value).set 7 (.int (zI v))))) Q := w _ (hW.s7 hi)
theorem pw_s8 (hW : CN B S h0 X T i h (F, t, A, N, V)) (hi : i < 6) {v : Int} (w : ∀ h1, CN B S h0 X T i h1 (zup F 12 v, t, A, N, V) → Wp E M pc ls st h1 Q) : Wp E M pc ls st (gPut h (sA B i) (.inl (5, ([.ref (sA B i + 1), .int (zI (F 1)), .ref (sA B i + 2), .ref (sA B i + 8), .ref (sA B i + 13), .ref (sA B i + 14), .int (zI (F 0)), .int (zI (F 11)), .int (zI (F 12))] : List Value).set 8 (.int (zI v))))) Q := w _ (hW.s8 hi)
theorem pw_g0 (hW : CN B S h0 X T i h (F, t, A, N, V)) (hi : i < 6) {v : Int} (w : ∀ h1, CN B S h0 X T i h1 (zup F 5 v, t, A, N, V) → Wp E M pc ls st h1 Q) : Wp E M pc ls st (gPut h (sA B i + 2) (.inl (0, ([.int (zI (F 5)), .ref (A 0), .ref (A 1), .ref (A 2), .ref (A 3), .ref (A 4)] : List Value).set 0 (.int (zI v))))) Q := w _ (hW.g0 hi)
theorem pw_l8 (hW : CN B S h0 X T i h (F, t, A, N, V)) (hi : i < 6) {v : Int} (w : ∀ h1, CN B S h0 X T i h1 (zup F 13 v, t, A, N, V) → Wp E M pc ls st h1 Q) : Wp E M pc ls st (gPut h (sA B i + 8) (.inl (3, ([.int (zI (F 13)), .ref (sA B i + 9), .ref (sA B i + 10), .ref (sA B i + 11), .ref (sA B i + 12)] : List Value).set 0 (.int (zI v))))) Q := w _ (hW.l8 hi)
theorem pw_w9 (hW : CN B S h0 X T i h (F, t, A, N, V)) (hi : i < 6) {s v : Int} (q0 : 0 ≤ s) (q1 : s < 10) (w : ∀ h1, CN B S h0 X T i h1 (zup F (529 + 3 * s) v, t, A, N, V) → Wp E M pc ls st h1 Q) : Wp E M pc ls st (gPut h (sA B i + 9) (gI 10 (zup (cut 10 fun j => F (529 + 3 * j)) s v))) Q := w _ (hW.w9 hi q0 q1)
theorem pw_w10 (hW : CN B S h0 X T i h (F, t, A, N, V)) (hi : i < 6) {s v : Int} (q0 : 0 ≤ s) (q1 : s < 10) (w : ∀ h1, CN B S h0 X T i h1 (zup F (529 + 3 * s + 1) v, t, A, N, V) → Wp E M pc ls st h1 Q) : Wp E M pc ls st (gPut h (sA B i + 10) (gI 10 (zup (cut 10 fun j => F (529 + 3 * j + 1)) s v))) Q := w _ (hW.w10 hi q0 q1)
theorem pw_w11 (hW : CN B S h0 X T i h (F, t, A, N, V)) (hi : i < 6) {s v : Int} (q0 : 0 ≤ s) (q1 : s < 10) (w : ∀ h1, CN B S h0 X T i h1 (zup F (529 + 3 * s + 2) v, t, A, N, V) → Wp E M pc ls st h1 Q) : Wp E M pc ls st (gPut h (sA B i + 11) (gI 10 (zup (cut 10 fun j => F (529 + 3 * j + 2)) s v))) Q := w _ (hW.w11 hi q0 q1)
theorem pw_w13 (hW : CN B S h0 X T i h (F, t, A, N, V)) (hi : i < 6) {s v : Int} (q0 : 0 ≤ s) (q1 : s < 3) (w : ∀ h1, CN B S h0 X T i h1 (zup F (2 + s) v, t, A, N, V) → Wp E M pc ls st h1 Q) : Wp E M pc ls st (gPut h (sA B i + 13) (gI 3 (zup (cut 3 fun j => F (2 + j)) s v))) Q := w _ (hW.w13 hi q0 q1)
theorem pw_w14 (hW : CN B S h0 X T i h (F, t, A, N, V)) (hi : i < 6) {s v : Int} (q0 : 0 ≤ s) (q1 : s < 20) (w : ∀ h1, CN B S h0 X T i h1 (zup F (509 + s) v, t, A, N, V) → Wp E M pc ls st h1 Q) : Wp E M pc ls st (gPut h (sA B i + 14) (gI 20 (zup (cut 20 fun j => F (509 + j)) s v))) Q := w _ (hW.w14 hi q0 q1)
theorem pw_w12 (hW : CN B S h0 X T i h (F, t, A, N, V)) (hi : i < 6) {s v : Int} (q0 : 0 ≤ s) (q1 : s < 5) (w : ∀ h1, CN B S h0 X T i h1 (zup F (tmx s) v, t, A, N, V) → Wp E M pc ls st h1 Q) : Wp E M pc ls st (gPut h (sA B i + 12) (gI 5 (zup (cut 5 fun j => F (tmx j)) s v))) Q := w _ (hW.w12 hi q0 q1)
theorem pw_a (hW : CN B S h0 X T i h (F, t, A, N, V)) (hi : i < 6) {j : Nat} (hj : j < 5) {U : Int → Int} (w : ∀ h1, CN B S h0 X T i h1 (F, t, A, N, fun k => if k = j then U else V k) → Wp E M pc ls st h1 Q) : Wp E M pc ls st (gPut h (A j) (gI N U)) Q := w _ (hW.wa hi hj)
set_option maxRecDepth 100000 in
theorem sp_Ho_holdsCoat (hE : gOk E) (hB : gB E ≤ B) (hW : CN B S h0 X T i h (F, t, A, N, V)) (hi : i < 6) {n : Int} (n0 : 0 ≤ n) (n1 : n < 60) (rc : gR (t n)) (k : Q (some (.int (zI (bI (¬ t n = -1))))) h) : Wp E m_Ho_holdsCoat 0 (gEnt m_Ho_holdsCoat [.ref (hA B i n)]) [] h Q := by
  show Wp E m_Ho_holdsCoat 0 [some (_)] [] _ _
  refine wp_aload_n (pc := 0) d_Ho_holdsCoat_0 rfl ?_
  refine wp_getfield (pc := 1) d_Ho_holdsCoat_1 f_Ho_25 (hW.hk hi (by omega) (by omega)) rfl ?_
  refine wp_iconst (pc := 4) d_Ho_holdsCoat_4 ?_
  refine zp_icmp_eq (tgt := 12) (pc := 5) d_Ho_holdsCoat_5 (by decide) ⟨by omega, by omega⟩ ⟨by omega, by omega⟩ (fun c5 => ?_) (fun c5 => ?_)
  · refine wp_iconst (pc := 12) d_Ho_holdsCoat_12 ?_
    refine zp_zreturn (pc := 13) d_Ho_holdsCoat_13 rfl rfl ?_
    first | (rw [bI_t (by omega)] at k; exact k) | (rw [bI_f (by omega)] at k; exact k)
  · refine wp_iconst (pc := 8) d_Ho_holdsCoat_8 ?_
    refine wp_goto (tgt := 13) (pc := 9) d_Ho_holdsCoat_9 (by decide) ?_
    refine zp_zreturn (pc := 13) d_Ho_holdsCoat_13 rfl rfl ?_
    first | (rw [bI_t (by omega)] at k; exact k) | (rw [bI_f (by omega)] at k; exact k)
set_option maxRecDepth 100000 in
theorem sp_Ho_canHold (hE : gOk E) (hB : gB E ≤ B) (hW : CN B S h0 X T i h (F, t, A, N, V)) (hi : i < 6) {n : Int} (n0 : 0 ≤ n) (n1 : n < 60) (rc : gR (t n)) (ri : 0 ≤ F (29 + 8 * n + 5) ∧ F (29 + 8 * n + 5) ≤ 1) (k : Q (some (.int (zI (bI (t n = -1 ∧ F (29 + 8 * n + 5) = 0))))) h) : Wp E m_Ho_canHold 0 (gEnt m_Ho_canHold [.ref (hA B i n)]) [] h Q := by
  show Wp E m_Ho_canHold 0 [some (_)] [] _ _
  refine wp_aload_n (pc := 0) d_Ho_canHold_0 rfl ?_
  refine wp_getfield (pc := 1) d_Ho_canHold_1 f_Ho_25 (hW.hk hi (by omega) (by omega)) rfl ?_
  refine wp_iconst (pc := 4) d_Ho_canHold_4 ?_
  refine zp_icmp_ne (tgt := 19) (pc := 5) d_Ho_canHold_5 (by decide) ⟨by omega, by omega⟩ ⟨by omega, by omega⟩ (fun c5 => ?_) (fun c5 => ?_)
  · refine wp_iconst (pc := 19) d_Ho_canHold_19 ?_
    refine zp_zreturn (pc := 20) d_Ho_canHold_20 rfl rfl ?_
    first | (rw [bI_t (by omega)] at k; exact k) | (rw [bI_f (by omega)] at k; exact k)
  · refine wp_aload_n (pc := 8) d_Ho_canHold_8 rfl ?_
    refine wp_getfield (pc := 9) d_Ho_canHold_9 f_Ho_15 (hW.hk hi (by omega) (by omega)) rfl ?_
    refine zp_if_ne (tgt := 19) (pc := 12) d_Ho_canHold_12 (by decide) ⟨by omega, by omega⟩ (fun c12 => ?_) (fun c12 => ?_)
    · refine wp_iconst (pc := 19) d_Ho_canHold_19 ?_
      refine zp_zreturn (pc := 20) d_Ho_canHold_20 rfl rfl ?_
      first | (rw [bI_t (by omega)] at k; exact k) | (rw [bI_f (by omega)] at k; exact k)
    · refine wp_iconst (pc := 15) d_Ho_canHold_15 ?_
      refine wp_goto (tgt := 20) (pc := 16) d_Ho_canHold_16 (by decide) ?_
      refine zp_zreturn (pc := 20) d_Ho_canHold_20 rfl rfl ?_
      first | (rw [bI_t (by omega)] at k; exact k) | (rw [bI_f (by omega)] at k; exact k)
set_option maxRecDepth 100000 in
theorem sp_Ho_handle (hE : gOk E) (hB : gB E ≤ B) (hW : CN B S h0 X T i h (F, t, A, N, V)) (hi : i < 6) {n : Int} (n0 : 0 ≤ n) (n1 : n < 60) (k : Q (some (.int (zI (hdl F n)))) h) : Wp E m_Ho_handle 0 (gEnt m_Ho_handle [.ref (hA B i n)]) [] h Q := by
  show Wp E m_Ho_handle 0 [some (_)] [] _ _
  refine zp_bipush (pc := 0) d_Ho_handle_0 (by decide) ?_
  refine wp_aload_n (pc := 2) d_Ho_handle_2 rfl ?_
  refine wp_getfield (pc := 3) d_Ho_handle_3 f_Ho_34 (hW.hk hi (by omega) (by omega)) rfl ?_
  refine zp_imul (pc := 6) d_Ho_handle_6 ?_
  refine wp_aload_n (pc := 7) d_Ho_handle_7 rfl ?_
  refine wp_getfield (pc := 8) d_Ho_handle_8 f_Ho_9 (hW.hk hi (by omega) (by omega)) rfl ?_
  refine zp_iadd (pc := 11) d_Ho_handle_11 ?_
  refine zp_ireturn (pc := 12) d_Ho_handle_12 rfl ?_
  exact k
set_option maxRecDepth 100000 in
theorem sp_Ho_hang (hE : gOk E) (hB : gB E ≤ B) (hW : CN B S h0 X T i h (F, t, A, N, V)) (hi : i < 6) {n e z d : Int} (n0 : 0 ≤ n) (n1 : n < 60) (k : ∀ h1, CN B S h0 X T i h1 (zup (zup F (29 + 8 * n + 3) z) (29 + 8 * n + 4) d, zup t n e, A, N, V) → Q none h1) : Wp E m_Ho_hang 0 (gEnt m_Ho_hang [.ref (hA B i n), .int (zI e), .int (zI z), .int (zI d)]) [] h Q := by
  have hb := hA_ge (B := B) n hi
  show Wp E m_Ho_hang 0 [some (_), some (_), some (_), some (_)] [] _ _
  refine wp_aload_n (pc := 0) d_Ho_hang_0 rfl ?_
  refine wp_iload_n (pc := 1) d_Ho_hang_1 rfl ?_
  refine zp_putI (pc := 2) d_Ho_hang_2 f_Ho_25 (hW.hk hi (by omega) (by omega)) (by omega) (Or.inl rfl) ?_
  refine pw_h5 hW hi (by omega) (by omega) (fun h hW => ?_)
  refine wp_aload_n (pc := 5) d_Ho_hang_5 rfl ?_
  refine wp_iload_n (pc := 6) d_Ho_hang_6 rfl ?_
  refine zp_putI (pc := 7) d_Ho_hang_7 f_Ho_28 (hW.hk hi (by omega) (by omega)) (by omega) (Or.inl rfl) ?_
  refine pw_h6 hW hi (by omega) (by omega) (fun h hW => ?_)
  refine wp_aload_n (pc := 10) d_Ho_hang_10 rfl ?_
  refine wp_iload_n (pc := 11) d_Ho_hang_11 rfl ?_
  refine zp_putI (pc := 12) d_Ho_hang_12 f_Ho_31 (hW.hk hi (by omega) (by omega)) (by omega) (Or.inl rfl) ?_
  refine pw_h7 hW hi (by omega) (by omega) (fun h hW => ?_)
  refine wp_return (pc := 15) d_Ho_hang_15 rfl ?_
  exact k _ hW
/-- a hook after a coat left it, but for the mark that it holds one -/
def rlF (F : Int → Int) (n p : Int) : Int → Int := zup (zup (zup (zup F (29 + 8 * n + 5) (bI (F (29 + 8 * n + 0) = 99))) (29 + 8 * n + 0) (F (29 + 8 * n + 0) + bI (¬ F (29 + 8 * n + 0) = 99))) (29 + 8 * n + 6) (F (29 + 8 * n + 6) + 1)) (29 + 8 * n + 7) p
set_option maxRecDepth 100000 in
theorem sp_Ho_release (hE : gOk E) (hB : gB E ≤ B) (hW : CN B S h0 X T i h (F, t, A, N, V)) (hi : i < 6) {n p : Int} (n0 : 0 ≤ n) (n1 : n < 60) (ry : 0 ≤ F (29 + 8 * n + 0) ∧ F (29 + 8 * n + 0) ≤ 99) (h5 : F (29 + 8 * n + 5) = 0) (k : ∀ h1, CN B S h0 X T i h1 (rlF F n p, zup t n (-1), A, N, V) → Q none h1) : Wp E m_Ho_release 0 (gEnt m_Ho_release [.ref (hA B i n), .int (zI p)]) [] h Q := by
  have hb := hA_ge (B := B) n hi
  show Wp E m_Ho_release 0 [some (_), some (_)] [] _ _
  refine wp_aload_n (pc := 0) d_Ho_release_0 rfl ?_
  refine wp_iconst (pc := 1) d_Ho_release_1 ?_
  refine zp_putI (pc := 2) d_Ho_release_2 f_Ho_25 (hW.hk hi (by omega) (by omega)) (by omega) (Or.inl rfl) ?_
  refine pw_h5 hW hi (by omega) (by omega) (fun h hW => ?_)
  refine wp_aload_n (pc := 5) d_Ho_release_5 rfl ?_
  refine wp_dup (pc := 6) d_Ho_release_6 rfl ?_
  refine wp_getfield (pc := 7) d_Ho_release_7 f_Ho_19 (hW.hk hi (by omega) (by omega)) rfl ?_
  try simp (disch := omega) only [zup_ne, zup_eq]
  refine wp_iconst (pc := 10) d_Ho_release_10 ?_
  refine zp_iadd (pc := 11) d_Ho_release_11 ?_
  refine zp_putI (pc := 12) d_Ho_release_12 f_Ho_19 (hW.hk hi (by omega) (by omega)) (by omega) (Or.inl rfl) ?_
  refine pw_h3 hW hi (by omega) (by omega) (fun h hW => ?_)
  refine wp_aload_n (pc := 15) d_Ho_release_15 rfl ?_
  refine wp_iload_n (pc := 16) d_Ho_release_16 rfl ?_
  refine zp_putI (pc := 17) d_Ho_release_17 f_Ho_22 (hW.hk hi (by omega) (by omega)) (by omega) (Or.inl rfl) ?_
  refine pw_h4 hW hi (by omega) (by omega) (fun h hW => ?_)
  refine wp_aload_n (pc := 20) d_Ho_release_20 rfl ?_
  refine wp_getfield (pc := 21) d_Ho_release_21 f_Ho_9 (hW.hk hi (by omega) (by omega)) rfl ?_
  simp (disch := omega) only [zup_ne, zup_eq]
  refine zp_bipush (pc := 24) d_Ho_release_24 (by decide) ?_
  refine zp_icmp_ne (tgt := 37) (pc := 26) d_Ho_release_26 (by decide) ⟨by omega, by omega⟩ ⟨by omega, by omega⟩ (fun c26 => ?_) (fun c26 => ?_)
  · refine wp_aload_n (pc := 37) d_Ho_release_37 rfl ?_
    refine wp_dup (pc := 38) d_Ho_release_38 rfl ?_
    refine wp_getfield (pc := 39) d_Ho_release_39 f_Ho_9 (hW.hk hi (by omega) (by omega)) rfl ?_
    simp (disch := omega) only [zup_ne, zup_eq]
    refine wp_iconst (pc := 42) d_Ho_release_42 ?_
    refine zp_iadd (pc := 43) d_Ho_release_43 ?_
    refine zp_putI (pc := 44) d_Ho_release_44 f_Ho_9 (hW.hk hi (by omega) (by omega)) (by omega) (Or.inl rfl) ?_
    refine pw_h1 hW hi (by omega) (by omega) (fun h hW => ?_)
    refine wp_return (pc := 47) d_Ho_release_47 rfl ?_
    refine k _ (hW.to (fun j _ _ => ?_) (fun _ _ _ => rfl))
    unfold rlF
    first | rw [bI_t c26, bI_f (p := F (29 + 8 * n + 0) = 99) c26] | rw [bI_t c26, bI_f (p := ¬ F (29 + 8 * n + 0) = 99) (fun z => z c26)]
    unfold zup
    (repeat' split) <;> first | rfl | omega | (subst_vars; first | rfl | omega)
  · refine wp_aload_n (pc := 29) d_Ho_release_29 rfl ?_
    refine wp_iconst (pc := 30) d_Ho_release_30 ?_
    refine wp_putfield (pc := 31) d_Ho_release_31 f_Ho_15 (hW.hk hi (by omega) (by omega)) (by omega) rfl rfl (Or.inl rfl) ?_
    refine pw_h2 hW hi (by omega) (by omega) (fun h hW => ?_)
    refine wp_goto (tgt := 47) (pc := 34) d_Ho_release_34 (by decide) ?_
    refine wp_return (pc := 47) d_Ho_release_47 rfl ?_
    refine k _ (hW.to (fun j _ _ => ?_) (fun _ _ _ => rfl))
    unfold rlF
    first | rw [bI_t c26, bI_f (p := F (29 + 8 * n + 0) = 99) c26] | rw [bI_t c26, bI_f (p := ¬ F (29 + 8 * n + 0) = 99) (fun z => z c26)]
    unfold zup
    (repeat' split) <;> first | rfl | omega | (subst_vars; first | rfl | omega)
/-- what a hook tells -/
def tv (F t : Int → Int) (w n : Int) : Int := if w = 0 then F (29 + 8 * n + 0) else if w = 1 then bI (¬ t n = -1) else if w = 2 then F (29 + 8 * n + 5) else bI (t n = -1 ∧ F (29 + 8 * n + 5) = 0)
set_option maxRecDepth 100000 in
theorem sp_Ho_tell0 (hE : gOk E) (hB : gB E ≤ B) (hW : CN B S h0 X T i h (F, t, A, N, V)) (hi : i < 6) {n : Int} (n0 : 0 ≤ n) (n1 : n < 60) (rc : gR (t n)) (ri : 0 ≤ F (29 + 8 * n + 5) ∧ F (29 + 8 * n + 5) ≤ 1) (k : Q (some (.int (zI (tv F t 0 n)))) h) : Wp E m_Ho_tell 0 (gEnt m_Ho_tell [.ref (hA B i n), .int (zI 0)]) [] h Q := by
  show Wp E m_Ho_tell 0 [some (_), some (_)] [] _ _
  refine wp_iload_n (pc := 0) d_Ho_tell_0 rfl ?_
  refine zp_tableIn (x := 0) (tgt := 32) (pc := 1) d_Ho_tell_1 ⟨by decide, by decide⟩ (by decide) (by decide) rfl (by decide) ?_
  refine wp_aload_n (pc := 32) d_Ho_tell_32 rfl ?_
  refine wp_getfield (pc := 33) d_Ho_tell_33 f_Ho_9 (hW.hk hi (by omega) (by omega)) rfl ?_
  refine zp_ireturn (pc := 36) d_Ho_tell_36 rfl ?_
  exact k
set_option maxRecDepth 100000 in
theorem sp_Ho_tell1 (hE : gOk E) (hB : gB E ≤ B) (hW : CN B S h0 X T i h (F, t, A, N, V)) (hi : i < 6) {n : Int} (n0 : 0 ≤ n) (n1 : n < 60) (rc : gR (t n)) (ri : 0 ≤ F (29 + 8 * n + 5) ∧ F (29 + 8 * n + 5) ≤ 1) (k : Q (some (.int (zI (tv F t 1 n)))) h) : Wp E m_Ho_tell 0 (gEnt m_Ho_tell [.ref (hA B i n), .int (zI 1)]) [] h Q := by
  show Wp E m_Ho_tell 0 [some (_), some (_)] [] _ _
  refine wp_iload_n (pc := 0) d_Ho_tell_0 rfl ?_
  refine zp_tableIn (x := 1) (tgt := 37) (pc := 1) d_Ho_tell_1 ⟨by decide, by decide⟩ (by decide) (by decide) rfl (by decide) ?_
  refine wp_aload_n (pc := 37) d_Ho_tell_37 rfl ?_
  refine wv_callV (n := 0) (As := []) (pc := 38) d_Ho_tell_38 s_Ho_37 q_Ho_holdsCoat ⟨by decide, by decide⟩ (hW.hk hi (by omega) (by omega)) rfl rfl rfl rfl (Nat.le_of_ble_eq_true rfl) (Nat.le_of_ble_eq_true rfl) ?_
  refine sp_Ho_holdsCoat hE hB hW hi n0 n1 rc ?_
  refine ⟨_, rfl, ?_⟩
  have k : Q (some (.int (zI (bI (¬ t n = -1))))) h := k
  refine zp_ifb_eq (tgt := 48) (pc := 41) d_Ho_tell_41 (by decide) (fun c41 => ?_) (fun c41 => ?_)
  · refine wp_iconst (pc := 48) d_Ho_tell_48 ?_
    refine zp_ireturn (pc := 49) d_Ho_tell_49 rfl ?_
    first | (rw [bI_t c41] at k; exact k) | (rw [bI_f c41] at k; exact k)
  · refine wp_iconst (pc := 44) d_Ho_tell_44 ?_
    refine wp_goto (tgt := 49) (pc := 45) d_Ho_tell_45 (by decide) ?_
    refine zp_ireturn (pc := 49) d_Ho_tell_49 rfl ?_
    first | (rw [bI_t c41] at k; exact k) | (rw [bI_f c41] at k; exact k)
set_option maxRecDepth 100000 in
theorem sp_Ho_tell2 (hE : gOk E) (hB : gB E ≤ B) (hW : CN B S h0 X T i h (F, t, A, N, V)) (hi : i < 6) {n : Int} (n0 : 0 ≤ n) (n1 : n < 60) (rc : gR (t n)) (ri : 0 ≤ F (29 + 8 * n + 5) ∧ F (29 + 8 * n + 5) ≤ 1) (k : Q (some (.int (zI (tv F t 2 n)))) h) : Wp E m_Ho_tell 0 (gEnt m_Ho_tell [.ref (hA B i n), .int (zI 2)]) [] h Q := by
  show Wp E m_Ho_tell 0 [some (_), some (_)] [] _ _
  refine wp_iload_n (pc := 0) d_Ho_tell_0 rfl ?_
  refine zp_tableIn (x := 2) (tgt := 50) (pc := 1) d_Ho_tell_1 ⟨by decide, by decide⟩ (by decide) (by decide) rfl (by decide) ?_
  refine wp_aload_n (pc := 50) d_Ho_tell_50 rfl ?_
  refine wp_getfield (pc := 51) d_Ho_tell_51 f_Ho_15 (hW.hk hi (by omega) (by omega)) rfl ?_
  have k : Q (some (.int (zI (F (29 + 8 * n + 5))))) h := k
  refine zp_if_eq (tgt := 61) (pc := 54) d_Ho_tell_54 (by decide) ⟨by omega, by omega⟩ (fun c54 => ?_) (fun c54 => ?_)
  · refine wp_iconst (pc := 61) d_Ho_tell_61 ?_
    refine zp_ireturn (pc := 62) d_Ho_tell_62 rfl ?_
    first | (rw [c54] at k; exact k) | (rw [show F (29 + 8 * n + 5) = 1 by omega] at k; exact k)
  · refine wp_iconst (pc := 57) d_Ho_tell_57 ?_
    refine wp_goto (tgt := 62) (pc := 58) d_Ho_tell_58 (by decide) ?_
    refine zp_ireturn (pc := 62) d_Ho_tell_62 rfl ?_
    first | (rw [c54] at k; exact k) | (rw [show F (29 + 8 * n + 5) = 1 by omega] at k; exact k)
set_option maxRecDepth 100000 in
theorem sp_Ho_tell3 (hE : gOk E) (hB : gB E ≤ B) (hW : CN B S h0 X T i h (F, t, A, N, V)) (hi : i < 6) {n : Int} (n0 : 0 ≤ n) (n1 : n < 60) (rc : gR (t n)) (ri : 0 ≤ F (29 + 8 * n + 5) ∧ F (29 + 8 * n + 5) ≤ 1) (k : Q (some (.int (zI (tv F t 3 n)))) h) : Wp E m_Ho_tell 0 (gEnt m_Ho_tell [.ref (hA B i n), .int (zI 3)]) [] h Q := by
  show Wp E m_Ho_tell 0 [some (_), some (_)] [] _ _
  refine wp_iload_n (pc := 0) d_Ho_tell_0 rfl ?_
  refine zp_tableIn (x := 3) (tgt := 63) (pc := 1) d_Ho_tell_1 ⟨by decide, by decide⟩ (by decide) (by decide) rfl (by decide) ?_
  refine wp_aload_n (pc := 63) d_Ho_tell_63 rfl ?_
  refine wv_callV (n := 0) (As := []) (pc := 64) d_Ho_tell_64 s_Ho_41 q_Ho_canHold ⟨by decide, by decide⟩ (hW.hk hi (by omega) (by omega)) rfl rfl rfl rfl (Nat.le_of_ble_eq_true rfl) (Nat.le_of_ble_eq_true rfl) ?_
  refine sp_Ho_canHold hE hB hW hi n0 n1 rc ri ?_
  refine ⟨_, rfl, ?_⟩
  have k : Q (some (.int (zI (bI (t n = -1 ∧ F (29 + 8 * n + 5) = 0))))) h := k
  refine zp_ifb_eq (tgt := 74) (pc := 67) d_Ho_tell_67 (by decide) (fun c67 => ?_) (fun c67 => ?_)
  · refine wp_iconst (pc := 74) d_Ho_tell_74 ?_
    refine zp_ireturn (pc := 75) d_Ho_tell_75 rfl ?_
    first | (rw [bI_t c67] at k; exact k) | (rw [bI_f c67] at k; exact k)
  · refine wp_iconst (pc := 70) d_Ho_tell_70 ?_
    refine wp_goto (tgt := 75) (pc := 71) d_Ho_tell_71 (by decide) ?_
    refine zp_ireturn (pc := 75) d_Ho_tell_75 rfl ?_
    first | (rw [bI_t c67] at k; exact k) | (rw [bI_f c67] at k; exact k)
end S35
