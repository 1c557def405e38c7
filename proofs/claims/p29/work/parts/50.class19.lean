/-! ===== the class: copies ===== -/
section S50
variable {E : gE} {B S : Nat} {h0 h : gH} {X : Nat → SC} {T : TC} {i : Nat} {Y : SC} {F t : Int → Int} {A : Nat → Nat} {N : Nat} {V : Nat → Int → Int} {Q : Option Value → gH → Prop}
variable {M : gMd} {pc : Nat} {ls : List (Option Value)} {st : List Value}
set_option maxRecDepth 100000 in
theorem sp_Ho_copyFrom (hE : gOk E) (hB : gB E ≤ B) (hW : CN B S h0 X T i h (F, t, A, N, V)) (hi : i < 6) {j : Nat} (hj6 : j < 6) (hj : j ≠ i) {G u : Int → Int} {A2 : Nat → Nat} {N2 : Nat} {V2 : Nat → Int → Int} (hX : X j = (G, u, A2, N2, V2)) {n : Int} (n0 : 0 ≤ n) (n1 : n < 60) (ri : 0 ≤ G (29 + 8 * n + 5) ∧ G (29 + 8 * n + 5) ≤ 1) (k : ∀ g, CN B S h0 X T i g (fun q => if 29 + 8 * n ≤ q ∧ q < 29 + 8 * n + 8 then G q else F q, fun m => if m = n then u m else t m, A, N, V) → Q none g) : Wp E m_Ho_copyFrom 0 (gEnt m_Ho_copyFrom [.ref (hA B i n), .ref (hA B j n)]) [] h Q := by
  have hb := hA_ge (B := B) n hi
  show Wp E m_Ho_copyFrom 0 [some (_), some (_)] [] _ _
  refine wp_aload_n (pc := 0) d_Ho_copyFrom_0 rfl ?_
  refine wp_aload_n (pc := 1) d_Ho_copyFrom_1 rfl ?_
  refine wp_getfield (pc := 2) d_Ho_copyFrom_2 f_Ho_9 ((hW.sw2 hj hX).hk hj6 (by omega) (by omega)) rfl ?_
  refine zp_putI (pc := 5) d_Ho_copyFrom_5 f_Ho_9 (hW.hk hi (by omega) (by omega)) (by omega) (Or.inl rfl) ?_
  refine pw_h1 hW hi (by omega) (by omega) (fun h hW => ?_)
  refine wp_aload_n (pc := 8) d_Ho_copyFrom_8 rfl ?_
  refine wp_aload_n (pc := 9) d_Ho_copyFrom_9 rfl ?_
  refine wp_getfield (pc := 10) d_Ho_copyFrom_10 f_Ho_15 ((hW.sw2 hj hX).hk hj6 (by omega) (by omega)) rfl ?_
  refine wp_putfield (pc := 13) d_Ho_copyFrom_13 f_Ho_15 (hW.hk hi (by omega) (by omega)) (by omega) (by rcases (show G (29 + 8 * n + 5) = 0 ∨ G (29 + 8 * n + 5) = 1 by omega) with q | q <;> rw [q] <;> rfl) (by rcases (show G (29 + 8 * n + 5) = 0 ∨ G (29 + 8 * n + 5) = 1 by omega) with q | q <;> rw [q] <;> rfl) (Or.inl rfl) ?_
  refine pw_h2 hW hi (by omega) (by omega) (fun h hW => ?_)
  refine wp_aload_n (pc := 16) d_Ho_copyFrom_16 rfl ?_
  refine wp_aload_n (pc := 17) d_Ho_copyFrom_17 rfl ?_
  refine wp_getfield (pc := 18) d_Ho_copyFrom_18 f_Ho_19 ((hW.sw2 hj hX).hk hj6 (by omega) (by omega)) rfl ?_
  refine zp_putI (pc := 21) d_Ho_copyFrom_21 f_Ho_19 (hW.hk hi (by omega) (by omega)) (by omega) (Or.inl rfl) ?_
  refine pw_h3 hW hi (by omega) (by omega) (fun h hW => ?_)
  refine wp_aload_n (pc := 24) d_Ho_copyFrom_24 rfl ?_
  refine wp_aload_n (pc := 25) d_Ho_copyFrom_25 rfl ?_
  refine wp_getfield (pc := 26) d_Ho_copyFrom_26 f_Ho_22 ((hW.sw2 hj hX).hk hj6 (by omega) (by omega)) rfl ?_
  refine zp_putI (pc := 29) d_Ho_copyFrom_29 f_Ho_22 (hW.hk hi (by omega) (by omega)) (by omega) (Or.inl rfl) ?_
  refine pw_h4 hW hi (by omega) (by omega) (fun h hW => ?_)
  refine wp_aload_n (pc := 32) d_Ho_copyFrom_32 rfl ?_
  refine wp_aload_n (pc := 33) d_Ho_copyFrom_33 rfl ?_
  refine wp_getfield (pc := 34) d_Ho_copyFrom_34 f_Ho_25 ((hW.sw2 hj hX).hk hj6 (by omega) (by omega)) rfl ?_
  refine zp_putI (pc := 37) d_Ho_copyFrom_37 f_Ho_25 (hW.hk hi (by omega) (by omega)) (by omega) (Or.inl rfl) ?_
  refine pw_h5 hW hi (by omega) (by omega) (fun h hW => ?_)
  refine wp_aload_n (pc := 40) d_Ho_copyFrom_40 rfl ?_
  refine wp_aload_n (pc := 41) d_Ho_copyFrom_41 rfl ?_
  refine wp_getfield (pc := 42) d_Ho_copyFrom_42 f_Ho_28 ((hW.sw2 hj hX).hk hj6 (by omega) (by omega)) rfl ?_
  refine zp_putI (pc := 45) d_Ho_copyFrom_45 f_Ho_28 (hW.hk hi (by omega) (by omega)) (by omega) (Or.inl rfl) ?_
  refine pw_h6 hW hi (by omega) (by omega) (fun h hW => ?_)
  refine wp_aload_n (pc := 48) d_Ho_copyFrom_48 rfl ?_
  refine wp_aload_n (pc := 49) d_Ho_copyFrom_49 rfl ?_
  refine wp_getfield (pc := 50) d_Ho_copyFrom_50 f_Ho_31 ((hW.sw2 hj hX).hk hj6 (by omega) (by omega)) rfl ?_
  refine zp_putI (pc := 53) d_Ho_copyFrom_53 f_Ho_31 (hW.hk hi (by omega) (by omega)) (by omega) (Or.inl rfl) ?_
  refine pw_h7 hW hi (by omega) (by omega) (fun h hW => ?_)
  refine wp_return (pc := 56) d_Ho_copyFrom_56 rfl ?_
  refine k _ (((hW.gh hi n0 n1 (F' := fun q => if 29 + 8 * n ≤ q ∧ q < 29 + 8 * n + 8 then G q else F q) fun q q0 q1 q2 q3 => ?_).to (fun _ _ _ => rfl) fun m _ _ => ?_))
  · by_cases w : 29 + 8 * n ≤ q ∧ q < 29 + 8 * n + 8
    · rw [if_pos w]
      have w2 : q = 29 + 8 * n + 0 ∨ q = 29 + 8 * n + 3 ∨ q = 29 + 8 * n + 4 ∨ q = 29 + 8 * n + 5 ∨ q = 29 + 8 * n + 6 ∨ q = 29 + 8 * n + 7 := by omega
      rcases w2 with w2 | w2 | w2 | w2 | w2 | w2 <;> (rw [w2]; simp (disch := omega) only [zup_ne, zup_eq])
    · rw [if_neg w]
      simp (disch := omega) only [zup_ne]
  · show (if m = n then u m else t m) = zup t n (u n) m
    unfold zup
    by_cases w : m = n
    · rw [if_pos w, if_pos w, w]
    · rw [if_neg w, if_neg w]
set_option maxRecDepth 100000 in
theorem lp_Rk_copyFrom (hE : gOk E) (hB : gB E ≤ B) (hi : i < 6) {j : Nat} (hj6 : j < 6) (hj : j ≠ i) {G u : Int → Int} {A2 : Nat → Nat} {N2 : Nat} {V2 : Nat → Int → Int} (hX : X j = (G, u, A2, N2, V2)) {nv : Int} (hVG : Vd nv G) {r : Int} (r0 : 0 ≤ r) (r1 : r < 5) (k : ∀ g, CN B S h0 X T i g (fun q => if (14 + 3 * r ≤ q ∧ q < 14 + 3 * r + 3) ∨ (29 + 96 * r ≤ q ∧ q < 29 + 96 * r + 8 * 12) then G q else F q, fun m => if 12 * r ≤ m ∧ m < 12 * r + 12 then u m else t m, A, N, V) → Q none g) : ∀ (d x : Nat) (h : gH), x + d = 12 → CN B S h0 X T i h (fun q => if (14 + 3 * r ≤ q ∧ q < 14 + 3 * r + 3) ∨ (29 + 96 * r ≤ q ∧ q < 29 + 96 * r + 8 * (x : Int)) then G q else F q, fun m => if 12 * r ≤ m ∧ m < 12 * r + (x : Int) then u m else t m, A, N, V) → Wp E m_Rk_copyFrom 26 [some (.ref (rA B i r)), some (.ref (rA B j r)), some (.int (zI x))] [] h Q := by
  intro d
  induction d with
  | zero =>
    intro x h hx hW
    obtain rfl : x = 12 := by omega
    refine wp_iload_n (pc := 26) d_Rk_copyFrom_26 rfl ?_
    refine zp_bipush (pc := 27) d_Rk_copyFrom_27 (by decide) ?_
    refine zp_icmp_ge (tgt := 53) (pc := 29) d_Rk_copyFrom_29 (by decide) ⟨by omega, by omega⟩ ⟨by omega, by omega⟩ (fun c29 => ?_) (fun c29 => absurd c29 (by omega))
    refine wp_return (pc := 53) d_Rk_copyFrom_53 rfl ?_
    exact k _ hW
  | succ d ih =>
    intro x h hx hW
    have hri := (hVG.2.2.2.1 (12 * r + x) (by omega) (by omega)).2.2.2.2.2.1
    refine wp_iload_n (pc := 26) d_Rk_copyFrom_26 rfl ?_
    refine zp_bipush (pc := 27) d_Rk_copyFrom_27 (by decide) ?_
    refine zp_icmp_ge (tgt := 53) (pc := 29) d_Rk_copyFrom_29 (by decide) ⟨by omega, by omega⟩ ⟨by omega, by omega⟩ (fun c29 => absurd c29 (by omega)) (fun c29 => ?_)
    refine wp_aload_n (pc := 32) d_Rk_copyFrom_32 rfl ?_
    refine wp_getfield (pc := 33) d_Rk_copyFrom_33 f_Rk_11 (hW.rk hi (by omega) (by omega)) rfl ?_
    refine wp_iload_n (pc := 36) d_Rk_copyFrom_36 rfl ?_
    refine zp_aaload (pc := 37) d_Rk_copyFrom_37 (f := fun m : Int => .ref (sA B i + 17 + 14 * r.toNat + m.toNat)) hE.2.2.2.1 (hW.ra hi r0 r1) (by omega) (by omega) (by decide) ?_
    rw [hA_km B i r0 (by omega) (by omega)]
    refine wp_aload_n (pc := 38) d_Rk_copyFrom_38 rfl ?_
    refine wp_getfield (pc := 39) d_Rk_copyFrom_39 f_Rk_11 ((hW.sw2 hj hX).rk hj6 (by omega) (by omega)) rfl ?_
    refine wp_iload_n (pc := 42) d_Rk_copyFrom_42 rfl ?_
    refine zp_aaload (pc := 43) d_Rk_copyFrom_43 (f := fun m : Int => .ref (sA B j + 17 + 14 * r.toNat + m.toNat)) hE.2.2.2.1 ((hW.sw2 hj hX).ra hj6 r0 r1) (by omega) (by omega) (by decide) ?_
    rw [hA_km B j r0 (by omega) (by omega)]
    refine wn_callV (n := 1) (As := [_]) (pc := 44) d_Rk_copyFrom_44 s_Rk_56 q_Ho_copyFrom ⟨by decide, by decide⟩ (hW.hk hi (by omega) (by omega)) rfl rfl rfl rfl (Nat.le_of_ble_eq_true rfl) (Nat.le_of_ble_eq_true rfl) ?_
    refine sp_Ho_copyFrom hE hB hW hi hj6 hj hX (by omega) (by omega) hri (fun g hW => ?_)
    refine ⟨rfl, ?_⟩
    refine st_c2 (pc := 47) d_Rk_copyFrom_47 (by decide) ?_
    refine wp_goto (tgt := 26) (pc := 50) d_Rk_copyFrom_50 (by decide) ?_
    have e : ((x + 1 : Nat) : Int) = (x : Int) + 1 := by omega
    have zz := ih (x + 1) _ (by omega) (hW.to (fun q _ _ => ?_) (fun m _ _ => ?_))
    · rw [e] at zz
      exact zz
    · rw [e]
      show (if _ then G q else F q) = (if _ then G q else if _ then G q else F q)
      (repeat' split) <;> first | rfl | omega
    · rw [e]
      show (if _ then u m else t m) = (if _ then u m else if _ then u m else t m)
      (repeat' split) <;> first | rfl | omega
set_option maxRecDepth 100000 in
theorem sp_Rk_copyFrom (hE : gOk E) (hB : gB E ≤ B) (hW : CN B S h0 X T i h (F, t, A, N, V)) (hi : i < 6) {j : Nat} (hj6 : j < 6) (hj : j ≠ i) {G u : Int → Int} {A2 : Nat → Nat} {N2 : Nat} {V2 : Nat → Int → Int} (hX : X j = (G, u, A2, N2, V2)) {nv : Int} (hVG : Vd nv G) {r : Int} (r0 : 0 ≤ r) (r1 : r < 5) (k : ∀ g, CN B S h0 X T i g (fun q => if (14 + 3 * r ≤ q ∧ q < 14 + 3 * r + 3) ∨ (29 + 96 * r ≤ q ∧ q < 29 + 96 * r + 8 * 12) then G q else F q, fun m => if 12 * r ≤ m ∧ m < 12 * r + 12 then u m else t m, A, N, V) → Q none g) : Wp E m_Rk_copyFrom 0 (gEnt m_Rk_copyFrom [.ref (rA B i r), .ref (rA B j r)]) [] h Q := by
  have hb := rA_ge (B := B) r hi
  have hrr := hVG.2.2.1 r r0 r1
  show Wp E m_Rk_copyFrom 0 [some (_), some (_), none] [] _ _
  refine wp_aload_n (pc := 0) d_Rk_copyFrom_0 rfl ?_
  refine wp_aload_n (pc := 1) d_Rk_copyFrom_1 rfl ?_
  refine wp_getfield (pc := 2) d_Rk_copyFrom_2 f_Rk_17 ((hW.sw2 hj hX).rk hj6 (by omega) (by omega)) rfl ?_
  refine zp_putI (pc := 5) d_Rk_copyFrom_5 f_Rk_17 (hW.rk hi (by omega) (by omega)) (by omega) (Or.inl rfl) ?_
  refine pw_k1 hW hi (by omega) (by omega) (fun h hW => ?_)
  refine wp_aload_n (pc := 8) d_Rk_copyFrom_8 rfl ?_
  refine wp_aload_n (pc := 9) d_Rk_copyFrom_9 rfl ?_
  refine wp_getfield (pc := 10) d_Rk_copyFrom_10 f_Rk_21 ((hW.sw2 hj hX).rk hj6 (by omega) (by omega)) rfl ?_
  refine zp_putI (pc := 13) d_Rk_copyFrom_13 f_Rk_21 (hW.rk hi (by omega) (by omega)) (by omega) (Or.inl rfl) ?_
  refine pw_k2 hW hi (by omega) (by omega) (fun h hW => ?_)
  refine wp_aload_n (pc := 16) d_Rk_copyFrom_16 rfl ?_
  refine wp_aload_n (pc := 17) d_Rk_copyFrom_17 rfl ?_
  refine wp_getfield (pc := 18) d_Rk_copyFrom_18 f_Rk_24 ((hW.sw2 hj hX).rk hj6 (by omega) (by omega)) rfl ?_
  refine wp_putfield (pc := 21) d_Rk_copyFrom_21 f_Rk_24 (hW.rk hi (by omega) (by omega)) (by omega) (by rcases (show G (14 + 3 * r + 2) = 0 ∨ G (14 + 3 * r + 2) = 1 by omega) with q | q <;> rw [q] <;> rfl) (by rcases (show G (14 + 3 * r + 2) = 0 ∨ G (14 + 3 * r + 2) = 1 by omega) with q | q <;> rw [q] <;> rfl) (Or.inl rfl) ?_
  refine pw_k3 hW hi (by omega) (by omega) (fun h hW => ?_)
  refine wp_iconst (pc := 24) d_Rk_copyFrom_24 ?_
  refine st_i2 (pc := 25) d_Rk_copyFrom_25 (by decide) ?_
  refine lp_Rk_copyFrom hE hB hi hj6 hj hX hVG r0 r1 k 12 0 _ rfl (hW.to (fun q _ _ => ?_) (fun m _ _ => ?_))
  · show (if _ then G q else F q) = _
    by_cases w : 14 + 3 * r ≤ q ∧ q < 14 + 3 * r + 3
    · rw [if_pos (Or.inl w)]
      have w2 : q = 14 + 3 * r + 0 ∨ q = 14 + 3 * r + 1 ∨ q = 14 + 3 * r + 2 := by omega
      rcases w2 with w2 | w2 | w2 <;> (rw [w2]; simp (disch := omega) only [zup_ne, zup_eq])
    · rw [if_neg (by omega)]
      simp (disch := omega) only [zup_ne]
  · exact if_neg (by omega)
set_option maxRecDepth 100000 in
theorem sp_Ha_copyFrom (hE : gOk E) (hB : gB E ≤ B) (hW : CN B S h0 X T i h (F, t, A, N, V)) (hi : i < 6) {j : Nat} (hj6 : j < 6) (hj : j ≠ i) {G u : Int → Int} {A2 : Nat → Nat} {N2 : Nat} {V2 : Nat → Int → Int} (hX : X j = (G, u, A2, N2, V2)) (hG : 0 ≤ F 5 ∧ F 5 ≤ N) (hG2 : 0 ≤ G 5 ∧ G 5 ≤ N2) (k : ∀ (g : gH) (A3 : Nat → Nat) (N3 : Nat) (V3 : Nat → Int → Int), CN B S h0 X T i g (zup F 5 (G 5), t, A3, N3, V3) → G 5 ≤ (N3 : Int) → (∀ q : Nat, q < 4 → ∀ e : Int, 0 ≤ e → e < G 5 → V3 q e = V2 q e) → Q none g) : Wp E m_Ha_copyFrom 0 (gEnt m_Ha_copyFrom [.ref (sA B i + 2), .ref (sA B j + 2)]) [] h Q := by
  have hb := sA_b B hi
  have hN := hW.aN hi
  have hN2 := (hW.sw2 hj hX).aN hj6
  show Wp E m_Ha_copyFrom 0 [some (_), some (_)] [] _ _
  refine wp_aload_n (pc := 0) d_Ha_copyFrom_0 rfl ?_
  refine wp_aload_n (pc := 1) d_Ha_copyFrom_1 rfl ?_
  refine wp_getfield (pc := 2) d_Ha_copyFrom_2 f_Ha_9 ((hW.sw2 hj hX).ha hj6) rfl ?_
  refine wn_callV (n := 1) (As := [_]) (pc := 5) d_Ha_copyFrom_5 s_Ha_45 q_Ha_makeRoom ⟨by decide, by decide⟩ (hW.ha hi) rfl rfl rfl rfl (Nat.le_of_ble_eq_true rfl) (Nat.le_of_ble_eq_true rfl) ?_
  refine sp_Ha_makeRoom hE hB hW hi hG (by omega) (by omega) (fun g A3 N3 V3 hW hn3 hv => ?_)
  refine ⟨rfl, ?_⟩
  have hN3 := hW.aN hi
  refine wp_aload_n (pc := 8) d_Ha_copyFrom_8 rfl ?_
  refine wp_aload_n (pc := 9) d_Ha_copyFrom_9 rfl ?_
  refine wp_getfield (pc := 10) d_Ha_copyFrom_10 f_Ha_9 ((hW.sw2 hj hX).ha hj6) rfl ?_
  refine zp_putI (pc := 13) d_Ha_copyFrom_13 f_Ha_9 (hW.ha hi) (by omega) (Or.inl rfl) ?_
  refine pw_g0 hW hi (fun h hW => ?_)
  refine wp_aload_n (pc := 16) d_Ha_copyFrom_16 rfl ?_
  refine wp_getfield (pc := 17) d_Ha_copyFrom_17 f_Ha_15 ((hW.sw2 hj hX).ha hj6) rfl ?_
  refine wp_iconst (pc := 20) d_Ha_copyFrom_20 ?_
  refine wp_aload_n (pc := 21) d_Ha_copyFrom_21 rfl ?_
  refine wp_getfield (pc := 22) d_Ha_copyFrom_22 f_Ha_15 (hW.ha hi) rfl ?_
  refine wp_iconst (pc := 25) d_Ha_copyFrom_25 ?_
  refine wp_aload_n (pc := 26) d_Ha_copyFrom_26 rfl ?_
  refine wp_getfield (pc := 27) d_Ha_copyFrom_27 f_Ha_9 (hW.ha hi) rfl ?_
  rw [zup_eq]
  refine zp_acpy (pc := 30) d_Ha_copyFrom_30 s_Ha_58 ⟨by decide, by decide⟩ hE.1 ((hW.sw2 hj hX).ar hj6 (j := 0) (by omega)) (hW.ar hi (j := 0) (by omega)) (Nat.le_of_lt (Nat.lt_of_le_of_lt hB (hW.aB hi (by omega)))) (by omega) (by omega) (by omega) (by omega) (by decide) ?_
  refine pw_a hW hi (by omega) (fun h hW => ?_)
  refine wp_aload_n (pc := 33) d_Ha_copyFrom_33 rfl ?_
  refine wp_getfield (pc := 34) d_Ha_copyFrom_34 f_Ha_19 ((hW.sw2 hj hX).ha hj6) rfl ?_
  refine wp_iconst (pc := 37) d_Ha_copyFrom_37 ?_
  refine wp_aload_n (pc := 38) d_Ha_copyFrom_38 rfl ?_
  refine wp_getfield (pc := 39) d_Ha_copyFrom_39 f_Ha_19 (hW.ha hi) rfl ?_
  refine wp_iconst (pc := 42) d_Ha_copyFrom_42 ?_
  refine wp_aload_n (pc := 43) d_Ha_copyFrom_43 rfl ?_
  refine wp_getfield (pc := 44) d_Ha_copyFrom_44 f_Ha_9 (hW.ha hi) rfl ?_
  rw [zup_eq]
  refine zp_acpy (pc := 47) d_Ha_copyFrom_47 s_Ha_58 ⟨by decide, by decide⟩ hE.1 ((hW.sw2 hj hX).ar hj6 (j := 1) (by omega)) (hW.ar hi (j := 1) (by omega)) (Nat.le_of_lt (Nat.lt_of_le_of_lt hB (hW.aB hi (by omega)))) (by omega) (by omega) (by omega) (by omega) (by decide) ?_
  refine pw_a hW hi (by omega) (fun h hW => ?_)
  refine wp_aload_n (pc := 50) d_Ha_copyFrom_50 rfl ?_
  refine wp_getfield (pc := 51) d_Ha_copyFrom_51 f_Ha_22 ((hW.sw2 hj hX).ha hj6) rfl ?_
  refine wp_iconst (pc := 54) d_Ha_copyFrom_54 ?_
  refine wp_aload_n (pc := 55) d_Ha_copyFrom_55 rfl ?_
  refine wp_getfield (pc := 56) d_Ha_copyFrom_56 f_Ha_22 (hW.ha hi) rfl ?_
  refine wp_iconst (pc := 59) d_Ha_copyFrom_59 ?_
  refine wp_aload_n (pc := 60) d_Ha_copyFrom_60 rfl ?_
  refine wp_getfield (pc := 61) d_Ha_copyFrom_61 f_Ha_9 (hW.ha hi) rfl ?_
  rw [zup_eq]
  refine zp_acpy (pc := 64) d_Ha_copyFrom_64 s_Ha_58 ⟨by decide, by decide⟩ hE.1 ((hW.sw2 hj hX).ar hj6 (j := 2) (by omega)) (hW.ar hi (j := 2) (by omega)) (Nat.le_of_lt (Nat.lt_of_le_of_lt hB (hW.aB hi (by omega)))) (by omega) (by omega) (by omega) (by omega) (by decide) ?_
  refine pw_a hW hi (by omega) (fun h hW => ?_)
  refine wp_aload_n (pc := 67) d_Ha_copyFrom_67 rfl ?_
  refine wp_getfield (pc := 68) d_Ha_copyFrom_68 f_Ha_25 ((hW.sw2 hj hX).ha hj6) rfl ?_
  refine wp_iconst (pc := 71) d_Ha_copyFrom_71 ?_
  refine wp_aload_n (pc := 72) d_Ha_copyFrom_72 rfl ?_
  refine wp_getfield (pc := 73) d_Ha_copyFrom_73 f_Ha_25 (hW.ha hi) rfl ?_
  refine wp_iconst (pc := 76) d_Ha_copyFrom_76 ?_
  refine wp_aload_n (pc := 77) d_Ha_copyFrom_77 rfl ?_
  refine wp_getfield (pc := 78) d_Ha_copyFrom_78 f_Ha_9 (hW.ha hi) rfl ?_
  rw [zup_eq]
  refine zp_acpy (pc := 81) d_Ha_copyFrom_81 s_Ha_58 ⟨by decide, by decide⟩ hE.1 ((hW.sw2 hj hX).ar hj6 (j := 3) (by omega)) (hW.ar hi (j := 3) (by omega)) (Nat.le_of_lt (Nat.lt_of_le_of_lt hB (hW.aB hi (by omega)))) (by omega) (by omega) (by omega) (by omega) (by decide) ?_
  refine pw_a hW hi (by omega) (fun h hW => ?_)
  refine wp_return (pc := 84) d_Ha_copyFrom_84 rfl ?_
  refine k _ _ _ _ hW hn3 fun q q4 e e0 e1 => ?_
  have hq4 : q = 0 ∨ q = 1 ∨ q = 2 ∨ q = 3 := by omega
  rcases hq4 with rfl | rfl | rfl | rfl <;> simp [e1]
end S50
