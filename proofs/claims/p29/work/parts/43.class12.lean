/-! ===== the class: a coat leaves the room ===== -/
section S43
variable {E : gE} {B S : Nat} {h0 h : gH} {X : Nat → SC} {T : TC} {i : Nat} {Y : SC} {F t : Int → Int} {A : Nat → Nat} {N : Nat} {V : Nat → Int → Int} {Q : Option Value → gH → Prop}
theorem pigN : ∀ (n m : Nat) (f : Nat → Nat), (∀ i : Nat, i < m → f i < n) → (∀ i j : Nat, i < m → j < m → f i = f j → i = j) → m ≤ n
  | 0, m, f, h1, _ => by
    by_cases q : m = 0
    · omega
    · have := h1 0 (by omega)
      omega
  | n + 1, m, f, h1, h2 => by
    by_cases q : ∃ i : Nat, i < m ∧ f i = n
    · obtain ⟨i0, i1, i2⟩ := q
      have := pigN n (m - 1) (fun i => f (if i < i0 then i else i + 1)) (fun i hi => by
        show f (if i < i0 then i else i + 1) < n
        by_cases z : i < i0
        · rw [if_pos z]
          have a := h1 i (by omega)
          have b : f i ≠ n := fun w => by
            have := h2 i i0 (by omega) i1 (by omega)
            omega
          omega
        · rw [if_neg z]
          have a := h1 (i + 1) (by omega)
          have b : f (i + 1) ≠ n := fun w => by
            have := h2 (i + 1) i0 (by omega) i1 (by omega)
            omega
          omega) (fun i j hi hj hf => by
        have hf' : f (if i < i0 then i else i + 1) = f (if j < i0 then j else j + 1) := hf
        have := h2 _ _ (by split <;> omega) (by split <;> omega) hf'
        split at this <;> split at this <;> omega)
      omega
    · have := pigN n m f (fun i hi => by
        have a := h1 i hi
        have b : f i ≠ n := fun w => q ⟨i, hi, w⟩
        omega) h2
      omega
/-- where a handle is not given yet there is room for one more -/
theorem RI.free (hR : RI F t N V) {z : Int} (z0 : 0 ≤ z) (z1 : z < 6000) (hz : ¬ 0 < F (559 + z)) : F 5 + 1 ≤ 6000 := by
  have hne : ∀ e : Int, 0 ≤ e → e < F 5 → V 0 e ≠ z := fun e e0 e1 q => by
    have := (hR.vl e0 e1).2.2
    rw [q] at this
    exact hz this
  have h5 := hR.1.1
  have := pigN 6000 ((F 5).toNat + 1) (fun k => if k < (F 5).toNat then (V 0 (k : Int)).toNat else z.toNat) (fun k hk => by
    show (if k < (F 5).toNat then (V 0 (k : Int)).toNat else z.toNat) < 6000
    by_cases q : k < (F 5).toNat
    · rw [if_pos q]
      have := (hR.2.1 (k : Int) (by omega) (by omega)).1
      omega
    · rw [if_neg q]
      omega) (fun a b ha hb hab => by
    have hab' : (if a < (F 5).toNat then (V 0 (a : Int)).toNat else z.toNat) = (if b < (F 5).toNat then (V 0 (b : Int)).toNat else z.toNat) := hab
    by_cases qa : a < (F 5).toNat
    · have a1 := (hR.2.1 (a : Int) (by omega) (by omega)).1
      have a2 := hne (a : Int) (by omega) (by omega)
      rw [if_pos qa] at hab'
      by_cases qb : b < (F 5).toNat
      · have b1 := (hR.2.1 (b : Int) (by omega) (by omega)).1
        rw [if_pos qb] at hab'
        have := hR.2.2.1 (a : Int) (b : Int) (by omega) (by omega) (by omega) (by omega) (by omega)
        omega
      · rw [if_neg qb] at hab'
        omega
    · rw [if_neg qa] at hab'
      by_cases qb : b < (F 5).toNat
      · have b1 := (hR.2.1 (b : Int) (by omega) (by omega)).1
        have b2 := hne (b : Int) (by omega) (by omega)
        rw [if_pos qb] at hab'
        omega
      · omega)
  omega
/-- what a hook holds and whose it is stands in no cell of its own -/
theorem CN.gh (hW : CN B S h0 X T i h (F, t, A, N, V)) (hi : i < 6) {n : Int} (n0 : 0 ≤ n) (n1 : n < 60) {F' : Int → Int} (hr : ∀ j : Int, 0 ≤ j → j < 559 → j ≠ 29 + 8 * n + 1 → j ≠ 29 + 8 * n + 2 → F' j = F j) : CN B S h0 X T i h (F', t, A, N, V) := by
  have := hW.wh hi n0 n1 (F' := F') (t' := t) (fun j q0 q1 q => hr j q0 q1 (by omega) (by omega)) (fun _ _ _ _ => rfl)
  rw [hr _ (by omega) (by omega) (by omega) (by omega), hr _ (by omega) (by omega) (by omega) (by omega), hr _ (by omega) (by omega) (by omega) (by omega), hr _ (by omega) (by omega) (by omega) (by omega), hr _ (by omega) (by omega) (by omega) (by omega), hr _ (by omega) (by omega) (by omega) (by omega), gPut_self (hW.hk hi n0 n1)] at this
  exact this
/-- the log after an event -/
def lgD (F : Int → Int) (c e d : Int) : Int → Int := zup (zup (zup (zup (zup F (529 + 3 * (F 13 % 10)) c) (529 + 3 * (F 13 % 10) + 1) e) (529 + 3 * (F 13 % 10) + 2) d) 13 (F 13 + 1)) (tmx c) (F (tmx c) + 1)
set_option maxRecDepth 100000 in
theorem sp_Lg_add (hE : gOk E) (hB : gB E ≤ B) (hW : CN B S h0 X T i h (F, t, A, N, V)) (hi : i < 6) {nv : Int} (h13 : 0 ≤ F 13 ∧ F 13 ≤ nv) (hn : nv ≤ 1000000000) {c e d : Int} (c0 : 0 ≤ c) (c1 : c < 5) (k : ∀ g, CN B S h0 X T i g (lgD F c e d, t, A, N, V) → Q none g) : Wp E m_Lg_add 0 (gEnt m_Lg_add [.ref (sA B i + 8), .int (zI c), .int (zI e), .int (zI d)]) [] h Q := by
  have hb := sA_b B hi
  have hx := tmx_b c0 c1
  show Wp E m_Lg_add 0 [some (_), some (_), some (_), some (_), none] [] _ _
  refine wp_aload_n (pc := 0) d_Lg_add_0 rfl ?_
  refine wp_getfield (pc := 1) d_Lg_add_1 f_Lg_9 (hW.lg hi) rfl ?_
  refine zp_bipush (pc := 4) d_Lg_add_4 (by decide) ?_
  refine wv_callS (n := 2) (As := [_, _]) (pc := 6) d_Lg_add_6 s_Lg_28 q_Ma_floorMod ⟨by decide, by decide⟩ rfl rfl rfl (Nat.le_of_ble_eq_true rfl) (Nat.le_of_ble_eq_true rfl) ?_
  refine sp_Ma_floorMod (by omega) (by omega) (by omega) (by omega) ?_
  refine ⟨_, rfl, ?_⟩
  refine st_i4 (pc := 9) d_Lg_add_9 (by decide) ?_
  refine wp_aload_n (pc := 11) d_Lg_add_11 rfl ?_
  refine wp_getfield (pc := 12) d_Lg_add_12 f_Lg_15 (hW.lg hi) rfl ?_
  refine wp_iload (pc := 15) d_Lg_add_15 rfl ?_
  refine wp_iload_n (pc := 17) d_Lg_add_17 rfl ?_
  refine zp_iastore (pc := 18) d_Lg_add_18 hE.1 (hW.l0 hi) (by omega) (by omega) (by omega) (by decide) ?_
  refine pw_w9 hW hi (by omega) (by omega) (fun h hW => ?_)
  refine wp_aload_n (pc := 19) d_Lg_add_19 rfl ?_
  refine wp_getfield (pc := 20) d_Lg_add_20 f_Lg_19 (hW.lg hi) rfl ?_
  refine wp_iload (pc := 23) d_Lg_add_23 rfl ?_
  refine wp_iload_n (pc := 25) d_Lg_add_25 rfl ?_
  refine zp_iastore (pc := 26) d_Lg_add_26 hE.1 (hW.l1 hi) (by omega) (by omega) (by omega) (by decide) ?_
  refine pw_w10 hW hi (by omega) (by omega) (fun h hW => ?_)
  refine wp_aload_n (pc := 27) d_Lg_add_27 rfl ?_
  refine wp_getfield (pc := 28) d_Lg_add_28 f_Lg_22 (hW.lg hi) rfl ?_
  refine wp_iload (pc := 31) d_Lg_add_31 rfl ?_
  refine wp_iload_n (pc := 33) d_Lg_add_33 rfl ?_
  refine zp_iastore (pc := 34) d_Lg_add_34 hE.1 (hW.l2 hi) (by omega) (by omega) (by omega) (by decide) ?_
  refine pw_w11 hW hi (by omega) (by omega) (fun h hW => ?_)
  refine wp_aload_n (pc := 35) d_Lg_add_35 rfl ?_
  refine wp_dup (pc := 36) d_Lg_add_36 rfl ?_
  refine wp_getfield (pc := 37) d_Lg_add_37 f_Lg_9 (hW.lg hi) rfl ?_
  simp (disch := omega) only [zup_ne, zup_eq]
  refine wp_iconst (pc := 40) d_Lg_add_40 ?_
  refine zp_iadd (pc := 41) d_Lg_add_41 ?_
  refine zp_putI (pc := 42) d_Lg_add_42 f_Lg_9 (hW.lg hi) (by omega) (Or.inl rfl) ?_
  refine pw_l8 hW hi (fun h hW => ?_)
  refine wp_iload_n (pc := 45) d_Lg_add_45 rfl ?_
  refine zp_if_lt (tgt := 64) (pc := 46) d_Lg_add_46 (by decide) ⟨by omega, by omega⟩ (fun c46 => absurd c46 (by omega)) (fun c46 => ?_)
  refine wp_iload_n (pc := 49) d_Lg_add_49 rfl ?_
  refine wp_iconst (pc := 50) d_Lg_add_50 ?_
  refine zp_icmp_ge (tgt := 64) (pc := 51) d_Lg_add_51 (by decide) ⟨by omega, by omega⟩ ⟨by omega, by omega⟩ (fun c51 => absurd c51 (by omega)) (fun c51 => ?_)
  refine wp_aload_n (pc := 54) d_Lg_add_54 rfl ?_
  refine wp_getfield (pc := 55) d_Lg_add_55 f_Lg_25 (hW.lg hi) rfl ?_
  refine wp_iload_n (pc := 58) d_Lg_add_58 rfl ?_
  refine wp_dup2 (pc := 59) d_Lg_add_59 rfl rfl ?_
  refine zp_iaload (pc := 60) d_Lg_add_60 hE.1 (hW.l3 hi) (by omega) (by omega) (by decide) ?_
  rw [cut_at (by omega) (by omega)]
  simp (disch := omega) only [zup_ne, zup_eq]
  refine wp_iconst (pc := 61) d_Lg_add_61 ?_
  refine zp_iadd (pc := 62) d_Lg_add_62 ?_
  refine zp_iastore (pc := 63) d_Lg_add_63 hE.1 (hW.l3 hi) (by omega) (by omega) (by omega) (by decide) ?_
  refine pw_w12 hW hi (by omega) (by omega) (fun h hW => ?_)
  refine wp_return (pc := 64) d_Lg_add_64 rfl ?_
  exact k _ hW
def hoF (F : Int → Int) (n c m : Int) : Int → Int := zup (rlF (zup (lgD F c (hdl F n) (F 0)) 12 (F 12 + 1)) n (F 12 + 1)) 11 (F 11 + m)
set_option maxRecDepth 100000 in
theorem sp_St_handOver (hE : gOk E) (hB : gB E ≤ B) (hW : CN B S h0 X T i h (F, t, A, N, V)) (hi : i < 6) {nv : Int} (hJ : J nv F) (hn : nv ≤ 100000000) (hR : RI F t N V) {n : Int} (n0 : 0 ≤ n) (n1 : n < 60) (hh : F (29 + 8 * n + 1) = 1) {c m : Int} (c0 : 2 ≤ c) (c1 : c < 5) (k : ∀ g, CN B S h0 X T i g (hoF F n c m, zup t n (-1), A, N, fun j => if j = 3 then zup (V 3) (t n) (c - 1) else V j) → Q (some (.int (zI m))) g) : Wp E m_St_handOver 0 (gEnt m_St_handOver [.ref (sA B i), .ref (hA B i n), .int (zI c), .int (zI m)]) [] h Q := by
  have hV := hJ.vd
  have hN := hW.aN hi
  have hG := hR.1
  have hT := hR.rT hN.2
  have hL := hR.rL
  have ho := hR.ow hJ n0 n1 hh
  have hk := hV.2.2.2.1 n n0 n1
  have h5 := (hJ.2.1 n n0 n1 hh).2.2
  have hb := sA_b B hi
  have hx := tmx_b (j := c) (by omega) c1
  have h13 := hV.2.1 13 (by omega) (by omega) (by omega)
  have h12 := hV.2.1 12 (by omega) (by omega) (by omega)
  show Wp E m_St_handOver 0 [some (_), some (_), some (_), some (_)] [] _ _
  refine wp_aload_n (pc := 0) d_St_handOver_0 rfl ?_
  refine wp_getfield (pc := 1) d_St_handOver_1 f_St_24 (hW.st hi) rfl ?_
  refine wp_aload_n (pc := 4) d_St_handOver_4 rfl ?_
  refine wp_getfield (pc := 5) d_St_handOver_5 f_St_140 (hW.hk hi (by omega) (by omega)) rfl ?_
  refine wp_iload_n (pc := 8) d_St_handOver_8 rfl ?_
  refine wp_iconst (pc := 9) d_St_handOver_9 ?_
  refine zp_isub (pc := 10) d_St_handOver_10 ?_
  refine wn_callV (n := 2) (As := [_, _]) (pc := 11) d_St_handOver_11 s_St_167 q_Ha_finish ⟨by decide, by decide⟩ (hW.ha hi) rfl rfl rfl rfl (Nat.le_of_ble_eq_true rfl) (Nat.le_of_ble_eq_true rfl) ?_
  refine sp_Ha_finish hE hB hW hi hG ho.1.1 ho.1.2 (fun g hW => ?_)
  refine ⟨rfl, ?_⟩
  refine wp_aload_n (pc := 14) d_St_handOver_14 rfl ?_
  refine wp_getfield (pc := 15) d_St_handOver_15 f_St_31 (hW.st hi) rfl ?_
  refine wp_iload_n (pc := 18) d_St_handOver_18 rfl ?_
  refine wp_aload_n (pc := 19) d_St_handOver_19 rfl ?_
  refine wv_callV (n := 0) (As := []) (pc := 20) d_St_handOver_20 s_St_119 q_Ho_handle ⟨by decide, by decide⟩ (hW.hk hi (by omega) (by omega)) rfl rfl rfl rfl (Nat.le_of_ble_eq_true rfl) (Nat.le_of_ble_eq_true rfl) ?_
  refine sp_Ho_handle hE hB hW hi n0 n1 ?_
  refine ⟨_, rfl, ?_⟩
  refine wp_aload_n (pc := 23) d_St_handOver_23 rfl ?_
  refine wp_getfield (pc := 24) d_St_handOver_24 f_St_42 (hW.st hi) rfl ?_
  refine wn_callV (n := 3) (As := [_, _, _]) (pc := 27) d_St_handOver_27 s_St_134 q_Lg_add ⟨by decide, by decide⟩ (hW.lg hi) rfl rfl rfl rfl (Nat.le_of_ble_eq_true rfl) (Nat.le_of_ble_eq_true rfl) ?_
  refine sp_Lg_add hE hB hW hi h13 (by omega) (by omega) c1 (fun g hW => ?_)
  refine ⟨rfl, ?_⟩
  refine wp_aload_n (pc := 30) d_St_handOver_30 rfl ?_
  refine wp_dup (pc := 31) d_St_handOver_31 rfl ?_
  refine wp_getfield (pc := 32) d_St_handOver_32 f_St_48 (hW.st hi) rfl ?_
  unfold lgD
  simp (disch := omega) only [zup_ne, zup_eq]
  refine wp_iconst (pc := 35) d_St_handOver_35 ?_
  refine zp_iadd (pc := 36) d_St_handOver_36 ?_
  refine zp_putI (pc := 37) d_St_handOver_37 f_St_48 (hW.st hi) (by omega) (Or.inl rfl) ?_
  refine pw_s8 hW hi (fun h hW => ?_)
  refine wp_aload_n (pc := 40) d_St_handOver_40 rfl ?_
  refine wp_aload_n (pc := 41) d_St_handOver_41 rfl ?_
  refine wp_getfield (pc := 42) d_St_handOver_42 f_St_48 (hW.st hi) rfl ?_
  try simp (disch := omega) only [zup_ne, zup_eq]
  refine wn_callV (n := 1) (As := [_]) (pc := 45) d_St_handOver_45 s_St_156 q_Ho_release ⟨by decide, by decide⟩ (hW.hk hi (by omega) (by omega)) rfl rfl rfl rfl (Nat.le_of_ble_eq_true rfl) (Nat.le_of_ble_eq_true rfl) ?_
  refine sp_Ho_release hE hB hW hi n0 n1 (by simp (disch := omega) only [lgD, zup_ne]; omega) (by simp (disch := omega) only [lgD, zup_ne]; exact h5) (fun g hW => ?_)
  refine ⟨rfl, ?_⟩
  refine wp_aload_n (pc := 48) d_St_handOver_48 rfl ?_
  refine wp_dup (pc := 49) d_St_handOver_49 rfl ?_
  refine wp_getfield (pc := 50) d_St_handOver_50 f_St_45 (hW.st hi) rfl ?_
  simp (disch := omega) only [rlF, lgD, zup_ne, zup_eq]
  refine wp_iload_n (pc := 53) d_St_handOver_53 rfl ?_
  refine zp_iadd (pc := 54) d_St_handOver_54 ?_
  refine zp_putI (pc := 55) d_St_handOver_55 f_St_45 (hW.st hi) (by omega) (Or.inl rfl) ?_
  refine pw_s7 hW hi (fun h hW => ?_)
  refine wp_iload_n (pc := 58) d_St_handOver_58 rfl ?_
  refine zp_ireturn (pc := 59) d_St_handOver_59 rfl ?_
  exact k _ hW
end S43
