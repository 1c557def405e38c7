/-! ===== the class: its text, history, snapshot ===== -/
section S65
variable {E : gE} {B S : Nat} {h0 h : gH} {X : Nat → SC} {T : TC} {i : Nat} {Y : SC} {F t : Int → Int} {A : Nat → Nat} {N : Nat} {V : Nat → Int → Int} {Q : Option Value → gH → Prop}
variable {b nw sz ln tc : Int} {ch tg cp : Int → Int}
set_option maxRecDepth 100000 in
theorem sp_Yt_undo (hE : gOk E) (hB : gB E ≤ B) (hW : CN B S h0 X ((b, nw, sz, ln, tc), ch, tg, cp) 0 h (F, t, A, N, V)) (n0 : 0 ≤ nw ∧ nw < 4) (z0 : 0 ≤ sz ∧ sz ≤ 4) {nv : Int} (hG : 0 ≤ F 5 ∧ F 5 ≤ N) (hV : Vd nv (xR (X (2 + nw.toNat)))) (hR : RI (xR (X (2 + nw.toNat))) (xT (X (2 + nw.toNat))) (xN (X (2 + nw.toNat))) (xV (X (2 + nw.toNat)))) (k0 : sz = 0 → Q (some (.int (zI (-5)))) h) (k1 : ¬ sz = 0 → ∀ (g : gH) (A3 : Nat → Nat) (N3 : Nat) (V3 : Nat → Int → Int), CN B S h0 X ((b, (nw - 1) % 4, sz - 1, ln, tc), ch, tg, cp) 0 g (xR (X (2 + nw.toNat)), xT (X (2 + nw.toNat)), A3, N3, V3) → RI (xR (X (2 + nw.toNat))) (xT (X (2 + nw.toNat))) N3 V3 → Q (some (.int (zI (sz - 1)))) g) : Wp E m_Yt_undo 0 (gEnt m_Yt_undo [.ref B]) [] h Q := by
  show Wp E m_Yt_undo 0 [some (_)] [] _ _
  refine wp_aload_n (pc := 0) d_Yt_undo_0 rfl ?_
  refine wp_getfield (pc := 1) d_Yt_undo_1 f_Yt_26 hW.yt2 rfl ?_
  refine wp_aload_n (pc := 4) d_Yt_undo_4 rfl ?_
  refine wp_getfield (pc := 5) d_Yt_undo_5 f_Yt_10 hW.yt2 rfl ?_
  refine wv_callV (n := 1) (As := [_]) (pc := 8) d_Yt_undo_8 s_Yt_169 q_Hi_takeBack ⟨by decide, by decide⟩ hW.hy2 rfl rfl rfl rfl (Nat.le_of_ble_eq_true rfl) (Nat.le_of_ble_eq_true rfl) ?_
  refine sp_Hi_takeBack hE hB hW n0 z0 hG hV hR (fun q => ?_) (fun q g A3 N3 V3 hW hR3 => ?_)
  · refine ⟨_, rfl, ?_⟩
    refine zp_if_eq (tgt := 24) (pc := 11) d_Yt_undo_11 (by decide) ⟨by omega, by omega⟩ (fun c11 => ?_) (fun c11 => absurd c11 (by omega))
    refine zp_bipush (pc := 24) d_Yt_undo_24 (by decide) ?_
    refine zp_ireturn (pc := 26) d_Yt_undo_26 rfl ?_
    exact k0 q
  · refine ⟨_, rfl, ?_⟩
    refine zp_if_eq (tgt := 24) (pc := 11) d_Yt_undo_11 (by decide) ⟨by omega, by omega⟩ (fun c11 => absurd c11 (by omega)) (fun c11 => ?_)
    refine wp_aload_n (pc := 14) d_Yt_undo_14 rfl ?_
    refine wp_getfield (pc := 15) d_Yt_undo_15 f_Yt_26 hW.yt2 rfl ?_
    refine wp_getfield (pc := 18) d_Yt_undo_18 f_Yt_173 hW.hy2 rfl ?_
    refine wp_goto (tgt := 26) (pc := 21) d_Yt_undo_21 (by decide) ?_
    refine zp_ireturn (pc := 26) d_Yt_undo_26 rfl ?_
    exact k1 q _ _ _ _ hW hR3
set_option maxRecDepth 100000 in
theorem sp_Yt_keep (hE : gOk E) (hB : gB E ≤ B) (hW : CN B S h0 X ((b, nw, sz, ln, tc), ch, tg, cp) 0 h (F, t, A, N, V)) {nv : Int} (hJ : J nv F) (hn : nv ≤ 80000000) (hR : RI F t N V) (hGA : ∀ q : Nat, q < 6 → 0 ≤ xR (X q) 5 ∧ xR (X q) 5 ≤ (xN (X q) : Int)) (k : ∀ (g : gH) (A3 : Nat → Nat) (N3 : Nat) (V3 : Nat → Int → Int), CN B S h0 (upX X 1 (F, t, A3, N3, V3)) ((1, nw, sz, ln, tc), ch, tg, cp) 0 g (F, t, A, N, V) → RI F t N3 V3 → Q (some (.int (zI (sm (fun x => F (29 + 8 * x + 1)) 60)))) g) : Wp E m_Yt_keep 0 (gEnt m_Yt_keep [.ref B]) [] h Q := by
  have hi : (0 : Nat) < 6 := by decide
  have hn2 : nv ≤ 100000000 := by omega
  have hV := hJ.vd
  have hN := hW.aN hi
  have hG := hR.1
  have hT := hR.rT hN.2
  have hL := hR.rL
  have hs := hV.1
  have hb := sA_b B hi
  show Wp E m_Yt_keep 0 [some (_)] [] _ _
  refine wp_aload_n (pc := 0) d_Yt_keep_0 rfl ?_
  refine wp_getfield (pc := 1) d_Yt_keep_1 f_Yt_16 hW.yt2 rfl ?_
  refine wp_aload_n (pc := 4) d_Yt_keep_4 rfl ?_
  refine wp_getfield (pc := 5) d_Yt_keep_5 f_Yt_10 hW.yt2 rfl ?_
  have hne : (1 : Nat) ≠ 0 := by decide
  have hlt : (1 : Nat) < 6 := by decide
  refine wn_callV (n := 1) (As := [_]) (pc := 8) d_Yt_keep_8 s_Yt_176 q_St_copyFrom ⟨by decide, by decide⟩ ((hW.sw3 hne).st hlt) rfl rfl rfl rfl (Nat.le_of_ble_eq_true rfl) (Nat.le_of_ble_eq_true rfl) ?_
  refine sp_St_copyFrom hE hB (hW.sw3 hne) hlt (by omega) (fun z => hne z.symm) (upX_eq X 0 _) hV (hGA _ hlt) hR (fun g A3 N3 V3 hW hR3 => ?_)
  refine ⟨rfl, ?_⟩
  have hW := hW.bk hne
  refine wp_aload_n (pc := 11) d_Yt_keep_11 rfl ?_
  refine wp_iconst (pc := 12) d_Yt_keep_12 ?_
  refine wp_putfield (pc := 13) d_Yt_keep_13 f_Yt_19 hW.yt2 (by omega) rfl rfl (Or.inl rfl) ?_
  refine pw_yb hW (fun h hW => ?_)
  refine wp_aload_n (pc := 16) d_Yt_keep_16 rfl ?_
  refine wp_getfield (pc := 17) d_Yt_keep_17 f_Yt_10 hW.yt2 rfl ?_
  refine wp_iconst (pc := 20) d_Yt_keep_20 ?_
  refine wv_callV (n := 1) (As := [_]) (pc := 21) d_Yt_keep_21 s_Yt_179 q_St_total ⟨by decide, by decide⟩ (hW.st hi) rfl rfl rfl rfl (Nat.le_of_ble_eq_true rfl) (Nat.le_of_ble_eq_true rfl) ?_
  refine sp_St_total hE hB hW hi hV hT (by omega) (by omega) ?_
  refine ⟨_, rfl, ?_⟩
  rw [tot_1 hJ hR]
  refine zp_ireturn (pc := 24) d_Yt_keep_24 rfl ?_
  exact k _ _ _ _ hW hR3
set_option maxRecDepth 100000 in
theorem sp_Yt_restore (hE : gOk E) (hB : gB E ≤ B) (hW : CN B S h0 X ((b, nw, sz, ln, tc), ch, tg, cp) 0 h (F, t, A, N, V)) (n0 : 0 ≤ nw ∧ nw < 4) (z0 : 0 ≤ sz ∧ sz ≤ 4) {nv : Int} (hJ : J nv F) (hJ1 : J nv (xR (X 1))) (hR1 : RI (xR (X 1)) (xT (X 1)) (xN (X 1)) (xV (X 1))) (hn : nv ≤ 80000000) (hR : RI F t N V) (hGA : ∀ q : Nat, q < 6 → 0 ≤ xR (X q) 5 ∧ xR (X q) 5 ≤ (xN (X q) : Int)) (hb2 : b = 0 ∨ b = 1) (k0 : b = 0 → Q (some (.int (zI (-5)))) h) (k1 : ¬ b = 0 → ∀ (g : gH) (A3 : Nat → Nat) (N3 : Nat) (V3 : Nat → Int → Int) (A2 : Nat → Nat) (N2 : Nat) (V2 : Nat → Int → Int), CN B S h0 (upX X (2 + ((nw + 1) % 4).toNat) (F, t, A3, N3, V3)) ((b, (nw + 1) % 4, if 4 < sz + 1 then 4 else sz + 1, ln, tc), ch, tg, cp) 0 g (xR (X 1), xT (X 1), A2, N2, V2) → RI F t N3 V3 → RI (xR (X 1)) (xT (X 1)) N2 V2 → Q (some (.int (zI (sm (fun x => xR (X 1) (29 + 8 * x + 1)) 60)))) g) : Wp E m_Yt_restore 0 (gEnt m_Yt_restore [.ref B]) [] h Q := by
  have hi : (0 : Nat) < 6 := by decide
  have hn2 : nv ≤ 100000000 := by omega
  have hV := hJ.vd
  have hN := hW.aN hi
  have hG := hR.1
  have hT := hR.rT hN.2
  have hL := hR.rL
  have hs := hV.1
  have hb := sA_b B hi
  show Wp E m_Yt_restore 0 [some (_)] [] _ _
  refine wp_aload_n (pc := 0) d_Yt_restore_0 rfl ?_
  refine wp_getfield (pc := 1) d_Yt_restore_1 f_Yt_19 hW.yt2 rfl ?_
  refine zp_if_ne (tgt := 10) (pc := 4) d_Yt_restore_4 (by decide) ⟨by omega, by omega⟩ (fun c4 => ?_) (fun c4 => ?_)
  · refine wp_aload_n (pc := 10) d_Yt_restore_10 rfl ?_
    refine wp_getfield (pc := 11) d_Yt_restore_11 f_Yt_26 hW.yt2 rfl ?_
    refine wp_aload_n (pc := 14) d_Yt_restore_14 rfl ?_
    refine wp_getfield (pc := 15) d_Yt_restore_15 f_Yt_10 hW.yt2 rfl ?_
    refine wn_callV (n := 1) (As := [_]) (pc := 18) d_Yt_restore_18 s_Yt_49 q_Hi_record ⟨by decide, by decide⟩ hW.hy2 rfl rfl rfl rfl (Nat.le_of_ble_eq_true rfl) (Nat.le_of_ble_eq_true rfl) ?_
    refine sp_Hi_record hE hB hW n0 z0 hV hR hGA (fun g A3 N3 V3 hW hR3 => ?_)
    refine ⟨rfl, ?_⟩
    refine wp_aload_n (pc := 21) d_Yt_restore_21 rfl ?_
    refine wp_getfield (pc := 22) d_Yt_restore_22 f_Yt_10 hW.yt2 rfl ?_
    refine wp_aload_n (pc := 25) d_Yt_restore_25 rfl ?_
    refine wp_getfield (pc := 26) d_Yt_restore_26 f_Yt_16 hW.yt2 rfl ?_
    have hX1 : (upX X (2 + ((nw + 1) % 4).toNat) (F, t, A3, N3, V3)) 1 = (xR (X 1), xT (X 1), xA (X 1), xN (X 1), xV (X 1)) := upX_ne _ _ (by omega)
    refine wn_callV (n := 1) (As := [_]) (pc := 29) d_Yt_restore_29 s_Yt_176 q_St_copyFrom ⟨by decide, by decide⟩ (hW.st hi) rfl rfl rfl rfl (Nat.le_of_ble_eq_true rfl) (Nat.le_of_ble_eq_true rfl) ?_
    refine sp_St_copyFrom hE hB hW hi (by decide) (by decide) hX1 hJ1.vd hG hR1 (fun g A2 N2 V2 hW hR2 => ?_)
    refine ⟨rfl, ?_⟩
    refine wp_aload_n (pc := 32) d_Yt_restore_32 rfl ?_
    refine wp_getfield (pc := 33) d_Yt_restore_33 f_Yt_10 hW.yt2 rfl ?_
    refine wp_iconst (pc := 36) d_Yt_restore_36 ?_
    refine wv_callV (n := 1) (As := [_]) (pc := 37) d_Yt_restore_37 s_Yt_179 q_St_total ⟨by decide, by decide⟩ (hW.st hi) rfl rfl rfl rfl (Nat.le_of_ble_eq_true rfl) (Nat.le_of_ble_eq_true rfl) ?_
    refine sp_St_total hE hB hW hi hJ1.vd (hR2.rT (hW.aN hi).2) (by omega) (by omega) ?_
    refine ⟨_, rfl, ?_⟩
    rw [tot_1 hJ1 hR2]
    refine zp_ireturn (pc := 40) d_Yt_restore_40 rfl ?_
    exact k1 c4 _ _ _ _ _ _ _ hW hR3 hR2
  · refine zp_bipush (pc := 7) d_Yt_restore_7 (by decide) ?_
    refine zp_ireturn (pc := 9) d_Yt_restore_9 rfl ?_
    exact k0 c4
theorem ft_ok {g : Int → Int} {l : Int} (l0 : 0 ≤ l) (h : ft g l = -1) : fl g l.toNat = -1 ∧ 0 < (pS g l.toNat).1 := by
  unfold ft at h
  by_cases q : fl g l.toNat = -1
  · rw [if_neg (not_not_intro q)] at h
    by_cases q2 : 0 < (pS g l.toNat).1
    · exact ⟨q, q2⟩
    · rw [if_neg q2] at h
      omega
  · rw [if_pos q] at h
    exact absurd h q
theorem tgs_f {g : Int → Int} {l : Int} (l0 : 0 ≤ l) (l1 : l ≤ 60) (h : ft g l = -1) : (tgs g l).length ≤ 30 ∧ ∀ v ∈ tgs g l, 0 ≤ v ∧ v ≤ 99999 := by
  obtain ⟨h1, h2⟩ := ft_ok l0 h
  have h3 := pS_len2 h1
  unfold tgs
  refine ⟨by rw [List.length_append, List.length_singleton]; omega, fun v hv => ?_⟩
  rcases List.mem_append.mp hv with q | q
  · exact pS_vs h1 v q
  · rw [List.mem_singleton.mp q]
    exact pS_v h1
end S65
