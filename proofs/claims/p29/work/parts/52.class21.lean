/-! ===== the class: its history ===== -/
section S52
variable {E : gE} {B S : Nat} {h0 h : gH} {X : Nat → SC} {T : TC} {i : Nat} {Y : SC} {F t : Int → Int} {A : Nat → Nat} {N : Nat} {V : Nat → Int → Int} {Q : Option Value → gH → Prop}
variable {M : gMd} {pc : Nat} {ls : List (Option Value)} {st : List Value} {b nw sz ln tc : Int} {ch tg cp : Int → Int}
theorem upX_comm (X : Nat → SC) {i k : Nat} (Y Z : SC) (hik : i ≠ k) : upX (upX X i Y) k Z = upX (upX X k Z) i Y := by
  funext q
  unfold upX
  by_cases h1 : q = k
  · subst h1
    rw [if_pos rfl, if_neg (fun z => hik z.symm), if_pos rfl]
  · rw [if_neg h1]
    by_cases h2 : q = i
    · rw [if_pos h2, if_pos h2]
    · rw [if_neg h2, if_neg h2, if_neg h1]
theorem CN.hy2 (hW : CN B S h0 X ((b, nw, sz, ln, tc), ch, tg, cp) i h Y) : h.1 (B + 171) = some (.inl (1, [.ref (B + 172), .int (zI nw), .int (zI sz)])) := hW.hy
theorem xO_y {o : Nat} {nw2 sz2 : Int} (ho : o ≠ 171) : xO B ((b, nw2, sz2, ln, tc), ch, tg, cp) o = xO B ((b, nw, sz, ln, tc), ch, tg, cp) o := by
  unfold xO
  by_cases h0 : o = 0
  · rw [if_pos h0, if_pos h0]
  · rw [if_neg h0, if_neg h0, if_neg ho, if_neg ho]
theorem CN.wy {nw2 sz2 : Int} (hW : CN B S h0 X ((b, nw, sz, ln, tc), ch, tg, cp) i h Y) : CN B S h0 X ((b, nw2, sz2, ln, tc), ch, tg, cp) i (gPut h (B + 171) (.inl (1, [.ref (B + 172), .int (zI nw2), .int (zI sz2)]))) Y :=
  CW.wt hW (o := 171) (T' := ((b, nw2, sz2, ln, tc), ch, tg, cp)) (fun o c ho hc => by rw [xO_y (nw2 := nw2) (sz2 := sz2) (nw := nw) (sz := sz) ho] at hc; exact hc) rfl
theorem pw_y1 {v : Int} (hW : CN B S h0 X ((b, nw, sz, ln, tc), ch, tg, cp) i h Y) (w : ∀ h1, CN B S h0 X ((b, v, sz, ln, tc), ch, tg, cp) i h1 Y → Wp E M pc ls st h1 Q) : Wp E M pc ls st (gPut h (B + 171) (.inl (1, ([.ref (B + 172), .int (zI nw), .int (zI sz)] : List Value).set 1 (.int (zI v))))) Q := w _ hW.wy
theorem pw_y2 {v : Int} (hW : CN B S h0 X ((b, nw, sz, ln, tc), ch, tg, cp) i h Y) (w : ∀ h1, CN B S h0 X ((b, nw, v, ln, tc), ch, tg, cp) i h1 Y → Wp E M pc ls st h1 Q) : Wp E M pc ls st (gPut h (B + 171) (.inl (1, ([.ref (B + 172), .int (zI nw), .int (zI sz)] : List Value).set 2 (.int (zI v))))) Q := w _ hW.wy
theorem sp_Ma_fm4 {a : Int} (q0 : -1 ≤ a) (q1 : a ≤ 1000) (k : Q (some (.int (zI (a % 4)))) h) : Wp E m_Ma_floorMod 0 (gEnt m_Ma_floorMod [.int (zI a), .int (zI 4)]) [] h Q := by
  by_cases q : a = -1
  · subst q
    exact sp_Ma_floorModN k
  · exact sp_Ma_floorMod (by omega) (by omega) (by omega) (by omega) k
/-- a state's words, spelled out -/
theorem CN.sw3 (hW : CN B S h0 X T i h Y) {j : Nat} (hj : j ≠ i) : CN B S h0 (upX X i Y) T j h (xR (X j), xT (X j), xA (X j), xN (X j), xV (X j)) := hW.sw hj
theorem CN.bk {Z : SC} {j : Nat} (hW : CN B S h0 (upX X i Y) T j h Z) (hj : j ≠ i) : CN B S h0 (upX X j Z) T i h Y := by
  unfold CN at hW ⊢
  rw [upX_comm X Z Y hj]
  exact hW
set_option maxRecDepth 100000 in
theorem sp_Hi_record (hE : gOk E) (hB : gB E ≤ B) (hW : CN B S h0 X ((b, nw, sz, ln, tc), ch, tg, cp) 0 h (F, t, A, N, V)) (n0 : 0 ≤ nw ∧ nw < 4) (z0 : 0 ≤ sz ∧ sz ≤ 4) {nv : Int} (hV : Vd nv F) (hR : RI F t N V) (hG : ∀ q : Nat, q < 6 → 0 ≤ xR (X q) 5 ∧ xR (X q) 5 ≤ (xN (X q) : Int)) (k : ∀ (g : gH) (A3 : Nat → Nat) (N3 : Nat) (V3 : Nat → Int → Int), CN B S h0 (upX X (2 + ((nw + 1) % 4).toNat) (F, t, A3, N3, V3)) ((b, (nw + 1) % 4, if 4 < sz + 1 then 4 else sz + 1, ln, tc), ch, tg, cp) 0 g (F, t, A, N, V) → RI F t N3 V3 → Q none g) : Wp E m_Hi_record 0 (gEnt m_Hi_record [.ref (B + 171), .ref (sA B 0)]) [] h Q := by
  show Wp E m_Hi_record 0 [some (_), some (_)] [] _ _
  refine wp_aload_n (pc := 0) d_Hi_record_0 rfl ?_
  refine wp_aload_n (pc := 1) d_Hi_record_1 rfl ?_
  refine wp_getfield (pc := 2) d_Hi_record_2 f_Hi_15 hW.hy2 rfl ?_
  refine wp_iconst (pc := 5) d_Hi_record_5 ?_
  refine zp_iadd (pc := 6) d_Hi_record_6 ?_
  refine wp_iconst (pc := 7) d_Hi_record_7 ?_
  refine wv_callS (n := 2) (As := [_, _]) (pc := 8) d_Hi_record_8 s_Hi_23 q_Ma_floorMod ⟨by decide, by decide⟩ rfl rfl rfl (Nat.le_of_ble_eq_true rfl) (Nat.le_of_ble_eq_true rfl) ?_
  refine sp_Ma_fm4 (by omega) (by omega) ?_
  refine ⟨_, rfl, ?_⟩
  refine zp_putI (pc := 11) d_Hi_record_11 f_Hi_15 hW.hy2 (by omega) (Or.inl rfl) ?_
  refine pw_y1 hW (fun h hW => ?_)
  refine wp_aload_n (pc := 14) d_Hi_record_14 rfl ?_
  refine wp_getfield (pc := 15) d_Hi_record_15 f_Hi_11 hW.hy2 rfl ?_
  refine wp_aload_n (pc := 18) d_Hi_record_18 rfl ?_
  refine wp_getfield (pc := 19) d_Hi_record_19 f_Hi_15 hW.hy2 rfl ?_
  refine zp_aaload (pc := 22) d_Hi_record_22 (f := fun q : Int => .ref (sA B (2 + q.toNat))) hE.2.2.2.2.1 hW.hs (by omega) (by omega) (by decide) ?_
  refine wp_aload_n (pc := 23) d_Hi_record_23 rfl ?_
  have hne : 2 + ((nw + 1) % 4).toNat ≠ 0 := by omega
  have hlt : 2 + ((nw + 1) % 4).toNat < 6 := by omega
  refine wn_callV (n := 1) (As := [_]) (pc := 24) d_Hi_record_24 s_Hi_29 q_St_copyFrom ⟨by decide, by decide⟩ ((hW.sw3 hne).st hlt) rfl rfl rfl rfl (Nat.le_of_ble_eq_true rfl) (Nat.le_of_ble_eq_true rfl) ?_
  refine sp_St_copyFrom hE hB (hW.sw3 hne) hlt (by omega) (fun z => hne z.symm) (upX_eq X 0 _) hV (hG _ hlt) hR (fun g A3 N3 V3 hW hR3 => ?_)
  refine ⟨rfl, ?_⟩
  have hW := hW.bk hne
  refine wp_aload_n (pc := 27) d_Hi_record_27 rfl ?_
  refine wp_aload_n (pc := 28) d_Hi_record_28 rfl ?_
  refine wp_getfield (pc := 29) d_Hi_record_29 f_Hi_19 hW.hy2 rfl ?_
  refine wp_iconst (pc := 32) d_Hi_record_32 ?_
  refine zp_iadd (pc := 33) d_Hi_record_33 ?_
  refine wp_iconst (pc := 34) d_Hi_record_34 ?_
  refine wv_callS (n := 2) (As := [_, _]) (pc := 35) d_Hi_record_35 s_Hi_33 q_Ma_min ⟨by decide, by decide⟩ rfl rfl rfl (Nat.le_of_ble_eq_true rfl) (Nat.le_of_ble_eq_true rfl) ?_
  refine sp_Ma_min ⟨by omega, by omega⟩ ⟨by omega, by omega⟩ ?_
  refine ⟨_, rfl, ?_⟩
  refine zp_putI (pc := 38) d_Hi_record_38 f_Hi_19 hW.hy2 (by omega) (Or.inl rfl) ?_
  refine pw_y2 hW (fun h hW => ?_)
  refine wp_return (pc := 41) d_Hi_record_41 rfl ?_
  exact k _ _ _ _ hW hR3
set_option maxRecDepth 100000 in
theorem sp_Hi_takeBack (hE : gOk E) (hB : gB E ≤ B) (hW : CN B S h0 X ((b, nw, sz, ln, tc), ch, tg, cp) 0 h (F, t, A, N, V)) (n0 : 0 ≤ nw ∧ nw < 4) (z0 : 0 ≤ sz ∧ sz ≤ 4) {nv : Int} (hG : 0 ≤ F 5 ∧ F 5 ≤ N) (hV : Vd nv (xR (X (2 + nw.toNat)))) (hR : RI (xR (X (2 + nw.toNat))) (xT (X (2 + nw.toNat))) (xN (X (2 + nw.toNat))) (xV (X (2 + nw.toNat)))) (k0 : sz = 0 → Q (some (.int (zI 0))) h) (k1 : ¬ sz = 0 → ∀ (g : gH) (A3 : Nat → Nat) (N3 : Nat) (V3 : Nat → Int → Int), CN B S h0 X ((b, (nw - 1) % 4, sz - 1, ln, tc), ch, tg, cp) 0 g (xR (X (2 + nw.toNat)), xT (X (2 + nw.toNat)), A3, N3, V3) → RI (xR (X (2 + nw.toNat))) (xT (X (2 + nw.toNat))) N3 V3 → Q (some (.int (zI 1))) g) : Wp E m_Hi_takeBack 0 (gEnt m_Hi_takeBack [.ref (B + 171), .ref (sA B 0)]) [] h Q := by
  show Wp E m_Hi_takeBack 0 [some (_), some (_)] [] _ _
  refine wp_aload_n (pc := 0) d_Hi_takeBack_0 rfl ?_
  refine wp_getfield (pc := 1) d_Hi_takeBack_1 f_Hi_19 hW.hy2 rfl ?_
  refine zp_if_ne (tgt := 9) (pc := 4) d_Hi_takeBack_4 (by decide) ⟨by omega, by omega⟩ (fun c4 => ?_) (fun c4 => ?_)
  · refine wp_aload_n (pc := 9) d_Hi_takeBack_9 rfl ?_
    refine wp_aload_n (pc := 10) d_Hi_takeBack_10 rfl ?_
    refine wp_getfield (pc := 11) d_Hi_takeBack_11 f_Hi_11 hW.hy2 rfl ?_
    refine wp_aload_n (pc := 14) d_Hi_takeBack_14 rfl ?_
    refine wp_getfield (pc := 15) d_Hi_takeBack_15 f_Hi_15 hW.hy2 rfl ?_
    refine zp_aaload (pc := 18) d_Hi_takeBack_18 (f := fun q : Int => .ref (sA B (2 + q.toNat))) hE.2.2.2.2.1 hW.hs (by omega) (by omega) (by decide) ?_
    have hne : 2 + nw.toNat ≠ 0 := by omega
    have hlt : 2 + nw.toNat < 6 := by omega
    refine wn_callV (n := 1) (As := [_]) (pc := 19) d_Hi_takeBack_19 s_Hi_29 q_St_copyFrom ⟨by decide, by decide⟩ (hW.st (by omega)) rfl rfl rfl rfl (Nat.le_of_ble_eq_true rfl) (Nat.le_of_ble_eq_true rfl) ?_
    refine sp_St_copyFrom hE hB hW (by omega) hlt hne rfl hV hG hR (fun g A3 N3 V3 hW hR3 => ?_)
    refine ⟨rfl, ?_⟩
    refine wp_aload_n (pc := 22) d_Hi_takeBack_22 rfl ?_
    refine wp_aload_n (pc := 23) d_Hi_takeBack_23 rfl ?_
    refine wp_getfield (pc := 24) d_Hi_takeBack_24 f_Hi_15 hW.hy2 rfl ?_
    refine wp_iconst (pc := 27) d_Hi_takeBack_27 ?_
    refine zp_isub (pc := 28) d_Hi_takeBack_28 ?_
    refine wp_iconst (pc := 29) d_Hi_takeBack_29 ?_
    refine wv_callS (n := 2) (As := [_, _]) (pc := 30) d_Hi_takeBack_30 s_Hi_23 q_Ma_floorMod ⟨by decide, by decide⟩ rfl rfl rfl (Nat.le_of_ble_eq_true rfl) (Nat.le_of_ble_eq_true rfl) ?_
    refine sp_Ma_fm4 (by omega) (by omega) ?_
    refine ⟨_, rfl, ?_⟩
    refine zp_putI (pc := 33) d_Hi_takeBack_33 f_Hi_15 hW.hy2 (by omega) (Or.inl rfl) ?_
    refine pw_y1 hW (fun h hW => ?_)
    refine wp_aload_n (pc := 36) d_Hi_takeBack_36 rfl ?_
    refine wp_dup (pc := 37) d_Hi_takeBack_37 rfl ?_
    refine wp_getfield (pc := 38) d_Hi_takeBack_38 f_Hi_19 hW.hy2 rfl ?_
    refine wp_iconst (pc := 41) d_Hi_takeBack_41 ?_
    refine zp_isub (pc := 42) d_Hi_takeBack_42 ?_
    refine zp_putI (pc := 43) d_Hi_takeBack_43 f_Hi_19 hW.hy2 (by omega) (Or.inl rfl) ?_
    refine pw_y2 hW (fun h hW => ?_)
    refine wp_iconst (pc := 46) d_Hi_takeBack_46 ?_
    refine zp_zreturn (pc := 47) d_Hi_takeBack_47 rfl rfl ?_
    exact k1 (by omega) _ _ _ _ hW hR3
  · refine wp_iconst (pc := 7) d_Hi_takeBack_7 ?_
    refine zp_zreturn (pc := 8) d_Hi_takeBack_8 rfl rfl ?_
    exact k0 (by omega)
end S52
