/-! ===== what is made: racks and states ===== -/
section S67
variable {E : gE} {B S : Nat} {h0 h : gH} {X : Nat → SC} {T : TC} {i : Nat} {Y : SC} {F t : Int → Int} {A : Nat → Nat} {N : Nat} {V : Nat → Int → Int} {Q : Option Value → gH → Prop}
variable {E : gE} {M : gMd} {pc : Nat} {ls : List (Option Value)} {st : List Value} {h g : gH} {Q : Option Value → gH → Prop} {s c : Nat} {l : List gC}
theorem TB.to {l' : List gC} {c' : Nat} (hT : TB h s l c g) (hl : l = l') (hc : c = c') : TB h s l' c' g := by
  subst hl
  subst hc
  exact hT
theorem TB.hd {y : gC} {l' : List gC} (hT : TB h s (l ++ y :: l') c g) : g.1 (s + l.length) = some y := by
  refine hT.at ?_
  rw [List.getElem?_append_right (Nat.le_refl _), Nat.sub_self]
  rfl
/-- references to the first x of several -/
def rfF (f : Nat → Nat) (x : Nat) : Nat → Value := fun j => if j < x then .ref (f j) else .null
theorem rfF_up {f : Nat → Nat} {x v : Nat} (hx : x ≤ 1000) (hv : v = f x) : gUp (rfF f x) (zI (x : Int)).toNatClampNeg (.ref v) = rfF f (x + 1) := by
  rw [zI_clamp ⟨by omega, by omega⟩]
  funext j
  unfold gUp rfF
  by_cases q : j = x
  · subst q
    rw [if_pos (by omega), if_pos (by omega), hv]
  · rw [if_neg (by omega)]
    by_cases q2 : j < x
    · rw [if_pos q2, if_pos (by omega)]
    · rw [if_neg q2, if_neg (by omega)]
def hkL (r : Int) : Nat → List gC
  | 0 => []
  | x + 1 => hkL r x ++ [hkN (12 * r + x)]
theorem hkL_len (r : Int) : ∀ x : Nat, (hkL r x).length = x
  | 0 => rfl
  | x + 1 => by
    show (hkL r x ++ [_]).length = _
    rw [List.length_append, hkL_len r x]
    rfl
theorem hkL_at (r : Int) : ∀ {x m : Nat}, m < x → (hkL r x)[m]? = some (hkN (12 * r + m))
  | 0, m, h => absurd h (by omega)
  | x + 1, m, h => by
    show (hkL r x ++ [_])[m]? = _
    by_cases q : m = x
    · subst q
      rw [List.getElem?_append_right (by rw [hkL_len]; omega), hkL_len, Nat.sub_self]
      rfl
    · rw [List.getElem?_append_left (by rw [hkL_len]; omega)]
      exact hkL_at r (by omega)
abbrev rkO (s : Nat) : gC := .inl (4, [.ref (s + 1), .int (zI 0), .int (zI 0), .int (zI 0)])
/-- a rack -/
def rkL (s : Nat) (r : Int) : List gC := rkO s :: .inr (3, 12, fun j => .ref (s + 2 + j)) :: hkL r 12
set_option maxRecDepth 100000 in
theorem lp_Rk_init (hE : gOk E) (hB : gB E ≤ s) {r : Int} (k : ∀ g1, TB h s (rkL s r) (c + 12 + 96) g1 → Q none g1) : ∀ (d x : Nat) (g : gH), x + d = 12 → TB h s (rkO s :: .inr (3, 12, rfF (fun j => s + 2 + j) x) :: hkL r x) (c + 12 + 8 * x) g →
      Wp E m_Rk_init 30 [some (.ref s), some (.int (zI r)), some (.int (zI x))] [] g Q := by
  intro d
  induction d with
  | zero =>
    intro x g hx hT
    obtain rfl : x = 12 := by omega
    refine Wp.arr (hT.at (o := 1) rfl) (f' := fun j => .ref (s + 2 + j)) (fun j hj => (if_pos hj).symm) ?_
    refine pT_put (o := 1) hT (Nat.le_of_ble_eq_true rfl) (fun g hT => ?_)
    refine wp_iload_n (pc := 30) d_Rk_init_30 rfl ?_
    refine zp_bipush (pc := 31) d_Rk_init_31 (by decide) ?_
    refine zp_icmp_ge (tgt := 61) (pc := 33) d_Rk_init_33 (by decide) ⟨by omega, by omega⟩ ⟨by omega, by omega⟩ (fun c33 => ?_) (fun c33 => absurd c33 (by omega))
    refine wp_return (pc := 61) d_Rk_init_61 rfl ?_
    exact k _ hT
  | succ d ih =>
    intro x g hx hT
    have hlen : (rkO s :: .inr (3, 12, rfF (fun j => s + 2 + j) x) :: hkL r x : List gC).length = x + 2 := by rw [List.length_cons, List.length_cons, hkL_len]
    refine wp_iload_n (pc := 30) d_Rk_init_30 rfl ?_
    refine zp_bipush (pc := 31) d_Rk_init_31 (by decide) ?_
    refine zp_icmp_ge (tgt := 61) (pc := 33) d_Rk_init_33 (by decide) ⟨by omega, by omega⟩ ⟨by omega, by omega⟩ (fun c33 => absurd c33 (by omega)) (fun c33 => ?_)
    refine wp_aload_n (pc := 36) d_Rk_init_36 rfl ?_
    refine wp_getfield (pc := 37) d_Rk_init_37 f_Rk_11 (hT.at (o := 0) rfl) rfl ?_
    refine wp_iload_n (pc := 40) d_Rk_init_40 rfl ?_
    refine wp_new (pc := 41) d_Rk_init_41 w_Rk_9 z_Ho ?_
    refine pT_push hT (fun g hT => ?_)
    refine wp_dup (pc := 44) d_Rk_init_44 rfl ?_
    refine zp_bipush (pc := 45) d_Rk_init_45 (by decide) ?_
    refine wp_iload_n (pc := 47) d_Rk_init_47 rfl ?_
    refine zp_imul (pc := 48) d_Rk_init_48 ?_
    refine wp_iload_n (pc := 49) d_Rk_init_49 rfl ?_
    refine zp_iadd (pc := 50) d_Rk_init_50 ?_
    refine wn_callI (n := 1) (As := [_]) (pc := 51) d_Rk_init_51 s_Rk_28 q_Ho_init ⟨by decide, by decide⟩ rfl rfl rfl (Nat.le_of_ble_eq_true rfl) (Nat.le_of_ble_eq_true rfl) ?_
    refine sp_Ho_init (by omega) hT.sub (fun g2 hT2 => ?_)
    refine ⟨rfl, ?_⟩
    have hT := hT.join hT2
    refine wp_aastore (pc := 54) d_Rk_init_54 hE.2.2.2.1 (hT.at (o := 1) rfl) (by omega) hT.hd rfl (zI_vin (by omega) (by omega) (by decide)) ?_
    rw [rfF_up (by omega) (by rw [hlen]; omega)]
    refine pT_put (o := 1) hT (Nat.le_of_ble_eq_true rfl) (fun g hT => ?_)
    refine st_c2 (pc := 55) d_Rk_init_55 (by decide) ?_
    refine wp_goto (tgt := 30) (pc := 58) d_Rk_init_58 (by decide) ?_
    have e : ((x + 1 : Nat) : Int) = (x : Int) + 1 := by omega
    have zz := ih (x + 1) _ (by omega) hT
    rw [e] at zz
    exact zz
set_option maxRecDepth 100000 in
theorem sp_Rk_init (hE : gOk E) (hB : gB E ≤ s) (hT : TB h s [.inl (4, [.null, .int 0, .int 0, .int 0])] c g) {r : Int} (k : ∀ g1, TB h s (rkL s r) (c + 12 + 96) g1 → Q none g1) : Wp E m_Rk_init 0 (gEnt m_Rk_init [.ref s, .int (zI r)]) [] g Q := by
  show Wp E m_Rk_init 0 [some (_), some (_), none] [] _ _
  refine wp_aload_n (pc := 0) d_Rk_init_0 rfl ?_
  refine wp_objInit (pc := 1) d_Rk_init_1 s_Rk_3 ⟨by decide, by decide⟩ (by decide) ?_
  refine wp_aload_n (pc := 4) d_Rk_init_4 rfl ?_
  refine zp_bipush (pc := 5) d_Rk_init_5 (by decide) ?_
  refine wp_anewarray (kd := 3) (pc := 7) d_Rk_init_7 hE.2.2.2.1 wc_Rk_9 wo_Rk_9 (by decide) rfl (by decide) ?_
  refine pT_push hT (fun g hT => ?_)
  refine wp_putfield (pc := 10) d_Rk_init_10 f_Rk_11 (hT.at (o := 0) rfl) (by omega) rfl rfl (Or.inr ⟨rfl, fun q h9 => by cases h9; rfl⟩) ?_
  refine pT_put (o := 0) hT (Nat.le_of_ble_eq_true rfl) (fun g hT => ?_)
  refine wp_aload_n (pc := 13) d_Rk_init_13 rfl ?_
  refine wp_iconst (pc := 14) d_Rk_init_14 ?_
  refine zp_putI (pc := 15) d_Rk_init_15 f_Rk_17 (hT.at (o := 0) rfl) (by omega) (Or.inl rfl) ?_
  refine pT_put (o := 0) hT (Nat.le_of_ble_eq_true rfl) (fun g hT => ?_)
  refine wp_aload_n (pc := 18) d_Rk_init_18 rfl ?_
  refine wp_iconst (pc := 19) d_Rk_init_19 ?_
  refine zp_putI (pc := 20) d_Rk_init_20 f_Rk_21 (hT.at (o := 0) rfl) (by omega) (Or.inl rfl) ?_
  refine pT_put (o := 0) hT (Nat.le_of_ble_eq_true rfl) (fun g hT => ?_)
  refine wp_aload_n (pc := 23) d_Rk_init_23 rfl ?_
  refine wp_iconst (pc := 24) d_Rk_init_24 ?_
  refine wp_putfield (pc := 25) d_Rk_init_25 f_Rk_24 (hT.at (o := 0) rfl) (by omega) rfl rfl (Or.inl rfl) ?_
  refine pT_put (o := 0) hT (Nat.le_of_ble_eq_true rfl) (fun g hT => ?_)
  refine wp_iconst (pc := 28) d_Rk_init_28 ?_
  refine st_i2 (pc := 29) d_Rk_init_29 (by decide) ?_
  refine Wp.arr (hT.at (o := 1) rfl) (f' := rfF (fun j => s + 2 + j) 0) (fun j hj => rfl) ?_
  refine pT_put (o := 1) hT (Nat.le_of_ble_eq_true rfl) (fun g hT => ?_)
  exact lp_Rk_init hE hB k 12 0 _ rfl hT
theorem rkL_len (s : Nat) (r : Int) : (rkL s r).length = 14 := by
  show (hkL r 12).length + 1 + 1 = 14
  rw [hkL_len]
def rkS (s : Nat) : Nat → List gC
  | 0 => []
  | x + 1 => rkS s x ++ rkL (s + 15 + 14 * x) x
theorem rkS_len (s : Nat) : ∀ x : Nat, (rkS s x).length = 14 * x
  | 0 => rfl
  | x + 1 => by
    show (rkS s x ++ _).length = _
    rw [List.length_append, rkS_len s x, rkL_len]
    omega
theorem rkS_at (s : Nat) : ∀ {x k i : Nat}, k < x → i < 14 → (rkS s x)[14 * k + i]? = (rkL (s + 15 + 14 * k) k)[i]?
  | 0, k, i, h, _ => absurd h (by omega)
  | x + 1, k, i, h, hi => by
    show (rkS s x ++ _)[14 * k + i]? = _
    by_cases q : k = x
    · subst q
      rw [List.getElem?_append_right (by rw [rkS_len]; omega), rkS_len]
      congr 1
      omega
    · rw [List.getElem?_append_left (by rw [rkS_len]; omega)]
      exact rkS_at s (by omega) hi
/-- a state's first cells: its racks' array, its settings -/
def stF (s : Nat) (f : Nat → Value) (u : Int → Int) : List gC :=
  [.inl (5, [.ref (s + 1), .int (zI 0), .ref (s + 2), .ref (s + 8), .ref (s + 13), .ref (s + 14), .int (zI 0), .int (zI 0), .int (zI 0)]), .inr (2, 5, f), .inl (0, [.int (zI 0), .ref (s + 2 + 1), .ref (s + 2 + 2), .ref (s + 2 + 3), .ref (s + 2 + 4), .ref (s + 2 + 5)]),
   gI 16 fun _ => 0, gI 16 fun _ => 0, gI 16 fun _ => 0, gI 16 fun _ => 0, gI 16 fun _ => 0, .inl (3, [.int (zI 0), .ref (s + 8 + 1), .ref (s + 8 + 2), .ref (s + 8 + 3), .ref (s + 8 + 4)]), gI 10 fun _ => 0, gI 10 fun _ => 0, gI 10 fun _ => 0, gI 5 fun _ => 0, gI 3 u, gI 20 fun _ => 0]
/-- a state -/
def stL (s : Nat) : List gC := stF s (fun j => .ref (s + 15 + 14 * j)) (zup (zup (fun _ => 0) 1 2) 2 30) ++ rkS s 5
theorem stL_len (s : Nat) : (stL s).length = 85 := by
  unfold stL
  rw [List.length_append, rkS_len]
  rfl
set_option maxRecDepth 100000 in
theorem lp_St_init (hE : gOk E) (hB : gB E ≤ s) (k : ∀ g1, TB h s (stL s) (c + 714) g1 → Q none g1) : ∀ (d x : Nat) (g : gH), x + d = 5 → TB h s (stF s (rfF (fun j => s + 15 + 14 * j) x) (fun _ => 0) ++ rkS s x) (c + 154 + 112 * x) g →
      Wp E m_St_init 71 [some (.ref s), some (.int (zI x))] [] g Q := by
  intro d
  induction d with
  | zero =>
    intro x g hx hT
    obtain rfl : x = 5 := by omega
    refine Wp.arr (hT.at (o := 1) rfl) (f' := fun j => .ref (s + 15 + 14 * j)) (fun j hj => (if_pos hj).symm) ?_
    refine pT_put (o := 1) hT (Nat.le_of_ble_eq_true rfl) (fun g hT => ?_)
    refine wp_iload_n (pc := 71) d_St_init_71 rfl ?_
    refine wp_iconst (pc := 72) d_St_init_72 ?_
    refine zp_icmp_ge (tgt := 96) (pc := 73) d_St_init_73 (by decide) ⟨by omega, by omega⟩ ⟨by omega, by omega⟩ (fun c73 => ?_) (fun c73 => absurd c73 (by omega))
    refine wp_aload_n (pc := 96) d_St_init_96 rfl ?_
    refine wp_getfield (pc := 97) d_St_init_97 f_St_35 (hT.at (o := 0) rfl) rfl ?_
    refine wp_iconst (pc := 100) d_St_init_100 ?_
    refine wp_iconst (pc := 101) d_St_init_101 ?_
    refine zp_iastore (pc := 102) d_St_init_102 hE.1 (show _ = some (gI 3 fun _ => 0) from hT.at (o := 13) rfl) (by omega) (by omega) (by omega) (by omega) ?_
    refine pT_put (o := 13) hT (Nat.le_of_ble_eq_true rfl) (fun g hT => ?_)
    refine wp_aload_n (pc := 103) d_St_init_103 rfl ?_
    refine wp_getfield (pc := 104) d_St_init_104 f_St_35 (hT.at (o := 0) rfl) rfl ?_
    refine wp_iconst (pc := 107) d_St_init_107 ?_
    refine zp_bipush (pc := 108) d_St_init_108 (by decide) ?_
    refine zp_iastore (pc := 110) d_St_init_110 hE.1 (show _ = some (gI 3 (zup (fun _ => 0) 1 2)) from hT.at (o := 13) rfl) (by omega) (by omega) (by omega) (by omega) ?_
    refine pT_put (o := 13) hT (Nat.le_of_ble_eq_true rfl) (fun g hT => ?_)
    refine wp_return (pc := 111) d_St_init_111 rfl ?_
    exact k _ hT
  | succ d ih =>
    intro x g hx hT
    have hlen : (stF s (rfF (fun j => s + 15 + 14 * j) x) (fun _ => 0) ++ rkS s x).length = 15 + 14 * x := by
      rw [List.length_append, rkS_len]
      rfl
    refine wp_iload_n (pc := 71) d_St_init_71 rfl ?_
    refine wp_iconst (pc := 72) d_St_init_72 ?_
    refine zp_icmp_ge (tgt := 96) (pc := 73) d_St_init_73 (by decide) ⟨by omega, by omega⟩ ⟨by omega, by omega⟩ (fun c73 => absurd c73 (by omega)) (fun c73 => ?_)
    refine wp_aload_n (pc := 76) d_St_init_76 rfl ?_
    refine wp_getfield (pc := 77) d_St_init_77 f_St_11 (hT.at (o := 0) rfl) rfl ?_
    refine wp_iload_n (pc := 80) d_St_init_80 rfl ?_
    refine wp_new (pc := 81) d_St_init_81 w_St_9 z_Rk ?_
    refine pT_push hT (fun g hT => ?_)
    refine wp_dup (pc := 84) d_St_init_84 rfl ?_
    refine wp_iload_n (pc := 85) d_St_init_85 rfl ?_
    refine wn_callI (n := 1) (As := [_]) (pc := 86) d_St_init_86 s_St_51 q_Rk_init ⟨by decide, by decide⟩ rfl rfl rfl (Nat.le_of_ble_eq_true rfl) (Nat.le_of_ble_eq_true rfl) ?_
    refine sp_Rk_init hE (by omega) hT.sub (fun g2 hT2 => ?_)
    refine ⟨rfl, ?_⟩
    have hT := hT.join hT2
    refine wp_aastore (pc := 89) d_St_init_89 hE.2.2.1 (hT.at (o := 1) rfl) (by omega) hT.hd rfl (zI_vin (by omega) (by omega) (by decide)) ?_
    rw [rfF_up (by omega) (by rw [hlen]; omega)]
    refine pT_put (o := 1) hT (Nat.le_of_ble_eq_true rfl) (fun g hT => ?_)
    refine st_c1 (pc := 90) d_St_init_90 (by decide) ?_
    refine wp_goto (tgt := 71) (pc := 93) d_St_init_93 (by decide) ?_
    have e : ((x + 1 : Nat) : Int) = (x : Int) + 1 := by omega
    have zz := ih (x + 1) _ (by omega) (hT.to ?_ (by omega))
    · rw [e] at zz
      exact zz
    · rw [hlen, ← Nat.add_assoc]
      exact congrArg (stF s (rfF (fun j => s + 15 + 14 * j) (x + 1)) (fun _ => 0) ++ ·) rfl
set_option maxRecDepth 100000 in
theorem sp_St_init (hE : gOk E) (hB : gB E ≤ s) (hT : TB h s [.inl (5, [.null, .int 0, .null, .null, .null, .null, .int 0, .int 0, .int 0])] c g) (k : ∀ g1, TB h s (stL s) (c + 714) g1 → Q none g1) : Wp E m_St_init 0 (gEnt m_St_init [.ref s]) [] g Q := by
  show Wp E m_St_init 0 [some (_), none] [] _ _
  refine wp_aload_n (pc := 0) d_St_init_0 rfl ?_
  refine wp_objInit (pc := 1) d_St_init_1 s_St_3 ⟨by decide, by decide⟩ (by decide) ?_
  refine wp_aload_n (pc := 4) d_St_init_4 rfl ?_
  refine wp_iconst (pc := 5) d_St_init_5 ?_
  refine wp_anewarray (kd := 2) (pc := 6) d_St_init_6 hE.2.2.1 wc_St_9 wo_St_9 (by decide) rfl (by decide) ?_
  refine pT_push hT (fun g hT => ?_)
  refine wp_putfield (pc := 9) d_St_init_9 f_St_11 (hT.at (o := 0) rfl) (by omega) rfl rfl (Or.inr ⟨rfl, fun q h9 => by cases h9; rfl⟩) ?_
  refine pT_put (o := 0) hT (Nat.le_of_ble_eq_true rfl) (fun g hT => ?_)
  refine wp_aload_n (pc := 12) d_St_init_12 rfl ?_
  refine wp_iconst (pc := 13) d_St_init_13 ?_
  refine zp_putI (pc := 14) d_St_init_14 f_St_17 (hT.at (o := 0) rfl) (by omega) (Or.inl rfl) ?_
  refine pT_put (o := 0) hT (Nat.le_of_ble_eq_true rfl) (fun g hT => ?_)
  refine wp_aload_n (pc := 17) d_St_init_17 rfl ?_
  refine wp_new (pc := 18) d_St_init_18 w_St_21 z_Ha ?_
  refine pT_push hT (fun g hT => ?_)
  refine wp_dup (pc := 21) d_St_init_21 rfl ?_
  refine wn_callIN (n := 0) (As := []) (pc := 22) d_St_init_22 s_St_23 q_Ha_init ⟨by decide, by decide⟩ rfl rfl rfl (Nat.le_of_ble_eq_true rfl) (Nat.le_of_ble_eq_true rfl) ?_
  refine sp_Ha_init hE (by omega) hT.sub (fun g2 hT2 => ?_)
  refine ⟨rfl, ?_⟩
  have hT := hT.join hT2
  refine wp_putfield (pc := 25) d_St_init_25 f_St_24 (hT.at (o := 0) rfl) (by omega) rfl rfl (Or.inr ⟨rfl, fun q h9 => by cases h9; rfl⟩) ?_
  refine pT_put (o := 0) hT (Nat.le_of_ble_eq_true rfl) (fun g hT => ?_)
  refine wp_aload_n (pc := 28) d_St_init_28 rfl ?_
  refine wp_new (pc := 29) d_St_init_29 w_St_28 z_Lg ?_
  refine pT_push hT (fun g hT => ?_)
  refine wp_dup (pc := 32) d_St_init_32 rfl ?_
  refine wn_callIN (n := 0) (As := []) (pc := 33) d_St_init_33 s_St_30 q_Lg_init ⟨by decide, by decide⟩ rfl rfl rfl (Nat.le_of_ble_eq_true rfl) (Nat.le_of_ble_eq_true rfl) ?_
  refine sp_Lg_init hE (by omega) hT.sub (fun g2 hT2 => ?_)
  refine ⟨rfl, ?_⟩
  have hT := hT.join hT2
  refine wp_putfield (pc := 36) d_St_init_36 f_St_31 (hT.at (o := 0) rfl) (by omega) rfl rfl (Or.inr ⟨rfl, fun q h9 => by cases h9; rfl⟩) ?_
  refine pT_put (o := 0) hT (Nat.le_of_ble_eq_true rfl) (fun g hT => ?_)
  refine wp_aload_n (pc := 39) d_St_init_39 rfl ?_
  refine wp_iconst (pc := 40) d_St_init_40 ?_
  refine wp_newarray (kd := 0) (pc := 41) d_St_init_41 rfl hE.1 wa_int (fun _ h9 => by cases h9) (by decide) rfl (by decide) ?_
  refine pT_push hT (fun g hT => ?_)
  refine wp_putfield (pc := 43) d_St_init_43 f_St_35 (hT.at (o := 0) rfl) (by omega) rfl rfl (Or.inr ⟨rfl, fun q h9 => by cases h9; rfl⟩) ?_
  refine pT_put (o := 0) hT (Nat.le_of_ble_eq_true rfl) (fun g hT => ?_)
  refine wp_aload_n (pc := 46) d_St_init_46 rfl ?_
  refine zp_bipush (pc := 47) d_St_init_47 (by decide) ?_
  refine wp_newarray (kd := 0) (pc := 49) d_St_init_49 rfl hE.1 wa_int (fun _ h9 => by cases h9) (by decide) rfl (by decide) ?_
  refine pT_push hT (fun g hT => ?_)
  refine wp_putfield (pc := 51) d_St_init_51 f_St_39 (hT.at (o := 0) rfl) (by omega) rfl rfl (Or.inr ⟨rfl, fun q h9 => by cases h9; rfl⟩) ?_
  refine pT_put (o := 0) hT (Nat.le_of_ble_eq_true rfl) (fun g hT => ?_)
  refine wp_aload_n (pc := 54) d_St_init_54 rfl ?_
  refine wp_iconst (pc := 55) d_St_init_55 ?_
  refine zp_putI (pc := 56) d_St_init_56 f_St_42 (hT.at (o := 0) rfl) (by omega) (Or.inl rfl) ?_
  refine pT_put (o := 0) hT (Nat.le_of_ble_eq_true rfl) (fun g hT => ?_)
  refine wp_aload_n (pc := 59) d_St_init_59 rfl ?_
  refine wp_iconst (pc := 60) d_St_init_60 ?_
  refine zp_putI (pc := 61) d_St_init_61 f_St_45 (hT.at (o := 0) rfl) (by omega) (Or.inl rfl) ?_
  refine pT_put (o := 0) hT (Nat.le_of_ble_eq_true rfl) (fun g hT => ?_)
  refine wp_aload_n (pc := 64) d_St_init_64 rfl ?_
  refine wp_iconst (pc := 65) d_St_init_65 ?_
  refine zp_putI (pc := 66) d_St_init_66 f_St_48 (hT.at (o := 0) rfl) (by omega) (Or.inl rfl) ?_
  refine pT_put (o := 0) hT (Nat.le_of_ble_eq_true rfl) (fun g hT => ?_)
  refine wp_iconst (pc := 69) d_St_init_69 ?_
  refine st_i1 (pc := 70) d_St_init_70 (by decide) ?_
  refine Wp.arr (hT.at (o := 1) rfl) (f' := rfF (fun j => s + 15 + 14 * j) 0) (fun j hj => rfl) ?_
  refine pT_put (o := 1) hT (Nat.le_of_ble_eq_true rfl) (fun g hT => ?_)
  exact lp_St_init hE hB k 5 0 _ rfl (hT.to rfl (by have e1 : (zI 20).toNatClampNeg = 20 := rfl; have e2 : (Int32.ofInt 5).toNatClampNeg = 5 := rfl; have e3 : (Int32.ofInt 3).toNatClampNeg = 3 := rfl; omega))
end S67
