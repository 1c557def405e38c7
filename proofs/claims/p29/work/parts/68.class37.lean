/-! ===== what is made: the history, the class, the reference ===== -/
section S68
variable {E : gE} {B S : Nat} {h0 h : gH} {X : Nat → SC} {T : TC} {i : Nat} {Y : SC} {F t : Int → Int} {A : Nat → Nat} {N : Nat} {V : Nat → Int → Int} {Q : Option Value → gH → Prop}
variable {E : gE} {M : gMd} {pc : Nat} {ls : List (Option Value)} {st : List Value} {h g : gH} {Q : Option Value → gH → Prop} {s c : Nat} {l : List gC}
theorem pT_pushL {x : gC} {n k : Nat} (hT : TB h s l c g) (hl : l.length = k) (w : ∀ g1, TB h s (l ++ [x]) (c + n) g1 → Wp E M pc ls (.ref (s + k) :: st) g1 Q) : Wp E M pc ls (.ref g.2.1 :: st) (gPush g x n) Q := by
  subst hl
  exact pT_push hT w
theorem TB.sub2 {x : gC} {k : Nat} (hT : TB h s (l ++ [x]) c g) (hl : l.length = k) : TB g (s + k) [x] 0 g := by
  subst hl
  exact hT.sub
theorem TB.join2 {x : gC} {l' : List gC} {c' k : Nat} {g' : gH} (hT : TB h s (l ++ [x]) c g) (hl : l.length = k) (h2 : TB g (s + k) l' c' g') : TB h s (l ++ l') (c + c') g' := by
  subst hl
  exact hT.join h2
def hiS (s : Nat) : Nat → List gC
  | 0 => []
  | x + 1 => hiS s x ++ stL (s + (2 + 85 * x))
theorem hiS_len (s : Nat) : ∀ x : Nat, (hiS s x).length = 85 * x
  | 0 => rfl
  | x + 1 => by
    show (hiS s x ++ _).length = _
    rw [List.length_append, hiS_len s x, stL_len]
    omega
abbrev hyO (s : Nat) : gC := .inl (1, [.ref (s + 1), .int (zI 0), .int (zI 0)])
/-- the history -/
def hyL (s : Nat) : List gC := hyO s :: .inr (4, 4, fun j => .ref (s + (2 + 85 * j))) :: hiS s 4
theorem hyL_len (s : Nat) : (hyL s).length = 342 := by
  show (hiS s 4).length + 1 + 1 = _
  rw [hiS_len]
/-- the text -/
def txL (s : Nat) : List gC := [.inl (6, [.ref (s + 1), .int (zI 0), .ref (s + 2), .int (zI 0)]), gCh 60 fun _ => 0, gI 30 fun _ => 0]
set_option maxRecDepth 100000 in
theorem lp_Hi_init (hE : gOk E) (hB : gB E ≤ s) (k : ∀ g1, TB h s (hyL s) (c + 2896) g1 → Q none g1) : ∀ (d x : Nat) (g : gH), x + d = 4 → TB h s (hyO s :: .inr (4, 4, rfF (fun j => s + (2 + 85 * j)) x) :: hiS s x) (c + 4 + 723 * x) g →
      Wp E m_Hi_init 24 [some (.ref s), some (.int (zI x))] [] g Q := by
  intro d
  induction d with
  | zero =>
    intro x g hx hT
    obtain rfl : x = 4 := by omega
    refine Wp.arr (hT.at (o := 1) rfl) (f' := fun j => .ref (s + (2 + 85 * j))) (fun j hj => (if_pos hj).symm) ?_
    refine pT_put (o := 1) hT (Nat.le_of_ble_eq_true rfl) (fun g hT => ?_)
    refine wp_iload_n (pc := 24) d_Hi_init_24 rfl ?_
    refine wp_iconst (pc := 25) d_Hi_init_25 ?_
    refine zp_icmp_ge (tgt := 48) (pc := 26) d_Hi_init_26 (by decide) ⟨by omega, by omega⟩ ⟨by omega, by omega⟩ (fun c26 => ?_) (fun c26 => absurd c26 (by omega))
    refine wp_return (pc := 48) d_Hi_init_48 rfl ?_
    exact k _ hT
  | succ d ih =>
    intro x g hx hT
    have hlen : (hyO s :: .inr (4, 4, rfF (fun j => s + (2 + 85 * j)) x) :: hiS s x : List gC).length = 2 + 85 * x := by
      rw [List.length_cons, List.length_cons, hiS_len]
      omega
    refine wp_iload_n (pc := 24) d_Hi_init_24 rfl ?_
    refine wp_iconst (pc := 25) d_Hi_init_25 ?_
    refine zp_icmp_ge (tgt := 48) (pc := 26) d_Hi_init_26 (by decide) ⟨by omega, by omega⟩ ⟨by omega, by omega⟩ (fun c26 => absurd c26 (by omega)) (fun c26 => ?_)
    refine wp_aload_n (pc := 29) d_Hi_init_29 rfl ?_
    refine wp_getfield (pc := 30) d_Hi_init_30 f_Hi_11 (hT.at (o := 0) rfl) rfl ?_
    refine wp_iload_n (pc := 33) d_Hi_init_33 rfl ?_
    refine wp_new (pc := 34) d_Hi_init_34 w_Hi_9 z_St ?_
    refine pT_pushL hT hlen (fun g hT => ?_)
    refine wp_dup (pc := 37) d_Hi_init_37 rfl ?_
    refine wn_callI (n := 0) (As := []) (pc := 38) d_Hi_init_38 s_Hi_22 q_St_init ⟨by decide, by decide⟩ rfl rfl rfl (Nat.le_of_ble_eq_true rfl) (Nat.le_of_ble_eq_true rfl) ?_
    refine sp_St_init hE (by omega) (hT.sub2 hlen) (fun g2 hT2 => ?_)
    refine ⟨rfl, ?_⟩
    have hT := hT.join2 hlen hT2
    have hsc := hT.hd
    rw [hlen] at hsc
    refine wp_aastore (pc := 41) d_Hi_init_41 hE.2.2.2.2.1 (hT.at (o := 1) rfl) (by omega) hsc rfl (zI_vin (by omega) (by omega) (by decide)) ?_
    rw [rfF_up (by omega) rfl]
    refine pT_put (o := 1) hT (Nat.le_of_ble_eq_true rfl) (fun g hT => ?_)
    refine st_c1 (pc := 42) d_Hi_init_42 (by decide) ?_
    refine wp_goto (tgt := 24) (pc := 45) d_Hi_init_45 (by decide) ?_
    have e : ((x + 1 : Nat) : Int) = (x : Int) + 1 := by omega
    have zz := ih (x + 1) _ (by omega) (hT.to rfl (by omega))
    rw [e] at zz
    exact zz
set_option maxRecDepth 100000 in
theorem sp_Hi_init (hE : gOk E) (hB : gB E ≤ s) (hT : TB h s [.inl (1, [.null, .int 0, .int 0])] c g) (k : ∀ g1, TB h s (hyL s) (c + 2896) g1 → Q none g1) : Wp E m_Hi_init 0 (gEnt m_Hi_init [.ref s]) [] g Q := by
  show Wp E m_Hi_init 0 [some (_), none] [] _ _
  refine wp_aload_n (pc := 0) d_Hi_init_0 rfl ?_
  refine wp_objInit (pc := 1) d_Hi_init_1 s_Hi_1 ⟨by decide, by decide⟩ (by decide) ?_
  refine wp_aload_n (pc := 4) d_Hi_init_4 rfl ?_
  refine wp_iconst (pc := 5) d_Hi_init_5 ?_
  refine wp_anewarray (kd := 4) (pc := 6) d_Hi_init_6 hE.2.2.2.2.1 wc_Hi_9 wo_Hi_9 (by decide) rfl (by decide) ?_
  refine pT_push hT (fun g hT => ?_)
  refine wp_putfield (pc := 9) d_Hi_init_9 f_Hi_11 (hT.at (o := 0) rfl) (by omega) rfl rfl (Or.inr ⟨rfl, fun q h9 => by cases h9; rfl⟩) ?_
  refine pT_put (o := 0) hT (Nat.le_of_ble_eq_true rfl) (fun g hT => ?_)
  refine wp_aload_n (pc := 12) d_Hi_init_12 rfl ?_
  refine wp_iconst (pc := 13) d_Hi_init_13 ?_
  refine zp_putI (pc := 14) d_Hi_init_14 f_Hi_15 (hT.at (o := 0) rfl) (by omega) (Or.inl rfl) ?_
  refine pT_put (o := 0) hT (Nat.le_of_ble_eq_true rfl) (fun g hT => ?_)
  refine wp_aload_n (pc := 17) d_Hi_init_17 rfl ?_
  refine wp_iconst (pc := 18) d_Hi_init_18 ?_
  refine zp_putI (pc := 19) d_Hi_init_19 f_Hi_19 (hT.at (o := 0) rfl) (by omega) (Or.inl rfl) ?_
  refine pT_put (o := 0) hT (Nat.le_of_ble_eq_true rfl) (fun g hT => ?_)
  refine wp_iconst (pc := 22) d_Hi_init_22 ?_
  refine st_i1 (pc := 23) d_Hi_init_23 (by decide) ?_
  refine Wp.arr (hT.at (o := 1) rfl) (f' := rfF (fun j => s + (2 + 85 * j)) 0) (fun j hj => rfl) ?_
  refine pT_put (o := 1) hT (Nat.le_of_ble_eq_true rfl) (fun g hT => ?_)
  exact lp_Hi_init hE hB k 4 0 _ rfl (hT.to rfl rfl)
/-- the class -/
def ytL (s : Nat) : List gC := .inl (7, [.ref (s + 1), .ref (s + 86), .int (zI 0), .ref (s + 171), .ref (s + 513), .ref (s + 516)]) :: ((((stL (s + 1) ++ stL (s + 86)) ++ hyL (s + 171)) ++ txL (s + 513)) ++ [gI 30 fun _ => 0])
set_option maxRecDepth 100000 in
theorem sp_Yt_init (hE : gOk E) (hB : gB E ≤ s) (hT : TB h s [.inl (7, [.null, .null, .int 0, .null, .null, .null])] c g) (k : ∀ g1, TB h s (ytL s) (c + 4469) g1 → Q none g1) : Wp E m_Yt_init 0 (gEnt m_Yt_init [.ref s]) [] g Q := by
  show Wp E m_Yt_init 0 [some (_)] [] _ _
  refine wp_aload_n (pc := 0) d_Yt_init_0 rfl ?_
  refine wp_objInit (pc := 1) d_Yt_init_1 s_Yt_1 ⟨by decide, by decide⟩ (by decide) ?_
  refine wp_aload_n (pc := 4) d_Yt_init_4 rfl ?_
  refine wp_new (pc := 5) d_Yt_init_5 w_Yt_7 z_St ?_
  refine pT_push hT (fun g hT => ?_)
  refine wp_dup (pc := 8) d_Yt_init_8 rfl ?_
  refine wn_callI (n := 0) (As := []) (pc := 9) d_Yt_init_9 s_Yt_9 q_St_init ⟨by decide, by decide⟩ rfl rfl rfl (Nat.le_of_ble_eq_true rfl) (Nat.le_of_ble_eq_true rfl) ?_
  refine sp_St_init hE (by omega) hT.sub (fun g2 hT2 => ?_)
  refine ⟨rfl, ?_⟩
  have hT := hT.join hT2
  refine wp_putfield (pc := 12) d_Yt_init_12 f_Yt_10 (hT.at (o := 0) rfl) (by omega) rfl rfl (Or.inr ⟨rfl, fun q h9 => by cases h9; rfl⟩) ?_
  refine pT_put (o := 0) hT (Nat.le_of_ble_eq_true rfl) (fun g hT => ?_)
  have hT := hT.to (l' := .inl (7, [.ref (s + 1), .null, .int 0, .null, .null, .null]) :: stL (s + 1)) rfl rfl
  refine wp_aload_n (pc := 15) d_Yt_init_15 rfl ?_
  refine wp_new (pc := 16) d_Yt_init_16 w_Yt_7 z_St ?_
  refine pT_pushL hT (by rw [List.length_cons, stL_len]) (fun g hT => ?_)
  refine wp_dup (pc := 19) d_Yt_init_19 rfl ?_
  refine wn_callI (n := 0) (As := []) (pc := 20) d_Yt_init_20 s_Yt_9 q_St_init ⟨by decide, by decide⟩ rfl rfl rfl (Nat.le_of_ble_eq_true rfl) (Nat.le_of_ble_eq_true rfl) ?_
  refine sp_St_init hE (by omega) (hT.sub2 (by rw [List.length_cons, stL_len])) (fun g2 hT2 => ?_)
  refine ⟨rfl, ?_⟩
  have hT := hT.join2 (by rw [List.length_cons, stL_len]) hT2
  refine wp_putfield (pc := 23) d_Yt_init_23 f_Yt_16 (hT.at (o := 0) rfl) (by omega) rfl rfl (Or.inr ⟨rfl, fun q h9 => by cases h9; rfl⟩) ?_
  refine pT_put (o := 0) hT (Nat.le_of_ble_eq_true rfl) (fun g hT => ?_)
  have hT := hT.to (l' := .inl (7, [.ref (s + 1), .ref (s + 86), .int 0, .null, .null, .null]) :: (stL (s + 1) ++ stL (s + 86))) rfl rfl
  refine wp_aload_n (pc := 26) d_Yt_init_26 rfl ?_
  refine wp_iconst (pc := 27) d_Yt_init_27 ?_
  refine wp_putfield (pc := 28) d_Yt_init_28 f_Yt_19 (hT.at (o := 0) rfl) (by omega) rfl rfl (Or.inl rfl) ?_
  refine pT_put (o := 0) hT (Nat.le_of_ble_eq_true rfl) (fun g hT => ?_)
  have hT := hT.to (l' := .inl (7, [.ref (s + 1), .ref (s + 86), .int (zI 0), .null, .null, .null]) :: (stL (s + 1) ++ stL (s + 86))) rfl rfl
  refine wp_aload_n (pc := 31) d_Yt_init_31 rfl ?_
  refine wp_new (pc := 32) d_Yt_init_32 w_Yt_23 z_Hi ?_
  refine pT_pushL hT (by rw [List.length_cons, List.length_append, stL_len, stL_len]) (fun g hT => ?_)
  refine wp_dup (pc := 35) d_Yt_init_35 rfl ?_
  refine wn_callI (n := 0) (As := []) (pc := 36) d_Yt_init_36 s_Yt_25 q_Hi_init ⟨by decide, by decide⟩ rfl rfl rfl (Nat.le_of_ble_eq_true rfl) (Nat.le_of_ble_eq_true rfl) ?_
  refine sp_Hi_init hE (by omega) (hT.sub2 (by rw [List.length_cons, List.length_append, stL_len, stL_len])) (fun g2 hT2 => ?_)
  refine ⟨rfl, ?_⟩
  have hT := hT.join2 (by rw [List.length_cons, List.length_append, stL_len, stL_len]) hT2
  refine wp_putfield (pc := 39) d_Yt_init_39 f_Yt_26 (hT.at (o := 0) rfl) (by omega) rfl rfl (Or.inr ⟨rfl, fun q h9 => by cases h9; rfl⟩) ?_
  refine pT_put (o := 0) hT (Nat.le_of_ble_eq_true rfl) (fun g hT => ?_)
  have hT := hT.to (l' := .inl (7, [.ref (s + 1), .ref (s + 86), .int (zI 0), .ref (s + 171), .null, .null]) :: ((stL (s + 1) ++ stL (s + 86)) ++ hyL (s + 171))) rfl rfl
  refine wp_aload_n (pc := 42) d_Yt_init_42 rfl ?_
  refine wp_new (pc := 43) d_Yt_init_43 w_Yt_30 z_Tx ?_
  refine pT_pushL hT (by rw [List.length_cons, List.length_append, List.length_append, stL_len, stL_len, hyL_len]) (fun g hT => ?_)
  refine wp_dup (pc := 46) d_Yt_init_46 rfl ?_
  refine wn_callIN (n := 0) (As := []) (pc := 47) d_Yt_init_47 s_Yt_32 q_Tx_init ⟨by decide, by decide⟩ rfl rfl rfl (Nat.le_of_ble_eq_true rfl) (Nat.le_of_ble_eq_true rfl) ?_
  refine sp_Tx_init hE (by omega) (hT.sub2 (by rw [List.length_cons, List.length_append, List.length_append, stL_len, stL_len, hyL_len])) (fun g2 hT2 => ?_)
  refine ⟨rfl, ?_⟩
  have hT := hT.join2 (by rw [List.length_cons, List.length_append, List.length_append, stL_len, stL_len, hyL_len]) hT2
  refine wp_putfield (pc := 50) d_Yt_init_50 f_Yt_33 (hT.at (o := 0) rfl) (by omega) rfl rfl (Or.inr ⟨rfl, fun q h9 => by cases h9; rfl⟩) ?_
  refine pT_put (o := 0) hT (Nat.le_of_ble_eq_true rfl) (fun g hT => ?_)
  have hT := hT.to (l' := .inl (7, [.ref (s + 1), .ref (s + 86), .int (zI 0), .ref (s + 171), .ref (s + 513), .null]) :: (((stL (s + 1) ++ stL (s + 86)) ++ hyL (s + 171)) ++ txL (s + 513))) rfl rfl
  refine wp_aload_n (pc := 53) d_Yt_init_53 rfl ?_
  refine zp_bipush (pc := 54) d_Yt_init_54 (by decide) ?_
  refine wp_newarray (kd := 0) (pc := 56) d_Yt_init_56 rfl hE.1 wa_int (fun _ h9 => by cases h9) (by decide) rfl (by decide) ?_
  refine pT_pushL hT (by rw [List.length_cons, List.length_append, List.length_append, List.length_append, stL_len, stL_len, hyL_len]) (fun g hT => ?_)
  refine wp_putfield (pc := 58) d_Yt_init_58 f_Yt_37 (hT.at (o := 0) rfl) (by omega) rfl rfl (Or.inr ⟨rfl, fun q h9 => by cases h9; rfl⟩) ?_
  refine pT_put (o := 0) hT (Nat.le_of_ble_eq_true rfl) (fun g hT => ?_)
  refine wp_return (pc := 61) d_Yt_init_61 rfl ?_
  refine k _ (hT.to rfl ?_)
  have e1 : (zI 30).toNatClampNeg = 30 := rfl
  omega
/-- the first row -/
def Fz : Int → Int := zup (zup (fun _ => 0) 3 2) 4 30
/-- the reference -/
def mdL (s : Nat) : List gC := [.inl (8, [.ref (s + 1), .int (zI 0), .int (zI 0), .ref (s + 2), .int (zI 0)]), gI 45913 Fz, gI 60 fun _ => 0]
end S68
