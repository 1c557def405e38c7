/-! ===== what is made: hooks, racks, handles, logs ===== -/
section S66
variable {E : gE} {B S : Nat} {h0 h : gH} {X : Nat → SC} {T : TC} {i : Nat} {Y : SC} {F t : Int → Int} {A : Nat → Nat} {N : Nat} {V : Nat → Int → Int} {Q : Option Value → gH → Prop}
variable {E : gE} {M : gMd} {pc : Nat} {ls : List (Option Value)} {st : List Value} {h g : gH} {Q : Option Value → gH → Prop} {s c : Nat} {l : List gC}
/-- an array's cell, other words for what stands behind its end -/
theorem Wp.arr {a kd n : Nat} {f f' : Nat → Value} (hc : g.1 a = some (.inr (kd, n, f))) (he : ∀ j : Nat, j < n → f' j = f j) (w : Wp E M pc ls st (gPut g a (.inr (kd, n, f'))) Q) : Wp E M pc ls st g Q := by
  obtain ⟨r, h', q, q0, q1, k⟩ := w
  refine ⟨r, h', q, q0, q1, fun p e R s m args below meth c C f1 f2 mc ms cells slots H locs lsA g1 g2 g3 g4 hR hB hl hL => ?_⟩
  refine k p e R s m args below meth c C f1 f2 mc ms cells slots H locs lsA g1 g2 g3 g4 ⟨hR.1, hR.2.1, fun q x hx => ?_⟩ hB hl hL
  by_cases hq : q = a
  · subst hq
    rw [gPut_eq] at hx
    cases hx
    have e : ∀ cI : ClassId, arrV cI n f' = arrV cI n f := fun cI => by
      unfold arrV
      congr 2
      funext j
      exact he j.val j.isLt
    rcases hR.2.2 q _ hc with ⟨y, h1, h2⟩ | ⟨h0, scr, h1, h2, h3, h4, h5⟩
    · exact Or.inl ⟨y, h1, by rw [e]; exact h2⟩
    · exact Or.inr ⟨h0, scr, h1, h2, h3, h4, fun j hj => by show scr.slots[j]? = some (f' j); rw [he j hj]; exact h5 j hj⟩
  · rw [gPut_ne _ _ hq] at hx
    exact hR.2.2 q x hx
/-- the cells l lie from s on, at the end; what was below s is as in h; c slots were made since -/
def TB (h : gH) (s : Nat) (l : List gC) (c : Nat) (g : gH) : Prop := g.2.1 = s + l.length ∧ g.2.2 = h.2.2 + c ∧ (∀ q : Nat, q < s → g.1 q = h.1 q) ∧ ∀ (o : Nat) (x : gC), l[o]? = some x → g.1 (s + o) = some x
theorem TB.at (hT : TB h s l c g) {o : Nat} {x : gC} (ho : l[o]? = some x) : g.1 (s + o) = some x := hT.2.2.2 o x ho
theorem TB.push (hT : TB h s l c g) (x : gC) (n : Nat) : TB h s (l ++ [x]) (c + n) (gPush g x n) := by
  obtain ⟨h1, h2, h3, h4⟩ := hT
  refine ⟨by show g.2.1 + 1 = _; rw [List.length_append, List.length_singleton, h1]; omega, by show g.2.2 + n = _; rw [h2]; omega, fun q hq => ?_, fun o y ho => ?_⟩
  · show (if q = g.2.1 then _ else g.1 q) = _
    rw [if_neg (by omega)]
    exact h3 q hq
  · show (if s + o = g.2.1 then _ else g.1 (s + o)) = _
    by_cases q : o = l.length
    · subst q
      rw [if_pos h1.symm]
      rw [List.getElem?_append_right (Nat.le_refl _), Nat.sub_self] at ho
      exact ho
    · rw [if_neg (by omega)]
      by_cases q2 : o < l.length
      · rw [List.getElem?_append_left q2] at ho
        exact h4 o y ho
      · rw [List.getElem?_append_right (by omega)] at ho
        rw [List.getElem?_eq_none (by rw [List.length_singleton]; omega)] at ho
        cases ho
theorem TB.put (hT : TB h s l c g) {o : Nat} {x : gC} (ho : o < l.length) : TB h s (l.set o x) c (gPut g (s + o) x) := by
  obtain ⟨h1, h2, h3, h4⟩ := hT
  refine ⟨by rw [List.length_set]; exact h1, h2, fun q hq => ?_, fun p y hp => ?_⟩
  · rw [gPut_ne _ _ (by omega)]
    exact h3 q hq
  · rw [List.getElem?_set] at hp
    by_cases q : o = p
    · subst q
      rw [if_pos rfl, if_pos ho] at hp
      rw [gPut_eq]
      exact hp
    · rw [if_neg q] at hp
      rw [gPut_ne _ _ (by omega)]
      exact h4 p y hp
theorem pT_push {x : gC} {n : Nat} (hT : TB h s l c g) (w : ∀ g1, TB h s (l ++ [x]) (c + n) g1 → Wp E M pc ls (.ref (s + l.length) :: st) g1 Q) : Wp E M pc ls (.ref g.2.1 :: st) (gPush g x n) Q := by
  rw [hT.1]
  exact w _ (hT.push x n)
theorem pT_put {o : Nat} {x : gC} (hT : TB h s l c g) (ho : o < l.length) (w : ∀ g1, TB h s (l.set o x) c g1 → Wp E M pc ls st g1 Q) : Wp E M pc ls st (gPut g (s + o) x) Q := w _ (hT.put ho)
theorem TB.sub {x : gC} (hT : TB h s (l ++ [x]) c g) : TB g (s + l.length) [x] 0 g := by
  obtain ⟨h1, h2, h3, h4⟩ := hT
  rw [List.length_append, List.length_singleton] at h1
  refine ⟨by rw [List.length_singleton]; omega, rfl, fun _ _ => rfl, fun o y ho => ?_⟩
  have ho0 : o = 0 := by
    by_cases q : o < 1
    · omega
    · rw [List.getElem?_eq_none (by rw [List.length_singleton]; omega)] at ho
      cases ho
  subst ho0
  refine h4 l.length y ?_
  rw [List.getElem?_append_right (Nat.le_refl _), Nat.sub_self]
  exact ho
theorem TB.join {x : gC} {l' : List gC} {c' : Nat} {g' : gH} (hT : TB h s (l ++ [x]) c g) (h2 : TB g (s + l.length) l' c' g') : TB h s (l ++ l') (c + c') g' := by
  obtain ⟨a1, a2, a3, a4⟩ := hT
  obtain ⟨b1, b2, b3, b4⟩ := h2
  refine ⟨by rw [List.length_append]; omega, by omega, fun q hq => (b3 q (by omega)).trans (a3 q hq), fun o y ho => ?_⟩
  by_cases q : o < l.length
  · rw [List.getElem?_append_left q] at ho
    rw [b3 _ (by omega)]
    exact a4 o y (by rw [List.getElem?_append_left q]; exact ho)
  · rw [List.getElem?_append_right (by omega)] at ho
    have := b4 (o - l.length) y ho
    rw [show s + l.length + (o - l.length) = s + o by omega] at this
    exact this
abbrev hkN (n : Int) : gC := hC n 0 0 0 0 (-1) 0 0
set_option maxRecDepth 100000 in
theorem sp_Ho_init (hB : gB E ≤ s) (hT : TB h s [.inl (2, [.int 0, .int 0, .int 0, .int 0, .int 0, .int 0, .int 0, .int 0])] c g) {x : Int} (k : ∀ g1, TB h s [hkN x] c g1 → Q none g1) : Wp E m_Ho_init 0 (gEnt m_Ho_init [.ref s, .int (zI x)]) [] g Q := by
  show Wp E m_Ho_init 0 [some (_), some (_)] [] _ _
  refine wp_aload_n (pc := 0) d_Ho_init_0 rfl ?_
  refine wp_objInit (pc := 1) d_Ho_init_1 s_Ho_3 ⟨by decide, by decide⟩ (by decide) ?_
  refine wp_aload_n (pc := 4) d_Ho_init_4 rfl ?_
  refine wp_iconst (pc := 5) d_Ho_init_5 ?_
  refine zp_putI (pc := 6) d_Ho_init_6 f_Ho_9 (hT.at (o := 0) rfl) (by omega) (Or.inl rfl) ?_
  refine pT_put (o := 0) hT (Nat.le_of_ble_eq_true rfl) (fun g hT => ?_)
  refine wp_aload_n (pc := 9) d_Ho_init_9 rfl ?_
  refine wp_iconst (pc := 10) d_Ho_init_10 ?_
  refine wp_putfield (pc := 11) d_Ho_init_11 f_Ho_15 (hT.at (o := 0) rfl) (by omega) rfl rfl (Or.inl rfl) ?_
  refine pT_put (o := 0) hT (Nat.le_of_ble_eq_true rfl) (fun g hT => ?_)
  refine wp_aload_n (pc := 14) d_Ho_init_14 rfl ?_
  refine wp_iconst (pc := 15) d_Ho_init_15 ?_
  refine zp_putI (pc := 16) d_Ho_init_16 f_Ho_19 (hT.at (o := 0) rfl) (by omega) (Or.inl rfl) ?_
  refine pT_put (o := 0) hT (Nat.le_of_ble_eq_true rfl) (fun g hT => ?_)
  refine wp_aload_n (pc := 19) d_Ho_init_19 rfl ?_
  refine wp_iconst (pc := 20) d_Ho_init_20 ?_
  refine zp_putI (pc := 21) d_Ho_init_21 f_Ho_22 (hT.at (o := 0) rfl) (by omega) (Or.inl rfl) ?_
  refine pT_put (o := 0) hT (Nat.le_of_ble_eq_true rfl) (fun g hT => ?_)
  refine wp_aload_n (pc := 24) d_Ho_init_24 rfl ?_
  refine wp_iconst (pc := 25) d_Ho_init_25 ?_
  refine zp_putI (pc := 26) d_Ho_init_26 f_Ho_25 (hT.at (o := 0) rfl) (by omega) (Or.inl rfl) ?_
  refine pT_put (o := 0) hT (Nat.le_of_ble_eq_true rfl) (fun g hT => ?_)
  refine wp_aload_n (pc := 29) d_Ho_init_29 rfl ?_
  refine wp_iconst (pc := 30) d_Ho_init_30 ?_
  refine zp_putI (pc := 31) d_Ho_init_31 f_Ho_28 (hT.at (o := 0) rfl) (by omega) (Or.inl rfl) ?_
  refine pT_put (o := 0) hT (Nat.le_of_ble_eq_true rfl) (fun g hT => ?_)
  refine wp_aload_n (pc := 34) d_Ho_init_34 rfl ?_
  refine wp_iconst (pc := 35) d_Ho_init_35 ?_
  refine zp_putI (pc := 36) d_Ho_init_36 f_Ho_31 (hT.at (o := 0) rfl) (by omega) (Or.inl rfl) ?_
  refine pT_put (o := 0) hT (Nat.le_of_ble_eq_true rfl) (fun g hT => ?_)
  refine wp_aload_n (pc := 39) d_Ho_init_39 rfl ?_
  refine wp_iload_n (pc := 40) d_Ho_init_40 rfl ?_
  refine zp_putI (pc := 41) d_Ho_init_41 f_Ho_34 (hT.at (o := 0) rfl) (by omega) (Or.inr ⟨rfl, fun q h9 => by cases h9; rfl⟩) ?_
  refine pT_put (o := 0) hT (Nat.le_of_ble_eq_true rfl) (fun g hT => ?_)
  refine wp_return (pc := 44) d_Ho_init_44 rfl ?_
  exact k _ hT
set_option maxRecDepth 100000 in
theorem sp_Ha_init (hE : gOk E) (hB : gB E ≤ s) (hT : TB h s [.inl (0, [.int 0, .null, .null, .null, .null, .null])] c g) (k : ∀ g1, TB h s [.inl (0, [.int (zI 0), .ref (s + 1), .ref (s + 2), .ref (s + 3), .ref (s + 4), .ref (s + 5)]), gI 16 fun _ => 0, gI 16 fun _ => 0, gI 16 fun _ => 0, gI 16 fun _ => 0, gI 16 fun _ => 0] (c + 16 + 16 + 16 + 16 + 16) g1 → Q none g1) : Wp E m_Ha_init 0 (gEnt m_Ha_init [.ref s]) [] g Q := by
  show Wp E m_Ha_init 0 [some (_)] [] _ _
  refine wp_aload_n (pc := 0) d_Ha_init_0 rfl ?_
  refine wp_objInit (pc := 1) d_Ha_init_1 s_Ha_3 ⟨by decide, by decide⟩ (by decide) ?_
  refine wp_aload_n (pc := 4) d_Ha_init_4 rfl ?_
  refine wp_iconst (pc := 5) d_Ha_init_5 ?_
  refine zp_putI (pc := 6) d_Ha_init_6 f_Ha_9 (hT.at (o := 0) rfl) (by omega) (Or.inl rfl) ?_
  refine pT_put (o := 0) hT (Nat.le_of_ble_eq_true rfl) (fun g hT => ?_)
  refine wp_aload_n (pc := 9) d_Ha_init_9 rfl ?_
  refine zp_bipush (pc := 10) d_Ha_init_10 (by decide) ?_
  refine wp_newarray (kd := 0) (pc := 12) d_Ha_init_12 rfl hE.1 wa_int (fun _ h9 => by cases h9) (by decide) rfl (by decide) ?_
  refine pT_push hT (fun g hT => ?_)
  refine wp_putfield (pc := 14) d_Ha_init_14 f_Ha_15 (hT.at (o := 0) rfl) (by omega) rfl rfl (Or.inl rfl) ?_
  refine pT_put (o := 0) hT (Nat.le_of_ble_eq_true rfl) (fun g hT => ?_)
  refine wp_aload_n (pc := 17) d_Ha_init_17 rfl ?_
  refine zp_bipush (pc := 18) d_Ha_init_18 (by decide) ?_
  refine wp_newarray (kd := 0) (pc := 20) d_Ha_init_20 rfl hE.1 wa_int (fun _ h9 => by cases h9) (by decide) rfl (by decide) ?_
  refine pT_push hT (fun g hT => ?_)
  refine wp_putfield (pc := 22) d_Ha_init_22 f_Ha_19 (hT.at (o := 0) rfl) (by omega) rfl rfl (Or.inl rfl) ?_
  refine pT_put (o := 0) hT (Nat.le_of_ble_eq_true rfl) (fun g hT => ?_)
  refine wp_aload_n (pc := 25) d_Ha_init_25 rfl ?_
  refine zp_bipush (pc := 26) d_Ha_init_26 (by decide) ?_
  refine wp_newarray (kd := 0) (pc := 28) d_Ha_init_28 rfl hE.1 wa_int (fun _ h9 => by cases h9) (by decide) rfl (by decide) ?_
  refine pT_push hT (fun g hT => ?_)
  refine wp_putfield (pc := 30) d_Ha_init_30 f_Ha_22 (hT.at (o := 0) rfl) (by omega) rfl rfl (Or.inl rfl) ?_
  refine pT_put (o := 0) hT (Nat.le_of_ble_eq_true rfl) (fun g hT => ?_)
  refine wp_aload_n (pc := 33) d_Ha_init_33 rfl ?_
  refine zp_bipush (pc := 34) d_Ha_init_34 (by decide) ?_
  refine wp_newarray (kd := 0) (pc := 36) d_Ha_init_36 rfl hE.1 wa_int (fun _ h9 => by cases h9) (by decide) rfl (by decide) ?_
  refine pT_push hT (fun g hT => ?_)
  refine wp_putfield (pc := 38) d_Ha_init_38 f_Ha_25 (hT.at (o := 0) rfl) (by omega) rfl rfl (Or.inl rfl) ?_
  refine pT_put (o := 0) hT (Nat.le_of_ble_eq_true rfl) (fun g hT => ?_)
  refine wp_aload_n (pc := 41) d_Ha_init_41 rfl ?_
  refine zp_bipush (pc := 42) d_Ha_init_42 (by decide) ?_
  refine wp_newarray (kd := 0) (pc := 44) d_Ha_init_44 rfl hE.1 wa_int (fun _ h9 => by cases h9) (by decide) rfl (by decide) ?_
  refine pT_push hT (fun g hT => ?_)
  refine wp_putfield (pc := 46) d_Ha_init_46 f_Ha_28 (hT.at (o := 0) rfl) (by omega) rfl rfl (Or.inl rfl) ?_
  refine pT_put (o := 0) hT (Nat.le_of_ble_eq_true rfl) (fun g hT => ?_)
  refine wp_return (pc := 49) d_Ha_init_49 rfl ?_
  exact k _ hT
set_option maxRecDepth 100000 in
theorem sp_Lg_init (hE : gOk E) (hB : gB E ≤ s) (hT : TB h s [.inl (3, [.int 0, .null, .null, .null, .null])] c g) (k : ∀ g1, TB h s [.inl (3, [.int (zI 0), .ref (s + 1), .ref (s + 2), .ref (s + 3), .ref (s + 4)]), gI 10 fun _ => 0, gI 10 fun _ => 0, gI 10 fun _ => 0, gI 5 fun _ => 0] (c + 10 + 10 + 10 + 5) g1 → Q none g1) : Wp E m_Lg_init 0 (gEnt m_Lg_init [.ref s]) [] g Q := by
  show Wp E m_Lg_init 0 [some (_)] [] _ _
  refine wp_aload_n (pc := 0) d_Lg_init_0 rfl ?_
  refine wp_objInit (pc := 1) d_Lg_init_1 s_Lg_3 ⟨by decide, by decide⟩ (by decide) ?_
  refine wp_aload_n (pc := 4) d_Lg_init_4 rfl ?_
  refine wp_iconst (pc := 5) d_Lg_init_5 ?_
  refine zp_putI (pc := 6) d_Lg_init_6 f_Lg_9 (hT.at (o := 0) rfl) (by omega) (Or.inl rfl) ?_
  refine pT_put (o := 0) hT (Nat.le_of_ble_eq_true rfl) (fun g hT => ?_)
  refine wp_aload_n (pc := 9) d_Lg_init_9 rfl ?_
  refine zp_bipush (pc := 10) d_Lg_init_10 (by decide) ?_
  refine wp_newarray (kd := 0) (pc := 12) d_Lg_init_12 rfl hE.1 wa_int (fun _ h9 => by cases h9) (by decide) rfl (by decide) ?_
  refine pT_push hT (fun g hT => ?_)
  refine wp_putfield (pc := 14) d_Lg_init_14 f_Lg_15 (hT.at (o := 0) rfl) (by omega) rfl rfl (Or.inr ⟨rfl, fun q h9 => by cases h9; rfl⟩) ?_
  refine pT_put (o := 0) hT (Nat.le_of_ble_eq_true rfl) (fun g hT => ?_)
  refine wp_aload_n (pc := 17) d_Lg_init_17 rfl ?_
  refine zp_bipush (pc := 18) d_Lg_init_18 (by decide) ?_
  refine wp_newarray (kd := 0) (pc := 20) d_Lg_init_20 rfl hE.1 wa_int (fun _ h9 => by cases h9) (by decide) rfl (by decide) ?_
  refine pT_push hT (fun g hT => ?_)
  refine wp_putfield (pc := 22) d_Lg_init_22 f_Lg_19 (hT.at (o := 0) rfl) (by omega) rfl rfl (Or.inr ⟨rfl, fun q h9 => by cases h9; rfl⟩) ?_
  refine pT_put (o := 0) hT (Nat.le_of_ble_eq_true rfl) (fun g hT => ?_)
  refine wp_aload_n (pc := 25) d_Lg_init_25 rfl ?_
  refine zp_bipush (pc := 26) d_Lg_init_26 (by decide) ?_
  refine wp_newarray (kd := 0) (pc := 28) d_Lg_init_28 rfl hE.1 wa_int (fun _ h9 => by cases h9) (by decide) rfl (by decide) ?_
  refine pT_push hT (fun g hT => ?_)
  refine wp_putfield (pc := 30) d_Lg_init_30 f_Lg_22 (hT.at (o := 0) rfl) (by omega) rfl rfl (Or.inr ⟨rfl, fun q h9 => by cases h9; rfl⟩) ?_
  refine pT_put (o := 0) hT (Nat.le_of_ble_eq_true rfl) (fun g hT => ?_)
  refine wp_aload_n (pc := 33) d_Lg_init_33 rfl ?_
  refine wp_iconst (pc := 34) d_Lg_init_34 ?_
  refine wp_newarray (kd := 0) (pc := 35) d_Lg_init_35 rfl hE.1 wa_int (fun _ h9 => by cases h9) (by decide) rfl (by decide) ?_
  refine pT_push hT (fun g hT => ?_)
  refine wp_putfield (pc := 37) d_Lg_init_37 f_Lg_25 (hT.at (o := 0) rfl) (by omega) rfl rfl (Or.inr ⟨rfl, fun q h9 => by cases h9; rfl⟩) ?_
  refine pT_put (o := 0) hT (Nat.le_of_ble_eq_true rfl) (fun g hT => ?_)
  refine wp_return (pc := 40) d_Lg_init_40 rfl ?_
  exact k _ hT
set_option maxRecDepth 100000 in
theorem sp_Tx_init (hE : gOk E) (hB : gB E ≤ s) (hT : TB h s [.inl (6, [.null, .int 0, .null, .int 0])] c g) (k : ∀ g1, TB h s [.inl (6, [.ref (s + 1), .int (zI 0), .ref (s + 2), .int (zI 0)]), gCh 60 fun _ => 0, gI 30 fun _ => 0] (c + 60 + 30) g1 → Q none g1) : Wp E m_Tx_init 0 (gEnt m_Tx_init [.ref s]) [] g Q := by
  show Wp E m_Tx_init 0 [some (_)] [] _ _
  refine wp_aload_n (pc := 0) d_Tx_init_0 rfl ?_
  refine wp_objInit (pc := 1) d_Tx_init_1 s_Tx_1 ⟨by decide, by decide⟩ (by decide) ?_
  refine wp_aload_n (pc := 4) d_Tx_init_4 rfl ?_
  refine zp_bipush (pc := 5) d_Tx_init_5 (by decide) ?_
  refine wp_newarray (kd := 1) (pc := 7) d_Tx_init_7 rfl hE.2.1 wa_char (fun _ h9 => by cases h9) (by decide) rfl (by decide) ?_
  refine pT_push hT (fun g hT => ?_)
  refine wp_putfield (pc := 9) d_Tx_init_9 f_Tx_9 (hT.at (o := 0) rfl) (by omega) rfl rfl (Or.inr ⟨rfl, fun q h9 => by cases h9; rfl⟩) ?_
  refine pT_put (o := 0) hT (Nat.le_of_ble_eq_true rfl) (fun g hT => ?_)
  refine wp_aload_n (pc := 12) d_Tx_init_12 rfl ?_
  refine wp_iconst (pc := 13) d_Tx_init_13 ?_
  refine zp_putI (pc := 14) d_Tx_init_14 f_Tx_13 (hT.at (o := 0) rfl) (by omega) (Or.inl rfl) ?_
  refine pT_put (o := 0) hT (Nat.le_of_ble_eq_true rfl) (fun g hT => ?_)
  refine wp_aload_n (pc := 17) d_Tx_init_17 rfl ?_
  refine zp_bipush (pc := 18) d_Tx_init_18 (by decide) ?_
  refine wp_newarray (kd := 0) (pc := 20) d_Tx_init_20 rfl hE.1 wa_int (fun _ h9 => by cases h9) (by decide) rfl (by decide) ?_
  refine pT_push hT (fun g hT => ?_)
  refine wp_putfield (pc := 22) d_Tx_init_22 f_Tx_17 (hT.at (o := 0) rfl) (by omega) rfl rfl (Or.inr ⟨rfl, fun q h9 => by cases h9; rfl⟩) ?_
  refine pT_put (o := 0) hT (Nat.le_of_ble_eq_true rfl) (fun g hT => ?_)
  refine wp_aload_n (pc := 25) d_Tx_init_25 rfl ?_
  refine wp_iconst (pc := 26) d_Tx_init_26 ?_
  refine zp_putI (pc := 27) d_Tx_init_27 f_Tx_21 (hT.at (o := 0) rfl) (by omega) (Or.inl rfl) ?_
  refine pT_put (o := 0) hT (Nat.le_of_ble_eq_true rfl) (fun g hT => ?_)
  refine wp_return (pc := 30) d_Tx_init_30 rfl ?_
  exact k _ hT
end S66
