/-! ===== what each call answers (c_..) and does to the row (u_..), as functions of the row ===== -/
def c_ar (F : Int → Int) (a b : Int) : Int := if ¬ (1 ≤ a ∧ a ≤ 12) then -2 else if ¬ (1 ≤ b ∧ b ≤ 5) then -2 else if F 1 = 5 then -3 else F 1
def u_ar (G : Int → Int) (a b : Int) : Int → Int := zup (zup (zup (zup G (14 + 3 * G 1 + 0) a) (14 + 3 * G 1 + 1) b) (14 + 3 * G 1 + 2) 1) 1 (G 1 + 1)
def sC (F : Int → Int) (r : Int) : Int := sm (fun y => F (29 + 8 * (12 * r + y) + 1)) 12
def c_op (F : Int → Int) (r o : Int) : Int := if ¬ (0 ≤ r ∧ r ≤ F 1 - 1) then -1 else if F (14 + 3 * r + 2) = o then -5 else sC F r
def u_op (G : Int → Int) (r o : Int) : Int → Int := zup G (14 + 3 * r + 2) o
def c_ag (F : Int → Int) (x y : Int) : Int := if ¬ isHk F x then -1 else if ¬ (F (29 + 8 * x + 0) + 1 ≤ y ∧ y ≤ 99) then -2 else if F (29 + 8 * x + 1) = 1 then -4 else if F (29 + 8 * x + 5) = 1 then -4 else F (29 + 8 * x + 0)
def u_ag (G : Int → Int) (x y : Int) : Int → Int := zup G (29 + 8 * x + 0) y
abbrev okSt (w v : Int) : Prop := (w = 0 ∧ 0 ≤ v ∧ v ≤ 3) ∨ (w = 1 ∧ 0 ≤ v ∧ v ≤ 50) ∨ (w = 2 ∧ 1 ≤ v ∧ v ≤ 99)
def c_st (F : Int → Int) (w v : Int) : Int := if ¬ okSt w v then -2 else if F (2 + w) = v then -5 else F (2 + w)
def u_st (G : Int → Int) (w v : Int) : Int → Int := zup G (2 + w) v
def c_tk (F : Int → Int) (y z : Int) : Int := if ¬ (0 ≤ y ∧ y ≤ 19) then -1 else if ¬ (1 ≤ z ∧ z ≤ 5) then -2 else if bst F z 60 = -5 then -3 else tb (hdl F (bst F z 60))
def u_tk (G : Int → Int) (x y z : Int) : Int → Int := lgF (zup (zup (hgF G x y z (G 0)) (509 + y) (G (509 + y) + 1)) 6 (G 6 + 1)) 0 (hdl G x)
/-- the hook of a tag that is valid -/
def hkT (F : Int → Int) (t : Int) : Int := la F (t / 10) / 100
def c_cl (F : Int → Int) (t : Int) : Int := if ¬ noT F t = 0 then noT F t else duF F (hkT F t)
def u_cl (G : Int → Int) (x : Int) : Int → Int := enF (zup (zup G 11 (G 11 + duF G x)) 7 (G 7 + 1)) x 1 2
abbrev isGv (F : Int → Int) (y x : Int) : Prop := F (29 + 8 * x + 1) = 1 ∧ F (29 + 8 * x + 2) = y
def cGv (F : Int → Int) (y : Int) : Nat → Int
  | 0 => 0
  | n + 1 => cGv F y n + bI (isGv F y n)
def gvx (F : Int → Int) (y p : Int) : Nat → Int
  | 0 => -1
  | n + 1 => if 0 ≤ gvx F y p n then gvx F y p n else if isGv F y n ∧ cGv F y n = p then n else -1
def c_gv (F : Int → Int) (y p : Int) : Int := if ¬ (0 ≤ y ∧ y ≤ 19) then -1 else if gvx F y p 60 < 0 then -1 else duF F (gvx F y p 60) + 50
def u_gv (G : Int → Int) (x : Int) : Int → Int := enF (zup (zup G 11 (G 11 + (duF G x + 50))) 8 (G 8 + 1)) x 2 3
/-- a coat goes from a to b -/
def dmU (G : Int → Int) (a b : Int) : Int → Int :=
  lgF (zup (zup (hgF (lvF G a) b (G (29 + 8 * a + 2)) (G (29 + 8 * a + 3)) (G (29 + 8 * a + 4))) (559 + hdl G a) (G (559 + hdl G a) + 512 * (hdl G b + 1))) 10 (G 10 + 1)) 1 (hdl G b)
def c_mv (F : Int → Int) (t x : Int) : Int := if ¬ noT F t = 0 then noT F t else if ¬ isHk F x then -1 else if ¬ isFr F x (F (29 + 8 * hkT F t + 3)) then -4 else tb (hdl F x)
/-- a day passes: hook by hook; days -/
def pdS (F : Int → Int) : Nat → Int × (Int → Int)
  | 0 => (0, F)
  | n + 1 => if (pdS F n).2 (29 + 8 * n + 1) = 1 ∧ (pdS F n).2 4 < (pdS F n).2 0 - (pdS F n).2 (29 + 8 * n + 4) then
      ((pdS F n).1 + 1, enF (zup (zup (pdS F n).2 11 ((pdS F n).2 11 + 10 * (pdS F n).2 (29 + 8 * n + 3))) 9 ((pdS F n).2 9 + 1)) n 3 4) else pdS F n
def psS (F : Int → Int) : Nat → Int × (Int → Int)
  | 0 => (0, F)
  | n + 1 => ((psS F n).1 + (pdS (zup (psS F n).2 0 ((psS F n).2 0 + 1)) 60).1, (pdS (zup (psS F n).2 0 ((psS F n).2 0 + 1)) 60).2)
def c_ps (F : Int → Int) (m : Int) : Int := if ¬ (1 ≤ m ∧ m ≤ 60) then -2 else if 9999 < F 0 + m then -4 else (psS F m.toNat).1
def u_ps (G : Int → Int) (m : Int) : Int → Int := (psS G m.toNat).2
/-- reads -/
def c_rk (F : Int → Int) (r w : Int) : Int := if ¬ (0 ≤ r ∧ r ≤ F 1 - 1) then -1 else if w = 0 then F (14 + 3 * r + 0) else if w = 1 then F (14 + 3 * r + 1) else if w = 2 then F (14 + 3 * r + 2) else if w = 3 then sC F r
  else if w = 4 then sm (fun y => F (29 + 8 * (12 * r + y) + 5)) 12 else if w = 5 then sm (fun y => F (29 + 8 * (12 * r + y) + 0)) 12 else -2
def c_hk (F : Int → Int) (x w : Int) : Int := if ¬ isHk F x then -1 else if w = 0 then F (29 + 8 * x + 0) else if w = 1 then F (29 + 8 * x + 1) else if w = 2 then F (29 + 8 * x + 5)
  else if w = 3 then (if F (29 + 8 * x + 1) = 1 then F (29 + 8 * x + 2) else -5) else if w = 4 then (if F (29 + 8 * x + 1) = 1 then F (29 + 8 * x + 3) else -5) else if w = 5 then (if F (29 + 8 * x + 1) = 1 then F (29 + 8 * x + 4) else -5)
  else if w = 6 then (if F (29 + 8 * x + 1) = 1 then tb (hdl F x) else -5) else if w = 7 then F (29 + 8 * x + 6) else -2
def c_tg (F : Int → Int) (t w : Int) : Int := if ¬ isTg t then -2 else if ¬ (0 ≤ w ∧ w ≤ 5) then -2 else if ¬ 0 < F (559 + t / 10) then -1 else
  if w = 0 then (if eo F (la F (t / 10)) = 0 then la F (t / 10) / 100 else -5) else if w = 1 then wy F (t / 10) else if w = 2 then eo F (la F (t / 10)) else if w = 3 then tb (la F (t / 10))
  else if w = 4 then (if 0 ≤ fol F (t / 10) then tb (fol F (t / 10)) else -5) else F (559 + t / 10) / 16 % 32
def c_to (x : Int) : Int := if 0 ≤ x ∧ x ≤ 5999 then tb x else -2
def sD (F : Int → Int) (y : Int) : Nat → Int
  | 0 => 0
  | n + 1 => sD F y n + (if isGv F y n then duF F n else 0)
def c_gs (F : Int → Int) (y w : Int) : Int := if ¬ (0 ≤ y ∧ y ≤ 19) then -1 else if w = 0 then cGv F y 60 else if w = 1 then sD F y 60 else if w = 2 then F (509 + y) else -2
def c_nx (F : Int → Int) (z : Int) : Int := if 1 ≤ z ∧ z ≤ 5 then bst F z 60 else -2
def c_du (F : Int → Int) (t : Int) : Int := if ¬ noT F t = 0 then noT F t else duF F (hkT F t)
def c_ev (F : Int → Int) (b w : Int) : Int := if b < 0 then -2 else if ¬ (0 ≤ w ∧ w ≤ 2) then -2 else if 10 ≤ b then -5 else if ¬ b < F 13 then -5 else F (529 + 3 * ((F 13 - 1 - b) % 10) + w)
def sH (F : Int → Int) : Nat → Int
  | 0 => 0
  | n + 1 => sH F n + F (14 + 3 * n + 0)
/-- the greatest way of the handles below n -/
def gw (F : Int → Int) : Nat → Int
  | 0 => 0
  | n + 1 => if gw F n < wy F n then wy F n else gw F n
def c_ct (F : Int → Int) (sn ln w : Int) : Int := if w = 0 ∨ w = 1 then F w else if w = 2 then sH F (F 1).toNat else if w = 3 then sm (fun x => F (29 + 8 * x + 1)) 60 else if w = 4 then sm (fun x => F (29 + 8 * x + 5)) 60
  else if 5 ≤ w ∧ w ≤ 11 then F w else if w = 12 then gw F 6000 else if 13 ≤ w ∧ w ≤ 15 then F (w - 11) else if w = 16 then sn else if w = 17 then ln else -2
/-! ===== what holds of hooks and handles of a row ===== -/
/-- entries of handles: nothing, or 1 + 2 end + 16 guest + 512 (the next + 1) -/
abbrev hdE (v : Int) : Prop := v = 0 ∨ (0 < v ∧ v % 2 = 1 ∧ v / 2 % 8 ≤ 3 ∧ v / 16 % 32 ≤ 19 ∧ v / 512 ≤ 6000)
def KA (F : Int → Int) : Prop := ∀ x : Int, 0 ≤ x → x < 60 → F (29 + 8 * x + 1) = 1 → F (559 + hdl F x) = 1 + 16 * F (29 + 8 * x + 2) ∧ isHk F x ∧ F (29 + 8 * x + 5) = 0
def KB (F : Int → Int) : Prop := ∀ x : Int, 0 ≤ x → x < 60 → F (29 + 8 * x + 1) = 0 → F (29 + 8 * x + 5) = 0 → F (559 + hdl F x) = 0
def KC (F : Int → Int) : Prop := ∀ x y : Int, 0 ≤ x → x < 60 → F (29 + 8 * x + 0) < y → y ≤ 99 → F (559 + (100 * x + y)) = 0
def KD (F : Int → Int) : Prop := ∀ x : Int, 0 ≤ x → x < 60 → ¬ isHk F x → F (29 + 8 * x + 0) = 0 ∧ F (29 + 8 * x + 1) = 0 ∧ F (29 + 8 * x + 5) = 0
def KG (F : Int → Int) : Prop := ∀ z : Int, 0 ≤ z → z < 6000 → 0 < F (559 + z) → fol F z < 0 → eo F z = 0 → F (29 + 8 * (z / 100) + 1) = 1 ∧ hdl F (z / 100) = z
def KH (F : Int → Int) : Prop := ∀ z : Int, 0 ≤ z → z < 6000 → hdE (F (559 + z)) ∧ (0 ≤ fol F z → 0 < F (559 + fol F z) ∧ F (559 + fol F z) / 16 % 32 = F (559 + z) / 16 % 32 ∧ eo F z = 0)
def KR (F : Int → Int) : Prop := ∀ x : Int, 0 ≤ x → x < 60 → F (29 + 8 * x + 5) = 1 → F (29 + 8 * x + 0) = 99
/-- all that holds of a row -/
def J (n : Int) (F : Int → Int) : Prop := Vb n F ∧ KA F ∧ KB F ∧ KC F ∧ KD F ∧ KG F ∧ KH F ∧ KR F ∧ AC F
theorem J.vd {n : Int} {F : Int → Int} (h : J n F) : Vd n F := h.1.vd
theorem J.ac {n : Int} {F : Int → Int} (h : J n F) : AC F := h.2.2.2.2.2.2.2.2
/-- J speaks of the first 6559 entries alone -/
theorem fol_congr {F G : Int → Int} {x : Int} (h : G (559 + x) = F (559 + x)) : fol G x = fol F x := by
  unfold fol
  rw [h]
theorem eo_congr {F G : Int → Int} {x : Int} (h : G (559 + x) = F (559 + x)) : eo G x = eo F x := by
  unfold eo
  rw [h]
theorem Ch.congr {F G : Int → Int} (h : ∀ x : Int, 0 ≤ x → x < 6000 → fol G x = fol F x) : ∀ {d : Nat} {x z : Int}, Ch F d x z → Ch G d x z
  | 0, x, z, hc => ⟨hc.1, hc.2.1, hc.2.2.1, by rw [h x hc.2.1 hc.2.2.1]; exact hc.2.2.2⟩
  | d + 1, x, z, hc => ⟨hc.1, hc.2.1, by rw [h x hc.1 hc.2.1]; exact hc.2.2.1, by rw [h x hc.1 hc.2.1]; exact Ch.congr h hc.2.2.2⟩
theorem J.congr {n : Int} {F G : Int → Int} (hg : ∀ j : Int, 0 ≤ j → j < 6559 → G j = F j) (h : J n F) : J n G := by
  have hh : ∀ x : Int, 0 ≤ x → x < 60 → hdl G x = hdl F x := fun x h0 h1 => hdl_congr (hg _ (by omega) (by omega))
  have hb : ∀ x : Int, 0 ≤ x → x < 60 → 0 ≤ hdl F x ∧ hdl F x < 6000 := fun x h0 h1 => by
    have := h.1.vd.2.2.2.1 x h0 h1
    unfold hdl
    omega
  have hi : ∀ x : Int, 0 ≤ x → x < 60 → (isHk G x ↔ isHk F x) := fun x h0 h1 => by
    unfold isHk
    rw [hg 1 (by omega) (by omega), hg (14 + 3 * (x / 12) + 0) (by omega) (by omega)]
  have hf : ∀ x : Int, 0 ≤ x → x < 6000 → fol G x = fol F x := fun x h0 h1 => fol_congr (hg _ (by omega) (by omega))
  have he : ∀ x : Int, 0 ≤ x → x < 6000 → eo G x = eo F x := fun x h0 h1 => eo_congr (hg _ (by omega) (by omega))
  obtain ⟨hV, hA, hB, hC, hD, hG, hH, hR, hAC⟩ := h
  refine ⟨hV.congr hg, fun x h0 h1 h2 => ?_, fun x h0 h1 h2 h3 => ?_, fun x y h0 h1 h2 h3 => ?_, fun x h0 h1 h2 => ?_, fun z h0 h1 h2 h3 h4 => ?_, fun z h0 h1 => ?_, fun x h0 h1 h2 => ?_, fun x h0 h1 => ?_⟩
  · have b := hb x h0 h1
    rw [hh x h0 h1, hi x h0 h1, hg (559 + hdl F x) (by omega) (by omega), hg (29 + 8 * x + 2) (by omega) (by omega), hg (29 + 8 * x + 5) (by omega) (by omega)]
    rw [hg _ (by omega) (by omega)] at h2
    exact hA x h0 h1 h2
  · have b := hb x h0 h1
    rw [hg _ (by omega) (by omega)] at h2 h3
    rw [hh x h0 h1, hg (559 + hdl F x) (by omega) (by omega)]
    exact hB x h0 h1 h2 h3
  · have b := hV.vd.2.2.2.1 x h0 h1
    rw [hg _ (by omega) (by omega)] at h2
    rw [hg (559 + (100 * x + y)) (by omega) (by omega)]
    exact hC x y h0 h1 h2 h3
  · rw [hi x h0 h1] at h2
    rw [hg (29 + 8 * x + 0) (by omega) (by omega), hg (29 + 8 * x + 1) (by omega) (by omega), hg (29 + 8 * x + 5) (by omega) (by omega)]
    exact hD x h0 h1 h2
  · rw [hg _ (by omega) (by omega)] at h2
    rw [hf z h0 h1] at h3
    rw [he z h0 h1] at h4
    rw [hg (29 + 8 * (z / 100) + 1) (by omega) (by omega), hh (z / 100) (by omega) (by omega)]
    exact hG z h0 h1 h2 h3 h4
  · have b := fol_b hV.vd h0 h1
    have c := hH z h0 h1
    rw [hf z h0 h1, he z h0 h1, hg (559 + z) (by omega) (by omega)]
    refine ⟨c.1, fun q => ?_⟩
    have hq : fol F z < 6000 := by
      rcases c.1 with e | e
      · unfold fol at q ⊢
        omega
      · unfold fol
        omega
    rw [hg (559 + fol F z) (by omega) (by omega)]
    exact c.2 q
  · rw [hg _ (by omega) (by omega)] at h2
    rw [hg (29 + 8 * x + 0) (by omega) (by omega)]
    exact hR x h0 h1 h2
  · obtain ⟨d, z, hd, hc⟩ := hAC x h0 h1
    rw [hg 5 (by omega) (by omega)]
    exact ⟨d, z, hd, hc.congr hf⟩
section MHp
variable {mo : Nat} {h : gH} {F g : Int → Int} {sn kp ln v : Int}
theorem MH_p1 : gPut (MH mo h F sn kp g ln) mo (.inl (8, ([.ref (mo + 1), .int (zI sn), .int (zI kp), .ref (mo + 2), .int (zI ln)] : List Value).set 1 (.int (zI v)))) = MH mo h F v kp g ln := MH_po
theorem MH_p2 : gPut (MH mo h F sn kp g ln) mo (.inl (8, ([.ref (mo + 1), .int (zI sn), .int (zI kp), .ref (mo + 2), .int (zI ln)] : List Value).set 2 (.int (zI v)))) = MH mo h F sn v g ln := MH_po
theorem MH_p4 : gPut (MH mo h F sn kp g ln) mo (.inl (8, ([.ref (mo + 1), .int (zI sn), .int (zI kp), .ref (mo + 2), .int (zI ln)] : List Value).set 4 (.int (zI v)))) = MH mo h F sn kp g v := MH_po
end MHp
theorem rcF_J {n : Int} {F : Int → Int} {sn b : Int} (h0 : 0 ≤ sn) (h1 : sn ≤ 4) (h : J n F) : J n (rcF F sn b) := h.congr fun j _ h2 => rcF_lo h0 h1 h2
theorem tb_b {x : Int} (h0 : 0 ≤ x) (h1 : x ≤ 6000) : 0 ≤ tb x ∧ tb x ≤ 60010 := by unfold tb; omega
theorem hdl_b {n : Int} {F : Int → Int} (hV : Vd n F) {x : Int} (h0 : 0 ≤ x) (h1 : x < 60) : 0 ≤ hdl F x ∧ hdl F x ≤ 5999 := by
  have := hV.2.2.2.1 x h0 h1
  unfold hdl
  omega
