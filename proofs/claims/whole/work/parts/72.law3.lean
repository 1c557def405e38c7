/-! ===== each call, side by side ===== -/
section S72
variable {E : gE} {B S : Nat} {h0 h : gH} {X : Nat → SC} {T : TC} {i : Nat} {Y : SC} {F t : Int → Int} {A : Nat → Nat} {N : Nat} {V : Nat → Int → Int} {Q : Option Value → gH → Prop}
variable {E : gE} {B S : Nat} {h : gH} {nv : Int}
theorem st_rack (hE : gOk E) (hB : gB E ≤ B) (hn : nv ≤ 40000000) (hL : LW B S nv h) {x w : Int} (rx : gR x) (rw : gR w) : Wp E m_Yt_rack 0 (gEnt m_Yt_rack [.ref B, .int (zI x), .int (zI w)]) [] h (Two B S (nv + 20000) h E m_Md_rack [.int (zI x), .int (zI w)]) := by
  obtain ⟨X, kp, nw, sn, ln, tc, g, tg, cp, F, t, A, N, V, hL⟩ := hL
  have hW := hL.1
  have hT := hL.2.2.1
  have hJ := hL.2.2.2.1.1
  have hR := hL.2.2.2.1.2
  have hs := hJ.vd.1
  have hn2 : nv ≤ 80000000 := by omega
  have hn3 : nv ≤ 100000000 := by omega
  have hmo : gB E ≤ B + 517 := by omega
  exact sp_Yt_rack hE hB hW hJ hn3 hR rx rw (hL.two_ro hW hR (by omega) (sp_Md_rack hE hJ hn3 rx rw ⟨rfl, rfl⟩))
theorem st_hook (hE : gOk E) (hB : gB E ≤ B) (hn : nv ≤ 40000000) (hL : LW B S nv h) {x w : Int} (rx : gR x) (rw : gR w) : Wp E m_Yt_hook 0 (gEnt m_Yt_hook [.ref B, .int (zI x), .int (zI w)]) [] h (Two B S (nv + 20000) h E m_Md_hook [.int (zI x), .int (zI w)]) := by
  obtain ⟨X, kp, nw, sn, ln, tc, g, tg, cp, F, t, A, N, V, hL⟩ := hL
  have hW := hL.1
  have hT := hL.2.2.1
  have hJ := hL.2.2.2.1.1
  have hR := hL.2.2.2.1.2
  have hs := hJ.vd.1
  have hn2 : nv ≤ 80000000 := by omega
  have hn3 : nv ≤ 100000000 := by omega
  have hmo : gB E ≤ B + 517 := by omega
  exact sp_Yt_hook hE hB hW hJ hn3 hR rx rw (hL.two_ro hW hR (by omega) (sp_Md_hook hE hJ hn3 rx rw ⟨rfl, rfl⟩))
theorem st_tag (hE : gOk E) (hB : gB E ≤ B) (hn : nv ≤ 40000000) (hL : LW B S nv h) {x w : Int} (rx : gR x) (rw : gR w) : Wp E m_Yt_tag 0 (gEnt m_Yt_tag [.ref B, .int (zI x), .int (zI w)]) [] h (Two B S (nv + 20000) h E m_Md_tag [.int (zI x), .int (zI w)]) := by
  obtain ⟨X, kp, nw, sn, ln, tc, g, tg, cp, F, t, A, N, V, hL⟩ := hL
  have hW := hL.1
  have hT := hL.2.2.1
  have hJ := hL.2.2.2.1.1
  have hR := hL.2.2.2.1.2
  have hs := hJ.vd.1
  have hn2 : nv ≤ 80000000 := by omega
  have hn3 : nv ≤ 100000000 := by omega
  have hmo : gB E ≤ B + 517 := by omega
  exact sp_Yt_tag hE hB hW hJ hn3 hR rx rw (hL.two_ro hW hR (by omega) (sp_Md_tag hE hJ hn3 rx rw ⟨rfl, rfl⟩))
theorem st_guest (hE : gOk E) (hB : gB E ≤ B) (hn : nv ≤ 40000000) (hL : LW B S nv h) {x w : Int} (rx : gR x) (rw : gR w) : Wp E m_Yt_guest 0 (gEnt m_Yt_guest [.ref B, .int (zI x), .int (zI w)]) [] h (Two B S (nv + 20000) h E m_Md_guest [.int (zI x), .int (zI w)]) := by
  obtain ⟨X, kp, nw, sn, ln, tc, g, tg, cp, F, t, A, N, V, hL⟩ := hL
  have hW := hL.1
  have hT := hL.2.2.1
  have hJ := hL.2.2.2.1.1
  have hR := hL.2.2.2.1.2
  have hs := hJ.vd.1
  have hn2 : nv ≤ 80000000 := by omega
  have hn3 : nv ≤ 100000000 := by omega
  have hmo : gB E ≤ B + 517 := by omega
  exact sp_Yt_guest hE hB hW hJ hn3 hR rx rw (hL.two_ro hW hR (by omega) (sp_Md_guest hE hJ hn3 rx rw ⟨rfl, rfl⟩))
theorem st_event (hE : gOk E) (hB : gB E ≤ B) (hn : nv ≤ 40000000) (hL : LW B S nv h) {x w : Int} (rx : gR x) (rw : gR w) : Wp E m_Yt_event 0 (gEnt m_Yt_event [.ref B, .int (zI x), .int (zI w)]) [] h (Two B S (nv + 20000) h E m_Md_event [.int (zI x), .int (zI w)]) := by
  obtain ⟨X, kp, nw, sn, ln, tc, g, tg, cp, F, t, A, N, V, hL⟩ := hL
  have hW := hL.1
  have hT := hL.2.2.1
  have hJ := hL.2.2.2.1.1
  have hR := hL.2.2.2.1.2
  have hs := hJ.vd.1
  have hn2 : nv ≤ 80000000 := by omega
  have hn3 : nv ≤ 100000000 := by omega
  have hmo : gB E ≤ B + 517 := by omega
  exact sp_Yt_event hE hB hW hJ hn3 hR rx rw (hL.two_ro hW hR (by omega) (sp_Md_event hE hJ hn3 rx rw ⟨rfl, rfl⟩))
theorem st_next (hE : gOk E) (hB : gB E ≤ B) (hn : nv ≤ 40000000) (hL : LW B S nv h) {x : Int} (rx : gR x) : Wp E m_Yt_next 0 (gEnt m_Yt_next [.ref B, .int (zI x)]) [] h (Two B S (nv + 20000) h E m_Md_next [.int (zI x)]) := by
  obtain ⟨X, kp, nw, sn, ln, tc, g, tg, cp, F, t, A, N, V, hL⟩ := hL
  have hW := hL.1
  have hT := hL.2.2.1
  have hJ := hL.2.2.2.1.1
  have hR := hL.2.2.2.1.2
  have hs := hJ.vd.1
  have hn2 : nv ≤ 80000000 := by omega
  have hn3 : nv ≤ 100000000 := by omega
  have hmo : gB E ≤ B + 517 := by omega
  exact sp_Yt_next hE hB hW hJ hn3 hR rx (hL.two_ro hW hR (by omega) (sp_Md_next hE hJ hn3 rx ⟨rfl, rfl⟩))
theorem st_due (hE : gOk E) (hB : gB E ≤ B) (hn : nv ≤ 40000000) (hL : LW B S nv h) {x : Int} (rx : gR x) : Wp E m_Yt_due 0 (gEnt m_Yt_due [.ref B, .int (zI x)]) [] h (Two B S (nv + 20000) h E m_Md_due [.int (zI x)]) := by
  obtain ⟨X, kp, nw, sn, ln, tc, g, tg, cp, F, t, A, N, V, hL⟩ := hL
  have hW := hL.1
  have hT := hL.2.2.1
  have hJ := hL.2.2.2.1.1
  have hR := hL.2.2.2.1.2
  have hs := hJ.vd.1
  have hn2 : nv ≤ 80000000 := by omega
  have hn3 : nv ≤ 100000000 := by omega
  have hmo : gB E ≤ B + 517 := by omega
  exact sp_Yt_due hE hB hW hJ hn3 hR rx (hL.two_ro hW hR (by omega) (sp_Md_due hE hJ hn3 rx ⟨rfl, rfl⟩))
theorem st_tagOf (hE : gOk E) (hB : gB E ≤ B) (hn : nv ≤ 40000000) (hL : LW B S nv h) {x : Int} (rx : gR x) : Wp E m_Yt_tagOf 0 (gEnt m_Yt_tagOf [.ref B, .int (zI x)]) [] h (Two B S (nv + 20000) h E m_Md_tagOf [.int (zI x)]) := by
  obtain ⟨X, kp, nw, sn, ln, tc, g, tg, cp, F, t, A, N, V, hL⟩ := hL
  have hW := hL.1
  have hT := hL.2.2.1
  have hJ := hL.2.2.2.1.1
  have hR := hL.2.2.2.1.2
  have hs := hJ.vd.1
  have hn2 : nv ≤ 80000000 := by omega
  have hn3 : nv ≤ 100000000 := by omega
  have hmo : gB E ≤ B + 517 := by omega
  exact sp_Yt_tagOf hE hB hW hJ hn3 hR rx (hL.two_ro hW hR (by omega) (sp_Md_tagOf hE rx ⟨rfl, rfl⟩))
theorem st_count (hE : gOk E) (hB : gB E ≤ B) (hn : nv ≤ 40000000) (hL : LW B S nv h) {w : Int} (rw_ : gR w) : Wp E m_Yt_count 0 (gEnt m_Yt_count [.ref B, .int (zI w)]) [] h (Two B S (nv + 20000) h E m_Md_count [.int (zI w)]) := by
  obtain ⟨X, kp, nw, sn, ln, tc, g, tg, cp, F, t, A, N, V, hL⟩ := hL
  have hW := hL.1
  have hT := hL.2.2.1
  have hJ := hL.2.2.2.1.1
  have hR := hL.2.2.2.1.2
  have hs := hJ.vd.1
  have hn2 : nv ≤ 80000000 := by omega
  have hn3 : nv ≤ 100000000 := by omega
  have hmo : gB E ≤ B + 517 := by omega
  exact sp_Yt_count hE hB hW hJ hn3 hR rw_ (fun g1 V2 hW2 hR2 => hL.two_ro hW2 hR2 (by omega) (sp_Md_count hE hJ hn3 rw_ ⟨rfl, rfl⟩))
theorem st_addRack (hE : gOk E) (hB : gB E ≤ B) (hn : nv ≤ 40000000) (hL : LW B S nv h) {x y : Int} (rx : gR x) (ry : gR y) : Wp E m_Yt_addRack 0 (gEnt m_Yt_addRack [.ref B, .int (zI x), .int (zI y)]) [] h (Two B S (nv + 20000) h E m_Md_addRack [.int (zI x), .int (zI y)]) := by
  obtain ⟨X, kp, nw, sn, ln, tc, g, tg, cp, F, t, A, N, V, hL⟩ := hL
  have hW := hL.1
  have hT := hL.2.2.1
  have hJ := hL.2.2.2.1.1
  have hR := hL.2.2.2.1.2
  have hs := hJ.vd.1
  have hn2 : nv ≤ 80000000 := by omega
  have hn3 : nv ≤ 100000000 := by omega
  have hmo : gB E ≤ B + 517 := by omega
  refine sp_Yt_addRack hE hB hW hT.1 hT.2.1 hJ hn2 hR hL.ga rx ry (fun hc => ?_) (fun hc g1 A3 N3 V3 t2 A2 N2 V2 hW2 hR3 hR2 => ?_)
  · exact hL.two_ro hW hR (by omega) (sp_Md_addRack hE hmo hJ (by omega) hT.2.1.1 hT.2.1.2 rx ry (fun _ => ⟨rfl, rfl⟩) (fun q => absurd hc q))
  · have hok := ar_ok hs.2.1 hc
    have hAg : Ag F (rcF F sn 0) := fun j hj => rcF_lo hT.2.1.1 hT.2.1.2 hj
    have hJG : J nv (rcF F sn 0) := rcF_J hT.2.1.1 hT.2.1.2 hJ
    have hG1 : rcF F sn 0 1 = F 1 := hAg 1 (by omega)
    exact hL.two_act hW2 hR3 hR2 ((hJ.ar (by omega) (by omega) (by omega)).mono (by omega)) (by omega) (sp_Md_addRack hE hmo hJ (by omega) hT.2.1.1 hT.2.1.2 rx ry (fun q => absurd q hc) (fun _ => ⟨rfl, _, rfl, fun j _ hj => ag_ar hAg j hj, fun j hj _ => ou_ar (by omega) j hj⟩))
theorem st_open (hE : gOk E) (hB : gB E ≤ B) (hn : nv ≤ 40000000) (hL : LW B S nv h) {x o : Int} (rx : gR x) (ro : o = 0 ∨ o = 1) : Wp E m_Yt_open 0 (gEnt m_Yt_open [.ref B, .int (zI x), .int (zI o)]) [] h (Two B S (nv + 20000) h E m_Md_open [.int (zI x), .int (zI o)]) := by
  obtain ⟨X, kp, nw, sn, ln, tc, g, tg, cp, F, t, A, N, V, hL⟩ := hL
  have hW := hL.1
  have hT := hL.2.2.1
  have hJ := hL.2.2.2.1.1
  have hR := hL.2.2.2.1.2
  have hs := hJ.vd.1
  have hn2 : nv ≤ 80000000 := by omega
  have hn3 : nv ≤ 100000000 := by omega
  have hmo : gB E ≤ B + 517 := by omega
  refine sp_Yt_open hE hB hW hT.1 hT.2.1 hJ hn2 hR hL.ga rx ro (fun hc => ?_) (fun hc g1 A3 N3 V3 t2 A2 N2 V2 hW2 hR3 hR2 => ?_)
  · exact hL.two_ro hW hR (by omega) (sp_Md_open hE hmo hJ (by omega) hT.2.1.1 hT.2.1.2 rx ro (fun _ => ⟨rfl, rfl⟩) (fun q => absurd hc q))
  · have hok := op_ok hc
    have hAg : Ag F (rcF F sn 0) := fun j hj => rcF_lo hT.2.1.1 hT.2.1.2 hj
    have hJG : J nv (rcF F sn 0) := rcF_J hT.2.1.1 hT.2.1.2 hJ
    have hG1 : rcF F sn 0 1 = F 1 := hAg 1 (by omega)
    exact hL.two_act hW2 hR3 hR2 ((hJ.op (by omega) (by omega) (by omega)).mono (by omega)) (by omega) (sp_Md_open hE hmo hJ (by omega) hT.2.1.1 hT.2.1.2 rx ro (fun q => absurd q hc) (fun _ => ⟨rfl, _, rfl, fun j _ hj => hAg.up rfl j hj, fun j hj _ => ou_op (by omega) j hj⟩))
theorem st_age (hE : gOk E) (hB : gB E ≤ B) (hn : nv ≤ 40000000) (hL : LW B S nv h) {x y : Int} (rx : gR x) (ry : gR y) : Wp E m_Yt_age 0 (gEnt m_Yt_age [.ref B, .int (zI x), .int (zI y)]) [] h (Two B S (nv + 20000) h E m_Md_age [.int (zI x), .int (zI y)]) := by
  obtain ⟨X, kp, nw, sn, ln, tc, g, tg, cp, F, t, A, N, V, hL⟩ := hL
  have hW := hL.1
  have hT := hL.2.2.1
  have hJ := hL.2.2.2.1.1
  have hR := hL.2.2.2.1.2
  have hs := hJ.vd.1
  have hn2 : nv ≤ 80000000 := by omega
  have hn3 : nv ≤ 100000000 := by omega
  have hmo : gB E ≤ B + 517 := by omega
  refine sp_Yt_age hE hB hW hT.1 hT.2.1 hJ hn2 hR hL.ga rx ry (fun hc => ?_) (fun hc g1 A3 N3 V3 t2 A2 N2 V2 hW2 hR3 hR2 => ?_)
  · exact hL.two_ro hW hR (by omega) (sp_Md_age hE hmo hJ (by omega) hT.2.1.1 hT.2.1.2 rx ry (fun _ => ⟨rfl, rfl⟩) (fun q => absurd hc q))
  · have hok := ag_ok hc
    have hAg : Ag F (rcF F sn 0) := fun j hj => rcF_lo hT.2.1.1 hT.2.1.2 hj
    have hJG : J nv (rcF F sn 0) := rcF_J hT.2.1.1 hT.2.1.2 hJ
    have hG1 : rcF F sn 0 1 = F 1 := hAg 1 (by omega)
    have hk := hJ.vd.2.2.2.1 x (by omega) (by omega)
    exact hL.two_act hW2 hR3 hR2 ((hJ.ag (by omega) (by omega) hok.1 (by omega) (by omega) (by omega) (by omega)).mono (by omega)) (by omega) (sp_Md_age hE hmo hJ (by omega) hT.2.1.1 hT.2.1.2 rx ry (fun q => absurd q hc) (fun _ => ⟨rfl, _, rfl, fun j _ hj => hAg.up rfl j hj, fun j hj _ => ou_ag (by omega) j hj⟩))
theorem st_set (hE : gOk E) (hB : gB E ≤ B) (hn : nv ≤ 40000000) (hL : LW B S nv h) {w v : Int} (rw_ : gR w) (rv : gR v) : Wp E m_Yt_set 0 (gEnt m_Yt_set [.ref B, .int (zI w), .int (zI v)]) [] h (Two B S (nv + 20000) h E m_Md_set [.int (zI w), .int (zI v)]) := by
  obtain ⟨X, kp, nw, sn, ln, tc, g, tg, cp, F, t, A, N, V, hL⟩ := hL
  have hW := hL.1
  have hT := hL.2.2.1
  have hJ := hL.2.2.2.1.1
  have hR := hL.2.2.2.1.2
  have hs := hJ.vd.1
  have hn2 : nv ≤ 80000000 := by omega
  have hn3 : nv ≤ 100000000 := by omega
  have hmo : gB E ≤ B + 517 := by omega
  refine sp_Yt_set hE hB hW hT.1 hT.2.1 hJ hn2 hR hL.ga rw_ rv (fun hc => ?_) (fun hc g1 A3 N3 V3 t2 A2 N2 V2 hW2 hR3 hR2 => ?_)
  · exact hL.two_ro hW hR (by omega) (sp_Md_set hE hmo hJ (by omega) hT.2.1.1 hT.2.1.2 rw_ rv (fun _ => ⟨rfl, rfl⟩) (fun q => absurd hc q))
  · have hok := st_ok hc
    have hAg : Ag F (rcF F sn 0) := fun j hj => rcF_lo hT.2.1.1 hT.2.1.2 hj
    have hJG : J nv (rcF F sn 0) := rcF_J hT.2.1.1 hT.2.1.2 hJ
    have hG1 : rcF F sn 0 1 = F 1 := hAg 1 (by omega)
    exact hL.two_act hW2 hR3 hR2 ((hJ.st hok).mono (by omega)) (by omega) (sp_Md_set hE hmo hJ (by omega) hT.2.1.1 hT.2.1.2 rw_ rv (fun q => absurd q hc) (fun _ => ⟨rfl, _, rfl, fun j _ hj => hAg.up rfl j hj, fun j hj _ => ou_st (by omega) j hj⟩))
theorem st_take (hE : gOk E) (hB : gB E ≤ B) (hn : nv ≤ 40000000) (hL : LW B S nv h) {y z : Int} (ry : gR y) (rz : gR z) : Wp E m_Yt_take 0 (gEnt m_Yt_take [.ref B, .int (zI y), .int (zI z)]) [] h (Two B S (nv + 20000) h E m_Md_take [.int (zI y), .int (zI z)]) := by
  obtain ⟨X, kp, nw, sn, ln, tc, g, tg, cp, F, t, A, N, V, hL⟩ := hL
  have hW := hL.1
  have hT := hL.2.2.1
  have hJ := hL.2.2.2.1.1
  have hR := hL.2.2.2.1.2
  have hs := hJ.vd.1
  have hn2 : nv ≤ 80000000 := by omega
  have hn3 : nv ≤ 100000000 := by omega
  have hmo : gB E ≤ B + 517 := by omega
  refine sp_Yt_take hE hB hW hT.1 hT.2.1 hJ hn2 hR hL.ga ry rz (fun hc => ?_) (fun hc g1 A3 N3 V3 t2 A2 N2 V2 hW2 hR3 hR2 => ?_)
  · exact hL.two_ro hW hR (by omega) (sp_Md_take hE hmo hJ (by omega) hT.2.1.1 hT.2.1.2 ry rz (fun _ => ⟨rfl, rfl⟩) (fun q => absurd hc q))
  · have hok := tk_ok hc
    have hAg : Ag F (rcF F sn 0) := fun j hj => rcF_lo hT.2.1.1 hT.2.1.2 hj
    have hJG : J nv (rcF F sn 0) := rcF_J hT.2.1.1 hT.2.1.2 hJ
    have hG1 : rcF F sn 0 1 = F 1 := hAg 1 (by omega)
    have hfr := bst_fr 60 hok.2.2
    exact hL.two_act hW2 hR3 hR2 ((hJ.tk hfr hok.1 (by omega)).mono (by omega)) (by omega) (sp_Md_take hE hmo hJ (by omega) hT.2.1.1 hT.2.1.2 ry rz (fun q => absurd q hc) (fun _ => ⟨rfl, _, rfl, fun j _ hj => ag_tk hAg (by omega) (by omega) j hj, fun j hj _ => ou_tk hJG (by omega) (by omega) (by omega) j hj⟩))
theorem st_claim (hE : gOk E) (hB : gB E ≤ B) (hn : nv ≤ 40000000) (hL : LW B S nv h) {x : Int} (rx : gR x) : Wp E m_Yt_claim 0 (gEnt m_Yt_claim [.ref B, .int (zI x)]) [] h (Two B S (nv + 20000) h E m_Md_claim [.int (zI x)]) := by
  obtain ⟨X, kp, nw, sn, ln, tc, g, tg, cp, F, t, A, N, V, hL⟩ := hL
  have hW := hL.1
  have hT := hL.2.2.1
  have hJ := hL.2.2.2.1.1
  have hR := hL.2.2.2.1.2
  have hs := hJ.vd.1
  have hn2 : nv ≤ 80000000 := by omega
  have hn3 : nv ≤ 100000000 := by omega
  have hmo : gB E ≤ B + 517 := by omega
  refine sp_Yt_claim hE hB hW hT.1 hT.2.1 hJ hn2 hR hL.ga rx (fun hc => ?_) (fun hc g1 A3 N3 V3 t2 A2 N2 V2 hW2 hR3 hR2 => ?_)
  · exact hL.two_ro hW hR (by omega) (sp_Md_claim hE hmo hJ (by omega) hT.2.1.1 hT.2.1.2 rx (fun _ => ⟨rfl, rfl⟩) (fun q => absurd hc q))
  · have hok := cl_ok hc
    have hAg : Ag F (rcF F sn 0) := fun j hj => rcF_lo hT.2.1.1 hT.2.1.2 hj
    have hJG : J nv (rcF F sn 0) := rcF_J hT.2.1.1 hT.2.1.2 hJ
    have hG1 : rcF F sn 0 1 = F 1 := hAg 1 (by omega)
    have ht := hJ.tag hok
    exact hL.two_act hW2 hR3 hR2 ((hJ.cl ht.2.2.1 ht.2.2.2.1 ht.2.2.2.2.1).mono (by omega)) (by omega) (sp_Md_claim hE hmo hJ (by omega) hT.2.1.1 hT.2.1.2 rx (fun q => absurd q hc) (fun _ => ⟨rfl, _, rfl, fun j _ hj => ag_cl hJ hAg ht.2.2.1 ht.2.2.2.1 j hj, fun j hj _ => u_cl_ou hJG ht.2.2.1 ht.2.2.2.1 j hj⟩))
theorem st_giveOut (hE : gOk E) (hB : gB E ≤ B) (hn : nv ≤ 40000000) (hL : LW B S nv h) {y p : Int} (ry : gR y) (rp : gR p) : Wp E m_Yt_giveOut 0 (gEnt m_Yt_giveOut [.ref B, .int (zI y), .int (zI p)]) [] h (Two B S (nv + 20000) h E m_Md_giveOut [.int (zI y), .int (zI p)]) := by
  obtain ⟨X, kp, nw, sn, ln, tc, g, tg, cp, F, t, A, N, V, hL⟩ := hL
  have hW := hL.1
  have hT := hL.2.2.1
  have hJ := hL.2.2.2.1.1
  have hR := hL.2.2.2.1.2
  have hs := hJ.vd.1
  have hn2 : nv ≤ 80000000 := by omega
  have hn3 : nv ≤ 100000000 := by omega
  have hmo : gB E ≤ B + 517 := by omega
  refine sp_Yt_giveOut hE hB hW hT.1 hT.2.1 hJ hn2 hR hL.ga ry rp (fun hc => ?_) (fun hc g1 A3 N3 V3 t2 A2 N2 V2 hW2 hR3 hR2 => ?_)
  · exact hL.two_ro hW hR (by omega) (sp_Md_giveOut hE hmo hJ (by omega) hT.2.1.1 hT.2.1.2 rp ry (fun _ => ⟨rfl, rfl⟩) (fun q => absurd hc q))
  · have hok := gv_ok hc
    have hAg : Ag F (rcF F sn 0) := fun j hj => rcF_lo hT.2.1.1 hT.2.1.2 hj
    have hJG : J nv (rcF F sn 0) := rcF_J hT.2.1.1 hT.2.1.2 hJ
    have hG1 : rcF F sn 0 1 = F 1 := hAg 1 (by omega)
    have hgi := (gvx_in (F := F) (y := y) (p := p) 60).resolve_left (by omega)
    exact hL.two_act hW2 hR3 hR2 ((hJ.gv hgi.1 (by omega) hgi.2.2.1.1).mono (by omega)) (by omega) (sp_Md_giveOut hE hmo hJ (by omega) hT.2.1.1 hT.2.1.2 rp ry (fun q => absurd q hc) (fun _ => ⟨rfl, _, rfl, fun j _ hj => ag_gv hJ hAg hgi.1 (by omega) j hj, fun j hj _ => ou_gv hJG hgi.1 (by omega) j hj⟩))
theorem st_move (hE : gOk E) (hB : gB E ≤ B) (hn : nv ≤ 40000000) (hL : LW B S nv h) {x y : Int} (rx : gR x) (ry : gR y) : Wp E m_Yt_move 0 (gEnt m_Yt_move [.ref B, .int (zI x), .int (zI y)]) [] h (Two B S (nv + 20000) h E m_Md_move [.int (zI x), .int (zI y)]) := by
  obtain ⟨X, kp, nw, sn, ln, tc, g, tg, cp, F, t, A, N, V, hL⟩ := hL
  have hW := hL.1
  have hT := hL.2.2.1
  have hJ := hL.2.2.2.1.1
  have hR := hL.2.2.2.1.2
  have hs := hJ.vd.1
  have hn2 : nv ≤ 80000000 := by omega
  have hn3 : nv ≤ 100000000 := by omega
  have hmo : gB E ≤ B + 517 := by omega
  refine sp_Yt_move hE hB hW hT.1 hT.2.1 hJ hn2 hR hL.ga rx ry (fun hc => ?_) (fun hc g1 A3 N3 V3 t2 A2 N2 V2 hW2 hR3 hR2 => ?_)
  · exact hL.two_ro hW hR (by omega) (sp_Md_move hE hmo hJ (by omega) hT.2.1.1 hT.2.1.2 rx ry (fun _ => ⟨rfl, rfl⟩) (fun q => absurd hc q))
  · have hok := mv_ok hc
    have hAg : Ag F (rcF F sn 0) := fun j hj => rcF_lo hT.2.1.1 hT.2.1.2 hj
    have hJG : J nv (rcF F sn 0) := rcF_J hT.2.1.1 hT.2.1.2 hJ
    have hG1 : rcF F sn 0 1 = F 1 := hAg 1 (by omega)
    have ht := hJ.tag hok.1
    have hfr := hok.2
    have hk := hJ.vd.2.2.2.1 y (by omega) (by omega)
    have hne : hkT F x ≠ y := fun q => hfr.2.1 (by rw [← q]; exact ht.2.2.2.2.1)
    have hba := hdl_b hJ.vd ht.2.2.1 ht.2.2.2.1
    exact hL.two_act hW2 hR3 hR2 ((hJ.dm ht.2.2.1 ht.2.2.2.1 (by omega) (by omega) ht.2.2.2.2.1 (by omega) hfr.2.2.1 hfr.1).mono (by omega)) (by omega) (sp_Md_move hE hmo hJ (by omega) hT.2.1.1 hT.2.1.2 rx ry (fun q => absurd q hc) (fun _ => ⟨rfl, _, rfl, fun j _ hj => ag_dm hAg ht.2.2.2.1 (by omega) (by omega) j hj, fun j hj _ => ou_dm hJG ht.2.2.1 ht.2.2.2.1 (by omega) (by omega) hne j hj⟩))
theorem st_pass (hE : gOk E) (hB : gB E ≤ B) (hn : nv ≤ 40000000) (hL : LW B S nv h) {m : Int} (rm : gR m) : Wp E m_Yt_pass 0 (gEnt m_Yt_pass [.ref B, .int (zI m)]) [] h (Two B S (nv + 20000) h E m_Md_pass [.int (zI m)]) := by
  obtain ⟨X, kp, nw, sn, ln, tc, g, tg, cp, F, t, A, N, V, hL⟩ := hL
  have hW := hL.1
  have hT := hL.2.2.1
  have hJ := hL.2.2.2.1.1
  have hR := hL.2.2.2.1.2
  have hs := hJ.vd.1
  have hn2 : nv ≤ 80000000 := by omega
  have hn3 : nv ≤ 100000000 := by omega
  have hmo : gB E ≤ B + 517 := by omega
  refine sp_Yt_pass hE hB hW hT.1 hT.2.1 hJ hn2 hR hL.ga rm (fun hc => ?_) (fun hc g1 A3 N3 V3 t2 A2 N2 V2 hW2 hR3 hR2 => ?_)
  · exact hL.two_ro hW hR (by omega) (sp_Md_pass hE hmo hJ (by omega) hT.2.1.1 hT.2.1.2 rm (fun _ => ⟨rfl, rfl⟩) (fun q => absurd hc q))
  · have hok := ps_ok hc
    have hAg : Ag F (rcF F sn 0) := fun j hj => rcF_lo hT.2.1.1 hT.2.1.2 hj
    have hJG : J nv (rcF F sn 0) := rcF_J hT.2.1.1 hT.2.1.2 hJ
    have hG1 : rcF F sn 0 1 = F 1 := hAg 1 (by omega)
    have hps := hJ.ps m.toNat (by omega)
    have hG0 : rcF F sn 0 0 = F 0 := hAg 0 (by omega)
    exact hL.two_act hW2 hR3 hR2 (hps.1.mono (by omega)) (by omega) (sp_Md_pass hE hmo hJ (by omega) hT.2.1.1 hT.2.1.2 rm (fun q => absurd q hc) (fun _ => ⟨rfl, _, rfl, fun j _ hj => (ag_ps hJ hAg m.toNat (by omega)).2 j hj, fun j hj _ => ou_ps hJG m.toNat (by omega) j hj⟩))
theorem st_shorten (hE : gOk E) (hB : gB E ≤ B) (hn : nv ≤ 40000000) (hL : LW B S nv h) : Wp E m_Yt_shorten 0 (gEnt m_Yt_shorten [.ref B]) [] h (Two B S (nv + 20000) h E m_Md_shorten []) := by
  obtain ⟨X, kp, nw, sn, ln, tc, g, tg, cp, F, t, A, N, V, hL⟩ := hL
  have hW := hL.1
  have hT := hL.2.2.1
  have hJ := hL.2.2.2.1.1
  have hR := hL.2.2.2.1.2
  have hs := hJ.vd.1
  have hn2 : nv ≤ 80000000 := by omega
  have hn3 : nv ≤ 100000000 := by omega
  have hmo : gB E ≤ B + 517 := by omega
  refine sp_Yt_shorten hE hB hW hT.1 hT.2.1 hJ hn2 hR hL.ga (fun hc g1 V2 hW2 hR2 => ?_) (fun hc g1 A3 N3 V3 t2 A2 N2 V2 hW2 hR3 hR2 => ?_)
  · exact hL.two_ro hW2 hR2 (by omega) (sp_Md_shorten hE hmo hJ hn3 hT.2.1.1 hT.2.1.2 (fun _ => ⟨rfl, rfl⟩) (fun q => absurd hc q))
  · have hAg : Ag F (rcF F sn 0) := fun j hj => rcF_lo hT.2.1.1 hT.2.1.2 hj
    have hJG : J nv (rcF F sn 0) := rcF_J hT.2.1.1 hT.2.1.2 hJ
    have hG1 : rcF F sn 0 1 = F 1 := hAg 1 (by omega)
    exact hL.two_act hW2 hR3 hR2 (hJ.sh.mono (by omega)) (by omega) (sp_Md_shorten hE hmo hJ hn3 hT.2.1.1 hT.2.1.2 (fun q => absurd q hc) (fun _ => ⟨rfl, _, rfl, fun j _ hj => ag_sh hJ hAg j hj, fun j hj _ => shF_lo (by omega)⟩))
theorem st_moveAll (hE : gOk E) (hB : gB E ≤ B) (hn : nv ≤ 40000000) (hL : LW B S nv h) {x y : Int} (rx : gR x) (ry : gR y) : Wp E m_Yt_moveAll 0 (gEnt m_Yt_moveAll [.ref B, .int (zI x), .int (zI y)]) [] h (Two B S (nv + 20000) h E m_Md_moveAll [.int (zI x), .int (zI y)]) := by
  obtain ⟨X, kp, nw, sn, ln, tc, g, tg, cp, F, t, A, N, V, hL⟩ := hL
  have hW := hL.1
  have hT := hL.2.2.1
  have hJ := hL.2.2.2.1.1
  have hR := hL.2.2.2.1.2
  have hs := hJ.vd.1
  have hn2 : nv ≤ 80000000 := by omega
  have hn3 : nv ≤ 100000000 := by omega
  have hmo : gB E ≤ B + 517 := by omega
  refine sp_Yt_moveAll hE hB hW hT.1 hT.2.1 hJ hn2 hR hL.ga rx ry (fun hc => ?_) (fun hc g1 A3 N3 V3 t2 A2 N2 V2 hW2 hR3 hR2 => ?_)
  · exact hL.two_er hW hR (by omega) (sp_Md_moveAll hE hmo hJ (by omega) hT.2.1.1 hT.2.1.2 rx ry (fun F2 h2 => by
      rw [if_pos hc] at h2
      rw [if_pos hc]
      exact ⟨rfl, F2, rfl, h2⟩))
  · obtain ⟨k1, k2, k3⟩ := ma_ok hc
    have hAg : Ag F (rcF F sn 0) := fun j hj => rcF_lo hT.2.1.1 hT.2.1.2 hj
    have hJG : J nv (rcF F sn 0) := rcF_J hT.2.1.1 hT.2.1.2 hJ
    have hG1 : rcF F sn 0 1 = F 1 := hAg 1 (by omega)
    have hmv := hJ.mv (a := x) (b := y) ⟨k1.1, by omega⟩ ⟨k2.1, by omega⟩ k3 12 (by omega)
    exact hL.two_act hW2 hR3 hR2 (hmv.mono (by omega)) (by omega) (sp_Md_moveAll hE hmo hJ (by omega) hT.2.1.1 hT.2.1.2 rx ry (fun F2 h2 => by
      rw [if_neg hc] at h2
      rw [if_neg hc]
      exact ⟨rfl, F2, rfl, fun j _ hj => (h2 j (by omega)).trans ((ag_mv hJ hAg ⟨k1.1, by omega⟩ ⟨k2.1, by omega⟩ k3 12 (by omega)).2 j hj), fun j hj hj2 => (h2 j hj2).trans ((mvS_ou hJG ⟨k1.1, by omega⟩ ⟨k2.1, by omega⟩ k3 12 (by omega)).1 j hj)⟩))
theorem st_claimAll (hE : gOk E) (hB : gB E ≤ B) (hn : nv ≤ 40000000) (hL : LW B S nv h) : Wp E m_Yt_claimAll 0 (gEnt m_Yt_claimAll [.ref B]) [] h (Two B S (nv + 20000) h E m_Md_claimAll []) := by
  obtain ⟨X, kp, nw, sn, ln, tc, g, tg, cp, F, t, A, N, V, hL⟩ := hL
  have hW := hL.1
  have hT := hL.2.2.1
  have hJ := hL.2.2.2.1.1
  have hR := hL.2.2.2.1.2
  have hs := hJ.vd.1
  have hn2 : nv ≤ 80000000 := by omega
  have hn3 : nv ≤ 100000000 := by omega
  have hmo : gB E ≤ B + 517 := by omega
  have hl := hT.2.2.1
  have hgc := hT.2.2.2.2
  refine sp_Yt_claimAll hE hB hW hT.1 hT.2.1 hJ hn2 hR hL.ga hl.1 hl.2 hgc (fun hc g1 tc2 tg2 cp2 hW2 => ?_) (fun hc g1 tc2 tg2 cp2 A3 N3 V3 t2 A2 N2 V2 hW2 hR3 hR2 => ?_)
  · exact hL.two_er hW2 hR (by omega) (sp_Md_claimAll hE hmo hJ (by omega) hT.2.1.1 hT.2.1.2 hl.1 hl.2 hgc (fun F2 h2 => by
      rw [if_pos hc] at h2
      rw [if_pos hc]
      exact ⟨rfl, F2, rfl, h2⟩))
  · have hlen := (tgs_f hl.1 hl.2 (ca_ok hl.1 hl.2 hc)).1
    have hAg : Ag F (rcF F sn 0) := fun j hj => rcF_lo hT.2.1.1 hT.2.1.2 hj
    have hJG : J nv (rcF F sn 0) := rcF_J hT.2.1.1 hT.2.1.2 hJ
    have hG1 : rcF F sn 0 1 = F 1 := hAg 1 (by omega)
    have hI := clS_I hJ (tgs g ln)
    exact hL.two_act hW2 hR3 hR2 (hI.1.mono (by omega)) (by omega) (sp_Md_claimAll hE hmo hJ (by omega) hT.2.1.1 hT.2.1.2 hl.1 hl.2 hgc (fun F2 h2 => by
      rw [if_neg hc] at h2
      rw [if_neg hc]
      exact ⟨rfl, F2, rfl, fun j _ hj => (h2 j (by omega)).trans ((ag_ca hJ hAg (tgs g ln)).2.2 j hj), fun j hj hj2 => (h2 j hj2).trans ((clS_I hJG (tgs g ln)).2.1 j hj)⟩))
end S72
