/-! ===== all that is told, in one number ===== -/
section S74
variable {E : gE} {B S : Nat} {h0 h : gH} {Q : Option Value → gH → Prop} {nv : Int} {F G K : Int → Int} {sn kp : Int}
theorem st_l1 {M : gMd} {pc : Nat} {st : List Value} {o0 o1 : Option Value} {t : List (Option Value)} {x : Int64} (hd : gDec M pc (.lstore_n 1) 1) (hk : 1 + 1 < gMl M ∧ gLn M 1 = true ∧ gLn M (1 - 1) = false) (w : Wp E M (pc + 1) (o0 :: some (.long x) :: none :: t) st h Q) : Wp E M pc (o0 :: o1 :: none :: t) (.long x :: st) h Q := wp_lstore_n hd hk rfl rfl w
theorem st_l5 {M : gMd} {pc : Nat} {st : List Value} {o0 o1 o2 o3 o4 o5 : Option Value} {t : List (Option Value)} {x : Int64} (hd : gDec M pc (.lstore 5) 2) (hk : 5 + 1 < gMl M ∧ gLn M 5 = true ∧ gLn M (5 - 1) = false) (w : Wp E M (pc + 2) (o0 :: o1 :: o2 :: o3 :: o4 :: some (.long x) :: none :: t) st h Q) : Wp E M pc (o0 :: o1 :: o2 :: o3 :: o4 :: o5 :: none :: t) (.long x :: st) h Q := wp_lstore hd hk rfl rfl w
def la1 (f : Int → Int) : Nat → Int64 → Int64
  | 0, s => s
  | n + 1, s => 31 * la1 f n s + (zI (f n)).toInt64
def la2 (f : Int → Int → Int) (m : Nat) : Nat → Int64 → Int64
  | 0, s => s
  | n + 1, s => la1 (f n) m (la2 f m n s)
def la3 (F : Int → Int) : Nat → Int64 → Int64
  | 0, s => s
  | n + 1, s => if isHk F n then la1 (c_hk F n) 8 (la3 F n s) else la3 F n s
theorem la1_s (f : Int → Int) (n : Nat) (s : Int64) : 31 * la1 f n s + (zI (f n)).toInt64 = la1 f (n + 1) s := rfl
theorem la2_s (f : Int → Int → Int) (m n : Nat) (s : Int64) : la1 (f n) m (la2 f m n s) = la2 f m (n + 1) s := rfl
theorem la3_y {F : Int → Int} {n : Nat} {s : Int64} (h : isHk F n) : la1 (c_hk F n) 8 (la3 F n s) = la3 F (n + 1) s := (if_pos h).symm
theorem la3_n {F : Int → Int} {n : Nat} {s : Int64} (h : ¬ isHk F n) : la3 F n s = la3 F (n + 1) s := (if_neg h).symm
/-- the number -/
def aL (F : Int → Int) : Int64 := la1 (fun k => c_nx F (k + 1)) 5 (la1 (fun k => c_ev F (k / 3) (k % 3)) 30 (la1 (fun k => c_gs F (k / 3) (k % 3)) 60 (la3 F 60 (la2 (c_rk F) 6 (F 1).toNat (la1 (c_ct F 0 0) 16 37)))))
theorem ct_15 (F : Int → Int) (sn ln : Int) {w : Int} (w0 : 0 ≤ w) (w1 : w < 16) : c_ct F sn ln w = c_ct F 0 0 w := by
  obtain ⟨a0, a1, a2, a3, a4, a5, a6, a7, a8, a9, a10, a11, a12, a13, a14, a15, -⟩ := c_ct_v F sn ln
  obtain ⟨b0, b1, b2, b3, b4, b5, b6, b7, b8, b9, b10, b11, b12, b13, b14, b15, -⟩ := c_ct_v F 0 0
  rcases (show w = 0 ∨ w = 1 ∨ w = 2 ∨ w = 3 ∨ w = 4 ∨ w = 5 ∨ w = 6 ∨ w = 7 ∨ w = 8 ∨ w = 9 ∨ w = 10 ∨ w = 11 ∨ w = 12 ∨ w = 13 ∨ w = 14 ∨ w = 15 by omega) with rfl | rfl | rfl | rfl | rfl | rfl | rfl | rfl | rfl | rfl | rfl | rfl | rfl | rfl | rfl | rfl
  · rw [a0, b0]
  · rw [a1, b1]
  · rw [a2, b2]
  · rw [a3, b3]
  · rw [a4, b4]
  · rw [a5, b5]
  · rw [a6, b6]
  · rw [a7, b7]
  · rw [a8, b8]
  · rw [a9, b9]
  · rw [a10, b10]
  · rw [a11, b11]
  · rw [a12, b12]
  · rw [a13, b13]
  · rw [a14, b14]
  · rw [a15, b15]
set_option maxRecDepth 100000 in
theorem lp_all_1 (hE : gOk E) (hB : gB E ≤ B) (hn : nv ≤ 80000000) {s : Int64} (k : ∀ h : gH, yPW B S h0 nv F sn G kp K h → Wp E m_Lw_all 31 [some (.ref B), some (.long (la1 (c_ct F 0 0) 16 s)), none, some (.int (zI ((16 : Nat) : Int))), none] [] h Q) : ∀ (d x : Nat) (h : gH), x + d = 16 → yPW B S h0 nv F sn G kp K h → Wp E m_Lw_all 6 [some (.ref B), some (.long (la1 (c_ct F 0 0) x s)), none, some (.int (zI x)), none] [] h Q := by
  intro d
  induction d with
  | zero =>
    intro x h hx hP
    refine wp_iload_n (pc := 6) d_Lw_all_6 rfl ?_
    refine zp_bipush (pc := 7) d_Lw_all_7 (by decide) ?_
    refine zp_icmp_ge (tgt := 31) (pc := 9) d_Lw_all_9 (by decide) ⟨by omega, by omega⟩ ⟨by omega, by omega⟩ (fun c9 => ?_) (fun c9 => (absurd c9 (by omega)))
    obtain rfl : x = 16 := by omega
    exact k h hP
  | succ d ih =>
    intro x h hx hP
    refine wp_iload_n (pc := 6) d_Lw_all_6 rfl ?_
    refine zp_bipush (pc := 7) d_Lw_all_7 (by decide) ?_
    refine zp_icmp_ge (tgt := 31) (pc := 9) d_Lw_all_9 (by decide) ⟨by omega, by omega⟩ ⟨by omega, by omega⟩ (fun c9 => (absurd c9 (by omega))) (fun c9 => ?_)
    refine wp_ldc2 (pc := 12) d_Lw_all_12 l2_Lw_10 ?_
    refine wp_lload_n (pc := 15) d_Lw_all_15 rfl ?_
    refine wp_lmul (pc := 16) d_Lw_all_16 ?_
    refine wp_aload_n (pc := 17) d_Lw_all_17 rfl ?_
    refine wp_iload_n (pc := 18) d_Lw_all_18 rfl ?_
    refine wv_callV (n := 1) (As := [_]) (pc := 19) d_Lw_all_19 s_Lw_12 q_Yt_count ⟨by decide, by decide⟩ hP.yt rfl rfl rfl rfl (Nat.le_of_ble_eq_true rfl) (Nat.le_of_ble_eq_true rfl) ?_
    refine yc_count hE hB (by omega) hP ⟨by omega, by omega⟩ (fun h ln hP => ?_)
    refine ⟨_, rfl, ?_⟩
    rw [ct_15 F sn ln (by omega) (by omega)]
    refine wp_i2l (pc := 22) d_Lw_all_22 ?_
    refine wp_ladd (pc := 23) d_Lw_all_23 ?_
    rw [la1_s]
    refine st_l1 (pc := 24) d_Lw_all_24 (by decide) ?_
    refine st_c3 (pc := 25) d_Lw_all_25 (by decide) ?_
    refine wp_goto (tgt := 6) (pc := 28) d_Lw_all_28 (by decide) ?_
    have zz := ih (x + 1) h (by omega) hP
    rw [show ((x + 1 : Nat) : Int) = (x : Int) + 1 from rfl] at zz
    exact zz
set_option maxRecDepth 100000 in
theorem lp_all_2i (hE : gOk E) (hB : gB E ≤ B) (hn : nv ≤ 80000000) (hP : yPW B S h0 nv F sn G kp K h) {r : Int} (r0 : 0 ≤ r) (r1 : r < 5) {s : Int64} (k : Wp E m_Lw_all 73 [some (.ref B), some (.long (la1 (c_rk F r) 6 s)), none, some (.int (zI r)), some (.int (zI ((6 : Nat) : Int)))] [] h Q) : ∀ d x : Nat, x + d = 6 → Wp E m_Lw_all 45 [some (.ref B), some (.long (la1 (c_rk F r) x s)), none, some (.int (zI r)), some (.int (zI x))] [] h Q := by
  intro d
  induction d with
  | zero =>
    intro x hx
    refine wp_iload (pc := 45) d_Lw_all_45 rfl ?_
    refine zp_bipush (pc := 47) d_Lw_all_47 (by decide) ?_
    refine zp_icmp_ge (tgt := 73) (pc := 49) d_Lw_all_49 (by decide) ⟨by omega, by omega⟩ ⟨by omega, by omega⟩ (fun c49 => ?_) (fun c49 => (absurd c49 (by omega)))
    obtain rfl : x = 6 := by omega
    exact k
  | succ d ih =>
    intro x hx
    refine wp_iload (pc := 45) d_Lw_all_45 rfl ?_
    refine zp_bipush (pc := 47) d_Lw_all_47 (by decide) ?_
    refine zp_icmp_ge (tgt := 73) (pc := 49) d_Lw_all_49 (by decide) ⟨by omega, by omega⟩ ⟨by omega, by omega⟩ (fun c49 => (absurd c49 (by omega))) (fun c49 => ?_)
    refine wp_ldc2 (pc := 52) d_Lw_all_52 l2_Lw_10 ?_
    refine wp_lload_n (pc := 55) d_Lw_all_55 rfl ?_
    refine wp_lmul (pc := 56) d_Lw_all_56 ?_
    refine wp_aload_n (pc := 57) d_Lw_all_57 rfl ?_
    refine wp_iload_n (pc := 58) d_Lw_all_58 rfl ?_
    refine wp_iload (pc := 59) d_Lw_all_59 rfl ?_
    refine wv_callV (n := 2) (As := [_, _]) (pc := 61) d_Lw_all_61 s_Lw_18 q_Yt_rack ⟨by decide, by decide⟩ hP.yt rfl rfl rfl rfl (Nat.le_of_ble_eq_true rfl) (Nat.le_of_ble_eq_true rfl) ?_
    refine yc_rack hE hB (by omega) hP ⟨by omega, by omega⟩ ⟨by omega, by omega⟩ (fun _ => ?_)
    refine ⟨_, rfl, ?_⟩
    refine wp_i2l (pc := 64) d_Lw_all_64 ?_
    refine wp_ladd (pc := 65) d_Lw_all_65 ?_
    rw [la1_s]
    refine st_l1 (pc := 66) d_Lw_all_66 (by decide) ?_
    refine st_c4 (pc := 67) d_Lw_all_67 (by decide) ?_
    refine wp_goto (tgt := 45) (pc := 70) d_Lw_all_70 (by decide) ?_
    have zz := ih (x + 1) (by omega)
    rw [show ((x + 1 : Nat) : Int) = (x : Int) + 1 from rfl] at zz
    exact zz
set_option maxRecDepth 100000 in
theorem lp_all_2 (hE : gOk E) (hB : gB E ≤ B) (hn : nv ≤ 80000000) {s : Int64} (k : ∀ (h : gH) (o : Option Value), yPW B S h0 nv F sn G kp K h → Wp E m_Lw_all 79 [some (.ref B), some (.long (la2 (c_rk F) 6 (F 1).toNat s)), none, some (.int (zI (((F 1).toNat : Nat) : Int))), o] [] h Q) : ∀ (d x : Nat) (h : gH) (o : Option Value), x + d = (F 1).toNat → yPW B S h0 nv F sn G kp K h → Wp E m_Lw_all 33 [some (.ref B), some (.long (la2 (c_rk F) 6 x s)), none, some (.int (zI x)), o] [] h Q := by
  intro d
  induction d with
  | zero =>
    intro x h o hx hP
    have hs := hP.jp.1.vd.1
    refine wp_iload_n (pc := 33) d_Lw_all_33 rfl ?_
    refine wp_aload_n (pc := 34) d_Lw_all_34 rfl ?_
    refine wp_iconst (pc := 35) d_Lw_all_35 ?_
    refine wv_callV (n := 1) (As := [_]) (pc := 36) d_Lw_all_36 s_Lw_12 q_Yt_count ⟨by decide, by decide⟩ hP.yt rfl rfl rfl rfl (Nat.le_of_ble_eq_true rfl) (Nat.le_of_ble_eq_true rfl) ?_
    refine yc_count hE hB (by omega) hP ⟨by omega, by omega⟩ (fun h ln hP => ?_)
    refine ⟨_, rfl, ?_⟩
    rw [(c_ct_v F sn ln).2.1]
    refine zp_icmp_ge (tgt := 79) (pc := 39) d_Lw_all_39 (by decide) ⟨by omega, by omega⟩ ⟨by omega, by omega⟩ (fun c39 => ?_) (fun c39 => (absurd c39 (by omega)))
    obtain rfl : x = (F 1).toNat := by omega
    exact k h o hP
  | succ d ih =>
    intro x h o hx hP
    have hs := hP.jp.1.vd.1
    refine wp_iload_n (pc := 33) d_Lw_all_33 rfl ?_
    refine wp_aload_n (pc := 34) d_Lw_all_34 rfl ?_
    refine wp_iconst (pc := 35) d_Lw_all_35 ?_
    refine wv_callV (n := 1) (As := [_]) (pc := 36) d_Lw_all_36 s_Lw_12 q_Yt_count ⟨by decide, by decide⟩ hP.yt rfl rfl rfl rfl (Nat.le_of_ble_eq_true rfl) (Nat.le_of_ble_eq_true rfl) ?_
    refine yc_count hE hB (by omega) hP ⟨by omega, by omega⟩ (fun h ln hP => ?_)
    refine ⟨_, rfl, ?_⟩
    rw [(c_ct_v F sn ln).2.1]
    refine zp_icmp_ge (tgt := 79) (pc := 39) d_Lw_all_39 (by decide) ⟨by omega, by omega⟩ ⟨by omega, by omega⟩ (fun c39 => (absurd c39 (by omega))) (fun c39 => ?_)
    refine wp_iconst (pc := 42) d_Lw_all_42 ?_
    refine st_i4 (pc := 43) d_Lw_all_43 (by decide) ?_
    refine lp_all_2i hE hB hn hP (r := (x : Int)) (by omega) (by omega) ?_ 6 0 rfl
    rw [la2_s]
    refine st_c3 (pc := 73) d_Lw_all_73 (by decide) ?_
    refine wp_goto (tgt := 33) (pc := 76) d_Lw_all_76 (by decide) ?_
    have zz := fun o2 => ih (x + 1) h o2 (by omega) hP
    rw [show ((x + 1 : Nat) : Int) = (x : Int) + 1 from rfl] at zz
    exact zz _
set_option maxRecDepth 100000 in
theorem lp_all_3i (hE : gOk E) (hB : gB E ≤ B) (hn : nv ≤ 80000000) (hP : yPW B S h0 nv F sn G kp K h) {y : Int} (hy : isHk F y) {s : Int64} (k : Wp E m_Lw_all 127 [some (.ref B), some (.long (la1 (c_hk F y) 8 s)), none, some (.int (zI y)), some (.int (zI ((8 : Nat) : Int)))] [] h Q) : ∀ d x : Nat, x + d = 8 → Wp E m_Lw_all 90 [some (.ref B), some (.long (la1 (c_hk F y) x s)), none, some (.int (zI y)), some (.int (zI x))] [] h Q := by
  have hk := hP.jp.1.vd.2.2.2.1 y (by omega) (by omega)
  intro d
  induction d with
  | zero =>
    intro x hx
    refine wp_iload (pc := 90) d_Lw_all_90 rfl ?_
    refine zp_bipush (pc := 92) d_Lw_all_92 (by decide) ?_
    refine zp_icmp_ge (tgt := 127) (pc := 94) d_Lw_all_94 (by decide) ⟨by omega, by omega⟩ ⟨by omega, by omega⟩ (fun c94 => ?_) (fun c94 => (absurd c94 (by omega)))
    obtain rfl : x = 8 := by omega
    exact k
  | succ d ih =>
    intro x hx
    refine wp_iload (pc := 90) d_Lw_all_90 rfl ?_
    refine zp_bipush (pc := 92) d_Lw_all_92 (by decide) ?_
    refine zp_icmp_ge (tgt := 127) (pc := 94) d_Lw_all_94 (by decide) ⟨by omega, by omega⟩ ⟨by omega, by omega⟩ (fun c94 => (absurd c94 (by omega))) (fun c94 => ?_)
    refine wp_aload_n (pc := 97) d_Lw_all_97 rfl ?_
    refine wp_iload_n (pc := 98) d_Lw_all_98 rfl ?_
    refine wp_iconst (pc := 99) d_Lw_all_99 ?_
    refine wv_callV (n := 2) (As := [_, _]) (pc := 100) d_Lw_all_100 s_Lw_22 q_Yt_hook ⟨by decide, by decide⟩ hP.yt rfl rfl rfl rfl (Nat.le_of_ble_eq_true rfl) (Nat.le_of_ble_eq_true rfl) ?_
    refine yc_hook hE hB (by omega) hP ⟨by omega, by omega⟩ ⟨by omega, by omega⟩ (fun _ => ?_)
    refine ⟨_, rfl, ?_⟩
    rw [(c_hk_v hy).1]
    refine zp_if_lt (tgt := 127) (pc := 103) d_Lw_all_103 (by decide) ⟨by omega, by omega⟩ (fun c103 => (absurd c103 (by omega))) (fun c103 => ?_)
    refine wp_ldc2 (pc := 106) d_Lw_all_106 l2_Lw_10 ?_
    refine wp_lload_n (pc := 109) d_Lw_all_109 rfl ?_
    refine wp_lmul (pc := 110) d_Lw_all_110 ?_
    refine wp_aload_n (pc := 111) d_Lw_all_111 rfl ?_
    refine wp_iload_n (pc := 112) d_Lw_all_112 rfl ?_
    refine wp_iload (pc := 113) d_Lw_all_113 rfl ?_
    refine wv_callV (n := 2) (As := [_, _]) (pc := 115) d_Lw_all_115 s_Lw_22 q_Yt_hook ⟨by decide, by decide⟩ hP.yt rfl rfl rfl rfl (Nat.le_of_ble_eq_true rfl) (Nat.le_of_ble_eq_true rfl) ?_
    refine yc_hook hE hB (by omega) hP ⟨by omega, by omega⟩ ⟨by omega, by omega⟩ (fun _ => ?_)
    refine ⟨_, rfl, ?_⟩
    refine wp_i2l (pc := 118) d_Lw_all_118 ?_
    refine wp_ladd (pc := 119) d_Lw_all_119 ?_
    rw [la1_s]
    refine st_l1 (pc := 120) d_Lw_all_120 (by decide) ?_
    refine st_c4 (pc := 121) d_Lw_all_121 (by decide) ?_
    refine wp_goto (tgt := 90) (pc := 124) d_Lw_all_124 (by decide) ?_
    have zz := ih (x + 1) (by omega)
    rw [show ((x + 1 : Nat) : Int) = (x : Int) + 1 from rfl] at zz
    exact zz
set_option maxRecDepth 100000 in
theorem lp_all_3 (hE : gOk E) (hB : gB E ≤ B) (hn : nv ≤ 80000000) (hP : yPW B S h0 nv F sn G kp K h) {s : Int64} (k : ∀ o : Option Value, Wp E m_Lw_all 133 [some (.ref B), some (.long (la3 F 60 s)), none, some (.int (zI ((60 : Nat) : Int))), o] [] h Q) : ∀ (d x : Nat) (o : Option Value), x + d = 60 → Wp E m_Lw_all 81 [some (.ref B), some (.long (la3 F x s)), none, some (.int (zI x)), o] [] h Q := by
  intro d
  induction d with
  | zero =>
    intro x o hx
    refine wp_iload_n (pc := 81) d_Lw_all_81 rfl ?_
    refine zp_bipush (pc := 82) d_Lw_all_82 (by decide) ?_
    refine zp_icmp_ge (tgt := 133) (pc := 84) d_Lw_all_84 (by decide) ⟨by omega, by omega⟩ ⟨by omega, by omega⟩ (fun c84 => ?_) (fun c84 => (absurd c84 (by omega)))
    obtain rfl : x = 60 := by omega
    exact k o
  | succ d ih =>
    intro x o hx
    refine wp_iload_n (pc := 81) d_Lw_all_81 rfl ?_
    refine zp_bipush (pc := 82) d_Lw_all_82 (by decide) ?_
    refine zp_icmp_ge (tgt := 133) (pc := 84) d_Lw_all_84 (by decide) ⟨by omega, by omega⟩ ⟨by omega, by omega⟩ (fun c84 => (absurd c84 (by omega))) (fun c84 => ?_)
    refine wp_iconst (pc := 87) d_Lw_all_87 ?_
    refine st_i4 (pc := 88) d_Lw_all_88 (by decide) ?_
    by_cases hy : isHk F x
    · refine lp_all_3i hE hB hn hP hy ?_ 8 0 rfl
      rw [la3_y hy]
      refine st_c3 (pc := 127) d_Lw_all_127 (by decide) ?_
      refine wp_goto (tgt := 81) (pc := 130) d_Lw_all_130 (by decide) ?_
      have zz := fun o2 => ih (x + 1) o2 (by omega)
      rw [show ((x + 1 : Nat) : Int) = (x : Int) + 1 from rfl] at zz
      exact zz _
    · rw [la3_n hy]
      show Wp E m_Lw_all 90 [some (.ref B), some (.long (la3 F (x + 1) s)), none, some (.int (zI x)), some (.int (zI 0))] [] h Q
      refine wp_iload (pc := 90) d_Lw_all_90 rfl ?_
      refine zp_bipush (pc := 92) d_Lw_all_92 (by decide) ?_
      refine zp_icmp_ge (tgt := 127) (pc := 94) d_Lw_all_94 (by decide) ⟨by omega, by omega⟩ ⟨by omega, by omega⟩ (fun c94 => (absurd c94 (by omega))) (fun c94 => ?_)
      refine wp_aload_n (pc := 97) d_Lw_all_97 rfl ?_
      refine wp_iload_n (pc := 98) d_Lw_all_98 rfl ?_
      refine wp_iconst (pc := 99) d_Lw_all_99 ?_
      refine wv_callV (n := 2) (As := [_, _]) (pc := 100) d_Lw_all_100 s_Lw_22 q_Yt_hook ⟨by decide, by decide⟩ hP.yt rfl rfl rfl rfl (Nat.le_of_ble_eq_true rfl) (Nat.le_of_ble_eq_true rfl) ?_
      refine yc_hook hE hB (by omega) hP ⟨by omega, by omega⟩ ⟨by omega, by omega⟩ (fun _ => ?_)
      refine ⟨_, rfl, ?_⟩
      rw [c_hk_n hy]
      refine zp_if_lt (tgt := 127) (pc := 103) d_Lw_all_103 (by decide) ⟨by omega, by omega⟩ (fun c103 => ?_) (fun c103 => (absurd c103 (by omega)))
      refine st_c3 (pc := 127) d_Lw_all_127 (by decide) ?_
      refine wp_goto (tgt := 81) (pc := 130) d_Lw_all_130 (by decide) ?_
      have zz := fun o2 => ih (x + 1) o2 (by omega)
      rw [show ((x + 1 : Nat) : Int) = (x : Int) + 1 from rfl] at zz
      exact zz _
set_option maxRecDepth 100000 in
theorem lp_all_4 (hE : gOk E) (hB : gB E ≤ B) (hn : nv ≤ 80000000) (hP : yPW B S h0 nv F sn G kp K h) {s : Int64} {o : Option Value} (k : Wp E m_Lw_all 165 [some (.ref B), some (.long (la1 (fun k => c_gs F (k / 3) (k % 3)) 60 s)), none, some (.int (zI ((60 : Nat) : Int))), o] [] h Q) : ∀ d x : Nat, x + d = 60 → Wp E m_Lw_all 135 [some (.ref B), some (.long (la1 (fun k => c_gs F (k / 3) (k % 3)) x s)), none, some (.int (zI x)), o] [] h Q := by
  intro d
  induction d with
  | zero =>
    intro x hx
    refine wp_iload_n (pc := 135) d_Lw_all_135 rfl ?_
    refine zp_bipush (pc := 136) d_Lw_all_136 (by decide) ?_
    refine zp_icmp_ge (tgt := 165) (pc := 138) d_Lw_all_138 (by decide) ⟨by omega, by omega⟩ ⟨by omega, by omega⟩ (fun c138 => ?_) (fun c138 => (absurd c138 (by omega)))
    obtain rfl : x = 60 := by omega
    exact k
  | succ d ih =>
    intro x hx
    refine wp_iload_n (pc := 135) d_Lw_all_135 rfl ?_
    refine zp_bipush (pc := 136) d_Lw_all_136 (by decide) ?_
    refine zp_icmp_ge (tgt := 165) (pc := 138) d_Lw_all_138 (by decide) ⟨by omega, by omega⟩ ⟨by omega, by omega⟩ (fun c138 => (absurd c138 (by omega))) (fun c138 => ?_)
    refine wp_ldc2 (pc := 141) d_Lw_all_141 l2_Lw_10 ?_
    refine wp_lload_n (pc := 144) d_Lw_all_144 rfl ?_
    refine wp_lmul (pc := 145) d_Lw_all_145 ?_
    refine wp_aload_n (pc := 146) d_Lw_all_146 rfl ?_
    refine wp_iload_n (pc := 147) d_Lw_all_147 rfl ?_
    refine wp_iconst (pc := 148) d_Lw_all_148 ?_
    refine zp_idiv (pc := 149) d_Lw_all_149 (by omega) (by omega) (by omega) (by omega) ?_
    refine wp_iload_n (pc := 150) d_Lw_all_150 rfl ?_
    refine wp_iconst (pc := 151) d_Lw_all_151 ?_
    refine zp_irem (pc := 152) d_Lw_all_152 (by omega) (by omega) (by omega) (by omega) ?_
    refine wv_callV (n := 2) (As := [_, _]) (pc := 153) d_Lw_all_153 s_Lw_25 q_Yt_guest ⟨by decide, by decide⟩ hP.yt rfl rfl rfl rfl (Nat.le_of_ble_eq_true rfl) (Nat.le_of_ble_eq_true rfl) ?_
    refine yc_guest hE hB (by omega) hP ⟨by omega, by omega⟩ ⟨by omega, by omega⟩ (fun _ => ?_)
    refine ⟨_, rfl, ?_⟩
    refine wp_i2l (pc := 156) d_Lw_all_156 ?_
    refine wp_ladd (pc := 157) d_Lw_all_157 ?_
    rw [la1_s (fun k => c_gs F (k / 3) (k % 3))]
    refine st_l1 (pc := 158) d_Lw_all_158 (by decide) ?_
    refine st_c3 (pc := 159) d_Lw_all_159 (by decide) ?_
    refine wp_goto (tgt := 135) (pc := 162) d_Lw_all_162 (by decide) ?_
    have zz := ih (x + 1) (by omega)
    rw [show ((x + 1 : Nat) : Int) = (x : Int) + 1 from rfl] at zz
    exact zz
set_option maxRecDepth 100000 in
theorem lp_all_5 (hE : gOk E) (hB : gB E ≤ B) (hn : nv ≤ 80000000) (hP : yPW B S h0 nv F sn G kp K h) {s : Int64} {o : Option Value} (k : Wp E m_Lw_all 197 [some (.ref B), some (.long (la1 (fun k => c_ev F (k / 3) (k % 3)) 30 s)), none, some (.int (zI ((30 : Nat) : Int))), o] [] h Q) : ∀ d x : Nat, x + d = 30 → Wp E m_Lw_all 167 [some (.ref B), some (.long (la1 (fun k => c_ev F (k / 3) (k % 3)) x s)), none, some (.int (zI x)), o] [] h Q := by
  intro d
  induction d with
  | zero =>
    intro x hx
    refine wp_iload_n (pc := 167) d_Lw_all_167 rfl ?_
    refine zp_bipush (pc := 168) d_Lw_all_168 (by decide) ?_
    refine zp_icmp_ge (tgt := 197) (pc := 170) d_Lw_all_170 (by decide) ⟨by omega, by omega⟩ ⟨by omega, by omega⟩ (fun c170 => ?_) (fun c170 => (absurd c170 (by omega)))
    obtain rfl : x = 30 := by omega
    exact k
  | succ d ih =>
    intro x hx
    refine wp_iload_n (pc := 167) d_Lw_all_167 rfl ?_
    refine zp_bipush (pc := 168) d_Lw_all_168 (by decide) ?_
    refine zp_icmp_ge (tgt := 197) (pc := 170) d_Lw_all_170 (by decide) ⟨by omega, by omega⟩ ⟨by omega, by omega⟩ (fun c170 => (absurd c170 (by omega))) (fun c170 => ?_)
    refine wp_ldc2 (pc := 173) d_Lw_all_173 l2_Lw_10 ?_
    refine wp_lload_n (pc := 176) d_Lw_all_176 rfl ?_
    refine wp_lmul (pc := 177) d_Lw_all_177 ?_
    refine wp_aload_n (pc := 178) d_Lw_all_178 rfl ?_
    refine wp_iload_n (pc := 179) d_Lw_all_179 rfl ?_
    refine wp_iconst (pc := 180) d_Lw_all_180 ?_
    refine zp_idiv (pc := 181) d_Lw_all_181 (by omega) (by omega) (by omega) (by omega) ?_
    refine wp_iload_n (pc := 182) d_Lw_all_182 rfl ?_
    refine wp_iconst (pc := 183) d_Lw_all_183 ?_
    refine zp_irem (pc := 184) d_Lw_all_184 (by omega) (by omega) (by omega) (by omega) ?_
    refine wv_callV (n := 2) (As := [_, _]) (pc := 185) d_Lw_all_185 s_Lw_28 q_Yt_event ⟨by decide, by decide⟩ hP.yt rfl rfl rfl rfl (Nat.le_of_ble_eq_true rfl) (Nat.le_of_ble_eq_true rfl) ?_
    refine yc_event hE hB (by omega) hP ⟨by omega, by omega⟩ ⟨by omega, by omega⟩ (fun _ => ?_)
    refine ⟨_, rfl, ?_⟩
    refine wp_i2l (pc := 188) d_Lw_all_188 ?_
    refine wp_ladd (pc := 189) d_Lw_all_189 ?_
    rw [la1_s (fun k => c_ev F (k / 3) (k % 3))]
    refine st_l1 (pc := 190) d_Lw_all_190 (by decide) ?_
    refine st_c3 (pc := 191) d_Lw_all_191 (by decide) ?_
    refine wp_goto (tgt := 167) (pc := 194) d_Lw_all_194 (by decide) ?_
    have zz := ih (x + 1) (by omega)
    rw [show ((x + 1 : Nat) : Int) = (x : Int) + 1 from rfl] at zz
    exact zz
set_option maxRecDepth 100000 in
theorem lp_all_6 (hE : gOk E) (hB : gB E ≤ B) (hn : nv ≤ 80000000) (hP : yPW B S h0 nv F sn G kp K h) {s : Int64} {o : Option Value} (k : Wp E m_Lw_all 224 [some (.ref B), some (.long (la1 (fun k => c_nx F (k + 1)) 5 s)), none, some (.int (zI (((5 : Nat) : Int) + 1))), o] [] h Q) : ∀ d x : Nat, x + d = 5 → Wp E m_Lw_all 199 [some (.ref B), some (.long (la1 (fun k => c_nx F (k + 1)) x s)), none, some (.int (zI ((x : Int) + 1))), o] [] h Q := by
  intro d
  induction d with
  | zero =>
    intro x hx
    refine wp_iload_n (pc := 199) d_Lw_all_199 rfl ?_
    refine zp_bipush (pc := 200) d_Lw_all_200 (by decide) ?_
    refine zp_icmp_ge (tgt := 224) (pc := 202) d_Lw_all_202 (by decide) ⟨by omega, by omega⟩ ⟨by omega, by omega⟩ (fun c202 => ?_) (fun c202 => (absurd c202 (by omega)))
    obtain rfl : x = 5 := by omega
    exact k
  | succ d ih =>
    intro x hx
    refine wp_iload_n (pc := 199) d_Lw_all_199 rfl ?_
    refine zp_bipush (pc := 200) d_Lw_all_200 (by decide) ?_
    refine zp_icmp_ge (tgt := 224) (pc := 202) d_Lw_all_202 (by decide) ⟨by omega, by omega⟩ ⟨by omega, by omega⟩ (fun c202 => (absurd c202 (by omega))) (fun c202 => ?_)
    refine wp_ldc2 (pc := 205) d_Lw_all_205 l2_Lw_10 ?_
    refine wp_lload_n (pc := 208) d_Lw_all_208 rfl ?_
    refine wp_lmul (pc := 209) d_Lw_all_209 ?_
    refine wp_aload_n (pc := 210) d_Lw_all_210 rfl ?_
    refine wp_iload_n (pc := 211) d_Lw_all_211 rfl ?_
    refine wv_callV (n := 1) (As := [_]) (pc := 212) d_Lw_all_212 s_Lw_31 q_Yt_next ⟨by decide, by decide⟩ hP.yt rfl rfl rfl rfl (Nat.le_of_ble_eq_true rfl) (Nat.le_of_ble_eq_true rfl) ?_
    refine yc_next hE hB (by omega) hP ⟨by omega, by omega⟩ (fun _ => ?_)
    refine ⟨_, rfl, ?_⟩
    refine wp_i2l (pc := 215) d_Lw_all_215 ?_
    refine wp_ladd (pc := 216) d_Lw_all_216 ?_
    rw [la1_s (fun k => c_nx F (k + 1))]
    refine st_l1 (pc := 217) d_Lw_all_217 (by decide) ?_
    refine st_c3 (pc := 218) d_Lw_all_218 (by decide) ?_
    refine wp_goto (tgt := 199) (pc := 221) d_Lw_all_221 (by decide) ?_
    have zz := ih (x + 1) (by omega)
    rw [show ((x + 1 : Nat) : Int) = (x : Int) + 1 from rfl] at zz
    exact zz
theorem lz_all_1 (hE : gOk E) (hB : gB E ≤ B) (hn : nv ≤ 80000000) (hP : yPW B S h0 nv F sn G kp K h) {s : Int64} (k : ∀ h : gH, yPW B S h0 nv F sn G kp K h → Wp E m_Lw_all 31 [some (.ref B), some (.long (la1 (c_ct F 0 0) 16 s)), none, some (.int (zI ((16 : Nat) : Int))), none] [] h Q) : Wp E m_Lw_all 6 [some (.ref B), some (.long (s)), none, some (.int (zI 0)), none] [] h Q := lp_all_1 hE hB hn k 16 0 h rfl hP
theorem lz_all_2 (hE : gOk E) (hB : gB E ≤ B) (hn : nv ≤ 80000000) (hP : yPW B S h0 nv F sn G kp K h) {s : Int64} {o : Option Value} (k : ∀ (h : gH) (o : Option Value), yPW B S h0 nv F sn G kp K h → Wp E m_Lw_all 79 [some (.ref B), some (.long (la2 (c_rk F) 6 (F 1).toNat s)), none, some (.int (zI (((F 1).toNat : Nat) : Int))), o] [] h Q) : Wp E m_Lw_all 33 [some (.ref B), some (.long (s)), none, some (.int (zI 0)), o] [] h Q := lp_all_2 hE hB hn k (F 1).toNat 0 h o (Nat.zero_add _) hP
theorem lz_all_3 (hE : gOk E) (hB : gB E ≤ B) (hn : nv ≤ 80000000) (hP : yPW B S h0 nv F sn G kp K h) {s : Int64} {o : Option Value} (k : ∀ o : Option Value, Wp E m_Lw_all 133 [some (.ref B), some (.long (la3 F 60 s)), none, some (.int (zI ((60 : Nat) : Int))), o] [] h Q) : Wp E m_Lw_all 81 [some (.ref B), some (.long (s)), none, some (.int (zI 0)), o] [] h Q := lp_all_3 hE hB hn hP k 60 0 o rfl
theorem lz_all_4 (hE : gOk E) (hB : gB E ≤ B) (hn : nv ≤ 80000000) (hP : yPW B S h0 nv F sn G kp K h) {s : Int64} {o : Option Value} (k : Wp E m_Lw_all 165 [some (.ref B), some (.long (la1 (fun k => c_gs F (k / 3) (k % 3)) 60 s)), none, some (.int (zI ((60 : Nat) : Int))), o] [] h Q) : Wp E m_Lw_all 135 [some (.ref B), some (.long (s)), none, some (.int (zI 0)), o] [] h Q := lp_all_4 hE hB hn hP k 60 0 rfl
theorem lz_all_5 (hE : gOk E) (hB : gB E ≤ B) (hn : nv ≤ 80000000) (hP : yPW B S h0 nv F sn G kp K h) {s : Int64} {o : Option Value} (k : Wp E m_Lw_all 197 [some (.ref B), some (.long (la1 (fun k => c_ev F (k / 3) (k % 3)) 30 s)), none, some (.int (zI ((30 : Nat) : Int))), o] [] h Q) : Wp E m_Lw_all 167 [some (.ref B), some (.long (s)), none, some (.int (zI 0)), o] [] h Q := lp_all_5 hE hB hn hP k 30 0 rfl
theorem lz_all_6 (hE : gOk E) (hB : gB E ≤ B) (hn : nv ≤ 80000000) (hP : yPW B S h0 nv F sn G kp K h) {s : Int64} {o : Option Value} (k : Wp E m_Lw_all 224 [some (.ref B), some (.long (la1 (fun k => c_nx F (k + 1)) 5 s)), none, some (.int (zI (((5 : Nat) : Int) + 1))), o] [] h Q) : Wp E m_Lw_all 199 [some (.ref B), some (.long (s)), none, some (.int (zI 1)), o] [] h Q := lp_all_6 hE hB hn hP k 5 0 rfl
set_option maxRecDepth 100000 in
theorem sp_Lw_all (hE : gOk E) (hB : gB E ≤ B) (hn : nv ≤ 80000000) (hP : yPW B S h0 nv F sn G kp K h) (k : ∀ h : gH, yPW B S h0 nv F sn G kp K h → Q (some (.long (aL F))) h) : Wp E m_Lw_all 0 (gEnt m_Lw_all [.ref B]) [] h Q := by
  show Wp E m_Lw_all 0 [some (.ref B), none, none, none, none] [] h Q
  unfold aL at k
  refine wp_ldc2 (pc := 0) d_Lw_all_0 l2_Lw_8 ?_
  refine st_l1 (pc := 3) d_Lw_all_3 (by decide) ?_
  refine wp_iconst (pc := 4) d_Lw_all_4 ?_
  refine st_i3 (pc := 5) d_Lw_all_5 (by decide) ?_
  refine lz_all_1 hE hB hn hP (fun h hP => ?_)
  generalize hs1 : la1 (c_ct F 0 0) 16 37 = s1 at k ⊢
  refine wp_iconst (pc := 31) d_Lw_all_31 ?_
  refine st_i3 (pc := 32) d_Lw_all_32 (by decide) ?_
  refine lz_all_2 hE hB hn hP (fun h o hP => ?_)
  generalize hs2 : la2 (c_rk F) 6 (F 1).toNat s1 = s2 at k ⊢
  refine wp_iconst (pc := 79) d_Lw_all_79 ?_
  refine st_i3 (pc := 80) d_Lw_all_80 (by decide) ?_
  refine lz_all_3 hE hB hn hP (fun o => ?_)
  generalize hs3 : la3 F 60 s2 = s3 at k ⊢
  refine wp_iconst (pc := 133) d_Lw_all_133 ?_
  refine st_i3 (pc := 134) d_Lw_all_134 (by decide) ?_
  refine lz_all_4 hE hB hn hP ?_
  generalize hs4 : la1 (fun k => c_gs F (k / 3) (k % 3)) 60 s3 = s4 at k ⊢
  refine wp_iconst (pc := 165) d_Lw_all_165 ?_
  refine st_i3 (pc := 166) d_Lw_all_166 (by decide) ?_
  refine lz_all_5 hE hB hn hP ?_
  generalize hs5 : la1 (fun k => c_ev F (k / 3) (k % 3)) 30 s4 = s5 at k ⊢
  refine wp_iconst (pc := 197) d_Lw_all_197 ?_
  refine st_i3 (pc := 198) d_Lw_all_198 (by decide) ?_
  refine lz_all_6 hE hB hn hP ?_
  generalize hs6 : la1 (fun k => c_nx F (k + 1)) 5 s5 = s6 at k ⊢
  refine wp_lload_n (pc := 224) d_Lw_all_224 rfl ?_
  refine wp_lreturn (pc := 225) d_Lw_all_225 rfl ?_
  exact k h hP
end S74
